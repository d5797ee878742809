/-! two worlds that are one heap: what rows hold behind their ends doesn't count -/
section CG
/-- cells that are one -/
def hEq : hE → hE → Prop
  | .inl (t, n, .inl f), .inl (t2, n2, .inl f2) => t = t2 ∧ n = n2 ∧ ∀ j, j < n → f j = f2 j
  | .inl (t, n, .inr (.inr (.inr (.inr f)))), .inl (t2, n2, .inr (.inr (.inr (.inr f2)))) => t = t2 ∧ n = n2 ∧ ∀ j, j < n → f j = f2 j
  | a, b => a = b
def hCg (N : Nat) (w w2 : hWd) : Prop := (∀ i, N ≤ i → w2 i = w i) ∧ ∀ i, i < N → hEq (w i) (w2 i)
theorem arrV_cg (c : ClassId) (n : Nat) {f g : Nat → Value} (h : ∀ j, j < n → f j = g j) : arrV c n f = arrV c n g := by
  unfold arrV
  congr 2
  funext j
  exact h j.val j.isLt
theorem hEq.at {D : va_G} {G : Nat → ClassId} {ad : Nat → Nat} {q : Nat} {e e2 : hE} {H : Heap} (h : hEq e e2) (ha : va_at D vwCl (q, hEv G ad e) H) : va_at D vwCl (q, hEv G ad e2) H := by
  unfold hEq at h
  split at h
  · obtain ⟨rfl, rfl, h3⟩ := h
    have ha : H[q]? = some (arrV _ _ (fun j => .int (_ : Int32))) := ha
    show H[q]? = some (arrV _ _ (fun j => .int (_ : Int32)))
    rw [ha]
    exact congrArg some (arrV_cg _ _ (fun j hj => congrArg Value.int (h3 j hj)))
  · obtain ⟨rfl, rfl, h3⟩ := h
    have ha : H[q]? = some (arrV _ _ (fun j => va_rf (Option.map ad (_ : Option Nat)))) := ha
    show H[q]? = some (arrV _ _ (fun j => va_rf (Option.map ad (_ : Option Nat))))
    rw [ha]
    exact congrArg some (arrV_cg _ _ (fun j hj => congrArg (fun o => va_rf (Option.map ad o)) (h3 j hj)))
  · rw [← h]; exact ha
theorem hEq.mu {e e2 : hE} (h : hEq e e2) (hm : hmu e) : hmu e2 := by
  unfold hEq at h
  split at h
  · obtain ⟨rfl, rfl, -⟩ := h
    exact hm
  · obtain ⟨rfl, rfl, -⟩ := h
    exact hm
  · rw [← h]; exact hm
theorem hW.cg {D : va_G} {G : Nat → ClassId} {ad : Nat → Nat} {base : Nat} {ρ : Nat → hE} {N : Nat} {w w2 : hWd} {H : Heap} (hN : N ≤ 1000000) (h : hW D G ad base ρ N w H) (hc : hCg N w w2) : hW D G ad base ρ N w2 H :=
  ⟨fun j q hq => by
    obtain ⟨hj, rfl⟩ := hws_in hq
    exact (hc.2 j hj).at (h.1 j _ (hws_get hj)), h.2.1, fun i a b => by rw [hc.1 i a]; exact h.2.2.1 i a b, fun i a => by rw [hc.1 i (by omega)]; exact h.2.2.2.1 i a, fun i a => (hc.2 i a).mu (h.2.2.2.2 i a)⟩
theorem Γ.cg {g : hG} {d : Nat} {y : MethodName} {av : List Value} {N c s : Nat} {w : hWd} {Q : hRt} (h : Γ g d y av N c s w (fun r N c s w => ∃ w2, hCg N w w2 ∧ Q r N c s w2)) : Γ g d y av N c s w Q := by
  obtain ⟨mc, ms, k1, k2, bytes, maxL, ret, hmax, hcode, hM⟩ := h
  refine ⟨mc, ms, k1, k2, bytes, maxL, ret, hmax, hcode, fun hB => ?_⟩
  have hM := hM hB
  intro p e ha hc hk s0 m args below hf happ hP ht
  obtain ⟨k, o, h1, h2, h3, hQ⟩ := hM p e ha hc hk s0 m args below hf happ hP ht
  obtain ⟨⟨⟨r, N', w', q1, q2, ⟨w2, q3, q4⟩, q5⟩, q6⟩, q7⟩ := hQ
  exact ⟨k, o, h1, h2, h3, ⟨⟨r, N', w2, q1, q2, q4, q5.cg (Nat.le_trans q2 hB) q3⟩, q6⟩, q7⟩
end CG
