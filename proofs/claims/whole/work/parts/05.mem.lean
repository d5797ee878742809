/-! soundness of the rows that read and write cells -/
theorem hrI_d {x : hE} {k : Nat → (Nat → Int32) → Prop} (h : hrI x k) : ∃ n f, (x = .inl (0, n, .inl f) ∨ x = .inl (10, n, .inl f)) ∧ k n f := by
  unfold hrI at h; split at h
  · exact ⟨_, _, Or.inl rfl, h⟩
  · exact ⟨_, _, Or.inr rfl, h⟩
  · exact h.elim
theorem hrB_d {x : hE} {k : Nat → (Nat → Int32) → Prop} (h : hrB x k) : ∃ n f, (x = .inl (2, n, .inl f) ∨ x = .inl (3, n, .inl f) ∨ x = .inl (12, n, .inl f)) ∧ k n f := by
  unfold hrB at h; split at h
  · exact ⟨_, _, Or.inl rfl, h⟩
  · exact ⟨_, _, Or.inr (Or.inl rfl), h⟩
  · exact ⟨_, _, Or.inr (Or.inr rfl), h⟩
  · exact h.elim
theorem hrL_d {x : hE} {k : Nat → (Nat → Int64) → Prop} (h : hrL x k) : ∃ n f, x = .inl (1, n, .inr (.inl f)) ∧ k n f := by
  unfold hrL at h; split at h
  · exact ⟨_, _, rfl, h⟩
  · exact h.elim
theorem hrA_d {x : hE} {k : Nat → (Nat → Option Nat) → Prop} (h : hrA x k) : ∃ t n f, (t = 4 ∨ t = 5 ∨ t = 6) ∧ x = .inl (t, n, .inr (.inr (.inr (.inr f)))) ∧ k n f := by
  unfold hrA at h; split at h
  · exact ⟨_, _, _, Or.inl rfl, rfl, h⟩
  · exact ⟨_, _, _, Or.inr (Or.inl rfl), rfl, h⟩
  · exact ⟨_, _, _, Or.inr (Or.inr rfl), rfl, h⟩
  · exact h.elim
theorem hwI_d {x : hE} {k : Nat → (Nat → Int32) → Prop} (h : hwI x k) : ∃ n f, x = .inl (0, n, .inl f) ∧ k n f := by
  unfold hwI at h; split at h
  · exact ⟨_, _, rfl, h⟩
  · exact h.elim
theorem hwA_d {x : hE} {k : Nat → (Nat → Option Nat) → Prop} (h : hwA x k) : ∃ n f, x = .inl (4, n, .inr (.inr (.inr (.inr f)))) ∧ k n f := by
  unfold hwA at h; split at h
  · exact ⟨_, _, rfl, h⟩
  · exact h.elim
theorem hwB_d {x : hE} {k : Nat → Nat → FieldType → (Nat → Int32) → Prop} (h : hwB x k) : ∃ n f, (x = .inl (2, n, .inl f) ∧ k 2 n .byte f) ∨ (x = .inl (3, n, .inl f) ∧ k 3 n .boolean f) := by
  unfold hwB at h; split at h
  · exact ⟨_, _, Or.inl ⟨rfl, h⟩⟩
  · exact ⟨_, _, Or.inr ⟨rfl, h⟩⟩
  · exact h.elim
theorem hrN_d {x : hE} {k : Nat → Prop} (h : hrN x k) : ∃ t n f, (x = .inl (t, n, f) ∧ t < 5 ∨ (∃ g, x = .inl (t, n, f) ∧ f = .inl g ∧ (t = 10 ∨ t = 12))) ∧ k n := by
  unfold hrN at h; split at h
  · exact ⟨_, _, _, Or.inl ⟨rfl, by decide⟩, h⟩
  · exact ⟨_, _, _, Or.inl ⟨rfl, by decide⟩, h⟩
  · exact ⟨_, _, _, Or.inl ⟨rfl, by decide⟩, h⟩
  · exact ⟨_, _, _, Or.inl ⟨rfl, by decide⟩, h⟩
  · exact ⟨_, _, _, Or.inl ⟨rfl, by decide⟩, h⟩
  · exact ⟨_, _, _, Or.inr ⟨_, rfl, rfl, Or.inl rfl⟩, h⟩
  · exact ⟨_, _, _, Or.inr ⟨_, rfl, rfl, Or.inr rfl⟩, h⟩
  · exact h.elim
theorem hwF_d {ci : Nat} {x : hE} {k : List Value → Prop} (h : hwF ci x k) : ∃ fs, x = .inr (ci, fs) ∧ k fs := by
  unfold hwF at h; split at h
  · obtain ⟨rfl, h⟩ := h
    exact ⟨_, rfl, h⟩
  · exact h.elim
theorem hrF_d {ci j : Nat} {x : hE} {k : Value → Prop} (h : hrF ci j x k) : ∃ c fs v, x = .inr (c, fs) ∧ (c = ci ∨ (c = 10 ∧ ci = 0 ∧ j < 2)) ∧ fs[j]? = some v ∧ k v := by
  have hf : ∀ (fs : List Value) (j : Nat), hfk fs j k → ∃ v, fs[j]? = some v ∧ k v := by
    intro fs
    induction fs with
    | nil => intro j h; cases j <;> exact h.elim
    | cons a l ih =>
      intro j h
      cases j with
      | zero => exact ⟨a, rfl, h⟩
      | succ j => exact ih j h
  unfold hrF at h; split at h
  · obtain ⟨v, h1, h2⟩ := hf _ _ h.2
    exact ⟨_, _, v, rfl, h.1, h1, h2⟩
  · exact h.elim
theorem hcl_d {ci : Nat} {x : hE} {P : Prop} (h : hcl ci x P) : ∃ c fs, x = .inr (c, fs) ∧ (c = ci ∨ (c = 10 ∧ ci = 0)) ∧ P := by
  unfold hcl at h; split at h
  · exact ⟨_, _, rfl, h.1, h.2⟩
  · exact h.elim
theorem hfs_eq : ∀ (fs : List Value) (j : Nat) (v : Value), hfs fs j v = fs.set j v
  | [], j, v => by cases j <;> rfl
  | a :: l, 0, v => rfl
  | a :: l, j + 1, v => by
    show a :: hfs l j v = a :: l.set j v
    rw [hfs_eq l j v]
theorem hfs_len (fs : List Value) (j : Nat) (v : Value) : (hfs fs j v).length = fs.length := by rw [hfs_eq, List.length_set]
theorem hfit_d {ad : Nat → Nat} {ty : FieldType} {v : Value} (h : hfit ty v) : narrow ty (hv ad v) = hv ad v ∧ fits ty (hv ad v) = true := by
  unfold hfit at h; split at h
  · exact ⟨rfl, rfl⟩
  · exact ⟨rfl, rfl⟩
  · exact h
  · exact h
  · exact ⟨rfl, rfl⟩
  · exact ⟨rfl, rfl⟩
  · exact ⟨rfl, rfl⟩
  · exact ⟨rfl, rfl⟩
  · exact h.elim
theorem hmutA {D : va_G} {G : Nat → ClassId} {ad : Nat → Nat} {base : Nat} {ρ : Nat → hE} {U : State} {H0 : Heap} {N : Nat} {w : hWd} {H : Heap} {i t : Nat} {x : vp_A} (hF : hFix D G ad base ρ U H0) (h : hW D G ad base ρ N w H) (he : w i = .inl (t, x)) (h1 : t < 10) : i < N := by
  rcases h.lt (i := i) (by rw [he]; exact fun q => by cases q) with h2 | ⟨h2, h3⟩
  · exact h2
  · exfalso
    have h4 := hF.2.1 i h2
    rw [← h3, he] at h4
    unfold hRa at h4
    split at h4
    · next e => cases e; omega
    · next e => cases e; omega
    · next e => cases e
    · next e => cases e
    · exact h4
theorem hmutO {D : va_G} {G : Nat → ClassId} {ad : Nat → Nat} {base : Nat} {ρ : Nat → hE} {U : State} {H0 : Heap} {N : Nat} {w : hWd} {H : Heap} {i c : Nat} {x : List Value} (hF : hFix D G ad base ρ U H0) (h : hW D G ad base ρ N w H) (he : w i = .inr (c, x)) (h1 : c < 10) : i < N := by
  rcases h.lt (i := i) (by rw [he]; exact fun q => by cases q; omega) with h2 | ⟨h2, h3⟩
  · exact h2
  · exfalso
    have h4 := hF.2.1 i h2
    rw [← h3, he] at h4
    unfold hRa at h4
    split at h4
    · next e => cases e
    · next e => cases e
    · next e => cases e; omega
    · next e => cases e; omega
    · exact h4
/-- an entry that is no cell of ours is a fixed one -/
theorem hroE {D : va_G} {G : Nat → ClassId} {ad : Nat → Nat} {base : Nat} {ρ : Nat → hE} {U : State} {H0 : Heap} {N : Nat} {w : hWd} {H : Heap} {i : Nat} {e : hE} (hF : hFix D G ad base ρ U H0) (h : hW D G ad base ρ N w H) (he : w i = e) (h0 : e ≠ .inr (99, [])) (hm : ¬ hmu e) : hRa ad (hAs base) U H0 i e := by
  rcases h.lt (i := i) (by rw [he]; exact h0) with h2 | ⟨h2, h3⟩
  · exact (hm (he ▸ h.2.2.2.2 i h2)).elim
  · have h4 := hF.2.1 i h2
    rw [← h3, he] at h4
    exact h4
theorem hroA {D : va_G} {G : Nat → ClassId} {ad : Nat → Nat} {base : Nat} {ρ : Nat → hE} {U : State} {H0 : Heap} {N : Nat} {w : hWd} {H : Heap} {i t n : Nat} {f : Nat → Int32} (hF : hFix D G ad base ρ U H0) (h : hW D G ad base ρ N w H) (he : w i = .inl (t, n, .inl f)) (ht : t = 10 ∨ t = 12) : va_T (if t = 10 then .int else .byte) (ad i) n (fun j => .int (f j)) (hAs base) U H0 := by
  have h1 := hroE hF h he (fun q => by cases q) (fun q => by
    have q : t < 7 := q
    omega)
  rcases ht with rfl | rfl
  · exact h1
  · exact h1
theorem hroS {D : va_G} {G : Nat → ClassId} {ad : Nat → Nat} {base : Nat} {ρ : Nat → hE} {U : State} {H0 : Heap} {N : Nat} {w : hWd} {H : Heap} {i : Nat} {fs : List Value} (hF : hFix D G ad base ρ U H0) (h : hW D G ad base ρ N w H) (he : w i = .inr (10, fs)) : ∃ v k, fs = [v, k] ∧ va_O "java/lang/String" (ad i) (hAs base) U H0 ∧ va_OF "java/lang/String" "value" "[B" (hv ad v) (ad i) (hAs base) U H0 ∧ va_OF "java/lang/String" "coder" "B" (hv ad k) (ad i) (hAs base) U H0 := by
  have h1 := hroE hF h he (fun q => by cases q) (fun q => by
    have q : 10 < 7 := q.1
    omega)
  unfold hRa at h1
  split at h1
  · next e => cases e
  · next e => cases e
  · next e => cases e; exact ⟨_, _, rfl, h1⟩
  · next e => cases e
  · exact h1.elim
section HM
variable {D : va_G} {G : Nat → ClassId} {ad : Nat → Nat} {base : Nat} {ρ : Nat → hE} {s : State} {H H1 H0 : Heap} {N : Nat} {w : hWd} {locs : List Loc}
/-- a write to one of our cells -/
theorem hW.write {a : Nat} {e : hE} (hA : hAd base ad) (hN : N ≤ 1000000) (h : hW D G ad base ρ N w H) (ha : a < N) (hm : hmu e) (z : H1.size = H.size) (oq : ∀ q : Nat, q ≠ ad a → H1[q]? = H[q]?) (he : va_at D vwCl (ad a, hEv G ad e) H1) : hW D G ad base ρ N (va_up w a e) H1 := by
  refine h.set ha hN hm z ?_
  have h1 := va_P.set h.1 (h.dis hA hN) (hws_get (G := G) (ad := ad) (w := w) ha) he oq
  rwa [hws_set rfl] at h1
theorem hA_in (hA : hAd base ad) (hN : N ≤ 1000000) {a : Nat} (ha : a < N) : hAs base (ad a) := by
  show base ≤ ad a
  rw [hA.1 a (by omega)]
  omega
theorem hW.born {e : hE} (hA : hAd base ad) (hN : N < 1000000) (h : hW D G ad base ρ N w H) (hm : hmu e) (z : H1.size = H.size + 1) (oq : ∀ q : Nat, q < H.size → H1[q]? = H[q]?) (he : va_at D vwCl (ad N, hEv G ad e) H1) : hW D G ad base ρ (N + 1) (va_up w N e) H1 := by
  refine h.push hN hm z ((h.1.kept fun k q hq => oq q.1 (h.1 k q hq).lt).app fun k q hq => ?_)
  have hz : k < 1 := (List.getElem?_eq_some_iff.mp hq).1
  rw [show k = 0 by omega] at hq
  cases hq
  exact he
theorem hW.adN (hA : hAd base ad) (hN : N < 1000000) (h : hW D G ad base ρ N w H) : ad N = H.size := by
  rw [hA.1 N hN, h.2.1]
theorem va_S.grow {A : Nat → Prop} (h : va_S A H0 H locs) (z : H1.size = H.size + 1) (oq : ∀ q : Nat, q < H.size → H1[q]? = H[q]?) : va_S A H0 H1 locs :=
  ⟨Nat.le_trans h.1 (by omega), fun x h1 h2 => (oq x (Nat.lt_of_lt_of_le h1 h.1)).trans (h.2.1 x h1 h2), h.2.2⟩
theorem hW.at (h : hW D G ad base ρ N w H) {a : Nat} (ha : a < N) {e : hE} (he : w a = e) : va_at D vwCl (ad a, hEv G ad e) H := by
  have := h.1 a _ (hws_get ha)
  rw [he] at this
  exact this
end HM
