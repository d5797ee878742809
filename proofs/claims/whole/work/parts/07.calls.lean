/-! soundness, third part: arrays that are made, calls, returns -/
section HS3
variable {p : Program} {l : Launch} {e : Env} {R : Room} {s : State} {m : MethodId} {args : Array Value} {below : List Frame} {meth : Method} {c : Code} {D : va_G} {G : Nat → ClassId} {ad : Nat → Nat} {base : Nat} {ρ : Nat → hE} {own : String} {cc : ByteArray} {nL mc ms B d : Nat} {Qf : State → Prop}
variable {Γ : hGm} {ret : Option FieldType} {pc a1 a2 : Nat} {z : Int} {y : MethodName} {wi : List Nat} {N c' s' : Nat} {w : hWd} {ls : hLs} {st : List Value} {K : hPt} {Rt : hRt}
theorem hs_newarray {q : ArrayType} {i0 : Nat} (C : hCtx p R s m args c D G ad base ρ own cc nL mc ms B d) (hd : decode cc pc = .ok (.newarray q, 2)) (hq : (q = .int ∧ a1 = 0) ∨ (q = .long ∧ a1 = 1) ∨ (q = .byte ∧ a1 = 2) ∨ (q = .boolean ∧ a1 = 3)) (hl0 : lw_tbl[i0]? = some (.arrayClass (newarray.typeOf q))) (h : hx Γ ret (pc, .newarray q, a1, a2, z, y, wi) N c' s' w ls st K Rt) (hK : ∀ N c' s' w pc ls st, K N c' s' w pc ls st → hAW p l e R s m args below meth c D G ad base ρ nL mc ms B Qf N c' s' w pc ls st) : hAW p l e R s m args below meth c D G ad base ρ nL mc ms B Qf N c' s' w pc ls st := by
  obtain ⟨n, r, rfl, h⟩ := hpI_d h
  obtain ⟨hn, hc1, hs1, hb, h⟩ := h
  intro g1 g2 g3 H locs la hw hS hl
  have hN : N < 1000000 := by have := C.bound (N := N) (c' := c') g3; have := C.2.2.2.2.2.2.2.2.2.1; omega
  have hr := hw.adN C.had hN
  have hbytes : n.toNatClampNeg * componentBytes (newarray.typeOf q) ≤ 536870912 := by
    have : componentBytes (newarray.typeOf q) ≤ 8 := by cases q <;> decide
    exact Nat.le_trans (Nat.mul_le_mul hb this) (by decide)
  refine va_newaK C.1 C.2.1 (C.hts _ (lw_g_in hl0 rfl)) rfl hd rfl hn rfl hbytes (by rw [C.rc.1]; omega) (by rw [C.rc.2]; omega) rfl fun H1 cA e1' z oq hAr hNm => ?_
  have fin : ∀ (hm : hmu (hzero a1 n.toNatClampNeg)) (_ : va_at D vwCl (ad N, hEv G ad (hzero a1 n.toNatClampNeg)) H1), W p l e R s m args below meth c H1 locs (mc - c' + 1) (ms - s' + n.toNatClampNeg) Qf (F0 m (pc + 2) la (.ref H.size :: r.map (hv ad))) := by
    intro hm hat
    have hw' := hw.born C.had hN hm z oq hat
    have h9 := hK _ _ _ _ _ _ _ h (by omega) (by omega) (by omega) H1 locs la hw' (hS.grow z oq) hl
    rw [show mc - (c' - 1) = mc - c' + 1 by omega, show ms - (s' - n.toNatClampNeg) = ms - s' + n.toNatClampNeg by omega] at h9
    have e9 : (Value.ref N :: r).map (hv ad) = .ref H.size :: r.map (hv ad) := by rw [← hr]; rfl
    rw [e9] at h9
    exact h9
  have hK0 := C.fix.1.2
  rcases hq with ⟨rfl, rfl⟩ | ⟨rfl, rfl⟩ | ⟨rfl, rfl⟩ | ⟨rfl, rfl⟩
  · refine fin (by show (0 : Nat) < 7; decide) ?_
    have hG := (hK0 0 _ rfl).2
    have : cA = G 0 := Option.some.inj (hNm.symm.trans hG)
    subst this
    rw [hr]
    show H1[H.size]? = some (arrV (G 0) n.toNatClampNeg (fun _ => .int 0))
    exact e1'
  · refine fin (by show (1 : Nat) < 7; decide) ?_
    have hG := (hK0 1 _ rfl).2
    have : cA = G 1 := Option.some.inj (hNm.symm.trans hG)
    subst this
    rw [hr]
    show H1[H.size]? = some (arrV (G 1) n.toNatClampNeg (fun _ => .long 0))
    exact e1'
  · refine fin (by show (2 : Nat) < 7; decide) ?_
    have hG := (hK0 2 _ rfl).2
    have : cA = G 2 := Option.some.inj (hNm.symm.trans hG)
    subst this
    rw [hr]
    show H1[H.size]? = some (arrV (G 2) n.toNatClampNeg (fun _ => .int 0))
    exact e1'
  · refine fin (by show (3 : Nat) < 7; decide) ?_
    have hG := (hK0 3 _ rfl).2
    have : cA = G 3 := Option.some.inj (hNm.symm.trans hG)
    subst this
    rw [hr]
    show H1[H.size]? = some (arrV (G 3) n.toNatClampNeg (fun _ => .int 0))
    exact e1'
/-- a method's end: what it answers, the world behind it -/
def hQc (D : va_G) (G : Nat → ClassId) (ad : Nat → Nat) (base : Nat) (ρ : Nat → hE) (B : Nat) (Rq : Option Value → Nat → hWd → Prop) : Array Value → State → Outcome → State → Prop := fun _ st oc t =>
  (∃ r N' w', oc = .returned (r.map (hv ad)) ∧ N' ≤ B ∧ Rq r N' w' ∧ hW D G ad base ρ N' w' t.heap) ∧ va_F (hAs base) st t
/-- a call of y with these arguments in this world, room d above it, c cells and s slots to make: it returns, and Q holds of its answer, the world and what is left -/
def hΓ (l : Launch) (D : va_G) (G : Nat → ClassId) (ad : Nat → Nat) (base : Nat) (ρ : Nat → hE) (d : Nat) : hGm := fun y av N c s w Q =>
  ∃ mc ms, mc ≤ c ∧ ms ≤ s ∧ ∃ bytes maxL ret, maxL ≤ 21 ∧ Cond.code y bytes maxL ret ∈ lw_g ∧ (N + mc ≤ 1000000 → Met l y (Cond.code y bytes maxL ret :: lw_g) { frames := d, cells := mc, slots := ms, locals := 60 * d }
    (va_Pc (av.map (hv ad)) fun U => hW D G ad base ρ N w U.heap ∧ hFix D G ad base ρ U U.heap) (hQc D G ad base ρ (N + mc) fun r N' w' => Q r N' (c - mc) (s - ms) w') mc ms (hAs base))
theorem hpN_d : ∀ (n : Nat) (acc o : List Value) (k : List Value → List Value → Prop), hpN n acc o k → ∃ xs r, o = xs ++ r ∧ xs.length = n ∧ k (xs.reverse ++ acc) r
  | 0, acc, o, k, h => ⟨[], o, rfl, rfl, h⟩
  | n + 1, acc, [], k, h => h.elim
  | n + 1, acc, v :: o, k, h => by
    obtain ⟨xs, r, e, hl, hk⟩ := hpN_d n (v :: acc) o k h
    refine ⟨v :: xs, r, by rw [e]; rfl, by simp [hl], ?_⟩
    rw [List.reverse_cons, List.append_assoc]
    exact hk
theorem hck_d : ∀ (n : Nat) (r : List Value) (P : Prop), hck n r P → ((r.map (hv ad)).map fun v => v.category).sum ≤ n ∧ P := by
  intro n r
  induction r generalizing n with
  | nil =>
    intro P h
    refine ⟨by simp, ?_⟩
    cases n <;> exact h
  | cons v r ih =>
    intro P h
    cases v with
    | int x =>
      cases n with
      | zero => exact h.elim
      | succ n => obtain ⟨h1, h2⟩ := ih n P h; exact ⟨by simp [hv, Value.category] at h1 ⊢; omega, h2⟩
    | ref x =>
      cases n with
      | zero => exact h.elim
      | succ n => obtain ⟨h1, h2⟩ := ih n P h; exact ⟨by simp [hv, Value.category] at h1 ⊢; omega, h2⟩
    | null =>
      cases n with
      | zero => exact h.elim
      | succ n => obtain ⟨h1, h2⟩ := ih n P h; exact ⟨by simp [hv, Value.category] at h1 ⊢; omega, h2⟩
    | long x =>
      match n with
      | 0 => exact h.elim
      | 1 => exact h.elim
      | n + 2 => obtain ⟨h1, h2⟩ := ih n P h; exact ⟨by simp [hv, Value.category] at h1 ⊢; omega, h2⟩
    | _ =>
      match n with
      | 0 => exact h.elim
      | 1 => exact h.elim
      | n + 2 => exact h.elim
theorem hblind {B : State → Prop} {av : List Value} (hB : ∀ U g mk a, B U → B (U.calling g mk a)) : FrameBlind (va_Pc av B) := fun a U g mk h => ⟨h.1, hB U g mk a h.2⟩
/-- behind a call -/
theorem hs_back {mc1 ms1 : Nat} {pc : Nat} {la : Array Slot} {H : Heap} {locs : List Loc} {r st0 : List Value} {aa : Array Value} {Q : hRt} (C : hCtx p R s m args c D G ad base ρ own cc nL mc ms B d) (g1 : c' ≤ mc) (g2 : s' ≤ ms) (g3 : N + c' ≤ B) (k1 : mc1 ≤ c') (k2 : ms1 ≤ s') (hS : va_S (hAs base) s.heap H locs) (hl : hl ad la nL ls)
    (hr : va_Run p l e R s m args below meth c H locs (mc - c') (ms - s') mc1 ms1 (F0 m pc la st0) (r.map (hv ad)) (hQc D G ad base ρ (N + mc1) (fun v N' w' => Q v N' (c' - mc1) (s' - ms1) w') aa) (hAs base))
    (hK : ∀ v N c2 s2 w, Q v N c2 s2 w → hAW p l e R s m args below meth c D G ad base ρ nL mc ms B Qf N c2 s2 w (pc + 3) ls (hres v r)) : W p l e R s m args below meth c H locs (mc - c') (ms - s') Qf (F0 m pc la st0) := by
  intro T hT X
  obtain ⟨v, st₀, t, T', L, h0, X', hL, e1, e2, ⟨⟨r1, N', w', hv1, hN', hq, hw'⟩, hz, hk⟩, st⟩ := hr T hT X
  cases hv1
  rw [h0] at hz hk
  have hS' : va_S (hAs base) s.heap T'.heap (locs ++ L) := ⟨Nat.le_trans hS.1 (by rw [e1]; exact hz), fun q h1 h2 => by rw [e1, hk q (Nat.lt_of_lt_of_le h1 hS.1) h2]; exact hS.2.1 q h1 h2, fun q hq => by
      rcases List.mem_append.mp hq with h | h
      · exact hS.2.2 q h
      · exact hL q h⟩
  have h9 := hK r1 N' _ _ w' hq (by omega) (by omega) (by omega) T'.heap (locs ++ L) la (by rw [e1]; exact hw') hS' hl
  rw [show mc - (c' - mc1) = mc - c' + mc1 by omega, show ms - (s' - ms1) = ms - s' + ms1 by omega] at h9
  obtain ⟨t2, a1, b1⟩ := h9 T' rfl X'
  refine ⟨t2, st t2 ?_, b1⟩
  cases r1 with
  | none => exact a1
  | some v => exact a1
theorem hgood {y : MethodName} {bytes : ByteArray} {maxL : Nat} {ret : Option FieldType} (hc : Cond.code y bytes maxL ret ∈ lw_g) : GoodIn lw_g (Cond.code y bytes maxL ret :: lw_g) := fun w h => by
  rcases List.mem_cons.mp h with rfl | h
  · exact ⟨hc, Or.inl rfl⟩
  · exact ⟨h, lw_g_good w h⟩
theorem hPreS {y : MethodName} {H : Heap} {locs : List Loc} {av : List Value} (C : hCtx p R s m args c D G ad base ρ own cc nL mc ms B d) (hw : hW D G ad base ρ N w H) (hS : va_S (hAs base) s.heap H locs) : PreS s H (va_Pc (av.map (hv ad)) fun U => hW D G ad base ρ N w U.heap ∧ hFix D G ad base ρ U U.heap) (av.map (hv ad)) :=
  ⟨hblind fun U g mk a h => ⟨h.1, h.2.blind⟩, fun U hU hW1 => ⟨rfl, by rw [hU]; exact hw, C.fix.to hS hU hW1⟩⟩

theorem hs_invS {idx i0 i1 i2 : Nat} (C : hCtx p R s m args c D G ad base ρ own cc nL mc ms B d) (hd : decode cc pc = .ok (.invokestatic idx, 3)) (ha1 : a1 = 0) (hl0 : lw_tbl[i0]? = some (.methodLink own idx y)) (hl1 : lw_tbl[i1]? = some (.static y)) (hl2 : lw_tbl[i2]? = some (.initialized y.cls)) (hy : y.cls ≠ "java/lang/invoke/MethodHandle" ∧ y.cls ≠ "java/lang/invoke/VarHandle" ∧ (parseMethodDescriptor y.desc).map (fun d => d.parameters.length) = some a2) (h : hx (hΓ l D G ad base ρ d) ret (pc, .invokestatic idx, a1, a2, z, y, wi) N c' s' w ls st K Rt) (hK : ∀ N c' s' w pc ls st, K N c' s' w pc ls st → hAW p l e R s m args below meth c D G ad base ρ nL mc ms B Qf N c' s' w pc ls st) : hAW p l e R s m args below meth c D G ad base ρ nL mc ms B Qf N c' s' w pc ls st := by
  have h : hpN a2 [] st (fun av r => hck 8 r (hΓ l D G ad base ρ d y av N c' s' w fun v N c s w => K N c s w (pc + 3) ls (hres v r))) := by
    subst ha1
    exact h
  obtain ⟨xs, r, rfl, hlen, h⟩ := hpN_d _ _ _ _ h
  rw [List.append_nil] at h
  obtain ⟨hcat, h⟩ := hck_d (ad := ad) _ _ _ h
  obtain ⟨mc1, ms1, k1, k2, bytes, maxL, ret1, hmax, hcode, hM⟩ := h
  intro g1 g2 g3 H locs la hw hS hl
  have hB := C.2.2.2.2.2.2.2.2.2.1
  have hM := hM (by omega)
  have hsz : la.size = nL := hl.2.choose_spec.1.1
  rw [List.map_append]
  refine hs_back (mc1 := mc1) (ms1 := ms1) (Q := fun v N c s w => K N c s w (pc + 3) ls (hres v r)) (r := r) (aa := (xs.reverse.map (hv ad)).toArray) C g1 g2 g3 k1 k2 hS hl ?_ (fun v N c s w hq => hK _ _ _ _ _ _ _ hq)
  exact va_runS (As := xs.reverse.map (hv ad)) (n := a2) ⟨C.1, C.2.1, C.2.2.1, C.hown, C.hts⟩ hM (va_cwS (own := own) (index := idx) (y := y) (Ts := lw_g) a2 C.hts (fun q hq => by
      rcases List.mem_append.mp hq with h | h
      · have hq : q = .methodLink own idx y ∨ q = .static y ∨ q = .initialized y.cls := by simpa using h
        rcases hq with rfl | rfl | rfl
        · exact ⟨lw_g_in hl0 rfl, Or.inl rfl⟩
        · exact ⟨lw_g_in hl1 rfl, Or.inl rfl⟩
        · exact ⟨lw_g_in hl2 rfl, Or.inl rfl⟩
      · exact hgood hcode q h) rfl rfl rfl hy (by have := C.fr; constructor <;> simp <;> omega)) (hPreS (y := y) C hw hS) rfl (by simp [hlen]) hsz (by simp) (lv_room hcat) hd ⟨by rw [C.rc.1]; omega, by rw [C.rc.2]; omega⟩
theorem hs_invSN {idx i1 i2 : Nat} {host : String} (C : hCtx p R s m args c D G ad base ρ own cc nL mc ms B d) (hd : decode cc pc = .ok (.invokestatic idx, 3)) (ha1 : a1 = 2) (hm : (own, idx, y, host) ∈ hnst) (hl1 : lw_tbl[i1]? = some (.static y)) (hl2 : lw_tbl[i2]? = some (.initialized y.cls)) (hy : y.cls ≠ "java/lang/invoke/MethodHandle" ∧ y.cls ≠ "java/lang/invoke/VarHandle" ∧ (parseMethodDescriptor y.desc).map (fun d => d.parameters.length) = some a2) (h : hx (hΓ l D G ad base ρ d) ret (pc, .invokestatic idx, a1, a2, z, y, wi) N c' s' w ls st K Rt) (hK : ∀ N c' s' w pc ls st, K N c' s' w pc ls st → hAW p l e R s m args below meth c D G ad base ρ nL mc ms B Qf N c' s' w pc ls st) : hAW p l e R s m args below meth c D G ad base ρ nL mc ms B Qf N c' s' w pc ls st := by
  have h : hpN a2 [] st (fun av r => hck 8 r (hΓ l D G ad base ρ d y av N c' s' w fun v N c s w => K N c s w (pc + 3) ls (hres v r))) := by
    subst ha1
    exact h
  obtain ⟨xs, r, rfl, hlen, h⟩ := hpN_d _ _ _ _ h
  rw [List.append_nil] at h
  obtain ⟨hcat, h⟩ := hck_d (ad := ad) _ _ _ h
  obtain ⟨mc1, ms1, k1, k2, bytes, maxL, ret1, hmax, hcode, hM⟩ := h
  intro g1 g2 g3 H locs la hw hS hl
  have hB := C.2.2.2.2.2.2.2.2.2.1
  have hM := hM (by omega)
  have hsz : la.size = nL := hl.2.choose_spec.1.1
  rw [List.map_append]
  refine hs_back (mc1 := mc1) (ms1 := ms1) (Q := fun v N c s w => K N c s w (pc + 3) ls (hres v r)) (r := r) (aa := (xs.reverse.map (hv ad)).toArray) C g1 g2 g3 k1 k2 hS hl ?_ (fun v N c s w hq => hK _ _ _ _ _ _ _ hq)
  exact va_runSN (As := xs.reverse.map (hv ad)) (n := a2) ⟨C.1, C.2.1, C.2.2.1, C.hown, C.hts⟩ hM ⟨va_cnB (own := own) (index := idx) (y := y) (Ts := lw_g) a2 C.hts (hgood hcode) rfl rfl rfl (C.fix.2.2.2.2.1 _ hm) (C.hts _ (lw_g_in hl2 rfl)) hy (by have := C.fr; constructor <;> simp <;> omega), C.hts _ (lw_g_in hl1 rfl), trivial⟩ (hPreS (y := y) C hw hS) rfl (by simp [hlen]) hsz (by simp) (lv_room hcat) hd ⟨by rw [C.rc.1]; omega, by rw [C.rc.2]; omega⟩
theorem hPreV {y : MethodName} {H : Heap} {locs : List Loc} {av : List Value} {b ci : Nat} {fs : List Value} (C : hCtx p R s m args c D G ad base ρ own cc nL mc ms B d) (hci : ci < 7) (hw : hW D G ad base ρ N w H) (hS : va_S (hAs base) s.heap H locs) (hb : ∃ q, w b = .inr (q, fs) ∧ (q = ci ∨ (q = 10 ∧ ci = 0))) : PreV s H (hC ci) (ad b) (va_Pc ((Value.ref b :: av).map (hv ad)) fun U => hW D G ad base ρ N w U.heap ∧ hFix D G ad base ρ U U.heap) (av.map (hv ad)) := by
  refine ⟨hblind fun U g mk a h => ⟨h.1, h.2.blind⟩, ?_, fun U hU hW1 => ⟨rfl, by rw [hU]; exact hw, C.fix.to hS hU hW1⟩⟩
  obtain ⟨q, h1, h2⟩ := hb
  obtain ⟨e1, -⟩ := hcls hci
  rcases h2 with rfl | ⟨rfl, rfl⟩
  · have hb2 := hmutO C.fix hw h1 (by omega)
    exact va_recv C.fix.1 hw.1 e1 (q0 := b) (by rw [hws_get hb2, h1]; rfl)
  · obtain ⟨v0, k0, rfl, ⟨cell, o1, o2, o3, o4⟩, -⟩ := hroS C.fix hw h1
    exact ⟨cell, by rw [hS.2.1 _ (Array.getElem?_eq_some_iff.mp o1).1 o4]; exact o1, o2, o3⟩

theorem hs_invV {idx i0 i1 i2 i3 : Nat} (C : hCtx p R s m args c D G ad base ρ own cc nL mc ms B d) (hd : decode cc pc = .ok (.invokevirtual idx, 3)) (hci : a1 < 7) (hl0 : lw_tbl[i0]? = some (.methodLink own idx y)) (hl1 : lw_tbl[i1]? = some (.instanceMethod y)) (hl2 : lw_tbl[i2]? = some (.selects (hC a1) y y)) (hl3 : lw_tbl[i3]? = some (.initialized (hC a1))) (hy : y.cls = hC a1 ∧ y.cls ≠ "java/lang/invoke/MethodHandle" ∧ y.cls ≠ "java/lang/invoke/VarHandle" ∧ (parseMethodDescriptor y.desc).map (fun d => d.parameters.length) = some a2) (h : hx (hΓ l D G ad base ρ d) ret (pc, .invokevirtual idx, a1, a2, z, y, wi) N c' s' w ls st K Rt) (hK : ∀ N c' s' w pc ls st, K N c' s' w pc ls st → hAW p l e R s m args below meth c D G ad base ρ nL mc ms B Qf N c' s' w pc ls st) : hAW p l e R s m args below meth c D G ad base ρ nL mc ms B Qf N c' s' w pc ls st := by
  obtain ⟨xs, r, rfl, hlen, h⟩ := hpN_d _ _ _ _ h
  rw [List.append_nil] at h
  obtain ⟨b, r, rfl, h⟩ := hpA_d h
  obtain ⟨hcat, h⟩ := hck_d (ad := ad) _ _ _ h
  obtain ⟨q0, fs, hb, hq0, h⟩ := hcl_d h
  obtain ⟨mc1, ms1, k1, k2, bytes, maxL, ret1, hmax, hcode, hM⟩ := h
  intro g1 g2 g3 H locs la hw hS hl
  have hB := C.2.2.2.2.2.2.2.2.2.1
  have hM := hM (by omega)
  have hsz : la.size = nL := hl.2.choose_spec.1.1
  rw [List.map_append]
  refine hs_back (mc1 := mc1) (ms1 := ms1) (Q := fun v N c s w => K N c s w (pc + 3) ls (hres v r)) (r := r) (aa := (Value.ref (ad b) :: xs.reverse.map (hv ad)).toArray) C g1 g2 g3 k1 k2 hS hl ?_ (fun v N c s w hq => hK _ _ _ _ _ _ _ hq)
  exact va_runV (C := hC a1) (As := xs.reverse.map (hv ad)) (n := a2) ⟨C.1, C.2.1, C.2.2.1, C.hown, C.hts⟩ hM (cwV (own := own) (index := idx) (C := hC a1) (y := y) (Ts := lw_g) a2 C.hts (fun q hq => by
      rcases List.mem_append.mp hq with h | h
      · have hq : q = .methodLink own idx y ∨ q = .instanceMethod y ∨ q = .selects (hC a1) y y ∨ q = .initialized (hC a1) := by simpa using h
        rcases hq with rfl | rfl | rfl | rfl
        · exact ⟨lw_g_in hl0 rfl, Or.inl rfl⟩
        · exact ⟨lw_g_in hl1 rfl, Or.inl rfl⟩
        · exact ⟨lw_g_in hl2 rfl, Or.inl rfl⟩
        · exact ⟨lw_g_in hl3 rfl, Or.inl rfl⟩
      · exact hgood hcode q h) rfl rfl rfl hy (by have := C.fr; constructor <;> simp <;> omega)) (hPreV (y := y) C hci hw hS ⟨q0, hb, hq0⟩) rfl (by simp [hlen]) hsz (by simp [hv]) (lv_room hcat) hd ⟨by rw [C.rc.1]; omega, by rw [C.rc.2]; omega⟩
theorem hs_invI {idx i0 i1 i2 : Nat} (C : hCtx p R s m args c D G ad base ρ own cc nL mc ms B d) (hd : decode cc pc = .ok (.invokespecial idx, 3)) (hci : a1 < 7) (hl0 : lw_tbl[i0]? = some (.methodLink own idx y)) (hl1 : lw_tbl[i1]? = some (.instanceMethod y)) (hl2 : lw_tbl[i2]? = some (.initialized y.cls)) (hnm : y.name = "<init>") (hrn : ∀ b m r, Cond.code y b m r ∈ lw_g → r = none) (hy : y.cls ≠ "java/lang/invoke/MethodHandle" ∧ y.cls ≠ "java/lang/invoke/VarHandle" ∧ (parseMethodDescriptor y.desc).map (fun d => d.parameters.length) = some a2) (h : hx (hΓ l D G ad base ρ d) ret (pc, .invokespecial idx, a1, a2, z, y, wi) N c' s' w ls st K Rt) (hK : ∀ N c' s' w pc ls st, K N c' s' w pc ls st → hAW p l e R s m args below meth c D G ad base ρ nL mc ms B Qf N c' s' w pc ls st) : hAW p l e R s m args below meth c D G ad base ρ nL mc ms B Qf N c' s' w pc ls st := by
  have h : hpN a2 [] st (fun av r => hpA r fun a r => hck 8 r (hcl a1 (w a) (hΓ l D G ad base ρ d y (.ref a :: av) N c' s' w fun v N c s w => K N c s w (pc + 3) ls (hres v r)))) := by
    match a1, hci with
    | 0, _ => exact h
    | 1, _ => exact h
    | 2, _ => exact h
    | 3, _ => exact h
    | 4, _ => exact h
    | 5, _ => exact h
    | 6, _ => exact h
  obtain ⟨xs, r, rfl, hlen, h⟩ := hpN_d _ _ _ _ h
  rw [List.append_nil] at h
  obtain ⟨b, r, rfl, h⟩ := hpA_d h
  obtain ⟨hcat, h⟩ := hck_d (ad := ad) _ _ _ h
  obtain ⟨q0, fs, hb, hq0, h⟩ := hcl_d h
  obtain ⟨mc1, ms1, k1, k2, bytes, maxL, ret1, hmax, hcode, hM⟩ := h
  intro g1 g2 g3 H locs la hw hS hl
  have hB := C.2.2.2.2.2.2.2.2.2.1
  have hM := hM (by omega)
  have hsz : la.size = nL := hl.2.choose_spec.1.1
  rw [List.map_append]
  refine hs_back (mc1 := mc1) (ms1 := ms1) (Q := fun v N c s w => K N c s w (pc + 3) ls (hres v r)) (r := r) (aa := (Value.ref (ad b) :: xs.reverse.map (hv ad)).toArray) C g1 g2 g3 k1 k2 hS hl ?_ (fun v N c s w hq => hK _ _ _ _ _ _ _ hq)
  have hret : ret1 = none := hrn _ _ _ hcode
  subst hret
  exact va_runI (As := xs.reverse.map (hv ad)) (n := a2) ⟨C.1, C.2.1, C.2.2.1, C.hown, C.hts⟩ hM (cwI (own := own) (index := idx) (y := y) (Ts := lw_g) a2 C.hts (hgood hcode) rfl rfl rfl (C.hts _ (lw_g_in hl2 rfl)) (C.hts _ (lw_g_in hl0 rfl)) (C.hts _ (lw_g_in hl1 rfl)) hnm hy (by have := C.fr; constructor <;> simp <;> omega)) (hPreS (y := y) (av := Value.ref b :: xs.reverse) C hw hS) rfl (by simp [hlen]) hsz (by simp [hv]) (lv_room hcat) hd ⟨by rw [C.rc.1]; omega, by rw [C.rc.2]; omega⟩
theorem hs_invIN {idx i1 i2 : Nat} {host : String} (C : hCtx p R s m args c D G ad base ρ own cc nL mc ms B d) (hd : decode cc pc = .ok (.invokespecial idx, 3)) (hci : a1 < 7) (hm : (own, idx, y, host) ∈ hnst) (hl1 : lw_tbl[i1]? = some (.instanceMethod y)) (hl2 : lw_tbl[i2]? = some (.initialized y.cls)) (hnm : y.name = "<init>") (hrn : ∀ b m r, Cond.code y b m r ∈ lw_g → r = none) (hy : y.cls ≠ "java/lang/invoke/MethodHandle" ∧ y.cls ≠ "java/lang/invoke/VarHandle" ∧ (parseMethodDescriptor y.desc).map (fun d => d.parameters.length) = some a2) (h : hx (hΓ l D G ad base ρ d) ret (pc, .invokespecial idx, a1, a2, z, y, wi) N c' s' w ls st K Rt) (hK : ∀ N c' s' w pc ls st, K N c' s' w pc ls st → hAW p l e R s m args below meth c D G ad base ρ nL mc ms B Qf N c' s' w pc ls st) : hAW p l e R s m args below meth c D G ad base ρ nL mc ms B Qf N c' s' w pc ls st := by
  have h : hpN a2 [] st (fun av r => hpA r fun a r => hck 8 r (hcl a1 (w a) (hΓ l D G ad base ρ d y (.ref a :: av) N c' s' w fun v N c s w => K N c s w (pc + 3) ls (hres v r)))) := by
    match a1, hci with
    | 0, _ => exact h
    | 1, _ => exact h
    | 2, _ => exact h
    | 3, _ => exact h
    | 4, _ => exact h
    | 5, _ => exact h
    | 6, _ => exact h
  obtain ⟨xs, r, rfl, hlen, h⟩ := hpN_d _ _ _ _ h
  rw [List.append_nil] at h
  obtain ⟨b, r, rfl, h⟩ := hpA_d h
  obtain ⟨hcat, h⟩ := hck_d (ad := ad) _ _ _ h
  obtain ⟨q0, fs, hb, hq0, h⟩ := hcl_d h
  obtain ⟨mc1, ms1, k1, k2, bytes, maxL, ret1, hmax, hcode, hM⟩ := h
  intro g1 g2 g3 H locs la hw hS hl
  have hB := C.2.2.2.2.2.2.2.2.2.1
  have hM := hM (by omega)
  have hsz : la.size = nL := hl.2.choose_spec.1.1
  rw [List.map_append]
  refine hs_back (mc1 := mc1) (ms1 := ms1) (Q := fun v N c s w => K N c s w (pc + 3) ls (hres v r)) (r := r) (aa := (Value.ref (ad b) :: xs.reverse.map (hv ad)).toArray) C g1 g2 g3 k1 k2 hS hl ?_ (fun v N c s w hq => hK _ _ _ _ _ _ _ hq)
  have hret : ret1 = none := hrn _ _ _ hcode
  subst hret
  exact va_runIN (As := xs.reverse.map (hv ad)) (n := a2) ⟨C.1, C.2.1, C.2.2.1, C.hown, C.hts⟩ hM ⟨va_cnB (own := own) (index := idx) (y := y) (Ts := lw_g) a2 C.hts (hgood hcode) rfl rfl rfl (C.fix.2.2.2.2.1 _ hm) (C.hts _ (lw_g_in hl2 rfl)) hy (by have := C.fr; constructor <;> simp <;> omega), hnm, C.hts _ (lw_g_in hl1 rfl)⟩ (hPreS (y := y) (av := Value.ref b :: xs.reverse) C hw hS) rfl (by simp [hlen]) hsz (by simp [hv]) (lv_room hcat) hd ⟨by rw [C.rc.1]; omega, by rw [C.rc.2]; omega⟩
theorem hs_objI {idx i0 i1 i2 : Nat} (C : hCtx p R s m args c D G ad base ρ own cc nL mc ms B d) (hd : decode cc pc = .ok (.invokespecial idx, 3)) (ha1 : a1 = 100) (hl0 : lw_tbl[i0]? = some (.methodLink own idx Lib.objectInit)) (hl1 : lw_tbl[i1]? = some (.instanceMethod Lib.objectInit)) (hl2 : lw_tbl[i2]? = some (.code Lib.objectInit ⟨#[0xb1]⟩ 1 none)) (h : hx Γ ret (pc, .invokespecial idx, a1, a2, z, y, wi) N c' s' w ls st K Rt) (hK : ∀ N c' s' w pc ls st, K N c' s' w pc ls st → hAW p l e R s m args below meth c D G ad base ρ nL mc ms B Qf N c' s' w pc ls st) : hAW p l e R s m args below meth c D G ad base ρ nL mc ms B Qf N c' s' w pc ls st := by
  have h : hpA st fun _ r => hck 8 r (K N c' s' w (pc + 3) ls r) := by
    subst ha1
    exact h
  obtain ⟨b, r, rfl, h⟩ := hpA_d h
  obtain ⟨hcat, h⟩ := hck_d (ad := ad) _ _ _ h
  intro g1 g2 g3 H locs la hw hS hl
  have hsz : la.size = nL := hl.2.choose_spec.1.1
  have hfr := C.fr
  exact W.objInit C.1 C.2.1 C.hown (C.hts _ (lw_g_in hl0 rfl)) (C.hts _ (lw_g_in hl1 rfl)) (C.hts _ (lw_g_in hl2 rfl)) rfl (hsz.trans C.2.2.1.symm) rfl hd (by omega) (by show 2 * 0 + _ + 12 ≤ _; omega) (hK _ _ _ _ _ _ _ h g1 g2 g3 H locs la hw hS hl)
end HS3
