/-! soundness, third part: arrays that are made, calls, returns -/
section HS3
variable {p : Program} {l : Launch} {e : Env} {R : Room} {s : State} {m : MethodId} {args : Array Value} {below : List Frame} {meth : Method} {c : Code} {D : va_G} {G : Nat → ClassId} {ad : Nat → Nat} {base : Nat} {ρ : Nat → hE} {own : String} {cc : ByteArray} {nL mc ms B d : Nat} {Qf : State → Prop}
variable {Γ : hGm} {ret : Option FieldType} {pc a1 a2 : Nat} {z : Int} {y : MethodName} {wi : List Nat} {N c' s' : Nat} {w : hWd} {ls : hLs} {st : List Value} {K : hPt} {Rt : hRt}
theorem hs_newarray {q : ArrayType} {i0 : Nat} (C : hCtx p R s m args c D G ad base ρ own cc nL mc ms B d) (hd : decode cc pc = .ok (.newarray q, 2)) (hq : (q = .int ∧ a1 = 0) ∨ (q = .long ∧ a1 = 1) ∨ (q = .byte ∧ a1 = 2) ∨ (q = .boolean ∧ a1 = 3)) (hl0 : lw_tbl[i0]? = some (.arrayClass (newarray.typeOf q))) (h : hx Γ ret (pc, .newarray q, a1, a2, z, y, wi) N c' s' w ls st K Rt) (hK : ∀ N c' s' w pc ls st, K N c' s' w pc ls st → hAW p l e R s m args below meth c D G ad base ρ nL mc ms B Qf N c' s' w pc ls st) : hAW p l e R s m args below meth c D G ad base ρ nL mc ms B Qf N c' s' w pc ls st := by
  obtain ⟨n, r, rfl, h⟩ := hpI_d h
  obtain ⟨hn, hc1, hs1, hb, h⟩ := h
  intro g1 g2 g3 H locs la hw hS hl
  have hN : N < 1000000 := by have := C.bound (N := N) (c' := c') g3; have := C.2.2.2.2.2.2.2.2.2.1; omega
  have hr := hw.adN C.had hN
  have hbytes : n.toNatClampNeg * componentBytes (newarray.typeOf q) ≤ 536870912 := by
    have : componentBytes (newarray.typeOf q) ≤ 8 := by cases q <;> decide
    exact Nat.le_trans (Nat.mul_le_mul hb this) (by decide)
  refine va_newaK C.1 C.2.1 (C.hts _ (lw_g_in hl0 rfl)) rfl hd rfl hn rfl hbytes (by rw [C.rc.1]; omega) (by rw [C.rc.2]; omega) rfl fun H1 cA e1' z oq hAr hNm => ?_
  have fin : ∀ (hm : hmu (hzero a1 n.toNatClampNeg)) (_ : va_at D vwCl (ad N, hEv G ad (hzero a1 n.toNatClampNeg)) H1), W p l e R s m args below meth c H1 locs (mc - c' + 1) (ms - s' + n.toNatClampNeg) Qf (F0 m (pc + 2) la (.ref H.size :: r.map (hv ad))) := by
    intro hm hat
    have hw' := hw.born C.had hN hm z oq hat
    have h9 := hK _ _ _ _ _ _ _ h (by omega) (by omega) (by omega) H1 locs la hw' (hS.grow z oq) hl
    rw [show mc - (c' - 1) = mc - c' + 1 by omega, show ms - (s' - n.toNatClampNeg) = ms - s' + n.toNatClampNeg by omega] at h9
    have e9 : (Value.ref N :: r).map (hv ad) = .ref H.size :: r.map (hv ad) := by rw [← hr]; rfl
    rw [e9] at h9
    exact h9
  have hK0 := C.fix.1.2
  rcases hq with ⟨rfl, rfl⟩ | ⟨rfl, rfl⟩ | ⟨rfl, rfl⟩ | ⟨rfl, rfl⟩
  · refine fin (by show (0 : Nat) < 7; decide) ?_
    have hG := (hK0 0 _ rfl).2
    have : cA = G 0 := Option.some.inj (hNm.symm.trans hG)
    subst this
    rw [hr]
    show H1[H.size]? = some (arrV (G 0) n.toNatClampNeg (fun _ => .int 0))
    exact e1'
  · refine fin (by show (1 : Nat) < 7; decide) ?_
    have hG := (hK0 1 _ rfl).2
    have : cA = G 1 := Option.some.inj (hNm.symm.trans hG)
    subst this
    rw [hr]
    show H1[H.size]? = some (arrV (G 1) n.toNatClampNeg (fun _ => .long 0))
    exact e1'
  · refine fin (by show (2 : Nat) < 7; decide) ?_
    have hG := (hK0 2 _ rfl).2
    have : cA = G 2 := Option.some.inj (hNm.symm.trans hG)
    subst this
    rw [hr]
    show H1[H.size]? = some (arrV (G 2) n.toNatClampNeg (fun _ => .int 0))
    exact e1'
  · refine fin (by show (3 : Nat) < 7; decide) ?_
    have hG := (hK0 3 _ rfl).2
    have : cA = G 3 := Option.some.inj (hNm.symm.trans hG)
    subst this
    rw [hr]
    show H1[H.size]? = some (arrV (G 3) n.toNatClampNeg (fun _ => .int 0))
    exact e1'
def lw_g1 : List Cond := hsels ++ lw_g
/-- a method's end: what it answers, the world behind it -/
def hQc (D : va_G) (G : Nat → ClassId) (ad : Nat → Nat) (base : Nat) (ρ : Nat → hE) (B : Nat) (Rq : Option Value → Nat → hWd → Prop) : Array Value → State → Outcome → State → Prop := fun _ st oc t =>
  (∃ r N' w', oc = .returned (r.map (hv ad)) ∧ N' ≤ B ∧ Rq r N' w' ∧ hW D G ad base ρ N' w' t.heap) ∧ va_F (hAs base) st t
/-- a call of y with these arguments in this world, room d above it, c cells and s slots to make: it returns, and Q holds of its answer, the world and what is left -/
def hΓ (l : Launch) (D : va_G) (G : Nat → ClassId) (ad : Nat → Nat) (base : Nat) (ρ : Nat → hE) (d : Nat) : hGm := fun y av N c s w Q =>
  ∃ mc ms, mc ≤ c ∧ ms ≤ s ∧ ∃ bytes maxL ret, maxL ≤ 21 ∧ Cond.code y bytes maxL ret ∈ lw_g ∧ (N + mc ≤ 1000000 → Met l y (Cond.code y bytes maxL ret :: lw_g) { frames := d, cells := mc, slots := ms, locals := 60 * d }
    (va_Pc (av.map (hv ad)) fun U => hW D G ad base ρ N w U.heap ∧ hFix D G ad base ρ U U.heap) (hQc D G ad base ρ (N + mc) fun r N' w' => Q r N' (c - mc) (s - ms) w') mc ms (hAs base))
theorem hpN_d : ∀ (n : Nat) (acc o : List Value) (k : List Value → List Value → Prop), hpN n acc o k → ∃ xs r, o = xs ++ r ∧ xs.length = n ∧ k (xs.reverse ++ acc) r
  | 0, acc, o, k, h => ⟨[], o, rfl, rfl, h⟩
  | n + 1, acc, [], k, h => h.elim
  | n + 1, acc, v :: o, k, h => by
    obtain ⟨xs, r, e, hl, hk⟩ := hpN_d n (v :: acc) o k h
    refine ⟨v :: xs, r, by rw [e]; rfl, by simp [hl], ?_⟩
    rw [List.reverse_cons, List.append_assoc]
    exact hk
theorem hck_d : ∀ (n : Nat) (r : List Value) (P : Prop), hck n r P → ((r.map (hv ad)).map fun v => v.category).sum ≤ n ∧ P := by
  intro n r
  induction r generalizing n with
  | nil =>
    intro P h
    refine ⟨by simp, ?_⟩
    cases n <;> exact h
  | cons v r ih =>
    intro P h
    cases v with
    | int x =>
      cases n with
      | zero => exact h.elim
      | succ n => obtain ⟨h1, h2⟩ := ih n P h; exact ⟨by simp [hv, Value.category] at h1 ⊢; omega, h2⟩
    | ref x =>
      cases n with
      | zero => exact h.elim
      | succ n => obtain ⟨h1, h2⟩ := ih n P h; exact ⟨by simp [hv, Value.category] at h1 ⊢; omega, h2⟩
    | null =>
      cases n with
      | zero => exact h.elim
      | succ n => obtain ⟨h1, h2⟩ := ih n P h; exact ⟨by simp [hv, Value.category] at h1 ⊢; omega, h2⟩
    | long x =>
      match n with
      | 0 => exact h.elim
      | 1 => exact h.elim
      | n + 2 => obtain ⟨h1, h2⟩ := ih n P h; exact ⟨by simp [hv, Value.category] at h1 ⊢; omega, h2⟩
    | _ =>
      match n with
      | 0 => exact h.elim
      | 1 => exact h.elim
      | n + 2 => exact h.elim
theorem hblind {B : State → Prop} {av : List Value} (hB : ∀ U g mk a, B U → B (U.calling g mk a)) : FrameBlind (va_Pc av B) := fun a U g mk h => ⟨h.1, hB U g mk a h.2⟩
/-- behind a call -/
theorem hs_back {mc1 ms1 : Nat} {pc : Nat} {la : Array Slot} {H : Heap} {locs : List Loc} {r st0 : List Value} {aa : Array Value} {Q : hRt} (C : hCtx p R s m args c D G ad base ρ own cc nL mc ms B d) (g1 : c' ≤ mc) (g2 : s' ≤ ms) (g3 : N + c' ≤ B) (k1 : mc1 ≤ c') (k2 : ms1 ≤ s') (hS : va_S (hAs base) s.heap H locs) (hl : hl ad la nL ls)
    (hr : va_Run p l e R s m args below meth c H locs (mc - c') (ms - s') mc1 ms1 (F0 m pc la st0) (r.map (hv ad)) (hQc D G ad base ρ (N + mc1) (fun v N' w' => Q v N' (c' - mc1) (s' - ms1) w') aa) (hAs base))
    (hK : ∀ v N c2 s2 w, Q v N c2 s2 w → hAW p l e R s m args below meth c D G ad base ρ nL mc ms B Qf N c2 s2 w (pc + 3) ls (hres v r)) : W p l e R s m args below meth c H locs (mc - c') (ms - s') Qf (F0 m pc la st0) := by
  intro T hT X
  obtain ⟨v, st₀, t, T', L, h0, X', hL, e1, e2, ⟨⟨r1, N', w', hv1, hN', hq, hw'⟩, hz, hk⟩, st⟩ := hr T hT X
  cases hv1
  rw [h0] at hz hk
  have hS' : va_S (hAs base) s.heap T'.heap (locs ++ L) := ⟨Nat.le_trans hS.1 (by rw [e1]; exact hz), fun q h1 h2 => by rw [e1, hk q (Nat.lt_of_lt_of_le h1 hS.1) h2]; exact hS.2.1 q h1 h2, fun q hq => by
      rcases List.mem_append.mp hq with h | h
      · exact hS.2.2 q h
      · exact hL q h⟩
  have h9 := hK r1 N' _ _ w' hq (by omega) (by omega) (by omega) T'.heap (locs ++ L) la (by rw [e1]; exact hw') hS' hl
  rw [show mc - (c' - mc1) = mc - c' + mc1 by omega, show ms - (s' - ms1) = ms - s' + ms1 by omega] at h9
  obtain ⟨t2, a1, b1⟩ := h9 T' rfl X'
  refine ⟨t2, st t2 ?_, b1⟩
  cases r1 with
  | none => exact a1
  | some v => exact a1
theorem hgood {y : MethodName} {bytes : ByteArray} {maxL : Nat} {ret : Option FieldType} (hc : Cond.code y bytes maxL ret ∈ lw_g) : GoodIn lw_g (Cond.code y bytes maxL ret :: lw_g) := fun w h => by
  rcases List.mem_cons.mp h with rfl | h
  · exact ⟨hc, Or.inl rfl⟩
  · exact ⟨h, lw_g_good w h⟩
theorem hPreS {y : MethodName} {H : Heap} {locs : List Loc} {av : List Value} (C : hCtx p R s m args c D G ad base ρ own cc nL mc ms B d) (hw : hW D G ad base ρ N w H) (hS : va_S (hAs base) s.heap H locs) : PreS s H (va_Pc (av.map (hv ad)) fun U => hW D G ad base ρ N w U.heap ∧ hFix D G ad base ρ U U.heap) (av.map (hv ad)) :=
  ⟨hblind fun U g mk a h => ⟨h.1, h.2.blind⟩, fun U hU hW1 => ⟨rfl, by rw [hU]; exact hw, C.fix.to hS hU hW1⟩⟩

theorem hs_invS {idx i0 i1 i2 : Nat} (C : hCtx p R s m args c D G ad base ρ own cc nL mc ms B d) (hd : decode cc pc = .ok (.invokestatic idx, 3)) (ha1 : a1 = 0) (hl0 : lw_tbl[i0]? = some (.methodLink own idx y)) (hl1 : lw_tbl[i1]? = some (.static y)) (hl2 : lw_tbl[i2]? = some (.initialized y.cls)) (hy : y.cls ≠ "java/lang/invoke/MethodHandle" ∧ y.cls ≠ "java/lang/invoke/VarHandle" ∧ (parseMethodDescriptor y.desc).map (fun d => d.parameters.length) = some a2) (h : hx (hΓ l D G ad base ρ d) ret (pc, .invokestatic idx, a1, a2, z, y, wi) N c' s' w ls st K Rt) (hK : ∀ N c' s' w pc ls st, K N c' s' w pc ls st → hAW p l e R s m args below meth c D G ad base ρ nL mc ms B Qf N c' s' w pc ls st) : hAW p l e R s m args below meth c D G ad base ρ nL mc ms B Qf N c' s' w pc ls st := by
  have h : hpN a2 [] st (fun av r => hck 8 r (hΓ l D G ad base ρ d y av N c' s' w fun v N c s w => K N c s w (pc + 3) ls (hres v r))) := by
    subst ha1
    exact h
  obtain ⟨xs, r, rfl, hlen, h⟩ := hpN_d _ _ _ _ h
  rw [List.append_nil] at h
  obtain ⟨hcat, h⟩ := hck_d (ad := ad) _ _ _ h
  obtain ⟨mc1, ms1, k1, k2, bytes, maxL, ret1, hmax, hcode, hM⟩ := h
  intro g1 g2 g3 H locs la hw hS hl
  have hB := C.2.2.2.2.2.2.2.2.2.1
  have hM := hM (by omega)
  have hsz : la.size = nL := hl.2.choose_spec.1.1
  rw [List.map_append]
  refine hs_back (mc1 := mc1) (ms1 := ms1) (Q := fun v N c s w => K N c s w (pc + 3) ls (hres v r)) (r := r) (aa := (xs.reverse.map (hv ad)).toArray) C g1 g2 g3 k1 k2 hS hl ?_ (fun v N c s w hq => hK _ _ _ _ _ _ _ hq)
  exact va_runS (As := xs.reverse.map (hv ad)) (n := a2) ⟨C.1, C.2.1, C.2.2.1, C.hown, C.hts⟩ hM (va_cwS (own := own) (index := idx) (y := y) (Ts := lw_g) a2 C.hts (fun q hq => by
      rcases List.mem_append.mp hq with h | h
      · have hq : q = .methodLink own idx y ∨ q = .static y ∨ q = .initialized y.cls := by simpa using h
        rcases hq with rfl | rfl | rfl
        · exact ⟨lw_g_in hl0 rfl, Or.inl rfl⟩
        · exact ⟨lw_g_in hl1 rfl, Or.inl rfl⟩
        · exact ⟨lw_g_in hl2 rfl, Or.inl rfl⟩
      · exact hgood hcode q h) rfl rfl rfl hy (by have := C.fr; constructor <;> simp <;> omega)) (hPreS (y := y) C hw hS) rfl (by simp [hlen]) hsz (by simp) (lv_room hcat) hd ⟨by rw [C.rc.1]; omega, by rw [C.rc.2]; omega⟩
theorem hs_invSN {idx i1 i2 : Nat} {host : String} (C : hCtx p R s m args c D G ad base ρ own cc nL mc ms B d) (hd : decode cc pc = .ok (.invokestatic idx, 3)) (ha1 : a1 = 2) (hm : (own, idx, y, host) ∈ hnst) (hl1 : lw_tbl[i1]? = some (.static y)) (hl2 : lw_tbl[i2]? = some (.initialized y.cls)) (hy : y.cls ≠ "java/lang/invoke/MethodHandle" ∧ y.cls ≠ "java/lang/invoke/VarHandle" ∧ (parseMethodDescriptor y.desc).map (fun d => d.parameters.length) = some a2) (h : hx (hΓ l D G ad base ρ d) ret (pc, .invokestatic idx, a1, a2, z, y, wi) N c' s' w ls st K Rt) (hK : ∀ N c' s' w pc ls st, K N c' s' w pc ls st → hAW p l e R s m args below meth c D G ad base ρ nL mc ms B Qf N c' s' w pc ls st) : hAW p l e R s m args below meth c D G ad base ρ nL mc ms B Qf N c' s' w pc ls st := by
  have h : hpN a2 [] st (fun av r => hck 8 r (hΓ l D G ad base ρ d y av N c' s' w fun v N c s w => K N c s w (pc + 3) ls (hres v r))) := by
    subst ha1
    exact h
  obtain ⟨xs, r, rfl, hlen, h⟩ := hpN_d _ _ _ _ h
  rw [List.append_nil] at h
  obtain ⟨hcat, h⟩ := hck_d (ad := ad) _ _ _ h
  obtain ⟨mc1, ms1, k1, k2, bytes, maxL, ret1, hmax, hcode, hM⟩ := h
  intro g1 g2 g3 H locs la hw hS hl
  have hB := C.2.2.2.2.2.2.2.2.2.1
  have hM := hM (by omega)
  have hsz : la.size = nL := hl.2.choose_spec.1.1
  rw [List.map_append]
  refine hs_back (mc1 := mc1) (ms1 := ms1) (Q := fun v N c s w => K N c s w (pc + 3) ls (hres v r)) (r := r) (aa := (xs.reverse.map (hv ad)).toArray) C g1 g2 g3 k1 k2 hS hl ?_ (fun v N c s w hq => hK _ _ _ _ _ _ _ hq)
  exact va_runSN (As := xs.reverse.map (hv ad)) (n := a2) ⟨C.1, C.2.1, C.2.2.1, C.hown, C.hts⟩ hM ⟨va_cnB (own := own) (index := idx) (y := y) (Ts := lw_g) a2 C.hts (hgood hcode) rfl rfl rfl (C.fix.2.2.2.2.1 _ hm) (C.hts _ (lw_g_in hl2 rfl)) hy (by have := C.fr; constructor <;> simp <;> omega), C.hts _ (lw_g_in hl1 rfl), trivial⟩ (hPreS (y := y) C hw hS) rfl (by simp [hlen]) hsz (by simp) (lv_room hcat) hd ⟨by rw [C.rc.1]; omega, by rw [C.rc.2]; omega⟩
theorem hPreV {y : MethodName} {H : Heap} {locs : List Loc} {av : List Value} {b ci : Nat} {fs : List Value} (C : hCtx p R s m args c D G ad base ρ own cc nL mc ms B d) (hci : ci < 7) (hw : hW D G ad base ρ N w H) (hS : va_S (hAs base) s.heap H locs) (hb : ∃ q, w b = .inr (q, fs) ∧ (q = ci ∨ (q = 10 ∧ ci = 0))) : PreV s H (hC ci) (ad b) (va_Pc ((Value.ref b :: av).map (hv ad)) fun U => hW D G ad base ρ N w U.heap ∧ hFix D G ad base ρ U U.heap) (av.map (hv ad)) := by
  refine ⟨hblind fun U g mk a h => ⟨h.1, h.2.blind⟩, ?_, fun U hU hW1 => ⟨rfl, by rw [hU]; exact hw, C.fix.to hS hU hW1⟩⟩
  obtain ⟨q, h1, h2⟩ := hb
  obtain ⟨e1, -⟩ := hcls hci
  rcases h2 with rfl | ⟨rfl, rfl⟩
  · have hb2 := hmutO C.fix hw h1 (by omega)
    exact va_recv C.fix.1 hw.1 e1 (q0 := b) (by rw [hws_get hb2, h1]; rfl)
  · obtain ⟨v0, k0, rfl, ⟨cell, o1, o2, o3, o4⟩, -⟩ := hroS C.fix hw h1
    exact ⟨cell, by rw [hS.2.1 _ (Array.getElem?_eq_some_iff.mp o1).1 o4]; exact o1, o2, o3⟩

theorem hs_invV {idx i0 i1 i2 i3 : Nat} (C : hCtx p R s m args c D G ad base ρ own cc nL mc ms B d) (hd : decode cc pc = .ok (.invokevirtual idx, 3)) (hci : a1 < 7) (hl0 : lw_tbl[i0]? = some (.methodLink own idx y)) (hl1 : lw_tbl[i1]? = some (.instanceMethod y)) (hl2 : lw_tbl[i2]? = some (.selects (hC a1) y y)) (hl3 : lw_tbl[i3]? = some (.initialized (hC a1))) (hy : y.cls = hC a1 ∧ y.cls ≠ "java/lang/invoke/MethodHandle" ∧ y.cls ≠ "java/lang/invoke/VarHandle" ∧ (parseMethodDescriptor y.desc).map (fun d => d.parameters.length) = some a2) (h : hx (hΓ l D G ad base ρ d) ret (pc, .invokevirtual idx, a1, a2, z, y, wi) N c' s' w ls st K Rt) (hK : ∀ N c' s' w pc ls st, K N c' s' w pc ls st → hAW p l e R s m args below meth c D G ad base ρ nL mc ms B Qf N c' s' w pc ls st) : hAW p l e R s m args below meth c D G ad base ρ nL mc ms B Qf N c' s' w pc ls st := by
  have h : hpN a2 [] st (fun av r => hpA r fun a r => hck 8 r (hcl a1 (w a) (hΓ l D G ad base ρ d y (.ref a :: av) N c' s' w fun v N c s w => K N c s w (pc + 3) ls (hres v r)))) := by
    match a1, hci with
    | 0, _ => exact h
    | 1, _ => exact h
    | 2, _ => exact h
    | 3, _ => exact h
    | 4, _ => exact h
    | 5, _ => exact h
    | 6, _ => exact h
  obtain ⟨xs, r, rfl, hlen, h⟩ := hpN_d _ _ _ _ h
  rw [List.append_nil] at h
  obtain ⟨b, r, rfl, h⟩ := hpA_d h
  obtain ⟨hcat, h⟩ := hck_d (ad := ad) _ _ _ h
  obtain ⟨q0, fs, hb, hq0, h⟩ := hcl_d h
  obtain ⟨mc1, ms1, k1, k2, bytes, maxL, ret1, hmax, hcode, hM⟩ := h
  intro g1 g2 g3 H locs la hw hS hl
  have hB := C.2.2.2.2.2.2.2.2.2.1
  have hM := hM (by omega)
  have hsz : la.size = nL := hl.2.choose_spec.1.1
  rw [List.map_append]
  refine hs_back (mc1 := mc1) (ms1 := ms1) (Q := fun v N c s w => K N c s w (pc + 3) ls (hres v r)) (r := r) (aa := (Value.ref (ad b) :: xs.reverse.map (hv ad)).toArray) C g1 g2 g3 k1 k2 hS hl ?_ (fun v N c s w hq => hK _ _ _ _ _ _ _ hq)
  exact va_runV (C := hC a1) (As := xs.reverse.map (hv ad)) (n := a2) ⟨C.1, C.2.1, C.2.2.1, C.hown, C.hts⟩ hM (cwV (own := own) (index := idx) (C := hC a1) (y := y) (Ts := lw_g) a2 C.hts (fun q hq => by
      rcases List.mem_append.mp hq with h | h
      · have hq : q = .methodLink own idx y ∨ q = .instanceMethod y ∨ q = .selects (hC a1) y y ∨ q = .initialized (hC a1) := by simpa using h
        rcases hq with rfl | rfl | rfl | rfl
        · exact ⟨lw_g_in hl0 rfl, Or.inl rfl⟩
        · exact ⟨lw_g_in hl1 rfl, Or.inl rfl⟩
        · exact ⟨lw_g_in hl2 rfl, Or.inl rfl⟩
        · exact ⟨lw_g_in hl3 rfl, Or.inl rfl⟩
      · exact hgood hcode q h) rfl rfl rfl hy (by have := C.fr; constructor <;> simp <;> omega)) (hPreV (y := y) C hci hw hS ⟨q0, hb, hq0⟩) rfl (by simp [hlen]) hsz (by simp [hv]) (lv_room hcat) hd ⟨by rw [C.rc.1]; omega, by rw [C.rc.2]; omega⟩
theorem hs_invI {idx i0 i1 i2 : Nat} (C : hCtx p R s m args c D G ad base ρ own cc nL mc ms B d) (hd : decode cc pc = .ok (.invokespecial idx, 3)) (hci : a1 < 7) (hl0 : lw_tbl[i0]? = some (.methodLink own idx y)) (hl1 : lw_tbl[i1]? = some (.instanceMethod y)) (hl2 : lw_tbl[i2]? = some (.initialized y.cls)) (hnm : y.name = "<init>") (hrn : ∀ b m r, Cond.code y b m r ∈ lw_g → r = none) (hy : y.cls ≠ "java/lang/invoke/MethodHandle" ∧ y.cls ≠ "java/lang/invoke/VarHandle" ∧ (parseMethodDescriptor y.desc).map (fun d => d.parameters.length) = some a2) (h : hx (hΓ l D G ad base ρ d) ret (pc, .invokespecial idx, a1, a2, z, y, wi) N c' s' w ls st K Rt) (hK : ∀ N c' s' w pc ls st, K N c' s' w pc ls st → hAW p l e R s m args below meth c D G ad base ρ nL mc ms B Qf N c' s' w pc ls st) : hAW p l e R s m args below meth c D G ad base ρ nL mc ms B Qf N c' s' w pc ls st := by
  have h : hpN a2 [] st (fun av r => hpA r fun a r => hck 8 r (hcl a1 (w a) (hΓ l D G ad base ρ d y (.ref a :: av) N c' s' w fun v N c s w => K N c s w (pc + 3) ls (hres v r)))) := by
    match a1, hci with
    | 0, _ => exact h
    | 1, _ => exact h
    | 2, _ => exact h
    | 3, _ => exact h
    | 4, _ => exact h
    | 5, _ => exact h
    | 6, _ => exact h
  obtain ⟨xs, r, rfl, hlen, h⟩ := hpN_d _ _ _ _ h
  rw [List.append_nil] at h
  obtain ⟨b, r, rfl, h⟩ := hpA_d h
  obtain ⟨hcat, h⟩ := hck_d (ad := ad) _ _ _ h
  obtain ⟨q0, fs, hb, hq0, h⟩ := hcl_d h
  obtain ⟨mc1, ms1, k1, k2, bytes, maxL, ret1, hmax, hcode, hM⟩ := h
  intro g1 g2 g3 H locs la hw hS hl
  have hB := C.2.2.2.2.2.2.2.2.2.1
  have hM := hM (by omega)
  have hsz : la.size = nL := hl.2.choose_spec.1.1
  rw [List.map_append]
  refine hs_back (mc1 := mc1) (ms1 := ms1) (Q := fun v N c s w => K N c s w (pc + 3) ls (hres v r)) (r := r) (aa := (Value.ref (ad b) :: xs.reverse.map (hv ad)).toArray) C g1 g2 g3 k1 k2 hS hl ?_ (fun v N c s w hq => hK _ _ _ _ _ _ _ hq)
  have hret : ret1 = none := hrn _ _ _ hcode
  subst hret
  exact va_runI (As := xs.reverse.map (hv ad)) (n := a2) ⟨C.1, C.2.1, C.2.2.1, C.hown, C.hts⟩ hM (cwI (own := own) (index := idx) (y := y) (Ts := lw_g) a2 C.hts (hgood hcode) rfl rfl rfl (C.hts _ (lw_g_in hl2 rfl)) (C.hts _ (lw_g_in hl0 rfl)) (C.hts _ (lw_g_in hl1 rfl)) hnm hy (by have := C.fr; constructor <;> simp <;> omega)) (hPreS (y := y) (av := Value.ref b :: xs.reverse) C hw hS) rfl (by simp [hlen]) hsz (by simp [hv]) (lv_room hcat) hd ⟨by rw [C.rc.1]; omega, by rw [C.rc.2]; omega⟩
theorem hs_invIN {idx i1 i2 : Nat} {host : String} (C : hCtx p R s m args c D G ad base ρ own cc nL mc ms B d) (hd : decode cc pc = .ok (.invokespecial idx, 3)) (hci : a1 < 7) (hm : (own, idx, y, host) ∈ hnst) (hl1 : lw_tbl[i1]? = some (.instanceMethod y)) (hl2 : lw_tbl[i2]? = some (.initialized y.cls)) (hnm : y.name = "<init>") (hrn : ∀ b m r, Cond.code y b m r ∈ lw_g → r = none) (hy : y.cls ≠ "java/lang/invoke/MethodHandle" ∧ y.cls ≠ "java/lang/invoke/VarHandle" ∧ (parseMethodDescriptor y.desc).map (fun d => d.parameters.length) = some a2) (h : hx (hΓ l D G ad base ρ d) ret (pc, .invokespecial idx, a1, a2, z, y, wi) N c' s' w ls st K Rt) (hK : ∀ N c' s' w pc ls st, K N c' s' w pc ls st → hAW p l e R s m args below meth c D G ad base ρ nL mc ms B Qf N c' s' w pc ls st) : hAW p l e R s m args below meth c D G ad base ρ nL mc ms B Qf N c' s' w pc ls st := by
  have h : hpN a2 [] st (fun av r => hpA r fun a r => hck 8 r (hcl a1 (w a) (hΓ l D G ad base ρ d y (.ref a :: av) N c' s' w fun v N c s w => K N c s w (pc + 3) ls (hres v r)))) := by
    match a1, hci with
    | 0, _ => exact h
    | 1, _ => exact h
    | 2, _ => exact h
    | 3, _ => exact h
    | 4, _ => exact h
    | 5, _ => exact h
    | 6, _ => exact h
  obtain ⟨xs, r, rfl, hlen, h⟩ := hpN_d _ _ _ _ h
  rw [List.append_nil] at h
  obtain ⟨b, r, rfl, h⟩ := hpA_d h
  obtain ⟨hcat, h⟩ := hck_d (ad := ad) _ _ _ h
  obtain ⟨q0, fs, hb, hq0, h⟩ := hcl_d h
  obtain ⟨mc1, ms1, k1, k2, bytes, maxL, ret1, hmax, hcode, hM⟩ := h
  intro g1 g2 g3 H locs la hw hS hl
  have hB := C.2.2.2.2.2.2.2.2.2.1
  have hM := hM (by omega)
  have hsz : la.size = nL := hl.2.choose_spec.1.1
  rw [List.map_append]
  refine hs_back (mc1 := mc1) (ms1 := ms1) (Q := fun v N c s w => K N c s w (pc + 3) ls (hres v r)) (r := r) (aa := (Value.ref (ad b) :: xs.reverse.map (hv ad)).toArray) C g1 g2 g3 k1 k2 hS hl ?_ (fun v N c s w hq => hK _ _ _ _ _ _ _ hq)
  have hret : ret1 = none := hrn _ _ _ hcode
  subst hret
  exact va_runIN (As := xs.reverse.map (hv ad)) (n := a2) ⟨C.1, C.2.1, C.2.2.1, C.hown, C.hts⟩ hM ⟨va_cnB (own := own) (index := idx) (y := y) (Ts := lw_g) a2 C.hts (hgood hcode) rfl rfl rfl (C.fix.2.2.2.2.1 _ hm) (C.hts _ (lw_g_in hl2 rfl)) hy (by have := C.fr; constructor <;> simp <;> omega), hnm, C.hts _ (lw_g_in hl1 rfl)⟩ (hPreS (y := y) (av := Value.ref b :: xs.reverse) C hw hS) rfl (by simp [hlen]) hsz (by simp [hv]) (lv_room hcat) hd ⟨by rw [C.rc.1]; omega, by rw [C.rc.2]; omega⟩
theorem hs_objI {idx i0 i1 i2 : Nat} (C : hCtx p R s m args c D G ad base ρ own cc nL mc ms B d) (hd : decode cc pc = .ok (.invokespecial idx, 3)) (ha1 : a1 = 100) (hl0 : lw_tbl[i0]? = some (.methodLink own idx Lib.objectInit)) (hl1 : lw_tbl[i1]? = some (.instanceMethod Lib.objectInit)) (hl2 : lw_tbl[i2]? = some (.code Lib.objectInit ⟨#[0xb1]⟩ 1 none)) (h : hx Γ ret (pc, .invokespecial idx, a1, a2, z, y, wi) N c' s' w ls st K Rt) (hK : ∀ N c' s' w pc ls st, K N c' s' w pc ls st → hAW p l e R s m args below meth c D G ad base ρ nL mc ms B Qf N c' s' w pc ls st) : hAW p l e R s m args below meth c D G ad base ρ nL mc ms B Qf N c' s' w pc ls st := by
  have h : hpA st fun _ r => hck 8 r (K N c' s' w (pc + 3) ls r) := by
    subst ha1
    exact h
  obtain ⟨b, r, rfl, h⟩ := hpA_d h
  obtain ⟨hcat, h⟩ := hck_d (ad := ad) _ _ _ h
  intro g1 g2 g3 H locs la hw hS hl
  have hsz : la.size = nL := hl.2.choose_spec.1.1
  have hfr := C.fr
  exact W.objInit C.1 C.2.1 C.hown (C.hts _ (lw_g_in hl0 rfl)) (C.hts _ (lw_g_in hl1 rfl)) (C.hts _ (lw_g_in hl2 rfl)) rfl (hsz.trans C.2.2.1.symm) rfl hd (by omega) (by show 2 * 0 + _ + 12 ≤ _; omega) (hK _ _ _ _ _ _ _ h g1 g2 g3 H locs la hw hS hl)
theorem hs_mmin {idx i0 i1 i2 i3 : Nat} (C : hCtx p R s m args c D G ad base ρ own cc nL mc ms B d) (hd : decode cc pc = .ok (.invokestatic idx, 3)) (ha1 : a1 = 3) (hl0 : lw_tbl[i0]? = some (.methodLink own idx Lib.Math.min.name)) (hl1 : lw_tbl[i1]? = some (.static Lib.Math.min.name)) (hl2 : lw_tbl[i2]? = some (.initialized "java/lang/Math")) (hl3 : lw_tbl[i3]? = some (.code Lib.Math.min.name Lib.Math.min.code 2 (some .int))) (h : hx Γ ret (pc, .invokestatic idx, a1, a2, z, y, wi) N c' s' w ls st K Rt) (hK : ∀ N c' s' w pc ls st, K N c' s' w pc ls st → hAW p l e R s m args below meth c D G ad base ρ nL mc ms B Qf N c' s' w pc ls st) : hAW p l e R s m args below meth c D G ad base ρ nL mc ms B Qf N c' s' w pc ls st := by
  subst ha1
  obtain ⟨y, r, rfl, h⟩ := hpI_d h
  obtain ⟨x, r, rfl, h⟩ := hpI_d h
  obtain ⟨hcat, h⟩ := hck_d (ad := ad) _ _ _ h
  intro g1 g2 g3 H locs la hw hS hl
  have hsz : la.size = nL := hl.2.choose_spec.1.1
  have hfr := C.fr
  exact va_mmin C.1 C.2.1 (C.2.2.1.trans hsz.symm) C.hown (C.hts _ (lw_g_in hl0 rfl)) (C.hts _ (lw_g_in hl1 rfl)) (C.hts _ (lw_g_in hl2 rfl)) (C.hts _ (lw_g_in hl3 rfl)) (by omega) (by omega) (by rw [C.rc.1]; omega) (by rw [C.rc.2]; omega) hd (hK _ _ _ _ _ _ _ h g1 g2 g3 H locs la hw hS hl)
theorem hs_mmax {idx i0 i1 i2 i3 : Nat} (C : hCtx p R s m args c D G ad base ρ own cc nL mc ms B d) (hd : decode cc pc = .ok (.invokestatic idx, 3)) (ha1 : a1 = 4) (hl0 : lw_tbl[i0]? = some (.methodLink own idx Lib.Math.max.name)) (hl1 : lw_tbl[i1]? = some (.static Lib.Math.max.name)) (hl2 : lw_tbl[i2]? = some (.initialized "java/lang/Math")) (hl3 : lw_tbl[i3]? = some (.code Lib.Math.max.name Lib.Math.max.code 2 (some .int))) (h : hx Γ ret (pc, .invokestatic idx, a1, a2, z, y, wi) N c' s' w ls st K Rt) (hK : ∀ N c' s' w pc ls st, K N c' s' w pc ls st → hAW p l e R s m args below meth c D G ad base ρ nL mc ms B Qf N c' s' w pc ls st) : hAW p l e R s m args below meth c D G ad base ρ nL mc ms B Qf N c' s' w pc ls st := by
  subst ha1
  obtain ⟨y, r, rfl, h⟩ := hpI_d h
  obtain ⟨x, r, rfl, h⟩ := hpI_d h
  obtain ⟨hcat, h⟩ := hck_d (ad := ad) _ _ _ h
  intro g1 g2 g3 H locs la hw hS hl
  have hsz : la.size = nL := hl.2.choose_spec.1.1
  have hfr := C.fr
  exact va_mmax C.1 C.2.1 (C.2.2.1.trans hsz.symm) C.hown (C.hts _ (lw_g_in hl0 rfl)) (C.hts _ (lw_g_in hl1 rfl)) (C.hts _ (lw_g_in hl2 rfl)) (C.hts _ (lw_g_in hl3 rfl)) (by omega) (by omega) (by rw [C.rc.1]; omega) (by rw [C.rc.2]; omega) hd (hK _ _ _ _ _ _ _ h g1 g2 g3 H locs la hw hS hl)
theorem hs_mabs {idx i0 i1 i2 i3 : Nat} (C : hCtx p R s m args c D G ad base ρ own cc nL mc ms B d) (hd : decode cc pc = .ok (.invokestatic idx, 3)) (ha1 : a1 = 5) (hl0 : lw_tbl[i0]? = some (.methodLink own idx Lib.MathLoose.abs_long.x)) (hl1 : lw_tbl[i1]? = some (.static Lib.MathLoose.abs_long.x)) (hl2 : lw_tbl[i2]? = some (.initialized "java/lang/Math")) (hl3 : lw_tbl[i3]? = some (.code Lib.MathLoose.abs_long.x Lib.MathLoose.abs_long.code 2 (some .long))) (h : hx Γ ret (pc, .invokestatic idx, a1, a2, z, y, wi) N c' s' w ls st K Rt) (hK : ∀ N c' s' w pc ls st, K N c' s' w pc ls st → hAW p l e R s m args below meth c D G ad base ρ nL mc ms B Qf N c' s' w pc ls st) : hAW p l e R s m args below meth c D G ad base ρ nL mc ms B Qf N c' s' w pc ls st := by
  subst ha1
  obtain ⟨x, r, rfl, h⟩ := hpL_d h
  obtain ⟨hcat, h⟩ := hck_d (ad := ad) _ _ _ h
  intro g1 g2 g3 H locs la hw hS hl
  have hsz : la.size = nL := hl.2.choose_spec.1.1
  have hfr := C.fr
  exact va_mabs_long C.1 C.2.1 (C.2.2.1.trans hsz.symm) C.hown (C.hts _ (lw_g_in hl0 rfl)) (C.hts _ (lw_g_in hl1 rfl)) (C.hts _ (lw_g_in hl2 rfl)) (C.hts _ (lw_g_in hl3 rfl)) (by omega) (by omega) (by rw [C.rc.1]; omega) (by rw [C.rc.2]; omega) hd (hK _ _ _ _ _ _ _ h g1 g2 g3 H locs la hw hS hl)
theorem hacp_d {e0 e1 : hE} {sp dp n : Int32} {k : hE → Prop} (h : hacp e0 e1 sp dp n k) : ∃ t n0 n1 f g ty, ((t = 0 ∧ ty = FieldType.int) ∨ (t = 2 ∧ ty = FieldType.byte)) ∧ e0 = .inl (t, n0, .inl f) ∧ e1 = .inl (t, n1, .inl g) ∧ ¬ sp < 0 ∧ ¬ dp < 0 ∧ ¬ n < 0 ∧ sp.toNatClampNeg + n.toNatClampNeg ≤ n0 ∧ dp.toNatClampNeg + n.toNatClampNeg ≤ n1 ∧
    (∀ i, i < n.toNatClampNeg → fits ty (.int (f (sp.toNatClampNeg + i))) = true) ∧ k (.inl (t, n1, .inl (va_cpy f g sp.toNatClampNeg dp.toNatClampNeg n.toNatClampNeg))) := by
  unfold hacp at h; split at h
  · exact ⟨_, _, _, _, _, _, Or.inl ⟨rfl, rfl⟩, rfl, rfl, h.1, h.2.1, h.2.2.1, h.2.2.2.1, h.2.2.2.2.1, fun _ _ => rfl, h.2.2.2.2.2⟩
  · exact ⟨_, _, _, _, _, _, Or.inr ⟨rfl, rfl⟩, rfl, rfl, h.1, h.2.1, h.2.2.1, h.2.2.2.1, h.2.2.2.2.1, h.2.2.2.2.2.1, h.2.2.2.2.2.2⟩
  · exact h.elim
theorem hnn {z : Int32} (hz : ¬ z < 0) : z.toInt = (z.toNatClampNeg : Int) := by
  have h1 : (0 : Int) ≤ z.toInt := by
    have := Int32.le_iff_toInt_le.mp (Int32.not_lt.mp hz)
    rwa [Int32.toInt_zero] at this
  show z.toInt = ((z.toInt.toNat : Nat) : Int)
  omega
theorem hs_acopy {idx i0 i1 i2 i3 : Nat} (C : hCtx p R s m args c D G ad base ρ own cc nL mc ms B d) (hd : decode cc pc = .ok (.invokestatic idx, 3)) (ha1 : a1 = 1) (hl0 : lw_tbl[i0]? = some (.methodLink own idx arraycopyName)) (hl1 : lw_tbl[i1]? = some (.native arraycopyName)) (hl2 : lw_tbl[i2]? = some (.static arraycopyName)) (hl3 : lw_tbl[i3]? = some (.initialized "java/lang/System")) (h : hx Γ ret (pc, .invokestatic idx, a1, a2, z, y, wi) N c' s' w ls st K Rt) (hK : ∀ N c' s' w pc ls st, K N c' s' w pc ls st → hAW p l e R s m args below meth c D G ad base ρ nL mc ms B Qf N c' s' w pc ls st) : hAW p l e R s m args below meth c D G ad base ρ nL mc ms B Qf N c' s' w pc ls st := by
  subst ha1
  obtain ⟨nn, r, rfl, h⟩ := hpI_d h
  obtain ⟨dp, r, rfl, h⟩ := hpI_d h
  obtain ⟨b, r, rfl, h⟩ := hpA_d h
  obtain ⟨sp, r, rfl, h⟩ := hpI_d h
  obtain ⟨a, r, rfl, h⟩ := hpA_d h
  obtain ⟨hcat, h⟩ := hck_d (ad := ad) _ _ _ h
  obtain ⟨t, n0, n1, f, g, ty, hty, e0, e1, k1, k2, k3, k4, k5, k6, h⟩ := hacp_d h
  intro g1 g2 g3 H locs la hw hS hl
  have hsz : la.size = nL := hl.2.choose_spec.1.1
  have hfr := C.fr
  have ht : t < 7 ∧ (htys G)[t]? = some (G t, ty) ∧ refKind ty = false := by rcases hty with ⟨rfl, rfl⟩ | ⟨rfl, rfl⟩ <;> exact ⟨by decide, rfl, rfl⟩
  have ha := hmutA C.fix hw e0 (by omega)
  have hb := hmutA C.fix hw e1 (by omega)
  have q0 : H[ad a]? = some (arrV (G t) n0 (fun j => .int (f j))) := hw.at ha e0
  have q1 : H[ad b]? = some (arrV (G t) n1 (fun j => .int (g j))) := hw.at hb e1
  obtain ⟨-, k, hk, comp, hkk⟩ := (C.fix.1.2 t _ ht.2.1).1 n0 (fun j => .int (f j))
  have e9 : nativeFrameWords "java/lang/System" "arraycopy" 5 = 7 := by decide
  intro T hT X
  obtain ⟨vm', X', step⟩ := X.arraycopy C.1 C.hown (C.hts _ (lw_g_in hl0 rfl)) (C.hts _ (lw_g_in hl1 rfl)) (C.hts _ (lw_g_in hl2 rfl)) (C.hts _ (lw_g_in hl3 rfl)) (src := ad a) (dst := ad b) (cs := arrV (G t) n0 (fun j => .int (f j))) (cd := arrV (G t) n1 (fun j => .int (g j))) (srcPos := sp) (destPos := dp) (n := nn)
    (by rw [hT]; exact q0) (by rw [hT]; exact q1) (fun _ q => by cases q) (fun _ q => by cases q) (fun q => by cases q) (fun q => by cases q) hk hk hkk hkk (by simp [ht.2.2]) k1 k2 k3
    (by rw [hnn k1, hnn k3, arrV_size]; omega) (by rw [hnn k2, hnn k3, arrV_size]; omega)
    (fun vm₁ _ i hi => by
      have e : (arrV (G t) n0 (fun j => .int (f j))).slots.getD (sp.toNatClampNeg + i) .null = .int (f (sp.toNatClampNeg + i)) := by rw [Array.getD_eq_getD_getElem?, arrV_read _ _ (by omega)]; rfl
      rw [e]; exact ⟨k6 i hi, trivial⟩)
    (g := F0 m pc la (.int nn :: .int dp :: .ref (ad b) :: .int sp :: .ref (ad a) :: r.map (hv ad))) rfl (by rw [C.2.2.1]; exact hsz) (rest := r.map (hv ad)) rfl (by rw [C.2.1]; exact hd) (by omega) (by rw [e9]; show 2 * 0 + _ + _ ≤ _; omega)
  have ec : copied (arrV (G t) n0 (fun j => .int (f j))) (arrV (G t) n1 (fun j => .int (g j))) sp dp nn = arrV (G t) n1 (fun j => .int (va_cpy f g sp.toNatClampNeg dp.toNatClampNeg nn.toNatClampNeg j)) := va_copied (fun z => .int z) (G t) (G t) f g k4
  rw [ec] at X' step
  generalize hcl : arrV (G t) n1 (fun j => .int (va_cpy f g sp.toNatClampNeg dp.toNatClampNeg nn.toNatClampNeg j)) = cl at X' step
  have hlt : ad b < H.size := (Array.getElem?_eq_some_iff.mp q1).1
  have hheap : ((T.setVm vm').setCell (ad b) cl).heap = H.setIfInBounds (ad b) cl := by rw [← hT]; rfl
  have oq : ∀ q : Nat, q ≠ ad b → (H.setIfInBounds (ad b) cl)[q]? = H[q]? := fun q hq => by simp [Array.getElem?_setIfInBounds, Ne.symm hq]
  have self : (H.setIfInBounds (ad b) cl)[ad b]? = some cl := by simp [Array.getElem?_setIfInBounds, hlt]
  have hA := hA_in C.had (C.bound g3) hb
  have h9 := hK _ _ _ _ _ _ _ h g1 g2 g3 (H.setIfInBounds (ad b) cl) (locs ++ ((arrV (G t) n0 (fun j => .int (f j))).stretch sp.toNatClampNeg nn.toNatClampNeg).zipIdx.map fun q => ⟨ad b, dp.toNatClampNeg + q.2⟩) la (hw.write C.had (C.bound g3) hb (show t < 7 from ht.1) (by simp) oq (by show (H.setIfInBounds (ad b) cl)[ad b]? = some (arrV (G t) n1 (fun j => .int (va_cpy f g sp.toNatClampNeg dp.toNatClampNeg nn.toNatClampNeg j))); rw [hcl]; exact self))
    ⟨by simp; exact hS.1, fun q g1 g2 => by rw [oq q (fun e => g2 (by rw [e]; exact hA))]; exact hS.2.1 q g1 g2, fun q hq => by
      rcases List.mem_append.mp hq with h | h
      · exact hS.2.2 q h
      · obtain ⟨z, -, hz⟩ := List.mem_map.mp h
        rw [← hz]; exact hA⟩ hl
  obtain ⟨t2, b1, b2⟩ := h9 _ hheap X'
  exact ⟨t2, step t2 b1, b2⟩
theorem hs_ldcwS {idx : Nat} {tx : String} (C : hCtx p R s m args c D G ad base ρ own cc nL mc ms B d) (hd : decode cc pc = .ok (.ldc_w idx, 3)) (ha1 : a1 = 1) (hm : (own, idx, tx, a2) ∈ htxt) (h : hx Γ ret (pc, .ldc_w idx, a1, a2, z, y, wi) N c' s' w ls st K Rt) (hK : ∀ N c' s' w pc ls st, K N c' s' w pc ls st → hAW p l e R s m args below meth c D G ad base ρ nL mc ms B Qf N c' s' w pc ls st) : hAW p l e R s m args below meth c D G ad base ρ nL mc ms B Qf N c' s' w pc ls st := by
  subst ha1
  intro g1 g2 g3 H locs la hw hS hl
  obtain ⟨hZ1, hZ2⟩ := C.fix.2.2.2.1 _ hm
  have h9 := (hK _ _ _ _ _ _ _ h g1 g2 g3 H locs la hw hS hl)
  intro T hT X
  obtain ⟨k, cf, i, a', hk, hcf, hcp, -, hr, hev'⟩ := Cond.stringRef_spec C.hown hZ1
  cases hZ2.symm.trans hev'
  obtain ⟨k', hk', he⟩ := X.warmed.alike.2.2 _ _ hk
  have hr' : k'.resolved[idx]? = some (some (.string (ad (1000005 + a2)))) := by
    rcases X.warmed.entry hk hk' idx with q | ⟨q, -⟩
    · rw [q]; exact hr
    · rw [hr] at q; cases q
  obtain ⟨t, b1, b2⟩ := h9 T hT X
  have hd' : decode c.code pc = .ok (.ldc_w idx, 3) := by rw [C.2.1]; exact hd
  refine ⟨t, ?_, b2⟩
  have hx := C.1
  jvm_step X.here [hx, hd', ldc_w.wp_string (e := e) (s := T) (f := F0 m pc la (st.map (hv ad))) X.here.top hk' (by rw [he]; exact hcf) hcp hr']
  exact b1
theorem hs_acmp {o : Int} (C : hCtx p R s m args c D G ad base ρ own cc nL mc ms B d) (hd : decode cc pc = .ok (.if_acmp .ne o, 3)) (ht : (pc : Int) + o = (a1 : Int)) (h : hx Γ ret (pc, .if_acmp .ne o, a1, a2, z, y, wi) N c' s' w ls st K Rt) (hK : ∀ N c' s' w pc ls st, K N c' s' w pc ls st → hAW p l e R s m args below meth c D G ad base ρ nL mc ms B Qf N c' s' w pc ls st) : hAW p l e R s m args below meth c D G ad base ρ nL mc ms B Qf N c' s' w pc ls st := by
  obtain ⟨y1, r, rfl, h⟩ := hpA_d h
  obtain ⟨x1, r, rfl, hc, h1, h2⟩ := hpA_d h
  intro g1 g2 g3 H locs la hw hS hl
  have hne : ∀ q1 q2 : Nat, q1 < 1000000 → ad q1 = ad q2 → q1 = q2 := fun q1 q2 k1 k2 => by
    have k3 := C.had.1 q1 k1
    by_cases k4 : q2 < 1000000
    · have k5 := C.had.1 q2 k4; omega
    · have k5 := C.had.2 q2 (by omega); omega
  refine lv_acmp_ne (rx := some (ad x1)) (ry := some (ad y1)) C.1 C.2.1 hd ht (fun g => hK _ _ _ _ _ _ _ (h2 (fun q => g (by rw [q]))) g1 g2 g3 H locs la hw hS hl) (fun g => hK _ _ _ _ _ _ _ (h1 ?_) g1 g2 g3 H locs la hw hS hl)
  have g := Option.some.inj g
  rcases hc with k | k
  · exact hne _ _ k g
  · exact (hne _ _ k g.symm).symm
theorem hs_instanceof {idx i0 : Nat} (C : hCtx p R s m args c D G ad base ρ own cc nL mc ms B d) (hd : decode cc pc = .ok (.instanceof idx, 3)) (hl0 : lw_tbl[i0]? = some (.classLink own idx "java/lang/String")) (h : hx Γ ret (pc, .instanceof idx, a1, a2, z, y, wi) N c' s' w ls st K Rt) (hK : ∀ N c' s' w pc ls st, K N c' s' w pc ls st → hAW p l e R s m args below meth c D G ad base ρ nL mc ms B Qf N c' s' w pc ls st) : hAW p l e R s m args below meth c D G ad base ρ nL mc ms B Qf N c' s' w pc ls st := by
  obtain ⟨b, r, rfl, h⟩ := hpA_d h
  obtain ⟨q0, fs, hb, hq0, h⟩ := hcl_d h
  intro g1 g2 g3 H locs la hw hS hl
  obtain ⟨-, hr, -⟩ := hPreV (y := yJ0_length_8abf5) (av := []) C (ci := 0) (by decide) hw hS ⟨q0, hb, by simpa using hq0⟩
  exact va_instE C.1 C.2.1 C.hown (C.hts _ (lw_g_in hl0 rfl)) hr hd (hK _ _ _ _ _ _ _ h g1 g2 g3 H locs la hw hS hl)
theorem hs_checkcast {idx i0 : Nat} (C : hCtx p R s m args c D G ad base ρ own cc nL mc ms B d) (hd : decode cc pc = .ok (.checkcast idx, 3)) (ha1 : a1 = 0) (hl0 : lw_tbl[i0]? = some (.classLink own idx "java/lang/String")) (h : hx Γ ret (pc, .checkcast idx, a1, a2, z, y, wi) N c' s' w ls st K Rt) (hK : ∀ N c' s' w pc ls st, K N c' s' w pc ls st → hAW p l e R s m args below meth c D G ad base ρ nL mc ms B Qf N c' s' w pc ls st) : hAW p l e R s m args below meth c D G ad base ρ nL mc ms B Qf N c' s' w pc ls st := by
  subst ha1
  obtain ⟨b, r, rfl, h⟩ := hpA_d h
  obtain ⟨q0, fs, hb, hq0, h⟩ := hcl_d h
  intro g1 g2 g3 H locs la hw hS hl
  obtain ⟨-, hr, -⟩ := hPreV (y := yJ0_length_8abf5) (av := []) C (ci := 0) (by decide) hw hS ⟨q0, hb, by simpa using hq0⟩
  exact va_castE C.1 C.2.1 C.hown (C.hts _ (lw_g_in hl0 rfl)) hr hd (hK _ _ _ _ _ _ _ h g1 g2 g3 H locs la hw hS hl)
theorem hs_invU {idx i0 i1 i2 i4 i5 i6 m0 : Nat} {b0 : ByteArray} {r0 : Option FieldType} (C : hCtx p R s m args c D G ad base ρ own cc nL mc ms B d) (hd : decode cc pc = .ok (.invokevirtual idx, 3)) (hci : a1 < 7) (hl0 : lw_tbl[i0]? = some (.methodLink own idx ⟨RJ5, y.name, y.desc⟩)) (hl1 : lw_tbl[i1]? = some (.sameMethod RJ5 RJ5 y.name y.desc)) (hl2 : lw_tbl[i2]? = some (.instanceMethod ⟨RJ5, y.name, y.desc⟩)) (hl3 : (∃ i3 : Nat, lw_tbl[i3]? = some (.selects (hC a1) ⟨RJ5, y.name, y.desc⟩ y)) ∨ Cond.selects (hC a1) ⟨RJ5, y.name, y.desc⟩ y ∈ hsels) (hl4 : lw_tbl[i4]? = some (.instanceMethod y)) (hl5 : lw_tbl[i5]? = some (.initialized y.cls)) (hl6 : lw_tbl[i6]? = some (.code ⟨RJ5, y.name, y.desc⟩ b0 m0 r0)) (hy : RJ5 ≠ "java/lang/invoke/MethodHandle" ∧ RJ5 ≠ "java/lang/invoke/VarHandle" ∧ (parseMethodDescriptor y.desc).map (fun d => d.parameters.length) = some a2) (h : hx (hΓ l D G ad base ρ d) ret (pc, .invokevirtual idx, a1, a2, z, y, wi) N c' s' w ls st K Rt) (hK : ∀ N c' s' w pc ls st, K N c' s' w pc ls st → hAW p l e R s m args below meth c D G ad base ρ nL mc ms B Qf N c' s' w pc ls st) : hAW p l e R s m args below meth c D G ad base ρ nL mc ms B Qf N c' s' w pc ls st := by
  have h : hpN a2 [] st (fun av r => hpA r fun a r => hck 8 r (hcl a1 (w a) (hΓ l D G ad base ρ d y (.ref a :: av) N c' s' w fun v N c s w => K N c s w (pc + 3) ls (hres v r)))) := by
    match a1, hci with
    | 0, _ => exact h
    | 1, _ => exact h
    | 2, _ => exact h
    | 3, _ => exact h
    | 4, _ => exact h
    | 5, _ => exact h
    | 6, _ => exact h
  obtain ⟨xs, r, rfl, hlen, h⟩ := hpN_d _ _ _ _ h
  rw [List.append_nil] at h
  obtain ⟨b, r, rfl, h⟩ := hpA_d h
  obtain ⟨hcat, h⟩ := hck_d (ad := ad) _ _ _ h
  obtain ⟨q0, fs, hb, hq0, h⟩ := hcl_d h
  obtain ⟨mc1, ms1, k1, k2, bytes, maxL, ret1, hmax, hcode, hM⟩ := h
  intro g1 g2 g3 H locs la hw hS hl
  have hB := C.2.2.2.2.2.2.2.2.2.1
  have hM := hM (by omega)
  have hsz : la.size = nL := hl.2.choose_spec.1.1
  rw [List.map_append]
  refine hs_back (mc1 := mc1) (ms1 := ms1) (Q := fun v N c s w => K N c s w (pc + 3) ls (hres v r)) (r := r) (aa := (Value.ref (ad b) :: xs.reverse.map (hv ad)).toArray) C g1 g2 g3 k1 k2 hS hl ?_ (fun v N c s w hq => hK _ _ _ _ _ _ _ hq)
  have ew : ∀ q, q ∈ va_wsO own idx (hC a1) RJ5 ⟨RJ5, y.name, y.desc⟩ y (Cond.code y bytes maxL ret1 :: lw_g) → q ∈ lw_g1 ∧ ((q.onTables && q.keeps) = true ∨ ∃ ty, q = .arrayClass ty) := fun q hq => by
      rcases List.mem_append.mp hq with h | h
      · have hq : q = .methodLink own idx ⟨RJ5, y.name, y.desc⟩ ∨ q = .sameMethod RJ5 RJ5 y.name y.desc ∨ q = .instanceMethod ⟨RJ5, y.name, y.desc⟩ ∨ q = .selects (hC a1) ⟨RJ5, y.name, y.desc⟩ y ∨ q = .instanceMethod y ∨ q = .initialized y.cls := by simpa using h
        rcases hq with rfl | rfl | rfl | rfl | rfl | rfl
        · exact ⟨List.mem_append_right _ (lw_g_in hl0 rfl), Or.inl rfl⟩
        · exact ⟨List.mem_append_right _ (lw_g_in hl1 rfl), Or.inl rfl⟩
        · exact ⟨List.mem_append_right _ (lw_g_in hl2 rfl), Or.inl rfl⟩
        · rcases hl3 with ⟨i3, hl3⟩ | hl3
          · exact ⟨List.mem_append_right _ (lw_g_in hl3 rfl), Or.inl rfl⟩
          · exact ⟨List.mem_append_left _ hl3, Or.inl rfl⟩
        · exact ⟨List.mem_append_right _ (lw_g_in hl4 rfl), Or.inl rfl⟩
        · exact ⟨List.mem_append_right _ (lw_g_in hl5 rfl), Or.inl rfl⟩
      · have := hgood hcode q h
        exact ⟨List.mem_append_right _ this.1, this.2⟩
  have hts1 : ∀ q ∈ lw_g1, q.before args s = true := fun q hq => by
    rcases List.mem_append.mp hq with hq | hq
    · exact va_Nw.use (by have := hsels_good q hq; simp only [Bool.and_eq_true] at this; exact this.1) (C.fix.2.2.2.2.2.2.2 q hq)
    · exact C.hts q hq
  exact va_runU (C := hC a1) (As := xs.reverse.map (hv ad)) (n := a2) ⟨C.1, C.2.1, C.2.2.1, C.hown, hts1⟩ hM (va_cwO (own := own) (index := idx) (C := hC a1) (owner := RJ5) (x := ⟨RJ5, y.name, y.desc⟩) (y := y) (Ts := lw_g1) a2 hts1 ew rfl rfl rfl (b0 := b0) (m0 := m0) (r0 := r0) (List.mem_append_right _ (lw_g_in hl6 rfl)) hy (by have := C.fr; constructor <;> simp <;> omega)) (hPreV (y := y) C hci hw hS ⟨q0, hb, hq0⟩) rfl (by simp [hlen]) hsz (by simp [hv]) (lv_room hcat) hd ⟨by rw [C.rc.1]; omega, by rw [C.rc.2]; omega⟩
theorem hs_invSU {idx i0 i1 i2 i3 i4 : Nat} (C : hCtx p R s m args c D G ad base ρ own cc nL mc ms B d) (hd : decode cc pc = .ok (.invokespecial idx, 3)) (hci : a1 < 7) (hl0 : lw_tbl[i0]? = some (.methodLink own idx y)) (hl1 : lw_tbl[i1]? = some (.sameMethod y.cls y.cls y.name y.desc)) (hl2 : lw_tbl[i2]? = some (.superclass own y.cls)) (hl3 : lw_tbl[i3]? = some (.instanceMethod y)) (hl4 : lw_tbl[i4]? = some (.initialized y.cls)) (hy : y.name ≠ "<init>" ∧ (parseMethodDescriptor y.desc).map (fun d => d.parameters.length) = some a2) (h : hx (hΓ l D G ad base ρ d) ret (pc, .invokespecial idx, a1, a2, z, y, wi) N c' s' w ls st K Rt) (hK : ∀ N c' s' w pc ls st, K N c' s' w pc ls st → hAW p l e R s m args below meth c D G ad base ρ nL mc ms B Qf N c' s' w pc ls st) : hAW p l e R s m args below meth c D G ad base ρ nL mc ms B Qf N c' s' w pc ls st := by
  have h : hpN a2 [] st (fun av r => hpA r fun a r => hck 8 r (hcl a1 (w a) (hΓ l D G ad base ρ d y (.ref a :: av) N c' s' w fun v N c s w => K N c s w (pc + 3) ls (hres v r)))) := by
    match a1, hci with
    | 0, _ => exact h
    | 1, _ => exact h
    | 2, _ => exact h
    | 3, _ => exact h
    | 4, _ => exact h
    | 5, _ => exact h
    | 6, _ => exact h
  obtain ⟨xs, r, rfl, hlen, h⟩ := hpN_d _ _ _ _ h
  rw [List.append_nil] at h
  obtain ⟨b, r, rfl, h⟩ := hpA_d h
  obtain ⟨hcat, h⟩ := hck_d (ad := ad) _ _ _ h
  obtain ⟨q0, fs, hb, hq0, h⟩ := hcl_d h
  obtain ⟨mc1, ms1, k1, k2, bytes, maxL, ret1, hmax, hcode, hM⟩ := h
  intro g1 g2 g3 H locs la hw hS hl
  have hB := C.2.2.2.2.2.2.2.2.2.1
  have hM := hM (by omega)
  have hsz : la.size = nL := hl.2.choose_spec.1.1
  rw [List.map_append]
  refine hs_back (mc1 := mc1) (ms1 := ms1) (Q := fun v N c s w => K N c s w (pc + 3) ls (hres v r)) (r := r) (aa := (Value.ref (ad b) :: xs.reverse.map (hv ad)).toArray) C g1 g2 g3 k1 k2 hS hl ?_ (fun v N c s w hq => hK _ _ _ _ _ _ _ hq)
  have hat : ClassAt s (hC a1) (D.1 a1) := by obtain ⟨e1, -⟩ := hcls hci; exact (C.fix.1.1 a1 _ e1).2
  exact va_runSU (C := hC a1) (cC := D.1 a1) (As := xs.reverse.map (hv ad)) (n := a2) hat ⟨C.1, C.2.1, C.2.2.1, C.hown, C.hts⟩ hM (va_cwSU (own := own) (index := idx) (y := y) (Ts := lw_g) a2 C.hts (fun q hq => by
      rcases List.mem_append.mp hq with h | h
      · have hq : q = .methodLink own idx y ∨ q = .sameMethod y.cls y.cls y.name y.desc ∨ q = .superclass own y.cls ∨ q = .instanceMethod y ∨ q = .initialized y.cls := by simpa using h
        rcases hq with rfl | rfl | rfl | rfl | rfl
        · exact ⟨lw_g_in hl0 rfl, Or.inl rfl⟩
        · exact ⟨lw_g_in hl1 rfl, Or.inl rfl⟩
        · exact ⟨lw_g_in hl2 rfl, Or.inl rfl⟩
        · exact ⟨lw_g_in hl3 rfl, Or.inl rfl⟩
        · exact ⟨lw_g_in hl4 rfl, Or.inl rfl⟩
      · exact hgood hcode q h) rfl rfl rfl hy (by have := C.fr; constructor <;> simp <;> omega)) (hPreV (y := y) C hci hw hS ⟨q0, hb, hq0⟩) rfl (by simp [hlen]) hsz (by simp [hv]) (lv_room hcat) hd ⟨by rw [C.rc.1]; omega, by rw [C.rc.2]; omega⟩
end HS3
