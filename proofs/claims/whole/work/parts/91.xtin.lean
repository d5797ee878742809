/-! the class reads texts -/
section W9q
variable {g : hG} {d N c s : Nat} {w : hWd} {Q : hRt}
/-- the class's two builders -/
def hTB (w : hWd) (N : Nat) (S : cS) : Prop := 97 ≤ N ∧ N ≤ 900000 ∧ S.inp.length ≤ 60 ∧ S.out.length ≤ 1920 ∧ ∃ v5 m5 v7 m7, hSB w 5 v5 m5 S.inp ∧ hSB w 7 v7 m7 S.out ∧ (v5 = 6 ∨ 97 ≤ v5) ∧ v5 < N ∧ (v7 = 8 ∨ 97 ≤ v7) ∧ v7 < N ∧ v5 ≠ v7 ∧ 16 ≤ m5 ∧ m5 ≤ 4000 ∧ 16 ≤ m7 ∧ m7 ≤ 4000
/-- what a call with text leaves -/
def tfr (w w' : hWd) : Prop := ∀ i, (47 ≤ i ∧ i < 97) ∨ 1000000 ≤ i → w' i = w i
theorem tfr.rf {w : hWd} : tfr w w := fun _ _ => rfl
theorem tfr.tr {w w1 w2 : hWd} (a : tfr w w1) (b : tfr w1 w2) : tfr w w2 := fun i hi => (b i hi).trans (a i hi)
theorem nfr.t {w w' : hWd} (h : nfr w w') : tfr w w' := fun i hi => h i (by omega)
theorem mfr.t {T : List Nat} {w w' : hWd} (h : mfr T w w') (hT : ∀ x ∈ T, (x < 47 ∨ 97 ≤ x) ∧ x < 1000000) : tfr w w' := fun i hi => h i (fun q => by have := hT i q; omega)
/-- the class's object needs no builder -/
theorem hX.bld {w w' : hWd} {S S' : cS} (h : hX w S) (hm : ∀ i, i < 5 ∨ (8 < i ∧ i < 47) ∨ 1000000 ≤ i → w' i = w i) (e1 : S'.wd = S.wd) (e2 : S'.wd2 = S.wd2) (e3 : S'.rg = S.rg) (e4 : S'.rg2 = S.rg2) (e5 : S'.sv = S.sv) : hX w' S' := by
  obtain ⟨a0, a1, a2, a3, a4, a5, a6, a7, a8, ⟨u, a9⟩, a10, a11⟩ := h
  unfold hX
  rw [e1, e2, e3, e4, e5]
  exact ⟨by rw [hm 0 (by omega), a0], a1.keep (hm _ (by omega)), a2.keep (hm _ (by omega)), by rw [hm 3 (by omega), a3], by rw [hm 4 (by omega), a4], a5.keep (fun i hi => ⟨hm _ (by omega), hm _ (by omega), hm _ (by omega)⟩), a6.keep (fun i hi => ⟨hm _ (by omega), hm _ (by omega), hm _ (by omega)⟩), a7.keep (hm _ (by omega)) (hm _ (by omega)), a8.keep (fun i hi => hm _ (by simp at hi; omega)), ⟨u, a9.keep (hm _ (by omega))⟩, by rw [hm _ (by omega), a10], by rw [hm _ (by omega), a11]⟩
theorem hX.bldm {T : List Nat} {w w' : hWd} {S S' : cS} (h : hX w S) (hm : mfr T w w') (hT : ∀ x ∈ T, ((5 ≤ x ∧ x ≤ 8) ∨ 47 ≤ x) ∧ x < 1000000) (e1 : S'.wd = S.wd) (e2 : S'.wd2 = S.wd2) (e3 : S'.rg = S.rg) (e4 : S'.rg2 = S.rg2) (e5 : S'.sv = S.sv) : hX w' S' := h.bld (fun i hi => hm i (fun q => by have := hT i q; omega)) e1 e2 e3 e4 e5
theorem hTB.nf {w w' : hWd} {N : Nat} {S S' : cS} (h : hTB w N S) (hm : nfr w w') (e1 : S'.inp = S.inp) (e2 : S'.out = S.out) : hTB w' N S' := by
  obtain ⟨a, b, c1, c2, v5, m5, v7, m7, d1, d2, d3, d4, d5, d6, d7⟩ := h
  unfold hTB
  rw [e1, e2]
  exact ⟨a, b, c1, c2, v5, m5, v7, m7, d1.keep (hm _ (by omega)) (hm _ (by omega)), d2.keep (hm _ (by omega)) (hm _ (by omega)), d3, d4, d5, d6, d7⟩
theorem hTB.my {w w' : hWd} {N : Nat} {S : cS} (h : hTB w N S) (hm : mfy w w') : hTB w' N S := by
  obtain ⟨a, b, c1, c2, v5, m5, v7, m7, d1, d2, d3, d4, d5, d6, d7⟩ := h
  exact ⟨a, b, c1, c2, v5, m5, v7, m7, d1.keep (hm _ (by omega)) (hm _ (by omega)), d2.keep (hm _ (by omega)) (hm _ (by omega)), d3, d4, d5, d6, d7⟩
theorem hX.my {w w' : hWd} {S : cS} (h : hX w S) (hm : mfy w w') : hX w' S := h.bld (fun i hi => hm i (by omega)) rfl rfl rfl rfl rfl
theorem hY.t {w w' : hWd} {S : cS} (h : hY w S) (hm : tfr w w') : hY w' S := by
  obtain ⟨⟨hc9, hz⟩, f, hs⟩ := h
  obtain ⟨ls, ⟨ml, ns, at9, a0⟩, a1, a2, a3, a4, a5, a6, a7, a8⟩ := hc9
  refine ⟨⟨⟨ls, ⟨ml, ns, at9, by rw [hm _ (by omega), a0]⟩, by rw [hm _ (by omega), a1], a2.keep (hm _ (by omega)) (hm _ (by omega)) (hm _ (by omega)) (hm _ (by omega)), a3.keep (hm _ (by omega)) (hm _ (by omega)) (fun i hi => hm _ (by omega)), a4.keep (hm _ (by omega)) (hm _ (by omega)) (fun i hi => hm _ (by omega)), a5.keep (hm _ (by omega)) (hm _ (by omega)) (hm _ (by omega)) (fun i hi => ⟨hm _ (by omega), hm _ (by omega)⟩), a6.keep (hm _ (by omega)) (hm _ (by omega)) (hm _ (by omega)) (fun i hi => ⟨hm _ (by omega), hm _ (by omega)⟩), a7.keep (hm _ (by omega)), a8.keep (hm _ (by omega))⟩, hz.keep (hm _ (by omega)) (hm _ (by omega)) (hm _ (by omega)) (hm _ (by omega)) (hm _ (by omega))⟩, f, hs.keep (hm _ (by omega))⟩
set_option maxRecDepth 100000 in
set_option maxHeartbeats 4000000 in
theorem c_takeInput (hg : hgo g) (hd : 8 ≤ d) {S : cS} (hX9 : hX w S) (hB9 : hTB w N S) (hNb : N ≤ 800000) (hc2 : 2 ≤ c) (hs2 : S.inp.length + 4 ≤ s) (h : ∀ w', hX w' (sInp S []) → hTB w' (N + 2) (sInp S []) → hSt w' N (N + 1) S.inp → mfr [5, N, N + 1] w w' → Q (some (.ref N)) (N + 2) (c - 2) (s - (S.inp.length + 4)) w') : Γ g d yX9_takeInput [.ref 0] N c s w Q := by
  have k0 := hX9.1
  obtain ⟨hN1, hN2, hi60, ho19, v5, m5, v7, m7, h5, h7, hv5, hv5N, hv7, hv7N, hv57, hm5, hm52, hm7, hm72⟩ := id hB9
  obtain ⟨hbv, hl, hm, ml, F, kb, kv, hF, hfy⟩ := id h5
  refine Γ.intro hg kX9_takeInput (by omega) (2) (S.inp.length + 4) (by omega) (by omega) (Nat.le_of_ble_eq_true rfl) (fun P hP => ?_)
  show P N (2) (S.inp.length + 4) w 0 [some (.ref 0), none] []
  refine hP 0 _ rfl _ _ _ _ _ _ ?_
  simp only [bX9_takeInput_0, hrun, hx, hnth, hput, hok, hcat2, hldI, hldL, hldR, hpI, hpL, hpA, hpR, hp1, hpV, hrtI, hrtL, hrtR, hrtV, hpN, hck, hrI, hrB, hrL, hrA, hwI, hwA, hwB, hrN, hfk, hfs, hrF, hwF, hcl, hfty, tyX1, tyX3, tyX6, tyX9, tyX10, tyJ0, tyJ4, hfit, hcmp, hnar, hres, hst, hacp, kz, kof, kn0, kn1, Bool.not_true, Bool.not_false, true_and, and_true, Nat.zero_add, Nat.reduceAdd, List.length_cons, List.length_nil, true_or, or_true, false_or, or_false, decide_true, decide_false, ne_eq, not_true_eq_false, not_false_eq_true, ki_0, ki_1, ki_2, ki_3, ki_4, ki_5, kb_m100, kb_m10, kb_m9, kb_m8, kb_m7, kb_m6, kb_m5, kb_m4, kb_m3, kb_m2, kb_6, kb_7, kb_8, kb_9, kb_10, kb_12, kb_13, kb_16, kb_27, kb_31, kb_32, kb_43, kb_45, kb_48, kb_57, kb_60, kb_63, kb_81, kb_97, kb_99, kb_100, kb_120, kb_126, ks_m1000, ks_243, ks_255, ks_729, ks_1000, ks_2000, ks_2187, ks_6561, ks_9840, ks_9841, kl_0, kl_1, k0, kb]
  refine c_toString hg (by omega) h5 (by omega) hv5N (by omega) (Nat.le_refl _) (Nat.le_refl _) (fun w1 ht1 hm1 => ?_)
  have z0 : w1 0 = _ := (hm1 0 (by simp; omega)).trans k0
  have z5 : w1 5 = _ := (hm1 5 (by simp; omega)).trans kb
  have h51 := h5.keep (hm1 5 (by simp; omega)) (hm1 v5 (by simp; omega))
  have h71 := h7.keep (hm1 7 (by simp; omega)) (hm1 v7 (by simp; omega))
  simp only [hrun, hx, hnth, hput, hok, hcat2, hldI, hldL, hldR, hpI, hpL, hpA, hpR, hp1, hpV, hrtI, hrtL, hrtR, hrtV, hpN, hck, hrI, hrB, hrL, hrA, hwI, hwA, hwB, hrN, hfk, hfs, hrF, hwF, hcl, hfty, tyX1, tyX3, tyX6, tyX9, tyX10, tyJ0, tyJ4, hfit, hcmp, hnar, hres, hst, hacp, kz, kof, kn0, kn1, Bool.not_true, Bool.not_false, true_and, and_true, Nat.zero_add, Nat.reduceAdd, List.length_cons, List.length_nil, true_or, or_true, false_or, or_false, decide_true, decide_false, ne_eq, not_true_eq_false, not_false_eq_true, ki_0, ki_1, ki_2, ki_3, ki_4, ki_5, kb_m100, kb_m10, kb_m9, kb_m8, kb_m7, kb_m6, kb_m5, kb_m4, kb_m3, kb_m2, kb_6, kb_7, kb_8, kb_9, kb_10, kb_12, kb_13, kb_16, kb_27, kb_31, kb_32, kb_43, kb_45, kb_48, kb_57, kb_60, kb_63, kb_81, kb_97, kb_99, kb_100, kb_120, kb_126, ks_m1000, ks_243, ks_255, ks_729, ks_1000, ks_2000, ks_2187, ks_6561, ks_9840, ks_9841, kl_0, kl_1, k0, kb, z0, z5]
  refine c_bSetLength hg (by omega) h51 (fun w2 h52 hm2 => ?_)
  simp only [hrun, hx, hnth, hput, hok, hcat2, hldI, hldL, hldR, hpI, hpL, hpA, hpR, hp1, hpV, hrtI, hrtL, hrtR, hrtV, hpN, hck, hrI, hrB, hrL, hrA, hwI, hwA, hwB, hrN, hfk, hfs, hrF, hwF, hcl, hfty, tyX1, tyX3, tyX6, tyX9, tyX10, tyJ0, tyJ4, hfit, hcmp, hnar, hres, hst, hacp, kz, kof, kn0, kn1, Bool.not_true, Bool.not_false, true_and, and_true, Nat.zero_add, Nat.reduceAdd, List.length_cons, List.length_nil, true_or, or_true, false_or, or_false, decide_true, decide_false, ne_eq, not_true_eq_false, not_false_eq_true, ki_0, ki_1, ki_2, ki_3, ki_4, ki_5, kb_m100, kb_m10, kb_m9, kb_m8, kb_m7, kb_m6, kb_m5, kb_m4, kb_m3, kb_m2, kb_6, kb_7, kb_8, kb_9, kb_10, kb_12, kb_13, kb_16, kb_27, kb_31, kb_32, kb_43, kb_45, kb_48, kb_57, kb_60, kb_63, kb_81, kb_97, kb_99, kb_100, kb_120, kb_126, ks_m1000, ks_243, ks_255, ks_729, ks_1000, ks_2000, ks_2187, ks_6561, ks_9840, ks_9841, kl_0, kl_1, k0, kb]
  have hm3 : mfr [5, N, N + 1] w w2 := (hm1.mono (by simp)).tr (hm2.mono (by simp))
  refine h w2 (hX9.bldm hm3 (by intro x hx9; simp at hx9; omega) rfl rfl rfl rfl rfl) ⟨by omega, by omega, Nat.zero_le _, ho19, v5, m5, v7, m7, h52, h71.keep (hm2 7 (by simp)) (hm2 v7 (by simp; omega)), hv5, by omega, hv7, by omega, hv57, hm5, hm52, hm7, hm72⟩ (ht1.keep (hm2 N (by simp; omega)) (hm2 (N + 1) (by simp; omega))) hm3
set_option maxRecDepth 100000 in
set_option maxHeartbeats 4000000 in
theorem c_x_appendCharacter (hg : hgo g) (hd : 25 ≤ d) {S : cS} (hX9 : hX w S) (hB9 : hTB w N S) (hNb : N ≤ 800000) (hc20 : 20 ≤ c) (hs80 : 8000 ≤ s) {x : Int32} (h : ∀ w' N' c' s', hX w' (sp_appendCharacter S x).2 → hTB w' N' (sp_appendCharacter S x).2 → tfr w w' → N ≤ N' → N' ≤ N + 20 → c ≤ c' + 20 → s ≤ s' + 8000 → Q (some (.int (sp_appendCharacter S x).1)) N' c' s' w') : Γ g d yX9_appendCharacter [.ref 0, .int x] N c s w Q := by
  have k0 := hX9.1
  obtain ⟨hN1, hN2, hi60, ho19, v5, m5, v7, m7, h5, h7, hv5, hv5N, hv7, hv7N, hv57, hm5, hm52, hm7, hm72⟩ := id hB9
  obtain ⟨hbv, hl, hm, ml, F, kb, kv, hF, hfy⟩ := id h5
  have gc : gcu m5 (S.inp.length + 1) ≤ 1 := by unfold gcu; split <;> omega
  have gs9 : gsu m5 (S.inp.length + 1) ≤ 200 := by unfold gsu; split <;> omega
  have hgv : gvv v5 N m5 (S.inp.length + 1) = v5 ∨ gvv v5 N m5 (S.inp.length + 1) = N := by unfold gvv; split <;> simp
  by_cases q : x < nI 32 ∨ nI 126 < x
  · unfold sp_appendCharacter at h
    rw [if_pos q] at h
    refine Γ.intro0 hg kX9_appendCharacter (by omega) (Nat.le_of_ble_eq_true rfl) (fun P hP => ?_)
    show P N 0 0 w 0 [some (.ref 0), some (.int x)] []
    refine hP 0 _ rfl _ _ _ _ _ _ ?_
    simp only [bX9_appendCharacter_0, hrun, hx, hnth, hput, hok, hcat2, hldI, hldL, hldR, hpI, hpL, hpA, hpR, hp1, hpV, hrtI, hrtL, hrtR, hrtV, hpN, hck, hrI, hrB, hrL, hrA, hwI, hwA, hwB, hrN, hfk, hfs, hrF, hwF, hcl, hfty, tyX1, tyX3, tyX6, tyX9, tyX10, tyJ0, tyJ4, hfit, hcmp, hnar, hres, hst, hacp, kz, kof, kn0, kn1, Bool.not_true, Bool.not_false, true_and, and_true, Nat.zero_add, Nat.reduceAdd, List.length_cons, List.length_nil, true_or, or_true, false_or, or_false, decide_true, decide_false, ne_eq, not_true_eq_false, not_false_eq_true, ki_0, ki_1, ki_2, ki_3, ki_4, ki_5, kb_m100, kb_m10, kb_m9, kb_m8, kb_m7, kb_m6, kb_m5, kb_m4, kb_m3, kb_m2, kb_6, kb_7, kb_8, kb_9, kb_10, kb_12, kb_13, kb_16, kb_27, kb_31, kb_32, kb_43, kb_45, kb_48, kb_57, kb_60, kb_63, kb_81, kb_97, kb_99, kb_100, kb_120, kb_126, ks_m1000, ks_243, ks_255, ks_729, ks_1000, ks_2000, ks_2187, ks_6561, ks_9840, ks_9841, kl_0, kl_1, k0]
    refine ⟨fun b3 => ?_, fun b3 => ?_⟩
    · skip
      refine hP 2 _ rfl _ _ _ _ _ _ ?_
      simp only [bX9_appendCharacter_2, hrun, hx, hnth, hput, hok, hcat2, hldI, hldL, hldR, hpI, hpL, hpA, hpR, hp1, hpV, hrtI, hrtL, hrtR, hrtV, hpN, hck, hrI, hrB, hrL, hrA, hwI, hwA, hwB, hrN, hfk, hfs, hrF, hwF, hcl, hfty, tyX1, tyX3, tyX6, tyX9, tyX10, tyJ0, tyJ4, hfit, hcmp, hnar, hres, hst, hacp, kz, kof, kn0, kn1, Bool.not_true, Bool.not_false, true_and, and_true, Nat.zero_add, Nat.reduceAdd, List.length_cons, List.length_nil, true_or, or_true, false_or, or_false, decide_true, decide_false, ne_eq, not_true_eq_false, not_false_eq_true, ki_0, ki_1, ki_2, ki_3, ki_4, ki_5, kb_m100, kb_m10, kb_m9, kb_m8, kb_m7, kb_m6, kb_m5, kb_m4, kb_m3, kb_m2, kb_6, kb_7, kb_8, kb_9, kb_10, kb_12, kb_13, kb_16, kb_27, kb_31, kb_32, kb_43, kb_45, kb_48, kb_57, kb_60, kb_63, kb_81, kb_97, kb_99, kb_100, kb_120, kb_126, ks_m1000, ks_243, ks_255, ks_729, ks_1000, ks_2000, ks_2187, ks_6561, ks_9840, ks_9841, kl_0, kl_1, k0]
      exact h w _ _ _ hX9 hB9 tfr.rf (Nat.le_refl _) (by omega) (by omega) (by omega)
    · skip
      refine hP 1 _ rfl _ _ _ _ _ _ ?_
      simp only [bX9_appendCharacter_1, hrun, hx, hnth, hput, hok, hcat2, hldI, hldL, hldR, hpI, hpL, hpA, hpR, hp1, hpV, hrtI, hrtL, hrtR, hrtV, hpN, hck, hrI, hrB, hrL, hrA, hwI, hwA, hwB, hrN, hfk, hfs, hrF, hwF, hcl, hfty, tyX1, tyX3, tyX6, tyX9, tyX10, tyJ0, tyJ4, hfit, hcmp, hnar, hres, hst, hacp, kz, kof, kn0, kn1, Bool.not_true, Bool.not_false, true_and, and_true, Nat.zero_add, Nat.reduceAdd, List.length_cons, List.length_nil, true_or, or_true, false_or, or_false, decide_true, decide_false, ne_eq, not_true_eq_false, not_false_eq_true, ki_0, ki_1, ki_2, ki_3, ki_4, ki_5, kb_m100, kb_m10, kb_m9, kb_m8, kb_m7, kb_m6, kb_m5, kb_m4, kb_m3, kb_m2, kb_6, kb_7, kb_8, kb_9, kb_10, kb_12, kb_13, kb_16, kb_27, kb_31, kb_32, kb_43, kb_45, kb_48, kb_57, kb_60, kb_63, kb_81, kb_97, kb_99, kb_100, kb_120, kb_126, ks_m1000, ks_243, ks_255, ks_729, ks_1000, ks_2000, ks_2187, ks_6561, ks_9840, ks_9841, kl_0, kl_1, k0]
      refine ⟨fun b9 => ?_, fun b9 => ?_⟩
      · skip
        exact absurd q (fun z => z.elim b3 (fun z => absurd b9 (Int32.not_le.mpr z)))
      · skip
        refine hP 2 _ rfl _ _ _ _ _ _ ?_
        simp only [bX9_appendCharacter_2, hrun, hx, hnth, hput, hok, hcat2, hldI, hldL, hldR, hpI, hpL, hpA, hpR, hp1, hpV, hrtI, hrtL, hrtR, hrtV, hpN, hck, hrI, hrB, hrL, hrA, hwI, hwA, hwB, hrN, hfk, hfs, hrF, hwF, hcl, hfty, tyX1, tyX3, tyX6, tyX9, tyX10, tyJ0, tyJ4, hfit, hcmp, hnar, hres, hst, hacp, kz, kof, kn0, kn1, Bool.not_true, Bool.not_false, true_and, and_true, Nat.zero_add, Nat.reduceAdd, List.length_cons, List.length_nil, true_or, or_true, false_or, or_false, decide_true, decide_false, ne_eq, not_true_eq_false, not_false_eq_true, ki_0, ki_1, ki_2, ki_3, ki_4, ki_5, kb_m100, kb_m10, kb_m9, kb_m8, kb_m7, kb_m6, kb_m5, kb_m4, kb_m3, kb_m2, kb_6, kb_7, kb_8, kb_9, kb_10, kb_12, kb_13, kb_16, kb_27, kb_31, kb_32, kb_43, kb_45, kb_48, kb_57, kb_60, kb_63, kb_81, kb_97, kb_99, kb_100, kb_120, kb_126, ks_m1000, ks_243, ks_255, ks_729, ks_1000, ks_2000, ks_2187, ks_6561, ks_9840, ks_9841, kl_0, kl_1, k0]
        exact h w _ _ _ hX9 hB9 tfr.rf (Nat.le_refl _) (by omega) (by omega) (by omega)
  · have hxa : ¬ x < nI 32 := fun z => q (Or.inl z)
    have hxb : ¬ nI 126 < x := fun z => q (Or.inr z)
    by_cases q2 : 60 ≤ S.inp.length
    · unfold sp_appendCharacter at h
      rw [if_neg q, if_pos q2] at h
      refine Γ.intro0 hg kX9_appendCharacter (by omega) (Nat.le_of_ble_eq_true rfl) (fun P hP => ?_)
      show P N 0 0 w 0 [some (.ref 0), some (.int x)] []
      refine hP 0 _ rfl _ _ _ _ _ _ ?_
      simp only [bX9_appendCharacter_0, hrun, hx, hnth, hput, hok, hcat2, hldI, hldL, hldR, hpI, hpL, hpA, hpR, hp1, hpV, hrtI, hrtL, hrtR, hrtV, hpN, hck, hrI, hrB, hrL, hrA, hwI, hwA, hwB, hrN, hfk, hfs, hrF, hwF, hcl, hfty, tyX1, tyX3, tyX6, tyX9, tyX10, tyJ0, tyJ4, hfit, hcmp, hnar, hres, hst, hacp, kz, kof, kn0, kn1, Bool.not_true, Bool.not_false, true_and, and_true, Nat.zero_add, Nat.reduceAdd, List.length_cons, List.length_nil, true_or, or_true, false_or, or_false, decide_true, decide_false, ne_eq, not_true_eq_false, not_false_eq_true, ki_0, ki_1, ki_2, ki_3, ki_4, ki_5, kb_m100, kb_m10, kb_m9, kb_m8, kb_m7, kb_m6, kb_m5, kb_m4, kb_m3, kb_m2, kb_6, kb_7, kb_8, kb_9, kb_10, kb_12, kb_13, kb_16, kb_27, kb_31, kb_32, kb_43, kb_45, kb_48, kb_57, kb_60, kb_63, kb_81, kb_97, kb_99, kb_100, kb_120, kb_126, ks_m1000, ks_243, ks_255, ks_729, ks_1000, ks_2000, ks_2187, ks_6561, ks_9840, ks_9841, kl_0, kl_1, k0, kb]
      refine ⟨fun b3 => ?_, fun b3 => ?_⟩
      · skip
        exact absurd b3 hxa
      · skip
        refine hP 1 _ rfl _ _ _ _ _ _ ?_
        simp only [bX9_appendCharacter_1, hrun, hx, hnth, hput, hok, hcat2, hldI, hldL, hldR, hpI, hpL, hpA, hpR, hp1, hpV, hrtI, hrtL, hrtR, hrtV, hpN, hck, hrI, hrB, hrL, hrA, hwI, hwA, hwB, hrN, hfk, hfs, hrF, hwF, hcl, hfty, tyX1, tyX3, tyX6, tyX9, tyX10, tyJ0, tyJ4, hfit, hcmp, hnar, hres, hst, hacp, kz, kof, kn0, kn1, Bool.not_true, Bool.not_false, true_and, and_true, Nat.zero_add, Nat.reduceAdd, List.length_cons, List.length_nil, true_or, or_true, false_or, or_false, decide_true, decide_false, ne_eq, not_true_eq_false, not_false_eq_true, ki_0, ki_1, ki_2, ki_3, ki_4, ki_5, kb_m100, kb_m10, kb_m9, kb_m8, kb_m7, kb_m6, kb_m5, kb_m4, kb_m3, kb_m2, kb_6, kb_7, kb_8, kb_9, kb_10, kb_12, kb_13, kb_16, kb_27, kb_31, kb_32, kb_43, kb_45, kb_48, kb_57, kb_60, kb_63, kb_81, kb_97, kb_99, kb_100, kb_120, kb_126, ks_m1000, ks_243, ks_255, ks_729, ks_1000, ks_2000, ks_2187, ks_6561, ks_9840, ks_9841, kl_0, kl_1, k0, kb]
        refine ⟨fun b9 => ?_, fun b9 => ?_⟩
        · skip
          refine hP 3 _ rfl _ _ _ _ _ _ ?_
          simp only [bX9_appendCharacter_3, hrun, hx, hnth, hput, hok, hcat2, hldI, hldL, hldR, hpI, hpL, hpA, hpR, hp1, hpV, hrtI, hrtL, hrtR, hrtV, hpN, hck, hrI, hrB, hrL, hrA, hwI, hwA, hwB, hrN, hfk, hfs, hrF, hwF, hcl, hfty, tyX1, tyX3, tyX6, tyX9, tyX10, tyJ0, tyJ4, hfit, hcmp, hnar, hres, hst, hacp, kz, kof, kn0, kn1, Bool.not_true, Bool.not_false, true_and, and_true, Nat.zero_add, Nat.reduceAdd, List.length_cons, List.length_nil, true_or, or_true, false_or, or_false, decide_true, decide_false, ne_eq, not_true_eq_false, not_false_eq_true, ki_0, ki_1, ki_2, ki_3, ki_4, ki_5, kb_m100, kb_m10, kb_m9, kb_m8, kb_m7, kb_m6, kb_m5, kb_m4, kb_m3, kb_m2, kb_6, kb_7, kb_8, kb_9, kb_10, kb_12, kb_13, kb_16, kb_27, kb_31, kb_32, kb_43, kb_45, kb_48, kb_57, kb_60, kb_63, kb_81, kb_97, kb_99, kb_100, kb_120, kb_126, ks_m1000, ks_243, ks_255, ks_729, ks_1000, ks_2000, ks_2187, ks_6561, ks_9840, ks_9841, kl_0, kl_1, k0, kb]
          refine c_bLength hg (by omega) h5 ?_
          simp only [hrun, hx, hnth, hput, hok, hcat2, hldI, hldL, hldR, hpI, hpL, hpA, hpR, hp1, hpV, hrtI, hrtL, hrtR, hrtV, hpN, hck, hrI, hrB, hrL, hrA, hwI, hwA, hwB, hrN, hfk, hfs, hrF, hwF, hcl, hfty, tyX1, tyX3, tyX6, tyX9, tyX10, tyJ0, tyJ4, hfit, hcmp, hnar, hres, hst, hacp, kz, kof, kn0, kn1, Bool.not_true, Bool.not_false, true_and, and_true, Nat.zero_add, Nat.reduceAdd, List.length_cons, List.length_nil, true_or, or_true, false_or, or_false, decide_true, decide_false, ne_eq, not_true_eq_false, not_false_eq_true, ki_0, ki_1, ki_2, ki_3, ki_4, ki_5, kb_m100, kb_m10, kb_m9, kb_m8, kb_m7, kb_m6, kb_m5, kb_m4, kb_m3, kb_m2, kb_6, kb_7, kb_8, kb_9, kb_10, kb_12, kb_13, kb_16, kb_27, kb_31, kb_32, kb_43, kb_45, kb_48, kb_57, kb_60, kb_63, kb_81, kb_97, kb_99, kb_100, kb_120, kb_126, ks_m1000, ks_243, ks_255, ks_729, ks_1000, ks_2000, ks_2187, ks_6561, ks_9840, ks_9841, kl_0, kl_1, k0, kb]
          refine ⟨fun b24 => ?_, fun b24 => ?_⟩
          · (try simp (disch := omega) only [nI_ltI, nI_leI, nI_eq, Nat.not_lt, Nat.not_le] at b24) <;> (exfalso; omega)
          · try simp (disch := omega) only [nI_ltI, nI_leI, nI_eq, Nat.not_lt, Nat.not_le] at b24
            refine hP 4 _ rfl _ _ _ _ _ _ ?_
            simp only [bX9_appendCharacter_4, hrun, hx, hnth, hput, hok, hcat2, hldI, hldL, hldR, hpI, hpL, hpA, hpR, hp1, hpV, hrtI, hrtL, hrtR, hrtV, hpN, hck, hrI, hrB, hrL, hrA, hwI, hwA, hwB, hrN, hfk, hfs, hrF, hwF, hcl, hfty, tyX1, tyX3, tyX6, tyX9, tyX10, tyJ0, tyJ4, hfit, hcmp, hnar, hres, hst, hacp, kz, kof, kn0, kn1, Bool.not_true, Bool.not_false, true_and, and_true, Nat.zero_add, Nat.reduceAdd, List.length_cons, List.length_nil, true_or, or_true, false_or, or_false, decide_true, decide_false, ne_eq, not_true_eq_false, not_false_eq_true, ki_0, ki_1, ki_2, ki_3, ki_4, ki_5, kb_m100, kb_m10, kb_m9, kb_m8, kb_m7, kb_m6, kb_m5, kb_m4, kb_m3, kb_m2, kb_6, kb_7, kb_8, kb_9, kb_10, kb_12, kb_13, kb_16, kb_27, kb_31, kb_32, kb_43, kb_45, kb_48, kb_57, kb_60, kb_63, kb_81, kb_97, kb_99, kb_100, kb_120, kb_126, ks_m1000, ks_243, ks_255, ks_729, ks_1000, ks_2000, ks_2187, ks_6561, ks_9840, ks_9841, kl_0, kl_1, k0, kb]
            exact h w _ _ _ hX9 hB9 tfr.rf (Nat.le_refl _) (by omega) (by omega) (by omega)
        · skip
          exact absurd (Int32.not_lt.mp hxb) b9
    · unfold sp_appendCharacter at h
      rw [if_neg q, if_neg q2] at h
      have hkb : x.toNatClampNeg ≤ 126 := by
        have h1 := hnn (z := x) (fun z => hxa (Int32.lt_trans z (by decide +kernel)))
        have h3 := Int32.le_iff_toInt_le.mp (Int32.not_lt.mp hxb)
        rw [nI_toInt (by omega)] at h3
        omega
      have ek9 : x = nI x.toNatClampNeg := Int32.toInt_inj.mp (by rw [nI_toInt (by omega)]; exact hnn (z := x) (fun z => hxa (Int32.lt_trans z (by decide +kernel))))
      generalize x.toNatClampNeg = k9 at *
      subst ek9
      have ek2 := ki2c k9 (by omega)
      refine Γ.intro hg kX9_appendCharacter (by omega) (gcu m5 (S.inp.length + 1)) (gsu m5 (S.inp.length + 1)) (by omega) (by omega) (Nat.le_of_ble_eq_true rfl) (fun P hP => ?_)
      show P N (gcu m5 (S.inp.length + 1)) (gsu m5 (S.inp.length + 1)) w 0 [some (.ref 0), some (.int (nI k9))] []
      refine hP 0 _ rfl _ _ _ _ _ _ ?_
      simp only [bX9_appendCharacter_0, hrun, hx, hnth, hput, hok, hcat2, hldI, hldL, hldR, hpI, hpL, hpA, hpR, hp1, hpV, hrtI, hrtL, hrtR, hrtV, hpN, hck, hrI, hrB, hrL, hrA, hwI, hwA, hwB, hrN, hfk, hfs, hrF, hwF, hcl, hfty, tyX1, tyX3, tyX6, tyX9, tyX10, tyJ0, tyJ4, hfit, hcmp, hnar, hres, hst, hacp, kz, kof, kn0, kn1, Bool.not_true, Bool.not_false, true_and, and_true, Nat.zero_add, Nat.reduceAdd, List.length_cons, List.length_nil, true_or, or_true, false_or, or_false, decide_true, decide_false, ne_eq, not_true_eq_false, not_false_eq_true, ki_0, ki_1, ki_2, ki_3, ki_4, ki_5, kb_m100, kb_m10, kb_m9, kb_m8, kb_m7, kb_m6, kb_m5, kb_m4, kb_m3, kb_m2, kb_6, kb_7, kb_8, kb_9, kb_10, kb_12, kb_13, kb_16, kb_27, kb_31, kb_32, kb_43, kb_45, kb_48, kb_57, kb_60, kb_63, kb_81, kb_97, kb_99, kb_100, kb_120, kb_126, ks_m1000, ks_243, ks_255, ks_729, ks_1000, ks_2000, ks_2187, ks_6561, ks_9840, ks_9841, kl_0, kl_1, k0, kb, ek2]
      refine ⟨fun b3 => ?_, fun b3 => ?_⟩
      · skip
        exact absurd b3 hxa
      · skip
        refine hP 1 _ rfl _ _ _ _ _ _ ?_
        simp only [bX9_appendCharacter_1, hrun, hx, hnth, hput, hok, hcat2, hldI, hldL, hldR, hpI, hpL, hpA, hpR, hp1, hpV, hrtI, hrtL, hrtR, hrtV, hpN, hck, hrI, hrB, hrL, hrA, hwI, hwA, hwB, hrN, hfk, hfs, hrF, hwF, hcl, hfty, tyX1, tyX3, tyX6, tyX9, tyX10, tyJ0, tyJ4, hfit, hcmp, hnar, hres, hst, hacp, kz, kof, kn0, kn1, Bool.not_true, Bool.not_false, true_and, and_true, Nat.zero_add, Nat.reduceAdd, List.length_cons, List.length_nil, true_or, or_true, false_or, or_false, decide_true, decide_false, ne_eq, not_true_eq_false, not_false_eq_true, ki_0, ki_1, ki_2, ki_3, ki_4, ki_5, kb_m100, kb_m10, kb_m9, kb_m8, kb_m7, kb_m6, kb_m5, kb_m4, kb_m3, kb_m2, kb_6, kb_7, kb_8, kb_9, kb_10, kb_12, kb_13, kb_16, kb_27, kb_31, kb_32, kb_43, kb_45, kb_48, kb_57, kb_60, kb_63, kb_81, kb_97, kb_99, kb_100, kb_120, kb_126, ks_m1000, ks_243, ks_255, ks_729, ks_1000, ks_2000, ks_2187, ks_6561, ks_9840, ks_9841, kl_0, kl_1, k0, kb, ek2]
        refine ⟨fun b9 => ?_, fun b9 => ?_⟩
        · skip
          refine hP 3 _ rfl _ _ _ _ _ _ ?_
          simp only [bX9_appendCharacter_3, hrun, hx, hnth, hput, hok, hcat2, hldI, hldL, hldR, hpI, hpL, hpA, hpR, hp1, hpV, hrtI, hrtL, hrtR, hrtV, hpN, hck, hrI, hrB, hrL, hrA, hwI, hwA, hwB, hrN, hfk, hfs, hrF, hwF, hcl, hfty, tyX1, tyX3, tyX6, tyX9, tyX10, tyJ0, tyJ4, hfit, hcmp, hnar, hres, hst, hacp, kz, kof, kn0, kn1, Bool.not_true, Bool.not_false, true_and, and_true, Nat.zero_add, Nat.reduceAdd, List.length_cons, List.length_nil, true_or, or_true, false_or, or_false, decide_true, decide_false, ne_eq, not_true_eq_false, not_false_eq_true, ki_0, ki_1, ki_2, ki_3, ki_4, ki_5, kb_m100, kb_m10, kb_m9, kb_m8, kb_m7, kb_m6, kb_m5, kb_m4, kb_m3, kb_m2, kb_6, kb_7, kb_8, kb_9, kb_10, kb_12, kb_13, kb_16, kb_27, kb_31, kb_32, kb_43, kb_45, kb_48, kb_57, kb_60, kb_63, kb_81, kb_97, kb_99, kb_100, kb_120, kb_126, ks_m1000, ks_243, ks_255, ks_729, ks_1000, ks_2000, ks_2187, ks_6561, ks_9840, ks_9841, kl_0, kl_1, k0, kb, ek2]
          refine c_bLength hg (by omega) h5 ?_
          simp only [hrun, hx, hnth, hput, hok, hcat2, hldI, hldL, hldR, hpI, hpL, hpA, hpR, hp1, hpV, hrtI, hrtL, hrtR, hrtV, hpN, hck, hrI, hrB, hrL, hrA, hwI, hwA, hwB, hrN, hfk, hfs, hrF, hwF, hcl, hfty, tyX1, tyX3, tyX6, tyX9, tyX10, tyJ0, tyJ4, hfit, hcmp, hnar, hres, hst, hacp, kz, kof, kn0, kn1, Bool.not_true, Bool.not_false, true_and, and_true, Nat.zero_add, Nat.reduceAdd, List.length_cons, List.length_nil, true_or, or_true, false_or, or_false, decide_true, decide_false, ne_eq, not_true_eq_false, not_false_eq_true, ki_0, ki_1, ki_2, ki_3, ki_4, ki_5, kb_m100, kb_m10, kb_m9, kb_m8, kb_m7, kb_m6, kb_m5, kb_m4, kb_m3, kb_m2, kb_6, kb_7, kb_8, kb_9, kb_10, kb_12, kb_13, kb_16, kb_27, kb_31, kb_32, kb_43, kb_45, kb_48, kb_57, kb_60, kb_63, kb_81, kb_97, kb_99, kb_100, kb_120, kb_126, ks_m1000, ks_243, ks_255, ks_729, ks_1000, ks_2000, ks_2187, ks_6561, ks_9840, ks_9841, kl_0, kl_1, k0, kb, ek2]
          refine ⟨fun b24 => ?_, fun b24 => ?_⟩
          · try simp (disch := omega) only [nI_ltI, nI_leI, nI_eq, Nat.not_lt, Nat.not_le] at b24
            refine hP 5 _ rfl _ _ _ _ _ _ ?_
            simp only [bX9_appendCharacter_5, hrun, hx, hnth, hput, hok, hcat2, hldI, hldL, hldR, hpI, hpL, hpA, hpR, hp1, hpV, hrtI, hrtL, hrtR, hrtV, hpN, hck, hrI, hrB, hrL, hrA, hwI, hwA, hwB, hrN, hfk, hfs, hrF, hwF, hcl, hfty, tyX1, tyX3, tyX6, tyX9, tyX10, tyJ0, tyJ4, hfit, hcmp, hnar, hres, hst, hacp, kz, kof, kn0, kn1, Bool.not_true, Bool.not_false, true_and, and_true, Nat.zero_add, Nat.reduceAdd, List.length_cons, List.length_nil, true_or, or_true, false_or, or_false, decide_true, decide_false, ne_eq, not_true_eq_false, not_false_eq_true, ki_0, ki_1, ki_2, ki_3, ki_4, ki_5, kb_m100, kb_m10, kb_m9, kb_m8, kb_m7, kb_m6, kb_m5, kb_m4, kb_m3, kb_m2, kb_6, kb_7, kb_8, kb_9, kb_10, kb_12, kb_13, kb_16, kb_27, kb_31, kb_32, kb_43, kb_45, kb_48, kb_57, kb_60, kb_63, kb_81, kb_97, kb_99, kb_100, kb_120, kb_126, ks_m1000, ks_243, ks_255, ks_729, ks_1000, ks_2000, ks_2187, ks_6561, ks_9840, ks_9841, kl_0, kl_1, k0, kb, ek2]
            refine c_bApp hg (by omega) h5 (by omega) (by omega) (by omega) hv5N (Nat.le_refl _) (Nat.le_refl _) (x := k9) (by omega) (fun w1 h51 hm1 => ?_)
            have z0 : w1 0 = _ := (hm1 0 (by simp; omega)).trans k0
            obtain ⟨ml1, F1, kb1, _⟩ := id h51.2.2.2
            simp only [hrun, hx, hnth, hput, hok, hcat2, hldI, hldL, hldR, hpI, hpL, hpA, hpR, hp1, hpV, hrtI, hrtL, hrtR, hrtV, hpN, hck, hrI, hrB, hrL, hrA, hwI, hwA, hwB, hrN, hfk, hfs, hrF, hwF, hcl, hfty, tyX1, tyX3, tyX6, tyX9, tyX10, tyJ0, tyJ4, hfit, hcmp, hnar, hres, hst, hacp, kz, kof, kn0, kn1, Bool.not_true, Bool.not_false, true_and, and_true, Nat.zero_add, Nat.reduceAdd, List.length_cons, List.length_nil, true_or, or_true, false_or, or_false, decide_true, decide_false, ne_eq, not_true_eq_false, not_false_eq_true, ki_0, ki_1, ki_2, ki_3, ki_4, ki_5, kb_m100, kb_m10, kb_m9, kb_m8, kb_m7, kb_m6, kb_m5, kb_m4, kb_m3, kb_m2, kb_6, kb_7, kb_8, kb_9, kb_10, kb_12, kb_13, kb_16, kb_27, kb_31, kb_32, kb_43, kb_45, kb_48, kb_57, kb_60, kb_63, kb_81, kb_97, kb_99, kb_100, kb_120, kb_126, ks_m1000, ks_243, ks_255, ks_729, ks_1000, ks_2000, ks_2187, ks_6561, ks_9840, ks_9841, kl_0, kl_1, z0, kb1, z0, kb1]
            refine c_bLength hg (by omega) h51 ?_
            simp only [hrun, hx, hnth, hput, hok, hcat2, hldI, hldL, hldR, hpI, hpL, hpA, hpR, hp1, hpV, hrtI, hrtL, hrtR, hrtV, hpN, hck, hrI, hrB, hrL, hrA, hwI, hwA, hwB, hrN, hfk, hfs, hrF, hwF, hcl, hfty, tyX1, tyX3, tyX6, tyX9, tyX10, tyJ0, tyJ4, hfit, hcmp, hnar, hres, hst, hacp, kz, kof, kn0, kn1, Bool.not_true, Bool.not_false, true_and, and_true, Nat.zero_add, Nat.reduceAdd, List.length_cons, List.length_nil, true_or, or_true, false_or, or_false, decide_true, decide_false, ne_eq, not_true_eq_false, not_false_eq_true, ki_0, ki_1, ki_2, ki_3, ki_4, ki_5, kb_m100, kb_m10, kb_m9, kb_m8, kb_m7, kb_m6, kb_m5, kb_m4, kb_m3, kb_m2, kb_6, kb_7, kb_8, kb_9, kb_10, kb_12, kb_13, kb_16, kb_27, kb_31, kb_32, kb_43, kb_45, kb_48, kb_57, kb_60, kb_63, kb_81, kb_97, kb_99, kb_100, kb_120, kb_126, ks_m1000, ks_243, ks_255, ks_729, ks_1000, ks_2000, ks_2187, ks_6561, ks_9840, ks_9841, kl_0, kl_1, z0, kb1]
            rw [List.length_append]
            refine h w1 _ _ _ (hX9.bldm hm1 (by intro x hx9; simp at hx9; omega) rfl rfl rfl rfl rfl) ⟨by omega, by omega, ?_, ho19, gvv v5 N m5 (S.inp.length + 1), gcap m5 (S.inp.length + 1), v7, m7, h51, h7.keep (hm1 7 (by simp; omega)) (hm1 v7 (by simp; omega)), ?_, ?_, hv7, by omega, ?_, ?_, ?_, hm7, hm72⟩ (hm1.t (by intro x hx9; simp at hx9; omega)) (Nat.le_add_right _ _) (by omega) (by omega) (by omega)
            · show (S.inp ++ [k9]).length ≤ 60
              rw [List.length_append]
              show S.inp.length + 1 ≤ 60
              omega
            · unfold gvv; split <;> omega
            · unfold gvv gcu; split <;> omega
            · unfold gvv; split <;> omega
            · unfold gcap; split <;> omega
            · unfold gcap; split <;> omega
          · (try simp (disch := omega) only [nI_ltI, nI_leI, nI_eq, Nat.not_lt, Nat.not_le] at b24) <;> (exfalso; omega)
        · skip
          exact absurd (Int32.not_lt.mp hxb) b9
theorem mEP_b : ∀ (l : List Nat) (i dg lt k : Nat), mEP l i dg lt = some k → k ≤ i + l.length
  | [], i, dg, lt, k, h => by
    unfold mEP at h
    split at h
    · cases h
    · injection h with h; omega
  | c :: r, i, dg, lt, k, h => by
    unfold mEP at h
    split at h
    · have := mEP_b r (i + 1) dg (lt + 1) k h; simp; omega
    · split at h
      · have := mEP_b r (i + 1) (dg + 1) lt k h; simp; omega
      · split at h
        · have := mEP_b r (i + 1) 0 0 k h; simp; omega
        · injection h with h; omega
theorem nI_ne_m1 {k : Nat} (h : k < 2 ^ 30) : ¬ nI k = Int32.ofInt (-1) := fun q => by
  have e := congrArg Int32.toInt q
  rw [nI_toInt (by omega)] at e
  have : (Int32.ofInt (-1)).toInt = -1 := by decide +kernel
  omega
set_option maxRecDepth 100000 in
set_option maxHeartbeats 4000000 in
theorem c_x_parsePolynomial (hg : hgo g) (hd : 25 ≤ d) {S : cS} (hX9 : hX w S) (hB9 : hTB w N S) (hNb : N ≤ 800000) (hc20 : 20 ≤ c) (hs80 : 8000 ≤ s) {x : Int32} (h : ∀ w' N' c' s', hX w' (rpP S x).2 → hTB w' N' (rpP S x).2 → tfr w w' → N ≤ N' → N' ≤ N + 20 → c ≤ c' + 20 → s ≤ s' + 8000 → Q (some (.int (rpP S x).1)) N' c' s' w') : Γ g d yX9_parsePolynomial [.ref 0, .int x] N c s w Q := by
  have k0 := hX9.1
  obtain ⟨hN1, hN2, hi60, ho19, v5, m5, v7, m7, h5, h7, hv5, hv5N, hv7, hv7N, hv57, hm5, hm52, hm7, hm72⟩ := id hB9
  obtain ⟨hbv, hl, hm, ml, F, kb, kv, hF, hfy⟩ := id h5
  cases hq_x : ixn 5 x with
  | none =>
    have hr_x := ixn_none hq_x
    simp only [rpP, hq_x] at h
    refine Γ.intro hg kX9_parsePolynomial (by omega) (2) (S.inp.length + 4) (by omega) (by omega) (Nat.le_of_ble_eq_true rfl) (fun P hP => ?_)
    show P N (2) (S.inp.length + 4) w 0 [some (.ref 0), some (.int x), none, none, none] []
    refine hP 0 _ rfl _ _ _ _ _ _ ?_
    simp only [bX9_parsePolynomial_0, hrun, hx, hnth, hput, hok, hcat2, hldI, hldL, hldR, hpI, hpL, hpA, hpR, hp1, hpV, hrtI, hrtL, hrtR, hrtV, hpN, hck, hrI, hrB, hrL, hrA, hwI, hwA, hwB, hrN, hfk, hfs, hrF, hwF, hcl, hfty, tyX1, tyX3, tyX6, tyX9, tyX10, tyJ0, tyJ4, hfit, hcmp, hnar, hres, hst, hacp, kz, kof, kn0, kn1, Bool.not_true, Bool.not_false, true_and, and_true, Nat.zero_add, Nat.reduceAdd, List.length_cons, List.length_nil, true_or, or_true, false_or, or_false, decide_true, decide_false, ne_eq, not_true_eq_false, not_false_eq_true, ki_0, ki_1, ki_2, ki_3, ki_4, ki_5, kb_m100, kb_m10, kb_m9, kb_m8, kb_m7, kb_m6, kb_m5, kb_m4, kb_m3, kb_m2, kb_6, kb_7, kb_8, kb_9, kb_10, kb_12, kb_13, kb_16, kb_27, kb_31, kb_32, kb_43, kb_45, kb_48, kb_57, kb_60, kb_63, kb_81, kb_97, kb_99, kb_100, kb_120, kb_126, ks_m1000, ks_243, ks_255, ks_729, ks_1000, ks_2000, ks_2187, ks_6561, ks_9840, ks_9841, kl_0, kl_1, k0]
    refine c_takeInput hg (by omega) hX9 hB9 hNb (Nat.le_refl _) (Nat.le_refl _) (fun w1 hX1 hB1 ht1 hm1 => ?_)
    obtain ⟨hr, hs⟩ := hX1.r
    have z0 := hr.1
    obtain ⟨fs9, k9⟩ := hs.cl
    simp only [hrun, hx, hnth, hput, hok, hcat2, hldI, hldL, hldR, hpI, hpL, hpA, hpR, hp1, hpV, hrtI, hrtL, hrtR, hrtV, hpN, hck, hrI, hrB, hrL, hrA, hwI, hwA, hwB, hrN, hfk, hfs, hrF, hwF, hcl, hfty, tyX1, tyX3, tyX6, tyX9, tyX10, tyJ0, tyJ4, hfit, hcmp, hnar, hres, hst, hacp, kz, kof, kn0, kn1, Bool.not_true, Bool.not_false, true_and, and_true, Nat.zero_add, Nat.reduceAdd, List.length_cons, List.length_nil, true_or, or_true, false_or, or_false, decide_true, decide_false, ne_eq, not_true_eq_false, not_false_eq_true, ki_0, ki_1, ki_2, ki_3, ki_4, ki_5, kb_m100, kb_m10, kb_m9, kb_m8, kb_m7, kb_m6, kb_m5, kb_m4, kb_m3, kb_m2, kb_6, kb_7, kb_8, kb_9, kb_10, kb_12, kb_13, kb_16, kb_27, kb_31, kb_32, kb_43, kb_45, kb_48, kb_57, kb_60, kb_63, kb_81, kb_97, kb_99, kb_100, kb_120, kb_126, ks_m1000, ks_243, ks_255, ks_729, ks_1000, ks_2000, ks_2187, ks_6561, ks_9840, ks_9841, kl_0, kl_1, k0, z0, k9]
    refine c_registerAtN hg (by omega) hr_x ?_
    simp only [hrun, hx, hnth, hput, hok, hcat2, hldI, hldL, hldR, hpI, hpL, hpA, hpR, hp1, hpV, hrtI, hrtL, hrtR, hrtV, hpN, hck, hrI, hrB, hrL, hrA, hwI, hwA, hwB, hrN, hfk, hfs, hrF, hwF, hcl, hfty, tyX1, tyX3, tyX6, tyX9, tyX10, tyJ0, tyJ4, hfit, hcmp, hnar, hres, hst, hacp, kz, kof, kn0, kn1, Bool.not_true, Bool.not_false, true_and, and_true, Nat.zero_add, Nat.reduceAdd, List.length_cons, List.length_nil, true_or, or_true, false_or, or_false, decide_true, decide_false, ne_eq, not_true_eq_false, not_false_eq_true, ki_0, ki_1, ki_2, ki_3, ki_4, ki_5, kb_m100, kb_m10, kb_m9, kb_m8, kb_m7, kb_m6, kb_m5, kb_m4, kb_m3, kb_m2, kb_6, kb_7, kb_8, kb_9, kb_10, kb_12, kb_13, kb_16, kb_27, kb_31, kb_32, kb_43, kb_45, kb_48, kb_57, kb_60, kb_63, kb_81, kb_97, kb_99, kb_100, kb_120, kb_126, ks_m1000, ks_243, ks_255, ks_729, ks_1000, ks_2000, ks_2187, ks_6561, ks_9840, ks_9841, kl_0, kl_1, k0]
    refine hP 1 _ rfl _ _ _ _ _ _ ?_
    simp only [bX9_parsePolynomial_1, hrun, hx, hnth, hput, hok, hcat2, hldI, hldL, hldR, hpI, hpL, hpA, hpR, hp1, hpV, hrtI, hrtL, hrtR, hrtV, hpN, hck, hrI, hrB, hrL, hrA, hwI, hwA, hwB, hrN, hfk, hfs, hrF, hwF, hcl, hfty, tyX1, tyX3, tyX6, tyX9, tyX10, tyJ0, tyJ4, hfit, hcmp, hnar, hres, hst, hacp, kz, kof, kn0, kn1, Bool.not_true, Bool.not_false, true_and, and_true, Nat.zero_add, Nat.reduceAdd, List.length_cons, List.length_nil, true_or, or_true, false_or, or_false, decide_true, decide_false, ne_eq, not_true_eq_false, not_false_eq_true, ki_0, ki_1, ki_2, ki_3, ki_4, ki_5, kb_m100, kb_m10, kb_m9, kb_m8, kb_m7, kb_m6, kb_m5, kb_m4, kb_m3, kb_m2, kb_6, kb_7, kb_8, kb_9, kb_10, kb_12, kb_13, kb_16, kb_27, kb_31, kb_32, kb_43, kb_45, kb_48, kb_57, kb_60, kb_63, kb_81, kb_97, kb_99, kb_100, kb_120, kb_126, ks_m1000, ks_243, ks_255, ks_729, ks_1000, ks_2000, ks_2187, ks_6561, ks_9840, ks_9841, kl_0, kl_1, k0]
    exact h w1 _ _ _ hX1 hB1 (hm1.t (by intro x hx9; simp at hx9; omega)) (by omega) (by omega) (by omega) (by omega)
  | some i =>
    obtain ⟨h_i, hrfl_i⟩ := ixn_some (by omega) hq_x
    subst hrfl_i
    have hpa := par_A hi60 (fun _ => (0 : Int64))
    cases eE : mEP S.inp 0 0 0 with
    | none =>
      have ha := hpa.1 eE
      simp only [rpP, hq_x] at h
      rw [if_pos ha.1, ha.2] at h
      refine Γ.intro hg kX9_parsePolynomial (by omega) (2) (S.inp.length + 4) (by omega) (by omega) (Nat.le_of_ble_eq_true rfl) (fun P hP => ?_)
      show P N (2) (S.inp.length + 4) w 0 [some (.ref 0), some (.int (nI i)), none, none, none] []
      refine hP 0 _ rfl _ _ _ _ _ _ ?_
      simp only [bX9_parsePolynomial_0, hrun, hx, hnth, hput, hok, hcat2, hldI, hldL, hldR, hpI, hpL, hpA, hpR, hp1, hpV, hrtI, hrtL, hrtR, hrtV, hpN, hck, hrI, hrB, hrL, hrA, hwI, hwA, hwB, hrN, hfk, hfs, hrF, hwF, hcl, hfty, tyX1, tyX3, tyX6, tyX9, tyX10, tyJ0, tyJ4, hfit, hcmp, hnar, hres, hst, hacp, kz, kof, kn0, kn1, Bool.not_true, Bool.not_false, true_and, and_true, Nat.zero_add, Nat.reduceAdd, List.length_cons, List.length_nil, true_or, or_true, false_or, or_false, decide_true, decide_false, ne_eq, not_true_eq_false, not_false_eq_true, ki_0, ki_1, ki_2, ki_3, ki_4, ki_5, kb_m100, kb_m10, kb_m9, kb_m8, kb_m7, kb_m6, kb_m5, kb_m4, kb_m3, kb_m2, kb_6, kb_7, kb_8, kb_9, kb_10, kb_12, kb_13, kb_16, kb_27, kb_31, kb_32, kb_43, kb_45, kb_48, kb_57, kb_60, kb_63, kb_81, kb_97, kb_99, kb_100, kb_120, kb_126, ks_m1000, ks_243, ks_255, ks_729, ks_1000, ks_2000, ks_2187, ks_6561, ks_9840, ks_9841, kl_0, kl_1, k0]
      refine c_takeInput hg (by omega) hX9 hB9 hNb (Nat.le_refl _) (Nat.le_refl _) (fun w1 hX1 hB1 ht1 hm1 => ?_)
      obtain ⟨hr, hs⟩ := hX1.r
      have z0 := hr.1
      obtain ⟨fs9, k9⟩ := hs.cl
      simp only [hrun, hx, hnth, hput, hok, hcat2, hldI, hldL, hldR, hpI, hpL, hpA, hpR, hp1, hpV, hrtI, hrtL, hrtR, hrtV, hpN, hck, hrI, hrB, hrL, hrA, hwI, hwA, hwB, hrN, hfk, hfs, hrF, hwF, hcl, hfty, tyX1, tyX3, tyX6, tyX9, tyX10, tyJ0, tyJ4, hfit, hcmp, hnar, hres, hst, hacp, kz, kof, kn0, kn1, Bool.not_true, Bool.not_false, true_and, and_true, Nat.zero_add, Nat.reduceAdd, List.length_cons, List.length_nil, true_or, or_true, false_or, or_false, decide_true, decide_false, ne_eq, not_true_eq_false, not_false_eq_true, ki_0, ki_1, ki_2, ki_3, ki_4, ki_5, kb_m100, kb_m10, kb_m9, kb_m8, kb_m7, kb_m6, kb_m5, kb_m4, kb_m3, kb_m2, kb_6, kb_7, kb_8, kb_9, kb_10, kb_12, kb_13, kb_16, kb_27, kb_31, kb_32, kb_43, kb_45, kb_48, kb_57, kb_60, kb_63, kb_81, kb_97, kb_99, kb_100, kb_120, kb_126, ks_m1000, ks_243, ks_255, ks_729, ks_1000, ks_2000, ks_2187, ks_6561, ks_9840, ks_9841, kl_0, kl_1, z0, k9, z0, k9]
      refine c_regAt hg (by omega) hr h_i ?_
      simp only [hrun, hx, hnth, hput, hok, hcat2, hldI, hldL, hldR, hpI, hpL, hpA, hpR, hp1, hpV, hrtI, hrtL, hrtR, hrtV, hpN, hck, hrI, hrB, hrL, hrA, hwI, hwA, hwB, hrN, hfk, hfs, hrF, hwF, hcl, hfty, tyX1, tyX3, tyX6, tyX9, tyX10, tyJ0, tyJ4, hfit, hcmp, hnar, hres, hst, hacp, kz, kof, kn0, kn1, Bool.not_true, Bool.not_false, true_and, and_true, Nat.zero_add, Nat.reduceAdd, List.length_cons, List.length_nil, true_or, or_true, false_or, or_false, decide_true, decide_false, ne_eq, not_true_eq_false, not_false_eq_true, ki_0, ki_1, ki_2, ki_3, ki_4, ki_5, kb_m100, kb_m10, kb_m9, kb_m8, kb_m7, kb_m6, kb_m5, kb_m4, kb_m3, kb_m2, kb_6, kb_7, kb_8, kb_9, kb_10, kb_12, kb_13, kb_16, kb_27, kb_31, kb_32, kb_43, kb_45, kb_48, kb_57, kb_60, kb_63, kb_81, kb_97, kb_99, kb_100, kb_120, kb_126, ks_m1000, ks_243, ks_255, ks_729, ks_1000, ks_2000, ks_2187, ks_6561, ks_9840, ks_9841, kl_0, kl_1, z0, k9]
      refine hP 2 _ rfl _ _ _ _ _ _ ?_
      simp only [bX9_parsePolynomial_2, hrun, hx, hnth, hput, hok, hcat2, hldI, hldL, hldR, hpI, hpL, hpA, hpR, hp1, hpV, hrtI, hrtL, hrtR, hrtV, hpN, hck, hrI, hrB, hrL, hrA, hwI, hwA, hwB, hrN, hfk, hfs, hrF, hwF, hcl, hfty, tyX1, tyX3, tyX6, tyX9, tyX10, tyJ0, tyJ4, hfit, hcmp, hnar, hres, hst, hacp, kz, kof, kn0, kn1, Bool.not_true, Bool.not_false, true_and, and_true, Nat.zero_add, Nat.reduceAdd, List.length_cons, List.length_nil, true_or, or_true, false_or, or_false, decide_true, decide_false, ne_eq, not_true_eq_false, not_false_eq_true, ki_0, ki_1, ki_2, ki_3, ki_4, ki_5, kb_m100, kb_m10, kb_m9, kb_m8, kb_m7, kb_m6, kb_m5, kb_m4, kb_m3, kb_m2, kb_6, kb_7, kb_8, kb_9, kb_10, kb_12, kb_13, kb_16, kb_27, kb_31, kb_32, kb_43, kb_45, kb_48, kb_57, kb_60, kb_63, kb_81, kb_97, kb_99, kb_100, kb_120, kb_126, ks_m1000, ks_243, ks_255, ks_729, ks_1000, ks_2000, ks_2187, ks_6561, ks_9840, ks_9841, kl_0, kl_1, z0, k9]
      refine c_errorPosition hg (by omega) ht1 hi60 ?_
      rw [eE]
      unfold mEPv
      simp only [hrun, hx, hnth, hput, hok, hcat2, hldI, hldL, hldR, hpI, hpL, hpA, hpR, hp1, hpV, hrtI, hrtL, hrtR, hrtV, hpN, hck, hrI, hrB, hrL, hrA, hwI, hwA, hwB, hrN, hfk, hfs, hrF, hwF, hcl, hfty, tyX1, tyX3, tyX6, tyX9, tyX10, tyJ0, tyJ4, hfit, hcmp, hnar, hres, hst, hacp, kz, kof, kn0, kn1, Bool.not_true, Bool.not_false, true_and, and_true, Nat.zero_add, Nat.reduceAdd, List.length_cons, List.length_nil, true_or, or_true, false_or, or_false, decide_true, decide_false, ne_eq, not_true_eq_false, not_false_eq_true, ki_0, ki_1, ki_2, ki_3, ki_4, ki_5, kb_m100, kb_m10, kb_m9, kb_m8, kb_m7, kb_m6, kb_m5, kb_m4, kb_m3, kb_m2, kb_6, kb_7, kb_8, kb_9, kb_10, kb_12, kb_13, kb_16, kb_27, kb_31, kb_32, kb_43, kb_45, kb_48, kb_57, kb_60, kb_63, kb_81, kb_97, kb_99, kb_100, kb_120, kb_126, ks_m1000, ks_243, ks_255, ks_729, ks_1000, ks_2000, ks_2187, ks_6561, ks_9840, ks_9841, kl_0, kl_1, z0, k9]
      refine ⟨fun b26 => ?_, fun b26 => ?_⟩
      · try simp (disch := omega) only [nI_ltI, nI_leI, nI_eq, Nat.not_lt, Nat.not_le] at b26
        refine hP 4 _ rfl _ _ _ _ _ _ ?_
        simp only [bX9_parsePolynomial_4, hrun, hx, hnth, hput, hok, hcat2, hldI, hldL, hldR, hpI, hpL, hpA, hpR, hp1, hpV, hrtI, hrtL, hrtR, hrtV, hpN, hck, hrI, hrB, hrL, hrA, hwI, hwA, hwB, hrN, hfk, hfs, hrF, hwF, hcl, hfty, tyX1, tyX3, tyX6, tyX9, tyX10, tyJ0, tyJ4, hfit, hcmp, hnar, hres, hst, hacp, kz, kof, kn0, kn1, Bool.not_true, Bool.not_false, true_and, and_true, Nat.zero_add, Nat.reduceAdd, List.length_cons, List.length_nil, true_or, or_true, false_or, or_false, decide_true, decide_false, ne_eq, not_true_eq_false, not_false_eq_true, ki_0, ki_1, ki_2, ki_3, ki_4, ki_5, kb_m100, kb_m10, kb_m9, kb_m8, kb_m7, kb_m6, kb_m5, kb_m4, kb_m3, kb_m2, kb_6, kb_7, kb_8, kb_9, kb_10, kb_12, kb_13, kb_16, kb_27, kb_31, kb_32, kb_43, kb_45, kb_48, kb_57, kb_60, kb_63, kb_81, kb_97, kb_99, kb_100, kb_120, kb_126, ks_m1000, ks_243, ks_255, ks_729, ks_1000, ks_2000, ks_2187, ks_6561, ks_9840, ks_9841, kl_0, kl_1, z0, k9]
        refine c_addTerms hg (by omega) hs ht1 hi60 (fun x hx9 y hy9 => by simp at hx9 hy9; omega) (par_seg eE) (fun w2 hs2 hm2 => ?_)
        have hr2 := hr.sm hm2
        have z2 := hr2.1
        obtain ⟨fs2, k92⟩ := hs2.cl
        obtain ⟨fs_i, kp_i⟩ := hr2.cl h_i
        simp only [hrun, hx, hnth, hput, hok, hcat2, hldI, hldL, hldR, hpI, hpL, hpA, hpR, hp1, hpV, hrtI, hrtL, hrtR, hrtV, hpN, hck, hrI, hrB, hrL, hrA, hwI, hwA, hwB, hrN, hfk, hfs, hrF, hwF, hcl, hfty, tyX1, tyX3, tyX6, tyX9, tyX10, tyJ0, tyJ4, hfit, hcmp, hnar, hres, hst, hacp, kz, kof, kn0, kn1, Bool.not_true, Bool.not_false, true_and, and_true, Nat.zero_add, Nat.reduceAdd, List.length_cons, List.length_nil, true_or, or_true, false_or, or_false, decide_true, decide_false, ne_eq, not_true_eq_false, not_false_eq_true, ki_0, ki_1, ki_2, ki_3, ki_4, ki_5, kb_m100, kb_m10, kb_m9, kb_m8, kb_m7, kb_m6, kb_m5, kb_m4, kb_m3, kb_m2, kb_6, kb_7, kb_8, kb_9, kb_10, kb_12, kb_13, kb_16, kb_27, kb_31, kb_32, kb_43, kb_45, kb_48, kb_57, kb_60, kb_63, kb_81, kb_97, kb_99, kb_100, kb_120, kb_126, ks_m1000, ks_243, ks_255, ks_729, ks_1000, ks_2000, ks_2187, ks_6561, ks_9840, ks_9841, kl_0, kl_1, z0, k9, z2, k92, kp_i]
        refine X_moveTo hg (by omega) hr2 hs2 h_i (fun w9 hS9 hm9 => ?_)
        simp only [hrun, hx, hnth, hput, hok, hcat2, hldI, hldL, hldR, hpI, hpL, hpA, hpR, hp1, hpV, hrtI, hrtL, hrtR, hrtV, hpN, hck, hrI, hrB, hrL, hrA, hwI, hwA, hwB, hrN, hfk, hfs, hrF, hwF, hcl, hfty, tyX1, tyX3, tyX6, tyX9, tyX10, tyJ0, tyJ4, hfit, hcmp, hnar, hres, hst, hacp, kz, kof, kn0, kn1, Bool.not_true, Bool.not_false, true_and, and_true, Nat.zero_add, Nat.reduceAdd, List.length_cons, List.length_nil, true_or, or_true, false_or, or_false, decide_true, decide_false, ne_eq, not_true_eq_false, not_false_eq_true, ki_0, ki_1, ki_2, ki_3, ki_4, ki_5, kb_m100, kb_m10, kb_m9, kb_m8, kb_m7, kb_m6, kb_m5, kb_m4, kb_m3, kb_m2, kb_6, kb_7, kb_8, kb_9, kb_10, kb_12, kb_13, kb_16, kb_27, kb_31, kb_32, kb_43, kb_45, kb_48, kb_57, kb_60, kb_63, kb_81, kb_97, kb_99, kb_100, kb_120, kb_126, ks_m1000, ks_243, ks_255, ks_729, ks_1000, ks_2000, ks_2187, ks_6561, ks_9840, ks_9841, kl_0, kl_1, z0, k9]
        have hm8 := (hm2.nf (by decide)).tr hm9
        exact h w9 _ _ _ hS9 (hB1.nf hm8 rfl rfl) ((hm1.t (by intro x hx9; simp at hx9; omega)).tr hm8.t) (by omega) (by omega) (by omega) (by omega)
      · (try simp (disch := omega) only [nI_ltI, nI_leI, nI_eq, Nat.not_lt, Nat.not_le] at b26) <;> (exfalso; omega)
    | some ke =>
      have ha := hpa.2 ke eE
      simp only [rpP, hq_x] at h
      rw [if_neg (by rw [ha.1]; decide), ha.2] at h
      have hk9 : ke ≤ 60 := by have := mEP_b _ _ _ _ _ eE; omega
      refine Γ.intro hg kX9_parsePolynomial (by omega) (2) (S.inp.length + 4) (by omega) (by omega) (Nat.le_of_ble_eq_true rfl) (fun P hP => ?_)
      show P N (2) (S.inp.length + 4) w 0 [some (.ref 0), some (.int (nI i)), none, none, none] []
      refine hP 0 _ rfl _ _ _ _ _ _ ?_
      simp only [bX9_parsePolynomial_0, hrun, hx, hnth, hput, hok, hcat2, hldI, hldL, hldR, hpI, hpL, hpA, hpR, hp1, hpV, hrtI, hrtL, hrtR, hrtV, hpN, hck, hrI, hrB, hrL, hrA, hwI, hwA, hwB, hrN, hfk, hfs, hrF, hwF, hcl, hfty, tyX1, tyX3, tyX6, tyX9, tyX10, tyJ0, tyJ4, hfit, hcmp, hnar, hres, hst, hacp, kz, kof, kn0, kn1, Bool.not_true, Bool.not_false, true_and, and_true, Nat.zero_add, Nat.reduceAdd, List.length_cons, List.length_nil, true_or, or_true, false_or, or_false, decide_true, decide_false, ne_eq, not_true_eq_false, not_false_eq_true, ki_0, ki_1, ki_2, ki_3, ki_4, ki_5, kb_m100, kb_m10, kb_m9, kb_m8, kb_m7, kb_m6, kb_m5, kb_m4, kb_m3, kb_m2, kb_6, kb_7, kb_8, kb_9, kb_10, kb_12, kb_13, kb_16, kb_27, kb_31, kb_32, kb_43, kb_45, kb_48, kb_57, kb_60, kb_63, kb_81, kb_97, kb_99, kb_100, kb_120, kb_126, ks_m1000, ks_243, ks_255, ks_729, ks_1000, ks_2000, ks_2187, ks_6561, ks_9840, ks_9841, kl_0, kl_1, k0]
      refine c_takeInput hg (by omega) hX9 hB9 hNb (Nat.le_refl _) (Nat.le_refl _) (fun w1 hX1 hB1 ht1 hm1 => ?_)
      obtain ⟨hr, hs⟩ := hX1.r
      have z0 := hr.1
      obtain ⟨fs9, k9⟩ := hs.cl
      simp only [hrun, hx, hnth, hput, hok, hcat2, hldI, hldL, hldR, hpI, hpL, hpA, hpR, hp1, hpV, hrtI, hrtL, hrtR, hrtV, hpN, hck, hrI, hrB, hrL, hrA, hwI, hwA, hwB, hrN, hfk, hfs, hrF, hwF, hcl, hfty, tyX1, tyX3, tyX6, tyX9, tyX10, tyJ0, tyJ4, hfit, hcmp, hnar, hres, hst, hacp, kz, kof, kn0, kn1, Bool.not_true, Bool.not_false, true_and, and_true, Nat.zero_add, Nat.reduceAdd, List.length_cons, List.length_nil, true_or, or_true, false_or, or_false, decide_true, decide_false, ne_eq, not_true_eq_false, not_false_eq_true, ki_0, ki_1, ki_2, ki_3, ki_4, ki_5, kb_m100, kb_m10, kb_m9, kb_m8, kb_m7, kb_m6, kb_m5, kb_m4, kb_m3, kb_m2, kb_6, kb_7, kb_8, kb_9, kb_10, kb_12, kb_13, kb_16, kb_27, kb_31, kb_32, kb_43, kb_45, kb_48, kb_57, kb_60, kb_63, kb_81, kb_97, kb_99, kb_100, kb_120, kb_126, ks_m1000, ks_243, ks_255, ks_729, ks_1000, ks_2000, ks_2187, ks_6561, ks_9840, ks_9841, kl_0, kl_1, z0, k9, z0, k9]
      refine c_regAt hg (by omega) hr h_i ?_
      simp only [hrun, hx, hnth, hput, hok, hcat2, hldI, hldL, hldR, hpI, hpL, hpA, hpR, hp1, hpV, hrtI, hrtL, hrtR, hrtV, hpN, hck, hrI, hrB, hrL, hrA, hwI, hwA, hwB, hrN, hfk, hfs, hrF, hwF, hcl, hfty, tyX1, tyX3, tyX6, tyX9, tyX10, tyJ0, tyJ4, hfit, hcmp, hnar, hres, hst, hacp, kz, kof, kn0, kn1, Bool.not_true, Bool.not_false, true_and, and_true, Nat.zero_add, Nat.reduceAdd, List.length_cons, List.length_nil, true_or, or_true, false_or, or_false, decide_true, decide_false, ne_eq, not_true_eq_false, not_false_eq_true, ki_0, ki_1, ki_2, ki_3, ki_4, ki_5, kb_m100, kb_m10, kb_m9, kb_m8, kb_m7, kb_m6, kb_m5, kb_m4, kb_m3, kb_m2, kb_6, kb_7, kb_8, kb_9, kb_10, kb_12, kb_13, kb_16, kb_27, kb_31, kb_32, kb_43, kb_45, kb_48, kb_57, kb_60, kb_63, kb_81, kb_97, kb_99, kb_100, kb_120, kb_126, ks_m1000, ks_243, ks_255, ks_729, ks_1000, ks_2000, ks_2187, ks_6561, ks_9840, ks_9841, kl_0, kl_1, z0, k9]
      refine hP 2 _ rfl _ _ _ _ _ _ ?_
      simp only [bX9_parsePolynomial_2, hrun, hx, hnth, hput, hok, hcat2, hldI, hldL, hldR, hpI, hpL, hpA, hpR, hp1, hpV, hrtI, hrtL, hrtR, hrtV, hpN, hck, hrI, hrB, hrL, hrA, hwI, hwA, hwB, hrN, hfk, hfs, hrF, hwF, hcl, hfty, tyX1, tyX3, tyX6, tyX9, tyX10, tyJ0, tyJ4, hfit, hcmp, hnar, hres, hst, hacp, kz, kof, kn0, kn1, Bool.not_true, Bool.not_false, true_and, and_true, Nat.zero_add, Nat.reduceAdd, List.length_cons, List.length_nil, true_or, or_true, false_or, or_false, decide_true, decide_false, ne_eq, not_true_eq_false, not_false_eq_true, ki_0, ki_1, ki_2, ki_3, ki_4, ki_5, kb_m100, kb_m10, kb_m9, kb_m8, kb_m7, kb_m6, kb_m5, kb_m4, kb_m3, kb_m2, kb_6, kb_7, kb_8, kb_9, kb_10, kb_12, kb_13, kb_16, kb_27, kb_31, kb_32, kb_43, kb_45, kb_48, kb_57, kb_60, kb_63, kb_81, kb_97, kb_99, kb_100, kb_120, kb_126, ks_m1000, ks_243, ks_255, ks_729, ks_1000, ks_2000, ks_2187, ks_6561, ks_9840, ks_9841, kl_0, kl_1, z0, k9]
      refine c_errorPosition hg (by omega) ht1 hi60 ?_
      rw [eE]
      unfold mEPv
      simp only [hrun, hx, hnth, hput, hok, hcat2, hldI, hldL, hldR, hpI, hpL, hpA, hpR, hp1, hpV, hrtI, hrtL, hrtR, hrtV, hpN, hck, hrI, hrB, hrL, hrA, hwI, hwA, hwB, hrN, hfk, hfs, hrF, hwF, hcl, hfty, tyX1, tyX3, tyX6, tyX9, tyX10, tyJ0, tyJ4, hfit, hcmp, hnar, hres, hst, hacp, kz, kof, kn0, kn1, Bool.not_true, Bool.not_false, true_and, and_true, Nat.zero_add, Nat.reduceAdd, List.length_cons, List.length_nil, true_or, or_true, false_or, or_false, decide_true, decide_false, ne_eq, not_true_eq_false, not_false_eq_true, ki_0, ki_1, ki_2, ki_3, ki_4, ki_5, kb_m100, kb_m10, kb_m9, kb_m8, kb_m7, kb_m6, kb_m5, kb_m4, kb_m3, kb_m2, kb_6, kb_7, kb_8, kb_9, kb_10, kb_12, kb_13, kb_16, kb_27, kb_31, kb_32, kb_43, kb_45, kb_48, kb_57, kb_60, kb_63, kb_81, kb_97, kb_99, kb_100, kb_120, kb_126, ks_m1000, ks_243, ks_255, ks_729, ks_1000, ks_2000, ks_2187, ks_6561, ks_9840, ks_9841, kl_0, kl_1, z0, k9]
      refine ⟨fun b26 => ?_, fun b26 => ?_⟩
      · skip
        exact absurd b26 (nI_ne_m1 (by omega))
      · skip
        refine hP 3 _ rfl _ _ _ _ _ _ ?_
        simp only [bX9_parsePolynomial_3, hrun, hx, hnth, hput, hok, hcat2, hldI, hldL, hldR, hpI, hpL, hpA, hpR, hp1, hpV, hrtI, hrtL, hrtR, hrtV, hpN, hck, hrI, hrB, hrL, hrA, hwI, hwA, hwB, hrN, hfk, hfs, hrF, hwF, hcl, hfty, tyX1, tyX3, tyX6, tyX9, tyX10, tyJ0, tyJ4, hfit, hcmp, hnar, hres, hst, hacp, kz, kof, kn0, kn1, Bool.not_true, Bool.not_false, true_and, and_true, Nat.zero_add, Nat.reduceAdd, List.length_cons, List.length_nil, true_or, or_true, false_or, or_false, decide_true, decide_false, ne_eq, not_true_eq_false, not_false_eq_true, ki_0, ki_1, ki_2, ki_3, ki_4, ki_5, kb_m100, kb_m10, kb_m9, kb_m8, kb_m7, kb_m6, kb_m5, kb_m4, kb_m3, kb_m2, kb_6, kb_7, kb_8, kb_9, kb_10, kb_12, kb_13, kb_16, kb_27, kb_31, kb_32, kb_43, kb_45, kb_48, kb_57, kb_60, kb_63, kb_81, kb_97, kb_99, kb_100, kb_120, kb_126, ks_m1000, ks_243, ks_255, ks_729, ks_1000, ks_2000, ks_2187, ks_6561, ks_9840, ks_9841, kl_0, kl_1, z0, k9]
        exact h w1 _ _ _ hX1 hB1 (hm1.t (by intro x hx9; simp at hx9; omega)) (by omega) (by omega) (by omega) (by omega)
end W9q
