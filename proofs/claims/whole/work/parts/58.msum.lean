/-! the reference's sum -/
section M9
variable {g : hG} {d N c s : Nat} {w : hWd} {Q : hRt}
set_option maxRecDepth 100000 in
set_option maxHeartbeats 4000000 in
theorem c_clearSum (hg : hgo g) (hd : 1 ≤ d) (hM : hMb w) {f : Nat → Int64} (hs : hMs w f)  (h : ∀ w', hMs w' (fun _ => 0) → mfr [71] w w' → Q none N c s w') : Γ g d yX10_clearSum [.ref 47] N c s w Q := by
  refine Γ.intro0 hg kX10_clearSum (by omega) (Nat.le_of_ble_eq_true rfl) (fun P hP => ?_)
  show P N 0 0 w 0 [some (.ref 47), none] []
  obtain ⟨⟨ml, ls, ns, il, at9, ol, sv, k0⟩, kp⟩ := id hM
  have loop : ∀ (n i : Nat) (w1 : hWd), 9841 - i = n → i ≤ 9841 → hMs w1 (fun c => if c < i then 0 else f c) → mfr [71] w w1 → P N 0 0 w1 2 [some (.ref 47), some (.int (nI i))] [] := by
    intro n
    induction n with
    | zero =>
      intro i w1 hn hi h1 hm
      have ei : i = 9841 := by omega
      subst ei
      refine hP 1 _ rfl _ _ _ _ _ _ ?_
      simp only [bX10_clearSum_1, hrun, hx, hnth, hput, hok, hcat2, hldI, hldL, hldR, hpI, hpL, hpA, hpR, hp1, hpV, hrtI, hrtL, hrtR, hrtV, hpN, hck, hrI, hrB, hrL, hrA, hwI, hwA, hwB, hrN, mf_0, mf_1, mf_2, mf_3, mf_4, mf_5, mf_6, mf_7, mf_8, mf_9, mf_10, mf_11, mf_12, mf_13, mf_14, mf_15, mf_16, mf_17, mf_18, mf_19, mf_20, mf_21, mf_22, mf_23, mf_24, mf_25, mf_26, mf_27, mf_28, mf_29, ms_11, ms_16, ms_17, ms_20, ms_21, ms_23, ms_24, hwF, hcl, hfty, tyX1, tyX3, tyX6, tyX9, tyX10, tyJ0, tyJ4, hfit, hcmp, hnar, hres, hst, hacp, kz, kof, kn0, kn1, Bool.not_true, Bool.not_false, true_and, and_true, Nat.zero_add, Nat.reduceAdd, List.length_cons, List.length_nil, true_or, or_true, false_or, or_false, decide_true, decide_false, ne_eq, not_true_eq_false, not_false_eq_true, ki_0, ki_1, ki_2, ki_3, ki_4, ki_5, kb_m100, kb_m10, kb_m9, kb_m8, kb_m7, kb_m6, kb_m5, kb_m4, kb_m3, kb_m2, kb_6, kb_7, kb_8, kb_9, kb_10, kb_12, kb_13, kb_16, kb_27, kb_31, kb_32, kb_43, kb_45, kb_48, kb_57, kb_60, kb_63, kb_81, kb_97, kb_99, kb_100, kb_120, kb_126, ks_m1000, ks_243, ks_255, ks_729, ks_1000, ks_2000, ks_2187, ks_6561, ks_9840, ks_9841, kl_0, kl_1]
      refine ⟨fun b6 => ?_, fun b6 => ?_⟩
      · try simp (disch := omega) only [nI_ltI, nI_leI, nI_eq, Nat.not_lt, Nat.not_le] at b6
        refine hP 3 _ rfl _ _ _ _ _ _ ?_
        simp only [bX10_clearSum_3, hrun, hx, hnth, hput, hok, hcat2, hldI, hldL, hldR, hpI, hpL, hpA, hpR, hp1, hpV, hrtI, hrtL, hrtR, hrtV, hpN, hck, hrI, hrB, hrL, hrA, hwI, hwA, hwB, hrN, mf_0, mf_1, mf_2, mf_3, mf_4, mf_5, mf_6, mf_7, mf_8, mf_9, mf_10, mf_11, mf_12, mf_13, mf_14, mf_15, mf_16, mf_17, mf_18, mf_19, mf_20, mf_21, mf_22, mf_23, mf_24, mf_25, mf_26, mf_27, mf_28, mf_29, ms_11, ms_16, ms_17, ms_20, ms_21, ms_23, ms_24, hwF, hcl, hfty, tyX1, tyX3, tyX6, tyX9, tyX10, tyJ0, tyJ4, hfit, hcmp, hnar, hres, hst, hacp, kz, kof, kn0, kn1, Bool.not_true, Bool.not_false, true_and, and_true, Nat.zero_add, Nat.reduceAdd, List.length_cons, List.length_nil, true_or, or_true, false_or, or_false, decide_true, decide_false, ne_eq, not_true_eq_false, not_false_eq_true, ki_0, ki_1, ki_2, ki_3, ki_4, ki_5, kb_m100, kb_m10, kb_m9, kb_m8, kb_m7, kb_m6, kb_m5, kb_m4, kb_m3, kb_m2, kb_6, kb_7, kb_8, kb_9, kb_10, kb_12, kb_13, kb_16, kb_27, kb_31, kb_32, kb_43, kb_45, kb_48, kb_57, kb_60, kb_63, kb_81, kb_97, kb_99, kb_100, kb_120, kb_126, ks_m1000, ks_243, ks_255, ks_729, ks_1000, ks_2000, ks_2187, ks_6561, ks_9840, ks_9841, kl_0, kl_1]
        exact h w1 (h1.to (fun c hc => if_pos hc)) hm
      · (try simp (disch := omega) only [nI_ltI, nI_leI, nI_eq, Nat.not_lt, Nat.not_le] at b6) <;> (exfalso; omega)
    | succ n ih =>
      intro i w1 hn hi ⟨F, k1, hF⟩ hm
      have e7 := nI_clamp (n := i) (by omega)
      have z0 : w1 47 = _ := (hm 47 (by decide)).trans k0
      refine hP 1 _ rfl _ _ _ _ _ _ ?_
      simp only [bX10_clearSum_1, hrun, hx, hnth, hput, hok, hcat2, hldI, hldL, hldR, hpI, hpL, hpA, hpR, hp1, hpV, hrtI, hrtL, hrtR, hrtV, hpN, hck, hrI, hrB, hrL, hrA, hwI, hwA, hwB, hrN, mf_0, mf_1, mf_2, mf_3, mf_4, mf_5, mf_6, mf_7, mf_8, mf_9, mf_10, mf_11, mf_12, mf_13, mf_14, mf_15, mf_16, mf_17, mf_18, mf_19, mf_20, mf_21, mf_22, mf_23, mf_24, mf_25, mf_26, mf_27, mf_28, mf_29, ms_11, ms_16, ms_17, ms_20, ms_21, ms_23, ms_24, hwF, hcl, hfty, tyX1, tyX3, tyX6, tyX9, tyX10, tyJ0, tyJ4, hfit, hcmp, hnar, hres, hst, hacp, kz, kof, kn0, kn1, Bool.not_true, Bool.not_false, true_and, and_true, Nat.zero_add, Nat.reduceAdd, List.length_cons, List.length_nil, true_or, or_true, false_or, or_false, decide_true, decide_false, ne_eq, not_true_eq_false, not_false_eq_true, ki_0, ki_1, ki_2, ki_3, ki_4, ki_5, kb_m100, kb_m10, kb_m9, kb_m8, kb_m7, kb_m6, kb_m5, kb_m4, kb_m3, kb_m2, kb_6, kb_7, kb_8, kb_9, kb_10, kb_12, kb_13, kb_16, kb_27, kb_31, kb_32, kb_43, kb_45, kb_48, kb_57, kb_60, kb_63, kb_81, kb_97, kb_99, kb_100, kb_120, kb_126, ks_m1000, ks_243, ks_255, ks_729, ks_1000, ks_2000, ks_2187, ks_6561, ks_9840, ks_9841, kl_0, kl_1, z0, k1, e7]
      refine ⟨fun b6 => ?_, fun b6 => ?_⟩
      · (try simp (disch := omega) only [nI_ltI, nI_leI, nI_eq, Nat.not_lt, Nat.not_le] at b6) <;> (exfalso; omega)
      · try simp (disch := omega) only [nI_ltI, nI_leI, nI_eq, Nat.not_lt, Nat.not_le] at b6
        refine hP 2 _ rfl _ _ _ _ _ _ ?_
        simp only [bX10_clearSum_2, hrun, hx, hnth, hput, hok, hcat2, hldI, hldL, hldR, hpI, hpL, hpA, hpR, hp1, hpV, hrtI, hrtL, hrtR, hrtV, hpN, hck, hrI, hrB, hrL, hrA, hwI, hwA, hwB, hrN, mf_0, mf_1, mf_2, mf_3, mf_4, mf_5, mf_6, mf_7, mf_8, mf_9, mf_10, mf_11, mf_12, mf_13, mf_14, mf_15, mf_16, mf_17, mf_18, mf_19, mf_20, mf_21, mf_22, mf_23, mf_24, mf_25, mf_26, mf_27, mf_28, mf_29, ms_11, ms_16, ms_17, ms_20, ms_21, ms_23, ms_24, hwF, hcl, hfty, tyX1, tyX3, tyX6, tyX9, tyX10, tyJ0, tyJ4, hfit, hcmp, hnar, hres, hst, hacp, kz, kof, kn0, kn1, Bool.not_true, Bool.not_false, true_and, and_true, Nat.zero_add, Nat.reduceAdd, List.length_cons, List.length_nil, true_or, or_true, false_or, or_false, decide_true, decide_false, ne_eq, not_true_eq_false, not_false_eq_true, ki_0, ki_1, ki_2, ki_3, ki_4, ki_5, kb_m100, kb_m10, kb_m9, kb_m8, kb_m7, kb_m6, kb_m5, kb_m4, kb_m3, kb_m2, kb_6, kb_7, kb_8, kb_9, kb_10, kb_12, kb_13, kb_16, kb_27, kb_31, kb_32, kb_43, kb_45, kb_48, kb_57, kb_60, kb_63, kb_81, kb_97, kb_99, kb_100, kb_120, kb_126, ks_m1000, ks_243, ks_255, ks_729, ks_1000, ks_2000, ks_2187, ks_6561, ks_9840, ks_9841, kl_0, kl_1, z0, k1, e7]
        refine ⟨vp_in_nI (by omega) (by omega), ?_⟩
        rw [nI_add]
        refine ih (i + 1) _ (by omega) (by omega) ⟨_, va_up_self .., fun c hc => ?_⟩ (hm.tr (mfr.up (by simp)))
        show (if c = i then _ else F c) = if c < i + 1 then 0 else f c
        by_cases q : c = i
        · rw [if_pos q, if_pos (by omega)]; rfl
        · rw [if_neg q, show F c = if c < i then 0 else f c from hF c hc]
          by_cases q2 : c < i
          · rw [if_pos q2, if_pos (by omega)]
          · rw [if_neg q2, if_neg (by omega)]
  refine hP 0 _ rfl _ _ _ _ _ _ ?_
  simp only [bX10_clearSum_0, hrun, hx, hnth, hput, hok, hcat2, hldI, hldL, hldR, hpI, hpL, hpA, hpR, hp1, hpV, hrtI, hrtL, hrtR, hrtV, hpN, hck, hrI, hrB, hrL, hrA, hwI, hwA, hwB, hrN, mf_0, mf_1, mf_2, mf_3, mf_4, mf_5, mf_6, mf_7, mf_8, mf_9, mf_10, mf_11, mf_12, mf_13, mf_14, mf_15, mf_16, mf_17, mf_18, mf_19, mf_20, mf_21, mf_22, mf_23, mf_24, mf_25, mf_26, mf_27, mf_28, mf_29, ms_11, ms_16, ms_17, ms_20, ms_21, ms_23, ms_24, hwF, hcl, hfty, tyX1, tyX3, tyX6, tyX9, tyX10, tyJ0, tyJ4, hfit, hcmp, hnar, hres, hst, hacp, kz, kof, kn0, kn1, Bool.not_true, Bool.not_false, true_and, and_true, Nat.zero_add, Nat.reduceAdd, List.length_cons, List.length_nil, true_or, or_true, false_or, or_false, decide_true, decide_false, ne_eq, not_true_eq_false, not_false_eq_true, ki_0, ki_1, ki_2, ki_3, ki_4, ki_5, kb_m100, kb_m10, kb_m9, kb_m8, kb_m7, kb_m6, kb_m5, kb_m4, kb_m3, kb_m2, kb_6, kb_7, kb_8, kb_9, kb_10, kb_12, kb_13, kb_16, kb_27, kb_31, kb_32, kb_43, kb_45, kb_48, kb_57, kb_60, kb_63, kb_81, kb_97, kb_99, kb_100, kb_120, kb_126, ks_m1000, ks_243, ks_255, ks_729, ks_1000, ks_2000, ks_2187, ks_6561, ks_9840, ks_9841, kl_0, kl_1]
  exact loop _ 0 w rfl (Nat.zero_le _) (hs.to (fun c _ => (if_neg (by omega)).symm)) mfr.rf
set_option maxRecDepth 100000 in
set_option maxHeartbeats 4000000 in
theorem c_addReg (hg : hgo g) (hd : 1 ≤ d) {S : cS} (hr : hYr w S) {f : Nat → Int64} (hs : hMs w f) {i : Nat} (h_i : i < 5) {z : Int64}  (h : ∀ w', hYr w' S → hMs w' (mputs z f (S.rg i)) → mfr [71] w w' → Q none N c s w') : Γ g d yX10_addRegister [.ref 47, .int (nI i), .long z] N c s w Q := by
  refine Γ.intro0 hg kX10_addRegister (by omega) (Nat.le_of_ble_eq_true rfl) (fun P hP => ?_)
  show P N 0 0 w 0 [some (.ref 47), some (.int (nI i)), some (.long z), none, none] []
  obtain ⟨⟨ls, ⟨ml, ns, at9, k0⟩, kp, hLm9, hW1, hW2, hR1, hR2, hI9, hO9⟩, hz⟩ := id hr
  obtain ⟨⟨FC, kC, hFC⟩, kW, kK, hRr⟩ := id hR1
  obtain ⟨hPi, cf, nf, kw, kk, hcn⟩ := hRr i h_i
  have h120 := hPi.1
  have e_i := nI_clamp (n := i) (by omega)
  have f_i := hFC i h_i
  have loop : ∀ (n m : Nat) (w1 : hWd), (S.rg i).length - m = n → m ≤ (S.rg i).length → hMs w1 (mputs z f ((S.rg i).take m)) → mfr [71] w w1 → P N 0 0 w1 3 [some (.ref 47), some (.int (nI i)), some (.long z), none, some (.int (nI m))] [] := by
    intro n
    induction n with
    | zero =>
      intro m w1 hn hm h1 hm1
      have em : m = (S.rg i).length := by omega
      subst em
      rw [List.take_length] at h1
      have z0 : w1 47 = _ := (hm1 47 (by decide)).trans k0
      have z1 : w1 54 = _ := (hm1 54 (by decide)).trans kC
      refine hP 1 _ rfl _ _ _ _ _ _ ?_
      simp only [bX10_addRegister_1, hrun, hx, hnth, hput, hok, hcat2, hldI, hldL, hldR, hpI, hpL, hpA, hpR, hp1, hpV, hrtI, hrtL, hrtR, hrtV, hpN, hck, hrI, hrB, hrL, hrA, hwI, hwA, hwB, hrN, mf_0, mf_1, mf_2, mf_3, mf_4, mf_5, mf_6, mf_7, mf_8, mf_9, mf_10, mf_11, mf_12, mf_13, mf_14, mf_15, mf_16, mf_17, mf_18, mf_19, mf_20, mf_21, mf_22, mf_23, mf_24, mf_25, mf_26, mf_27, mf_28, mf_29, ms_11, ms_16, ms_17, ms_20, ms_21, ms_23, ms_24, hwF, hcl, hfty, tyX1, tyX3, tyX6, tyX9, tyX10, tyJ0, tyJ4, hfit, hcmp, hnar, hres, hst, hacp, kz, kof, kn0, kn1, Bool.not_true, Bool.not_false, true_and, and_true, Nat.zero_add, Nat.reduceAdd, List.length_cons, List.length_nil, true_or, or_true, false_or, or_false, decide_true, decide_false, ne_eq, not_true_eq_false, not_false_eq_true, ki_0, ki_1, ki_2, ki_3, ki_4, ki_5, kb_m100, kb_m10, kb_m9, kb_m8, kb_m7, kb_m6, kb_m5, kb_m4, kb_m3, kb_m2, kb_6, kb_7, kb_8, kb_9, kb_10, kb_12, kb_13, kb_16, kb_27, kb_31, kb_32, kb_43, kb_45, kb_48, kb_57, kb_60, kb_63, kb_81, kb_97, kb_99, kb_100, kb_120, kb_126, ks_m1000, ks_243, ks_255, ks_729, ks_1000, ks_2000, ks_2187, ks_6561, ks_9840, ks_9841, kl_0, kl_1, z0, z1, e_i, f_i, Nat.reduceLT]
      refine ⟨vp_in_nI (by omega) (by omega), ?_⟩
      refine ⟨fun b11 => ?_, fun b11 => ?_⟩
      · try simp (disch := omega) only [nI_ltI, nI_leI, nI_eq, Nat.not_lt, Nat.not_le] at b11
        refine hP 3 _ rfl _ _ _ _ _ _ ?_
        simp only [bX10_addRegister_3, hrun, hx, hnth, hput, hok, hcat2, hldI, hldL, hldR, hpI, hpL, hpA, hpR, hp1, hpV, hrtI, hrtL, hrtR, hrtV, hpN, hck, hrI, hrB, hrL, hrA, hwI, hwA, hwB, hrN, mf_0, mf_1, mf_2, mf_3, mf_4, mf_5, mf_6, mf_7, mf_8, mf_9, mf_10, mf_11, mf_12, mf_13, mf_14, mf_15, mf_16, mf_17, mf_18, mf_19, mf_20, mf_21, mf_22, mf_23, mf_24, mf_25, mf_26, mf_27, mf_28, mf_29, ms_11, ms_16, ms_17, ms_20, ms_21, ms_23, ms_24, hwF, hcl, hfty, tyX1, tyX3, tyX6, tyX9, tyX10, tyJ0, tyJ4, hfit, hcmp, hnar, hres, hst, hacp, kz, kof, kn0, kn1, Bool.not_true, Bool.not_false, true_and, and_true, Nat.zero_add, Nat.reduceAdd, List.length_cons, List.length_nil, true_or, or_true, false_or, or_false, decide_true, decide_false, ne_eq, not_true_eq_false, not_false_eq_true, ki_0, ki_1, ki_2, ki_3, ki_4, ki_5, kb_m100, kb_m10, kb_m9, kb_m8, kb_m7, kb_m6, kb_m5, kb_m4, kb_m3, kb_m2, kb_6, kb_7, kb_8, kb_9, kb_10, kb_12, kb_13, kb_16, kb_27, kb_31, kb_32, kb_43, kb_45, kb_48, kb_57, kb_60, kb_63, kb_81, kb_97, kb_99, kb_100, kb_120, kb_126, ks_m1000, ks_243, ks_255, ks_729, ks_1000, ks_2000, ks_2187, ks_6561, ks_9840, ks_9841, kl_0, kl_1, z0, z1, e_i, f_i, Nat.reduceLT]
        exact h w1 (hr.sm hm1) h1 hm1
      · (try simp (disch := omega) only [nI_ltI, nI_leI, nI_eq, Nat.not_lt, Nat.not_le] at b11) <;> (exfalso; omega)
    | succ n ih =>
      intro m w1 hn hm ⟨F, k1, hF⟩ hm1
      have hq1 : (S.rg i)[m]? = some (S.rg i)[m] := List.getElem?_eq_getElem (by omega)
      have hqb := hPi.at hq1
      have hcm := hcn m _ hq1
      have hc1 := hcm.1
      have hc2 := hcm.2
      have e_m := nI_clamp (n := m) (by omega)
      have e_q := nI_clamp (n := (S.rg i)[m].1) (by omega)
      have hFq := hF _ hqb.2.2.1
      have z0 : w1 47 = _ := (hm1 47 (by decide)).trans k0
      have z1 : w1 54 = _ := (hm1 54 (by decide)).trans kC
      have z2 : w1 55 = _ := (hm1 55 (by decide)).trans kW
      have z3 : w1 61 = _ := (hm1 61 (by decide)).trans kK
      have z4 : w1 (56 + i) = _ := (hm1 _ (by simp; omega)).trans kw
      have z5 : w1 (62 + i) = _ := (hm1 _ (by simp; omega)).trans kk
      refine hP 1 _ rfl _ _ _ _ _ _ ?_
      simp only [bX10_addRegister_1, hrun, hx, hnth, hput, hok, hcat2, hldI, hldL, hldR, hpI, hpL, hpA, hpR, hp1, hpV, hrtI, hrtL, hrtR, hrtV, hpN, hck, hrI, hrB, hrL, hrA, hwI, hwA, hwB, hrN, mf_0, mf_1, mf_2, mf_3, mf_4, mf_5, mf_6, mf_7, mf_8, mf_9, mf_10, mf_11, mf_12, mf_13, mf_14, mf_15, mf_16, mf_17, mf_18, mf_19, mf_20, mf_21, mf_22, mf_23, mf_24, mf_25, mf_26, mf_27, mf_28, mf_29, ms_11, ms_16, ms_17, ms_20, ms_21, ms_23, ms_24, hwF, hcl, hfty, tyX1, tyX3, tyX6, tyX9, tyX10, tyJ0, tyJ4, hfit, hcmp, hnar, hres, hst, hacp, kz, kof, kn0, kn1, Bool.not_true, Bool.not_false, true_and, and_true, Nat.zero_add, Nat.reduceAdd, List.length_cons, List.length_nil, true_or, or_true, false_or, or_false, decide_true, decide_false, ne_eq, not_true_eq_false, not_false_eq_true, ki_0, ki_1, ki_2, ki_3, ki_4, ki_5, kb_m100, kb_m10, kb_m9, kb_m8, kb_m7, kb_m6, kb_m5, kb_m4, kb_m3, kb_m2, kb_6, kb_7, kb_8, kb_9, kb_10, kb_12, kb_13, kb_16, kb_27, kb_31, kb_32, kb_43, kb_45, kb_48, kb_57, kb_60, kb_63, kb_81, kb_97, kb_99, kb_100, kb_120, kb_126, ks_m1000, ks_243, ks_255, ks_729, ks_1000, ks_2000, ks_2187, ks_6561, ks_9840, ks_9841, kl_0, kl_1, z0, z1, z2, z3, z4, z5, va_rf, k1, e_i, f_i, e_m, hc1, hc2, e_q, Nat.reduceLT]
      refine ⟨vp_in_nI (by omega) (by omega), ?_⟩
      refine ⟨fun b11 => ?_, fun b11 => ?_⟩
      · (try simp (disch := omega) only [nI_ltI, nI_leI, nI_eq, Nat.not_lt, Nat.not_le] at b11) <;> (exfalso; omega)
      · try simp (disch := omega) only [nI_ltI, nI_leI, nI_eq, Nat.not_lt, Nat.not_le] at b11
        refine hP 2 _ rfl _ _ _ _ _ _ ?_
        simp only [bX10_addRegister_2, hrun, hx, hnth, hput, hok, hcat2, hldI, hldL, hldR, hpI, hpL, hpA, hpR, hp1, hpV, hrtI, hrtL, hrtR, hrtV, hpN, hck, hrI, hrB, hrL, hrA, hwI, hwA, hwB, hrN, mf_0, mf_1, mf_2, mf_3, mf_4, mf_5, mf_6, mf_7, mf_8, mf_9, mf_10, mf_11, mf_12, mf_13, mf_14, mf_15, mf_16, mf_17, mf_18, mf_19, mf_20, mf_21, mf_22, mf_23, mf_24, mf_25, mf_26, mf_27, mf_28, mf_29, ms_11, ms_16, ms_17, ms_20, ms_21, ms_23, ms_24, hwF, hcl, hfty, tyX1, tyX3, tyX6, tyX9, tyX10, tyJ0, tyJ4, hfit, hcmp, hnar, hres, hst, hacp, kz, kof, kn0, kn1, Bool.not_true, Bool.not_false, true_and, and_true, Nat.zero_add, Nat.reduceAdd, List.length_cons, List.length_nil, true_or, or_true, false_or, or_false, decide_true, decide_false, ne_eq, not_true_eq_false, not_false_eq_true, ki_0, ki_1, ki_2, ki_3, ki_4, ki_5, kb_m100, kb_m10, kb_m9, kb_m8, kb_m7, kb_m6, kb_m5, kb_m4, kb_m3, kb_m2, kb_6, kb_7, kb_8, kb_9, kb_10, kb_12, kb_13, kb_16, kb_27, kb_31, kb_32, kb_43, kb_45, kb_48, kb_57, kb_60, kb_63, kb_81, kb_97, kb_99, kb_100, kb_120, kb_126, ks_m1000, ks_243, ks_255, ks_729, ks_1000, ks_2000, ks_2187, ks_6561, ks_9840, ks_9841, kl_0, kl_1, z0, z1, z2, z3, z4, z5, va_rf, k1, e_i, f_i, e_m, hc1, hc2, e_q, Nat.reduceLT]
        refine ⟨vp_in_nI (by omega) (by omega), ?_⟩
        refine ⟨vp_in_nI (by omega) (by omega), ?_⟩
        refine ⟨vp_in_nI (by omega) (by omega), ?_⟩
        refine ⟨vp_in_nI (by omega) (by omega), ?_⟩
        refine ⟨vp_in_nI (by omega) (by omega), ?_⟩
        refine ⟨vp_in_nI (by omega) (by omega), ?_⟩
        rw [nI_add]
        refine ih (m + 1) _ (by omega) (by omega) ⟨_, va_up_self .., fun c hc => ?_⟩ (hm1.tr (mfr.up (by simp)))
        rw [mtakeL _ _ (show m < (S.rg i).length by omega), mputs_snoc]
        show (if c = (S.rg i)[m].1 then _ else F c) = if c = (S.rg i)[m].1 then _ else _
        by_cases q : c = (S.rg i)[m].1
        · rw [if_pos q, if_pos q, hFq, q]
        · rw [if_neg q, if_neg q, hF c hc]
  refine hP 0 _ rfl _ _ _ _ _ _ ?_
  simp only [bX10_addRegister_0, hrun, hx, hnth, hput, hok, hcat2, hldI, hldL, hldR, hpI, hpL, hpA, hpR, hp1, hpV, hrtI, hrtL, hrtR, hrtV, hpN, hck, hrI, hrB, hrL, hrA, hwI, hwA, hwB, hrN, mf_0, mf_1, mf_2, mf_3, mf_4, mf_5, mf_6, mf_7, mf_8, mf_9, mf_10, mf_11, mf_12, mf_13, mf_14, mf_15, mf_16, mf_17, mf_18, mf_19, mf_20, mf_21, mf_22, mf_23, mf_24, mf_25, mf_26, mf_27, mf_28, mf_29, ms_11, ms_16, ms_17, ms_20, ms_21, ms_23, ms_24, hwF, hcl, hfty, tyX1, tyX3, tyX6, tyX9, tyX10, tyJ0, tyJ4, hfit, hcmp, hnar, hres, hst, hacp, kz, kof, kn0, kn1, Bool.not_true, Bool.not_false, true_and, and_true, Nat.zero_add, Nat.reduceAdd, List.length_cons, List.length_nil, true_or, or_true, false_or, or_false, decide_true, decide_false, ne_eq, not_true_eq_false, not_false_eq_true, ki_0, ki_1, ki_2, ki_3, ki_4, ki_5, kb_m100, kb_m10, kb_m9, kb_m8, kb_m7, kb_m6, kb_m5, kb_m4, kb_m3, kb_m2, kb_6, kb_7, kb_8, kb_9, kb_10, kb_12, kb_13, kb_16, kb_27, kb_31, kb_32, kb_43, kb_45, kb_48, kb_57, kb_60, kb_63, kb_81, kb_97, kb_99, kb_100, kb_120, kb_126, ks_m1000, ks_243, ks_255, ks_729, ks_1000, ks_2000, ks_2187, ks_6561, ks_9840, ks_9841, kl_0, kl_1, Nat.reduceLT]
  exact loop _ 0 w rfl (Nat.zero_le _) (by rw [List.take_zero]; exact hs) mfr.rf
set_option maxRecDepth 100000 in
set_option maxHeartbeats 4000000 in
theorem c_load (hg : hgo g) (hd : 2 ≤ d) {S : cS} (hr : hYr w S) {f : Nat → Int64} (hs : hMs w f) {i : Nat} (h_i : i < 5)  (h : ∀ w', hYr w' S → hMs w' (mputs (nI 1).toInt64 (fun _ => 0) (S.rg i)) → mfr [71] w w' → Q none N c s w') : Γ g d yX10_load [.ref 47, .int (nI i)] N c s w Q := by
  refine Γ.intro0 hg kX10_load (by omega) (Nat.le_of_ble_eq_true rfl) (fun P hP => ?_)
  show P N 0 0 w 0 [some (.ref 47), some (.int (nI i))] []
  obtain ⟨⟨ml, ls, ns, il, at9, ol, sv, k0⟩, kp⟩ := hr.M
  have el : lN 1 = (nI 1).toInt64 := by decide +kernel
  refine hP 0 _ rfl _ _ _ _ _ _ ?_
  simp only [bX10_load_0, hrun, hx, hnth, hput, hok, hcat2, hldI, hldL, hldR, hpI, hpL, hpA, hpR, hp1, hpV, hrtI, hrtL, hrtR, hrtV, hpN, hck, hrI, hrB, hrL, hrA, hwI, hwA, hwB, hrN, mf_0, mf_1, mf_2, mf_3, mf_4, mf_5, mf_6, mf_7, mf_8, mf_9, mf_10, mf_11, mf_12, mf_13, mf_14, mf_15, mf_16, mf_17, mf_18, mf_19, mf_20, mf_21, mf_22, mf_23, mf_24, mf_25, mf_26, mf_27, mf_28, mf_29, ms_11, ms_16, ms_17, ms_20, ms_21, ms_23, ms_24, hwF, hcl, hfty, tyX1, tyX3, tyX6, tyX9, tyX10, tyJ0, tyJ4, hfit, hcmp, hnar, hres, hst, hacp, kz, kof, kn0, kn1, Bool.not_true, Bool.not_false, true_and, and_true, Nat.zero_add, Nat.reduceAdd, List.length_cons, List.length_nil, true_or, or_true, false_or, or_false, decide_true, decide_false, ne_eq, not_true_eq_false, not_false_eq_true, ki_0, ki_1, ki_2, ki_3, ki_4, ki_5, kb_m100, kb_m10, kb_m9, kb_m8, kb_m7, kb_m6, kb_m5, kb_m4, kb_m3, kb_m2, kb_6, kb_7, kb_8, kb_9, kb_10, kb_12, kb_13, kb_16, kb_27, kb_31, kb_32, kb_43, kb_45, kb_48, kb_57, kb_60, kb_63, kb_81, kb_97, kb_99, kb_100, kb_120, kb_126, ks_m1000, ks_243, ks_255, ks_729, ks_1000, ks_2000, ks_2187, ks_6561, ks_9840, ks_9841, kl_0, kl_1, k0]
  refine c_clearSum hg (by omega) hr.M hs (fun w1 hs1 hm1 => ?_)
  have hr1 := hr.sm hm1
  have z0 : w1 47 = _ := (hm1 47 (by decide)).trans k0
  simp only [hrun, hx, hnth, hput, hok, hcat2, hldI, hldL, hldR, hpI, hpL, hpA, hpR, hp1, hpV, hrtI, hrtL, hrtR, hrtV, hpN, hck, hrI, hrB, hrL, hrA, hwI, hwA, hwB, hrN, mf_0, mf_1, mf_2, mf_3, mf_4, mf_5, mf_6, mf_7, mf_8, mf_9, mf_10, mf_11, mf_12, mf_13, mf_14, mf_15, mf_16, mf_17, mf_18, mf_19, mf_20, mf_21, mf_22, mf_23, mf_24, mf_25, mf_26, mf_27, mf_28, mf_29, ms_11, ms_16, ms_17, ms_20, ms_21, ms_23, ms_24, hwF, hcl, hfty, tyX1, tyX3, tyX6, tyX9, tyX10, tyJ0, tyJ4, hfit, hcmp, hnar, hres, hst, hacp, kz, kof, kn0, kn1, Bool.not_true, Bool.not_false, true_and, and_true, Nat.zero_add, Nat.reduceAdd, List.length_cons, List.length_nil, true_or, or_true, false_or, or_false, decide_true, decide_false, ne_eq, not_true_eq_false, not_false_eq_true, ki_0, ki_1, ki_2, ki_3, ki_4, ki_5, kb_m100, kb_m10, kb_m9, kb_m8, kb_m7, kb_m6, kb_m5, kb_m4, kb_m3, kb_m2, kb_6, kb_7, kb_8, kb_9, kb_10, kb_12, kb_13, kb_16, kb_27, kb_31, kb_32, kb_43, kb_45, kb_48, kb_57, kb_60, kb_63, kb_81, kb_97, kb_99, kb_100, kb_120, kb_126, ks_m1000, ks_243, ks_255, ks_729, ks_1000, ks_2000, ks_2187, ks_6561, ks_9840, ks_9841, kl_0, kl_1, k0, z0]
  refine c_addReg hg (by omega) hr1 hs1 h_i (fun w2 hr2 hs2 hm2 => ?_)
  rw [el] at hs2
  simp only [hrun, hx, hnth, hput, hok, hcat2, hldI, hldL, hldR, hpI, hpL, hpA, hpR, hp1, hpV, hrtI, hrtL, hrtR, hrtV, hpN, hck, hrI, hrB, hrL, hrA, hwI, hwA, hwB, hrN, mf_0, mf_1, mf_2, mf_3, mf_4, mf_5, mf_6, mf_7, mf_8, mf_9, mf_10, mf_11, mf_12, mf_13, mf_14, mf_15, mf_16, mf_17, mf_18, mf_19, mf_20, mf_21, mf_22, mf_23, mf_24, mf_25, mf_26, mf_27, mf_28, mf_29, ms_11, ms_16, ms_17, ms_20, ms_21, ms_23, ms_24, hwF, hcl, hfty, tyX1, tyX3, tyX6, tyX9, tyX10, tyJ0, tyJ4, hfit, hcmp, hnar, hres, hst, hacp, kz, kof, kn0, kn1, Bool.not_true, Bool.not_false, true_and, and_true, Nat.zero_add, Nat.reduceAdd, List.length_cons, List.length_nil, true_or, or_true, false_or, or_false, decide_true, decide_false, ne_eq, not_true_eq_false, not_false_eq_true, ki_0, ki_1, ki_2, ki_3, ki_4, ki_5, kb_m100, kb_m10, kb_m9, kb_m8, kb_m7, kb_m6, kb_m5, kb_m4, kb_m3, kb_m2, kb_6, kb_7, kb_8, kb_9, kb_10, kb_12, kb_13, kb_16, kb_27, kb_31, kb_32, kb_43, kb_45, kb_48, kb_57, kb_60, kb_63, kb_81, kb_97, kb_99, kb_100, kb_120, kb_126, ks_m1000, ks_243, ks_255, ks_729, ks_1000, ks_2000, ks_2187, ks_6561, ks_9840, ks_9841, kl_0, kl_1, k0]
  exact h w2 hr2 hs2 (hm1.tr hm2)
/-- a register that is written anew -/
theorem hYr.reg {w w' : hWd} {S : cS} (h : hYr w S) {i : Nat} (hi : i < 5) {L : List (Nat × Int)} (hL : mP L) {F : Nat → Int32} (k1 : w' 54 = .inl (0, 5, .inl F)) (hF : ∀ k, k < 5 → F k = nI (if k = i then L else S.rg k).length) {cf : Nat → Int32} {nf : Nat → Int64} (k2 : w' (56 + i) = .inl (0, 120, .inl cf)) (k3 : w' (62 + i) = .inl (1, 120, .inr (.inl nf))) (hq : ∀ (k : Nat) (q : Nat × Int), L[k]? = some q → cf k = nI q.1 ∧ nf k = Int64.ofInt q.2) (hm : mfr [54, 56 + i, 62 + i, 71] w w') : hYr w' (sRg S i L) := by
  obtain ⟨⟨ls, ⟨ml, ns, at9, a0⟩, a1, a2, a3, a4, a5, a6, a7, a8⟩, hz⟩ := h
  refine ⟨⟨ls, ⟨ml, ns, at9, by rw [hm _ (by simp; omega), a0]; rfl⟩, by rw [hm _ (by simp; omega), a1], a2.keep (hm _ (by simp; omega)) (hm _ (by simp; omega)) (hm _ (by simp; omega)) (hm _ (by simp; omega)), a3.keep (hm _ (by simp; omega)) (hm _ (by simp; omega)) (fun i hi => hm _ (by simp; omega)), a4.keep (hm _ (by simp; omega)) (hm _ (by simp; omega)) (fun i hi => hm _ (by simp; omega)), ?_, a6.keep (hm _ (by simp; omega)) (hm _ (by simp; omega)) (hm _ (by simp; omega)) (fun i hi => ⟨hm _ (by simp; omega), hm _ (by simp; omega)⟩), a7.keep (hm _ (by simp; omega)), a8.keep (hm _ (by simp; omega))⟩, hz.keep (hm _ (by simp; omega)) (hm _ (by simp; omega)) (hm _ (by simp; omega)) (hm _ (by simp; omega)) (hm _ (by simp; omega))⟩
  obtain ⟨b0, b1, b2, b3⟩ := a5
  refine ⟨⟨F, k1, hF⟩, by rw [hm _ (by simp; omega), b1], by rw [hm _ (by simp; omega), b2], fun k hk => ?_⟩
  show mP (if k = i then L else S.rg k) ∧ ∃ cf nf, w' (56 + k) = .inl (0, 120, .inl cf) ∧ w' (62 + k) = .inl (1, 120, .inr (.inl nf)) ∧ ∀ (m : Nat) (q : Nat × Int), (if k = i then L else S.rg k)[m]? = some q → cf m = nI q.1 ∧ nf m = Int64.ofInt q.2
  by_cases q : k = i
  · subst q; simp only [if_pos]; exact ⟨hL, cf, nf, k2, k3, hq⟩
  · simp only [if_neg q]
    obtain ⟨c1, cf3, nf3, c2, c3, c4⟩ := b3 k hk
    exact ⟨c1, cf3, nf3, by rw [hm _ (by simp; omega), c2], by rw [hm _ (by simp; omega), c3], c4⟩
theorem mnew_same {S : cS} {i : Nat} : (S.1, S.2.1, (fun j => if j = i then S.rg i else S.rg j), S.2.2.2) = S := by
  obtain ⟨a, b, c, e⟩ := S
  show (a, b, (fun j => if j = i then c i else c j), e) = (a, b, c, e)
  have : (fun j => if j = i then c i else c j) = c := funext (fun j => by
    by_cases q : j = i
    · rw [if_pos q, q]
    · rw [if_neg q])
  rw [this]
set_option maxRecDepth 100000 in
set_option maxHeartbeats 4000000 in
theorem c_store (hg : hgo g) (hd : 1 ≤ d) {S : cS} (hr : hYr w S) {f : Nat → Int64} (hs : hMs w f) {i : Nat} (h_i : i < 5)  (h : ∀ w', hY w' (sSt S i f).2 → mfy w w' → Q (some (.int (sSt S i f).1)) N c s w') : Γ g d yX10_store [.ref 47, .int (nI i)] N c s w Q := by
  refine Γ.intro0 hg kX10_store (by omega) (Nat.le_of_ble_eq_true rfl) (fun P hP => ?_)
  show P N 0 0 w 0 [some (.ref 47), some (.int (nI i)), none, none] []
  obtain ⟨⟨ls, ⟨ml, ns, at9, k0⟩, kp, hLm9, hW1, hW2, hR1, hR2, hI9, hO9⟩, hz⟩ := id hr
  obtain ⟨⟨FC, kC, hFC⟩, kW, kK, hRr⟩ := id hR1
  obtain ⟨hPi, cf, nf, kw, kk, hcn⟩ := hRr i h_i
  have h120 := hPi.1
  have e_i := nI_clamp (n := i) (by omega)
  have f_i := hFC i h_i
  obtain ⟨G, kG, hG9⟩ := id hs
  have same : mnew f (S.rg i) = S.rg i → Q (some (.int (mcount f))) N c s w := fun q => by
    have e : (sSt S i f).2 = S := by
      show sRg S i (mnew f (S.rg i)) = S
      rw [q]; exact mnew_same
    refine h w ?_ mfy.rf
    rw [e]; exact ⟨hr, f, hs⟩
  have loop2 : ¬ mbad f → (mterms f).length ≤ 120 → ∀ (n k : Nat) (w1 : hWd), 9841 - k = n → k ≤ 9841 → (∃ F1, w1 54 = .inl (0, 5, .inl F1) ∧ ∀ j, j < 5 → F1 j = nI (if j = i then mtermsTo f k else S.rg j).length) → (∃ cf1 nf1, w1 (56 + i) = .inl (0, 120, .inl cf1) ∧ w1 (62 + i) = .inl (1, 120, .inr (.inl nf1)) ∧ ∀ (m : Nat) (q : Nat × Int), (mtermsTo f k)[m]? = some q → cf1 m = nI q.1 ∧ nf1 m = Int64.ofInt q.2) → mfr [54, 56 + i, 62 + i] w w1 → P N 0 0 w1 83 [some (.ref 47), some (.int (nI i)), some (.int (nI (mterms f).length)), some (.int (nI k))] [] := by
    intro nb nl n
    induction n with
    | zero =>
      intro k w1 hn hk ⟨F1, k54, hF1⟩ ⟨cf1, nf1, k56, k62, hcf⟩ hm1
      have ek : k = 9841 := by omega
      subst ek
      have en : mnew f (S.rg i) = mterms f := if_neg (fun q => q.elim nb (fun z => by omega))
      have ec : mcount f = nI (mterms f).length := by unfold mcount; rw [if_neg nb, if_neg (by omega)]
      have hfin : hY w1 (sSt S i f).2 := by
        show hY w1 (sRg S i (mnew f (S.rg i)))
        rw [en]
        exact ⟨hr.reg h_i (mterms_P nb nl) k54 hF1 k56 k62 hcf (hm1.mono (by simp <;> omega)), f, hs.keep (hm1 _ (by simp; omega))⟩
      have h9 := h w1 hfin (hm1.y (fun x hx => by simp at hx; omega))
      have h9 : Q (some (.int (mcount f))) N c s w1 := h9
      rw [ec] at h9
      refine hP 12 _ rfl _ _ _ _ _ _ ?_
      simp only [bX10_store_12, hrun, hx, hnth, hput, hok, hcat2, hldI, hldL, hldR, hpI, hpL, hpA, hpR, hp1, hpV, hrtI, hrtL, hrtR, hrtV, hpN, hck, hrI, hrB, hrL, hrA, hwI, hwA, hwB, hrN, mf_0, mf_1, mf_2, mf_3, mf_4, mf_5, mf_6, mf_7, mf_8, mf_9, mf_10, mf_11, mf_12, mf_13, mf_14, mf_15, mf_16, mf_17, mf_18, mf_19, mf_20, mf_21, mf_22, mf_23, mf_24, mf_25, mf_26, mf_27, mf_28, mf_29, ms_11, ms_16, ms_17, ms_20, ms_21, ms_23, ms_24, hwF, hcl, hfty, tyX1, tyX3, tyX6, tyX9, tyX10, tyJ0, tyJ4, hfit, hcmp, hnar, hres, hst, hacp, kz, kof, kn0, kn1, Bool.not_true, Bool.not_false, true_and, and_true, Nat.zero_add, Nat.reduceAdd, List.length_cons, List.length_nil, true_or, or_true, false_or, or_false, decide_true, decide_false, ne_eq, not_true_eq_false, not_false_eq_true, ki_0, ki_1, ki_2, ki_3, ki_4, ki_5, kb_m100, kb_m10, kb_m9, kb_m8, kb_m7, kb_m6, kb_m5, kb_m4, kb_m3, kb_m2, kb_6, kb_7, kb_8, kb_9, kb_10, kb_12, kb_13, kb_16, kb_27, kb_31, kb_32, kb_43, kb_45, kb_48, kb_57, kb_60, kb_63, kb_81, kb_97, kb_99, kb_100, kb_120, kb_126, ks_m1000, ks_243, ks_255, ks_729, ks_1000, ks_2000, ks_2187, ks_6561, ks_9840, ks_9841, kl_0, kl_1]
      refine ⟨fun b87 => ?_, fun b87 => ?_⟩
      · try simp (disch := omega) only [nI_ltI, nI_leI, nI_eq, Nat.not_lt, Nat.not_le] at b87
        refine hP 16 _ rfl _ _ _ _ _ _ ?_
        simp only [bX10_store_16, hrun, hx, hnth, hput, hok, hcat2, hldI, hldL, hldR, hpI, hpL, hpA, hpR, hp1, hpV, hrtI, hrtL, hrtR, hrtV, hpN, hck, hrI, hrB, hrL, hrA, hwI, hwA, hwB, hrN, mf_0, mf_1, mf_2, mf_3, mf_4, mf_5, mf_6, mf_7, mf_8, mf_9, mf_10, mf_11, mf_12, mf_13, mf_14, mf_15, mf_16, mf_17, mf_18, mf_19, mf_20, mf_21, mf_22, mf_23, mf_24, mf_25, mf_26, mf_27, mf_28, mf_29, ms_11, ms_16, ms_17, ms_20, ms_21, ms_23, ms_24, hwF, hcl, hfty, tyX1, tyX3, tyX6, tyX9, tyX10, tyJ0, tyJ4, hfit, hcmp, hnar, hres, hst, hacp, kz, kof, kn0, kn1, Bool.not_true, Bool.not_false, true_and, and_true, Nat.zero_add, Nat.reduceAdd, List.length_cons, List.length_nil, true_or, or_true, false_or, or_false, decide_true, decide_false, ne_eq, not_true_eq_false, not_false_eq_true, ki_0, ki_1, ki_2, ki_3, ki_4, ki_5, kb_m100, kb_m10, kb_m9, kb_m8, kb_m7, kb_m6, kb_m5, kb_m4, kb_m3, kb_m2, kb_6, kb_7, kb_8, kb_9, kb_10, kb_12, kb_13, kb_16, kb_27, kb_31, kb_32, kb_43, kb_45, kb_48, kb_57, kb_60, kb_63, kb_81, kb_97, kb_99, kb_100, kb_120, kb_126, ks_m1000, ks_243, ks_255, ks_729, ks_1000, ks_2000, ks_2187, ks_6561, ks_9840, ks_9841, kl_0, kl_1]
        exact h9
      · (try simp (disch := omega) only [nI_ltI, nI_leI, nI_eq, Nat.not_lt, Nat.not_le] at b87) <;> (exfalso; omega)
    | succ n ih =>
      intro k w1 hn hk ⟨F1, k54, hF1⟩ ⟨cf1, nf1, k56, k62, hcf⟩ hm1
      have e_k := nI_clamp (n := k) (by omega)
      have hFi := hF1 i h_i
      rw [if_pos rfl] at hFi
      have hGk := hG9 k (by omega)
      have hmono := mtermsTo_mono f hk
      have hlen9 : (mterms f).length = (mtermsTo f 9841).length := rfl
      have e_n := nI_clamp (n := (mtermsTo f k).length) (by omega)
      have z0 : w1 47 = _ := (hm1 47 (by simp; omega)).trans k0
      have z2 : w1 55 = _ := (hm1 55 (by simp; omega)).trans kW
      have z3 : w1 61 = _ := (hm1 61 (by simp; omega)).trans kK
      have z4 : w1 71 = _ := (hm1 71 (by simp; omega)).trans kG
      by_cases hft : f k = 0
      · have hz0 : f k = lN 0 := hft
        refine hP 12 _ rfl _ _ _ _ _ _ ?_
        simp only [bX10_store_12, hrun, hx, hnth, hput, hok, hcat2, hldI, hldL, hldR, hpI, hpL, hpA, hpR, hp1, hpV, hrtI, hrtL, hrtR, hrtV, hpN, hck, hrI, hrB, hrL, hrA, hwI, hwA, hwB, hrN, mf_0, mf_1, mf_2, mf_3, mf_4, mf_5, mf_6, mf_7, mf_8, mf_9, mf_10, mf_11, mf_12, mf_13, mf_14, mf_15, mf_16, mf_17, mf_18, mf_19, mf_20, mf_21, mf_22, mf_23, mf_24, mf_25, mf_26, mf_27, mf_28, mf_29, ms_11, ms_16, ms_17, ms_20, ms_21, ms_23, ms_24, hwF, hcl, hfty, tyX1, tyX3, tyX6, tyX9, tyX10, tyJ0, tyJ4, hfit, hcmp, hnar, hres, hst, hacp, kz, kof, kn0, kn1, Bool.not_true, Bool.not_false, true_and, and_true, Nat.zero_add, Nat.reduceAdd, List.length_cons, List.length_nil, true_or, or_true, false_or, or_false, decide_true, decide_false, ne_eq, not_true_eq_false, not_false_eq_true, ki_0, ki_1, ki_2, ki_3, ki_4, ki_5, kb_m100, kb_m10, kb_m9, kb_m8, kb_m7, kb_m6, kb_m5, kb_m4, kb_m3, kb_m2, kb_6, kb_7, kb_8, kb_9, kb_10, kb_12, kb_13, kb_16, kb_27, kb_31, kb_32, kb_43, kb_45, kb_48, kb_57, kb_60, kb_63, kb_81, kb_97, kb_99, kb_100, kb_120, kb_126, ks_m1000, ks_243, ks_255, ks_729, ks_1000, ks_2000, ks_2187, ks_6561, ks_9840, ks_9841, kl_0, kl_1, z0, z4, e_k, hGk]
        refine ⟨fun b87 => ?_, fun b87 => ?_⟩
        · (try simp (disch := omega) only [nI_ltI, nI_leI, nI_eq, Nat.not_lt, Nat.not_le, lcmp_eq] at b87) <;> (exfalso; omega)
        · try simp (disch := omega) only [nI_ltI, nI_leI, nI_eq, Nat.not_lt, Nat.not_le, lcmp_eq] at b87
          refine hP 13 _ rfl _ _ _ _ _ _ ?_
          simp only [bX10_store_13, hrun, hx, hnth, hput, hok, hcat2, hldI, hldL, hldR, hpI, hpL, hpA, hpR, hp1, hpV, hrtI, hrtL, hrtR, hrtV, hpN, hck, hrI, hrB, hrL, hrA, hwI, hwA, hwB, hrN, mf_0, mf_1, mf_2, mf_3, mf_4, mf_5, mf_6, mf_7, mf_8, mf_9, mf_10, mf_11, mf_12, mf_13, mf_14, mf_15, mf_16, mf_17, mf_18, mf_19, mf_20, mf_21, mf_22, mf_23, mf_24, mf_25, mf_26, mf_27, mf_28, mf_29, ms_11, ms_16, ms_17, ms_20, ms_21, ms_23, ms_24, hwF, hcl, hfty, tyX1, tyX3, tyX6, tyX9, tyX10, tyJ0, tyJ4, hfit, hcmp, hnar, hres, hst, hacp, kz, kof, kn0, kn1, Bool.not_true, Bool.not_false, true_and, and_true, Nat.zero_add, Nat.reduceAdd, List.length_cons, List.length_nil, true_or, or_true, false_or, or_false, decide_true, decide_false, ne_eq, not_true_eq_false, not_false_eq_true, ki_0, ki_1, ki_2, ki_3, ki_4, ki_5, kb_m100, kb_m10, kb_m9, kb_m8, kb_m7, kb_m6, kb_m5, kb_m4, kb_m3, kb_m2, kb_6, kb_7, kb_8, kb_9, kb_10, kb_12, kb_13, kb_16, kb_27, kb_31, kb_32, kb_43, kb_45, kb_48, kb_57, kb_60, kb_63, kb_81, kb_97, kb_99, kb_100, kb_120, kb_126, ks_m1000, ks_243, ks_255, ks_729, ks_1000, ks_2000, ks_2187, ks_6561, ks_9840, ks_9841, kl_0, kl_1, z0, z4, e_k, hGk]
          refine ⟨vp_in_nI (by omega) (by omega), ?_⟩
          refine ⟨fun b98 => ?_, fun b98 => ?_⟩
          · try simp (disch := omega) only [nI_ltI, nI_leI, nI_eq, Nat.not_lt, Nat.not_le, lcmp_eq] at b98
            refine hP 15 _ rfl _ _ _ _ _ _ ?_
            simp only [bX10_store_15, hrun, hx, hnth, hput, hok, hcat2, hldI, hldL, hldR, hpI, hpL, hpA, hpR, hp1, hpV, hrtI, hrtL, hrtR, hrtV, hpN, hck, hrI, hrB, hrL, hrA, hwI, hwA, hwB, hrN, mf_0, mf_1, mf_2, mf_3, mf_4, mf_5, mf_6, mf_7, mf_8, mf_9, mf_10, mf_11, mf_12, mf_13, mf_14, mf_15, mf_16, mf_17, mf_18, mf_19, mf_20, mf_21, mf_22, mf_23, mf_24, mf_25, mf_26, mf_27, mf_28, mf_29, ms_11, ms_16, ms_17, ms_20, ms_21, ms_23, ms_24, hwF, hcl, hfty, tyX1, tyX3, tyX6, tyX9, tyX10, tyJ0, tyJ4, hfit, hcmp, hnar, hres, hst, hacp, kz, kof, kn0, kn1, Bool.not_true, Bool.not_false, true_and, and_true, Nat.zero_add, Nat.reduceAdd, List.length_cons, List.length_nil, true_or, or_true, false_or, or_false, decide_true, decide_false, ne_eq, not_true_eq_false, not_false_eq_true, ki_0, ki_1, ki_2, ki_3, ki_4, ki_5, kb_m100, kb_m10, kb_m9, kb_m8, kb_m7, kb_m6, kb_m5, kb_m4, kb_m3, kb_m2, kb_6, kb_7, kb_8, kb_9, kb_10, kb_12, kb_13, kb_16, kb_27, kb_31, kb_32, kb_43, kb_45, kb_48, kb_57, kb_60, kb_63, kb_81, kb_97, kb_99, kb_100, kb_120, kb_126, ks_m1000, ks_243, ks_255, ks_729, ks_1000, ks_2000, ks_2187, ks_6561, ks_9840, ks_9841, kl_0, kl_1, z0, z4, e_k, hGk]
            rw [nI_add]
            refine ih (k + 1) w1 (by omega) (by omega) ⟨F1, k54, ?_⟩ ⟨cf1, nf1, k56, k62, ?_⟩ hm1
            · rw [mtermsTo_succ, if_pos hft, List.append_nil]; exact hF1
            · rw [mtermsTo_succ, if_pos hft, List.append_nil]; exact hcf
          · try simp (disch := omega) only [nI_ltI, nI_leI, nI_eq, Nat.not_lt, Nat.not_le, lcmp_eq] at b98
            exact (b98 hz0).elim
      · have hlt1 : (mtermsTo f k).length < 120 := by
          have := mtermsTo_mono f (a := k + 1) (b := 9841) (by omega)
          rw [mtermsTo_succ, if_neg hft, List.length_append] at this
          simp at this
          omega
        refine hP 12 _ rfl _ _ _ _ _ _ ?_
        simp only [bX10_store_12, hrun, hx, hnth, hput, hok, hcat2, hldI, hldL, hldR, hpI, hpL, hpA, hpR, hp1, hpV, hrtI, hrtL, hrtR, hrtV, hpN, hck, hrI, hrB, hrL, hrA, hwI, hwA, hwB, hrN, mf_0, mf_1, mf_2, mf_3, mf_4, mf_5, mf_6, mf_7, mf_8, mf_9, mf_10, mf_11, mf_12, mf_13, mf_14, mf_15, mf_16, mf_17, mf_18, mf_19, mf_20, mf_21, mf_22, mf_23, mf_24, mf_25, mf_26, mf_27, mf_28, mf_29, ms_11, ms_16, ms_17, ms_20, ms_21, ms_23, ms_24, hwF, hcl, hfty, tyX1, tyX3, tyX6, tyX9, tyX10, tyJ0, tyJ4, hfit, hcmp, hnar, hres, hst, hacp, kz, kof, kn0, kn1, Bool.not_true, Bool.not_false, true_and, and_true, Nat.zero_add, Nat.reduceAdd, List.length_cons, List.length_nil, true_or, or_true, false_or, or_false, decide_true, decide_false, ne_eq, not_true_eq_false, not_false_eq_true, ki_0, ki_1, ki_2, ki_3, ki_4, ki_5, kb_m100, kb_m10, kb_m9, kb_m8, kb_m7, kb_m6, kb_m5, kb_m4, kb_m3, kb_m2, kb_6, kb_7, kb_8, kb_9, kb_10, kb_12, kb_13, kb_16, kb_27, kb_31, kb_32, kb_43, kb_45, kb_48, kb_57, kb_60, kb_63, kb_81, kb_97, kb_99, kb_100, kb_120, kb_126, ks_m1000, ks_243, ks_255, ks_729, ks_1000, ks_2000, ks_2187, ks_6561, ks_9840, ks_9841, kl_0, kl_1, z0, z2, z3, z4, k54, k56, k62, va_rf, e_i, e_k, e_n, hFi, hGk, nI_add, va_up_self, va_up_ne _ _ (show (47 : Nat) ≠ 56 + i by omega), va_up_ne _ _ (show (47 : Nat) ≠ 62 + i by omega), va_up_ne _ _ (show (54 : Nat) ≠ 56 + i by omega), va_up_ne _ _ (show (54 : Nat) ≠ 62 + i by omega), va_up_ne _ _ (show (55 : Nat) ≠ 56 + i by omega), va_up_ne _ _ (show (55 : Nat) ≠ 62 + i by omega), va_up_ne _ _ (show (61 : Nat) ≠ 56 + i by omega), va_up_ne _ _ (show (61 : Nat) ≠ 62 + i by omega), va_up_ne _ _ (show (62 + i : Nat) ≠ 56 + i by omega), va_up_ne _ _ (show (71 : Nat) ≠ 56 + i by omega), va_up_ne _ _ (show (71 : Nat) ≠ 62 + i by omega)]
        refine ⟨fun b87 => ?_, fun b87 => ?_⟩
        · (try simp (disch := omega) only [nI_ltI, nI_leI, nI_eq, Nat.not_lt, Nat.not_le, lcmp_eq] at b87) <;> (exfalso; omega)
        · try simp (disch := omega) only [nI_ltI, nI_leI, nI_eq, Nat.not_lt, Nat.not_le, lcmp_eq] at b87
          refine hP 13 _ rfl _ _ _ _ _ _ ?_
          simp only [bX10_store_13, hrun, hx, hnth, hput, hok, hcat2, hldI, hldL, hldR, hpI, hpL, hpA, hpR, hp1, hpV, hrtI, hrtL, hrtR, hrtV, hpN, hck, hrI, hrB, hrL, hrA, hwI, hwA, hwB, hrN, mf_0, mf_1, mf_2, mf_3, mf_4, mf_5, mf_6, mf_7, mf_8, mf_9, mf_10, mf_11, mf_12, mf_13, mf_14, mf_15, mf_16, mf_17, mf_18, mf_19, mf_20, mf_21, mf_22, mf_23, mf_24, mf_25, mf_26, mf_27, mf_28, mf_29, ms_11, ms_16, ms_17, ms_20, ms_21, ms_23, ms_24, hwF, hcl, hfty, tyX1, tyX3, tyX6, tyX9, tyX10, tyJ0, tyJ4, hfit, hcmp, hnar, hres, hst, hacp, kz, kof, kn0, kn1, Bool.not_true, Bool.not_false, true_and, and_true, Nat.zero_add, Nat.reduceAdd, List.length_cons, List.length_nil, true_or, or_true, false_or, or_false, decide_true, decide_false, ne_eq, not_true_eq_false, not_false_eq_true, ki_0, ki_1, ki_2, ki_3, ki_4, ki_5, kb_m100, kb_m10, kb_m9, kb_m8, kb_m7, kb_m6, kb_m5, kb_m4, kb_m3, kb_m2, kb_6, kb_7, kb_8, kb_9, kb_10, kb_12, kb_13, kb_16, kb_27, kb_31, kb_32, kb_43, kb_45, kb_48, kb_57, kb_60, kb_63, kb_81, kb_97, kb_99, kb_100, kb_120, kb_126, ks_m1000, ks_243, ks_255, ks_729, ks_1000, ks_2000, ks_2187, ks_6561, ks_9840, ks_9841, kl_0, kl_1, z0, z2, z3, z4, k54, k56, k62, va_rf, e_i, e_k, e_n, hFi, hGk, nI_add, va_up_self, va_up_ne _ _ (show (47 : Nat) ≠ 56 + i by omega), va_up_ne _ _ (show (47 : Nat) ≠ 62 + i by omega), va_up_ne _ _ (show (54 : Nat) ≠ 56 + i by omega), va_up_ne _ _ (show (54 : Nat) ≠ 62 + i by omega), va_up_ne _ _ (show (55 : Nat) ≠ 56 + i by omega), va_up_ne _ _ (show (55 : Nat) ≠ 62 + i by omega), va_up_ne _ _ (show (61 : Nat) ≠ 56 + i by omega), va_up_ne _ _ (show (61 : Nat) ≠ 62 + i by omega), va_up_ne _ _ (show (62 + i : Nat) ≠ 56 + i by omega), va_up_ne _ _ (show (71 : Nat) ≠ 56 + i by omega), va_up_ne _ _ (show (71 : Nat) ≠ 62 + i by omega)]
          refine ⟨vp_in_nI (by omega) (by omega), ?_⟩
          refine ⟨fun b98 => ?_, fun b98 => ?_⟩
          · try simp (disch := omega) only [nI_ltI, nI_leI, nI_eq, Nat.not_lt, Nat.not_le, lcmp_eq] at b98
            exact (hft b98).elim
          · try simp (disch := omega) only [nI_ltI, nI_leI, nI_eq, Nat.not_lt, Nat.not_le, lcmp_eq] at b98
            refine hP 14 _ rfl _ _ _ _ _ _ ?_
            simp only [bX10_store_14, hrun, hx, hnth, hput, hok, hcat2, hldI, hldL, hldR, hpI, hpL, hpA, hpR, hp1, hpV, hrtI, hrtL, hrtR, hrtV, hpN, hck, hrI, hrB, hrL, hrA, hwI, hwA, hwB, hrN, mf_0, mf_1, mf_2, mf_3, mf_4, mf_5, mf_6, mf_7, mf_8, mf_9, mf_10, mf_11, mf_12, mf_13, mf_14, mf_15, mf_16, mf_17, mf_18, mf_19, mf_20, mf_21, mf_22, mf_23, mf_24, mf_25, mf_26, mf_27, mf_28, mf_29, ms_11, ms_16, ms_17, ms_20, ms_21, ms_23, ms_24, hwF, hcl, hfty, tyX1, tyX3, tyX6, tyX9, tyX10, tyJ0, tyJ4, hfit, hcmp, hnar, hres, hst, hacp, kz, kof, kn0, kn1, Bool.not_true, Bool.not_false, true_and, and_true, Nat.zero_add, Nat.reduceAdd, List.length_cons, List.length_nil, true_or, or_true, false_or, or_false, decide_true, decide_false, ne_eq, not_true_eq_false, not_false_eq_true, ki_0, ki_1, ki_2, ki_3, ki_4, ki_5, kb_m100, kb_m10, kb_m9, kb_m8, kb_m7, kb_m6, kb_m5, kb_m4, kb_m3, kb_m2, kb_6, kb_7, kb_8, kb_9, kb_10, kb_12, kb_13, kb_16, kb_27, kb_31, kb_32, kb_43, kb_45, kb_48, kb_57, kb_60, kb_63, kb_81, kb_97, kb_99, kb_100, kb_120, kb_126, ks_m1000, ks_243, ks_255, ks_729, ks_1000, ks_2000, ks_2187, ks_6561, ks_9840, ks_9841, kl_0, kl_1, z0, z2, z3, z4, k54, k56, k62, va_rf, e_i, e_k, e_n, hFi, hGk, nI_add, va_up_self, va_up_ne _ _ (show (47 : Nat) ≠ 56 + i by omega), va_up_ne _ _ (show (47 : Nat) ≠ 62 + i by omega), va_up_ne _ _ (show (54 : Nat) ≠ 56 + i by omega), va_up_ne _ _ (show (54 : Nat) ≠ 62 + i by omega), va_up_ne _ _ (show (55 : Nat) ≠ 56 + i by omega), va_up_ne _ _ (show (55 : Nat) ≠ 62 + i by omega), va_up_ne _ _ (show (61 : Nat) ≠ 56 + i by omega), va_up_ne _ _ (show (61 : Nat) ≠ 62 + i by omega), va_up_ne _ _ (show (62 + i : Nat) ≠ 56 + i by omega), va_up_ne _ _ (show (71 : Nat) ≠ 56 + i by omega), va_up_ne _ _ (show (71 : Nat) ≠ 62 + i by omega)]
            refine ⟨vp_in_nI (by omega) (by omega), ?_⟩
            refine ⟨vp_in_nI (by omega) (by omega), ?_⟩
            refine ⟨vp_in_nI (by omega) (by omega), ?_⟩
            refine ⟨vp_in_nI (by omega) (by omega), ?_⟩
            refine ⟨vp_in_nI (by omega) (by omega), ?_⟩
            refine ⟨vp_in_nI (by omega) (by omega), ?_⟩
            refine ⟨vp_in_nI (by omega) (by omega), ?_⟩
            refine ⟨vp_in_nI (by omega) (by omega), ?_⟩
            refine ⟨vp_in_nI (by omega) (by omega), ?_⟩
            refine hP 15 _ rfl _ _ _ _ _ _ ?_
            simp only [bX10_store_15, hrun, hx, hnth, hput, hok, hcat2, hldI, hldL, hldR, hpI, hpL, hpA, hpR, hp1, hpV, hrtI, hrtL, hrtR, hrtV, hpN, hck, hrI, hrB, hrL, hrA, hwI, hwA, hwB, hrN, mf_0, mf_1, mf_2, mf_3, mf_4, mf_5, mf_6, mf_7, mf_8, mf_9, mf_10, mf_11, mf_12, mf_13, mf_14, mf_15, mf_16, mf_17, mf_18, mf_19, mf_20, mf_21, mf_22, mf_23, mf_24, mf_25, mf_26, mf_27, mf_28, mf_29, ms_11, ms_16, ms_17, ms_20, ms_21, ms_23, ms_24, hwF, hcl, hfty, tyX1, tyX3, tyX6, tyX9, tyX10, tyJ0, tyJ4, hfit, hcmp, hnar, hres, hst, hacp, kz, kof, kn0, kn1, Bool.not_true, Bool.not_false, true_and, and_true, Nat.zero_add, Nat.reduceAdd, List.length_cons, List.length_nil, true_or, or_true, false_or, or_false, decide_true, decide_false, ne_eq, not_true_eq_false, not_false_eq_true, ki_0, ki_1, ki_2, ki_3, ki_4, ki_5, kb_m100, kb_m10, kb_m9, kb_m8, kb_m7, kb_m6, kb_m5, kb_m4, kb_m3, kb_m2, kb_6, kb_7, kb_8, kb_9, kb_10, kb_12, kb_13, kb_16, kb_27, kb_31, kb_32, kb_43, kb_45, kb_48, kb_57, kb_60, kb_63, kb_81, kb_97, kb_99, kb_100, kb_120, kb_126, ks_m1000, ks_243, ks_255, ks_729, ks_1000, ks_2000, ks_2187, ks_6561, ks_9840, ks_9841, kl_0, kl_1, z0, z2, z3, z4, k54, k56, k62, va_rf, e_i, e_k, e_n, hFi, hGk, nI_add, va_up_self, va_up_ne _ _ (show (47 : Nat) ≠ 56 + i by omega), va_up_ne _ _ (show (47 : Nat) ≠ 62 + i by omega), va_up_ne _ _ (show (54 : Nat) ≠ 56 + i by omega), va_up_ne _ _ (show (54 : Nat) ≠ 62 + i by omega), va_up_ne _ _ (show (55 : Nat) ≠ 56 + i by omega), va_up_ne _ _ (show (55 : Nat) ≠ 62 + i by omega), va_up_ne _ _ (show (61 : Nat) ≠ 56 + i by omega), va_up_ne _ _ (show (61 : Nat) ≠ 62 + i by omega), va_up_ne _ _ (show (62 + i : Nat) ≠ 56 + i by omega), va_up_ne _ _ (show (71 : Nat) ≠ 56 + i by omega), va_up_ne _ _ (show (71 : Nat) ≠ 62 + i by omega)]
            try rw [nI_add]
            refine ih (k + 1) _ (by omega) (by omega) ⟨_, va_up_self .., fun j hj => ?_⟩ ⟨_, _, by rw [va_up_ne _ _ (show 56 + i ≠ 54 by omega), va_up_ne _ _ (show 56 + i ≠ 62 + i by omega)]; exact va_up_self .., by rw [va_up_ne _ _ (show 62 + i ≠ 54 by omega)]; exact va_up_self .., fun m q hmq => ?_⟩ (((hm1.tr (mfr.up (by simp))).tr (mfr.up (by simp))).tr (mfr.up (by simp)))
            · unfold upd
              by_cases q : j = i
              · rw [if_pos q, if_pos q, mtermsTo_succ, if_neg hft, List.length_append]; rfl
              · rw [if_neg q, if_neg q]
                have := hF1 j hj
                rwa [if_neg q] at this
            · rw [mtermsTo_succ, if_neg hft] at hmq
              unfold upd vp_updL
              by_cases q9 : m = (mtermsTo f k).length
              · rw [if_pos q9, if_pos q9]
                rw [q9, List.getElem?_append_right (Nat.le_refl _), Nat.sub_self] at hmq
                have : (k, (f k).toInt) = q := by injection hmq
                rw [← this]
                exact ⟨rfl, (mofI _).symm⟩
              · rw [if_neg q9, if_neg q9]
                have hml : m < (mtermsTo f k).length := by
                  have := (List.getElem?_eq_some_iff.mp hmq).1
                  simp at this
                  omega
                rw [List.getElem?_append_left hml] at hmq
                exact hcf m q hmq
  have loop : ∀ (n k : Nat), 9841 - k = n → k ≤ 9841 → (∀ c, c < k → mfit (f c)) → P N 0 0 w 4 [some (.ref 47), some (.int (nI i)), some (.int (nI (mtermsTo f k).length)), some (.int (nI k))] [] := by
    intro n
    induction n with
    | zero =>
      intro k hn hk hb
      have ek : k = 9841 := by omega
      subst ek
      have nb : ¬ mbad f := fun ⟨c, h1, h2⟩ => h2 (hb c h1)
      have hlen9 := mtermsTo_len f 9841
      have hl9 : (mterms f).length = (mtermsTo f 9841).length := rfl
      by_cases hgt : 120 < (mterms f).length
      · have h9 := same (if_pos (Or.inr hgt))
        rw [show mcount f = Int32.ofInt (-5) by unfold mcount; rw [if_neg nb, if_pos hgt]] at h9
        refine hP 1 _ rfl _ _ _ _ _ _ ?_
        simp only [bX10_store_1, hrun, hx, hnth, hput, hok, hcat2, hldI, hldL, hldR, hpI, hpL, hpA, hpR, hp1, hpV, hrtI, hrtL, hrtR, hrtV, hpN, hck, hrI, hrB, hrL, hrA, hwI, hwA, hwB, hrN, mf_0, mf_1, mf_2, mf_3, mf_4, mf_5, mf_6, mf_7, mf_8, mf_9, mf_10, mf_11, mf_12, mf_13, mf_14, mf_15, mf_16, mf_17, mf_18, mf_19, mf_20, mf_21, mf_22, mf_23, mf_24, mf_25, mf_26, mf_27, mf_28, mf_29, ms_11, ms_16, ms_17, ms_20, ms_21, ms_23, ms_24, hwF, hcl, hfty, tyX1, tyX3, tyX6, tyX9, tyX10, tyJ0, tyJ4, hfit, hcmp, hnar, hres, hst, hacp, kz, kof, kn0, kn1, Bool.not_true, Bool.not_false, true_and, and_true, Nat.zero_add, Nat.reduceAdd, List.length_cons, List.length_nil, true_or, or_true, false_or, or_false, decide_true, decide_false, ne_eq, not_true_eq_false, not_false_eq_true, ki_0, ki_1, ki_2, ki_3, ki_4, ki_5, kb_m100, kb_m10, kb_m9, kb_m8, kb_m7, kb_m6, kb_m5, kb_m4, kb_m3, kb_m2, kb_6, kb_7, kb_8, kb_9, kb_10, kb_12, kb_13, kb_16, kb_27, kb_31, kb_32, kb_43, kb_45, kb_48, kb_57, kb_60, kb_63, kb_81, kb_97, kb_99, kb_100, kb_120, kb_126, ks_m1000, ks_243, ks_255, ks_729, ks_1000, ks_2000, ks_2187, ks_6561, ks_9840, ks_9841, kl_0, kl_1]
        refine ⟨fun b8 => ?_, fun b8 => ?_⟩
        · try simp (disch := omega) only [nI_ltI, nI_leI, nI_eq, Nat.not_lt, Nat.not_le] at b8
          refine hP 9 _ rfl _ _ _ _ _ _ ?_
          simp only [bX10_store_9, hrun, hx, hnth, hput, hok, hcat2, hldI, hldL, hldR, hpI, hpL, hpA, hpR, hp1, hpV, hrtI, hrtL, hrtR, hrtV, hpN, hck, hrI, hrB, hrL, hrA, hwI, hwA, hwB, hrN, mf_0, mf_1, mf_2, mf_3, mf_4, mf_5, mf_6, mf_7, mf_8, mf_9, mf_10, mf_11, mf_12, mf_13, mf_14, mf_15, mf_16, mf_17, mf_18, mf_19, mf_20, mf_21, mf_22, mf_23, mf_24, mf_25, mf_26, mf_27, mf_28, mf_29, ms_11, ms_16, ms_17, ms_20, ms_21, ms_23, ms_24, hwF, hcl, hfty, tyX1, tyX3, tyX6, tyX9, tyX10, tyJ0, tyJ4, hfit, hcmp, hnar, hres, hst, hacp, kz, kof, kn0, kn1, Bool.not_true, Bool.not_false, true_and, and_true, Nat.zero_add, Nat.reduceAdd, List.length_cons, List.length_nil, true_or, or_true, false_or, or_false, decide_true, decide_false, ne_eq, not_true_eq_false, not_false_eq_true, ki_0, ki_1, ki_2, ki_3, ki_4, ki_5, kb_m100, kb_m10, kb_m9, kb_m8, kb_m7, kb_m6, kb_m5, kb_m4, kb_m3, kb_m2, kb_6, kb_7, kb_8, kb_9, kb_10, kb_12, kb_13, kb_16, kb_27, kb_31, kb_32, kb_43, kb_45, kb_48, kb_57, kb_60, kb_63, kb_81, kb_97, kb_99, kb_100, kb_120, kb_126, ks_m1000, ks_243, ks_255, ks_729, ks_1000, ks_2000, ks_2187, ks_6561, ks_9840, ks_9841, kl_0, kl_1]
          refine ⟨fun b68 => ?_, fun b68 => ?_⟩
          · (try simp (disch := omega) only [nI_ltI, nI_leI, nI_eq, Nat.not_lt, Nat.not_le] at b68) <;> (exfalso; omega)
          · try simp (disch := omega) only [nI_ltI, nI_leI, nI_eq, Nat.not_lt, Nat.not_le] at b68
            refine hP 10 _ rfl _ _ _ _ _ _ ?_
            simp only [bX10_store_10, hrun, hx, hnth, hput, hok, hcat2, hldI, hldL, hldR, hpI, hpL, hpA, hpR, hp1, hpV, hrtI, hrtL, hrtR, hrtV, hpN, hck, hrI, hrB, hrL, hrA, hwI, hwA, hwB, hrN, mf_0, mf_1, mf_2, mf_3, mf_4, mf_5, mf_6, mf_7, mf_8, mf_9, mf_10, mf_11, mf_12, mf_13, mf_14, mf_15, mf_16, mf_17, mf_18, mf_19, mf_20, mf_21, mf_22, mf_23, mf_24, mf_25, mf_26, mf_27, mf_28, mf_29, ms_11, ms_16, ms_17, ms_20, ms_21, ms_23, ms_24, hwF, hcl, hfty, tyX1, tyX3, tyX6, tyX9, tyX10, tyJ0, tyJ4, hfit, hcmp, hnar, hres, hst, hacp, kz, kof, kn0, kn1, Bool.not_true, Bool.not_false, true_and, and_true, Nat.zero_add, Nat.reduceAdd, List.length_cons, List.length_nil, true_or, or_true, false_or, or_false, decide_true, decide_false, ne_eq, not_true_eq_false, not_false_eq_true, ki_0, ki_1, ki_2, ki_3, ki_4, ki_5, kb_m100, kb_m10, kb_m9, kb_m8, kb_m7, kb_m6, kb_m5, kb_m4, kb_m3, kb_m2, kb_6, kb_7, kb_8, kb_9, kb_10, kb_12, kb_13, kb_16, kb_27, kb_31, kb_32, kb_43, kb_45, kb_48, kb_57, kb_60, kb_63, kb_81, kb_97, kb_99, kb_100, kb_120, kb_126, ks_m1000, ks_243, ks_255, ks_729, ks_1000, ks_2000, ks_2187, ks_6561, ks_9840, ks_9841, kl_0, kl_1]
            exact h9
        · (try simp (disch := omega) only [nI_ltI, nI_leI, nI_eq, Nat.not_lt, Nat.not_le] at b8) <;> (exfalso; omega)
      · skip
        refine hP 1 _ rfl _ _ _ _ _ _ ?_
        simp only [bX10_store_1, hrun, hx, hnth, hput, hok, hcat2, hldI, hldL, hldR, hpI, hpL, hpA, hpR, hp1, hpV, hrtI, hrtL, hrtR, hrtV, hpN, hck, hrI, hrB, hrL, hrA, hwI, hwA, hwB, hrN, mf_0, mf_1, mf_2, mf_3, mf_4, mf_5, mf_6, mf_7, mf_8, mf_9, mf_10, mf_11, mf_12, mf_13, mf_14, mf_15, mf_16, mf_17, mf_18, mf_19, mf_20, mf_21, mf_22, mf_23, mf_24, mf_25, mf_26, mf_27, mf_28, mf_29, ms_11, ms_16, ms_17, ms_20, ms_21, ms_23, ms_24, hwF, hcl, hfty, tyX1, tyX3, tyX6, tyX9, tyX10, tyJ0, tyJ4, hfit, hcmp, hnar, hres, hst, hacp, kz, kof, kn0, kn1, Bool.not_true, Bool.not_false, true_and, and_true, Nat.zero_add, Nat.reduceAdd, List.length_cons, List.length_nil, true_or, or_true, false_or, or_false, decide_true, decide_false, ne_eq, not_true_eq_false, not_false_eq_true, ki_0, ki_1, ki_2, ki_3, ki_4, ki_5, kb_m100, kb_m10, kb_m9, kb_m8, kb_m7, kb_m6, kb_m5, kb_m4, kb_m3, kb_m2, kb_6, kb_7, kb_8, kb_9, kb_10, kb_12, kb_13, kb_16, kb_27, kb_31, kb_32, kb_43, kb_45, kb_48, kb_57, kb_60, kb_63, kb_81, kb_97, kb_99, kb_100, kb_120, kb_126, ks_m1000, ks_243, ks_255, ks_729, ks_1000, ks_2000, ks_2187, ks_6561, ks_9840, ks_9841, kl_0, kl_1, k0, kC, e_i]
        refine ⟨fun b8 => ?_, fun b8 => ?_⟩
        · try simp (disch := omega) only [nI_ltI, nI_leI, nI_eq, Nat.not_lt, Nat.not_le] at b8
          refine hP 9 _ rfl _ _ _ _ _ _ ?_
          simp only [bX10_store_9, hrun, hx, hnth, hput, hok, hcat2, hldI, hldL, hldR, hpI, hpL, hpA, hpR, hp1, hpV, hrtI, hrtL, hrtR, hrtV, hpN, hck, hrI, hrB, hrL, hrA, hwI, hwA, hwB, hrN, mf_0, mf_1, mf_2, mf_3, mf_4, mf_5, mf_6, mf_7, mf_8, mf_9, mf_10, mf_11, mf_12, mf_13, mf_14, mf_15, mf_16, mf_17, mf_18, mf_19, mf_20, mf_21, mf_22, mf_23, mf_24, mf_25, mf_26, mf_27, mf_28, mf_29, ms_11, ms_16, ms_17, ms_20, ms_21, ms_23, ms_24, hwF, hcl, hfty, tyX1, tyX3, tyX6, tyX9, tyX10, tyJ0, tyJ4, hfit, hcmp, hnar, hres, hst, hacp, kz, kof, kn0, kn1, Bool.not_true, Bool.not_false, true_and, and_true, Nat.zero_add, Nat.reduceAdd, List.length_cons, List.length_nil, true_or, or_true, false_or, or_false, decide_true, decide_false, ne_eq, not_true_eq_false, not_false_eq_true, ki_0, ki_1, ki_2, ki_3, ki_4, ki_5, kb_m100, kb_m10, kb_m9, kb_m8, kb_m7, kb_m6, kb_m5, kb_m4, kb_m3, kb_m2, kb_6, kb_7, kb_8, kb_9, kb_10, kb_12, kb_13, kb_16, kb_27, kb_31, kb_32, kb_43, kb_45, kb_48, kb_57, kb_60, kb_63, kb_81, kb_97, kb_99, kb_100, kb_120, kb_126, ks_m1000, ks_243, ks_255, ks_729, ks_1000, ks_2000, ks_2187, ks_6561, ks_9840, ks_9841, kl_0, kl_1, k0, kC, e_i]
          refine ⟨fun b68 => ?_, fun b68 => ?_⟩
          · try simp (disch := omega) only [nI_ltI, nI_leI, nI_eq, Nat.not_lt, Nat.not_le] at b68
            refine hP 11 _ rfl _ _ _ _ _ _ ?_
            simp only [bX10_store_11, hrun, hx, hnth, hput, hok, hcat2, hldI, hldL, hldR, hpI, hpL, hpA, hpR, hp1, hpV, hrtI, hrtL, hrtR, hrtV, hpN, hck, hrI, hrB, hrL, hrA, hwI, hwA, hwB, hrN, mf_0, mf_1, mf_2, mf_3, mf_4, mf_5, mf_6, mf_7, mf_8, mf_9, mf_10, mf_11, mf_12, mf_13, mf_14, mf_15, mf_16, mf_17, mf_18, mf_19, mf_20, mf_21, mf_22, mf_23, mf_24, mf_25, mf_26, mf_27, mf_28, mf_29, ms_11, ms_16, ms_17, ms_20, ms_21, ms_23, ms_24, hwF, hcl, hfty, tyX1, tyX3, tyX6, tyX9, tyX10, tyJ0, tyJ4, hfit, hcmp, hnar, hres, hst, hacp, kz, kof, kn0, kn1, Bool.not_true, Bool.not_false, true_and, and_true, Nat.zero_add, Nat.reduceAdd, List.length_cons, List.length_nil, true_or, or_true, false_or, or_false, decide_true, decide_false, ne_eq, not_true_eq_false, not_false_eq_true, ki_0, ki_1, ki_2, ki_3, ki_4, ki_5, kb_m100, kb_m10, kb_m9, kb_m8, kb_m7, kb_m6, kb_m5, kb_m4, kb_m3, kb_m2, kb_6, kb_7, kb_8, kb_9, kb_10, kb_12, kb_13, kb_16, kb_27, kb_31, kb_32, kb_43, kb_45, kb_48, kb_57, kb_60, kb_63, kb_81, kb_97, kb_99, kb_100, kb_120, kb_126, ks_m1000, ks_243, ks_255, ks_729, ks_1000, ks_2000, ks_2187, ks_6561, ks_9840, ks_9841, kl_0, kl_1, k0, kC, e_i]
            refine ⟨vp_in_nI (by omega) (by omega), ?_⟩
            refine loop2 nb (by omega) _ 0 _ rfl (Nat.zero_le _) ⟨_, va_up_self .., fun j hj => ?_⟩ ⟨cf, nf, by rw [va_up_ne _ _ (by omega)]; exact kw, by rw [va_up_ne _ _ (by omega)]; exact kk, fun m q hmq => by cases hmq⟩ (mfr.up (by simp))
            unfold upd
            by_cases q : j = i
            · rw [if_pos q, if_pos q]; rfl
            · rw [if_neg q, if_neg q]; exact hFC j hj
          · (try simp (disch := omega) only [nI_ltI, nI_leI, nI_eq, Nat.not_lt, Nat.not_le] at b68) <;> (exfalso; omega)
        · (try simp (disch := omega) only [nI_ltI, nI_leI, nI_eq, Nat.not_lt, Nat.not_le] at b8) <;> (exfalso; omega)
    | succ n ih =>
      intro k hn hk hb
      have e_k := nI_clamp (n := k) (by omega)
      have hGk := hG9 k (by omega)
      have hlen9 := mtermsTo_len f k
      by_cases hfk : mfit (f k)
      · have hb1 : ∀ c, c < k + 1 → mfit (f c) := fun c hc => by
          by_cases q : c = k
          · rw [q]; exact hfk
          · exact hb c (by omega)
        have hf2 := id hfk
        unfold mfit at hf2
        have hE := ih (k + 1) (by omega) (by omega) hb1
        rw [mtermsTo_succ, List.length_append] at hE
        refine hP 1 _ rfl _ _ _ _ _ _ ?_
        simp only [bX10_store_1, hrun, hx, hnth, hput, hok, hcat2, hldI, hldL, hldR, hpI, hpL, hpA, hpR, hp1, hpV, hrtI, hrtL, hrtR, hrtV, hpN, hck, hrI, hrB, hrL, hrA, hwI, hwA, hwB, hrN, mf_0, mf_1, mf_2, mf_3, mf_4, mf_5, mf_6, mf_7, mf_8, mf_9, mf_10, mf_11, mf_12, mf_13, mf_14, mf_15, mf_16, mf_17, mf_18, mf_19, mf_20, mf_21, mf_22, mf_23, mf_24, mf_25, mf_26, mf_27, mf_28, mf_29, ms_11, ms_16, ms_17, ms_20, ms_21, ms_23, ms_24, hwF, hcl, hfty, tyX1, tyX3, tyX6, tyX9, tyX10, tyJ0, tyJ4, hfit, hcmp, hnar, hres, hst, hacp, kz, kof, kn0, kn1, Bool.not_true, Bool.not_false, true_and, and_true, Nat.zero_add, Nat.reduceAdd, List.length_cons, List.length_nil, true_or, or_true, false_or, or_false, decide_true, decide_false, ne_eq, not_true_eq_false, not_false_eq_true, ki_0, ki_1, ki_2, ki_3, ki_4, ki_5, kb_m100, kb_m10, kb_m9, kb_m8, kb_m7, kb_m6, kb_m5, kb_m4, kb_m3, kb_m2, kb_6, kb_7, kb_8, kb_9, kb_10, kb_12, kb_13, kb_16, kb_27, kb_31, kb_32, kb_43, kb_45, kb_48, kb_57, kb_60, kb_63, kb_81, kb_97, kb_99, kb_100, kb_120, kb_126, ks_m1000, ks_243, ks_255, ks_729, ks_1000, ks_2000, ks_2187, ks_6561, ks_9840, ks_9841, kl_0, kl_1, k0, kG, e_k, hGk]
        refine ⟨fun b8 => ?_, fun b8 => ?_⟩
        · (try simp (disch := omega) only [nI_ltI, nI_leI, nI_eq, Nat.not_lt, Nat.not_le, lcmp_eq, lcmp_gt, lcmp_ge, lcL, lcH] at b8) <;> (exfalso; omega)
        · try simp (disch := omega) only [nI_ltI, nI_leI, nI_eq, Nat.not_lt, Nat.not_le, lcmp_eq, lcmp_gt, lcmp_ge, lcL, lcH] at b8
          refine hP 2 _ rfl _ _ _ _ _ _ ?_
          simp only [bX10_store_2, hrun, hx, hnth, hput, hok, hcat2, hldI, hldL, hldR, hpI, hpL, hpA, hpR, hp1, hpV, hrtI, hrtL, hrtR, hrtV, hpN, hck, hrI, hrB, hrL, hrA, hwI, hwA, hwB, hrN, mf_0, mf_1, mf_2, mf_3, mf_4, mf_5, mf_6, mf_7, mf_8, mf_9, mf_10, mf_11, mf_12, mf_13, mf_14, mf_15, mf_16, mf_17, mf_18, mf_19, mf_20, mf_21, mf_22, mf_23, mf_24, mf_25, mf_26, mf_27, mf_28, mf_29, ms_11, ms_16, ms_17, ms_20, ms_21, ms_23, ms_24, hwF, hcl, hfty, tyX1, tyX3, tyX6, tyX9, tyX10, tyJ0, tyJ4, hfit, hcmp, hnar, hres, hst, hacp, kz, kof, kn0, kn1, Bool.not_true, Bool.not_false, true_and, and_true, Nat.zero_add, Nat.reduceAdd, List.length_cons, List.length_nil, true_or, or_true, false_or, or_false, decide_true, decide_false, ne_eq, not_true_eq_false, not_false_eq_true, ki_0, ki_1, ki_2, ki_3, ki_4, ki_5, kb_m100, kb_m10, kb_m9, kb_m8, kb_m7, kb_m6, kb_m5, kb_m4, kb_m3, kb_m2, kb_6, kb_7, kb_8, kb_9, kb_10, kb_12, kb_13, kb_16, kb_27, kb_31, kb_32, kb_43, kb_45, kb_48, kb_57, kb_60, kb_63, kb_81, kb_97, kb_99, kb_100, kb_120, kb_126, ks_m1000, ks_243, ks_255, ks_729, ks_1000, ks_2000, ks_2187, ks_6561, ks_9840, ks_9841, kl_0, kl_1, k0, kG, e_k, hGk]
          refine ⟨vp_in_nI (by omega) (by omega), ?_⟩
          refine ⟨fun b21 => ?_, fun b21 => ?_⟩
          · (try simp (disch := omega) only [nI_ltI, nI_leI, nI_eq, Nat.not_lt, Nat.not_le, lcmp_eq, lcmp_gt, lcmp_ge, lcL, lcH] at b21) <;> (exfalso; omega)
          · try simp (disch := omega) only [nI_ltI, nI_leI, nI_eq, Nat.not_lt, Nat.not_le, lcmp_eq, lcmp_gt, lcmp_ge, lcL, lcH] at b21
            refine hP 3 _ rfl _ _ _ _ _ _ ?_
            simp only [bX10_store_3, hrun, hx, hnth, hput, hok, hcat2, hldI, hldL, hldR, hpI, hpL, hpA, hpR, hp1, hpV, hrtI, hrtL, hrtR, hrtV, hpN, hck, hrI, hrB, hrL, hrA, hwI, hwA, hwB, hrN, mf_0, mf_1, mf_2, mf_3, mf_4, mf_5, mf_6, mf_7, mf_8, mf_9, mf_10, mf_11, mf_12, mf_13, mf_14, mf_15, mf_16, mf_17, mf_18, mf_19, mf_20, mf_21, mf_22, mf_23, mf_24, mf_25, mf_26, mf_27, mf_28, mf_29, ms_11, ms_16, ms_17, ms_20, ms_21, ms_23, ms_24, hwF, hcl, hfty, tyX1, tyX3, tyX6, tyX9, tyX10, tyJ0, tyJ4, hfit, hcmp, hnar, hres, hst, hacp, kz, kof, kn0, kn1, Bool.not_true, Bool.not_false, true_and, and_true, Nat.zero_add, Nat.reduceAdd, List.length_cons, List.length_nil, true_or, or_true, false_or, or_false, decide_true, decide_false, ne_eq, not_true_eq_false, not_false_eq_true, ki_0, ki_1, ki_2, ki_3, ki_4, ki_5, kb_m100, kb_m10, kb_m9, kb_m8, kb_m7, kb_m6, kb_m5, kb_m4, kb_m3, kb_m2, kb_6, kb_7, kb_8, kb_9, kb_10, kb_12, kb_13, kb_16, kb_27, kb_31, kb_32, kb_43, kb_45, kb_48, kb_57, kb_60, kb_63, kb_81, kb_97, kb_99, kb_100, kb_120, kb_126, ks_m1000, ks_243, ks_255, ks_729, ks_1000, ks_2000, ks_2187, ks_6561, ks_9840, ks_9841, kl_0, kl_1, k0, kG, e_k, hGk]
            refine ⟨vp_in_nI (by omega) (by omega), ?_⟩
            refine ⟨fun b34 => ?_, fun b34 => ?_⟩
            · try simp (disch := omega) only [nI_ltI, nI_leI, nI_eq, Nat.not_lt, Nat.not_le, lcmp_eq, lcmp_gt, lcmp_ge, lcL, lcH] at b34
              refine hP 5 _ rfl _ _ _ _ _ _ ?_
              simp only [bX10_store_5, hrun, hx, hnth, hput, hok, hcat2, hldI, hldL, hldR, hpI, hpL, hpA, hpR, hp1, hpV, hrtI, hrtL, hrtR, hrtV, hpN, hck, hrI, hrB, hrL, hrA, hwI, hwA, hwB, hrN, mf_0, mf_1, mf_2, mf_3, mf_4, mf_5, mf_6, mf_7, mf_8, mf_9, mf_10, mf_11, mf_12, mf_13, mf_14, mf_15, mf_16, mf_17, mf_18, mf_19, mf_20, mf_21, mf_22, mf_23, mf_24, mf_25, mf_26, mf_27, mf_28, mf_29, ms_11, ms_16, ms_17, ms_20, ms_21, ms_23, ms_24, hwF, hcl, hfty, tyX1, tyX3, tyX6, tyX9, tyX10, tyJ0, tyJ4, hfit, hcmp, hnar, hres, hst, hacp, kz, kof, kn0, kn1, Bool.not_true, Bool.not_false, true_and, and_true, Nat.zero_add, Nat.reduceAdd, List.length_cons, List.length_nil, true_or, or_true, false_or, or_false, decide_true, decide_false, ne_eq, not_true_eq_false, not_false_eq_true, ki_0, ki_1, ki_2, ki_3, ki_4, ki_5, kb_m100, kb_m10, kb_m9, kb_m8, kb_m7, kb_m6, kb_m5, kb_m4, kb_m3, kb_m2, kb_6, kb_7, kb_8, kb_9, kb_10, kb_12, kb_13, kb_16, kb_27, kb_31, kb_32, kb_43, kb_45, kb_48, kb_57, kb_60, kb_63, kb_81, kb_97, kb_99, kb_100, kb_120, kb_126, ks_m1000, ks_243, ks_255, ks_729, ks_1000, ks_2000, ks_2187, ks_6561, ks_9840, ks_9841, kl_0, kl_1, k0, kG, e_k, hGk]
              refine ⟨vp_in_nI (by omega) (by omega), ?_⟩
              refine ⟨fun b49 => ?_, fun b49 => ?_⟩
              · try simp (disch := omega) only [nI_ltI, nI_leI, nI_eq, Nat.not_lt, Nat.not_le, lcmp_eq, lcmp_gt, lcmp_ge, lcL, lcH] at b49
                refine hP 7 _ rfl _ _ _ _ _ _ ?_
                simp only [bX10_store_7, hrun, hx, hnth, hput, hok, hcat2, hldI, hldL, hldR, hpI, hpL, hpA, hpR, hp1, hpV, hrtI, hrtL, hrtR, hrtV, hpN, hck, hrI, hrB, hrL, hrA, hwI, hwA, hwB, hrN, mf_0, mf_1, mf_2, mf_3, mf_4, mf_5, mf_6, mf_7, mf_8, mf_9, mf_10, mf_11, mf_12, mf_13, mf_14, mf_15, mf_16, mf_17, mf_18, mf_19, mf_20, mf_21, mf_22, mf_23, mf_24, mf_25, mf_26, mf_27, mf_28, mf_29, ms_11, ms_16, ms_17, ms_20, ms_21, ms_23, ms_24, hwF, hcl, hfty, tyX1, tyX3, tyX6, tyX9, tyX10, tyJ0, tyJ4, hfit, hcmp, hnar, hres, hst, hacp, kz, kof, kn0, kn1, Bool.not_true, Bool.not_false, true_and, and_true, Nat.zero_add, Nat.reduceAdd, List.length_cons, List.length_nil, true_or, or_true, false_or, or_false, decide_true, decide_false, ne_eq, not_true_eq_false, not_false_eq_true, ki_0, ki_1, ki_2, ki_3, ki_4, ki_5, kb_m100, kb_m10, kb_m9, kb_m8, kb_m7, kb_m6, kb_m5, kb_m4, kb_m3, kb_m2, kb_6, kb_7, kb_8, kb_9, kb_10, kb_12, kb_13, kb_16, kb_27, kb_31, kb_32, kb_43, kb_45, kb_48, kb_57, kb_60, kb_63, kb_81, kb_97, kb_99, kb_100, kb_120, kb_126, ks_m1000, ks_243, ks_255, ks_729, ks_1000, ks_2000, ks_2187, ks_6561, ks_9840, ks_9841, kl_0, kl_1, k0, kG, e_k, hGk]
                refine hP 8 _ rfl _ _ _ _ _ _ ?_
                simp only [bX10_store_8, hrun, hx, hnth, hput, hok, hcat2, hldI, hldL, hldR, hpI, hpL, hpA, hpR, hp1, hpV, hrtI, hrtL, hrtR, hrtV, hpN, hck, hrI, hrB, hrL, hrA, hwI, hwA, hwB, hrN, mf_0, mf_1, mf_2, mf_3, mf_4, mf_5, mf_6, mf_7, mf_8, mf_9, mf_10, mf_11, mf_12, mf_13, mf_14, mf_15, mf_16, mf_17, mf_18, mf_19, mf_20, mf_21, mf_22, mf_23, mf_24, mf_25, mf_26, mf_27, mf_28, mf_29, ms_11, ms_16, ms_17, ms_20, ms_21, ms_23, ms_24, hwF, hcl, hfty, tyX1, tyX3, tyX6, tyX9, tyX10, tyJ0, tyJ4, hfit, hcmp, hnar, hres, hst, hacp, kz, kof, kn0, kn1, Bool.not_true, Bool.not_false, true_and, and_true, Nat.zero_add, Nat.reduceAdd, List.length_cons, List.length_nil, true_or, or_true, false_or, or_false, decide_true, decide_false, ne_eq, not_true_eq_false, not_false_eq_true, ki_0, ki_1, ki_2, ki_3, ki_4, ki_5, kb_m100, kb_m10, kb_m9, kb_m8, kb_m7, kb_m6, kb_m5, kb_m4, kb_m3, kb_m2, kb_6, kb_7, kb_8, kb_9, kb_10, kb_12, kb_13, kb_16, kb_27, kb_31, kb_32, kb_43, kb_45, kb_48, kb_57, kb_60, kb_63, kb_81, kb_97, kb_99, kb_100, kb_120, kb_126, ks_m1000, ks_243, ks_255, ks_729, ks_1000, ks_2000, ks_2187, ks_6561, ks_9840, ks_9841, kl_0, kl_1, k0, kG, e_k, hGk]
                rw [if_pos (show f k = 0 from b49)] at hE
                try simp only [nI_add]
                exact hE
              · try simp (disch := omega) only [nI_ltI, nI_leI, nI_eq, Nat.not_lt, Nat.not_le, lcmp_eq, lcmp_gt, lcmp_ge, lcL, lcH] at b49
                refine hP 6 _ rfl _ _ _ _ _ _ ?_
                simp only [bX10_store_6, hrun, hx, hnth, hput, hok, hcat2, hldI, hldL, hldR, hpI, hpL, hpA, hpR, hp1, hpV, hrtI, hrtL, hrtR, hrtV, hpN, hck, hrI, hrB, hrL, hrA, hwI, hwA, hwB, hrN, mf_0, mf_1, mf_2, mf_3, mf_4, mf_5, mf_6, mf_7, mf_8, mf_9, mf_10, mf_11, mf_12, mf_13, mf_14, mf_15, mf_16, mf_17, mf_18, mf_19, mf_20, mf_21, mf_22, mf_23, mf_24, mf_25, mf_26, mf_27, mf_28, mf_29, ms_11, ms_16, ms_17, ms_20, ms_21, ms_23, ms_24, hwF, hcl, hfty, tyX1, tyX3, tyX6, tyX9, tyX10, tyJ0, tyJ4, hfit, hcmp, hnar, hres, hst, hacp, kz, kof, kn0, kn1, Bool.not_true, Bool.not_false, true_and, and_true, Nat.zero_add, Nat.reduceAdd, List.length_cons, List.length_nil, true_or, or_true, false_or, or_false, decide_true, decide_false, ne_eq, not_true_eq_false, not_false_eq_true, ki_0, ki_1, ki_2, ki_3, ki_4, ki_5, kb_m100, kb_m10, kb_m9, kb_m8, kb_m7, kb_m6, kb_m5, kb_m4, kb_m3, kb_m2, kb_6, kb_7, kb_8, kb_9, kb_10, kb_12, kb_13, kb_16, kb_27, kb_31, kb_32, kb_43, kb_45, kb_48, kb_57, kb_60, kb_63, kb_81, kb_97, kb_99, kb_100, kb_120, kb_126, ks_m1000, ks_243, ks_255, ks_729, ks_1000, ks_2000, ks_2187, ks_6561, ks_9840, ks_9841, kl_0, kl_1, k0, kG, e_k, hGk]
                refine hP 8 _ rfl _ _ _ _ _ _ ?_
                simp only [bX10_store_8, hrun, hx, hnth, hput, hok, hcat2, hldI, hldL, hldR, hpI, hpL, hpA, hpR, hp1, hpV, hrtI, hrtL, hrtR, hrtV, hpN, hck, hrI, hrB, hrL, hrA, hwI, hwA, hwB, hrN, mf_0, mf_1, mf_2, mf_3, mf_4, mf_5, mf_6, mf_7, mf_8, mf_9, mf_10, mf_11, mf_12, mf_13, mf_14, mf_15, mf_16, mf_17, mf_18, mf_19, mf_20, mf_21, mf_22, mf_23, mf_24, mf_25, mf_26, mf_27, mf_28, mf_29, ms_11, ms_16, ms_17, ms_20, ms_21, ms_23, ms_24, hwF, hcl, hfty, tyX1, tyX3, tyX6, tyX9, tyX10, tyJ0, tyJ4, hfit, hcmp, hnar, hres, hst, hacp, kz, kof, kn0, kn1, Bool.not_true, Bool.not_false, true_and, and_true, Nat.zero_add, Nat.reduceAdd, List.length_cons, List.length_nil, true_or, or_true, false_or, or_false, decide_true, decide_false, ne_eq, not_true_eq_false, not_false_eq_true, ki_0, ki_1, ki_2, ki_3, ki_4, ki_5, kb_m100, kb_m10, kb_m9, kb_m8, kb_m7, kb_m6, kb_m5, kb_m4, kb_m3, kb_m2, kb_6, kb_7, kb_8, kb_9, kb_10, kb_12, kb_13, kb_16, kb_27, kb_31, kb_32, kb_43, kb_45, kb_48, kb_57, kb_60, kb_63, kb_81, kb_97, kb_99, kb_100, kb_120, kb_126, ks_m1000, ks_243, ks_255, ks_729, ks_1000, ks_2000, ks_2187, ks_6561, ks_9840, ks_9841, kl_0, kl_1, k0, kG, e_k, hGk]
                rw [if_neg (show ¬ f k = 0 from b49)] at hE
                try simp only [nI_add]
                exact hE
            · (try simp (disch := omega) only [nI_ltI, nI_leI, nI_eq, Nat.not_lt, Nat.not_le, lcmp_eq, lcmp_gt, lcmp_ge, lcL, lcH] at b34) <;> (exfalso; omega)
      · have h9 := same (if_pos (Or.inl ⟨k, by omega, hfk⟩))
        rw [show mcount f = Int32.ofInt (-7) by unfold mcount; rw [if_pos ⟨k, by omega, hfk⟩]] at h9
        unfold mfit at hfk
        refine hP 1 _ rfl _ _ _ _ _ _ ?_
        simp only [bX10_store_1, hrun, hx, hnth, hput, hok, hcat2, hldI, hldL, hldR, hpI, hpL, hpA, hpR, hp1, hpV, hrtI, hrtL, hrtR, hrtV, hpN, hck, hrI, hrB, hrL, hrA, hwI, hwA, hwB, hrN, mf_0, mf_1, mf_2, mf_3, mf_4, mf_5, mf_6, mf_7, mf_8, mf_9, mf_10, mf_11, mf_12, mf_13, mf_14, mf_15, mf_16, mf_17, mf_18, mf_19, mf_20, mf_21, mf_22, mf_23, mf_24, mf_25, mf_26, mf_27, mf_28, mf_29, ms_11, ms_16, ms_17, ms_20, ms_21, ms_23, ms_24, hwF, hcl, hfty, tyX1, tyX3, tyX6, tyX9, tyX10, tyJ0, tyJ4, hfit, hcmp, hnar, hres, hst, hacp, kz, kof, kn0, kn1, Bool.not_true, Bool.not_false, true_and, and_true, Nat.zero_add, Nat.reduceAdd, List.length_cons, List.length_nil, true_or, or_true, false_or, or_false, decide_true, decide_false, ne_eq, not_true_eq_false, not_false_eq_true, ki_0, ki_1, ki_2, ki_3, ki_4, ki_5, kb_m100, kb_m10, kb_m9, kb_m8, kb_m7, kb_m6, kb_m5, kb_m4, kb_m3, kb_m2, kb_6, kb_7, kb_8, kb_9, kb_10, kb_12, kb_13, kb_16, kb_27, kb_31, kb_32, kb_43, kb_45, kb_48, kb_57, kb_60, kb_63, kb_81, kb_97, kb_99, kb_100, kb_120, kb_126, ks_m1000, ks_243, ks_255, ks_729, ks_1000, ks_2000, ks_2187, ks_6561, ks_9840, ks_9841, kl_0, kl_1, k0, kG, e_k, hGk]
        refine ⟨fun b8 => ?_, fun b8 => ?_⟩
        · (try simp (disch := omega) only [nI_ltI, nI_leI, nI_eq, Nat.not_lt, Nat.not_le, lcmp_eq, lcmp_gt, lcmp_ge, lcL, lcH] at b8) <;> (exfalso; omega)
        · try simp (disch := omega) only [nI_ltI, nI_leI, nI_eq, Nat.not_lt, Nat.not_le, lcmp_eq, lcmp_gt, lcmp_ge, lcL, lcH] at b8
          refine hP 2 _ rfl _ _ _ _ _ _ ?_
          simp only [bX10_store_2, hrun, hx, hnth, hput, hok, hcat2, hldI, hldL, hldR, hpI, hpL, hpA, hpR, hp1, hpV, hrtI, hrtL, hrtR, hrtV, hpN, hck, hrI, hrB, hrL, hrA, hwI, hwA, hwB, hrN, mf_0, mf_1, mf_2, mf_3, mf_4, mf_5, mf_6, mf_7, mf_8, mf_9, mf_10, mf_11, mf_12, mf_13, mf_14, mf_15, mf_16, mf_17, mf_18, mf_19, mf_20, mf_21, mf_22, mf_23, mf_24, mf_25, mf_26, mf_27, mf_28, mf_29, ms_11, ms_16, ms_17, ms_20, ms_21, ms_23, ms_24, hwF, hcl, hfty, tyX1, tyX3, tyX6, tyX9, tyX10, tyJ0, tyJ4, hfit, hcmp, hnar, hres, hst, hacp, kz, kof, kn0, kn1, Bool.not_true, Bool.not_false, true_and, and_true, Nat.zero_add, Nat.reduceAdd, List.length_cons, List.length_nil, true_or, or_true, false_or, or_false, decide_true, decide_false, ne_eq, not_true_eq_false, not_false_eq_true, ki_0, ki_1, ki_2, ki_3, ki_4, ki_5, kb_m100, kb_m10, kb_m9, kb_m8, kb_m7, kb_m6, kb_m5, kb_m4, kb_m3, kb_m2, kb_6, kb_7, kb_8, kb_9, kb_10, kb_12, kb_13, kb_16, kb_27, kb_31, kb_32, kb_43, kb_45, kb_48, kb_57, kb_60, kb_63, kb_81, kb_97, kb_99, kb_100, kb_120, kb_126, ks_m1000, ks_243, ks_255, ks_729, ks_1000, ks_2000, ks_2187, ks_6561, ks_9840, ks_9841, kl_0, kl_1, k0, kG, e_k, hGk]
          refine ⟨vp_in_nI (by omega) (by omega), ?_⟩
          refine ⟨fun b21 => ?_, fun b21 => ?_⟩
          · try simp (disch := omega) only [nI_ltI, nI_leI, nI_eq, Nat.not_lt, Nat.not_le, lcmp_eq, lcmp_gt, lcmp_ge, lcL, lcH] at b21
            refine hP 4 _ rfl _ _ _ _ _ _ ?_
            simp only [bX10_store_4, hrun, hx, hnth, hput, hok, hcat2, hldI, hldL, hldR, hpI, hpL, hpA, hpR, hp1, hpV, hrtI, hrtL, hrtR, hrtV, hpN, hck, hrI, hrB, hrL, hrA, hwI, hwA, hwB, hrN, mf_0, mf_1, mf_2, mf_3, mf_4, mf_5, mf_6, mf_7, mf_8, mf_9, mf_10, mf_11, mf_12, mf_13, mf_14, mf_15, mf_16, mf_17, mf_18, mf_19, mf_20, mf_21, mf_22, mf_23, mf_24, mf_25, mf_26, mf_27, mf_28, mf_29, ms_11, ms_16, ms_17, ms_20, ms_21, ms_23, ms_24, hwF, hcl, hfty, tyX1, tyX3, tyX6, tyX9, tyX10, tyJ0, tyJ4, hfit, hcmp, hnar, hres, hst, hacp, kz, kof, kn0, kn1, Bool.not_true, Bool.not_false, true_and, and_true, Nat.zero_add, Nat.reduceAdd, List.length_cons, List.length_nil, true_or, or_true, false_or, or_false, decide_true, decide_false, ne_eq, not_true_eq_false, not_false_eq_true, ki_0, ki_1, ki_2, ki_3, ki_4, ki_5, kb_m100, kb_m10, kb_m9, kb_m8, kb_m7, kb_m6, kb_m5, kb_m4, kb_m3, kb_m2, kb_6, kb_7, kb_8, kb_9, kb_10, kb_12, kb_13, kb_16, kb_27, kb_31, kb_32, kb_43, kb_45, kb_48, kb_57, kb_60, kb_63, kb_81, kb_97, kb_99, kb_100, kb_120, kb_126, ks_m1000, ks_243, ks_255, ks_729, ks_1000, ks_2000, ks_2187, ks_6561, ks_9840, ks_9841, kl_0, kl_1, k0, kG, e_k, hGk]
            exact h9
          · try simp (disch := omega) only [nI_ltI, nI_leI, nI_eq, Nat.not_lt, Nat.not_le, lcmp_eq, lcmp_gt, lcmp_ge, lcL, lcH] at b21
            refine hP 3 _ rfl _ _ _ _ _ _ ?_
            simp only [bX10_store_3, hrun, hx, hnth, hput, hok, hcat2, hldI, hldL, hldR, hpI, hpL, hpA, hpR, hp1, hpV, hrtI, hrtL, hrtR, hrtV, hpN, hck, hrI, hrB, hrL, hrA, hwI, hwA, hwB, hrN, mf_0, mf_1, mf_2, mf_3, mf_4, mf_5, mf_6, mf_7, mf_8, mf_9, mf_10, mf_11, mf_12, mf_13, mf_14, mf_15, mf_16, mf_17, mf_18, mf_19, mf_20, mf_21, mf_22, mf_23, mf_24, mf_25, mf_26, mf_27, mf_28, mf_29, ms_11, ms_16, ms_17, ms_20, ms_21, ms_23, ms_24, hwF, hcl, hfty, tyX1, tyX3, tyX6, tyX9, tyX10, tyJ0, tyJ4, hfit, hcmp, hnar, hres, hst, hacp, kz, kof, kn0, kn1, Bool.not_true, Bool.not_false, true_and, and_true, Nat.zero_add, Nat.reduceAdd, List.length_cons, List.length_nil, true_or, or_true, false_or, or_false, decide_true, decide_false, ne_eq, not_true_eq_false, not_false_eq_true, ki_0, ki_1, ki_2, ki_3, ki_4, ki_5, kb_m100, kb_m10, kb_m9, kb_m8, kb_m7, kb_m6, kb_m5, kb_m4, kb_m3, kb_m2, kb_6, kb_7, kb_8, kb_9, kb_10, kb_12, kb_13, kb_16, kb_27, kb_31, kb_32, kb_43, kb_45, kb_48, kb_57, kb_60, kb_63, kb_81, kb_97, kb_99, kb_100, kb_120, kb_126, ks_m1000, ks_243, ks_255, ks_729, ks_1000, ks_2000, ks_2187, ks_6561, ks_9840, ks_9841, kl_0, kl_1, k0, kG, e_k, hGk]
            refine ⟨vp_in_nI (by omega) (by omega), ?_⟩
            refine ⟨fun b34 => ?_, fun b34 => ?_⟩
            · try simp (disch := omega) only [nI_ltI, nI_leI, nI_eq, Nat.not_lt, Nat.not_le, lcmp_eq, lcmp_gt, lcmp_ge, lcL, lcH] at b34
              exfalso; omega
            · try simp (disch := omega) only [nI_ltI, nI_leI, nI_eq, Nat.not_lt, Nat.not_le, lcmp_eq, lcmp_gt, lcmp_ge, lcL, lcH] at b34
              refine hP 4 _ rfl _ _ _ _ _ _ ?_
              simp only [bX10_store_4, hrun, hx, hnth, hput, hok, hcat2, hldI, hldL, hldR, hpI, hpL, hpA, hpR, hp1, hpV, hrtI, hrtL, hrtR, hrtV, hpN, hck, hrI, hrB, hrL, hrA, hwI, hwA, hwB, hrN, mf_0, mf_1, mf_2, mf_3, mf_4, mf_5, mf_6, mf_7, mf_8, mf_9, mf_10, mf_11, mf_12, mf_13, mf_14, mf_15, mf_16, mf_17, mf_18, mf_19, mf_20, mf_21, mf_22, mf_23, mf_24, mf_25, mf_26, mf_27, mf_28, mf_29, ms_11, ms_16, ms_17, ms_20, ms_21, ms_23, ms_24, hwF, hcl, hfty, tyX1, tyX3, tyX6, tyX9, tyX10, tyJ0, tyJ4, hfit, hcmp, hnar, hres, hst, hacp, kz, kof, kn0, kn1, Bool.not_true, Bool.not_false, true_and, and_true, Nat.zero_add, Nat.reduceAdd, List.length_cons, List.length_nil, true_or, or_true, false_or, or_false, decide_true, decide_false, ne_eq, not_true_eq_false, not_false_eq_true, ki_0, ki_1, ki_2, ki_3, ki_4, ki_5, kb_m100, kb_m10, kb_m9, kb_m8, kb_m7, kb_m6, kb_m5, kb_m4, kb_m3, kb_m2, kb_6, kb_7, kb_8, kb_9, kb_10, kb_12, kb_13, kb_16, kb_27, kb_31, kb_32, kb_43, kb_45, kb_48, kb_57, kb_60, kb_63, kb_81, kb_97, kb_99, kb_100, kb_120, kb_126, ks_m1000, ks_243, ks_255, ks_729, ks_1000, ks_2000, ks_2187, ks_6561, ks_9840, ks_9841, kl_0, kl_1, k0, kG, e_k, hGk]
              exact h9
  refine hP 0 _ rfl _ _ _ _ _ _ ?_
  simp only [bX10_store_0, hrun, hx, hnth, hput, hok, hcat2, hldI, hldL, hldR, hpI, hpL, hpA, hpR, hp1, hpV, hrtI, hrtL, hrtR, hrtV, hpN, hck, hrI, hrB, hrL, hrA, hwI, hwA, hwB, hrN, mf_0, mf_1, mf_2, mf_3, mf_4, mf_5, mf_6, mf_7, mf_8, mf_9, mf_10, mf_11, mf_12, mf_13, mf_14, mf_15, mf_16, mf_17, mf_18, mf_19, mf_20, mf_21, mf_22, mf_23, mf_24, mf_25, mf_26, mf_27, mf_28, mf_29, ms_11, ms_16, ms_17, ms_20, ms_21, ms_23, ms_24, hwF, hcl, hfty, tyX1, tyX3, tyX6, tyX9, tyX10, tyJ0, tyJ4, hfit, hcmp, hnar, hres, hst, hacp, kz, kof, kn0, kn1, Bool.not_true, Bool.not_false, true_and, and_true, Nat.zero_add, Nat.reduceAdd, List.length_cons, List.length_nil, true_or, or_true, false_or, or_false, decide_true, decide_false, ne_eq, not_true_eq_false, not_false_eq_true, ki_0, ki_1, ki_2, ki_3, ki_4, ki_5, kb_m100, kb_m10, kb_m9, kb_m8, kb_m7, kb_m6, kb_m5, kb_m4, kb_m3, kb_m2, kb_6, kb_7, kb_8, kb_9, kb_10, kb_12, kb_13, kb_16, kb_27, kb_31, kb_32, kb_43, kb_45, kb_48, kb_57, kb_60, kb_63, kb_81, kb_97, kb_99, kb_100, kb_120, kb_126, ks_m1000, ks_243, ks_255, ks_729, ks_1000, ks_2000, ks_2187, ks_6561, ks_9840, ks_9841, kl_0, kl_1]
  exact loop _ 0 rfl (Nat.zero_le _) (fun c hc => by omega)
end M9
