/-! the class's Words -/
section W8
variable {g : hG} {d N c s : Nat} {w : hWd} {Q : hRt}
set_option maxRecDepth 100000 in
set_option maxHeartbeats 4000000 in
theorem c_hasLetter (hg : hgo g) (hd : 1 ≤ d) {x : Int32}  (h : Q (some (.int (if ¬ x < nI 0 ∧ x < nI 3 then nI 1 else nI 0))) N c s w) : Γ g d yX8_hasLetter [.int x] N c s w Q := by
  refine Γ.intro0 hg kX8_hasLetter (by omega) (Nat.le_of_ble_eq_true rfl) (fun P hP => ?_)
  show P N 0 0 w 0 [some (.int x)] []
  refine hP 0 _ rfl _ _ _ _ _ _ ?_
  simp only [bX8_hasLetter_0, hrun, hx, hnth, hput, hok, hcat2, hldI, hldL, hldR, hpI, hpL, hpA, hpR, hp1, hpV, hrtI, hrtL, hrtR, hrtV, hpN, hck, hrI, hrB, hrL, hrA, hwI, hwA, hwB, hrN, hfk, hfs, hrF, hwF, hcl, hfty, hfit, hcmp, hnar, hres, hst, hacp, kz, kof, kn0, kn1, Bool.not_true, Bool.not_false, true_and, and_true, List.length_cons, List.length_nil, true_or, or_true, false_or, or_false, decide_true, decide_false, ne_eq, not_true_eq_false, not_false_eq_true, ki_0, ki_1, ki_2, ki_3, ki_4, ki_5, kb_m100, kb_m10, kb_m9, kb_m8, kb_m7, kb_m6, kb_m5, kb_m4, kb_m3, kb_m2, kb_6, kb_7, kb_8, kb_9, kb_10, kb_12, kb_13, kb_16, kb_27, kb_31, kb_32, kb_43, kb_45, kb_48, kb_57, kb_60, kb_63, kb_81, kb_97, kb_99, kb_100, kb_120, kb_126, ks_m1000, ks_243, ks_255, ks_729, ks_1000, ks_2000, ks_2187, ks_6561, ks_9840, ks_9841, kl_0, kl_1]
  refine ⟨fun b1 => ?_, fun b1 => ?_⟩
  · skip
    refine hP 3 _ rfl _ _ _ _ _ _ ?_
    simp only [bX8_hasLetter_3, hrun, hx, hnth, hput, hok, hcat2, hldI, hldL, hldR, hpI, hpL, hpA, hpR, hp1, hpV, hrtI, hrtL, hrtR, hrtV, hpN, hck, hrI, hrB, hrL, hrA, hwI, hwA, hwB, hrN, hfk, hfs, hrF, hwF, hcl, hfty, hfit, hcmp, hnar, hres, hst, hacp, kz, kof, kn0, kn1, Bool.not_true, Bool.not_false, true_and, and_true, List.length_cons, List.length_nil, true_or, or_true, false_or, or_false, decide_true, decide_false, ne_eq, not_true_eq_false, not_false_eq_true, ki_0, ki_1, ki_2, ki_3, ki_4, ki_5, kb_m100, kb_m10, kb_m9, kb_m8, kb_m7, kb_m6, kb_m5, kb_m4, kb_m3, kb_m2, kb_6, kb_7, kb_8, kb_9, kb_10, kb_12, kb_13, kb_16, kb_27, kb_31, kb_32, kb_43, kb_45, kb_48, kb_57, kb_60, kb_63, kb_81, kb_97, kb_99, kb_100, kb_120, kb_126, ks_m1000, ks_243, ks_255, ks_729, ks_1000, ks_2000, ks_2187, ks_6561, ks_9840, ks_9841, kl_0, kl_1]
    refine hP 4 _ rfl _ _ _ _ _ _ ?_
    simp only [bX8_hasLetter_4, hrun, hx, hnth, hput, hok, hcat2, hldI, hldL, hldR, hpI, hpL, hpA, hpR, hp1, hpV, hrtI, hrtL, hrtR, hrtV, hpN, hck, hrI, hrB, hrL, hrA, hwI, hwA, hwB, hrN, hfk, hfs, hrF, hwF, hcl, hfty, hfit, hcmp, hnar, hres, hst, hacp, kz, kof, kn0, kn1, Bool.not_true, Bool.not_false, true_and, and_true, List.length_cons, List.length_nil, true_or, or_true, false_or, or_false, decide_true, decide_false, ne_eq, not_true_eq_false, not_false_eq_true, ki_0, ki_1, ki_2, ki_3, ki_4, ki_5, kb_m100, kb_m10, kb_m9, kb_m8, kb_m7, kb_m6, kb_m5, kb_m4, kb_m3, kb_m2, kb_6, kb_7, kb_8, kb_9, kb_10, kb_12, kb_13, kb_16, kb_27, kb_31, kb_32, kb_43, kb_45, kb_48, kb_57, kb_60, kb_63, kb_81, kb_97, kb_99, kb_100, kb_120, kb_126, ks_m1000, ks_243, ks_255, ks_729, ks_1000, ks_2000, ks_2187, ks_6561, ks_9840, ks_9841, kl_0, kl_1]
    rwa [if_neg (fun q => q.1 b1)] at h
  · skip
    refine hP 1 _ rfl _ _ _ _ _ _ ?_
    simp only [bX8_hasLetter_1, hrun, hx, hnth, hput, hok, hcat2, hldI, hldL, hldR, hpI, hpL, hpA, hpR, hp1, hpV, hrtI, hrtL, hrtR, hrtV, hpN, hck, hrI, hrB, hrL, hrA, hwI, hwA, hwB, hrN, hfk, hfs, hrF, hwF, hcl, hfty, hfit, hcmp, hnar, hres, hst, hacp, kz, kof, kn0, kn1, Bool.not_true, Bool.not_false, true_and, and_true, List.length_cons, List.length_nil, true_or, or_true, false_or, or_false, decide_true, decide_false, ne_eq, not_true_eq_false, not_false_eq_true, ki_0, ki_1, ki_2, ki_3, ki_4, ki_5, kb_m100, kb_m10, kb_m9, kb_m8, kb_m7, kb_m6, kb_m5, kb_m4, kb_m3, kb_m2, kb_6, kb_7, kb_8, kb_9, kb_10, kb_12, kb_13, kb_16, kb_27, kb_31, kb_32, kb_43, kb_45, kb_48, kb_57, kb_60, kb_63, kb_81, kb_97, kb_99, kb_100, kb_120, kb_126, ks_m1000, ks_243, ks_255, ks_729, ks_1000, ks_2000, ks_2187, ks_6561, ks_9840, ks_9841, kl_0, kl_1]
    refine ⟨fun b6 => ?_, fun b6 => ?_⟩
    · skip
      refine hP 3 _ rfl _ _ _ _ _ _ ?_
      simp only [bX8_hasLetter_3, hrun, hx, hnth, hput, hok, hcat2, hldI, hldL, hldR, hpI, hpL, hpA, hpR, hp1, hpV, hrtI, hrtL, hrtR, hrtV, hpN, hck, hrI, hrB, hrL, hrA, hwI, hwA, hwB, hrN, hfk, hfs, hrF, hwF, hcl, hfty, hfit, hcmp, hnar, hres, hst, hacp, kz, kof, kn0, kn1, Bool.not_true, Bool.not_false, true_and, and_true, List.length_cons, List.length_nil, true_or, or_true, false_or, or_false, decide_true, decide_false, ne_eq, not_true_eq_false, not_false_eq_true, ki_0, ki_1, ki_2, ki_3, ki_4, ki_5, kb_m100, kb_m10, kb_m9, kb_m8, kb_m7, kb_m6, kb_m5, kb_m4, kb_m3, kb_m2, kb_6, kb_7, kb_8, kb_9, kb_10, kb_12, kb_13, kb_16, kb_27, kb_31, kb_32, kb_43, kb_45, kb_48, kb_57, kb_60, kb_63, kb_81, kb_97, kb_99, kb_100, kb_120, kb_126, ks_m1000, ks_243, ks_255, ks_729, ks_1000, ks_2000, ks_2187, ks_6561, ks_9840, ks_9841, kl_0, kl_1]
      refine hP 4 _ rfl _ _ _ _ _ _ ?_
      simp only [bX8_hasLetter_4, hrun, hx, hnth, hput, hok, hcat2, hldI, hldL, hldR, hpI, hpL, hpA, hpR, hp1, hpV, hrtI, hrtL, hrtR, hrtV, hpN, hck, hrI, hrB, hrL, hrA, hwI, hwA, hwB, hrN, hfk, hfs, hrF, hwF, hcl, hfty, hfit, hcmp, hnar, hres, hst, hacp, kz, kof, kn0, kn1, Bool.not_true, Bool.not_false, true_and, and_true, List.length_cons, List.length_nil, true_or, or_true, false_or, or_false, decide_true, decide_false, ne_eq, not_true_eq_false, not_false_eq_true, ki_0, ki_1, ki_2, ki_3, ki_4, ki_5, kb_m100, kb_m10, kb_m9, kb_m8, kb_m7, kb_m6, kb_m5, kb_m4, kb_m3, kb_m2, kb_6, kb_7, kb_8, kb_9, kb_10, kb_12, kb_13, kb_16, kb_27, kb_31, kb_32, kb_43, kb_45, kb_48, kb_57, kb_60, kb_63, kb_81, kb_97, kb_99, kb_100, kb_120, kb_126, ks_m1000, ks_243, ks_255, ks_729, ks_1000, ks_2000, ks_2187, ks_6561, ks_9840, ks_9841, kl_0, kl_1]
      rwa [if_neg (fun q => Int32.not_lt.mpr b6 q.2)] at h
    · skip
      refine hP 2 _ rfl _ _ _ _ _ _ ?_
      simp only [bX8_hasLetter_2, hrun, hx, hnth, hput, hok, hcat2, hldI, hldL, hldR, hpI, hpL, hpA, hpR, hp1, hpV, hrtI, hrtL, hrtR, hrtV, hpN, hck, hrI, hrB, hrL, hrA, hwI, hwA, hwB, hrN, hfk, hfs, hrF, hwF, hcl, hfty, hfit, hcmp, hnar, hres, hst, hacp, kz, kof, kn0, kn1, Bool.not_true, Bool.not_false, true_and, and_true, List.length_cons, List.length_nil, true_or, or_true, false_or, or_false, decide_true, decide_false, ne_eq, not_true_eq_false, not_false_eq_true, ki_0, ki_1, ki_2, ki_3, ki_4, ki_5, kb_m100, kb_m10, kb_m9, kb_m8, kb_m7, kb_m6, kb_m5, kb_m4, kb_m3, kb_m2, kb_6, kb_7, kb_8, kb_9, kb_10, kb_12, kb_13, kb_16, kb_27, kb_31, kb_32, kb_43, kb_45, kb_48, kb_57, kb_60, kb_63, kb_81, kb_97, kb_99, kb_100, kb_120, kb_126, ks_m1000, ks_243, ks_255, ks_729, ks_1000, ks_2000, ks_2187, ks_6561, ks_9840, ks_9841, kl_0, kl_1]
      refine hP 4 _ rfl _ _ _ _ _ _ ?_
      simp only [bX8_hasLetter_4, hrun, hx, hnth, hput, hok, hcat2, hldI, hldL, hldR, hpI, hpL, hpA, hpR, hp1, hpV, hrtI, hrtL, hrtR, hrtV, hpN, hck, hrI, hrB, hrL, hrA, hwI, hwA, hwB, hrN, hfk, hfs, hrF, hwF, hcl, hfty, hfit, hcmp, hnar, hres, hst, hacp, kz, kof, kn0, kn1, Bool.not_true, Bool.not_false, true_and, and_true, List.length_cons, List.length_nil, true_or, or_true, false_or, or_false, decide_true, decide_false, ne_eq, not_true_eq_false, not_false_eq_true, ki_0, ki_1, ki_2, ki_3, ki_4, ki_5, kb_m100, kb_m10, kb_m9, kb_m8, kb_m7, kb_m6, kb_m5, kb_m4, kb_m3, kb_m2, kb_6, kb_7, kb_8, kb_9, kb_10, kb_12, kb_13, kb_16, kb_27, kb_31, kb_32, kb_43, kb_45, kb_48, kb_57, kb_60, kb_63, kb_81, kb_97, kb_99, kb_100, kb_120, kb_126, ks_m1000, ks_243, ks_255, ks_729, ks_1000, ks_2000, ks_2187, ks_6561, ks_9840, ks_9841, kl_0, kl_1]
      rwa [if_pos ⟨b1, Int32.not_le.mp b6⟩] at h
set_option maxRecDepth 100000 in
set_option maxHeartbeats 4000000 in
theorem c_appended (hg : hgo g) (hd : 1 ≤ d) {u : List Nat} {x : Nat}  (h : Q (some (.int (nI (menc (u ++ [x]))))) N c s w) : Γ g d yX8_appended [.int (nI (menc u)), .int (nI x)] N c s w Q := by
  refine Γ.intro0 hg kX8_appended (by omega) (Nat.le_of_ble_eq_true rfl) (fun P hP => ?_)
  show P N 0 0 w 0 [some (.int (nI (menc u))), some (.int (nI x))] []
  refine hP 0 _ rfl _ _ _ _ _ _ ?_
  simp only [bX8_appended_0, hrun, hx, hnth, hput, hok, hcat2, hldI, hldL, hldR, hpI, hpL, hpA, hpR, hp1, hpV, hrtI, hrtL, hrtR, hrtV, hpN, hck, hrI, hrB, hrL, hrA, hwI, hwA, hwB, hrN, hfk, hfs, hrF, hwF, hcl, hfty, hfit, hcmp, hnar, hres, hst, hacp, kz, kof, kn0, kn1, Bool.not_true, Bool.not_false, true_and, and_true, List.length_cons, List.length_nil, true_or, or_true, false_or, or_false, decide_true, decide_false, ne_eq, not_true_eq_false, not_false_eq_true, ki_0, ki_1, ki_2, ki_3, ki_4, ki_5, kb_m100, kb_m10, kb_m9, kb_m8, kb_m7, kb_m6, kb_m5, kb_m4, kb_m3, kb_m2, kb_6, kb_7, kb_8, kb_9, kb_10, kb_12, kb_13, kb_16, kb_27, kb_31, kb_32, kb_43, kb_45, kb_48, kb_57, kb_60, kb_63, kb_81, kb_97, kb_99, kb_100, kb_120, kb_126, ks_m1000, ks_243, ks_255, ks_729, ks_1000, ks_2000, ks_2187, ks_6561, ks_9840, ks_9841, kl_0, kl_1]
  rwa [pk_mul, nI_add, nI_add, ← menc_snoc]
set_option maxRecDepth 100000 in
set_option maxHeartbeats 4000000 in
theorem c_lastLetter (hg : hgo g) (hd : 1 ≤ d) {u : List Nat} {x : Nat} (hu : mW (u ++ [x]))  (h : Q (some (.int (nI x))) N c s w) : Γ g d yX8_lastLetter [.int (nI (menc (u ++ [x])))] N c s w Q := by
  refine Γ.intro0 hg kX8_lastLetter (by omega) (Nat.le_of_ble_eq_true rfl) (fun P hP => ?_)
  show P N 0 0 w 0 [some (.int (nI (menc (u ++ [x]))))] []
  have h9 := hu.lt
  have h8 := hu.last
  rw [menc_snoc] at h9 ⊢
  refine hP 0 _ rfl _ _ _ _ _ _ ?_
  simp only [bX8_lastLetter_0, hrun, hx, hnth, hput, hok, hcat2, hldI, hldL, hldR, hpI, hpL, hpA, hpR, hp1, hpV, hrtI, hrtL, hrtR, hrtV, hpN, hck, hrI, hrB, hrL, hrA, hwI, hwA, hwB, hrN, hfk, hfs, hrF, hwF, hcl, hfty, hfit, hcmp, hnar, hres, hst, hacp, kz, kof, kn0, kn1, Bool.not_true, Bool.not_false, true_and, and_true, List.length_cons, List.length_nil, true_or, or_true, false_or, or_false, decide_true, decide_false, ne_eq, not_true_eq_false, not_false_eq_true, ki_0, ki_1, ki_2, ki_3, ki_4, ki_5, kb_m100, kb_m10, kb_m9, kb_m8, kb_m7, kb_m6, kb_m5, kb_m4, kb_m3, kb_m2, kb_6, kb_7, kb_8, kb_9, kb_10, kb_12, kb_13, kb_16, kb_27, kb_31, kb_32, kb_43, kb_45, kb_48, kb_57, kb_60, kb_63, kb_81, kb_97, kb_99, kb_100, kb_120, kb_126, ks_m1000, ks_243, ks_255, ks_729, ks_1000, ks_2000, ks_2187, ks_6561, ks_9840, ks_9841, kl_0, kl_1]
  refine ⟨fun b1 => ?_, fun b1 => ?_⟩
  · try simp (disch := omega) only [nI_ltI, nI_leI, nI_eq, Nat.not_lt, Nat.not_le] at b1
    exfalso; omega
  · try simp (disch := omega) only [nI_ltI, nI_leI, nI_eq, Nat.not_lt, Nat.not_le] at b1
    refine hP 1 _ rfl _ _ _ _ _ _ ?_
    simp only [bX8_lastLetter_1, hrun, hx, hnth, hput, hok, hcat2, hldI, hldL, hldR, hpI, hpL, hpA, hpR, hp1, hpV, hrtI, hrtL, hrtR, hrtV, hpN, hck, hrI, hrB, hrL, hrA, hwI, hwA, hwB, hrN, hfk, hfs, hrF, hwF, hcl, hfty, hfit, hcmp, hnar, hres, hst, hacp, kz, kof, kn0, kn1, Bool.not_true, Bool.not_false, true_and, and_true, List.length_cons, List.length_nil, true_or, or_true, false_or, or_false, decide_true, decide_false, ne_eq, not_true_eq_false, not_false_eq_true, ki_0, ki_1, ki_2, ki_3, ki_4, ki_5, kb_m100, kb_m10, kb_m9, kb_m8, kb_m7, kb_m6, kb_m5, kb_m4, kb_m3, kb_m2, kb_6, kb_7, kb_8, kb_9, kb_10, kb_12, kb_13, kb_16, kb_27, kb_31, kb_32, kb_43, kb_45, kb_48, kb_57, kb_60, kb_63, kb_81, kb_97, kb_99, kb_100, kb_120, kb_126, ks_m1000, ks_243, ks_255, ks_729, ks_1000, ks_2000, ks_2187, ks_6561, ks_9840, ks_9841, kl_0, kl_1]
    refine ⟨by decide, ?_⟩
    refine hP 3 _ rfl _ _ _ _ _ _ ?_
    simp only [bX8_lastLetter_3, hrun, hx, hnth, hput, hok, hcat2, hldI, hldL, hldR, hpI, hpL, hpA, hpR, hp1, hpV, hrtI, hrtL, hrtR, hrtV, hpN, hck, hrI, hrB, hrL, hrA, hwI, hwA, hwB, hrN, hfk, hfs, hrF, hwF, hcl, hfty, hfit, hcmp, hnar, hres, hst, hacp, kz, kof, kn0, kn1, Bool.not_true, Bool.not_false, true_and, and_true, List.length_cons, List.length_nil, true_or, or_true, false_or, or_false, decide_true, decide_false, ne_eq, not_true_eq_false, not_false_eq_true, ki_0, ki_1, ki_2, ki_3, ki_4, ki_5, kb_m100, kb_m10, kb_m9, kb_m8, kb_m7, kb_m6, kb_m5, kb_m4, kb_m3, kb_m2, kb_6, kb_7, kb_8, kb_9, kb_10, kb_12, kb_13, kb_16, kb_27, kb_31, kb_32, kb_43, kb_45, kb_48, kb_57, kb_60, kb_63, kb_81, kb_97, kb_99, kb_100, kb_120, kb_126, ks_m1000, ks_243, ks_255, ks_729, ks_1000, ks_2000, ks_2187, ks_6561, ks_9840, ks_9841, kl_0, kl_1]
    rwa [pk_sub (by omega), pk_rem (by omega) (by omega) (by omega), show (3 * menc u + 1 + x - 1) % 3 = x by omega]
set_option maxRecDepth 100000 in
set_option maxHeartbeats 4000000 in
theorem c_lastLetter0 (hg : hgo g) (hd : 1 ≤ d)   (h : Q (some (.int (Int32.ofInt (-1)))) N c s w) : Γ g d yX8_lastLetter [.int (nI 0)] N c s w Q := by
  refine Γ.intro0 hg kX8_lastLetter (by omega) (Nat.le_of_ble_eq_true rfl) (fun P hP => ?_)
  show P N 0 0 w 0 [some (.int (nI 0))] []
  refine hP 0 _ rfl _ _ _ _ _ _ ?_
  simp only [bX8_lastLetter_0, hrun, hx, hnth, hput, hok, hcat2, hldI, hldL, hldR, hpI, hpL, hpA, hpR, hp1, hpV, hrtI, hrtL, hrtR, hrtV, hpN, hck, hrI, hrB, hrL, hrA, hwI, hwA, hwB, hrN, hfk, hfs, hrF, hwF, hcl, hfty, hfit, hcmp, hnar, hres, hst, hacp, kz, kof, kn0, kn1, Bool.not_true, Bool.not_false, true_and, and_true, List.length_cons, List.length_nil, true_or, or_true, false_or, or_false, decide_true, decide_false, ne_eq, not_true_eq_false, not_false_eq_true, ki_0, ki_1, ki_2, ki_3, ki_4, ki_5, kb_m100, kb_m10, kb_m9, kb_m8, kb_m7, kb_m6, kb_m5, kb_m4, kb_m3, kb_m2, kb_6, kb_7, kb_8, kb_9, kb_10, kb_12, kb_13, kb_16, kb_27, kb_31, kb_32, kb_43, kb_45, kb_48, kb_57, kb_60, kb_63, kb_81, kb_97, kb_99, kb_100, kb_120, kb_126, ks_m1000, ks_243, ks_255, ks_729, ks_1000, ks_2000, ks_2187, ks_6561, ks_9840, ks_9841, kl_0, kl_1]
  refine ⟨fun b1 => ?_, fun b1 => ?_⟩
  · try simp (disch := omega) only [nI_ltI, nI_leI, nI_eq, Nat.not_lt, Nat.not_le] at b1
    refine hP 2 _ rfl _ _ _ _ _ _ ?_
    simp only [bX8_lastLetter_2, hrun, hx, hnth, hput, hok, hcat2, hldI, hldL, hldR, hpI, hpL, hpA, hpR, hp1, hpV, hrtI, hrtL, hrtR, hrtV, hpN, hck, hrI, hrB, hrL, hrA, hwI, hwA, hwB, hrN, hfk, hfs, hrF, hwF, hcl, hfty, hfit, hcmp, hnar, hres, hst, hacp, kz, kof, kn0, kn1, Bool.not_true, Bool.not_false, true_and, and_true, List.length_cons, List.length_nil, true_or, or_true, false_or, or_false, decide_true, decide_false, ne_eq, not_true_eq_false, not_false_eq_true, ki_0, ki_1, ki_2, ki_3, ki_4, ki_5, kb_m100, kb_m10, kb_m9, kb_m8, kb_m7, kb_m6, kb_m5, kb_m4, kb_m3, kb_m2, kb_6, kb_7, kb_8, kb_9, kb_10, kb_12, kb_13, kb_16, kb_27, kb_31, kb_32, kb_43, kb_45, kb_48, kb_57, kb_60, kb_63, kb_81, kb_97, kb_99, kb_100, kb_120, kb_126, ks_m1000, ks_243, ks_255, ks_729, ks_1000, ks_2000, ks_2187, ks_6561, ks_9840, ks_9841, kl_0, kl_1]
    refine hP 3 _ rfl _ _ _ _ _ _ ?_
    simp only [bX8_lastLetter_3, hrun, hx, hnth, hput, hok, hcat2, hldI, hldL, hldR, hpI, hpL, hpA, hpR, hp1, hpV, hrtI, hrtL, hrtR, hrtV, hpN, hck, hrI, hrB, hrL, hrA, hwI, hwA, hwB, hrN, hfk, hfs, hrF, hwF, hcl, hfty, hfit, hcmp, hnar, hres, hst, hacp, kz, kof, kn0, kn1, Bool.not_true, Bool.not_false, true_and, and_true, List.length_cons, List.length_nil, true_or, or_true, false_or, or_false, decide_true, decide_false, ne_eq, not_true_eq_false, not_false_eq_true, ki_0, ki_1, ki_2, ki_3, ki_4, ki_5, kb_m100, kb_m10, kb_m9, kb_m8, kb_m7, kb_m6, kb_m5, kb_m4, kb_m3, kb_m2, kb_6, kb_7, kb_8, kb_9, kb_10, kb_12, kb_13, kb_16, kb_27, kb_31, kb_32, kb_43, kb_45, kb_48, kb_57, kb_60, kb_63, kb_81, kb_97, kb_99, kb_100, kb_120, kb_126, ks_m1000, ks_243, ks_255, ks_729, ks_1000, ks_2000, ks_2187, ks_6561, ks_9840, ks_9841, kl_0, kl_1]
    exact h
  · try simp (disch := omega) only [nI_ltI, nI_leI, nI_eq, Nat.not_lt, Nat.not_le] at b1
    exfalso; omega
set_option maxRecDepth 100000 in
set_option maxHeartbeats 4000000 in
theorem c_withoutLast (hg : hgo g) (hd : 1 ≤ d) {u : List Nat} (hu : mW u)  (h : Q (some (.int (nI (menc u.dropLast)))) N c s w) : Γ g d yX8_withoutLast [.int (nI (menc u))] N c s w Q := by
  refine Γ.intro0 hg kX8_withoutLast (by omega) (Nat.le_of_ble_eq_true rfl) (fun P hP => ?_)
  show P N 0 0 w 0 [some (.int (nI (menc u)))] []
  have h9 := hu.lt
  refine hP 0 _ rfl _ _ _ _ _ _ ?_
  simp only [bX8_withoutLast_0, hrun, hx, hnth, hput, hok, hcat2, hldI, hldL, hldR, hpI, hpL, hpA, hpR, hp1, hpV, hrtI, hrtL, hrtR, hrtV, hpN, hck, hrI, hrB, hrL, hrA, hwI, hwA, hwB, hrN, hfk, hfs, hrF, hwF, hcl, hfty, hfit, hcmp, hnar, hres, hst, hacp, kz, kof, kn0, kn1, Bool.not_true, Bool.not_false, true_and, and_true, List.length_cons, List.length_nil, true_or, or_true, false_or, or_false, decide_true, decide_false, ne_eq, not_true_eq_false, not_false_eq_true, ki_0, ki_1, ki_2, ki_3, ki_4, ki_5, kb_m100, kb_m10, kb_m9, kb_m8, kb_m7, kb_m6, kb_m5, kb_m4, kb_m3, kb_m2, kb_6, kb_7, kb_8, kb_9, kb_10, kb_12, kb_13, kb_16, kb_27, kb_31, kb_32, kb_43, kb_45, kb_48, kb_57, kb_60, kb_63, kb_81, kb_97, kb_99, kb_100, kb_120, kb_126, ks_m1000, ks_243, ks_255, ks_729, ks_1000, ks_2000, ks_2187, ks_6561, ks_9840, ks_9841, kl_0, kl_1]
  refine ⟨fun b1 => ?_, fun b1 => ?_⟩
  · try simp (disch := omega) only [nI_ltI, nI_leI, nI_eq, Nat.not_lt, Nat.not_le] at b1
    refine hP 2 _ rfl _ _ _ _ _ _ ?_
    simp only [bX8_withoutLast_2, hrun, hx, hnth, hput, hok, hcat2, hldI, hldL, hldR, hpI, hpL, hpA, hpR, hp1, hpV, hrtI, hrtL, hrtR, hrtV, hpN, hck, hrI, hrB, hrL, hrA, hwI, hwA, hwB, hrN, hfk, hfs, hrF, hwF, hcl, hfty, hfit, hcmp, hnar, hres, hst, hacp, kz, kof, kn0, kn1, Bool.not_true, Bool.not_false, true_and, and_true, List.length_cons, List.length_nil, true_or, or_true, false_or, or_false, decide_true, decide_false, ne_eq, not_true_eq_false, not_false_eq_true, ki_0, ki_1, ki_2, ki_3, ki_4, ki_5, kb_m100, kb_m10, kb_m9, kb_m8, kb_m7, kb_m6, kb_m5, kb_m4, kb_m3, kb_m2, kb_6, kb_7, kb_8, kb_9, kb_10, kb_12, kb_13, kb_16, kb_27, kb_31, kb_32, kb_43, kb_45, kb_48, kb_57, kb_60, kb_63, kb_81, kb_97, kb_99, kb_100, kb_120, kb_126, ks_m1000, ks_243, ks_255, ks_729, ks_1000, ks_2000, ks_2187, ks_6561, ks_9840, ks_9841, kl_0, kl_1]
    refine hP 3 _ rfl _ _ _ _ _ _ ?_
    simp only [bX8_withoutLast_3, hrun, hx, hnth, hput, hok, hcat2, hldI, hldL, hldR, hpI, hpL, hpA, hpR, hp1, hpV, hrtI, hrtL, hrtR, hrtV, hpN, hck, hrI, hrB, hrL, hrA, hwI, hwA, hwB, hrN, hfk, hfs, hrF, hwF, hcl, hfty, hfit, hcmp, hnar, hres, hst, hacp, kz, kof, kn0, kn1, Bool.not_true, Bool.not_false, true_and, and_true, List.length_cons, List.length_nil, true_or, or_true, false_or, or_false, decide_true, decide_false, ne_eq, not_true_eq_false, not_false_eq_true, ki_0, ki_1, ki_2, ki_3, ki_4, ki_5, kb_m100, kb_m10, kb_m9, kb_m8, kb_m7, kb_m6, kb_m5, kb_m4, kb_m3, kb_m2, kb_6, kb_7, kb_8, kb_9, kb_10, kb_12, kb_13, kb_16, kb_27, kb_31, kb_32, kb_43, kb_45, kb_48, kb_57, kb_60, kb_63, kb_81, kb_97, kb_99, kb_100, kb_120, kb_126, ks_m1000, ks_243, ks_255, ks_729, ks_1000, ks_2000, ks_2187, ks_6561, ks_9840, ks_9841, kl_0, kl_1]
    rw [show u = [] from by
      rcases mlist_snoc u with rfl | ⟨u', x, rfl⟩
      · rfl
      · rw [menc_snoc] at b1; omega] at h
    exact h
  · try simp (disch := omega) only [nI_ltI, nI_leI, nI_eq, Nat.not_lt, Nat.not_le] at b1
    rcases mlist_snoc u with rfl | ⟨u', x, rfl⟩
    · exact absurd b1 (by decide)
    rw [List.dropLast_concat] at h
    have h8 := hu.last
    rw [menc_snoc] at h9 ⊢
    refine hP 1 _ rfl _ _ _ _ _ _ ?_
    simp only [bX8_withoutLast_1, hrun, hx, hnth, hput, hok, hcat2, hldI, hldL, hldR, hpI, hpL, hpA, hpR, hp1, hpV, hrtI, hrtL, hrtR, hrtV, hpN, hck, hrI, hrB, hrL, hrA, hwI, hwA, hwB, hrN, hfk, hfs, hrF, hwF, hcl, hfty, hfit, hcmp, hnar, hres, hst, hacp, kz, kof, kn0, kn1, Bool.not_true, Bool.not_false, true_and, and_true, List.length_cons, List.length_nil, true_or, or_true, false_or, or_false, decide_true, decide_false, ne_eq, not_true_eq_false, not_false_eq_true, ki_0, ki_1, ki_2, ki_3, ki_4, ki_5, kb_m100, kb_m10, kb_m9, kb_m8, kb_m7, kb_m6, kb_m5, kb_m4, kb_m3, kb_m2, kb_6, kb_7, kb_8, kb_9, kb_10, kb_12, kb_13, kb_16, kb_27, kb_31, kb_32, kb_43, kb_45, kb_48, kb_57, kb_60, kb_63, kb_81, kb_97, kb_99, kb_100, kb_120, kb_126, ks_m1000, ks_243, ks_255, ks_729, ks_1000, ks_2000, ks_2187, ks_6561, ks_9840, ks_9841, kl_0, kl_1]
    refine ⟨by decide, ?_⟩
    refine hP 3 _ rfl _ _ _ _ _ _ ?_
    simp only [bX8_withoutLast_3, hrun, hx, hnth, hput, hok, hcat2, hldI, hldL, hldR, hpI, hpL, hpA, hpR, hp1, hpV, hrtI, hrtL, hrtR, hrtV, hpN, hck, hrI, hrB, hrL, hrA, hwI, hwA, hwB, hrN, hfk, hfs, hrF, hwF, hcl, hfty, hfit, hcmp, hnar, hres, hst, hacp, kz, kof, kn0, kn1, Bool.not_true, Bool.not_false, true_and, and_true, List.length_cons, List.length_nil, true_or, or_true, false_or, or_false, decide_true, decide_false, ne_eq, not_true_eq_false, not_false_eq_true, ki_0, ki_1, ki_2, ki_3, ki_4, ki_5, kb_m100, kb_m10, kb_m9, kb_m8, kb_m7, kb_m6, kb_m5, kb_m4, kb_m3, kb_m2, kb_6, kb_7, kb_8, kb_9, kb_10, kb_12, kb_13, kb_16, kb_27, kb_31, kb_32, kb_43, kb_45, kb_48, kb_57, kb_60, kb_63, kb_81, kb_97, kb_99, kb_100, kb_120, kb_126, ks_m1000, ks_243, ks_255, ks_729, ks_1000, ks_2000, ks_2187, ks_6561, ks_9840, ks_9841, kl_0, kl_1]
    rwa [pk_sub (by omega), pk_div (by omega) (by omega) (by omega), show (3 * menc u' + 1 + x - 1) / 3 = menc u' by omega]
set_option maxRecDepth 100000 in
set_option maxHeartbeats 4000000 in
theorem c_lengthOf (hg : hgo g) (hd : 2 ≤ d) {u : List Nat} (hu : mW u)  (h : Q (some (.int (nI u.length))) N c s w) : Γ g d yX8_lengthOf [.int (nI (menc u))] N c s w Q := by
  refine Γ.intro0 hg kX8_lengthOf (by omega) (Nat.le_of_ble_eq_true rfl) (fun P hP => ?_)
  show P N 0 0 w 0 [some (.int (nI (menc u))), none, none] []
  have loop : ∀ (n : Nat) (v : List Nat) (k : Nat), v.length = n → mW v → k + v.length = u.length → P N 0 0 w 4 [some (.int (nI (menc u))), some (.int (nI (menc v))), some (.int (nI k))] [] := by
    intro n
    induction n with
    | zero =>
      intro v k hn hv hk
      have h9 := hv.lt
      have h7 := hu.1
      have hv0 : v = [] := List.eq_nil_of_length_eq_zero hn
      subst hv0
      rw [menc_nil]
      have hk : k = u.length := by simpa using hk
      refine hP 1 _ rfl _ _ _ _ _ _ ?_
      simp only [bX8_lengthOf_1, hrun, hx, hnth, hput, hok, hcat2, hldI, hldL, hldR, hpI, hpL, hpA, hpR, hp1, hpV, hrtI, hrtL, hrtR, hrtV, hpN, hck, hrI, hrB, hrL, hrA, hwI, hwA, hwB, hrN, hfk, hfs, hrF, hwF, hcl, hfty, hfit, hcmp, hnar, hres, hst, hacp, kz, kof, kn0, kn1, Bool.not_true, Bool.not_false, true_and, and_true, List.length_cons, List.length_nil, true_or, or_true, false_or, or_false, decide_true, decide_false, ne_eq, not_true_eq_false, not_false_eq_true, ki_0, ki_1, ki_2, ki_3, ki_4, ki_5, kb_m100, kb_m10, kb_m9, kb_m8, kb_m7, kb_m6, kb_m5, kb_m4, kb_m3, kb_m2, kb_6, kb_7, kb_8, kb_9, kb_10, kb_12, kb_13, kb_16, kb_27, kb_31, kb_32, kb_43, kb_45, kb_48, kb_57, kb_60, kb_63, kb_81, kb_97, kb_99, kb_100, kb_120, kb_126, ks_m1000, ks_243, ks_255, ks_729, ks_1000, ks_2000, ks_2187, ks_6561, ks_9840, ks_9841, kl_0, kl_1]
      refine ⟨fun b7 => ?_, fun b7 => ?_⟩
      · try simp (disch := omega) only [nI_ltI, nI_leI, nI_eq, Nat.not_lt, Nat.not_le] at b7
        refine hP 4 _ rfl _ _ _ _ _ _ ?_
        simp only [bX8_lengthOf_4, hrun, hx, hnth, hput, hok, hcat2, hldI, hldL, hldR, hpI, hpL, hpA, hpR, hp1, hpV, hrtI, hrtL, hrtR, hrtV, hpN, hck, hrI, hrB, hrL, hrA, hwI, hwA, hwB, hrN, hfk, hfs, hrF, hwF, hcl, hfty, hfit, hcmp, hnar, hres, hst, hacp, kz, kof, kn0, kn1, Bool.not_true, Bool.not_false, true_and, and_true, List.length_cons, List.length_nil, true_or, or_true, false_or, or_false, decide_true, decide_false, ne_eq, not_true_eq_false, not_false_eq_true, ki_0, ki_1, ki_2, ki_3, ki_4, ki_5, kb_m100, kb_m10, kb_m9, kb_m8, kb_m7, kb_m6, kb_m5, kb_m4, kb_m3, kb_m2, kb_6, kb_7, kb_8, kb_9, kb_10, kb_12, kb_13, kb_16, kb_27, kb_31, kb_32, kb_43, kb_45, kb_48, kb_57, kb_60, kb_63, kb_81, kb_97, kb_99, kb_100, kb_120, kb_126, ks_m1000, ks_243, ks_255, ks_729, ks_1000, ks_2000, ks_2187, ks_6561, ks_9840, ks_9841, kl_0, kl_1]
        rwa [hk]
      · try simp (disch := omega) only [nI_ltI, nI_leI, nI_eq, Nat.not_lt, Nat.not_le] at b7
        refine hP 2 _ rfl _ _ _ _ _ _ ?_
        simp only [bX8_lengthOf_2, hrun, hx, hnth, hput, hok, hcat2, hldI, hldL, hldR, hpI, hpL, hpA, hpR, hp1, hpV, hrtI, hrtL, hrtR, hrtV, hpN, hck, hrI, hrB, hrL, hrA, hwI, hwA, hwB, hrN, hfk, hfs, hrF, hwF, hcl, hfty, hfit, hcmp, hnar, hres, hst, hacp, kz, kof, kn0, kn1, Bool.not_true, Bool.not_false, true_and, and_true, List.length_cons, List.length_nil, true_or, or_true, false_or, or_false, decide_true, decide_false, ne_eq, not_true_eq_false, not_false_eq_true, ki_0, ki_1, ki_2, ki_3, ki_4, ki_5, kb_m100, kb_m10, kb_m9, kb_m8, kb_m7, kb_m6, kb_m5, kb_m4, kb_m3, kb_m2, kb_6, kb_7, kb_8, kb_9, kb_10, kb_12, kb_13, kb_16, kb_27, kb_31, kb_32, kb_43, kb_45, kb_48, kb_57, kb_60, kb_63, kb_81, kb_97, kb_99, kb_100, kb_120, kb_126, ks_m1000, ks_243, ks_255, ks_729, ks_1000, ks_2000, ks_2187, ks_6561, ks_9840, ks_9841, kl_0, kl_1]
        refine ⟨fun b11 => ?_, fun b11 => ?_⟩
        · try simp (disch := omega) only [nI_ltI, nI_leI, nI_eq, Nat.not_lt, Nat.not_le] at b11
          refine hP 4 _ rfl _ _ _ _ _ _ ?_
          simp only [bX8_lengthOf_4, hrun, hx, hnth, hput, hok, hcat2, hldI, hldL, hldR, hpI, hpL, hpA, hpR, hp1, hpV, hrtI, hrtL, hrtR, hrtV, hpN, hck, hrI, hrB, hrL, hrA, hwI, hwA, hwB, hrN, hfk, hfs, hrF, hwF, hcl, hfty, hfit, hcmp, hnar, hres, hst, hacp, kz, kof, kn0, kn1, Bool.not_true, Bool.not_false, true_and, and_true, List.length_cons, List.length_nil, true_or, or_true, false_or, or_false, decide_true, decide_false, ne_eq, not_true_eq_false, not_false_eq_true, ki_0, ki_1, ki_2, ki_3, ki_4, ki_5, kb_m100, kb_m10, kb_m9, kb_m8, kb_m7, kb_m6, kb_m5, kb_m4, kb_m3, kb_m2, kb_6, kb_7, kb_8, kb_9, kb_10, kb_12, kb_13, kb_16, kb_27, kb_31, kb_32, kb_43, kb_45, kb_48, kb_57, kb_60, kb_63, kb_81, kb_97, kb_99, kb_100, kb_120, kb_126, ks_m1000, ks_243, ks_255, ks_729, ks_1000, ks_2000, ks_2187, ks_6561, ks_9840, ks_9841, kl_0, kl_1]
          rwa [hk]
        · try simp (disch := omega) only [nI_ltI, nI_leI, nI_eq, Nat.not_lt, Nat.not_le] at b11
          exfalso; omega
    | succ n ih =>
      intro v k hn hv hk
      have h9 := hv.lt
      have h7 := hu.1
      have hp : 0 < menc v := menc_pos (by intro q; rw [q] at hn; cases hn)
      refine hP 1 _ rfl _ _ _ _ _ _ ?_
      simp only [bX8_lengthOf_1, hrun, hx, hnth, hput, hok, hcat2, hldI, hldL, hldR, hpI, hpL, hpA, hpR, hp1, hpV, hrtI, hrtL, hrtR, hrtV, hpN, hck, hrI, hrB, hrL, hrA, hwI, hwA, hwB, hrN, hfk, hfs, hrF, hwF, hcl, hfty, hfit, hcmp, hnar, hres, hst, hacp, kz, kof, kn0, kn1, Bool.not_true, Bool.not_false, true_and, and_true, List.length_cons, List.length_nil, true_or, or_true, false_or, or_false, decide_true, decide_false, ne_eq, not_true_eq_false, not_false_eq_true, ki_0, ki_1, ki_2, ki_3, ki_4, ki_5, kb_m100, kb_m10, kb_m9, kb_m8, kb_m7, kb_m6, kb_m5, kb_m4, kb_m3, kb_m2, kb_6, kb_7, kb_8, kb_9, kb_10, kb_12, kb_13, kb_16, kb_27, kb_31, kb_32, kb_43, kb_45, kb_48, kb_57, kb_60, kb_63, kb_81, kb_97, kb_99, kb_100, kb_120, kb_126, ks_m1000, ks_243, ks_255, ks_729, ks_1000, ks_2000, ks_2187, ks_6561, ks_9840, ks_9841, kl_0, kl_1]
      refine ⟨fun b7 => ?_, fun b7 => ?_⟩
      · try simp (disch := omega) only [nI_ltI, nI_leI, nI_eq, Nat.not_lt, Nat.not_le] at b7
        exfalso; omega
      · try simp (disch := omega) only [nI_ltI, nI_leI, nI_eq, Nat.not_lt, Nat.not_le] at b7
        refine hP 2 _ rfl _ _ _ _ _ _ ?_
        simp only [bX8_lengthOf_2, hrun, hx, hnth, hput, hok, hcat2, hldI, hldL, hldR, hpI, hpL, hpA, hpR, hp1, hpV, hrtI, hrtL, hrtR, hrtV, hpN, hck, hrI, hrB, hrL, hrA, hwI, hwA, hwB, hrN, hfk, hfs, hrF, hwF, hcl, hfty, hfit, hcmp, hnar, hres, hst, hacp, kz, kof, kn0, kn1, Bool.not_true, Bool.not_false, true_and, and_true, List.length_cons, List.length_nil, true_or, or_true, false_or, or_false, decide_true, decide_false, ne_eq, not_true_eq_false, not_false_eq_true, ki_0, ki_1, ki_2, ki_3, ki_4, ki_5, kb_m100, kb_m10, kb_m9, kb_m8, kb_m7, kb_m6, kb_m5, kb_m4, kb_m3, kb_m2, kb_6, kb_7, kb_8, kb_9, kb_10, kb_12, kb_13, kb_16, kb_27, kb_31, kb_32, kb_43, kb_45, kb_48, kb_57, kb_60, kb_63, kb_81, kb_97, kb_99, kb_100, kb_120, kb_126, ks_m1000, ks_243, ks_255, ks_729, ks_1000, ks_2000, ks_2187, ks_6561, ks_9840, ks_9841, kl_0, kl_1]
        refine ⟨fun b11 => ?_, fun b11 => ?_⟩
        · try simp (disch := omega) only [nI_ltI, nI_leI, nI_eq, Nat.not_lt, Nat.not_le] at b11
          exfalso; omega
        · try simp (disch := omega) only [nI_ltI, nI_leI, nI_eq, Nat.not_lt, Nat.not_le] at b11
          refine hP 3 _ rfl _ _ _ _ _ _ ?_
          simp only [bX8_lengthOf_3, hrun, hx, hnth, hput, hok, hcat2, hldI, hldL, hldR, hpI, hpL, hpA, hpR, hp1, hpV, hrtI, hrtL, hrtR, hrtV, hpN, hck, hrI, hrB, hrL, hrA, hwI, hwA, hwB, hrN, hfk, hfs, hrF, hwF, hcl, hfty, hfit, hcmp, hnar, hres, hst, hacp, kz, kof, kn0, kn1, Bool.not_true, Bool.not_false, true_and, and_true, List.length_cons, List.length_nil, true_or, or_true, false_or, or_false, decide_true, decide_false, ne_eq, not_true_eq_false, not_false_eq_true, ki_0, ki_1, ki_2, ki_3, ki_4, ki_5, kb_m100, kb_m10, kb_m9, kb_m8, kb_m7, kb_m6, kb_m5, kb_m4, kb_m3, kb_m2, kb_6, kb_7, kb_8, kb_9, kb_10, kb_12, kb_13, kb_16, kb_27, kb_31, kb_32, kb_43, kb_45, kb_48, kb_57, kb_60, kb_63, kb_81, kb_97, kb_99, kb_100, kb_120, kb_126, ks_m1000, ks_243, ks_255, ks_729, ks_1000, ks_2000, ks_2187, ks_6561, ks_9840, ks_9841, kl_0, kl_1]
          refine c_withoutLast hg (by omega) hv ?_
          simp only [hrun, hx, hnth, hput, hok, hcat2, hldI, hldL, hldR, hpI, hpL, hpA, hpR, hp1, hpV, hrtI, hrtL, hrtR, hrtV, hpN, hck, hrI, hrB, hrL, hrA, hwI, hwA, hwB, hrN, hfk, hfs, hrF, hwF, hcl, hfty, hfit, hcmp, hnar, hres, hst, hacp, kz, kof, kn0, kn1, Bool.not_true, Bool.not_false, true_and, and_true, List.length_cons, List.length_nil, true_or, or_true, false_or, or_false, decide_true, decide_false, ne_eq, not_true_eq_false, not_false_eq_true, ki_0, ki_1, ki_2, ki_3, ki_4, ki_5, kb_m100, kb_m10, kb_m9, kb_m8, kb_m7, kb_m6, kb_m5, kb_m4, kb_m3, kb_m2, kb_6, kb_7, kb_8, kb_9, kb_10, kb_12, kb_13, kb_16, kb_27, kb_31, kb_32, kb_43, kb_45, kb_48, kb_57, kb_60, kb_63, kb_81, kb_97, kb_99, kb_100, kb_120, kb_126, ks_m1000, ks_243, ks_255, ks_729, ks_1000, ks_2000, ks_2187, ks_6561, ks_9840, ks_9841, kl_0, kl_1]
          rw [nI_add]
          exact ih v.dropLast (k + 1) (by rw [List.length_dropLast]; omega) ⟨by rw [List.length_dropLast]; have := hv.1; omega, fun x hx => hv.2 x (List.dropLast_subset v hx)⟩ (by rw [List.length_dropLast]; omega)
  refine hP 0 _ rfl _ _ _ _ _ _ ?_
  simp only [bX8_lengthOf_0, hrun, hx, hnth, hput, hok, hcat2, hldI, hldL, hldR, hpI, hpL, hpA, hpR, hp1, hpV, hrtI, hrtL, hrtR, hrtV, hpN, hck, hrI, hrB, hrL, hrA, hwI, hwA, hwB, hrN, hfk, hfs, hrF, hwF, hcl, hfty, hfit, hcmp, hnar, hres, hst, hacp, kz, kof, kn0, kn1, Bool.not_true, Bool.not_false, true_and, and_true, List.length_cons, List.length_nil, true_or, or_true, false_or, or_false, decide_true, decide_false, ne_eq, not_true_eq_false, not_false_eq_true, ki_0, ki_1, ki_2, ki_3, ki_4, ki_5, kb_m100, kb_m10, kb_m9, kb_m8, kb_m7, kb_m6, kb_m5, kb_m4, kb_m3, kb_m2, kb_6, kb_7, kb_8, kb_9, kb_10, kb_12, kb_13, kb_16, kb_27, kb_31, kb_32, kb_43, kb_45, kb_48, kb_57, kb_60, kb_63, kb_81, kb_97, kb_99, kb_100, kb_120, kb_126, ks_m1000, ks_243, ks_255, ks_729, ks_1000, ks_2000, ks_2187, ks_6561, ks_9840, ks_9841, kl_0, kl_1]
  exact loop _ u 0 rfl hu (by omega)
set_option maxRecDepth 100000 in
set_option maxHeartbeats 4000000 in
theorem c_hasEvenLength (hg : hgo g) (hd : 3 ≤ d) {u : List Nat} (hu : mW u)  (h : Q (some (.int (if u.length % 2 = 0 then nI 1 else nI 0))) N c s w) : Γ g d yX8_hasEvenLength [.int (nI (menc u))] N c s w Q := by
  refine Γ.intro0 hg kX8_hasEvenLength (by omega) (Nat.le_of_ble_eq_true rfl) (fun P hP => ?_)
  show P N 0 0 w 0 [some (.int (nI (menc u)))] []
  have h7 := hu.1
  refine hP 0 _ rfl _ _ _ _ _ _ ?_
  simp only [bX8_hasEvenLength_0, hrun, hx, hnth, hput, hok, hcat2, hldI, hldL, hldR, hpI, hpL, hpA, hpR, hp1, hpV, hrtI, hrtL, hrtR, hrtV, hpN, hck, hrI, hrB, hrL, hrA, hwI, hwA, hwB, hrN, hfk, hfs, hrF, hwF, hcl, hfty, hfit, hcmp, hnar, hres, hst, hacp, kz, kof, kn0, kn1, Bool.not_true, Bool.not_false, true_and, and_true, List.length_cons, List.length_nil, true_or, or_true, false_or, or_false, decide_true, decide_false, ne_eq, not_true_eq_false, not_false_eq_true, ki_0, ki_1, ki_2, ki_3, ki_4, ki_5, kb_m100, kb_m10, kb_m9, kb_m8, kb_m7, kb_m6, kb_m5, kb_m4, kb_m3, kb_m2, kb_6, kb_7, kb_8, kb_9, kb_10, kb_12, kb_13, kb_16, kb_27, kb_31, kb_32, kb_43, kb_45, kb_48, kb_57, kb_60, kb_63, kb_81, kb_97, kb_99, kb_100, kb_120, kb_126, ks_m1000, ks_243, ks_255, ks_729, ks_1000, ks_2000, ks_2187, ks_6561, ks_9840, ks_9841, kl_0, kl_1]
  refine c_lengthOf hg (by omega) hu ?_
  simp only [hrun, hx, hnth, hput, hok, hcat2, hldI, hldL, hldR, hpI, hpL, hpA, hpR, hp1, hpV, hrtI, hrtL, hrtR, hrtV, hpN, hck, hrI, hrB, hrL, hrA, hwI, hwA, hwB, hrN, hfk, hfs, hrF, hwF, hcl, hfty, hfit, hcmp, hnar, hres, hst, hacp, kz, kof, kn0, kn1, Bool.not_true, Bool.not_false, true_and, and_true, List.length_cons, List.length_nil, true_or, or_true, false_or, or_false, decide_true, decide_false, ne_eq, not_true_eq_false, not_false_eq_true, ki_0, ki_1, ki_2, ki_3, ki_4, ki_5, kb_m100, kb_m10, kb_m9, kb_m8, kb_m7, kb_m6, kb_m5, kb_m4, kb_m3, kb_m2, kb_6, kb_7, kb_8, kb_9, kb_10, kb_12, kb_13, kb_16, kb_27, kb_31, kb_32, kb_43, kb_45, kb_48, kb_57, kb_60, kb_63, kb_81, kb_97, kb_99, kb_100, kb_120, kb_126, ks_m1000, ks_243, ks_255, ks_729, ks_1000, ks_2000, ks_2187, ks_6561, ks_9840, ks_9841, kl_0, kl_1]
  refine ⟨by decide, ?_⟩
  refine ⟨fun b6 => ?_, fun b6 => ?_⟩
  · skip
    refine hP 2 _ rfl _ _ _ _ _ _ ?_
    simp only [bX8_hasEvenLength_2, hrun, hx, hnth, hput, hok, hcat2, hldI, hldL, hldR, hpI, hpL, hpA, hpR, hp1, hpV, hrtI, hrtL, hrtR, hrtV, hpN, hck, hrI, hrB, hrL, hrA, hwI, hwA, hwB, hrN, hfk, hfs, hrF, hwF, hcl, hfty, hfit, hcmp, hnar, hres, hst, hacp, kz, kof, kn0, kn1, Bool.not_true, Bool.not_false, true_and, and_true, List.length_cons, List.length_nil, true_or, or_true, false_or, or_false, decide_true, decide_false, ne_eq, not_true_eq_false, not_false_eq_true, ki_0, ki_1, ki_2, ki_3, ki_4, ki_5, kb_m100, kb_m10, kb_m9, kb_m8, kb_m7, kb_m6, kb_m5, kb_m4, kb_m3, kb_m2, kb_6, kb_7, kb_8, kb_9, kb_10, kb_12, kb_13, kb_16, kb_27, kb_31, kb_32, kb_43, kb_45, kb_48, kb_57, kb_60, kb_63, kb_81, kb_97, kb_99, kb_100, kb_120, kb_126, ks_m1000, ks_243, ks_255, ks_729, ks_1000, ks_2000, ks_2187, ks_6561, ks_9840, ks_9841, kl_0, kl_1]
    refine hP 3 _ rfl _ _ _ _ _ _ ?_
    simp only [bX8_hasEvenLength_3, hrun, hx, hnth, hput, hok, hcat2, hldI, hldL, hldR, hpI, hpL, hpA, hpR, hp1, hpV, hrtI, hrtL, hrtR, hrtV, hpN, hck, hrI, hrB, hrL, hrA, hwI, hwA, hwB, hrN, hfk, hfs, hrF, hwF, hcl, hfty, hfit, hcmp, hnar, hres, hst, hacp, kz, kof, kn0, kn1, Bool.not_true, Bool.not_false, true_and, and_true, List.length_cons, List.length_nil, true_or, or_true, false_or, or_false, decide_true, decide_false, ne_eq, not_true_eq_false, not_false_eq_true, ki_0, ki_1, ki_2, ki_3, ki_4, ki_5, kb_m100, kb_m10, kb_m9, kb_m8, kb_m7, kb_m6, kb_m5, kb_m4, kb_m3, kb_m2, kb_6, kb_7, kb_8, kb_9, kb_10, kb_12, kb_13, kb_16, kb_27, kb_31, kb_32, kb_43, kb_45, kb_48, kb_57, kb_60, kb_63, kb_81, kb_97, kb_99, kb_100, kb_120, kb_126, ks_m1000, ks_243, ks_255, ks_729, ks_1000, ks_2000, ks_2187, ks_6561, ks_9840, ks_9841, kl_0, kl_1]
    rw [pk_rem (by omega) (by omega) (by omega), nI_eq (by omega) (by omega)] at b6
    rwa [if_neg b6] at h
  · skip
    refine hP 1 _ rfl _ _ _ _ _ _ ?_
    simp only [bX8_hasEvenLength_1, hrun, hx, hnth, hput, hok, hcat2, hldI, hldL, hldR, hpI, hpL, hpA, hpR, hp1, hpV, hrtI, hrtL, hrtR, hrtV, hpN, hck, hrI, hrB, hrL, hrA, hwI, hwA, hwB, hrN, hfk, hfs, hrF, hwF, hcl, hfty, hfit, hcmp, hnar, hres, hst, hacp, kz, kof, kn0, kn1, Bool.not_true, Bool.not_false, true_and, and_true, List.length_cons, List.length_nil, true_or, or_true, false_or, or_false, decide_true, decide_false, ne_eq, not_true_eq_false, not_false_eq_true, ki_0, ki_1, ki_2, ki_3, ki_4, ki_5, kb_m100, kb_m10, kb_m9, kb_m8, kb_m7, kb_m6, kb_m5, kb_m4, kb_m3, kb_m2, kb_6, kb_7, kb_8, kb_9, kb_10, kb_12, kb_13, kb_16, kb_27, kb_31, kb_32, kb_43, kb_45, kb_48, kb_57, kb_60, kb_63, kb_81, kb_97, kb_99, kb_100, kb_120, kb_126, ks_m1000, ks_243, ks_255, ks_729, ks_1000, ks_2000, ks_2187, ks_6561, ks_9840, ks_9841, kl_0, kl_1]
    refine hP 3 _ rfl _ _ _ _ _ _ ?_
    simp only [bX8_hasEvenLength_3, hrun, hx, hnth, hput, hok, hcat2, hldI, hldL, hldR, hpI, hpL, hpA, hpR, hp1, hpV, hrtI, hrtL, hrtR, hrtV, hpN, hck, hrI, hrB, hrL, hrA, hwI, hwA, hwB, hrN, hfk, hfs, hrF, hwF, hcl, hfty, hfit, hcmp, hnar, hres, hst, hacp, kz, kof, kn0, kn1, Bool.not_true, Bool.not_false, true_and, and_true, List.length_cons, List.length_nil, true_or, or_true, false_or, or_false, decide_true, decide_false, ne_eq, not_true_eq_false, not_false_eq_true, ki_0, ki_1, ki_2, ki_3, ki_4, ki_5, kb_m100, kb_m10, kb_m9, kb_m8, kb_m7, kb_m6, kb_m5, kb_m4, kb_m3, kb_m2, kb_6, kb_7, kb_8, kb_9, kb_10, kb_12, kb_13, kb_16, kb_27, kb_31, kb_32, kb_43, kb_45, kb_48, kb_57, kb_60, kb_63, kb_81, kb_97, kb_99, kb_100, kb_120, kb_126, ks_m1000, ks_243, ks_255, ks_729, ks_1000, ks_2000, ks_2187, ks_6561, ks_9840, ks_9841, kl_0, kl_1]
    rw [pk_rem (by omega) (by omega) (by omega), nI_eq (by omega) (by omega)] at b6
    rwa [if_pos b6] at h
theorem nI_dec (n : Nat) : nI (n + 1) + Int32.ofInt (-1) = nI n := by
  have : Int32.ofInt (-1) = -1 := by decide
  rw [this]
  exact pk_m1 n
theorem mrev_snoc (u : List Nat) (x : Nat) : (u ++ [x]).reverse = x :: u.reverse := by simp
theorem mW.sub {u v : List Nat} (h : mW u) (hl : v.length ≤ u.length) (hm : ∀ x ∈ v, x ∈ u) : mW v := ⟨Nat.le_trans hl h.1, fun x hx => h.2 x (hm x hx)⟩
theorem mW.dl {u : List Nat} (h : mW u) : mW u.dropLast := h.sub (by rw [List.length_dropLast]; omega) (fun _ hx => List.dropLast_subset u hx)
set_option maxRecDepth 100000 in
set_option maxHeartbeats 4000000 in
theorem c_reversed (hg : hgo g) (hd : 3 ≤ d) {u : List Nat} (hu : mW u)  (h : Q (some (.int (nI (menc u.reverse)))) N c s w) : Γ g d yX8_reversed [.int (nI (menc u))] N c s w Q := by
  refine Γ.intro0 hg kX8_reversed (by omega) (Nat.le_of_ble_eq_true rfl) (fun P hP => ?_)
  show P N 0 0 w 0 [some (.int (nI (menc u))), none, none, none] []
  have loop : ∀ (n : Nat) (v r : List Nat), v.length = n → v ++ r = u → P N 0 0 w 9 [some (.int (nI (menc u))), some (.int (nI (menc v))), some (.int (nI (menc r.reverse))), some (.int (nI n))] [] := by
    intro n
    induction n with
    | zero =>
      intro v r hn hv
      have hv0 : v = [] := List.eq_nil_of_length_eq_zero hn
      subst hv0
      have hv : r = u := hv
      subst hv
      refine hP 1 _ rfl _ _ _ _ _ _ ?_
      simp only [bX8_reversed_1, hrun, hx, hnth, hput, hok, hcat2, hldI, hldL, hldR, hpI, hpL, hpA, hpR, hp1, hpV, hrtI, hrtL, hrtR, hrtV, hpN, hck, hrI, hrB, hrL, hrA, hwI, hwA, hwB, hrN, hfk, hfs, hrF, hwF, hcl, hfty, hfit, hcmp, hnar, hres, hst, hacp, kz, kof, kn0, kn1, Bool.not_true, Bool.not_false, true_and, and_true, List.length_cons, List.length_nil, true_or, or_true, false_or, or_false, decide_true, decide_false, ne_eq, not_true_eq_false, not_false_eq_true, ki_0, ki_1, ki_2, ki_3, ki_4, ki_5, kb_m100, kb_m10, kb_m9, kb_m8, kb_m7, kb_m6, kb_m5, kb_m4, kb_m3, kb_m2, kb_6, kb_7, kb_8, kb_9, kb_10, kb_12, kb_13, kb_16, kb_27, kb_31, kb_32, kb_43, kb_45, kb_48, kb_57, kb_60, kb_63, kb_81, kb_97, kb_99, kb_100, kb_120, kb_126, ks_m1000, ks_243, ks_255, ks_729, ks_1000, ks_2000, ks_2187, ks_6561, ks_9840, ks_9841, kl_0, kl_1]
      refine ⟨fun b10 => ?_, fun b10 => ?_⟩
      · try simp (disch := omega) only [nI_ltI, nI_leI, nI_eq, Nat.not_lt, Nat.not_le] at b10
        refine hP 3 _ rfl _ _ _ _ _ _ ?_
        simp only [bX8_reversed_3, hrun, hx, hnth, hput, hok, hcat2, hldI, hldL, hldR, hpI, hpL, hpA, hpR, hp1, hpV, hrtI, hrtL, hrtR, hrtV, hpN, hck, hrI, hrB, hrL, hrA, hwI, hwA, hwB, hrN, hfk, hfs, hrF, hwF, hcl, hfty, hfit, hcmp, hnar, hres, hst, hacp, kz, kof, kn0, kn1, Bool.not_true, Bool.not_false, true_and, and_true, List.length_cons, List.length_nil, true_or, or_true, false_or, or_false, decide_true, decide_false, ne_eq, not_true_eq_false, not_false_eq_true, ki_0, ki_1, ki_2, ki_3, ki_4, ki_5, kb_m100, kb_m10, kb_m9, kb_m8, kb_m7, kb_m6, kb_m5, kb_m4, kb_m3, kb_m2, kb_6, kb_7, kb_8, kb_9, kb_10, kb_12, kb_13, kb_16, kb_27, kb_31, kb_32, kb_43, kb_45, kb_48, kb_57, kb_60, kb_63, kb_81, kb_97, kb_99, kb_100, kb_120, kb_126, ks_m1000, ks_243, ks_255, ks_729, ks_1000, ks_2000, ks_2187, ks_6561, ks_9840, ks_9841, kl_0, kl_1]
        exact h
      · try simp (disch := omega) only [nI_ltI, nI_leI, nI_eq, Nat.not_lt, Nat.not_le] at b10
        exfalso; omega
    | succ n ih =>
      intro v r hn hv
      rcases mlist_snoc v with rfl | ⟨v', x, rfl⟩
      · cases hn
      have hu8 := hu.1
      have hn' : v'.length = n := by simpa using hn
      have hlen : n + 1 ≤ u.length := by rw [← hv]; simp; omega
      have hW : mW (v' ++ [x]) := hu.sub (by rw [← hv]; simp) (fun y hy => by rw [← hv]; exact List.mem_append_left _ hy)
      refine hP 1 _ rfl _ _ _ _ _ _ ?_
      simp only [bX8_reversed_1, hrun, hx, hnth, hput, hok, hcat2, hldI, hldL, hldR, hpI, hpL, hpA, hpR, hp1, hpV, hrtI, hrtL, hrtR, hrtV, hpN, hck, hrI, hrB, hrL, hrA, hwI, hwA, hwB, hrN, hfk, hfs, hrF, hwF, hcl, hfty, hfit, hcmp, hnar, hres, hst, hacp, kz, kof, kn0, kn1, Bool.not_true, Bool.not_false, true_and, and_true, List.length_cons, List.length_nil, true_or, or_true, false_or, or_false, decide_true, decide_false, ne_eq, not_true_eq_false, not_false_eq_true, ki_0, ki_1, ki_2, ki_3, ki_4, ki_5, kb_m100, kb_m10, kb_m9, kb_m8, kb_m7, kb_m6, kb_m5, kb_m4, kb_m3, kb_m2, kb_6, kb_7, kb_8, kb_9, kb_10, kb_12, kb_13, kb_16, kb_27, kb_31, kb_32, kb_43, kb_45, kb_48, kb_57, kb_60, kb_63, kb_81, kb_97, kb_99, kb_100, kb_120, kb_126, ks_m1000, ks_243, ks_255, ks_729, ks_1000, ks_2000, ks_2187, ks_6561, ks_9840, ks_9841, kl_0, kl_1]
      refine ⟨fun b10 => ?_, fun b10 => ?_⟩
      · try simp (disch := omega) only [nI_ltI, nI_leI, nI_eq, Nat.not_lt, Nat.not_le] at b10
        exfalso; omega
      · try simp (disch := omega) only [nI_ltI, nI_leI, nI_eq, Nat.not_lt, Nat.not_le] at b10
        refine hP 2 _ rfl _ _ _ _ _ _ ?_
        simp only [bX8_reversed_2, hrun, hx, hnth, hput, hok, hcat2, hldI, hldL, hldR, hpI, hpL, hpA, hpR, hp1, hpV, hrtI, hrtL, hrtR, hrtV, hpN, hck, hrI, hrB, hrL, hrA, hwI, hwA, hwB, hrN, hfk, hfs, hrF, hwF, hcl, hfty, hfit, hcmp, hnar, hres, hst, hacp, kz, kof, kn0, kn1, Bool.not_true, Bool.not_false, true_and, and_true, List.length_cons, List.length_nil, true_or, or_true, false_or, or_false, decide_true, decide_false, ne_eq, not_true_eq_false, not_false_eq_true, ki_0, ki_1, ki_2, ki_3, ki_4, ki_5, kb_m100, kb_m10, kb_m9, kb_m8, kb_m7, kb_m6, kb_m5, kb_m4, kb_m3, kb_m2, kb_6, kb_7, kb_8, kb_9, kb_10, kb_12, kb_13, kb_16, kb_27, kb_31, kb_32, kb_43, kb_45, kb_48, kb_57, kb_60, kb_63, kb_81, kb_97, kb_99, kb_100, kb_120, kb_126, ks_m1000, ks_243, ks_255, ks_729, ks_1000, ks_2000, ks_2187, ks_6561, ks_9840, ks_9841, kl_0, kl_1]
        refine c_lastLetter hg (by omega) hW ?_
        simp only [hrun, hx, hnth, hput, hok, hcat2, hldI, hldL, hldR, hpI, hpL, hpA, hpR, hp1, hpV, hrtI, hrtL, hrtR, hrtV, hpN, hck, hrI, hrB, hrL, hrA, hwI, hwA, hwB, hrN, hfk, hfs, hrF, hwF, hcl, hfty, hfit, hcmp, hnar, hres, hst, hacp, kz, kof, kn0, kn1, Bool.not_true, Bool.not_false, true_and, and_true, List.length_cons, List.length_nil, true_or, or_true, false_or, or_false, decide_true, decide_false, ne_eq, not_true_eq_false, not_false_eq_true, ki_0, ki_1, ki_2, ki_3, ki_4, ki_5, kb_m100, kb_m10, kb_m9, kb_m8, kb_m7, kb_m6, kb_m5, kb_m4, kb_m3, kb_m2, kb_6, kb_7, kb_8, kb_9, kb_10, kb_12, kb_13, kb_16, kb_27, kb_31, kb_32, kb_43, kb_45, kb_48, kb_57, kb_60, kb_63, kb_81, kb_97, kb_99, kb_100, kb_120, kb_126, ks_m1000, ks_243, ks_255, ks_729, ks_1000, ks_2000, ks_2187, ks_6561, ks_9840, ks_9841, kl_0, kl_1]
        refine c_appended hg (by omega) ?_
        simp only [hrun, hx, hnth, hput, hok, hcat2, hldI, hldL, hldR, hpI, hpL, hpA, hpR, hp1, hpV, hrtI, hrtL, hrtR, hrtV, hpN, hck, hrI, hrB, hrL, hrA, hwI, hwA, hwB, hrN, hfk, hfs, hrF, hwF, hcl, hfty, hfit, hcmp, hnar, hres, hst, hacp, kz, kof, kn0, kn1, Bool.not_true, Bool.not_false, true_and, and_true, List.length_cons, List.length_nil, true_or, or_true, false_or, or_false, decide_true, decide_false, ne_eq, not_true_eq_false, not_false_eq_true, ki_0, ki_1, ki_2, ki_3, ki_4, ki_5, kb_m100, kb_m10, kb_m9, kb_m8, kb_m7, kb_m6, kb_m5, kb_m4, kb_m3, kb_m2, kb_6, kb_7, kb_8, kb_9, kb_10, kb_12, kb_13, kb_16, kb_27, kb_31, kb_32, kb_43, kb_45, kb_48, kb_57, kb_60, kb_63, kb_81, kb_97, kb_99, kb_100, kb_120, kb_126, ks_m1000, ks_243, ks_255, ks_729, ks_1000, ks_2000, ks_2187, ks_6561, ks_9840, ks_9841, kl_0, kl_1]
        refine c_withoutLast hg (by omega) hW ?_
        simp only [hrun, hx, hnth, hput, hok, hcat2, hldI, hldL, hldR, hpI, hpL, hpA, hpR, hp1, hpV, hrtI, hrtL, hrtR, hrtV, hpN, hck, hrI, hrB, hrL, hrA, hwI, hwA, hwB, hrN, hfk, hfs, hrF, hwF, hcl, hfty, hfit, hcmp, hnar, hres, hst, hacp, kz, kof, kn0, kn1, Bool.not_true, Bool.not_false, true_and, and_true, List.length_cons, List.length_nil, true_or, or_true, false_or, or_false, decide_true, decide_false, ne_eq, not_true_eq_false, not_false_eq_true, ki_0, ki_1, ki_2, ki_3, ki_4, ki_5, kb_m100, kb_m10, kb_m9, kb_m8, kb_m7, kb_m6, kb_m5, kb_m4, kb_m3, kb_m2, kb_6, kb_7, kb_8, kb_9, kb_10, kb_12, kb_13, kb_16, kb_27, kb_31, kb_32, kb_43, kb_45, kb_48, kb_57, kb_60, kb_63, kb_81, kb_97, kb_99, kb_100, kb_120, kb_126, ks_m1000, ks_243, ks_255, ks_729, ks_1000, ks_2000, ks_2187, ks_6561, ks_9840, ks_9841, kl_0, kl_1]
        rw [List.dropLast_concat, nI_dec]
        have h9 := ih v' (x :: r) hn' (by rw [← hv]; simp)
        rw [List.reverse_cons] at h9
        exact h9
  refine hP 0 _ rfl _ _ _ _ _ _ ?_
  simp only [bX8_reversed_0, hrun, hx, hnth, hput, hok, hcat2, hldI, hldL, hldR, hpI, hpL, hpA, hpR, hp1, hpV, hrtI, hrtL, hrtR, hrtV, hpN, hck, hrI, hrB, hrL, hrA, hwI, hwA, hwB, hrN, hfk, hfs, hrF, hwF, hcl, hfty, hfit, hcmp, hnar, hres, hst, hacp, kz, kof, kn0, kn1, Bool.not_true, Bool.not_false, true_and, and_true, List.length_cons, List.length_nil, true_or, or_true, false_or, or_false, decide_true, decide_false, ne_eq, not_true_eq_false, not_false_eq_true, ki_0, ki_1, ki_2, ki_3, ki_4, ki_5, kb_m100, kb_m10, kb_m9, kb_m8, kb_m7, kb_m6, kb_m5, kb_m4, kb_m3, kb_m2, kb_6, kb_7, kb_8, kb_9, kb_10, kb_12, kb_13, kb_16, kb_27, kb_31, kb_32, kb_43, kb_45, kb_48, kb_57, kb_60, kb_63, kb_81, kb_97, kb_99, kb_100, kb_120, kb_126, ks_m1000, ks_243, ks_255, ks_729, ks_1000, ks_2000, ks_2187, ks_6561, ks_9840, ks_9841, kl_0, kl_1]
  refine c_lengthOf hg (by omega) hu ?_
  simp only [hrun, hx, hnth, hput, hok, hcat2, hldI, hldL, hldR, hpI, hpL, hpA, hpR, hp1, hpV, hrtI, hrtL, hrtR, hrtV, hpN, hck, hrI, hrB, hrL, hrA, hwI, hwA, hwB, hrN, hfk, hfs, hrF, hwF, hcl, hfty, hfit, hcmp, hnar, hres, hst, hacp, kz, kof, kn0, kn1, Bool.not_true, Bool.not_false, true_and, and_true, List.length_cons, List.length_nil, true_or, or_true, false_or, or_false, decide_true, decide_false, ne_eq, not_true_eq_false, not_false_eq_true, ki_0, ki_1, ki_2, ki_3, ki_4, ki_5, kb_m100, kb_m10, kb_m9, kb_m8, kb_m7, kb_m6, kb_m5, kb_m4, kb_m3, kb_m2, kb_6, kb_7, kb_8, kb_9, kb_10, kb_12, kb_13, kb_16, kb_27, kb_31, kb_32, kb_43, kb_45, kb_48, kb_57, kb_60, kb_63, kb_81, kb_97, kb_99, kb_100, kb_120, kb_126, ks_m1000, ks_243, ks_255, ks_729, ks_1000, ks_2000, ks_2187, ks_6561, ks_9840, ks_9841, kl_0, kl_1]
  exact loop _ u [] rfl (by simp)
/-- the powers that the class keeps -/
def mpow (k : Nat) : Int32 := [1, 3, 9, 27, 81, 243, 729, 2187, 6561].getD k 0
theorem mpow_eq : ∀ k, k ≤ 8 → mpow k = nI (3 ^ k) := by decide +kernel
set_option maxRecDepth 100000 in
set_option maxHeartbeats 4000000 in
theorem c_powerOf (hg : hgo g) (hd : 1 ≤ d) {k : Nat} (hk : k ≤ 8) (hw : w 1000001 = .inl (10, 9, .inl mpow))  (h : Q (some (.int (nI (3 ^ k)))) N c s w) : Γ g d yX8_powerOf [.int (nI k)] N c s w Q := by
  refine Γ.intro0 hg kX8_powerOf (by omega) (Nat.le_of_ble_eq_true rfl) (fun P hP => ?_)
  show P N 0 0 w 0 [some (.int (nI k))] []
  refine hP 0 _ rfl _ _ _ _ _ _ ?_
  simp only [bX8_powerOf_0, hrun, hx, hnth, hput, hok, hcat2, hldI, hldL, hldR, hpI, hpL, hpA, hpR, hp1, hpV, hrtI, hrtL, hrtR, hrtV, hpN, hck, hrI, hrB, hrL, hrA, hwI, hwA, hwB, hrN, hfk, hfs, hrF, hwF, hcl, hfty, hfit, hcmp, hnar, hres, hst, hacp, kz, kof, kn0, kn1, Bool.not_true, Bool.not_false, true_and, and_true, List.length_cons, List.length_nil, true_or, or_true, false_or, or_false, decide_true, decide_false, ne_eq, not_true_eq_false, not_false_eq_true, ki_0, ki_1, ki_2, ki_3, ki_4, ki_5, kb_m100, kb_m10, kb_m9, kb_m8, kb_m7, kb_m6, kb_m5, kb_m4, kb_m3, kb_m2, kb_6, kb_7, kb_8, kb_9, kb_10, kb_12, kb_13, kb_16, kb_27, kb_31, kb_32, kb_43, kb_45, kb_48, kb_57, kb_60, kb_63, kb_81, kb_97, kb_99, kb_100, kb_120, kb_126, ks_m1000, ks_243, ks_255, ks_729, ks_1000, ks_2000, ks_2187, ks_6561, ks_9840, ks_9841, kl_0, kl_1, hw]
  refine ⟨fun b1 => ?_, fun b1 => ?_⟩
  · try simp (disch := omega) only [nI_ltI, nI_leI, nI_eq, Nat.not_lt, Nat.not_le] at b1
    exfalso; omega
  · try simp (disch := omega) only [nI_ltI, nI_leI, nI_eq, Nat.not_lt, Nat.not_le] at b1
    refine hP 1 _ rfl _ _ _ _ _ _ ?_
    simp only [bX8_powerOf_1, hrun, hx, hnth, hput, hok, hcat2, hldI, hldL, hldR, hpI, hpL, hpA, hpR, hp1, hpV, hrtI, hrtL, hrtR, hrtV, hpN, hck, hrI, hrB, hrL, hrA, hwI, hwA, hwB, hrN, hfk, hfs, hrF, hwF, hcl, hfty, hfit, hcmp, hnar, hres, hst, hacp, kz, kof, kn0, kn1, Bool.not_true, Bool.not_false, true_and, and_true, List.length_cons, List.length_nil, true_or, or_true, false_or, or_false, decide_true, decide_false, ne_eq, not_true_eq_false, not_false_eq_true, ki_0, ki_1, ki_2, ki_3, ki_4, ki_5, kb_m100, kb_m10, kb_m9, kb_m8, kb_m7, kb_m6, kb_m5, kb_m4, kb_m3, kb_m2, kb_6, kb_7, kb_8, kb_9, kb_10, kb_12, kb_13, kb_16, kb_27, kb_31, kb_32, kb_43, kb_45, kb_48, kb_57, kb_60, kb_63, kb_81, kb_97, kb_99, kb_100, kb_120, kb_126, ks_m1000, ks_243, ks_255, ks_729, ks_1000, ks_2000, ks_2187, ks_6561, ks_9840, ks_9841, kl_0, kl_1, hw]
    refine ⟨fun b9 => ?_, fun b9 => ?_⟩
    · try simp (disch := omega) only [nI_ltI, nI_leI, nI_eq, Nat.not_lt, Nat.not_le] at b9
      exfalso; omega
    · try simp (disch := omega) only [nI_ltI, nI_leI, nI_eq, Nat.not_lt, Nat.not_le] at b9
      refine hP 2 _ rfl _ _ _ _ _ _ ?_
      simp only [bX8_powerOf_2, hrun, hx, hnth, hput, hok, hcat2, hldI, hldL, hldR, hpI, hpL, hpA, hpR, hp1, hpV, hrtI, hrtL, hrtR, hrtV, hpN, hck, hrI, hrB, hrL, hrA, hwI, hwA, hwB, hrN, hfk, hfs, hrF, hwF, hcl, hfty, hfit, hcmp, hnar, hres, hst, hacp, kz, kof, kn0, kn1, Bool.not_true, Bool.not_false, true_and, and_true, List.length_cons, List.length_nil, true_or, or_true, false_or, or_false, decide_true, decide_false, ne_eq, not_true_eq_false, not_false_eq_true, ki_0, ki_1, ki_2, ki_3, ki_4, ki_5, kb_m100, kb_m10, kb_m9, kb_m8, kb_m7, kb_m6, kb_m5, kb_m4, kb_m3, kb_m2, kb_6, kb_7, kb_8, kb_9, kb_10, kb_12, kb_13, kb_16, kb_27, kb_31, kb_32, kb_43, kb_45, kb_48, kb_57, kb_60, kb_63, kb_81, kb_97, kb_99, kb_100, kb_120, kb_126, ks_m1000, ks_243, ks_255, ks_729, ks_1000, ks_2000, ks_2187, ks_6561, ks_9840, ks_9841, kl_0, kl_1, hw]
      refine ⟨vp_in_nI (by omega) (by omega), ?_⟩
      refine hP 4 _ rfl _ _ _ _ _ _ ?_
      simp only [bX8_powerOf_4, hrun, hx, hnth, hput, hok, hcat2, hldI, hldL, hldR, hpI, hpL, hpA, hpR, hp1, hpV, hrtI, hrtL, hrtR, hrtV, hpN, hck, hrI, hrB, hrL, hrA, hwI, hwA, hwB, hrN, hfk, hfs, hrF, hwF, hcl, hfty, hfit, hcmp, hnar, hres, hst, hacp, kz, kof, kn0, kn1, Bool.not_true, Bool.not_false, true_and, and_true, List.length_cons, List.length_nil, true_or, or_true, false_or, or_false, decide_true, decide_false, ne_eq, not_true_eq_false, not_false_eq_true, ki_0, ki_1, ki_2, ki_3, ki_4, ki_5, kb_m100, kb_m10, kb_m9, kb_m8, kb_m7, kb_m6, kb_m5, kb_m4, kb_m3, kb_m2, kb_6, kb_7, kb_8, kb_9, kb_10, kb_12, kb_13, kb_16, kb_27, kb_31, kb_32, kb_43, kb_45, kb_48, kb_57, kb_60, kb_63, kb_81, kb_97, kb_99, kb_100, kb_120, kb_126, ks_m1000, ks_243, ks_255, ks_729, ks_1000, ks_2000, ks_2187, ks_6561, ks_9840, ks_9841, kl_0, kl_1, hw]
      rwa [nI_clamp (by omega), mpow_eq k hk]
theorem menc_app (a b : List Nat) : menc (a ++ b) = menc a * 3 ^ b.length + menc b := by
  have key : ∀ (n : Nat) (b : List Nat), b.length = n → menc (a ++ b) = menc a * 3 ^ b.length + menc b := by
    intro n
    induction n with
    | zero =>
      intro b hb
      have : b = [] := List.eq_nil_of_length_eq_zero hb
      subst this
      simp [menc_nil]
    | succ n ih =>
      intro b hb
      rcases mlist_snoc b with rfl | ⟨b', x, rfl⟩
      · cases hb
      rw [← List.append_assoc, menc_snoc, menc_snoc, ih b' (by simpa using hb), List.length_append, List.length_singleton, Nat.pow_succ]
      generalize menc a * 3 ^ b'.length = z at *
      rw [← Nat.mul_assoc]
      have e : menc a * 3 ^ b'.length * 3 = 3 * (menc a * 3 ^ b'.length) := Nat.mul_comm _ _
      rw [e]
      generalize menc a * 3 ^ b'.length = z at *
      omega
  exact key _ b rfl
theorem mW.app {a b : List Nat} (ha : mW a) (hb : mW b) (h : a.length + b.length ≤ 8) : mW (a ++ b) := ⟨by simpa using h, fun x hx => (List.mem_append.mp hx).elim (ha.2 x) (hb.2 x)⟩
set_option maxRecDepth 100000 in
set_option maxHeartbeats 4000000 in
theorem c_concatenated (hg : hgo g) (hd : 3 ≤ d) {a b : List Nat} (ha : mW a) (hb : mW b) (hab : a.length + b.length ≤ 8) (hw : w 1000001 = .inl (10, 9, .inl mpow))  (h : Q (some (.int (nI (menc (a ++ b))))) N c s w) : Γ g d yX8_concatenated [.int (nI (menc a)), .int (nI (menc b))] N c s w Q := by
  refine Γ.intro0 hg kX8_concatenated (by omega) (Nat.le_of_ble_eq_true rfl) (fun P hP => ?_)
  show P N 0 0 w 0 [some (.int (nI (menc a))), some (.int (nI (menc b)))] []
  refine hP 0 _ rfl _ _ _ _ _ _ ?_
  simp only [bX8_concatenated_0, hrun, hx, hnth, hput, hok, hcat2, hldI, hldL, hldR, hpI, hpL, hpA, hpR, hp1, hpV, hrtI, hrtL, hrtR, hrtV, hpN, hck, hrI, hrB, hrL, hrA, hwI, hwA, hwB, hrN, hfk, hfs, hrF, hwF, hcl, hfty, hfit, hcmp, hnar, hres, hst, hacp, kz, kof, kn0, kn1, Bool.not_true, Bool.not_false, true_and, and_true, List.length_cons, List.length_nil, true_or, or_true, false_or, or_false, decide_true, decide_false, ne_eq, not_true_eq_false, not_false_eq_true, ki_0, ki_1, ki_2, ki_3, ki_4, ki_5, kb_m100, kb_m10, kb_m9, kb_m8, kb_m7, kb_m6, kb_m5, kb_m4, kb_m3, kb_m2, kb_6, kb_7, kb_8, kb_9, kb_10, kb_12, kb_13, kb_16, kb_27, kb_31, kb_32, kb_43, kb_45, kb_48, kb_57, kb_60, kb_63, kb_81, kb_97, kb_99, kb_100, kb_120, kb_126, ks_m1000, ks_243, ks_255, ks_729, ks_1000, ks_2000, ks_2187, ks_6561, ks_9840, ks_9841, kl_0, kl_1]
  refine c_lengthOf hg (by omega) hb ?_
  simp only [hrun, hx, hnth, hput, hok, hcat2, hldI, hldL, hldR, hpI, hpL, hpA, hpR, hp1, hpV, hrtI, hrtL, hrtR, hrtV, hpN, hck, hrI, hrB, hrL, hrA, hwI, hwA, hwB, hrN, hfk, hfs, hrF, hwF, hcl, hfty, hfit, hcmp, hnar, hres, hst, hacp, kz, kof, kn0, kn1, Bool.not_true, Bool.not_false, true_and, and_true, List.length_cons, List.length_nil, true_or, or_true, false_or, or_false, decide_true, decide_false, ne_eq, not_true_eq_false, not_false_eq_true, ki_0, ki_1, ki_2, ki_3, ki_4, ki_5, kb_m100, kb_m10, kb_m9, kb_m8, kb_m7, kb_m6, kb_m5, kb_m4, kb_m3, kb_m2, kb_6, kb_7, kb_8, kb_9, kb_10, kb_12, kb_13, kb_16, kb_27, kb_31, kb_32, kb_43, kb_45, kb_48, kb_57, kb_60, kb_63, kb_81, kb_97, kb_99, kb_100, kb_120, kb_126, ks_m1000, ks_243, ks_255, ks_729, ks_1000, ks_2000, ks_2187, ks_6561, ks_9840, ks_9841, kl_0, kl_1]
  refine c_powerOf hg (by omega) hb.1 hw ?_
  simp only [hrun, hx, hnth, hput, hok, hcat2, hldI, hldL, hldR, hpI, hpL, hpA, hpR, hp1, hpV, hrtI, hrtL, hrtR, hrtV, hpN, hck, hrI, hrB, hrL, hrA, hwI, hwA, hwB, hrN, hfk, hfs, hrF, hwF, hcl, hfty, hfit, hcmp, hnar, hres, hst, hacp, kz, kof, kn0, kn1, Bool.not_true, Bool.not_false, true_and, and_true, List.length_cons, List.length_nil, true_or, or_true, false_or, or_false, decide_true, decide_false, ne_eq, not_true_eq_false, not_false_eq_true, ki_0, ki_1, ki_2, ki_3, ki_4, ki_5, kb_m100, kb_m10, kb_m9, kb_m8, kb_m7, kb_m6, kb_m5, kb_m4, kb_m3, kb_m2, kb_6, kb_7, kb_8, kb_9, kb_10, kb_12, kb_13, kb_16, kb_27, kb_31, kb_32, kb_43, kb_45, kb_48, kb_57, kb_60, kb_63, kb_81, kb_97, kb_99, kb_100, kb_120, kb_126, ks_m1000, ks_243, ks_255, ks_729, ks_1000, ks_2000, ks_2187, ks_6561, ks_9840, ks_9841, kl_0, kl_1]
  rwa [pk_mul, nI_add, ← menc_app]
set_option maxRecDepth 100000 in
set_option maxHeartbeats 4000000 in
theorem c_headOf (hg : hgo g) (hd : 3 ≤ d) {u : List Nat} {i : Nat} (hu : mW u) (hi : i < u.length)  (h : Q (some (.int (nI (menc (u.take (i + 1)))))) N c s w) : Γ g d yX8_headOf [.int (nI (menc u)), .int (nI i)] N c s w Q := by
  refine Γ.intro0 hg kX8_headOf (by omega) (Nat.le_of_ble_eq_true rfl) (fun P hP => ?_)
  show P N 0 0 w 0 [some (.int (nI (menc u))), some (.int (nI i)), none, none] []
  have h8 := hu.1
  have loop : ∀ (n k : Nat), k = i + 1 + n → k ≤ u.length → P N 0 0 w 9 [some (.int (nI (menc u))), some (.int (nI i)), some (.int (nI (menc (u.take k)))), some (.int (nI (k - 1)))] [] := by
    intro n
    induction n with
    | zero =>
      intro k hk hku
      subst hk
      rw [Nat.add_zero]
      refine hP 1 _ rfl _ _ _ _ _ _ ?_
      simp only [bX8_headOf_1, hrun, hx, hnth, hput, hok, hcat2, hldI, hldL, hldR, hpI, hpL, hpA, hpR, hp1, hpV, hrtI, hrtL, hrtR, hrtV, hpN, hck, hrI, hrB, hrL, hrA, hwI, hwA, hwB, hrN, hfk, hfs, hrF, hwF, hcl, hfty, hfit, hcmp, hnar, hres, hst, hacp, kz, kof, kn0, kn1, Bool.not_true, Bool.not_false, true_and, and_true, List.length_cons, List.length_nil, true_or, or_true, false_or, or_false, decide_true, decide_false, ne_eq, not_true_eq_false, not_false_eq_true, ki_0, ki_1, ki_2, ki_3, ki_4, ki_5, kb_m100, kb_m10, kb_m9, kb_m8, kb_m7, kb_m6, kb_m5, kb_m4, kb_m3, kb_m2, kb_6, kb_7, kb_8, kb_9, kb_10, kb_12, kb_13, kb_16, kb_27, kb_31, kb_32, kb_43, kb_45, kb_48, kb_57, kb_60, kb_63, kb_81, kb_97, kb_99, kb_100, kb_120, kb_126, ks_m1000, ks_243, ks_255, ks_729, ks_1000, ks_2000, ks_2187, ks_6561, ks_9840, ks_9841, kl_0, kl_1]
      refine ⟨fun b11 => ?_, fun b11 => ?_⟩
      · try simp (disch := omega) only [nI_ltI, nI_leI, nI_eq, Nat.not_lt, Nat.not_le] at b11
        refine hP 3 _ rfl _ _ _ _ _ _ ?_
        simp only [bX8_headOf_3, hrun, hx, hnth, hput, hok, hcat2, hldI, hldL, hldR, hpI, hpL, hpA, hpR, hp1, hpV, hrtI, hrtL, hrtR, hrtV, hpN, hck, hrI, hrB, hrL, hrA, hwI, hwA, hwB, hrN, hfk, hfs, hrF, hwF, hcl, hfty, hfit, hcmp, hnar, hres, hst, hacp, kz, kof, kn0, kn1, Bool.not_true, Bool.not_false, true_and, and_true, List.length_cons, List.length_nil, true_or, or_true, false_or, or_false, decide_true, decide_false, ne_eq, not_true_eq_false, not_false_eq_true, ki_0, ki_1, ki_2, ki_3, ki_4, ki_5, kb_m100, kb_m10, kb_m9, kb_m8, kb_m7, kb_m6, kb_m5, kb_m4, kb_m3, kb_m2, kb_6, kb_7, kb_8, kb_9, kb_10, kb_12, kb_13, kb_16, kb_27, kb_31, kb_32, kb_43, kb_45, kb_48, kb_57, kb_60, kb_63, kb_81, kb_97, kb_99, kb_100, kb_120, kb_126, ks_m1000, ks_243, ks_255, ks_729, ks_1000, ks_2000, ks_2187, ks_6561, ks_9840, ks_9841, kl_0, kl_1]
        exact h
      · try simp (disch := omega) only [nI_ltI, nI_leI, nI_eq, Nat.not_lt, Nat.not_le] at b11
        exfalso; omega
    | succ n ih =>
      intro k hk hku
      refine hP 1 _ rfl _ _ _ _ _ _ ?_
      simp only [bX8_headOf_1, hrun, hx, hnth, hput, hok, hcat2, hldI, hldL, hldR, hpI, hpL, hpA, hpR, hp1, hpV, hrtI, hrtL, hrtR, hrtV, hpN, hck, hrI, hrB, hrL, hrA, hwI, hwA, hwB, hrN, hfk, hfs, hrF, hwF, hcl, hfty, hfit, hcmp, hnar, hres, hst, hacp, kz, kof, kn0, kn1, Bool.not_true, Bool.not_false, true_and, and_true, List.length_cons, List.length_nil, true_or, or_true, false_or, or_false, decide_true, decide_false, ne_eq, not_true_eq_false, not_false_eq_true, ki_0, ki_1, ki_2, ki_3, ki_4, ki_5, kb_m100, kb_m10, kb_m9, kb_m8, kb_m7, kb_m6, kb_m5, kb_m4, kb_m3, kb_m2, kb_6, kb_7, kb_8, kb_9, kb_10, kb_12, kb_13, kb_16, kb_27, kb_31, kb_32, kb_43, kb_45, kb_48, kb_57, kb_60, kb_63, kb_81, kb_97, kb_99, kb_100, kb_120, kb_126, ks_m1000, ks_243, ks_255, ks_729, ks_1000, ks_2000, ks_2187, ks_6561, ks_9840, ks_9841, kl_0, kl_1]
      refine ⟨fun b11 => ?_, fun b11 => ?_⟩
      · try simp (disch := omega) only [nI_ltI, nI_leI, nI_eq, Nat.not_lt, Nat.not_le] at b11
        exfalso; omega
      · try simp (disch := omega) only [nI_ltI, nI_leI, nI_eq, Nat.not_lt, Nat.not_le] at b11
        refine hP 2 _ rfl _ _ _ _ _ _ ?_
        simp only [bX8_headOf_2, hrun, hx, hnth, hput, hok, hcat2, hldI, hldL, hldR, hpI, hpL, hpA, hpR, hp1, hpV, hrtI, hrtL, hrtR, hrtV, hpN, hck, hrI, hrB, hrL, hrA, hwI, hwA, hwB, hrN, hfk, hfs, hrF, hwF, hcl, hfty, hfit, hcmp, hnar, hres, hst, hacp, kz, kof, kn0, kn1, Bool.not_true, Bool.not_false, true_and, and_true, List.length_cons, List.length_nil, true_or, or_true, false_or, or_false, decide_true, decide_false, ne_eq, not_true_eq_false, not_false_eq_true, ki_0, ki_1, ki_2, ki_3, ki_4, ki_5, kb_m100, kb_m10, kb_m9, kb_m8, kb_m7, kb_m6, kb_m5, kb_m4, kb_m3, kb_m2, kb_6, kb_7, kb_8, kb_9, kb_10, kb_12, kb_13, kb_16, kb_27, kb_31, kb_32, kb_43, kb_45, kb_48, kb_57, kb_60, kb_63, kb_81, kb_97, kb_99, kb_100, kb_120, kb_126, ks_m1000, ks_243, ks_255, ks_729, ks_1000, ks_2000, ks_2187, ks_6561, ks_9840, ks_9841, kl_0, kl_1]
        refine c_withoutLast hg (by omega) (hu.take k) ?_
        simp only [hrun, hx, hnth, hput, hok, hcat2, hldI, hldL, hldR, hpI, hpL, hpA, hpR, hp1, hpV, hrtI, hrtL, hrtR, hrtV, hpN, hck, hrI, hrB, hrL, hrA, hwI, hwA, hwB, hrN, hfk, hfs, hrF, hwF, hcl, hfty, hfit, hcmp, hnar, hres, hst, hacp, kz, kof, kn0, kn1, Bool.not_true, Bool.not_false, true_and, and_true, List.length_cons, List.length_nil, true_or, or_true, false_or, or_false, decide_true, decide_false, ne_eq, not_true_eq_false, not_false_eq_true, ki_0, ki_1, ki_2, ki_3, ki_4, ki_5, kb_m100, kb_m10, kb_m9, kb_m8, kb_m7, kb_m6, kb_m5, kb_m4, kb_m3, kb_m2, kb_6, kb_7, kb_8, kb_9, kb_10, kb_12, kb_13, kb_16, kb_27, kb_31, kb_32, kb_43, kb_45, kb_48, kb_57, kb_60, kb_63, kb_81, kb_97, kb_99, kb_100, kb_120, kb_126, ks_m1000, ks_243, ks_255, ks_729, ks_1000, ks_2000, ks_2187, ks_6561, ks_9840, ks_9841, kl_0, kl_1]
        have h9 := ih (k - 1) (by omega) (by omega)
        rw [List.dropLast_take, Nat.min_eq_left hku] at *
        rw [show k - 1 = (k - 1 - 1) + 1 by omega, nI_dec, show (k - 1 - 1) + 1 = k - 1 by omega]
        exact h9
  refine hP 0 _ rfl _ _ _ _ _ _ ?_
  simp only [bX8_headOf_0, hrun, hx, hnth, hput, hok, hcat2, hldI, hldL, hldR, hpI, hpL, hpA, hpR, hp1, hpV, hrtI, hrtL, hrtR, hrtV, hpN, hck, hrI, hrB, hrL, hrA, hwI, hwA, hwB, hrN, hfk, hfs, hrF, hwF, hcl, hfty, hfit, hcmp, hnar, hres, hst, hacp, kz, kof, kn0, kn1, Bool.not_true, Bool.not_false, true_and, and_true, List.length_cons, List.length_nil, true_or, or_true, false_or, or_false, decide_true, decide_false, ne_eq, not_true_eq_false, not_false_eq_true, ki_0, ki_1, ki_2, ki_3, ki_4, ki_5, kb_m100, kb_m10, kb_m9, kb_m8, kb_m7, kb_m6, kb_m5, kb_m4, kb_m3, kb_m2, kb_6, kb_7, kb_8, kb_9, kb_10, kb_12, kb_13, kb_16, kb_27, kb_31, kb_32, kb_43, kb_45, kb_48, kb_57, kb_60, kb_63, kb_81, kb_97, kb_99, kb_100, kb_120, kb_126, ks_m1000, ks_243, ks_255, ks_729, ks_1000, ks_2000, ks_2187, ks_6561, ks_9840, ks_9841, kl_0, kl_1]
  refine c_lengthOf hg (by omega) hu ?_
  simp only [hrun, hx, hnth, hput, hok, hcat2, hldI, hldL, hldR, hpI, hpL, hpA, hpR, hp1, hpV, hrtI, hrtL, hrtR, hrtV, hpN, hck, hrI, hrB, hrL, hrA, hwI, hwA, hwB, hrN, hfk, hfs, hrF, hwF, hcl, hfty, hfit, hcmp, hnar, hres, hst, hacp, kz, kof, kn0, kn1, Bool.not_true, Bool.not_false, true_and, and_true, List.length_cons, List.length_nil, true_or, or_true, false_or, or_false, decide_true, decide_false, ne_eq, not_true_eq_false, not_false_eq_true, ki_0, ki_1, ki_2, ki_3, ki_4, ki_5, kb_m100, kb_m10, kb_m9, kb_m8, kb_m7, kb_m6, kb_m5, kb_m4, kb_m3, kb_m2, kb_6, kb_7, kb_8, kb_9, kb_10, kb_12, kb_13, kb_16, kb_27, kb_31, kb_32, kb_43, kb_45, kb_48, kb_57, kb_60, kb_63, kb_81, kb_97, kb_99, kb_100, kb_120, kb_126, ks_m1000, ks_243, ks_255, ks_729, ks_1000, ks_2000, ks_2187, ks_6561, ks_9840, ks_9841, kl_0, kl_1]
  have h9 := loop (u.length - (i + 1)) u.length (by omega) (Nat.le_refl _)
  rw [List.take_length] at h9
  rw [pk_sub (by omega)]
  exact h9
theorem mlt_max {x : Int32} : (if nI 0 ≤ x then x else nI 0) = (if nI 0 ≤ x then x else nI 0) := rfl
/-- the letter at a place -/
theorem msplit (u : List Nat) (i : Nat) (hi : i < u.length) : u = u.take i ++ [u[i]] ++ u.drop (i + 1) := by
  rw [List.append_assoc, List.singleton_append]
  rw [List.getElem_cons_drop, List.take_append_drop]
theorem mtake_succ (u : List Nat) (i : Nat) (hi : i < u.length) : u.take (i + 1) = u.take i ++ [u[i]] := by
  rw [List.take_succ, List.getElem?_eq_getElem hi]; rfl
set_option maxRecDepth 100000 in
set_option maxHeartbeats 4000000 in
theorem c_letterAt (hg : hgo g) (hd : 4 ≤ d) {u : List Nat} {i : Nat} (hu : mW u) (hi : i < u.length)  (h : Q (some (.int (nI (u.getD i 0)))) N c s w) : Γ g d yX8_letterAt [.int (nI (menc u)), .int (nI i)] N c s w Q := by
  refine Γ.intro0 hg kX8_letterAt (by omega) (Nat.le_of_ble_eq_true rfl) (fun P hP => ?_)
  show P N 0 0 w 0 [some (.int (nI (menc u))), some (.int (nI i))] []
  have h8 := hu.1
  refine hP 0 _ rfl _ _ _ _ _ _ ?_
  simp only [bX8_letterAt_0, hrun, hx, hnth, hput, hok, hcat2, hldI, hldL, hldR, hpI, hpL, hpA, hpR, hp1, hpV, hrtI, hrtL, hrtR, hrtV, hpN, hck, hrI, hrB, hrL, hrA, hwI, hwA, hwB, hrN, hfk, hfs, hrF, hwF, hcl, hfty, hfit, hcmp, hnar, hres, hst, hacp, kz, kof, kn0, kn1, Bool.not_true, Bool.not_false, true_and, and_true, List.length_cons, List.length_nil, true_or, or_true, false_or, or_false, decide_true, decide_false, ne_eq, not_true_eq_false, not_false_eq_true, ki_0, ki_1, ki_2, ki_3, ki_4, ki_5, kb_m100, kb_m10, kb_m9, kb_m8, kb_m7, kb_m6, kb_m5, kb_m4, kb_m3, kb_m2, kb_6, kb_7, kb_8, kb_9, kb_10, kb_12, kb_13, kb_16, kb_27, kb_31, kb_32, kb_43, kb_45, kb_48, kb_57, kb_60, kb_63, kb_81, kb_97, kb_99, kb_100, kb_120, kb_126, ks_m1000, ks_243, ks_255, ks_729, ks_1000, ks_2000, ks_2187, ks_6561, ks_9840, ks_9841, kl_0, kl_1]
  refine ⟨fun b1 => ?_, fun b1 => ?_⟩
  · try simp (disch := omega) only [nI_ltI, nI_leI, nI_eq, Nat.not_lt, Nat.not_le] at b1
    exfalso; omega
  · try simp (disch := omega) only [nI_ltI, nI_leI, nI_eq, Nat.not_lt, Nat.not_le] at b1
    refine hP 1 _ rfl _ _ _ _ _ _ ?_
    simp only [bX8_letterAt_1, hrun, hx, hnth, hput, hok, hcat2, hldI, hldL, hldR, hpI, hpL, hpA, hpR, hp1, hpV, hrtI, hrtL, hrtR, hrtV, hpN, hck, hrI, hrB, hrL, hrA, hwI, hwA, hwB, hrN, hfk, hfs, hrF, hwF, hcl, hfty, hfit, hcmp, hnar, hres, hst, hacp, kz, kof, kn0, kn1, Bool.not_true, Bool.not_false, true_and, and_true, List.length_cons, List.length_nil, true_or, or_true, false_or, or_false, decide_true, decide_false, ne_eq, not_true_eq_false, not_false_eq_true, ki_0, ki_1, ki_2, ki_3, ki_4, ki_5, kb_m100, kb_m10, kb_m9, kb_m8, kb_m7, kb_m6, kb_m5, kb_m4, kb_m3, kb_m2, kb_6, kb_7, kb_8, kb_9, kb_10, kb_12, kb_13, kb_16, kb_27, kb_31, kb_32, kb_43, kb_45, kb_48, kb_57, kb_60, kb_63, kb_81, kb_97, kb_99, kb_100, kb_120, kb_126, ks_m1000, ks_243, ks_255, ks_729, ks_1000, ks_2000, ks_2187, ks_6561, ks_9840, ks_9841, kl_0, kl_1]
    refine c_lengthOf hg (by omega) hu ?_
    simp only [hrun, hx, hnth, hput, hok, hcat2, hldI, hldL, hldR, hpI, hpL, hpA, hpR, hp1, hpV, hrtI, hrtL, hrtR, hrtV, hpN, hck, hrI, hrB, hrL, hrA, hwI, hwA, hwB, hrN, hfk, hfs, hrF, hwF, hcl, hfty, hfit, hcmp, hnar, hres, hst, hacp, kz, kof, kn0, kn1, Bool.not_true, Bool.not_false, true_and, and_true, List.length_cons, List.length_nil, true_or, or_true, false_or, or_false, decide_true, decide_false, ne_eq, not_true_eq_false, not_false_eq_true, ki_0, ki_1, ki_2, ki_3, ki_4, ki_5, kb_m100, kb_m10, kb_m9, kb_m8, kb_m7, kb_m6, kb_m5, kb_m4, kb_m3, kb_m2, kb_6, kb_7, kb_8, kb_9, kb_10, kb_12, kb_13, kb_16, kb_27, kb_31, kb_32, kb_43, kb_45, kb_48, kb_57, kb_60, kb_63, kb_81, kb_97, kb_99, kb_100, kb_120, kb_126, ks_m1000, ks_243, ks_255, ks_729, ks_1000, ks_2000, ks_2187, ks_6561, ks_9840, ks_9841, kl_0, kl_1]
    refine ⟨fun b9 => ?_, fun b9 => ?_⟩
    · try simp (disch := omega) only [nI_ltI, nI_leI, nI_eq, Nat.not_lt, Nat.not_le] at b9
      refine hP 3 _ rfl _ _ _ _ _ _ ?_
      simp only [bX8_letterAt_3, hrun, hx, hnth, hput, hok, hcat2, hldI, hldL, hldR, hpI, hpL, hpA, hpR, hp1, hpV, hrtI, hrtL, hrtR, hrtV, hpN, hck, hrI, hrB, hrL, hrA, hwI, hwA, hwB, hrN, hfk, hfs, hrF, hwF, hcl, hfty, hfit, hcmp, hnar, hres, hst, hacp, kz, kof, kn0, kn1, Bool.not_true, Bool.not_false, true_and, and_true, List.length_cons, List.length_nil, true_or, or_true, false_or, or_false, decide_true, decide_false, ne_eq, not_true_eq_false, not_false_eq_true, ki_0, ki_1, ki_2, ki_3, ki_4, ki_5, kb_m100, kb_m10, kb_m9, kb_m8, kb_m7, kb_m6, kb_m5, kb_m4, kb_m3, kb_m2, kb_6, kb_7, kb_8, kb_9, kb_10, kb_12, kb_13, kb_16, kb_27, kb_31, kb_32, kb_43, kb_45, kb_48, kb_57, kb_60, kb_63, kb_81, kb_97, kb_99, kb_100, kb_120, kb_126, ks_m1000, ks_243, ks_255, ks_729, ks_1000, ks_2000, ks_2187, ks_6561, ks_9840, ks_9841, kl_0, kl_1]
      refine hP 4 _ rfl _ _ _ _ _ _ ?_
      simp only [bX8_letterAt_4, hrun, hx, hnth, hput, hok, hcat2, hldI, hldL, hldR, hpI, hpL, hpA, hpR, hp1, hpV, hrtI, hrtL, hrtR, hrtV, hpN, hck, hrI, hrB, hrL, hrA, hwI, hwA, hwB, hrN, hfk, hfs, hrF, hwF, hcl, hfty, hfit, hcmp, hnar, hres, hst, hacp, kz, kof, kn0, kn1, Bool.not_true, Bool.not_false, true_and, and_true, List.length_cons, List.length_nil, true_or, or_true, false_or, or_false, decide_true, decide_false, ne_eq, not_true_eq_false, not_false_eq_true, ki_0, ki_1, ki_2, ki_3, ki_4, ki_5, kb_m100, kb_m10, kb_m9, kb_m8, kb_m7, kb_m6, kb_m5, kb_m4, kb_m3, kb_m2, kb_6, kb_7, kb_8, kb_9, kb_10, kb_12, kb_13, kb_16, kb_27, kb_31, kb_32, kb_43, kb_45, kb_48, kb_57, kb_60, kb_63, kb_81, kb_97, kb_99, kb_100, kb_120, kb_126, ks_m1000, ks_243, ks_255, ks_729, ks_1000, ks_2000, ks_2187, ks_6561, ks_9840, ks_9841, kl_0, kl_1]
      rwa [List.getD_eq_getElem?_getD, List.getElem?_eq_getElem hi] at h
    · try simp (disch := omega) only [nI_ltI, nI_leI, nI_eq, Nat.not_lt, Nat.not_le] at b9
      refine hP 2 _ rfl _ _ _ _ _ _ ?_
      simp only [bX8_letterAt_2, hrun, hx, hnth, hput, hok, hcat2, hldI, hldL, hldR, hpI, hpL, hpA, hpR, hp1, hpV, hrtI, hrtL, hrtR, hrtV, hpN, hck, hrI, hrB, hrL, hrA, hwI, hwA, hwB, hrN, hfk, hfs, hrF, hwF, hcl, hfty, hfit, hcmp, hnar, hres, hst, hacp, kz, kof, kn0, kn1, Bool.not_true, Bool.not_false, true_and, and_true, List.length_cons, List.length_nil, true_or, or_true, false_or, or_false, decide_true, decide_false, ne_eq, not_true_eq_false, not_false_eq_true, ki_0, ki_1, ki_2, ki_3, ki_4, ki_5, kb_m100, kb_m10, kb_m9, kb_m8, kb_m7, kb_m6, kb_m5, kb_m4, kb_m3, kb_m2, kb_6, kb_7, kb_8, kb_9, kb_10, kb_12, kb_13, kb_16, kb_27, kb_31, kb_32, kb_43, kb_45, kb_48, kb_57, kb_60, kb_63, kb_81, kb_97, kb_99, kb_100, kb_120, kb_126, ks_m1000, ks_243, ks_255, ks_729, ks_1000, ks_2000, ks_2187, ks_6561, ks_9840, ks_9841, kl_0, kl_1]
      refine c_headOf hg (by omega) hu hi ?_
      simp only [hrun, hx, hnth, hput, hok, hcat2, hldI, hldL, hldR, hpI, hpL, hpA, hpR, hp1, hpV, hrtI, hrtL, hrtR, hrtV, hpN, hck, hrI, hrB, hrL, hrA, hwI, hwA, hwB, hrN, hfk, hfs, hrF, hwF, hcl, hfty, hfit, hcmp, hnar, hres, hst, hacp, kz, kof, kn0, kn1, Bool.not_true, Bool.not_false, true_and, and_true, List.length_cons, List.length_nil, true_or, or_true, false_or, or_false, decide_true, decide_false, ne_eq, not_true_eq_false, not_false_eq_true, ki_0, ki_1, ki_2, ki_3, ki_4, ki_5, kb_m100, kb_m10, kb_m9, kb_m8, kb_m7, kb_m6, kb_m5, kb_m4, kb_m3, kb_m2, kb_6, kb_7, kb_8, kb_9, kb_10, kb_12, kb_13, kb_16, kb_27, kb_31, kb_32, kb_43, kb_45, kb_48, kb_57, kb_60, kb_63, kb_81, kb_97, kb_99, kb_100, kb_120, kb_126, ks_m1000, ks_243, ks_255, ks_729, ks_1000, ks_2000, ks_2187, ks_6561, ks_9840, ks_9841, kl_0, kl_1]
      rw [mtake_succ u i hi]
      refine c_lastLetter hg (by omega) (u := u.take i) (x := u[i]) (by rw [← mtake_succ u i hi]; exact hu.take _) ?_
      simp only [hrun, hx, hnth, hput, hok, hcat2, hldI, hldL, hldR, hpI, hpL, hpA, hpR, hp1, hpV, hrtI, hrtL, hrtR, hrtV, hpN, hck, hrI, hrB, hrL, hrA, hwI, hwA, hwB, hrN, hfk, hfs, hrF, hwF, hcl, hfty, hfit, hcmp, hnar, hres, hst, hacp, kz, kof, kn0, kn1, Bool.not_true, Bool.not_false, true_and, and_true, List.length_cons, List.length_nil, true_or, or_true, false_or, or_false, decide_true, decide_false, ne_eq, not_true_eq_false, not_false_eq_true, ki_0, ki_1, ki_2, ki_3, ki_4, ki_5, kb_m100, kb_m10, kb_m9, kb_m8, kb_m7, kb_m6, kb_m5, kb_m4, kb_m3, kb_m2, kb_6, kb_7, kb_8, kb_9, kb_10, kb_12, kb_13, kb_16, kb_27, kb_31, kb_32, kb_43, kb_45, kb_48, kb_57, kb_60, kb_63, kb_81, kb_97, kb_99, kb_100, kb_120, kb_126, ks_m1000, ks_243, ks_255, ks_729, ks_1000, ks_2000, ks_2187, ks_6561, ks_9840, ks_9841, kl_0, kl_1]
      refine hP 4 _ rfl _ _ _ _ _ _ ?_
      simp only [bX8_letterAt_4, hrun, hx, hnth, hput, hok, hcat2, hldI, hldL, hldR, hpI, hpL, hpA, hpR, hp1, hpV, hrtI, hrtL, hrtR, hrtV, hpN, hck, hrI, hrB, hrL, hrA, hwI, hwA, hwB, hrN, hfk, hfs, hrF, hwF, hcl, hfty, hfit, hcmp, hnar, hres, hst, hacp, kz, kof, kn0, kn1, Bool.not_true, Bool.not_false, true_and, and_true, List.length_cons, List.length_nil, true_or, or_true, false_or, or_false, decide_true, decide_false, ne_eq, not_true_eq_false, not_false_eq_true, ki_0, ki_1, ki_2, ki_3, ki_4, ki_5, kb_m100, kb_m10, kb_m9, kb_m8, kb_m7, kb_m6, kb_m5, kb_m4, kb_m3, kb_m2, kb_6, kb_7, kb_8, kb_9, kb_10, kb_12, kb_13, kb_16, kb_27, kb_31, kb_32, kb_43, kb_45, kb_48, kb_57, kb_60, kb_63, kb_81, kb_97, kb_99, kb_100, kb_120, kb_126, ks_m1000, ks_243, ks_255, ks_729, ks_1000, ks_2000, ks_2187, ks_6561, ks_9840, ks_9841, kl_0, kl_1]
      rwa [List.getD_eq_getElem?_getD, List.getElem?_eq_getElem hi] at h
set_option maxRecDepth 100000 in
set_option maxHeartbeats 4000000 in
theorem c_letterAtN (hg : hgo g) (hd : 4 ≤ d) {u : List Nat} {x : Int32} (hu : mW u) (hx : x < nI 0 ∨ nI u.length ≤ x)  (h : Q (some (.int (Int32.ofInt (-1)))) N c s w) : Γ g d yX8_letterAt [.int (nI (menc u)), .int x] N c s w Q := by
  refine Γ.intro0 hg kX8_letterAt (by omega) (Nat.le_of_ble_eq_true rfl) (fun P hP => ?_)
  show P N 0 0 w 0 [some (.int (nI (menc u))), some (.int x)] []
  refine hP 0 _ rfl _ _ _ _ _ _ ?_
  simp only [bX8_letterAt_0, hrun, hx, hnth, hput, hok, hcat2, hldI, hldL, hldR, hpI, hpL, hpA, hpR, hp1, hpV, hrtI, hrtL, hrtR, hrtV, hpN, hck, hrI, hrB, hrL, hrA, hwI, hwA, hwB, hrN, hfk, hfs, hrF, hwF, hcl, hfty, hfit, hcmp, hnar, hres, hst, hacp, kz, kof, kn0, kn1, Bool.not_true, Bool.not_false, true_and, and_true, List.length_cons, List.length_nil, true_or, or_true, false_or, or_false, decide_true, decide_false, ne_eq, not_true_eq_false, not_false_eq_true, ki_0, ki_1, ki_2, ki_3, ki_4, ki_5, kb_m100, kb_m10, kb_m9, kb_m8, kb_m7, kb_m6, kb_m5, kb_m4, kb_m3, kb_m2, kb_6, kb_7, kb_8, kb_9, kb_10, kb_12, kb_13, kb_16, kb_27, kb_31, kb_32, kb_43, kb_45, kb_48, kb_57, kb_60, kb_63, kb_81, kb_97, kb_99, kb_100, kb_120, kb_126, ks_m1000, ks_243, ks_255, ks_729, ks_1000, ks_2000, ks_2187, ks_6561, ks_9840, ks_9841, kl_0, kl_1]
  refine ⟨fun b1 => ?_, fun b1 => ?_⟩
  · skip
    refine hP 3 _ rfl _ _ _ _ _ _ ?_
    simp only [bX8_letterAt_3, hrun, hx, hnth, hput, hok, hcat2, hldI, hldL, hldR, hpI, hpL, hpA, hpR, hp1, hpV, hrtI, hrtL, hrtR, hrtV, hpN, hck, hrI, hrB, hrL, hrA, hwI, hwA, hwB, hrN, hfk, hfs, hrF, hwF, hcl, hfty, hfit, hcmp, hnar, hres, hst, hacp, kz, kof, kn0, kn1, Bool.not_true, Bool.not_false, true_and, and_true, List.length_cons, List.length_nil, true_or, or_true, false_or, or_false, decide_true, decide_false, ne_eq, not_true_eq_false, not_false_eq_true, ki_0, ki_1, ki_2, ki_3, ki_4, ki_5, kb_m100, kb_m10, kb_m9, kb_m8, kb_m7, kb_m6, kb_m5, kb_m4, kb_m3, kb_m2, kb_6, kb_7, kb_8, kb_9, kb_10, kb_12, kb_13, kb_16, kb_27, kb_31, kb_32, kb_43, kb_45, kb_48, kb_57, kb_60, kb_63, kb_81, kb_97, kb_99, kb_100, kb_120, kb_126, ks_m1000, ks_243, ks_255, ks_729, ks_1000, ks_2000, ks_2187, ks_6561, ks_9840, ks_9841, kl_0, kl_1]
    refine hP 4 _ rfl _ _ _ _ _ _ ?_
    simp only [bX8_letterAt_4, hrun, hx, hnth, hput, hok, hcat2, hldI, hldL, hldR, hpI, hpL, hpA, hpR, hp1, hpV, hrtI, hrtL, hrtR, hrtV, hpN, hck, hrI, hrB, hrL, hrA, hwI, hwA, hwB, hrN, hfk, hfs, hrF, hwF, hcl, hfty, hfit, hcmp, hnar, hres, hst, hacp, kz, kof, kn0, kn1, Bool.not_true, Bool.not_false, true_and, and_true, List.length_cons, List.length_nil, true_or, or_true, false_or, or_false, decide_true, decide_false, ne_eq, not_true_eq_false, not_false_eq_true, ki_0, ki_1, ki_2, ki_3, ki_4, ki_5, kb_m100, kb_m10, kb_m9, kb_m8, kb_m7, kb_m6, kb_m5, kb_m4, kb_m3, kb_m2, kb_6, kb_7, kb_8, kb_9, kb_10, kb_12, kb_13, kb_16, kb_27, kb_31, kb_32, kb_43, kb_45, kb_48, kb_57, kb_60, kb_63, kb_81, kb_97, kb_99, kb_100, kb_120, kb_126, ks_m1000, ks_243, ks_255, ks_729, ks_1000, ks_2000, ks_2187, ks_6561, ks_9840, ks_9841, kl_0, kl_1]
    exact h
  · skip
    refine hP 1 _ rfl _ _ _ _ _ _ ?_
    simp only [bX8_letterAt_1, hrun, hx, hnth, hput, hok, hcat2, hldI, hldL, hldR, hpI, hpL, hpA, hpR, hp1, hpV, hrtI, hrtL, hrtR, hrtV, hpN, hck, hrI, hrB, hrL, hrA, hwI, hwA, hwB, hrN, hfk, hfs, hrF, hwF, hcl, hfty, hfit, hcmp, hnar, hres, hst, hacp, kz, kof, kn0, kn1, Bool.not_true, Bool.not_false, true_and, and_true, List.length_cons, List.length_nil, true_or, or_true, false_or, or_false, decide_true, decide_false, ne_eq, not_true_eq_false, not_false_eq_true, ki_0, ki_1, ki_2, ki_3, ki_4, ki_5, kb_m100, kb_m10, kb_m9, kb_m8, kb_m7, kb_m6, kb_m5, kb_m4, kb_m3, kb_m2, kb_6, kb_7, kb_8, kb_9, kb_10, kb_12, kb_13, kb_16, kb_27, kb_31, kb_32, kb_43, kb_45, kb_48, kb_57, kb_60, kb_63, kb_81, kb_97, kb_99, kb_100, kb_120, kb_126, ks_m1000, ks_243, ks_255, ks_729, ks_1000, ks_2000, ks_2187, ks_6561, ks_9840, ks_9841, kl_0, kl_1]
    refine c_lengthOf hg (by omega) hu ?_
    simp only [hrun, hx, hnth, hput, hok, hcat2, hldI, hldL, hldR, hpI, hpL, hpA, hpR, hp1, hpV, hrtI, hrtL, hrtR, hrtV, hpN, hck, hrI, hrB, hrL, hrA, hwI, hwA, hwB, hrN, hfk, hfs, hrF, hwF, hcl, hfty, hfit, hcmp, hnar, hres, hst, hacp, kz, kof, kn0, kn1, Bool.not_true, Bool.not_false, true_and, and_true, List.length_cons, List.length_nil, true_or, or_true, false_or, or_false, decide_true, decide_false, ne_eq, not_true_eq_false, not_false_eq_true, ki_0, ki_1, ki_2, ki_3, ki_4, ki_5, kb_m100, kb_m10, kb_m9, kb_m8, kb_m7, kb_m6, kb_m5, kb_m4, kb_m3, kb_m2, kb_6, kb_7, kb_8, kb_9, kb_10, kb_12, kb_13, kb_16, kb_27, kb_31, kb_32, kb_43, kb_45, kb_48, kb_57, kb_60, kb_63, kb_81, kb_97, kb_99, kb_100, kb_120, kb_126, ks_m1000, ks_243, ks_255, ks_729, ks_1000, ks_2000, ks_2187, ks_6561, ks_9840, ks_9841, kl_0, kl_1]
    refine ⟨fun b9 => ?_, fun b9 => ?_⟩
    · skip
      refine hP 3 _ rfl _ _ _ _ _ _ ?_
      simp only [bX8_letterAt_3, hrun, hx, hnth, hput, hok, hcat2, hldI, hldL, hldR, hpI, hpL, hpA, hpR, hp1, hpV, hrtI, hrtL, hrtR, hrtV, hpN, hck, hrI, hrB, hrL, hrA, hwI, hwA, hwB, hrN, hfk, hfs, hrF, hwF, hcl, hfty, hfit, hcmp, hnar, hres, hst, hacp, kz, kof, kn0, kn1, Bool.not_true, Bool.not_false, true_and, and_true, List.length_cons, List.length_nil, true_or, or_true, false_or, or_false, decide_true, decide_false, ne_eq, not_true_eq_false, not_false_eq_true, ki_0, ki_1, ki_2, ki_3, ki_4, ki_5, kb_m100, kb_m10, kb_m9, kb_m8, kb_m7, kb_m6, kb_m5, kb_m4, kb_m3, kb_m2, kb_6, kb_7, kb_8, kb_9, kb_10, kb_12, kb_13, kb_16, kb_27, kb_31, kb_32, kb_43, kb_45, kb_48, kb_57, kb_60, kb_63, kb_81, kb_97, kb_99, kb_100, kb_120, kb_126, ks_m1000, ks_243, ks_255, ks_729, ks_1000, ks_2000, ks_2187, ks_6561, ks_9840, ks_9841, kl_0, kl_1]
      refine hP 4 _ rfl _ _ _ _ _ _ ?_
      simp only [bX8_letterAt_4, hrun, hx, hnth, hput, hok, hcat2, hldI, hldL, hldR, hpI, hpL, hpA, hpR, hp1, hpV, hrtI, hrtL, hrtR, hrtV, hpN, hck, hrI, hrB, hrL, hrA, hwI, hwA, hwB, hrN, hfk, hfs, hrF, hwF, hcl, hfty, hfit, hcmp, hnar, hres, hst, hacp, kz, kof, kn0, kn1, Bool.not_true, Bool.not_false, true_and, and_true, List.length_cons, List.length_nil, true_or, or_true, false_or, or_false, decide_true, decide_false, ne_eq, not_true_eq_false, not_false_eq_true, ki_0, ki_1, ki_2, ki_3, ki_4, ki_5, kb_m100, kb_m10, kb_m9, kb_m8, kb_m7, kb_m6, kb_m5, kb_m4, kb_m3, kb_m2, kb_6, kb_7, kb_8, kb_9, kb_10, kb_12, kb_13, kb_16, kb_27, kb_31, kb_32, kb_43, kb_45, kb_48, kb_57, kb_60, kb_63, kb_81, kb_97, kb_99, kb_100, kb_120, kb_126, ks_m1000, ks_243, ks_255, ks_729, ks_1000, ks_2000, ks_2187, ks_6561, ks_9840, ks_9841, kl_0, kl_1]
      exact h
    · skip
      refine hP 2 _ rfl _ _ _ _ _ _ ?_
      simp only [bX8_letterAt_2, hrun, hx, hnth, hput, hok, hcat2, hldI, hldL, hldR, hpI, hpL, hpA, hpR, hp1, hpV, hrtI, hrtL, hrtR, hrtV, hpN, hck, hrI, hrB, hrL, hrA, hwI, hwA, hwB, hrN, hfk, hfs, hrF, hwF, hcl, hfty, hfit, hcmp, hnar, hres, hst, hacp, kz, kof, kn0, kn1, Bool.not_true, Bool.not_false, true_and, and_true, List.length_cons, List.length_nil, true_or, or_true, false_or, or_false, decide_true, decide_false, ne_eq, not_true_eq_false, not_false_eq_true, ki_0, ki_1, ki_2, ki_3, ki_4, ki_5, kb_m100, kb_m10, kb_m9, kb_m8, kb_m7, kb_m6, kb_m5, kb_m4, kb_m3, kb_m2, kb_6, kb_7, kb_8, kb_9, kb_10, kb_12, kb_13, kb_16, kb_27, kb_31, kb_32, kb_43, kb_45, kb_48, kb_57, kb_60, kb_63, kb_81, kb_97, kb_99, kb_100, kb_120, kb_126, ks_m1000, ks_243, ks_255, ks_729, ks_1000, ks_2000, ks_2187, ks_6561, ks_9840, ks_9841, kl_0, kl_1]
      refine c_headOf hg (by omega) ?_
      simp only [hrun, hx, hnth, hput, hok, hcat2, hldI, hldL, hldR, hpI, hpL, hpA, hpR, hp1, hpV, hrtI, hrtL, hrtR, hrtV, hpN, hck, hrI, hrB, hrL, hrA, hwI, hwA, hwB, hrN, hfk, hfs, hrF, hwF, hcl, hfty, hfit, hcmp, hnar, hres, hst, hacp, kz, kof, kn0, kn1, Bool.not_true, Bool.not_false, true_and, and_true, List.length_cons, List.length_nil, true_or, or_true, false_or, or_false, decide_true, decide_false, ne_eq, not_true_eq_false, not_false_eq_true, ki_0, ki_1, ki_2, ki_3, ki_4, ki_5, kb_m100, kb_m10, kb_m9, kb_m8, kb_m7, kb_m6, kb_m5, kb_m4, kb_m3, kb_m2, kb_6, kb_7, kb_8, kb_9, kb_10, kb_12, kb_13, kb_16, kb_27, kb_31, kb_32, kb_43, kb_45, kb_48, kb_57, kb_60, kb_63, kb_81, kb_97, kb_99, kb_100, kb_120, kb_126, ks_m1000, ks_243, ks_255, ks_729, ks_1000, ks_2000, ks_2187, ks_6561, ks_9840, ks_9841, kl_0, kl_1]
      refine c_lastLetter hg (by omega) ?_
      simp only [hrun, hx, hnth, hput, hok, hcat2, hldI, hldL, hldR, hpI, hpL, hpA, hpR, hp1, hpV, hrtI, hrtL, hrtR, hrtV, hpN, hck, hrI, hrB, hrL, hrA, hwI, hwA, hwB, hrN, hfk, hfs, hrF, hwF, hcl, hfty, hfit, hcmp, hnar, hres, hst, hacp, kz, kof, kn0, kn1, Bool.not_true, Bool.not_false, true_and, and_true, List.length_cons, List.length_nil, true_or, or_true, false_or, or_false, decide_true, decide_false, ne_eq, not_true_eq_false, not_false_eq_true, ki_0, ki_1, ki_2, ki_3, ki_4, ki_5, kb_m100, kb_m10, kb_m9, kb_m8, kb_m7, kb_m6, kb_m5, kb_m4, kb_m3, kb_m2, kb_6, kb_7, kb_8, kb_9, kb_10, kb_12, kb_13, kb_16, kb_27, kb_31, kb_32, kb_43, kb_45, kb_48, kb_57, kb_60, kb_63, kb_81, kb_97, kb_99, kb_100, kb_120, kb_126, ks_m1000, ks_243, ks_255, ks_729, ks_1000, ks_2000, ks_2187, ks_6561, ks_9840, ks_9841, kl_0, kl_1]
      refine hP 4 _ rfl _ _ _ _ _ _ ?_
      simp only [bX8_letterAt_4, hrun, hx, hnth, hput, hok, hcat2, hldI, hldL, hldR, hpI, hpL, hpA, hpR, hp1, hpV, hrtI, hrtL, hrtR, hrtV, hpN, hck, hrI, hrB, hrL, hrA, hwI, hwA, hwB, hrN, hfk, hfs, hrF, hwF, hcl, hfty, hfit, hcmp, hnar, hres, hst, hacp, kz, kof, kn0, kn1, Bool.not_true, Bool.not_false, true_and, and_true, List.length_cons, List.length_nil, true_or, or_true, false_or, or_false, decide_true, decide_false, ne_eq, not_true_eq_false, not_false_eq_true, ki_0, ki_1, ki_2, ki_3, ki_4, ki_5, kb_m100, kb_m10, kb_m9, kb_m8, kb_m7, kb_m6, kb_m5, kb_m4, kb_m3, kb_m2, kb_6, kb_7, kb_8, kb_9, kb_10, kb_12, kb_13, kb_16, kb_27, kb_31, kb_32, kb_43, kb_45, kb_48, kb_57, kb_60, kb_63, kb_81, kb_97, kb_99, kb_100, kb_120, kb_126, ks_m1000, ks_243, ks_255, ks_729, ks_1000, ks_2000, ks_2187, ks_6561, ks_9840, ks_9841, kl_0, kl_1]
      exact h
set_option maxRecDepth 100000 in
set_option maxHeartbeats 4000000 in
theorem c_withoutLetter (hg : hgo g) (hd : 4 ≤ d) {u : List Nat} {i : Nat} (hu : mW u) (hi : i < u.length) (hw : w 1000001 = .inl (10, 9, .inl mpow))  (h : Q (some (.int (nI (menc (u.eraseIdx i))))) N c s w) : Γ g d yX8_withoutLetter [.int (nI (menc u)), .int (nI i)] N c s w Q := by
  refine Γ.intro0 hg kX8_withoutLetter (by omega) (Nat.le_of_ble_eq_true rfl) (fun P hP => ?_)
  show P N 0 0 w 0 [some (.int (nI (menc u))), some (.int (nI i)), none, none, none] []
  have h8 := hu.1
  have he : u.eraseIdx i = u.take i ++ u.drop (i + 1) := List.eraseIdx_eq_take_drop_succ ..
  have e9 : nI u.length - nI 1 - nI i = nI (u.length - 1 - i) := by rw [pk_sub (by omega), pk_sub (by omega)]
  have hd9 : (u.drop (i + 1)).length = u.length - 1 - i := by rw [List.length_drop]; omega
  have hm : menc u = menc (u.take (i + 1)) * 3 ^ (u.length - 1 - i) + menc (u.drop (i + 1)) := by rw [← hd9, ← menc_app, List.take_append_drop]
  refine hP 0 _ rfl _ _ _ _ _ _ ?_
  simp only [bX8_withoutLetter_0, hrun, hx, hnth, hput, hok, hcat2, hldI, hldL, hldR, hpI, hpL, hpA, hpR, hp1, hpV, hrtI, hrtL, hrtR, hrtV, hpN, hck, hrI, hrB, hrL, hrA, hwI, hwA, hwB, hrN, hfk, hfs, hrF, hwF, hcl, hfty, hfit, hcmp, hnar, hres, hst, hacp, kz, kof, kn0, kn1, Bool.not_true, Bool.not_false, true_and, and_true, List.length_cons, List.length_nil, true_or, or_true, false_or, or_false, decide_true, decide_false, ne_eq, not_true_eq_false, not_false_eq_true, ki_0, ki_1, ki_2, ki_3, ki_4, ki_5, kb_m100, kb_m10, kb_m9, kb_m8, kb_m7, kb_m6, kb_m5, kb_m4, kb_m3, kb_m2, kb_6, kb_7, kb_8, kb_9, kb_10, kb_12, kb_13, kb_16, kb_27, kb_31, kb_32, kb_43, kb_45, kb_48, kb_57, kb_60, kb_63, kb_81, kb_97, kb_99, kb_100, kb_120, kb_126, ks_m1000, ks_243, ks_255, ks_729, ks_1000, ks_2000, ks_2187, ks_6561, ks_9840, ks_9841, kl_0, kl_1, e9]
  refine c_lengthOf hg (by omega) hu ?_
  simp only [hrun, hx, hnth, hput, hok, hcat2, hldI, hldL, hldR, hpI, hpL, hpA, hpR, hp1, hpV, hrtI, hrtL, hrtR, hrtV, hpN, hck, hrI, hrB, hrL, hrA, hwI, hwA, hwB, hrN, hfk, hfs, hrF, hwF, hcl, hfty, hfit, hcmp, hnar, hres, hst, hacp, kz, kof, kn0, kn1, Bool.not_true, Bool.not_false, true_and, and_true, List.length_cons, List.length_nil, true_or, or_true, false_or, or_false, decide_true, decide_false, ne_eq, not_true_eq_false, not_false_eq_true, ki_0, ki_1, ki_2, ki_3, ki_4, ki_5, kb_m100, kb_m10, kb_m9, kb_m8, kb_m7, kb_m6, kb_m5, kb_m4, kb_m3, kb_m2, kb_6, kb_7, kb_8, kb_9, kb_10, kb_12, kb_13, kb_16, kb_27, kb_31, kb_32, kb_43, kb_45, kb_48, kb_57, kb_60, kb_63, kb_81, kb_97, kb_99, kb_100, kb_120, kb_126, ks_m1000, ks_243, ks_255, ks_729, ks_1000, ks_2000, ks_2187, ks_6561, ks_9840, ks_9841, kl_0, kl_1, e9]
  refine ⟨fun b10 => ?_, fun b10 => ?_⟩
  · try simp (disch := omega) only [nI_ltI, nI_leI, nI_eq, Nat.not_lt, Nat.not_le] at b10
    refine hP 2 _ rfl _ _ _ _ _ _ ?_
    simp only [bX8_withoutLetter_2, hrun, hx, hnth, hput, hok, hcat2, hldI, hldL, hldR, hpI, hpL, hpA, hpR, hp1, hpV, hrtI, hrtL, hrtR, hrtV, hpN, hck, hrI, hrB, hrL, hrA, hwI, hwA, hwB, hrN, hfk, hfs, hrF, hwF, hcl, hfty, hfit, hcmp, hnar, hres, hst, hacp, kz, kof, kn0, kn1, Bool.not_true, Bool.not_false, true_and, and_true, List.length_cons, List.length_nil, true_or, or_true, false_or, or_false, decide_true, decide_false, ne_eq, not_true_eq_false, not_false_eq_true, ki_0, ki_1, ki_2, ki_3, ki_4, ki_5, kb_m100, kb_m10, kb_m9, kb_m8, kb_m7, kb_m6, kb_m5, kb_m4, kb_m3, kb_m2, kb_6, kb_7, kb_8, kb_9, kb_10, kb_12, kb_13, kb_16, kb_27, kb_31, kb_32, kb_43, kb_45, kb_48, kb_57, kb_60, kb_63, kb_81, kb_97, kb_99, kb_100, kb_120, kb_126, ks_m1000, ks_243, ks_255, ks_729, ks_1000, ks_2000, ks_2187, ks_6561, ks_9840, ks_9841, kl_0, kl_1, e9]
    rw [pk_mul, pk_mul, pk_sub (by omega), nI_add, hm, Nat.add_sub_cancel_left, ← hd9, ← menc_app, ← he]
    exact h
  · try simp (disch := omega) only [nI_ltI, nI_leI, nI_eq, Nat.not_lt, Nat.not_le] at b10
    refine hP 1 _ rfl _ _ _ _ _ _ ?_
    simp only [bX8_withoutLetter_1, hrun, hx, hnth, hput, hok, hcat2, hldI, hldL, hldR, hpI, hpL, hpA, hpR, hp1, hpV, hrtI, hrtL, hrtR, hrtV, hpN, hck, hrI, hrB, hrL, hrA, hwI, hwA, hwB, hrN, hfk, hfs, hrF, hwF, hcl, hfty, hfit, hcmp, hnar, hres, hst, hacp, kz, kof, kn0, kn1, Bool.not_true, Bool.not_false, true_and, and_true, List.length_cons, List.length_nil, true_or, or_true, false_or, or_false, decide_true, decide_false, ne_eq, not_true_eq_false, not_false_eq_true, ki_0, ki_1, ki_2, ki_3, ki_4, ki_5, kb_m100, kb_m10, kb_m9, kb_m8, kb_m7, kb_m6, kb_m5, kb_m4, kb_m3, kb_m2, kb_6, kb_7, kb_8, kb_9, kb_10, kb_12, kb_13, kb_16, kb_27, kb_31, kb_32, kb_43, kb_45, kb_48, kb_57, kb_60, kb_63, kb_81, kb_97, kb_99, kb_100, kb_120, kb_126, ks_m1000, ks_243, ks_255, ks_729, ks_1000, ks_2000, ks_2187, ks_6561, ks_9840, ks_9841, kl_0, kl_1, e9]
    refine ⟨fun b14 => ?_, fun b14 => ?_⟩
    · try simp (disch := omega) only [nI_ltI, nI_leI, nI_eq, Nat.not_lt, Nat.not_le] at b14
      refine hP 3 _ rfl _ _ _ _ _ _ ?_
      simp only [bX8_withoutLetter_3, hrun, hx, hnth, hput, hok, hcat2, hldI, hldL, hldR, hpI, hpL, hpA, hpR, hp1, hpV, hrtI, hrtL, hrtR, hrtV, hpN, hck, hrI, hrB, hrL, hrA, hwI, hwA, hwB, hrN, hfk, hfs, hrF, hwF, hcl, hfty, hfit, hcmp, hnar, hres, hst, hacp, kz, kof, kn0, kn1, Bool.not_true, Bool.not_false, true_and, and_true, List.length_cons, List.length_nil, true_or, or_true, false_or, or_false, decide_true, decide_false, ne_eq, not_true_eq_false, not_false_eq_true, ki_0, ki_1, ki_2, ki_3, ki_4, ki_5, kb_m100, kb_m10, kb_m9, kb_m8, kb_m7, kb_m6, kb_m5, kb_m4, kb_m3, kb_m2, kb_6, kb_7, kb_8, kb_9, kb_10, kb_12, kb_13, kb_16, kb_27, kb_31, kb_32, kb_43, kb_45, kb_48, kb_57, kb_60, kb_63, kb_81, kb_97, kb_99, kb_100, kb_120, kb_126, ks_m1000, ks_243, ks_255, ks_729, ks_1000, ks_2000, ks_2187, ks_6561, ks_9840, ks_9841, kl_0, kl_1, e9]
      refine c_headOf hg (by omega) hu hi ?_
      simp only [hrun, hx, hnth, hput, hok, hcat2, hldI, hldL, hldR, hpI, hpL, hpA, hpR, hp1, hpV, hrtI, hrtL, hrtR, hrtV, hpN, hck, hrI, hrB, hrL, hrA, hwI, hwA, hwB, hrN, hfk, hfs, hrF, hwF, hcl, hfty, hfit, hcmp, hnar, hres, hst, hacp, kz, kof, kn0, kn1, Bool.not_true, Bool.not_false, true_and, and_true, List.length_cons, List.length_nil, true_or, or_true, false_or, or_false, decide_true, decide_false, ne_eq, not_true_eq_false, not_false_eq_true, ki_0, ki_1, ki_2, ki_3, ki_4, ki_5, kb_m100, kb_m10, kb_m9, kb_m8, kb_m7, kb_m6, kb_m5, kb_m4, kb_m3, kb_m2, kb_6, kb_7, kb_8, kb_9, kb_10, kb_12, kb_13, kb_16, kb_27, kb_31, kb_32, kb_43, kb_45, kb_48, kb_57, kb_60, kb_63, kb_81, kb_97, kb_99, kb_100, kb_120, kb_126, ks_m1000, ks_243, ks_255, ks_729, ks_1000, ks_2000, ks_2187, ks_6561, ks_9840, ks_9841, kl_0, kl_1, e9]
      refine c_powerOf hg (by omega) (by omega) hw ?_
      simp only [hrun, hx, hnth, hput, hok, hcat2, hldI, hldL, hldR, hpI, hpL, hpA, hpR, hp1, hpV, hrtI, hrtL, hrtR, hrtV, hpN, hck, hrI, hrB, hrL, hrA, hwI, hwA, hwB, hrN, hfk, hfs, hrF, hwF, hcl, hfty, hfit, hcmp, hnar, hres, hst, hacp, kz, kof, kn0, kn1, Bool.not_true, Bool.not_false, true_and, and_true, List.length_cons, List.length_nil, true_or, or_true, false_or, or_false, decide_true, decide_false, ne_eq, not_true_eq_false, not_false_eq_true, ki_0, ki_1, ki_2, ki_3, ki_4, ki_5, kb_m100, kb_m10, kb_m9, kb_m8, kb_m7, kb_m6, kb_m5, kb_m4, kb_m3, kb_m2, kb_6, kb_7, kb_8, kb_9, kb_10, kb_12, kb_13, kb_16, kb_27, kb_31, kb_32, kb_43, kb_45, kb_48, kb_57, kb_60, kb_63, kb_81, kb_97, kb_99, kb_100, kb_120, kb_126, ks_m1000, ks_243, ks_255, ks_729, ks_1000, ks_2000, ks_2187, ks_6561, ks_9840, ks_9841, kl_0, kl_1, e9]
      rw [mtake_succ u i hi]
      refine c_withoutLast hg (by omega) (u := u.take i ++ [u[i]]) (by rw [← mtake_succ u i hi]; exact hu.take _) ?_
      rw [List.dropLast_concat, ← mtake_succ u i hi]
      simp only [hrun, hx, hnth, hput, hok, hcat2, hldI, hldL, hldR, hpI, hpL, hpA, hpR, hp1, hpV, hrtI, hrtL, hrtR, hrtV, hpN, hck, hrI, hrB, hrL, hrA, hwI, hwA, hwB, hrN, hfk, hfs, hrF, hwF, hcl, hfty, hfit, hcmp, hnar, hres, hst, hacp, kz, kof, kn0, kn1, Bool.not_true, Bool.not_false, true_and, and_true, List.length_cons, List.length_nil, true_or, or_true, false_or, or_false, decide_true, decide_false, ne_eq, not_true_eq_false, not_false_eq_true, ki_0, ki_1, ki_2, ki_3, ki_4, ki_5, kb_m100, kb_m10, kb_m9, kb_m8, kb_m7, kb_m6, kb_m5, kb_m4, kb_m3, kb_m2, kb_6, kb_7, kb_8, kb_9, kb_10, kb_12, kb_13, kb_16, kb_27, kb_31, kb_32, kb_43, kb_45, kb_48, kb_57, kb_60, kb_63, kb_81, kb_97, kb_99, kb_100, kb_120, kb_126, ks_m1000, ks_243, ks_255, ks_729, ks_1000, ks_2000, ks_2187, ks_6561, ks_9840, ks_9841, kl_0, kl_1, e9]
      refine c_powerOf hg (by omega) (by omega) hw ?_
      simp only [hrun, hx, hnth, hput, hok, hcat2, hldI, hldL, hldR, hpI, hpL, hpA, hpR, hp1, hpV, hrtI, hrtL, hrtR, hrtV, hpN, hck, hrI, hrB, hrL, hrA, hwI, hwA, hwB, hrN, hfk, hfs, hrF, hwF, hcl, hfty, hfit, hcmp, hnar, hres, hst, hacp, kz, kof, kn0, kn1, Bool.not_true, Bool.not_false, true_and, and_true, List.length_cons, List.length_nil, true_or, or_true, false_or, or_false, decide_true, decide_false, ne_eq, not_true_eq_false, not_false_eq_true, ki_0, ki_1, ki_2, ki_3, ki_4, ki_5, kb_m100, kb_m10, kb_m9, kb_m8, kb_m7, kb_m6, kb_m5, kb_m4, kb_m3, kb_m2, kb_6, kb_7, kb_8, kb_9, kb_10, kb_12, kb_13, kb_16, kb_27, kb_31, kb_32, kb_43, kb_45, kb_48, kb_57, kb_60, kb_63, kb_81, kb_97, kb_99, kb_100, kb_120, kb_126, ks_m1000, ks_243, ks_255, ks_729, ks_1000, ks_2000, ks_2187, ks_6561, ks_9840, ks_9841, kl_0, kl_1, e9]
      rw [pk_mul, pk_mul, pk_sub (by omega), nI_add, hm, Nat.add_sub_cancel_left, ← hd9, ← menc_app, ← he]
      exact h
    · try simp (disch := omega) only [nI_ltI, nI_leI, nI_eq, Nat.not_lt, Nat.not_le] at b14
      refine hP 2 _ rfl _ _ _ _ _ _ ?_
      simp only [bX8_withoutLetter_2, hrun, hx, hnth, hput, hok, hcat2, hldI, hldL, hldR, hpI, hpL, hpA, hpR, hp1, hpV, hrtI, hrtL, hrtR, hrtV, hpN, hck, hrI, hrB, hrL, hrA, hwI, hwA, hwB, hrN, hfk, hfs, hrF, hwF, hcl, hfty, hfit, hcmp, hnar, hres, hst, hacp, kz, kof, kn0, kn1, Bool.not_true, Bool.not_false, true_and, and_true, List.length_cons, List.length_nil, true_or, or_true, false_or, or_false, decide_true, decide_false, ne_eq, not_true_eq_false, not_false_eq_true, ki_0, ki_1, ki_2, ki_3, ki_4, ki_5, kb_m100, kb_m10, kb_m9, kb_m8, kb_m7, kb_m6, kb_m5, kb_m4, kb_m3, kb_m2, kb_6, kb_7, kb_8, kb_9, kb_10, kb_12, kb_13, kb_16, kb_27, kb_31, kb_32, kb_43, kb_45, kb_48, kb_57, kb_60, kb_63, kb_81, kb_97, kb_99, kb_100, kb_120, kb_126, ks_m1000, ks_243, ks_255, ks_729, ks_1000, ks_2000, ks_2187, ks_6561, ks_9840, ks_9841, kl_0, kl_1, e9]
      rw [pk_mul, pk_mul, pk_sub (by omega), nI_add, hm, Nat.add_sub_cancel_left, ← hd9, ← menc_app, ← he]
      exact h
end W8
