/-! the class's constructors -/
section XI
variable {g : hG} {d N c s : Nat} {w : hWd} {Q : hRt}
theorem kdef3 : hdef 3 = [.null, .null, .int (nI 0)] := rfl
theorem kdef1 : hdef 1 = [.null, .int (nI 0), .int (nI 0), .int (nI 0)] := rfl
theorem kdef2 : hdef 2 = [.null, .null, .null, .null, .int (nI 0)] := rfl
theorem kdef4 : hdef 4 = [.null, .int (nI 0), .int (nI 0)] := rfl
theorem kdef5 : hdef 5 = [.null, .null, .null, .null, .int (nI 0), .null, .null, .null, .null, .null] := rfl
set_option maxRecDepth 100000 in
set_option maxHeartbeats 4000000 in
theorem c_polyInit (hg : hgo g) (hd : 1 ≤ d) {q : Nat} (hq9 : w q = .inr (3, hdef 3)) (hqN : q < N) (hc1 : 2 ≤ c) (hs1 : 240 ≤ s) (h : ∀ w', hPoly w' q N (N + 1) [] → mfr [q, N, N + 1] w w' → Q none (N + 2) (c - 2) (s - 240) w') : Γ g d yX3_init [.ref q] N c s w Q := by
  refine Γ.intro hg kX3_init (by omega) (2) (240) (by omega) (by omega) (Nat.le_of_ble_eq_true rfl) (fun P hP => ?_)
  show P N (2) (240) w 0 [some (.ref q)] []
  rw [kdef3] at hq9
  have e1 : ∀ (w1 : hWd) (e : hE), va_up w1 N e q = w1 q := fun w1 e => va_up_ne _ _ (by omega)
  have e2 : ∀ (w1 : hWd) (e : hE), va_up w1 (N + 1) e q = w1 q := fun w1 e => va_up_ne _ _ (by omega)
  refine hP 0 _ rfl _ _ _ _ _ _ ?_
  simp only [bX3_init_0, hrun, hx, hnth, hput, hok, hcat2, hldI, hldL, hldR, hpI, hpL, hpA, hpR, hp1, hpV, hrtI, hrtL, hrtR, hrtV, hpN, hck, hrI, hrB, hrL, hrA, hwI, hwA, hwB, hrN, hfk, hfs, hrF, hwF, hcl, hfty, tyX1, tyX3, tyX6, tyX9, tyX10, tyJ0, tyJ4, hfit, hcmp, hnar, hres, hst, hacp, kz, kof, kn0, kn1, Bool.not_true, Bool.not_false, true_and, and_true, Nat.zero_add, Nat.reduceAdd, List.length_cons, List.length_nil, true_or, or_true, false_or, or_false, decide_true, decide_false, ne_eq, not_true_eq_false, not_false_eq_true, ki_0, ki_1, ki_2, ki_3, ki_4, ki_5, kb_m100, kb_m10, kb_m9, kb_m8, kb_m7, kb_m6, kb_m5, kb_m4, kb_m3, kb_m2, kb_6, kb_7, kb_8, kb_9, kb_10, kb_12, kb_13, kb_16, kb_27, kb_31, kb_32, kb_43, kb_45, kb_48, kb_57, kb_60, kb_63, kb_81, kb_97, kb_99, kb_100, kb_120, kb_126, ks_m1000, ks_243, ks_255, ks_729, ks_1000, ks_2000, ks_2187, ks_6561, ks_9840, ks_9841, kl_0, kl_1, hq9, e1, e2, va_up_self, cl_120]
  refine ⟨nz_120, Nat.le_of_ble_eq_true rfl, Nat.le_of_ble_eq_true rfl, Nat.le_of_ble_eq_true rfl, ?_⟩
  refine ⟨nz_120, Nat.le_of_ble_eq_true rfl, Nat.le_of_ble_eq_true rfl, Nat.le_of_ble_eq_true rfl, ?_⟩
  refine h _ ⟨by omega, fun _ => 0, fun _ => 0, va_up_self .., ?_, ?_, fun i q2 hq => by cases hq⟩ ?_
  · rw [va_up_ne _ _ (by omega), va_up_ne _ _ (by omega), va_up_ne _ _ (by omega), va_up_self]; rfl
  · rw [va_up_ne _ _ (by omega), va_up_self]; rfl
  · exact (((mfr.up (by simp)).tr (mfr.up (by simp))).tr (mfr.up (by simp))).tr (mfr.up (by simp))
theorem cl_16 : (nI 16).toNatClampNeg = 16 := by decide +kernel
theorem nz_16 : ¬ nI 16 < nI 0 := by decide +kernel
set_option maxRecDepth 100000 in
set_option maxHeartbeats 4000000 in
theorem c_b5Init (hg : hgo g) (hd : 1 ≤ d) {q : Nat} (hq9 : w q = .inr (1, hdef 1)) (hqN : q < N) (hc1 : 1 ≤ c) (hs1 : 16 ≤ s) (h : ∀ w', hSB w' q N 16 [] → mfr [q, N] w w' → Q none (N + 1) (c - 1) (s - 16) w') : Γ g d yJ5_init_d00df [.ref q, .int (nI 16)] N c s w Q := by
  refine Γ.intro hg kJ5_init_d00df (by omega) (1) (16) (by omega) (by omega) (Nat.le_of_ble_eq_true rfl) (fun P hP => ?_)
  show P N (1) (16) w 0 [some (.ref q), some (.int (nI 16))] []
  rw [kdef1] at hq9
  have e1 : ∀ (w1 : hWd) (e : hE), va_up w1 N e q = w1 q := fun w1 e => va_up_ne _ _ (by omega)
  refine hP 0 _ rfl _ _ _ _ _ _ ?_
  simp only [bJ5_init_d00df_0, hrun, hx, hnth, hput, hok, hcat2, hldI, hldL, hldR, hpI, hpL, hpA, hpR, hp1, hpV, hrtI, hrtL, hrtR, hrtV, hpN, hck, hrI, hrB, hrL, hrA, hwI, hwA, hwB, hrN, hfk, hfs, hrF, hwF, hcl, hfty, tyX1, tyX3, tyX6, tyX9, tyX10, tyJ0, tyJ4, hfit, hcmp, hnar, hres, hst, hacp, kz, kof, kn0, kn1, Bool.not_true, Bool.not_false, true_and, and_true, Nat.zero_add, Nat.reduceAdd, List.length_cons, List.length_nil, true_or, or_true, false_or, or_false, decide_true, decide_false, ne_eq, not_true_eq_false, not_false_eq_true, ki_0, ki_1, ki_2, ki_3, ki_4, ki_5, kb_m100, kb_m10, kb_m9, kb_m8, kb_m7, kb_m6, kb_m5, kb_m4, kb_m3, kb_m2, kb_6, kb_7, kb_8, kb_9, kb_10, kb_12, kb_13, kb_16, kb_27, kb_31, kb_32, kb_43, kb_45, kb_48, kb_57, kb_60, kb_63, kb_81, kb_97, kb_99, kb_100, kb_120, kb_126, ks_m1000, ks_243, ks_255, ks_729, ks_1000, ks_2000, ks_2187, ks_6561, ks_9840, ks_9841, kl_0, kl_1, hq9, e1, va_up_self, cl_16, kone, kfit0, kfit1]
  refine ⟨fun b7 => ?_, fun b7 => ?_⟩
  · (try simp (disch := omega) only [nI_ltI, nI_leI, nI_eq, Nat.not_lt, Nat.not_le] at b7) <;> (exfalso; omega)
  · try simp (disch := omega) only [nI_ltI, nI_leI, nI_eq, Nat.not_lt, Nat.not_le] at b7
    refine hP 1 _ rfl _ _ _ _ _ _ ?_
    simp only [bJ5_init_d00df_1, hrun, hx, hnth, hput, hok, hcat2, hldI, hldL, hldR, hpI, hpL, hpA, hpR, hp1, hpV, hrtI, hrtL, hrtR, hrtV, hpN, hck, hrI, hrB, hrL, hrA, hwI, hwA, hwB, hrN, hfk, hfs, hrF, hwF, hcl, hfty, tyX1, tyX3, tyX6, tyX9, tyX10, tyJ0, tyJ4, hfit, hcmp, hnar, hres, hst, hacp, kz, kof, kn0, kn1, Bool.not_true, Bool.not_false, true_and, and_true, Nat.zero_add, Nat.reduceAdd, List.length_cons, List.length_nil, true_or, or_true, false_or, or_false, decide_true, decide_false, ne_eq, not_true_eq_false, not_false_eq_true, ki_0, ki_1, ki_2, ki_3, ki_4, ki_5, kb_m100, kb_m10, kb_m9, kb_m8, kb_m7, kb_m6, kb_m5, kb_m4, kb_m3, kb_m2, kb_6, kb_7, kb_8, kb_9, kb_10, kb_12, kb_13, kb_16, kb_27, kb_31, kb_32, kb_43, kb_45, kb_48, kb_57, kb_60, kb_63, kb_81, kb_97, kb_99, kb_100, kb_120, kb_126, ks_m1000, ks_243, ks_255, ks_729, ks_1000, ks_2000, ks_2187, ks_6561, ks_9840, ks_9841, kl_0, kl_1, hq9, e1, va_up_self, cl_16, kone, kfit0, kfit1]
    refine ⟨nz_16, Nat.le_of_ble_eq_true rfl, Nat.le_of_ble_eq_true rfl, Nat.le_of_ble_eq_true rfl, ?_⟩
    refine hP 3 _ rfl _ _ _ _ _ _ ?_
    simp only [bJ5_init_d00df_3, hrun, hx, hnth, hput, hok, hcat2, hldI, hldL, hldR, hpI, hpL, hpA, hpR, hp1, hpV, hrtI, hrtL, hrtR, hrtV, hpN, hck, hrI, hrB, hrL, hrA, hwI, hwA, hwB, hrN, hfk, hfs, hrF, hwF, hcl, hfty, tyX1, tyX3, tyX6, tyX9, tyX10, tyJ0, tyJ4, hfit, hcmp, hnar, hres, hst, hacp, kz, kof, kn0, kn1, Bool.not_true, Bool.not_false, true_and, and_true, Nat.zero_add, Nat.reduceAdd, List.length_cons, List.length_nil, true_or, or_true, false_or, or_false, decide_true, decide_false, ne_eq, not_true_eq_false, not_false_eq_true, ki_0, ki_1, ki_2, ki_3, ki_4, ki_5, kb_m100, kb_m10, kb_m9, kb_m8, kb_m7, kb_m6, kb_m5, kb_m4, kb_m3, kb_m2, kb_6, kb_7, kb_8, kb_9, kb_10, kb_12, kb_13, kb_16, kb_27, kb_31, kb_32, kb_43, kb_45, kb_48, kb_57, kb_60, kb_63, kb_81, kb_97, kb_99, kb_100, kb_120, kb_126, ks_m1000, ks_243, ks_255, ks_729, ks_1000, ks_2000, ks_2187, ks_6561, ks_9840, ks_9841, kl_0, kl_1, hq9, e1, va_up_self, cl_16, kone, kfit0, kfit1]
    refine h _ ⟨by omega, Nat.zero_le _, by decide, false, fun _ => 0, va_up_self .., ?_, (fun j hj => by cases hj), fun j hj => kfb 0 (by decide)⟩ ?_
    · rw [va_up_ne _ _ (by omega), va_up_ne _ _ (by omega), va_up_self]; rfl
    · exact ((mfr.up (by simp)).tr (mfr.up (by simp))).tr (mfr.up (by simp))
set_option maxRecDepth 100000 in
set_option maxHeartbeats 4000000 in
theorem c_bInit (hg : hgo g) (hd : 2 ≤ d) {q : Nat} (hq9 : w q = .inr (1, hdef 1)) (hqN : q < N) (hc1 : 1 ≤ c) (hs1 : 16 ≤ s) (h : ∀ w', hSB w' q N 16 [] → mfr [q, N] w w' → Q none (N + 1) (c - 1) (s - 16) w') : Γ g d yJ4_init_da8c8 [.ref q] N c s w Q := by
  refine Γ.intro hg kJ4_init_da8c8 (by omega) (1) (16) (by omega) (by omega) (Nat.le_of_ble_eq_true rfl) (fun P hP => ?_)
  show P N (1) (16) w 0 [some (.ref q)] []
  refine hP 0 _ rfl _ _ _ _ _ _ ?_
  simp only [bJ4_init_da8c8_0, hrun, hx, hnth, hput, hok, hcat2, hldI, hldL, hldR, hpI, hpL, hpA, hpR, hp1, hpV, hrtI, hrtL, hrtR, hrtV, hpN, hck, hrI, hrB, hrL, hrA, hwI, hwA, hwB, hrN, hfk, hfs, hrF, hwF, hcl, hfty, tyX1, tyX3, tyX6, tyX9, tyX10, tyJ0, tyJ4, hfit, hcmp, hnar, hres, hst, hacp, kz, kof, kn0, kn1, Bool.not_true, Bool.not_false, true_and, and_true, Nat.zero_add, Nat.reduceAdd, List.length_cons, List.length_nil, true_or, or_true, false_or, or_false, decide_true, decide_false, ne_eq, not_true_eq_false, not_false_eq_true, ki_0, ki_1, ki_2, ki_3, ki_4, ki_5, kb_m100, kb_m10, kb_m9, kb_m8, kb_m7, kb_m6, kb_m5, kb_m4, kb_m3, kb_m2, kb_6, kb_7, kb_8, kb_9, kb_10, kb_12, kb_13, kb_16, kb_27, kb_31, kb_32, kb_43, kb_45, kb_48, kb_57, kb_60, kb_63, kb_81, kb_97, kb_99, kb_100, kb_120, kb_126, ks_m1000, ks_243, ks_255, ks_729, ks_1000, ks_2000, ks_2187, ks_6561, ks_9840, ks_9841, kl_0, kl_1, hq9]
  refine c_b5Init hg (by omega) hq9 hqN (Nat.le_refl _) (Nat.le_refl _) (fun w1 h1 hm1 => ?_)
  simp only [hrun, hx, hnth, hput, hok, hcat2, hldI, hldL, hldR, hpI, hpL, hpA, hpR, hp1, hpV, hrtI, hrtL, hrtR, hrtV, hpN, hck, hrI, hrB, hrL, hrA, hwI, hwA, hwB, hrN, hfk, hfs, hrF, hwF, hcl, hfty, tyX1, tyX3, tyX6, tyX9, tyX10, tyJ0, tyJ4, hfit, hcmp, hnar, hres, hst, hacp, kz, kof, kn0, kn1, Bool.not_true, Bool.not_false, true_and, and_true, Nat.zero_add, Nat.reduceAdd, List.length_cons, List.length_nil, true_or, or_true, false_or, or_false, decide_true, decide_false, ne_eq, not_true_eq_false, not_false_eq_true, ki_0, ki_1, ki_2, ki_3, ki_4, ki_5, kb_m100, kb_m10, kb_m9, kb_m8, kb_m7, kb_m6, kb_m5, kb_m4, kb_m3, kb_m2, kb_6, kb_7, kb_8, kb_9, kb_10, kb_12, kb_13, kb_16, kb_27, kb_31, kb_32, kb_43, kb_45, kb_48, kb_57, kb_60, kb_63, kb_81, kb_97, kb_99, kb_100, kb_120, kb_126, ks_m1000, ks_243, ks_255, ks_729, ks_1000, ks_2000, ks_2187, ks_6561, ks_9840, ks_9841, kl_0, kl_1, hq9]
  exact h w1 h1 hm1
set_option maxRecDepth 100000 in
set_option maxHeartbeats 4000000 in
theorem c_sumInit (hg : hgo g) (hd : 1 ≤ d) {q : Nat} (hq9 : w q = .inr (4, hdef 4)) (hqN : q < N) (hc1 : 1 ≤ c) (hs1 : 9841 ≤ s) (h : ∀ w', hSum w' q N (fun _ => 0) → mfr [q, N] w w' → Q none (N + 1) (c - 1) (s - 9841) w') : Γ g d yX6_init [.ref q] N c s w Q := by
  refine Γ.intro hg kX6_init (by omega) (1) (9841) (by omega) (by omega) (Nat.le_of_ble_eq_true rfl) (fun P hP => ?_)
  show P N (1) (9841) w 0 [some (.ref q)] []
  rw [kdef4] at hq9
  have e1 : ∀ (w1 : hWd) (e : hE), va_up w1 N e q = w1 q := fun w1 e => va_up_ne _ _ (by omega)
  refine hP 0 _ rfl _ _ _ _ _ _ ?_
  simp only [bX6_init_0, hrun, hx, hnth, hput, hok, hcat2, hldI, hldL, hldR, hpI, hpL, hpA, hpR, hp1, hpV, hrtI, hrtL, hrtR, hrtV, hpN, hck, hrI, hrB, hrL, hrA, hwI, hwA, hwB, hrN, hfk, hfs, hrF, hwF, hcl, hfty, tyX1, tyX3, tyX6, tyX9, tyX10, tyJ0, tyJ4, hfit, hcmp, hnar, hres, hst, hacp, kz, kof, kn0, kn1, Bool.not_true, Bool.not_false, true_and, and_true, Nat.zero_add, Nat.reduceAdd, List.length_cons, List.length_nil, true_or, or_true, false_or, or_false, decide_true, decide_false, ne_eq, not_true_eq_false, not_false_eq_true, ki_0, ki_1, ki_2, ki_3, ki_4, ki_5, kb_m100, kb_m10, kb_m9, kb_m8, kb_m7, kb_m6, kb_m5, kb_m4, kb_m3, kb_m2, kb_6, kb_7, kb_8, kb_9, kb_10, kb_12, kb_13, kb_16, kb_27, kb_31, kb_32, kb_43, kb_45, kb_48, kb_57, kb_60, kb_63, kb_81, kb_97, kb_99, kb_100, kb_120, kb_126, ks_m1000, ks_243, ks_255, ks_729, ks_1000, ks_2000, ks_2187, ks_6561, ks_9840, ks_9841, kl_0, kl_1, hq9, e1, va_up_self, cl_9841, km1]
  refine ⟨nz_9841, Nat.le_of_ble_eq_true rfl, Nat.le_of_ble_eq_true rfl, Nat.le_of_ble_eq_true rfl, ?_⟩
  refine h _ ⟨by omega, 9841, 0, fun _ => 0, va_up_self .., ?_, Nat.le_refl _, Nat.zero_le _, fun _ _ => rfl, fun c hc hq => absurd rfl hq⟩ ?_
  · rw [va_up_ne _ _ (by omega), va_up_ne _ _ (by omega), va_up_ne _ _ (by omega), va_up_self]; rfl
  · exact (((mfr.up (by simp)).tr (mfr.up (by simp))).tr (mfr.up (by simp))).tr (mfr.up (by simp))
set_option maxRecDepth 100000 in
set_option maxHeartbeats 4000000 in
theorem c_facInit (hg : hgo g) (hd : 1 ≤ d) {q : Nat} (hq9 : w q = .inr (2, hdef 2)) (hqN : q < N) (hc1 : 4 ≤ c) (hs1 : 33 ≤ s) (h : ∀ w', hF9 w' q N (N + 1) (N + 2) (N + 3) → mfr [q, N, N + 1, N + 2, N + 3] w w' → Q none (N + 4) (c - 4) (s - 33) w') : Γ g d yX1_init [.ref q] N c s w Q := by
  refine Γ.intro hg kX1_init (by omega) (4) (33) (by omega) (by omega) (Nat.le_of_ble_eq_true rfl) (fun P hP => ?_)
  show P N (4) (33) w 0 [some (.ref q)] []
  rw [kdef2] at hq9
  have e1 : ∀ (w1 : hWd) (e : hE), va_up w1 N e q = w1 q := fun w1 e => va_up_ne _ _ (by omega)
  have e2 : ∀ (w1 : hWd) (e : hE), va_up w1 (N + 1) e q = w1 q := fun w1 e => va_up_ne _ _ (by omega)
  have e3 : ∀ (w1 : hWd) (e : hE), va_up w1 (N + 1 + 1) e q = w1 q := fun w1 e => va_up_ne _ _ (by omega)
  have e4 : ∀ (w1 : hWd) (e : hE), va_up w1 (N + 1 + 1 + 1) e q = w1 q := fun w1 e => va_up_ne _ _ (by omega)
  refine hP 0 _ rfl _ _ _ _ _ _ ?_
  simp only [bX1_init_0, hrun, hx, hnth, hput, hok, hcat2, hldI, hldL, hldR, hpI, hpL, hpA, hpR, hp1, hpV, hrtI, hrtL, hrtR, hrtV, hpN, hck, hrI, hrB, hrL, hrA, hwI, hwA, hwB, hrN, hfk, hfs, hrF, hwF, hcl, hfty, tyX1, tyX3, tyX6, tyX9, tyX10, tyJ0, tyJ4, hfit, hcmp, hnar, hres, hst, hacp, kz, kof, kn0, kn1, Bool.not_true, Bool.not_false, true_and, and_true, Nat.zero_add, Nat.reduceAdd, List.length_cons, List.length_nil, true_or, or_true, false_or, or_false, decide_true, decide_false, ne_eq, not_true_eq_false, not_false_eq_true, ki_0, ki_1, ki_2, ki_3, ki_4, ki_5, kb_m100, kb_m10, kb_m9, kb_m8, kb_m7, kb_m6, kb_m5, kb_m4, kb_m3, kb_m2, kb_6, kb_7, kb_8, kb_9, kb_10, kb_12, kb_13, kb_16, kb_27, kb_31, kb_32, kb_43, kb_45, kb_48, kb_57, kb_60, kb_63, kb_81, kb_97, kb_99, kb_100, kb_120, kb_126, ks_m1000, ks_243, ks_255, ks_729, ks_1000, ks_2000, ks_2187, ks_6561, ks_9840, ks_9841, kl_0, kl_1, hq9, e1, e2, e3, e4, va_up_self, cl_8, cl_9]
  refine ⟨nz_8, Nat.le_of_ble_eq_true rfl, Nat.le_of_ble_eq_true rfl, Nat.le_of_ble_eq_true rfl, ?_⟩
  refine ⟨nz_9, Nat.le_of_ble_eq_true rfl, Nat.le_of_ble_eq_true rfl, Nat.le_of_ble_eq_true rfl, ?_⟩
  refine ⟨nz_8, Nat.le_of_ble_eq_true rfl, Nat.le_of_ble_eq_true rfl, Nat.le_of_ble_eq_true rfl, ?_⟩
  refine ⟨nz_8, Nat.le_of_ble_eq_true rfl, Nat.le_of_ble_eq_true rfl, Nat.le_of_ble_eq_true rfl, ?_⟩
  have up9 : ∀ {w1 : hWd} {j k : Nat} {e : hE}, j ≠ k → va_up w1 k e j = w1 j := fun hjk => va_up_ne _ _ hjk
  refine h _ ⟨⟨by omega, by omega, by omega, by omega, by omega, by omega, by omega, by omega, by omega, by omega⟩, nI 0, fun _ => 0, fun _ => 0, fun _ => 0, fun _ => 0, va_up_self .., ?_, ?_, ?_, ?_⟩ ?_
  · refine z_row ?_
    rw [up9 (by omega), up9 (by omega), up9 (by omega), up9 (by omega), up9 (by omega), up9 (by omega), up9 (by omega), va_up_self]
  · rw [up9 (by omega), up9 (by omega), up9 (by omega), up9 (by omega), up9 (by omega), va_up_self]; rfl
  · rw [up9 (by omega), up9 (by omega), up9 (by omega), show N + 2 = N + 1 + 1 from rfl, va_up_self]; rfl
  · rw [up9 (by omega), show N + 3 = N + 1 + 1 + 1 from rfl, va_up_self]; rfl
  · intro j hj
    simp at hj
    rw [up9 (by omega), up9 (by omega), up9 (by omega), up9 (by omega), up9 (by omega), up9 (by omega), up9 (by omega), up9 (by omega)]
set_option maxRecDepth 100000 in
set_option maxHeartbeats 4000000 in
theorem c_xInit (hg : hgo g) (hd : 6 ≤ d) (h0 : w 0 = .inr (5, hdef 5)) (hpw : w 1000001 = .inl (10, 9, .inl mpow)) (hct : w 1000002 = .inl (10, 13, .inl mcnt)) (hc1 : 46 ≤ c) (hs1 : 13000 ≤ s) (h : ∀ w', hX w' S0 → hSB w' 5 6 16 [] → hSB w' 7 8 16 [] → (∀ i, 47 ≤ i → w' i = w i) → Q none 47 (c - 46) (s - 13000) w') : Γ g d yX9_init [.ref 0] 1 c s w Q := by
  refine Γ.cg ?_
  refine Γ.intro hg kX9_initB (by omega) 46 13000 hc1 hs1 (Nat.le_of_ble_eq_true rfl) (fun P hP => ?_)
  show P 1 46 13000 w 0 [some (.ref 0), none] []
  have eo0 : ∀ (w1 : hWd) (N : Nat) (e : hE), 0 < N → va_up w1 N e 0 = w1 0 := fun w1 N e hN => va_up_ne _ _ (by omega)
  have loop : ∀ (n i : Nat) (w1 : hWd) (f3 f4 : Nat → Option Nat) (c1 s1 : Nat), 5 - i = n → i ≤ 5 → 6 * (5 - i) ≤ c1 → 486 * (5 - i) ≤ s1 → w1 0 = .inr (5, [.ref 1, .ref 2, .ref 3, .ref 4, .int (nI 0), .ref 5, .ref 7, .ref 9, .ref 11, .ref 16]) → w1 1 = hzero 0 3 → w1 2 = hzero 0 3 → hSB w1 5 6 16 [] → hSB w1 7 8 16 [] → hSum w1 9 10 (fun _ => 0) → hF9 w1 11 12 13 14 15 → w1 16 = hzero 0 8 → w1 3 = .inl (4, 5, .inr (.inr (.inr (.inr f3)))) → (∀ j, f3 j = if j < i then some (17 + 6 * j) else none) → w1 4 = .inl (4, 5, .inr (.inr (.inr (.inr f4)))) → (∀ j, f4 j = if j < i then some (20 + 6 * j) else none) → (∀ j, j < i → hPoly w1 (17 + 6 * j) (17 + 1 + 6 * j) (17 + 2 + 6 * j) [] ∧ hPoly w1 (20 + 6 * j) (20 + 1 + 6 * j) (20 + 2 + 6 * j) []) → (∀ i, 47 ≤ i → w1 i = w i) → P (17 + 6 * i) c1 s1 w1 88 [some (.ref 0), some (.int (nI i))] [] := by
    intro n
    induction n with
    | zero =>
      intro i w1 f3 f4 c1 s1 hn hi hc5 hs5 z0 z1 z2 b5 b7 s9 f11 l16 z3 hf3 z4 hf4 hp9 hf
      obtain rfl : i = 5 := by omega
      refine hP 10 _ rfl _ _ _ _ _ _ ?_
      simp only [bX9_initB_10, hrun, hx, hnth, hput, hok, hcat2, hldI, hldL, hldR, hpI, hpL, hpA, hpR, hp1, hpV, hrtI, hrtL, hrtR, hrtV, hpN, hck, hrI, hrB, hrL, hrA, hwI, hwA, hwB, hrN, hfk, hfs, hrF, hwF, hcl, hfty, tyX1, tyX3, tyX6, tyX9, tyX10, tyJ0, tyJ4, hfit, hcmp, hnar, hres, hst, hacp, kz, kof, kn0, kn1, Bool.not_true, Bool.not_false, true_and, and_true, Nat.zero_add, Nat.reduceAdd, List.length_cons, List.length_nil, true_or, or_true, false_or, or_false, decide_true, decide_false, ne_eq, not_true_eq_false, not_false_eq_true, ki_0, ki_1, ki_2, ki_3, ki_4, ki_5, kb_m100, kb_m10, kb_m9, kb_m8, kb_m7, kb_m6, kb_m5, kb_m4, kb_m3, kb_m2, kb_6, kb_7, kb_8, kb_9, kb_10, kb_12, kb_13, kb_16, kb_27, kb_31, kb_32, kb_43, kb_45, kb_48, kb_57, kb_60, kb_63, kb_81, kb_97, kb_99, kb_100, kb_120, kb_126, ks_m1000, ks_243, ks_255, ks_729, ks_1000, ks_2000, ks_2187, ks_6561, ks_9840, ks_9841, kl_0, kl_1, z0]
      refine ⟨fun b90 => ?_, fun b90 => ?_⟩
      · try simp (disch := omega) only [nI_ltI, nI_leI, nI_eq, Nat.not_lt, Nat.not_le] at b90
        refine hP 12 _ rfl _ _ _ _ _ _ ?_
        simp only [bX9_initB_12, hrun, hx, hnth, hput, hok, hcat2, hldI, hldL, hldR, hpI, hpL, hpA, hpR, hp1, hpV, hrtI, hrtL, hrtR, hrtV, hpN, hck, hrI, hrB, hrL, hrA, hwI, hwA, hwB, hrN, hfk, hfs, hrF, hwF, hcl, hfty, tyX1, tyX3, tyX6, tyX9, tyX10, tyJ0, tyJ4, hfit, hcmp, hnar, hres, hst, hacp, kz, kof, kn0, kn1, Bool.not_true, Bool.not_false, true_and, and_true, Nat.zero_add, Nat.reduceAdd, List.length_cons, List.length_nil, true_or, or_true, false_or, or_false, decide_true, decide_false, ne_eq, not_true_eq_false, not_false_eq_true, ki_0, ki_1, ki_2, ki_3, ki_4, ki_5, kb_m100, kb_m10, kb_m9, kb_m8, kb_m7, kb_m6, kb_m5, kb_m4, kb_m3, kb_m2, kb_6, kb_7, kb_8, kb_9, kb_10, kb_12, kb_13, kb_16, kb_27, kb_31, kb_32, kb_43, kb_45, kb_48, kb_57, kb_60, kb_63, kb_81, kb_97, kb_99, kb_100, kb_120, kb_126, ks_m1000, ks_243, ks_255, ks_729, ks_1000, ks_2000, ks_2187, ks_6561, ks_9840, ks_9841, kl_0, kl_1, z0]
        refine ⟨fun i => if i = 3 then .inl (4, 5, .inr (.inr (.inr (.inr fun i => some (17 + 6 * i))))) else if i = 4 then .inl (4, 5, .inr (.inr (.inr (.inr fun i => some (20 + 6 * i))))) else w1 i, ⟨fun i hi => (if_neg (by omega)).trans (if_neg (by omega)), fun i hi => ?_⟩, ?_⟩
        · show hEq (w1 i) (if i = 3 then _ else if i = 4 then _ else w1 i)
          by_cases q : i = 3
          · subst q; rw [if_pos rfl, z3]; exact ⟨rfl, rfl, fun j hj => by rw [hf3, if_pos hj]⟩
          · rw [if_neg q]
            by_cases q4 : i = 4
            · subst q4; rw [if_pos rfl, z4]; exact ⟨rfl, rfl, fun j hj => by rw [hf4, if_pos hj]⟩
            · rw [if_neg q4]; exact hEq.rf _
        · generalize hw2 : (fun i => if i = 3 then (.inl (4, 5, .inr (.inr (.inr (.inr fun i => some (17 + 6 * i))))) : hE) else if i = 4 then .inl (4, 5, .inr (.inr (.inr (.inr fun i => some (20 + 6 * i))))) else w1 i) = w2
          have fr : ∀ j, j ≠ 3 → j ≠ 4 → w2 j = w1 j := fun j h1 h2 => by rw [← hw2]; exact (if_neg h1).trans (if_neg h2)
          have y3 : w2 3 = .inl (4, 5, .inr (.inr (.inr (.inr fun i => some (17 + 6 * i))))) := by rw [← hw2]; rfl
          have y4 : w2 4 = .inl (4, 5, .inr (.inr (.inr (.inr fun i => some (20 + 6 * i))))) := by rw [← hw2]; rfl
          refine h w2 ⟨(fr 0 (by decide) (by decide)).trans z0, ⟨_, (fr 1 (by decide) (by decide)).trans z1, fun i hi => ⟨rfl, mW.nil⟩⟩, ⟨_, (fr 2 (by decide) (by decide)).trans z2, fun i hi => ⟨rfl, mW.nil⟩⟩, y3, y4, fun i hi => ⟨(hp9 i hi).1.keep (fr _ (by omega) (by omega)) (fr _ (by omega) (by omega)) (fr _ (by omega) (by omega)), mP_nil⟩, fun i hi => ⟨(hp9 i hi).2.keep (fr _ (by omega) (by omega)) (fr _ (by omega) (by omega)) (fr _ (by omega) (by omega)), mP_nil⟩, s9.keep (fr 9 (by decide) (by decide)) (fr 10 (by decide) (by decide)), f11.keep (fun i hi => by simp at hi; exact fr _ (by omega) (by omega)), ⟨_, z_row ((fr 16 (by decide) (by decide)).trans l16)⟩, ((fr _ (by decide) (by decide)).trans (hf _ (by decide))).trans hpw, ((fr _ (by decide) (by decide)).trans (hf _ (by decide))).trans hct⟩ (b5.keep (fr 5 (by decide) (by decide)) (fr 6 (by decide) (by decide))) (b7.keep (fr 7 (by decide) (by decide)) (fr 8 (by decide) (by decide))) (fun i hi => (fr i (by omega) (by omega)).trans (hf i hi))
      · (try simp (disch := omega) only [nI_ltI, nI_leI, nI_eq, Nat.not_lt, Nat.not_le] at b90) <;> (exfalso; omega)
    | succ n ih =>
      intro i w1 f3 f4 c1 s1 hn hi hc5 hs5 z0 z1 z2 b5 b7 s9 f11 l16 z3 hf3 z4 hf4 hp9 hf
      have e_i := nI_clamp (n := i) (by omega)
      refine hP 10 _ rfl _ _ _ _ _ _ ?_
      simp only [bX9_initB_10, hrun, hx, hnth, hput, hok, hcat2, hldI, hldL, hldR, hpI, hpL, hpA, hpR, hp1, hpV, hrtI, hrtL, hrtR, hrtV, hpN, hck, hrI, hrB, hrL, hrA, hwI, hwA, hwB, hrN, hfk, hfs, hrF, hwF, hcl, hfty, tyX1, tyX3, tyX6, tyX9, tyX10, tyJ0, tyJ4, hfit, hcmp, hnar, hres, hst, hacp, kz, kof, kn0, kn1, Bool.not_true, Bool.not_false, true_and, and_true, Nat.zero_add, Nat.reduceAdd, List.length_cons, List.length_nil, true_or, or_true, false_or, or_false, decide_true, decide_false, ne_eq, not_true_eq_false, not_false_eq_true, ki_0, ki_1, ki_2, ki_3, ki_4, ki_5, kb_m100, kb_m10, kb_m9, kb_m8, kb_m7, kb_m6, kb_m5, kb_m4, kb_m3, kb_m2, kb_6, kb_7, kb_8, kb_9, kb_10, kb_12, kb_13, kb_16, kb_27, kb_31, kb_32, kb_43, kb_45, kb_48, kb_57, kb_60, kb_63, kb_81, kb_97, kb_99, kb_100, kb_120, kb_126, ks_m1000, ks_243, ks_255, ks_729, ks_1000, ks_2000, ks_2187, ks_6561, ks_9840, ks_9841, kl_0, kl_1, z0, z3, z4, e_i, va_up_self, hnum, va_rf]
      refine ⟨fun b90 => ?_, fun b90 => ?_⟩
      · (try simp (disch := omega) only [nI_ltI, nI_leI, nI_eq, Nat.not_lt, Nat.not_le] at b90) <;> (exfalso; omega)
      · try simp (disch := omega) only [nI_ltI, nI_leI, nI_eq, Nat.not_lt, Nat.not_le] at b90
        refine hP 11 _ rfl _ _ _ _ _ _ ?_
        simp only [bX9_initB_11, hrun, hx, hnth, hput, hok, hcat2, hldI, hldL, hldR, hpI, hpL, hpA, hpR, hp1, hpV, hrtI, hrtL, hrtR, hrtV, hpN, hck, hrI, hrB, hrL, hrA, hwI, hwA, hwB, hrN, hfk, hfs, hrF, hwF, hcl, hfty, tyX1, tyX3, tyX6, tyX9, tyX10, tyJ0, tyJ4, hfit, hcmp, hnar, hres, hst, hacp, kz, kof, kn0, kn1, Bool.not_true, Bool.not_false, true_and, and_true, Nat.zero_add, Nat.reduceAdd, List.length_cons, List.length_nil, true_or, or_true, false_or, or_false, decide_true, decide_false, ne_eq, not_true_eq_false, not_false_eq_true, ki_0, ki_1, ki_2, ki_3, ki_4, ki_5, kb_m100, kb_m10, kb_m9, kb_m8, kb_m7, kb_m6, kb_m5, kb_m4, kb_m3, kb_m2, kb_6, kb_7, kb_8, kb_9, kb_10, kb_12, kb_13, kb_16, kb_27, kb_31, kb_32, kb_43, kb_45, kb_48, kb_57, kb_60, kb_63, kb_81, kb_97, kb_99, kb_100, kb_120, kb_126, ks_m1000, ks_243, ks_255, ks_729, ks_1000, ks_2000, ks_2187, ks_6561, ks_9840, ks_9841, kl_0, kl_1, z0, z3, z4, e_i, va_up_self, hnum, va_rf]
        refine ⟨by omega, by omega, ?_⟩
        refine c_polyInit hg (by omega) (va_up_self ..) (by omega) (by omega) (by omega) (fun w2 hp2 hm2 => ?_)
        have fr2 : ∀ j, (j < 17 + 6 * i ∨ 17 + 6 * i + 2 < j) → w2 j = w1 j := fun j hj => (hm2 j (by simp <;> omega)).trans (va_up_ne _ _ (by omega))
        have y0 : w2 0 = _ := (fr2 0 (by omega)).trans z0
        have y3 : w2 3 = _ := (fr2 3 (by omega)).trans z3
        have y4 : w2 4 = _ := (fr2 4 (by omega)).trans z4
        obtain ⟨fsp, kp2⟩ := hp2.cl
        have eo3 : ∀ (e : hE) (j : Nat), j ≠ 3 → va_up w2 3 e j = w2 j := fun e j hj => va_up_ne _ _ hj
        have x0 : ∀ e, va_up w2 3 e 0 = _ := fun e => (eo3 e 0 (by decide)).trans y0
        simp only [hrun, hx, hnth, hput, hok, hcat2, hldI, hldL, hldR, hpI, hpL, hpA, hpR, hp1, hpV, hrtI, hrtL, hrtR, hrtV, hpN, hck, hrI, hrB, hrL, hrA, hwI, hwA, hwB, hrN, hfk, hfs, hrF, hwF, hcl, hfty, tyX1, tyX3, tyX6, tyX9, tyX10, tyJ0, tyJ4, hfit, hcmp, hnar, hres, hst, hacp, kz, kof, kn0, kn1, Bool.not_true, Bool.not_false, true_and, and_true, Nat.zero_add, Nat.reduceAdd, List.length_cons, List.length_nil, true_or, or_true, false_or, or_false, decide_true, decide_false, ne_eq, not_true_eq_false, not_false_eq_true, ki_0, ki_1, ki_2, ki_3, ki_4, ki_5, kb_m100, kb_m10, kb_m9, kb_m8, kb_m7, kb_m6, kb_m5, kb_m4, kb_m3, kb_m2, kb_6, kb_7, kb_8, kb_9, kb_10, kb_12, kb_13, kb_16, kb_27, kb_31, kb_32, kb_43, kb_45, kb_48, kb_57, kb_60, kb_63, kb_81, kb_97, kb_99, kb_100, kb_120, kb_126, ks_m1000, ks_243, ks_255, ks_729, ks_1000, ks_2000, ks_2187, ks_6561, ks_9840, ks_9841, kl_0, kl_1, y0, y3, kp2, x0, y4, e_i, va_up_self, hnum, va_rf, y0, y3, kp2]
        refine ⟨vp_in_nI (by omega) (by omega), ?_⟩
        refine ⟨by omega, by omega, ?_⟩
        refine c_polyInit hg (by omega) (va_up_self ..) (by omega) (by omega) (by omega) (fun w3 hp3 hm3 => ?_)
        have fr3 : ∀ j, j ≠ 3 → (j < 17 + 6 * i ∨ 17 + 6 * i + 5 < j) → w3 j = w1 j := fun j h1 hj => (hm3 j (by simp <;> omega)).trans ((va_up_ne _ _ (by omega)).trans ((eo3 _ j h1).trans (fr2 j (by omega))))
        have u0 : w3 0 = _ := (fr3 0 (by decide) (by omega)).trans z0
        have u4 : w3 4 = _ := (fr3 4 (by decide) (by omega)).trans z4
        have u3 : w3 3 = _ := (hm3 3 (by simp <;> omega)).trans ((va_up_ne _ _ (by omega)).trans (va_up_self ..))
        have hp4 := hp2.keep (w' := w3) ((hm3 _ (by simp <;> omega)).trans ((va_up_ne _ _ (by omega)).trans (eo3 _ _ (by omega)))) ((hm3 _ (by simp <;> omega)).trans ((va_up_ne _ _ (by omega)).trans (eo3 _ _ (by omega)))) ((hm3 _ (by simp <;> omega)).trans ((va_up_ne _ _ (by omega)).trans (eo3 _ _ (by omega))))
        obtain ⟨fsq, kp3⟩ := hp3.cl
        simp only [hrun, hx, hnth, hput, hok, hcat2, hldI, hldL, hldR, hpI, hpL, hpA, hpR, hp1, hpV, hrtI, hrtL, hrtR, hrtV, hpN, hck, hrI, hrB, hrL, hrA, hwI, hwA, hwB, hrN, hfk, hfs, hrF, hwF, hcl, hfty, tyX1, tyX3, tyX6, tyX9, tyX10, tyJ0, tyJ4, hfit, hcmp, hnar, hres, hst, hacp, kz, kof, kn0, kn1, Bool.not_true, Bool.not_false, true_and, and_true, Nat.zero_add, Nat.reduceAdd, List.length_cons, List.length_nil, true_or, or_true, false_or, or_false, decide_true, decide_false, ne_eq, not_true_eq_false, not_false_eq_true, ki_0, ki_1, ki_2, ki_3, ki_4, ki_5, kb_m100, kb_m10, kb_m9, kb_m8, kb_m7, kb_m6, kb_m5, kb_m4, kb_m3, kb_m2, kb_6, kb_7, kb_8, kb_9, kb_10, kb_12, kb_13, kb_16, kb_27, kb_31, kb_32, kb_43, kb_45, kb_48, kb_57, kb_60, kb_63, kb_81, kb_97, kb_99, kb_100, kb_120, kb_126, ks_m1000, ks_243, ks_255, ks_729, ks_1000, ks_2000, ks_2187, ks_6561, ks_9840, ks_9841, kl_0, kl_1, y0, y3, kp2, x0, y4, e_i, va_up_self, hnum, va_rf, u0, u4, kp3]
        refine ⟨vp_in_nI (by omega) (by omega), ?_⟩
        have eo4 : ∀ (e : hE) (j : Nat), j ≠ 4 → va_up w3 4 e j = w3 j := fun e j hj => va_up_ne _ _ hj
        have fr4 : ∀ (e : hE) (j : Nat), j ≠ 3 → j ≠ 4 → (j < 17 + 6 * i ∨ 17 + 6 * i + 5 < j) → va_up w3 4 e j = w1 j := fun e j h1 h2 h3 => (eo4 e j h2).trans (fr3 j h1 h3)
        rw [nI_add, show 17 + 6 * i + 1 + 2 + 1 + 2 = 17 + 6 * (i + 1) by omega]
        refine ih (i + 1) _ _ _ _ _ (by omega) (by omega) (by omega) (by omega) ((fr4 _ 0 (by decide) (by decide) (by omega)).trans z0) ((fr4 _ 1 (by decide) (by decide) (by omega)).trans z1) ((fr4 _ 2 (by decide) (by decide) (by omega)).trans z2) (b5.keep (fr4 _ 5 (by decide) (by decide) (by omega)) (fr4 _ 6 (by decide) (by decide) (by omega))) (b7.keep (fr4 _ 7 (by decide) (by decide) (by omega)) (fr4 _ 8 (by decide) (by decide) (by omega))) (s9.keep (fr4 _ 9 (by decide) (by decide) (by omega)) (fr4 _ 10 (by decide) (by decide) (by omega))) (f11.keep (fun i hi => by simp at hi; exact fr4 _ _ (by omega) (by omega) (by omega))) ((fr4 _ 16 (by decide) (by decide) (by omega)).trans l16) ((eo4 _ 3 (by decide)).trans u3) (fun j => ?_) (va_up_self ..) (fun j => ?_) (fun j hj => ?_) (fun j hj => (fr4 _ j (by omega) (by omega) (by omega)).trans (hf j hj))
        · unfold va_up
          by_cases q : j = i
          · subst q; rw [if_pos rfl, if_pos (by omega)]
          · rw [if_neg q, hf3]
            by_cases q2 : j < i
            · rw [if_pos q2, if_pos (by omega)]
            · rw [if_neg q2, if_neg (by omega)]
        · unfold va_up
          by_cases q : j = i
          · subst q; rw [if_pos rfl, if_pos (by omega), show 17 + 6 * j + 1 + 2 = 20 + 6 * j by omega]
          · rw [if_neg q, hf4]
            by_cases q2 : j < i
            · rw [if_pos q2, if_pos (by omega)]
            · rw [if_neg q2, if_neg (by omega)]
        · by_cases q : j = i
          · subst q
            have a1 := fun e => hp4.keep (w' := va_up w3 4 e) (eo4 _ _ (by omega)) (eo4 _ _ (by omega)) (eo4 _ _ (by omega))
            have a2 := fun e => hp3.keep (w' := va_up w3 4 e) (eo4 _ _ (by omega)) (eo4 _ _ (by omega)) (eo4 _ _ (by omega))
            refine ⟨?_, ?_⟩
            · rw [show 17 + 1 + 6 * j = 17 + 6 * j + 1 by omega, show 17 + 2 + 6 * j = 17 + 6 * j + 1 + 1 by omega]
              exact a1 _
            · rw [show 20 + 6 * j = 17 + 6 * j + 1 + 2 by omega, show 20 + 1 + 6 * j = 17 + 6 * j + 1 + 2 + 1 by omega, show 20 + 2 + 6 * j = 17 + 6 * j + 1 + 2 + 1 + 1 by omega]
              exact a2 _
          · have b9 := hp9 j (by omega)
            exact ⟨b9.1.keep (fr4 _ _ (by omega) (by omega) (by omega)) (fr4 _ _ (by omega) (by omega) (by omega)) (fr4 _ _ (by omega) (by omega) (by omega)), b9.2.keep (fr4 _ _ (by omega) (by omega) (by omega)) (fr4 _ _ (by omega) (by omega) (by omega)) (fr4 _ _ (by omega) (by omega) (by omega))⟩
  have s86 : ∀ w1, w1 0 = .inr (5, [.ref 1, .ref 2, .ref 3, .ref 4, .int (nI 0), .ref 5, .ref 7, .ref 9, .ref 11, .ref 16]) → w1 1 = hzero 0 3 → w1 2 = hzero 0 3 → w1 3 = .inl (4, 5, .inr (.inr (.inr (.inr fun _ => none)))) → w1 4 = .inl (4, 5, .inr (.inr (.inr (.inr fun _ => none)))) → hSB w1 5 6 16 [] → hSB w1 7 8 16 [] → hSum w1 9 10 (fun _ => 0) → hF9 w1 11 12 13 14 15 → w1 16 = hzero 0 8 → (∀ i, 47 ≤ i → w1 i = w i) → P 17 30 3054 w1 86 [some (.ref 0), none] [] := by
    intro w1 z0 z1 z2 z3 z4 b5 b7 s9 f11 l16 hf
    refine hP 9 _ rfl _ _ _ _ _ _ ?_
    simp only [bX9_initB_9, hrun, hx, hnth, hput, hok, hcat2, hldI, hldL, hldR, hpI, hpL, hpA, hpR, hp1, hpV, hrtI, hrtL, hrtR, hrtV, hpN, hck, hrI, hrB, hrL, hrA, hwI, hwA, hwB, hrN, hfk, hfs, hrF, hwF, hcl, hfty, tyX1, tyX3, tyX6, tyX9, tyX10, tyJ0, tyJ4, hfit, hcmp, hnar, hres, hst, hacp, kz, kof, kn0, kn1, Bool.not_true, Bool.not_false, true_and, and_true, Nat.zero_add, Nat.reduceAdd, List.length_cons, List.length_nil, true_or, or_true, false_or, or_false, decide_true, decide_false, ne_eq, not_true_eq_false, not_false_eq_true, ki_0, ki_1, ki_2, ki_3, ki_4, ki_5, kb_m100, kb_m10, kb_m9, kb_m8, kb_m7, kb_m6, kb_m5, kb_m4, kb_m3, kb_m2, kb_6, kb_7, kb_8, kb_9, kb_10, kb_12, kb_13, kb_16, kb_27, kb_31, kb_32, kb_43, kb_45, kb_48, kb_57, kb_60, kb_63, kb_81, kb_97, kb_99, kb_100, kb_120, kb_126, ks_m1000, ks_243, ks_255, ks_729, ks_1000, ks_2000, ks_2187, ks_6561, ks_9840, ks_9841, kl_0, kl_1, z0]
    exact loop 5 0 w1 _ _ _ _ rfl (by decide) (by decide) (by decide) z0 z1 z2 b5 b7 s9 f11 l16 z3 (fun j => (if_neg (Nat.not_lt_zero j)).symm) z4 (fun j => (if_neg (Nat.not_lt_zero j)).symm) (fun j hj => by omega) hf
  have s78 : ∀ w1, w1 0 = .inr (5, [.ref 1, .ref 2, .ref 3, .ref 4, .int (nI 0), .ref 5, .ref 7, .ref 9, .ref 11, .null]) → w1 1 = hzero 0 3 → w1 2 = hzero 0 3 → w1 3 = .inl (4, 5, .inr (.inr (.inr (.inr fun _ => none)))) → w1 4 = .inl (4, 5, .inr (.inr (.inr (.inr fun _ => none)))) → hSB w1 5 6 16 [] → hSB w1 7 8 16 [] → hSum w1 9 10 (fun _ => 0) → hF9 w1 11 12 13 14 15 → (∀ i, 47 ≤ i → w1 i = w i) → P 16 31 3062 w1 78 [some (.ref 0), none] [] := by
    intro w1 z0 z1 z2 z3 z4 b5 b7 s9 f11 hf
    refine hP 8 _ rfl _ _ _ _ _ _ ?_
    simp only [bX9_initB_8, hrun, hx, hnth, hput, hok, hcat2, hldI, hldL, hldR, hpI, hpL, hpA, hpR, hp1, hpV, hrtI, hrtL, hrtR, hrtV, hpN, hck, hrI, hrB, hrL, hrA, hwI, hwA, hwB, hrN, hfk, hfs, hrF, hwF, hcl, hfty, tyX1, tyX3, tyX6, tyX9, tyX10, tyJ0, tyJ4, hfit, hcmp, hnar, hres, hst, hacp, kz, kof, kn0, kn1, Bool.not_true, Bool.not_false, true_and, and_true, Nat.zero_add, Nat.reduceAdd, List.length_cons, List.length_nil, true_or, or_true, false_or, or_false, decide_true, decide_false, ne_eq, not_true_eq_false, not_false_eq_true, ki_0, ki_1, ki_2, ki_3, ki_4, ki_5, kb_m100, kb_m10, kb_m9, kb_m8, kb_m7, kb_m6, kb_m5, kb_m4, kb_m3, kb_m2, kb_6, kb_7, kb_8, kb_9, kb_10, kb_12, kb_13, kb_16, kb_27, kb_31, kb_32, kb_43, kb_45, kb_48, kb_57, kb_60, kb_63, kb_81, kb_97, kb_99, kb_100, kb_120, kb_126, ks_m1000, ks_243, ks_255, ks_729, ks_1000, ks_2000, ks_2187, ks_6561, ks_9840, ks_9841, kl_0, kl_1, z0, va_up_self, cl_3, cl_5, cl_8, eo0, Nat.reduceLT]
    refine ⟨nz_8, Nat.le_of_ble_eq_true rfl, Nat.le_of_ble_eq_true rfl, Nat.le_of_ble_eq_true rfl, ?_⟩
    have fr9 : ∀ (e e2 : hE) (j : Nat), j ≠ 0 ∧ j ≠ 16 → va_up (va_up w1 16 e) 0 e2 j = w1 j := fun e e2 j hj => (va_up_ne _ _ hj.1).trans (va_up_ne _ _ hj.2)
    exact s86 _ (va_up_self ..) (((va_up_ne _ _ (by decide)).trans (va_up_ne _ _ (by decide))).trans z1) (((va_up_ne _ _ (by decide)).trans (va_up_ne _ _ (by decide))).trans z2) (((va_up_ne _ _ (by decide)).trans (va_up_ne _ _ (by decide))).trans z3) (((va_up_ne _ _ (by decide)).trans (va_up_ne _ _ (by decide))).trans z4) (b5.keep ((va_up_ne _ _ (by decide)).trans (va_up_ne _ _ (by decide))) ((va_up_ne _ _ (by decide)).trans (va_up_ne _ _ (by decide)))) (b7.keep ((va_up_ne _ _ (by decide)).trans (va_up_ne _ _ (by decide))) ((va_up_ne _ _ (by decide)).trans (va_up_ne _ _ (by decide)))) (s9.keep ((va_up_ne _ _ (by decide)).trans (va_up_ne _ _ (by decide))) ((va_up_ne _ _ (by decide)).trans (va_up_ne _ _ (by decide)))) (f11.keep (fun i hi => by simp at hi; exact fr9 _ _ _ (by omega))) ((va_up_ne _ _ (by decide)).trans (va_up_self ..)) (fun i hi => (fr9 _ _ i (by omega)).trans (hf i hi))
  have s67 : ∀ w1, w1 0 = .inr (5, [.ref 1, .ref 2, .ref 3, .ref 4, .int (nI 0), .ref 5, .ref 7, .ref 9, .null, .null]) → w1 1 = hzero 0 3 → w1 2 = hzero 0 3 → w1 3 = .inl (4, 5, .inr (.inr (.inr (.inr fun _ => none)))) → w1 4 = .inl (4, 5, .inr (.inr (.inr (.inr fun _ => none)))) → hSB w1 5 6 16 [] → hSB w1 7 8 16 [] → hSum w1 9 10 (fun _ => 0) → (∀ i, 47 ≤ i → w1 i = w i) → P 11 36 3100 w1 67 [some (.ref 0), none] [] := by
    intro w1 z0 z1 z2 z3 z4 b5 b7 s9 hf
    refine hP 7 _ rfl _ _ _ _ _ _ ?_
    simp only [bX9_initB_7, hrun, hx, hnth, hput, hok, hcat2, hldI, hldL, hldR, hpI, hpL, hpA, hpR, hp1, hpV, hrtI, hrtL, hrtR, hrtV, hpN, hck, hrI, hrB, hrL, hrA, hwI, hwA, hwB, hrN, hfk, hfs, hrF, hwF, hcl, hfty, tyX1, tyX3, tyX6, tyX9, tyX10, tyJ0, tyJ4, hfit, hcmp, hnar, hres, hst, hacp, kz, kof, kn0, kn1, Bool.not_true, Bool.not_false, true_and, and_true, Nat.zero_add, Nat.reduceAdd, List.length_cons, List.length_nil, true_or, or_true, false_or, or_false, decide_true, decide_false, ne_eq, not_true_eq_false, not_false_eq_true, ki_0, ki_1, ki_2, ki_3, ki_4, ki_5, kb_m100, kb_m10, kb_m9, kb_m8, kb_m7, kb_m6, kb_m5, kb_m4, kb_m3, kb_m2, kb_6, kb_7, kb_8, kb_9, kb_10, kb_12, kb_13, kb_16, kb_27, kb_31, kb_32, kb_43, kb_45, kb_48, kb_57, kb_60, kb_63, kb_81, kb_97, kb_99, kb_100, kb_120, kb_126, ks_m1000, ks_243, ks_255, ks_729, ks_1000, ks_2000, ks_2187, ks_6561, ks_9840, ks_9841, kl_0, kl_1, z0, va_up_self, cl_3, cl_5, cl_8, eo0, Nat.reduceLT, hnum]
    refine ⟨Nat.le_of_ble_eq_true rfl, Nat.le_of_ble_eq_true rfl, ?_⟩
    refine c_facInit hg (by omega) (va_up_self ..) (by decide) (Nat.le_of_ble_eq_true rfl) (Nat.le_of_ble_eq_true rfl) (fun w2 h2 hm2 => ?_)
    have fr9 : ∀ j, (j < 11 ∨ 15 < j) → w2 j = w1 j := fun j hj => (hm2 j (by simp <;> omega)).trans (va_up_ne _ _ (by omega))
    have y0 : w2 0 = _ := (fr9 0 (by decide)).trans z0
    simp only [hrun, hx, hnth, hput, hok, hcat2, hldI, hldL, hldR, hpI, hpL, hpA, hpR, hp1, hpV, hrtI, hrtL, hrtR, hrtV, hpN, hck, hrI, hrB, hrL, hrA, hwI, hwA, hwB, hrN, hfk, hfs, hrF, hwF, hcl, hfty, tyX1, tyX3, tyX6, tyX9, tyX10, tyJ0, tyJ4, hfit, hcmp, hnar, hres, hst, hacp, kz, kof, kn0, kn1, Bool.not_true, Bool.not_false, true_and, and_true, Nat.zero_add, Nat.reduceAdd, List.length_cons, List.length_nil, true_or, or_true, false_or, or_false, decide_true, decide_false, ne_eq, not_true_eq_false, not_false_eq_true, ki_0, ki_1, ki_2, ki_3, ki_4, ki_5, kb_m100, kb_m10, kb_m9, kb_m8, kb_m7, kb_m6, kb_m5, kb_m4, kb_m3, kb_m2, kb_6, kb_7, kb_8, kb_9, kb_10, kb_12, kb_13, kb_16, kb_27, kb_31, kb_32, kb_43, kb_45, kb_48, kb_57, kb_60, kb_63, kb_81, kb_97, kb_99, kb_100, kb_120, kb_126, ks_m1000, ks_243, ks_255, ks_729, ks_1000, ks_2000, ks_2187, ks_6561, ks_9840, ks_9841, kl_0, kl_1, y0, va_up_self]
    have fr8 : ∀ (e : hE) (j : Nat), j ≠ 0 → (j < 11 ∨ 15 < j) → va_up w2 0 e j = w1 j := fun e j h1 h3 => (va_up_ne _ _ h1).trans (fr9 j h3)
    exact s78 _ (va_up_self ..) ((fr8 _ 1 (by decide) (by decide)).trans z1) ((fr8 _ 2 (by decide) (by decide)).trans z2) ((fr8 _ 3 (by decide) (by decide)).trans z3) ((fr8 _ 4 (by decide) (by decide)).trans z4) (b5.keep (fr8 _ 5 (by decide) (by decide)) (fr8 _ 6 (by decide) (by decide))) (b7.keep (fr8 _ 7 (by decide) (by decide)) (fr8 _ 8 (by decide) (by decide))) (s9.keep (fr8 _ 9 (by decide) (by decide)) (fr8 _ 10 (by decide) (by decide))) (h2.keep (fun i hi => va_up_ne _ _ (by simp at hi; omega))) (fun i hi => (fr8 _ i (by omega) (by omega)).trans (hf i hi))
  have s56 : ∀ w1, w1 0 = .inr (5, [.ref 1, .ref 2, .ref 3, .ref 4, .int (nI 0), .ref 5, .ref 7, .null, .null, .null]) → w1 1 = hzero 0 3 → w1 2 = hzero 0 3 → w1 3 = .inl (4, 5, .inr (.inr (.inr (.inr fun _ => none)))) → w1 4 = .inl (4, 5, .inr (.inr (.inr (.inr fun _ => none)))) → hSB w1 5 6 16 [] → hSB w1 7 8 16 [] → (∀ i, 47 ≤ i → w1 i = w i) → P 9 38 12944 w1 56 [some (.ref 0), none] [] := by
    intro w1 z0 z1 z2 z3 z4 b5 b7 hf
    refine hP 6 _ rfl _ _ _ _ _ _ ?_
    simp only [bX9_initB_6, hrun, hx, hnth, hput, hok, hcat2, hldI, hldL, hldR, hpI, hpL, hpA, hpR, hp1, hpV, hrtI, hrtL, hrtR, hrtV, hpN, hck, hrI, hrB, hrL, hrA, hwI, hwA, hwB, hrN, hfk, hfs, hrF, hwF, hcl, hfty, tyX1, tyX3, tyX6, tyX9, tyX10, tyJ0, tyJ4, hfit, hcmp, hnar, hres, hst, hacp, kz, kof, kn0, kn1, Bool.not_true, Bool.not_false, true_and, and_true, Nat.zero_add, Nat.reduceAdd, List.length_cons, List.length_nil, true_or, or_true, false_or, or_false, decide_true, decide_false, ne_eq, not_true_eq_false, not_false_eq_true, ki_0, ki_1, ki_2, ki_3, ki_4, ki_5, kb_m100, kb_m10, kb_m9, kb_m8, kb_m7, kb_m6, kb_m5, kb_m4, kb_m3, kb_m2, kb_6, kb_7, kb_8, kb_9, kb_10, kb_12, kb_13, kb_16, kb_27, kb_31, kb_32, kb_43, kb_45, kb_48, kb_57, kb_60, kb_63, kb_81, kb_97, kb_99, kb_100, kb_120, kb_126, ks_m1000, ks_243, ks_255, ks_729, ks_1000, ks_2000, ks_2187, ks_6561, ks_9840, ks_9841, kl_0, kl_1, z0, va_up_self, cl_3, cl_5, cl_8, eo0, Nat.reduceLT, hnum]
    refine ⟨Nat.le_of_ble_eq_true rfl, Nat.le_of_ble_eq_true rfl, ?_⟩
    refine c_sumInit hg (by omega) (va_up_self ..) (by decide) (Nat.le_of_ble_eq_true rfl) (Nat.le_of_ble_eq_true rfl) (fun w2 h2 hm2 => ?_)
    have fr9 : ∀ j, (j < 9 ∨ 10 < j) → w2 j = w1 j := fun j hj => (hm2 j (by simp <;> omega)).trans (va_up_ne _ _ (by omega))
    have y0 : w2 0 = _ := (fr9 0 (by decide)).trans z0
    simp only [hrun, hx, hnth, hput, hok, hcat2, hldI, hldL, hldR, hpI, hpL, hpA, hpR, hp1, hpV, hrtI, hrtL, hrtR, hrtV, hpN, hck, hrI, hrB, hrL, hrA, hwI, hwA, hwB, hrN, hfk, hfs, hrF, hwF, hcl, hfty, tyX1, tyX3, tyX6, tyX9, tyX10, tyJ0, tyJ4, hfit, hcmp, hnar, hres, hst, hacp, kz, kof, kn0, kn1, Bool.not_true, Bool.not_false, true_and, and_true, Nat.zero_add, Nat.reduceAdd, List.length_cons, List.length_nil, true_or, or_true, false_or, or_false, decide_true, decide_false, ne_eq, not_true_eq_false, not_false_eq_true, ki_0, ki_1, ki_2, ki_3, ki_4, ki_5, kb_m100, kb_m10, kb_m9, kb_m8, kb_m7, kb_m6, kb_m5, kb_m4, kb_m3, kb_m2, kb_6, kb_7, kb_8, kb_9, kb_10, kb_12, kb_13, kb_16, kb_27, kb_31, kb_32, kb_43, kb_45, kb_48, kb_57, kb_60, kb_63, kb_81, kb_97, kb_99, kb_100, kb_120, kb_126, ks_m1000, ks_243, ks_255, ks_729, ks_1000, ks_2000, ks_2187, ks_6561, ks_9840, ks_9841, kl_0, kl_1, y0, va_up_self]
    have fr8 : ∀ (e : hE) (j : Nat), j ≠ 0 → (j < 9 ∨ 10 < j) → va_up w2 0 e j = w1 j := fun e j h1 h3 => (va_up_ne _ _ h1).trans (fr9 j h3)
    exact s67 _ (va_up_self ..) ((fr8 _ 1 (by decide) (by decide)).trans z1) ((fr8 _ 2 (by decide) (by decide)).trans z2) ((fr8 _ 3 (by decide) (by decide)).trans z3) ((fr8 _ 4 (by decide) (by decide)).trans z4) (b5.keep (fr8 _ 5 (by decide) (by decide)) (fr8 _ 6 (by decide) (by decide))) (b7.keep (fr8 _ 7 (by decide) (by decide)) (fr8 _ 8 (by decide) (by decide))) (h2.keep (va_up_ne _ _ (by decide)) (va_up_ne _ _ (by decide))) (fun i hi => (fr8 _ i (by omega) (by omega)).trans (hf i hi))
  have s45 : ∀ w1, w1 0 = .inr (5, [.ref 1, .ref 2, .ref 3, .ref 4, .int (nI 0), .ref 5, .null, .null, .null, .null]) → w1 1 = hzero 0 3 → w1 2 = hzero 0 3 → w1 3 = .inl (4, 5, .inr (.inr (.inr (.inr fun _ => none)))) → w1 4 = .inl (4, 5, .inr (.inr (.inr (.inr fun _ => none)))) → hSB w1 5 6 16 [] → (∀ i, 47 ≤ i → w1 i = w i) → P 7 40 12964 w1 45 [some (.ref 0), none] [] := by
    intro w1 z0 z1 z2 z3 z4 b5 hf
    refine hP 5 _ rfl _ _ _ _ _ _ ?_
    simp only [bX9_initB_5, hrun, hx, hnth, hput, hok, hcat2, hldI, hldL, hldR, hpI, hpL, hpA, hpR, hp1, hpV, hrtI, hrtL, hrtR, hrtV, hpN, hck, hrI, hrB, hrL, hrA, hwI, hwA, hwB, hrN, hfk, hfs, hrF, hwF, hcl, hfty, tyX1, tyX3, tyX6, tyX9, tyX10, tyJ0, tyJ4, hfit, hcmp, hnar, hres, hst, hacp, kz, kof, kn0, kn1, Bool.not_true, Bool.not_false, true_and, and_true, Nat.zero_add, Nat.reduceAdd, List.length_cons, List.length_nil, true_or, or_true, false_or, or_false, decide_true, decide_false, ne_eq, not_true_eq_false, not_false_eq_true, ki_0, ki_1, ki_2, ki_3, ki_4, ki_5, kb_m100, kb_m10, kb_m9, kb_m8, kb_m7, kb_m6, kb_m5, kb_m4, kb_m3, kb_m2, kb_6, kb_7, kb_8, kb_9, kb_10, kb_12, kb_13, kb_16, kb_27, kb_31, kb_32, kb_43, kb_45, kb_48, kb_57, kb_60, kb_63, kb_81, kb_97, kb_99, kb_100, kb_120, kb_126, ks_m1000, ks_243, ks_255, ks_729, ks_1000, ks_2000, ks_2187, ks_6561, ks_9840, ks_9841, kl_0, kl_1, z0, va_up_self, cl_3, cl_5, cl_8, eo0, Nat.reduceLT, hnum]
    refine ⟨Nat.le_of_ble_eq_true rfl, Nat.le_of_ble_eq_true rfl, ?_⟩
    refine c_bInit hg (by omega) (va_up_self ..) (by decide) (Nat.le_of_ble_eq_true rfl) (Nat.le_of_ble_eq_true rfl) (fun w2 h2 hm2 => ?_)
    have fr9 : ∀ j, (j < 7 ∨ 8 < j) → w2 j = w1 j := fun j hj => (hm2 j (by simp <;> omega)).trans (va_up_ne _ _ (by omega))
    have y0 : w2 0 = _ := (fr9 0 (by decide)).trans z0
    simp only [hrun, hx, hnth, hput, hok, hcat2, hldI, hldL, hldR, hpI, hpL, hpA, hpR, hp1, hpV, hrtI, hrtL, hrtR, hrtV, hpN, hck, hrI, hrB, hrL, hrA, hwI, hwA, hwB, hrN, hfk, hfs, hrF, hwF, hcl, hfty, tyX1, tyX3, tyX6, tyX9, tyX10, tyJ0, tyJ4, hfit, hcmp, hnar, hres, hst, hacp, kz, kof, kn0, kn1, Bool.not_true, Bool.not_false, true_and, and_true, Nat.zero_add, Nat.reduceAdd, List.length_cons, List.length_nil, true_or, or_true, false_or, or_false, decide_true, decide_false, ne_eq, not_true_eq_false, not_false_eq_true, ki_0, ki_1, ki_2, ki_3, ki_4, ki_5, kb_m100, kb_m10, kb_m9, kb_m8, kb_m7, kb_m6, kb_m5, kb_m4, kb_m3, kb_m2, kb_6, kb_7, kb_8, kb_9, kb_10, kb_12, kb_13, kb_16, kb_27, kb_31, kb_32, kb_43, kb_45, kb_48, kb_57, kb_60, kb_63, kb_81, kb_97, kb_99, kb_100, kb_120, kb_126, ks_m1000, ks_243, ks_255, ks_729, ks_1000, ks_2000, ks_2187, ks_6561, ks_9840, ks_9841, kl_0, kl_1, y0, va_up_self]
    have fr8 : ∀ (e : hE) (j : Nat), j ≠ 0 → (j < 7 ∨ 8 < j) → va_up w2 0 e j = w1 j := fun e j h1 h3 => (va_up_ne _ _ h1).trans (fr9 j h3)
    exact s56 _ (va_up_self ..) ((fr8 _ 1 (by decide) (by decide)).trans z1) ((fr8 _ 2 (by decide) (by decide)).trans z2) ((fr8 _ 3 (by decide) (by decide)).trans z3) ((fr8 _ 4 (by decide) (by decide)).trans z4) (b5.keep (fr8 _ 5 (by decide) (by decide)) (fr8 _ 6 (by decide) (by decide))) (h2.keep (va_up_ne _ _ (by decide)) (va_up_ne _ _ (by decide))) (fun i hi => (fr8 _ i (by omega) (by omega)).trans (hf i hi))
  have s34 : ∀ w1, w1 0 = .inr (5, [.ref 1, .ref 2, .ref 3, .ref 4, .int (nI 0), .null, .null, .null, .null, .null]) → w1 1 = hzero 0 3 → w1 2 = hzero 0 3 → w1 3 = .inl (4, 5, .inr (.inr (.inr (.inr fun _ => none)))) → w1 4 = .inl (4, 5, .inr (.inr (.inr (.inr fun _ => none)))) → (∀ i, 47 ≤ i → w1 i = w i) → P 5 42 12984 w1 34 [some (.ref 0), none] [] := by
    intro w1 z0 z1 z2 z3 z4 hf
    refine hP 4 _ rfl _ _ _ _ _ _ ?_
    simp only [bX9_initB_4, hrun, hx, hnth, hput, hok, hcat2, hldI, hldL, hldR, hpI, hpL, hpA, hpR, hp1, hpV, hrtI, hrtL, hrtR, hrtV, hpN, hck, hrI, hrB, hrL, hrA, hwI, hwA, hwB, hrN, hfk, hfs, hrF, hwF, hcl, hfty, tyX1, tyX3, tyX6, tyX9, tyX10, tyJ0, tyJ4, hfit, hcmp, hnar, hres, hst, hacp, kz, kof, kn0, kn1, Bool.not_true, Bool.not_false, true_and, and_true, Nat.zero_add, Nat.reduceAdd, List.length_cons, List.length_nil, true_or, or_true, false_or, or_false, decide_true, decide_false, ne_eq, not_true_eq_false, not_false_eq_true, ki_0, ki_1, ki_2, ki_3, ki_4, ki_5, kb_m100, kb_m10, kb_m9, kb_m8, kb_m7, kb_m6, kb_m5, kb_m4, kb_m3, kb_m2, kb_6, kb_7, kb_8, kb_9, kb_10, kb_12, kb_13, kb_16, kb_27, kb_31, kb_32, kb_43, kb_45, kb_48, kb_57, kb_60, kb_63, kb_81, kb_97, kb_99, kb_100, kb_120, kb_126, ks_m1000, ks_243, ks_255, ks_729, ks_1000, ks_2000, ks_2187, ks_6561, ks_9840, ks_9841, kl_0, kl_1, z0, va_up_self, cl_3, cl_5, cl_8, eo0, Nat.reduceLT, hnum]
    refine ⟨Nat.le_of_ble_eq_true rfl, Nat.le_of_ble_eq_true rfl, ?_⟩
    refine c_bInit hg (by omega) (va_up_self ..) (by decide) (Nat.le_of_ble_eq_true rfl) (Nat.le_of_ble_eq_true rfl) (fun w2 h2 hm2 => ?_)
    have fr9 : ∀ j, (j < 5 ∨ 6 < j) → w2 j = w1 j := fun j hj => (hm2 j (by simp <;> omega)).trans (va_up_ne _ _ (by omega))
    have y0 : w2 0 = _ := (fr9 0 (by decide)).trans z0
    simp only [hrun, hx, hnth, hput, hok, hcat2, hldI, hldL, hldR, hpI, hpL, hpA, hpR, hp1, hpV, hrtI, hrtL, hrtR, hrtV, hpN, hck, hrI, hrB, hrL, hrA, hwI, hwA, hwB, hrN, hfk, hfs, hrF, hwF, hcl, hfty, tyX1, tyX3, tyX6, tyX9, tyX10, tyJ0, tyJ4, hfit, hcmp, hnar, hres, hst, hacp, kz, kof, kn0, kn1, Bool.not_true, Bool.not_false, true_and, and_true, Nat.zero_add, Nat.reduceAdd, List.length_cons, List.length_nil, true_or, or_true, false_or, or_false, decide_true, decide_false, ne_eq, not_true_eq_false, not_false_eq_true, ki_0, ki_1, ki_2, ki_3, ki_4, ki_5, kb_m100, kb_m10, kb_m9, kb_m8, kb_m7, kb_m6, kb_m5, kb_m4, kb_m3, kb_m2, kb_6, kb_7, kb_8, kb_9, kb_10, kb_12, kb_13, kb_16, kb_27, kb_31, kb_32, kb_43, kb_45, kb_48, kb_57, kb_60, kb_63, kb_81, kb_97, kb_99, kb_100, kb_120, kb_126, ks_m1000, ks_243, ks_255, ks_729, ks_1000, ks_2000, ks_2187, ks_6561, ks_9840, ks_9841, kl_0, kl_1, y0, va_up_self]
    have fr8 : ∀ (e : hE) (j : Nat), j ≠ 0 → (j < 5 ∨ 6 < j) → va_up w2 0 e j = w1 j := fun e j h1 h3 => (va_up_ne _ _ h1).trans (fr9 j h3)
    exact s45 _ (va_up_self ..) ((fr8 _ 1 (by decide) (by decide)).trans z1) ((fr8 _ 2 (by decide) (by decide)).trans z2) ((fr8 _ 3 (by decide) (by decide)).trans z3) ((fr8 _ 4 (by decide) (by decide)).trans z4) (h2.keep (va_up_ne _ _ (by decide)) (va_up_ne _ _ (by decide))) (fun i hi => (fr8 _ i (by omega) (by omega)).trans (hf i hi))
  have s26 : ∀ w1, w1 0 = .inr (5, [.ref 1, .ref 2, .ref 3, .null, .int (nI 0), .null, .null, .null, .null, .null]) → w1 1 = hzero 0 3 → w1 2 = hzero 0 3 → w1 3 = .inl (4, 5, .inr (.inr (.inr (.inr fun _ => none)))) → (∀ i, 47 ≤ i → w1 i = w i) → P 4 43 12989 w1 26 [some (.ref 0), none] [] := by
    intro w1 z0 z1 z2 z3 hf
    refine hP 3 _ rfl _ _ _ _ _ _ ?_
    simp only [bX9_initB_3, hrun, hx, hnth, hput, hok, hcat2, hldI, hldL, hldR, hpI, hpL, hpA, hpR, hp1, hpV, hrtI, hrtL, hrtR, hrtV, hpN, hck, hrI, hrB, hrL, hrA, hwI, hwA, hwB, hrN, hfk, hfs, hrF, hwF, hcl, hfty, tyX1, tyX3, tyX6, tyX9, tyX10, tyJ0, tyJ4, hfit, hcmp, hnar, hres, hst, hacp, kz, kof, kn0, kn1, Bool.not_true, Bool.not_false, true_and, and_true, Nat.zero_add, Nat.reduceAdd, List.length_cons, List.length_nil, true_or, or_true, false_or, or_false, decide_true, decide_false, ne_eq, not_true_eq_false, not_false_eq_true, ki_0, ki_1, ki_2, ki_3, ki_4, ki_5, kb_m100, kb_m10, kb_m9, kb_m8, kb_m7, kb_m6, kb_m5, kb_m4, kb_m3, kb_m2, kb_6, kb_7, kb_8, kb_9, kb_10, kb_12, kb_13, kb_16, kb_27, kb_31, kb_32, kb_43, kb_45, kb_48, kb_57, kb_60, kb_63, kb_81, kb_97, kb_99, kb_100, kb_120, kb_126, ks_m1000, ks_243, ks_255, ks_729, ks_1000, ks_2000, ks_2187, ks_6561, ks_9840, ks_9841, kl_0, kl_1, z0, va_up_self, cl_3, cl_5, cl_8, eo0, Nat.reduceLT]
    refine ⟨nz_5, Nat.le_of_ble_eq_true rfl, Nat.le_of_ble_eq_true rfl, Nat.le_of_ble_eq_true rfl, ?_⟩
    have fr9 : ∀ (e e2 : hE) (j : Nat), j ≠ 0 ∧ j ≠ 4 → va_up (va_up w1 4 e) 0 e2 j = w1 j := fun e e2 j hj => (va_up_ne _ _ hj.1).trans (va_up_ne _ _ hj.2)
    exact s34 _ (va_up_self ..) (((va_up_ne _ _ (by decide)).trans (va_up_ne _ _ (by decide))).trans z1) (((va_up_ne _ _ (by decide)).trans (va_up_ne _ _ (by decide))).trans z2) (((va_up_ne _ _ (by decide)).trans (va_up_ne _ _ (by decide))).trans z3) ((va_up_ne _ _ (by decide)).trans (va_up_self ..)) (fun i hi => (fr9 _ _ i (by omega)).trans (hf i hi))
  have s18 : ∀ w1, w1 0 = .inr (5, [.ref 1, .ref 2, .null, .null, .int (nI 0), .null, .null, .null, .null, .null]) → w1 1 = hzero 0 3 → w1 2 = hzero 0 3 → (∀ i, 47 ≤ i → w1 i = w i) → P 3 44 12994 w1 18 [some (.ref 0), none] [] := by
    intro w1 z0 z1 z2 hf
    refine hP 2 _ rfl _ _ _ _ _ _ ?_
    simp only [bX9_initB_2, hrun, hx, hnth, hput, hok, hcat2, hldI, hldL, hldR, hpI, hpL, hpA, hpR, hp1, hpV, hrtI, hrtL, hrtR, hrtV, hpN, hck, hrI, hrB, hrL, hrA, hwI, hwA, hwB, hrN, hfk, hfs, hrF, hwF, hcl, hfty, tyX1, tyX3, tyX6, tyX9, tyX10, tyJ0, tyJ4, hfit, hcmp, hnar, hres, hst, hacp, kz, kof, kn0, kn1, Bool.not_true, Bool.not_false, true_and, and_true, Nat.zero_add, Nat.reduceAdd, List.length_cons, List.length_nil, true_or, or_true, false_or, or_false, decide_true, decide_false, ne_eq, not_true_eq_false, not_false_eq_true, ki_0, ki_1, ki_2, ki_3, ki_4, ki_5, kb_m100, kb_m10, kb_m9, kb_m8, kb_m7, kb_m6, kb_m5, kb_m4, kb_m3, kb_m2, kb_6, kb_7, kb_8, kb_9, kb_10, kb_12, kb_13, kb_16, kb_27, kb_31, kb_32, kb_43, kb_45, kb_48, kb_57, kb_60, kb_63, kb_81, kb_97, kb_99, kb_100, kb_120, kb_126, ks_m1000, ks_243, ks_255, ks_729, ks_1000, ks_2000, ks_2187, ks_6561, ks_9840, ks_9841, kl_0, kl_1, z0, va_up_self, cl_3, cl_5, cl_8, eo0, Nat.reduceLT]
    refine ⟨nz_5, Nat.le_of_ble_eq_true rfl, Nat.le_of_ble_eq_true rfl, Nat.le_of_ble_eq_true rfl, ?_⟩
    have fr9 : ∀ (e e2 : hE) (j : Nat), j ≠ 0 ∧ j ≠ 3 → va_up (va_up w1 3 e) 0 e2 j = w1 j := fun e e2 j hj => (va_up_ne _ _ hj.1).trans (va_up_ne _ _ hj.2)
    exact s26 _ (va_up_self ..) (((va_up_ne _ _ (by decide)).trans (va_up_ne _ _ (by decide))).trans z1) (((va_up_ne _ _ (by decide)).trans (va_up_ne _ _ (by decide))).trans z2) ((va_up_ne _ _ (by decide)).trans (va_up_self ..)) (fun i hi => (fr9 _ _ i (by omega)).trans (hf i hi))
  have s11 : ∀ w1, w1 0 = .inr (5, [.ref 1, .null, .null, .null, .int (nI 0), .null, .null, .null, .null, .null]) → w1 1 = hzero 0 3 → (∀ i, 47 ≤ i → w1 i = w i) → P 2 45 12997 w1 11 [some (.ref 0), none] [] := by
    intro w1 z0 z1 hf
    refine hP 1 _ rfl _ _ _ _ _ _ ?_
    simp only [bX9_initB_1, hrun, hx, hnth, hput, hok, hcat2, hldI, hldL, hldR, hpI, hpL, hpA, hpR, hp1, hpV, hrtI, hrtL, hrtR, hrtV, hpN, hck, hrI, hrB, hrL, hrA, hwI, hwA, hwB, hrN, hfk, hfs, hrF, hwF, hcl, hfty, tyX1, tyX3, tyX6, tyX9, tyX10, tyJ0, tyJ4, hfit, hcmp, hnar, hres, hst, hacp, kz, kof, kn0, kn1, Bool.not_true, Bool.not_false, true_and, and_true, Nat.zero_add, Nat.reduceAdd, List.length_cons, List.length_nil, true_or, or_true, false_or, or_false, decide_true, decide_false, ne_eq, not_true_eq_false, not_false_eq_true, ki_0, ki_1, ki_2, ki_3, ki_4, ki_5, kb_m100, kb_m10, kb_m9, kb_m8, kb_m7, kb_m6, kb_m5, kb_m4, kb_m3, kb_m2, kb_6, kb_7, kb_8, kb_9, kb_10, kb_12, kb_13, kb_16, kb_27, kb_31, kb_32, kb_43, kb_45, kb_48, kb_57, kb_60, kb_63, kb_81, kb_97, kb_99, kb_100, kb_120, kb_126, ks_m1000, ks_243, ks_255, ks_729, ks_1000, ks_2000, ks_2187, ks_6561, ks_9840, ks_9841, kl_0, kl_1, z0, va_up_self, cl_3, cl_5, cl_8, eo0, Nat.reduceLT]
    refine ⟨nz_3, Nat.le_of_ble_eq_true rfl, Nat.le_of_ble_eq_true rfl, Nat.le_of_ble_eq_true rfl, ?_⟩
    have fr9 : ∀ (e e2 : hE) (j : Nat), j ≠ 0 ∧ j ≠ 2 → va_up (va_up w1 2 e) 0 e2 j = w1 j := fun e e2 j hj => (va_up_ne _ _ hj.1).trans (va_up_ne _ _ hj.2)
    exact s18 _ (va_up_self ..) (((va_up_ne _ _ (by decide)).trans (va_up_ne _ _ (by decide))).trans z1) ((va_up_ne _ _ (by decide)).trans (va_up_self ..)) (fun i hi => (fr9 _ _ i (by omega)).trans (hf i hi))
  have s0 : ∀ w1, w1 0 = .inr (5, [.null, .null, .null, .null, .int (nI 0), .null, .null, .null, .null, .null]) → (∀ i, 47 ≤ i → w1 i = w i) → P 1 46 13000 w1 0 [some (.ref 0), none] [] := by
    intro w1 z0  hf
    refine hP 0 _ rfl _ _ _ _ _ _ ?_
    simp only [bX9_initB_0, hrun, hx, hnth, hput, hok, hcat2, hldI, hldL, hldR, hpI, hpL, hpA, hpR, hp1, hpV, hrtI, hrtL, hrtR, hrtV, hpN, hck, hrI, hrB, hrL, hrA, hwI, hwA, hwB, hrN, hfk, hfs, hrF, hwF, hcl, hfty, tyX1, tyX3, tyX6, tyX9, tyX10, tyJ0, tyJ4, hfit, hcmp, hnar, hres, hst, hacp, kz, kof, kn0, kn1, Bool.not_true, Bool.not_false, true_and, and_true, Nat.zero_add, Nat.reduceAdd, List.length_cons, List.length_nil, true_or, or_true, false_or, or_false, decide_true, decide_false, ne_eq, not_true_eq_false, not_false_eq_true, ki_0, ki_1, ki_2, ki_3, ki_4, ki_5, kb_m100, kb_m10, kb_m9, kb_m8, kb_m7, kb_m6, kb_m5, kb_m4, kb_m3, kb_m2, kb_6, kb_7, kb_8, kb_9, kb_10, kb_12, kb_13, kb_16, kb_27, kb_31, kb_32, kb_43, kb_45, kb_48, kb_57, kb_60, kb_63, kb_81, kb_97, kb_99, kb_100, kb_120, kb_126, ks_m1000, ks_243, ks_255, ks_729, ks_1000, ks_2000, ks_2187, ks_6561, ks_9840, ks_9841, kl_0, kl_1, z0, va_up_self, cl_3, cl_5, cl_8, eo0, Nat.reduceLT]
    refine ⟨nz_3, Nat.le_of_ble_eq_true rfl, Nat.le_of_ble_eq_true rfl, Nat.le_of_ble_eq_true rfl, ?_⟩
    have fr9 : ∀ (e e2 : hE) (j : Nat), j ≠ 0 ∧ j ≠ 1 → va_up (va_up w1 1 e) 0 e2 j = w1 j := fun e e2 j hj => (va_up_ne _ _ hj.1).trans (va_up_ne _ _ hj.2)
    exact s11 _ (va_up_self ..)  ((va_up_ne _ _ (by decide)).trans (va_up_self ..)) (fun i hi => (fr9 _ _ i (by omega)).trans (hf i hi))
  exact s0 w (by rw [h0, kdef5]) (fun i _ => rfl)
end XI
