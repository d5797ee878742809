/-! the class's snapshot -/
section W9o
variable {g : hG} {d N c s : Nat} {w : hWd} {Q : hRt}
def mtot (f : Nat → List (Nat × Int)) (n : Nat) : Nat := (List.range n).foldl (fun t i => t + (f i).length) 0
theorem mtot_s (f : Nat → List (Nat × Int)) (n : Nat) : mtot f (n + 1) = mtot f n + (f n).length := by
  unfold mtot
  rw [List.range_succ, List.foldl_append]; rfl
def rgf (b : Nat) : hE := .inl (4, 5, .inr (.inr (.inr (.inr fun i => some (b + 6 * i)))))
/-- all but a row of words and five registers -/
def mfrR (tw tb : Nat) (w w' : hWd) : Prop := ∀ j, j ≠ tw → (j < tb ∨ tb + 26 < j ∨ 3 ≤ (j - tb) % 6) → w' j = w j
set_option maxRecDepth 100000 in
set_option maxHeartbeats 4000000 in
theorem c_copySave (hg : hgo g) (hd : 4 ≤ d) {fw gw : Nat → List Nat} {f r : Nat → List (Nat × Int)} (hw1 : hWs w 1 fw) (hw2 : hWs w 2 gw) (ka : w 3 = rgf 17) (kb : w 4 = rgf 20) (hr1 : hRs w 17 f) (hr2 : hRs w 20 r)  (h : ∀ w', hWs w' 2 fw → hRs w' 20 f → mfrR 2 20 w w' → Q (some (.int (nI (mtot f 5)))) N c s w') : Γ g d yX9_copyState [.ref 1, .ref 3, .ref 2, .ref 4] N c s w Q := by
  refine Γ.intro0 hg kX9_copyState (by omega) (Nat.le_of_ble_eq_true rfl) (fun P hP => ?_)
  show P N 0 0 w 0 [some (.ref 1), some (.ref 3), some (.ref 2), some (.ref 4), none, none] []
  have c0 : (nI 0).toNatClampNeg = 0 := by decide +kernel
  have c3 : (nI 3).toNatClampNeg = 3 := by decide +kernel
  have cz : ¬ nI 0 < nI 0 := by decide +kernel
  have cy : ¬ nI 3 < nI 0 := by decide +kernel
  obtain ⟨F, kF, hF⟩ := id hw1
  obtain ⟨G, kG, hG9⟩ := id hw2
  have loop : ∀ (n m : Nat) (w1 : hWd), 5 - m = n → m ≤ 5 → hWs w1 2 fw → (∀ i, i < 5 → hPoly w1 (20 + 6 * i) (20 + 1 + 6 * i) (20 + 2 + 6 * i) (if i < m then f i else r i)) → mfrR 2 20 w w1 → P N 0 0 w1 14 [some (.ref 1), some (.ref 3), some (.ref 2), some (.ref 4), some (.int (nI (mtot f m))), some (.int (nI m))] [] := by
    intro n
    induction n with
    | zero =>
      intro m w1 hn hmm hW1 hR1 hm1
      obtain rfl : m = 5 := by omega
      refine hP 1 _ rfl _ _ _ _ _ _ ?_
      simp only [bX9_copyState_1, hrun, hx, hnth, hput, hok, hcat2, hldI, hldL, hldR, hpI, hpL, hpA, hpR, hp1, hpV, hrtI, hrtL, hrtR, hrtV, hpN, hck, hrI, hrB, hrL, hrA, hwI, hwA, hwB, hrN, hfk, hfs, hrF, hwF, hcl, hfty, tyX1, tyX3, tyX6, tyX9, tyX10, tyJ0, tyJ4, hfit, hcmp, hnar, hres, hst, hacp, kz, kof, kn0, kn1, Bool.not_true, Bool.not_false, true_and, and_true, Nat.zero_add, Nat.reduceAdd, List.length_cons, List.length_nil, true_or, or_true, false_or, or_false, decide_true, decide_false, ne_eq, not_true_eq_false, not_false_eq_true, ki_0, ki_1, ki_2, ki_3, ki_4, ki_5, kb_m100, kb_m10, kb_m9, kb_m8, kb_m7, kb_m6, kb_m5, kb_m4, kb_m3, kb_m2, kb_6, kb_7, kb_8, kb_9, kb_10, kb_12, kb_13, kb_16, kb_27, kb_31, kb_32, kb_43, kb_45, kb_48, kb_57, kb_60, kb_63, kb_81, kb_97, kb_99, kb_100, kb_120, kb_126, ks_m1000, ks_243, ks_255, ks_729, ks_1000, ks_2000, ks_2187, ks_6561, ks_9840, ks_9841, kl_0, kl_1]
      refine ⟨fun b17 => ?_, fun b17 => ?_⟩
      · try simp (disch := omega) only [nI_ltI, nI_leI, nI_eq, Nat.not_lt, Nat.not_le] at b17
        refine hP 3 _ rfl _ _ _ _ _ _ ?_
        simp only [bX9_copyState_3, hrun, hx, hnth, hput, hok, hcat2, hldI, hldL, hldR, hpI, hpL, hpA, hpR, hp1, hpV, hrtI, hrtL, hrtR, hrtV, hpN, hck, hrI, hrB, hrL, hrA, hwI, hwA, hwB, hrN, hfk, hfs, hrF, hwF, hcl, hfty, tyX1, tyX3, tyX6, tyX9, tyX10, tyJ0, tyJ4, hfit, hcmp, hnar, hres, hst, hacp, kz, kof, kn0, kn1, Bool.not_true, Bool.not_false, true_and, and_true, Nat.zero_add, Nat.reduceAdd, List.length_cons, List.length_nil, true_or, or_true, false_or, or_false, decide_true, decide_false, ne_eq, not_true_eq_false, not_false_eq_true, ki_0, ki_1, ki_2, ki_3, ki_4, ki_5, kb_m100, kb_m10, kb_m9, kb_m8, kb_m7, kb_m6, kb_m5, kb_m4, kb_m3, kb_m2, kb_6, kb_7, kb_8, kb_9, kb_10, kb_12, kb_13, kb_16, kb_27, kb_31, kb_32, kb_43, kb_45, kb_48, kb_57, kb_60, kb_63, kb_81, kb_97, kb_99, kb_100, kb_120, kb_126, ks_m1000, ks_243, ks_255, ks_729, ks_1000, ks_2000, ks_2187, ks_6561, ks_9840, ks_9841, kl_0, kl_1]
        exact h w1 hW1 (fun i hi => ⟨by have := hR1 i hi; rwa [if_pos hi] at this, (hr1 i hi).2⟩) hm1
      · (try simp (disch := omega) only [nI_ltI, nI_leI, nI_eq, Nat.not_lt, Nat.not_le] at b17) <;> (exfalso; omega)
    | succ n ih =>
      intro m w1 hn hmm hW1 hR1 hm1
      have e7 := nI_clamp (n := m) (by omega)
      have k3 : w1 3 = _ := (hm1 3 (by decide) (by decide)).trans ka
      have k4 : w1 4 = _ := (hm1 4 (by decide) (by decide)).trans kb
      unfold rgf at k3 k4
      have hpT := hR1 m (by omega)
      rw [if_neg (by omega)] at hpT
      have hpS := (hr1 m (by omega)).1.keep (hm1 _ (by omega) (by omega)) (hm1 _ (by omega) (by omega)) (hm1 _ (by omega) (by omega))
      have hPS := (hr1 m (by omega)).2
      have h120 := hPS.1
      obtain ⟨fsT, kT⟩ := hpT.cl
      obtain ⟨fsS, kS⟩ := hpS.cl
      refine hP 1 _ rfl _ _ _ _ _ _ ?_
      simp only [bX9_copyState_1, hrun, hx, hnth, hput, hok, hcat2, hldI, hldL, hldR, hpI, hpL, hpA, hpR, hp1, hpV, hrtI, hrtL, hrtR, hrtV, hpN, hck, hrI, hrB, hrL, hrA, hwI, hwA, hwB, hrN, hfk, hfs, hrF, hwF, hcl, hfty, tyX1, tyX3, tyX6, tyX9, tyX10, tyJ0, tyJ4, hfit, hcmp, hnar, hres, hst, hacp, kz, kof, kn0, kn1, Bool.not_true, Bool.not_false, true_and, and_true, Nat.zero_add, Nat.reduceAdd, List.length_cons, List.length_nil, true_or, or_true, false_or, or_false, decide_true, decide_false, ne_eq, not_true_eq_false, not_false_eq_true, ki_0, ki_1, ki_2, ki_3, ki_4, ki_5, kb_m100, kb_m10, kb_m9, kb_m8, kb_m7, kb_m6, kb_m5, kb_m4, kb_m3, kb_m2, kb_6, kb_7, kb_8, kb_9, kb_10, kb_12, kb_13, kb_16, kb_27, kb_31, kb_32, kb_43, kb_45, kb_48, kb_57, kb_60, kb_63, kb_81, kb_97, kb_99, kb_100, kb_120, kb_126, ks_m1000, ks_243, ks_255, ks_729, ks_1000, ks_2000, ks_2187, ks_6561, ks_9840, ks_9841, kl_0, kl_1, k3, k4, e7, va_rf, kT, kS]
      refine ⟨fun b17 => ?_, fun b17 => ?_⟩
      · (try simp (disch := omega) only [nI_ltI, nI_leI, nI_eq, Nat.not_lt, Nat.not_le] at b17) <;> (exfalso; omega)
      · try simp (disch := omega) only [nI_ltI, nI_leI, nI_eq, Nat.not_lt, Nat.not_le] at b17
        refine hP 2 _ rfl _ _ _ _ _ _ ?_
        simp only [bX9_copyState_2, hrun, hx, hnth, hput, hok, hcat2, hldI, hldL, hldR, hpI, hpL, hpA, hpR, hp1, hpV, hrtI, hrtL, hrtR, hrtV, hpN, hck, hrI, hrB, hrL, hrA, hwI, hwA, hwB, hrN, hfk, hfs, hrF, hwF, hcl, hfty, tyX1, tyX3, tyX6, tyX9, tyX10, tyJ0, tyJ4, hfit, hcmp, hnar, hres, hst, hacp, kz, kof, kn0, kn1, Bool.not_true, Bool.not_false, true_and, and_true, Nat.zero_add, Nat.reduceAdd, List.length_cons, List.length_nil, true_or, or_true, false_or, or_false, decide_true, decide_false, ne_eq, not_true_eq_false, not_false_eq_true, ki_0, ki_1, ki_2, ki_3, ki_4, ki_5, kb_m100, kb_m10, kb_m9, kb_m8, kb_m7, kb_m6, kb_m5, kb_m4, kb_m3, kb_m2, kb_6, kb_7, kb_8, kb_9, kb_10, kb_12, kb_13, kb_16, kb_27, kb_31, kb_32, kb_43, kb_45, kb_48, kb_57, kb_60, kb_63, kb_81, kb_97, kb_99, kb_100, kb_120, kb_126, ks_m1000, ks_243, ks_255, ks_729, ks_1000, ks_2000, ks_2187, ks_6561, ks_9840, ks_9841, kl_0, kl_1, k3, k4, e7, va_rf, kT, kS]
        refine ⟨vp_in_nI (by omega) (by omega), ?_⟩
        refine ⟨vp_in_nI (by omega) (by omega), ?_⟩
        refine c_copyFrom hg (by omega) hpT hpS hPS (by omega) (fun w2 hp2 hm2 => ?_)
        have k3 : w2 3 = _ := (hm2 3 (by simp; omega)).trans k3
        have k4 : w2 4 = _ := (hm2 4 (by simp; omega)).trans k4
        obtain ⟨fsT, kT⟩ := hp2.cl
        simp only [hrun, hx, hnth, hput, hok, hcat2, hldI, hldL, hldR, hpI, hpL, hpA, hpR, hp1, hpV, hrtI, hrtL, hrtR, hrtV, hpN, hck, hrI, hrB, hrL, hrA, hwI, hwA, hwB, hrN, hfk, hfs, hrF, hwF, hcl, hfty, tyX1, tyX3, tyX6, tyX9, tyX10, tyJ0, tyJ4, hfit, hcmp, hnar, hres, hst, hacp, kz, kof, kn0, kn1, Bool.not_true, Bool.not_false, true_and, and_true, Nat.zero_add, Nat.reduceAdd, List.length_cons, List.length_nil, true_or, or_true, false_or, or_false, decide_true, decide_false, ne_eq, not_true_eq_false, not_false_eq_true, ki_0, ki_1, ki_2, ki_3, ki_4, ki_5, kb_m100, kb_m10, kb_m9, kb_m8, kb_m7, kb_m6, kb_m5, kb_m4, kb_m3, kb_m2, kb_6, kb_7, kb_8, kb_9, kb_10, kb_12, kb_13, kb_16, kb_27, kb_31, kb_32, kb_43, kb_45, kb_48, kb_57, kb_60, kb_63, kb_81, kb_97, kb_99, kb_100, kb_120, kb_126, ks_m1000, ks_243, ks_255, ks_729, ks_1000, ks_2000, ks_2187, ks_6561, ks_9840, ks_9841, kl_0, kl_1, k3, k4, e7, va_rf, kT, kS, k3, k4, kT]
        refine ⟨vp_in_nI (by omega) (by omega), ?_⟩
        refine c_size hg (by omega) hp2 hPS ?_
        simp only [hrun, hx, hnth, hput, hok, hcat2, hldI, hldL, hldR, hpI, hpL, hpA, hpR, hp1, hpV, hrtI, hrtL, hrtR, hrtV, hpN, hck, hrI, hrB, hrL, hrA, hwI, hwA, hwB, hrN, hfk, hfs, hrF, hwF, hcl, hfty, tyX1, tyX3, tyX6, tyX9, tyX10, tyJ0, tyJ4, hfit, hcmp, hnar, hres, hst, hacp, kz, kof, kn0, kn1, Bool.not_true, Bool.not_false, true_and, and_true, Nat.zero_add, Nat.reduceAdd, List.length_cons, List.length_nil, true_or, or_true, false_or, or_false, decide_true, decide_false, ne_eq, not_true_eq_false, not_false_eq_true, ki_0, ki_1, ki_2, ki_3, ki_4, ki_5, kb_m100, kb_m10, kb_m9, kb_m8, kb_m7, kb_m6, kb_m5, kb_m4, kb_m3, kb_m2, kb_6, kb_7, kb_8, kb_9, kb_10, kb_12, kb_13, kb_16, kb_27, kb_31, kb_32, kb_43, kb_45, kb_48, kb_57, kb_60, kb_63, kb_81, kb_97, kb_99, kb_100, kb_120, kb_126, ks_m1000, ks_243, ks_255, ks_729, ks_1000, ks_2000, ks_2187, ks_6561, ks_9840, ks_9841, kl_0, kl_1, k3, k4, e7, va_rf, kT, kS]
        rw [nI_add, nI_add, ← mtot_s]
        refine ih (m + 1) w2 (by omega) (by omega) (hW1.keep (hm2 _ (by simp; omega))) (fun i hi => ?_) (fun j h1 h2 => (hm2 j (by simp; omega)).trans (hm1 j h1 h2))
        by_cases q : i = m
        · subst q
          rw [if_pos (by omega)]; exact hp2
        · have := hR1 i hi
          have e9 : (if i < m + 1 then f i else r i) = if i < m then f i else r i := by
            by_cases z : i < m
            · rw [if_pos z, if_pos (by omega)]
            · rw [if_neg z, if_neg (by omega)]
          rw [e9]
          exact this.keep (hm2 _ (by simp; omega)) (hm2 _ (by simp; omega)) (hm2 _ (by simp; omega))
  refine hP 0 _ rfl _ _ _ _ _ _ ?_
  simp only [bX9_copyState_0, hrun, hx, hnth, hput, hok, hcat2, hldI, hldL, hldR, hpI, hpL, hpA, hpR, hp1, hpV, hrtI, hrtL, hrtR, hrtV, hpN, hck, hrI, hrB, hrL, hrA, hwI, hwA, hwB, hrN, hfk, hfs, hrF, hwF, hcl, hfty, tyX1, tyX3, tyX6, tyX9, tyX10, tyJ0, tyJ4, hfit, hcmp, hnar, hres, hst, hacp, kz, kof, kn0, kn1, Bool.not_true, Bool.not_false, true_and, and_true, Nat.zero_add, Nat.reduceAdd, List.length_cons, List.length_nil, true_or, or_true, false_or, or_false, decide_true, decide_false, ne_eq, not_true_eq_false, not_false_eq_true, ki_0, ki_1, ki_2, ki_3, ki_4, ki_5, kb_m100, kb_m10, kb_m9, kb_m8, kb_m7, kb_m6, kb_m5, kb_m4, kb_m3, kb_m2, kb_6, kb_7, kb_8, kb_9, kb_10, kb_12, kb_13, kb_16, kb_27, kb_31, kb_32, kb_43, kb_45, kb_48, kb_57, kb_60, kb_63, kb_81, kb_97, kb_99, kb_100, kb_120, kb_126, ks_m1000, ks_243, ks_255, ks_729, ks_1000, ks_2000, ks_2187, ks_6561, ks_9840, ks_9841, kl_0, kl_1, kF, kG, c0, c3, cz, cy, Nat.zero_add, Nat.le_refl]
  refine loop _ 0 _ rfl (by omega) ⟨_, va_up_self .., fun i hi => ?_⟩ (fun i hi => ?_) (fun j h1 h2 => va_up_ne _ _ h1)
  · rw [sb_cpy0 hi]; exact hF i hi
  · rw [if_neg (by omega)]
    exact (hr2 i hi).1.keep (va_up_ne _ _ (by omega)) (va_up_ne _ _ (by omega)) (va_up_ne _ _ (by omega))
set_option maxRecDepth 100000 in
set_option maxHeartbeats 4000000 in
theorem c_copyRest (hg : hgo g) (hd : 4 ≤ d) {fw gw : Nat → List Nat} {f r : Nat → List (Nat × Int)} (hw1 : hWs w 2 fw) (hw2 : hWs w 1 gw) (ka : w 4 = rgf 20) (kb : w 3 = rgf 17) (hr1 : hRs w 20 f) (hr2 : hRs w 17 r)  (h : ∀ w', hWs w' 1 fw → hRs w' 17 f → mfrR 1 17 w w' → Q (some (.int (nI (mtot f 5)))) N c s w') : Γ g d yX9_copyState [.ref 2, .ref 4, .ref 1, .ref 3] N c s w Q := by
  refine Γ.intro0 hg kX9_copyState (by omega) (Nat.le_of_ble_eq_true rfl) (fun P hP => ?_)
  show P N 0 0 w 0 [some (.ref 2), some (.ref 4), some (.ref 1), some (.ref 3), none, none] []
  have c0 : (nI 0).toNatClampNeg = 0 := by decide +kernel
  have c3 : (nI 3).toNatClampNeg = 3 := by decide +kernel
  have cz : ¬ nI 0 < nI 0 := by decide +kernel
  have cy : ¬ nI 3 < nI 0 := by decide +kernel
  obtain ⟨F, kF, hF⟩ := id hw1
  obtain ⟨G, kG, hG9⟩ := id hw2
  have loop : ∀ (n m : Nat) (w1 : hWd), 5 - m = n → m ≤ 5 → hWs w1 1 fw → (∀ i, i < 5 → hPoly w1 (17 + 6 * i) (17 + 1 + 6 * i) (17 + 2 + 6 * i) (if i < m then f i else r i)) → mfrR 1 17 w w1 → P N 0 0 w1 14 [some (.ref 2), some (.ref 4), some (.ref 1), some (.ref 3), some (.int (nI (mtot f m))), some (.int (nI m))] [] := by
    intro n
    induction n with
    | zero =>
      intro m w1 hn hmm hW1 hR1 hm1
      obtain rfl : m = 5 := by omega
      refine hP 1 _ rfl _ _ _ _ _ _ ?_
      simp only [bX9_copyState_1, hrun, hx, hnth, hput, hok, hcat2, hldI, hldL, hldR, hpI, hpL, hpA, hpR, hp1, hpV, hrtI, hrtL, hrtR, hrtV, hpN, hck, hrI, hrB, hrL, hrA, hwI, hwA, hwB, hrN, hfk, hfs, hrF, hwF, hcl, hfty, tyX1, tyX3, tyX6, tyX9, tyX10, tyJ0, tyJ4, hfit, hcmp, hnar, hres, hst, hacp, kz, kof, kn0, kn1, Bool.not_true, Bool.not_false, true_and, and_true, Nat.zero_add, Nat.reduceAdd, List.length_cons, List.length_nil, true_or, or_true, false_or, or_false, decide_true, decide_false, ne_eq, not_true_eq_false, not_false_eq_true, ki_0, ki_1, ki_2, ki_3, ki_4, ki_5, kb_m100, kb_m10, kb_m9, kb_m8, kb_m7, kb_m6, kb_m5, kb_m4, kb_m3, kb_m2, kb_6, kb_7, kb_8, kb_9, kb_10, kb_12, kb_13, kb_16, kb_27, kb_31, kb_32, kb_43, kb_45, kb_48, kb_57, kb_60, kb_63, kb_81, kb_97, kb_99, kb_100, kb_120, kb_126, ks_m1000, ks_243, ks_255, ks_729, ks_1000, ks_2000, ks_2187, ks_6561, ks_9840, ks_9841, kl_0, kl_1]
      refine ⟨fun b17 => ?_, fun b17 => ?_⟩
      · try simp (disch := omega) only [nI_ltI, nI_leI, nI_eq, Nat.not_lt, Nat.not_le] at b17
        refine hP 3 _ rfl _ _ _ _ _ _ ?_
        simp only [bX9_copyState_3, hrun, hx, hnth, hput, hok, hcat2, hldI, hldL, hldR, hpI, hpL, hpA, hpR, hp1, hpV, hrtI, hrtL, hrtR, hrtV, hpN, hck, hrI, hrB, hrL, hrA, hwI, hwA, hwB, hrN, hfk, hfs, hrF, hwF, hcl, hfty, tyX1, tyX3, tyX6, tyX9, tyX10, tyJ0, tyJ4, hfit, hcmp, hnar, hres, hst, hacp, kz, kof, kn0, kn1, Bool.not_true, Bool.not_false, true_and, and_true, Nat.zero_add, Nat.reduceAdd, List.length_cons, List.length_nil, true_or, or_true, false_or, or_false, decide_true, decide_false, ne_eq, not_true_eq_false, not_false_eq_true, ki_0, ki_1, ki_2, ki_3, ki_4, ki_5, kb_m100, kb_m10, kb_m9, kb_m8, kb_m7, kb_m6, kb_m5, kb_m4, kb_m3, kb_m2, kb_6, kb_7, kb_8, kb_9, kb_10, kb_12, kb_13, kb_16, kb_27, kb_31, kb_32, kb_43, kb_45, kb_48, kb_57, kb_60, kb_63, kb_81, kb_97, kb_99, kb_100, kb_120, kb_126, ks_m1000, ks_243, ks_255, ks_729, ks_1000, ks_2000, ks_2187, ks_6561, ks_9840, ks_9841, kl_0, kl_1]
        exact h w1 hW1 (fun i hi => ⟨by have := hR1 i hi; rwa [if_pos hi] at this, (hr1 i hi).2⟩) hm1
      · (try simp (disch := omega) only [nI_ltI, nI_leI, nI_eq, Nat.not_lt, Nat.not_le] at b17) <;> (exfalso; omega)
    | succ n ih =>
      intro m w1 hn hmm hW1 hR1 hm1
      have e7 := nI_clamp (n := m) (by omega)
      have k3 : w1 4 = _ := (hm1 4 (by decide) (by decide)).trans ka
      have k4 : w1 3 = _ := (hm1 3 (by decide) (by decide)).trans kb
      unfold rgf at k3 k4
      have hpT := hR1 m (by omega)
      rw [if_neg (by omega)] at hpT
      have hpS := (hr1 m (by omega)).1.keep (hm1 _ (by omega) (by omega)) (hm1 _ (by omega) (by omega)) (hm1 _ (by omega) (by omega))
      have hPS := (hr1 m (by omega)).2
      have h120 := hPS.1
      obtain ⟨fsT, kT⟩ := hpT.cl
      obtain ⟨fsS, kS⟩ := hpS.cl
      refine hP 1 _ rfl _ _ _ _ _ _ ?_
      simp only [bX9_copyState_1, hrun, hx, hnth, hput, hok, hcat2, hldI, hldL, hldR, hpI, hpL, hpA, hpR, hp1, hpV, hrtI, hrtL, hrtR, hrtV, hpN, hck, hrI, hrB, hrL, hrA, hwI, hwA, hwB, hrN, hfk, hfs, hrF, hwF, hcl, hfty, tyX1, tyX3, tyX6, tyX9, tyX10, tyJ0, tyJ4, hfit, hcmp, hnar, hres, hst, hacp, kz, kof, kn0, kn1, Bool.not_true, Bool.not_false, true_and, and_true, Nat.zero_add, Nat.reduceAdd, List.length_cons, List.length_nil, true_or, or_true, false_or, or_false, decide_true, decide_false, ne_eq, not_true_eq_false, not_false_eq_true, ki_0, ki_1, ki_2, ki_3, ki_4, ki_5, kb_m100, kb_m10, kb_m9, kb_m8, kb_m7, kb_m6, kb_m5, kb_m4, kb_m3, kb_m2, kb_6, kb_7, kb_8, kb_9, kb_10, kb_12, kb_13, kb_16, kb_27, kb_31, kb_32, kb_43, kb_45, kb_48, kb_57, kb_60, kb_63, kb_81, kb_97, kb_99, kb_100, kb_120, kb_126, ks_m1000, ks_243, ks_255, ks_729, ks_1000, ks_2000, ks_2187, ks_6561, ks_9840, ks_9841, kl_0, kl_1, k3, k4, e7, va_rf, kT, kS]
      refine ⟨fun b17 => ?_, fun b17 => ?_⟩
      · (try simp (disch := omega) only [nI_ltI, nI_leI, nI_eq, Nat.not_lt, Nat.not_le] at b17) <;> (exfalso; omega)
      · try simp (disch := omega) only [nI_ltI, nI_leI, nI_eq, Nat.not_lt, Nat.not_le] at b17
        refine hP 2 _ rfl _ _ _ _ _ _ ?_
        simp only [bX9_copyState_2, hrun, hx, hnth, hput, hok, hcat2, hldI, hldL, hldR, hpI, hpL, hpA, hpR, hp1, hpV, hrtI, hrtL, hrtR, hrtV, hpN, hck, hrI, hrB, hrL, hrA, hwI, hwA, hwB, hrN, hfk, hfs, hrF, hwF, hcl, hfty, tyX1, tyX3, tyX6, tyX9, tyX10, tyJ0, tyJ4, hfit, hcmp, hnar, hres, hst, hacp, kz, kof, kn0, kn1, Bool.not_true, Bool.not_false, true_and, and_true, Nat.zero_add, Nat.reduceAdd, List.length_cons, List.length_nil, true_or, or_true, false_or, or_false, decide_true, decide_false, ne_eq, not_true_eq_false, not_false_eq_true, ki_0, ki_1, ki_2, ki_3, ki_4, ki_5, kb_m100, kb_m10, kb_m9, kb_m8, kb_m7, kb_m6, kb_m5, kb_m4, kb_m3, kb_m2, kb_6, kb_7, kb_8, kb_9, kb_10, kb_12, kb_13, kb_16, kb_27, kb_31, kb_32, kb_43, kb_45, kb_48, kb_57, kb_60, kb_63, kb_81, kb_97, kb_99, kb_100, kb_120, kb_126, ks_m1000, ks_243, ks_255, ks_729, ks_1000, ks_2000, ks_2187, ks_6561, ks_9840, ks_9841, kl_0, kl_1, k3, k4, e7, va_rf, kT, kS]
        refine ⟨vp_in_nI (by omega) (by omega), ?_⟩
        refine ⟨vp_in_nI (by omega) (by omega), ?_⟩
        refine c_copyFrom hg (by omega) hpT hpS hPS (by omega) (fun w2 hp2 hm2 => ?_)
        have k3 : w2 4 = _ := (hm2 4 (by simp; omega)).trans k3
        have k4 : w2 3 = _ := (hm2 3 (by simp; omega)).trans k4
        obtain ⟨fsT, kT⟩ := hp2.cl
        simp only [hrun, hx, hnth, hput, hok, hcat2, hldI, hldL, hldR, hpI, hpL, hpA, hpR, hp1, hpV, hrtI, hrtL, hrtR, hrtV, hpN, hck, hrI, hrB, hrL, hrA, hwI, hwA, hwB, hrN, hfk, hfs, hrF, hwF, hcl, hfty, tyX1, tyX3, tyX6, tyX9, tyX10, tyJ0, tyJ4, hfit, hcmp, hnar, hres, hst, hacp, kz, kof, kn0, kn1, Bool.not_true, Bool.not_false, true_and, and_true, Nat.zero_add, Nat.reduceAdd, List.length_cons, List.length_nil, true_or, or_true, false_or, or_false, decide_true, decide_false, ne_eq, not_true_eq_false, not_false_eq_true, ki_0, ki_1, ki_2, ki_3, ki_4, ki_5, kb_m100, kb_m10, kb_m9, kb_m8, kb_m7, kb_m6, kb_m5, kb_m4, kb_m3, kb_m2, kb_6, kb_7, kb_8, kb_9, kb_10, kb_12, kb_13, kb_16, kb_27, kb_31, kb_32, kb_43, kb_45, kb_48, kb_57, kb_60, kb_63, kb_81, kb_97, kb_99, kb_100, kb_120, kb_126, ks_m1000, ks_243, ks_255, ks_729, ks_1000, ks_2000, ks_2187, ks_6561, ks_9840, ks_9841, kl_0, kl_1, k3, k4, e7, va_rf, kT, kS, k3, k4, kT]
        refine ⟨vp_in_nI (by omega) (by omega), ?_⟩
        refine c_size hg (by omega) hp2 hPS ?_
        simp only [hrun, hx, hnth, hput, hok, hcat2, hldI, hldL, hldR, hpI, hpL, hpA, hpR, hp1, hpV, hrtI, hrtL, hrtR, hrtV, hpN, hck, hrI, hrB, hrL, hrA, hwI, hwA, hwB, hrN, hfk, hfs, hrF, hwF, hcl, hfty, tyX1, tyX3, tyX6, tyX9, tyX10, tyJ0, tyJ4, hfit, hcmp, hnar, hres, hst, hacp, kz, kof, kn0, kn1, Bool.not_true, Bool.not_false, true_and, and_true, Nat.zero_add, Nat.reduceAdd, List.length_cons, List.length_nil, true_or, or_true, false_or, or_false, decide_true, decide_false, ne_eq, not_true_eq_false, not_false_eq_true, ki_0, ki_1, ki_2, ki_3, ki_4, ki_5, kb_m100, kb_m10, kb_m9, kb_m8, kb_m7, kb_m6, kb_m5, kb_m4, kb_m3, kb_m2, kb_6, kb_7, kb_8, kb_9, kb_10, kb_12, kb_13, kb_16, kb_27, kb_31, kb_32, kb_43, kb_45, kb_48, kb_57, kb_60, kb_63, kb_81, kb_97, kb_99, kb_100, kb_120, kb_126, ks_m1000, ks_243, ks_255, ks_729, ks_1000, ks_2000, ks_2187, ks_6561, ks_9840, ks_9841, kl_0, kl_1, k3, k4, e7, va_rf, kT, kS]
        rw [nI_add, nI_add, ← mtot_s]
        refine ih (m + 1) w2 (by omega) (by omega) (hW1.keep (hm2 _ (by simp; omega))) (fun i hi => ?_) (fun j h1 h2 => (hm2 j (by simp; omega)).trans (hm1 j h1 h2))
        by_cases q : i = m
        · subst q
          rw [if_pos (by omega)]; exact hp2
        · have := hR1 i hi
          have e9 : (if i < m + 1 then f i else r i) = if i < m then f i else r i := by
            by_cases z : i < m
            · rw [if_pos z, if_pos (by omega)]
            · rw [if_neg z, if_neg (by omega)]
          rw [e9]
          exact this.keep (hm2 _ (by simp; omega)) (hm2 _ (by simp; omega)) (hm2 _ (by simp; omega))
  refine hP 0 _ rfl _ _ _ _ _ _ ?_
  simp only [bX9_copyState_0, hrun, hx, hnth, hput, hok, hcat2, hldI, hldL, hldR, hpI, hpL, hpA, hpR, hp1, hpV, hrtI, hrtL, hrtR, hrtV, hpN, hck, hrI, hrB, hrL, hrA, hwI, hwA, hwB, hrN, hfk, hfs, hrF, hwF, hcl, hfty, tyX1, tyX3, tyX6, tyX9, tyX10, tyJ0, tyJ4, hfit, hcmp, hnar, hres, hst, hacp, kz, kof, kn0, kn1, Bool.not_true, Bool.not_false, true_and, and_true, Nat.zero_add, Nat.reduceAdd, List.length_cons, List.length_nil, true_or, or_true, false_or, or_false, decide_true, decide_false, ne_eq, not_true_eq_false, not_false_eq_true, ki_0, ki_1, ki_2, ki_3, ki_4, ki_5, kb_m100, kb_m10, kb_m9, kb_m8, kb_m7, kb_m6, kb_m5, kb_m4, kb_m3, kb_m2, kb_6, kb_7, kb_8, kb_9, kb_10, kb_12, kb_13, kb_16, kb_27, kb_31, kb_32, kb_43, kb_45, kb_48, kb_57, kb_60, kb_63, kb_81, kb_97, kb_99, kb_100, kb_120, kb_126, ks_m1000, ks_243, ks_255, ks_729, ks_1000, ks_2000, ks_2187, ks_6561, ks_9840, ks_9841, kl_0, kl_1, kF, kG, c0, c3, cz, cy, Nat.zero_add, Nat.le_refl]
  refine loop _ 0 _ rfl (by omega) ⟨_, va_up_self .., fun i hi => ?_⟩ (fun i hi => ?_) (fun j h1 h2 => va_up_ne _ _ h1)
  · rw [sb_cpy0 hi]; exact hF i hi
  · rw [if_neg (by omega)]
    exact (hr2 i hi).1.keep (va_up_ne _ _ (by omega)) (va_up_ne _ _ (by omega)) (va_up_ne _ _ (by omega))
def sp_save (S : cS) : cA := (nI (mtot S.rg 5), (S.wd, S.wd, S.rg, S.rg, true, S.inp, S.out))
def sp_restore (S : cS) : cA := if S.sv then (nI (mtot S.rg2 5), (S.wd2, S.wd2, S.rg2, S.rg2, S.sv, S.inp, S.out)) else (Int32.ofInt (-8), S)
set_option maxRecDepth 100000 in
set_option maxHeartbeats 4000000 in
theorem c_saveSnapshot (hg : hgo g) (hd : 20 ≤ d) {S : cS} (hS : hX w S) (h : ∀ w', hX w' (sp_save S).2 → nfr w w' → Q (some (.int (sp_save S).1)) N c s w') : Γ g d yX9_saveSnapshot [.ref 0] N c s w Q := by
  refine Γ.intro0 hg kX9_saveSnapshot (by omega) (Nat.le_of_ble_eq_true rfl) (fun P hP => ?_)
  show P N 0 0 w 0 [some (.ref 0)] []
  obtain ⟨a0, a1, a2, a3, a4, a5, a6, a7, a8, ⟨u, a9⟩, a10, a11⟩ := hS
  have u0 : ∀ (e : hE) (j : Nat), j ≠ 0 → va_up w 0 e j = w j := fun e j hj => va_up_ne _ _ hj
  refine hP 0 _ rfl _ _ _ _ _ _ ?_
  simp only [bX9_saveSnapshot_0, hrun, hx, hnth, hput, hok, hcat2, hldI, hldL, hldR, hpI, hpL, hpA, hpR, hp1, hpV, hrtI, hrtL, hrtR, hrtV, hpN, hck, hrI, hrB, hrL, hrA, hwI, hwA, hwB, hrN, hfk, hfs, hrF, hwF, hcl, hfty, tyX1, tyX3, tyX6, tyX9, tyX10, tyJ0, tyJ4, hfit, hcmp, hnar, hres, hst, hacp, kz, kof, kn0, kn1, Bool.not_true, Bool.not_false, true_and, and_true, Nat.zero_add, Nat.reduceAdd, List.length_cons, List.length_nil, true_or, or_true, false_or, or_false, decide_true, decide_false, ne_eq, not_true_eq_false, not_false_eq_true, ki_0, ki_1, ki_2, ki_3, ki_4, ki_5, kb_m100, kb_m10, kb_m9, kb_m8, kb_m7, kb_m6, kb_m5, kb_m4, kb_m3, kb_m2, kb_6, kb_7, kb_8, kb_9, kb_10, kb_12, kb_13, kb_16, kb_27, kb_31, kb_32, kb_43, kb_45, kb_48, kb_57, kb_60, kb_63, kb_81, kb_97, kb_99, kb_100, kb_120, kb_126, ks_m1000, ks_243, ks_255, ks_729, ks_1000, ks_2000, ks_2187, ks_6561, ks_9840, ks_9841, kl_0, kl_1, a0, va_up_self]
  refine ⟨by decide +kernel, ?_⟩
  refine c_copySave hg (by omega) (a1.keep (u0 _ _ (by decide))) (a2.keep (u0 _ _ (by decide))) ((u0 _ _ (by decide)).trans a3) ((u0 _ _ (by decide)).trans a4) (a5.keep (fun i hi => ⟨u0 _ _ (by omega), u0 _ _ (by omega), u0 _ _ (by omega)⟩)) (a6.keep (fun i hi => ⟨u0 _ _ (by omega), u0 _ _ (by omega), u0 _ _ (by omega)⟩)) (fun w2 b1 b2 hm => ?_)
  have hk : ∀ j, j ≠ 0 → j ≠ 2 → (j < 20 ∨ 20 + 26 < j ∨ 3 ≤ (j - 20) % 6) → w2 j = w j := fun j z0 h1 h2 => (hm j h1 h2).trans (u0 _ _ z0)
  simp only [hrun, hx, hnth, hput, hok, hcat2, hldI, hldL, hldR, hpI, hpL, hpA, hpR, hp1, hpV, hrtI, hrtL, hrtR, hrtV, hpN, hck, hrI, hrB, hrL, hrA, hwI, hwA, hwB, hrN, hfk, hfs, hrF, hwF, hcl, hfty, tyX1, tyX3, tyX6, tyX9, tyX10, tyJ0, tyJ4, hfit, hcmp, hnar, hres, hst, hacp, kz, kof, kn0, kn1, Bool.not_true, Bool.not_false, true_and, and_true, Nat.zero_add, Nat.reduceAdd, List.length_cons, List.length_nil, true_or, or_true, false_or, or_false, decide_true, decide_false, ne_eq, not_true_eq_false, not_false_eq_true, ki_0, ki_1, ki_2, ki_3, ki_4, ki_5, kb_m100, kb_m10, kb_m9, kb_m8, kb_m7, kb_m6, kb_m5, kb_m4, kb_m3, kb_m2, kb_6, kb_7, kb_8, kb_9, kb_10, kb_12, kb_13, kb_16, kb_27, kb_31, kb_32, kb_43, kb_45, kb_48, kb_57, kb_60, kb_63, kb_81, kb_97, kb_99, kb_100, kb_120, kb_126, ks_m1000, ks_243, ks_255, ks_729, ks_1000, ks_2000, ks_2187, ks_6561, ks_9840, ks_9841, kl_0, kl_1, a0, va_up_self]
  refine h w2 ⟨by rw [hm 0 (by decide) (by decide), va_up_self]; rfl, a1.keep (hk _ (by decide) (by decide) (by decide)), b1, (hk _ (by decide) (by decide) (by decide)).trans a3, (hk _ (by decide) (by decide) (by decide)).trans a4, a5.keep (fun i hi => ⟨hk _ (by omega) (by omega) (by omega), hk _ (by omega) (by omega) (by omega), hk _ (by omega) (by omega) (by omega)⟩), b2, a7.keep (hk _ (by decide) (by decide) (by decide)) (hk _ (by decide) (by decide) (by decide)), a8.keep (fun i hi => by simp at hi; exact hk _ (by omega) (by omega) (by omega)), ⟨u, a9.keep (hk _ (by decide) (by decide) (by decide))⟩, (hk _ (by decide) (by decide) (by decide)).trans a10, (hk _ (by decide) (by decide) (by decide)).trans a11⟩ (fun j hj => hk j (by omega) (by omega) (by omega))
set_option maxRecDepth 100000 in
set_option maxHeartbeats 4000000 in
theorem c_restoreSnapshot (hg : hgo g) (hd : 20 ≤ d) {S : cS} (hS : hX w S) (h : ∀ w', hX w' (sp_restore S).2 → nfr w w' → Q (some (.int (sp_restore S).1)) N c s w') : Γ g d yX9_restoreSnapshot [.ref 0] N c s w Q := by
  refine Γ.intro0 hg kX9_restoreSnapshot (by omega) (Nat.le_of_ble_eq_true rfl) (fun P hP => ?_)
  show P N 0 0 w 0 [some (.ref 0)] []
  obtain ⟨a0, a1, a2, a3, a4, a5, a6, a7, a8, ⟨u, a9⟩, a10, a11⟩ := id hS
  cases hsv : S.sv with
  | false =>
    have e0 : mbI S.sv = nI 0 := by rw [hsv]; rfl
    simp only [sp_restore, hsv] at h
    refine hP 0 _ rfl _ _ _ _ _ _ ?_
    simp only [bX9_restoreSnapshot_0, hrun, hx, hnth, hput, hok, hcat2, hldI, hldL, hldR, hpI, hpL, hpA, hpR, hp1, hpV, hrtI, hrtL, hrtR, hrtV, hpN, hck, hrI, hrB, hrL, hrA, hwI, hwA, hwB, hrN, hfk, hfs, hrF, hwF, hcl, hfty, tyX1, tyX3, tyX6, tyX9, tyX10, tyJ0, tyJ4, hfit, hcmp, hnar, hres, hst, hacp, kz, kof, kn0, kn1, Bool.not_true, Bool.not_false, true_and, and_true, Nat.zero_add, Nat.reduceAdd, List.length_cons, List.length_nil, true_or, or_true, false_or, or_false, decide_true, decide_false, ne_eq, not_true_eq_false, not_false_eq_true, ki_0, ki_1, ki_2, ki_3, ki_4, ki_5, kb_m100, kb_m10, kb_m9, kb_m8, kb_m7, kb_m6, kb_m5, kb_m4, kb_m3, kb_m2, kb_6, kb_7, kb_8, kb_9, kb_10, kb_12, kb_13, kb_16, kb_27, kb_31, kb_32, kb_43, kb_45, kb_48, kb_57, kb_60, kb_63, kb_81, kb_97, kb_99, kb_100, kb_120, kb_126, ks_m1000, ks_243, ks_255, ks_729, ks_1000, ks_2000, ks_2187, ks_6561, ks_9840, ks_9841, kl_0, kl_1, a0, e0]
    refine ⟨fun b4 => ?_, fun b4 => ?_⟩
    · (try simp (disch := omega) only [nI_ltI, nI_leI, nI_eq, Nat.not_lt, Nat.not_le] at b4) <;> (exfalso; omega)
    · try simp (disch := omega) only [nI_ltI, nI_leI, nI_eq, Nat.not_lt, Nat.not_le] at b4
      refine hP 1 _ rfl _ _ _ _ _ _ ?_
      simp only [bX9_restoreSnapshot_1, hrun, hx, hnth, hput, hok, hcat2, hldI, hldL, hldR, hpI, hpL, hpA, hpR, hp1, hpV, hrtI, hrtL, hrtR, hrtV, hpN, hck, hrI, hrB, hrL, hrA, hwI, hwA, hwB, hrN, hfk, hfs, hrF, hwF, hcl, hfty, tyX1, tyX3, tyX6, tyX9, tyX10, tyJ0, tyJ4, hfit, hcmp, hnar, hres, hst, hacp, kz, kof, kn0, kn1, Bool.not_true, Bool.not_false, true_and, and_true, Nat.zero_add, Nat.reduceAdd, List.length_cons, List.length_nil, true_or, or_true, false_or, or_false, decide_true, decide_false, ne_eq, not_true_eq_false, not_false_eq_true, ki_0, ki_1, ki_2, ki_3, ki_4, ki_5, kb_m100, kb_m10, kb_m9, kb_m8, kb_m7, kb_m6, kb_m5, kb_m4, kb_m3, kb_m2, kb_6, kb_7, kb_8, kb_9, kb_10, kb_12, kb_13, kb_16, kb_27, kb_31, kb_32, kb_43, kb_45, kb_48, kb_57, kb_60, kb_63, kb_81, kb_97, kb_99, kb_100, kb_120, kb_126, ks_m1000, ks_243, ks_255, ks_729, ks_1000, ks_2000, ks_2187, ks_6561, ks_9840, ks_9841, kl_0, kl_1, a0, e0]
      exact h w hS nfr.rf
  | true =>
    have e0 : mbI S.sv = nI 1 := by rw [hsv]; rfl
    simp only [sp_restore, hsv, if_true] at h
    refine hP 0 _ rfl _ _ _ _ _ _ ?_
    simp only [bX9_restoreSnapshot_0, hrun, hx, hnth, hput, hok, hcat2, hldI, hldL, hldR, hpI, hpL, hpA, hpR, hp1, hpV, hrtI, hrtL, hrtR, hrtV, hpN, hck, hrI, hrB, hrL, hrA, hwI, hwA, hwB, hrN, hfk, hfs, hrF, hwF, hcl, hfty, tyX1, tyX3, tyX6, tyX9, tyX10, tyJ0, tyJ4, hfit, hcmp, hnar, hres, hst, hacp, kz, kof, kn0, kn1, Bool.not_true, Bool.not_false, true_and, and_true, Nat.zero_add, Nat.reduceAdd, List.length_cons, List.length_nil, true_or, or_true, false_or, or_false, decide_true, decide_false, ne_eq, not_true_eq_false, not_false_eq_true, ki_0, ki_1, ki_2, ki_3, ki_4, ki_5, kb_m100, kb_m10, kb_m9, kb_m8, kb_m7, kb_m6, kb_m5, kb_m4, kb_m3, kb_m2, kb_6, kb_7, kb_8, kb_9, kb_10, kb_12, kb_13, kb_16, kb_27, kb_31, kb_32, kb_43, kb_45, kb_48, kb_57, kb_60, kb_63, kb_81, kb_97, kb_99, kb_100, kb_120, kb_126, ks_m1000, ks_243, ks_255, ks_729, ks_1000, ks_2000, ks_2187, ks_6561, ks_9840, ks_9841, kl_0, kl_1, a0, e0]
    refine ⟨fun b4 => ?_, fun b4 => ?_⟩
    · try simp (disch := omega) only [nI_ltI, nI_leI, nI_eq, Nat.not_lt, Nat.not_le] at b4
      refine hP 2 _ rfl _ _ _ _ _ _ ?_
      simp only [bX9_restoreSnapshot_2, hrun, hx, hnth, hput, hok, hcat2, hldI, hldL, hldR, hpI, hpL, hpA, hpR, hp1, hpV, hrtI, hrtL, hrtR, hrtV, hpN, hck, hrI, hrB, hrL, hrA, hwI, hwA, hwB, hrN, hfk, hfs, hrF, hwF, hcl, hfty, tyX1, tyX3, tyX6, tyX9, tyX10, tyJ0, tyJ4, hfit, hcmp, hnar, hres, hst, hacp, kz, kof, kn0, kn1, Bool.not_true, Bool.not_false, true_and, and_true, Nat.zero_add, Nat.reduceAdd, List.length_cons, List.length_nil, true_or, or_true, false_or, or_false, decide_true, decide_false, ne_eq, not_true_eq_false, not_false_eq_true, ki_0, ki_1, ki_2, ki_3, ki_4, ki_5, kb_m100, kb_m10, kb_m9, kb_m8, kb_m7, kb_m6, kb_m5, kb_m4, kb_m3, kb_m2, kb_6, kb_7, kb_8, kb_9, kb_10, kb_12, kb_13, kb_16, kb_27, kb_31, kb_32, kb_43, kb_45, kb_48, kb_57, kb_60, kb_63, kb_81, kb_97, kb_99, kb_100, kb_120, kb_126, ks_m1000, ks_243, ks_255, ks_729, ks_1000, ks_2000, ks_2187, ks_6561, ks_9840, ks_9841, kl_0, kl_1, a0, e0]
      refine c_copyRest hg (by omega) a2 a1 a4 a3 a6 a5 (fun w2 b1 b2 hm => ?_)
      simp only [hrun, hx, hnth, hput, hok, hcat2, hldI, hldL, hldR, hpI, hpL, hpA, hpR, hp1, hpV, hrtI, hrtL, hrtR, hrtV, hpN, hck, hrI, hrB, hrL, hrA, hwI, hwA, hwB, hrN, hfk, hfs, hrF, hwF, hcl, hfty, tyX1, tyX3, tyX6, tyX9, tyX10, tyJ0, tyJ4, hfit, hcmp, hnar, hres, hst, hacp, kz, kof, kn0, kn1, Bool.not_true, Bool.not_false, true_and, and_true, Nat.zero_add, Nat.reduceAdd, List.length_cons, List.length_nil, true_or, or_true, false_or, or_false, decide_true, decide_false, ne_eq, not_true_eq_false, not_false_eq_true, ki_0, ki_1, ki_2, ki_3, ki_4, ki_5, kb_m100, kb_m10, kb_m9, kb_m8, kb_m7, kb_m6, kb_m5, kb_m4, kb_m3, kb_m2, kb_6, kb_7, kb_8, kb_9, kb_10, kb_12, kb_13, kb_16, kb_27, kb_31, kb_32, kb_43, kb_45, kb_48, kb_57, kb_60, kb_63, kb_81, kb_97, kb_99, kb_100, kb_120, kb_126, ks_m1000, ks_243, ks_255, ks_729, ks_1000, ks_2000, ks_2187, ks_6561, ks_9840, ks_9841, kl_0, kl_1, a0, e0]
      refine h w2 ⟨by rw [hm 0 (by decide) (by decide), a0, hsv], b1, a2.keep (hm _ (by decide) (by decide)), (hm _ (by decide) (by decide)).trans a3, (hm _ (by decide) (by decide)).trans a4, b2, a6.keep (fun i hi => ⟨hm _ (by omega) (by omega), hm _ (by omega) (by omega), hm _ (by omega) (by omega)⟩), a7.keep (hm _ (by decide) (by decide)) (hm _ (by decide) (by decide)), a8.keep (fun i hi => by simp at hi; exact hm _ (by omega) (by omega)), ⟨u, a9.keep (hm _ (by decide) (by decide))⟩, (hm _ (by decide) (by decide)).trans a10, (hm _ (by decide) (by decide)).trans a11⟩ (fun j hj => hm j (by omega) (by omega))
    · (try simp (disch := omega) only [nI_ltI, nI_leI, nI_eq, Nat.not_lt, Nat.not_le] at b4) <;> (exfalso; omega)
end W9o
