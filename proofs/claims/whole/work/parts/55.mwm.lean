/-! the reference's calls on words -/
section M6
variable {g : hG} {d N c s : Nat} {w : hWd} {Q : hRt}
theorem hY.wr {w w' : hWd} {S : cS} (h : hY w S) {i : Nat} (hi : i < 3) {u : List Nat} (hu : mW u) {F : Nat → Int32} (k1 : w 49 = .inl (0, 3, .inl F)) (k2 : w' 49 = .inl (0, 3, .inl (upd F i (nI u.length)))) {v : Nat → Nat} (hv : hrow w' (51 + i) v) (hvu : ∀ j, j < u.length → v j = mat u j) (hm : mfr [49, 51 + i] w w') : hY w' (sWd S i u) ∧ mfy w w' := by
  obtain ⟨hr, f, hf⟩ := h
  exact ⟨⟨hr.word hi hu k1 k2 hv hvu (hm.mono (by simp)) (hr.2.keep (hm _ (by simp; omega)) (hm _ (by simp; omega)) (hm _ (by simp; omega)) (hm _ (by simp; omega)) (hm _ (by simp; omega))), f, hf.keep (hm _ (by simp; omega))⟩, hm.y (fun x hx => by simp at hx; omega)⟩
theorem mat_set {u : List Nat} {v : Nat → Nat} {l : Nat} (hv : ∀ j, j < u.length → v j = mat u j) : ∀ j, j < (u ++ [l]).length → (fun j => if j = u.length then l else v j) j = mat (u ++ [l]) j := fun j hj => by
  unfold mat
  show (if j = u.length then l else v j) = _
  by_cases q : j = u.length
  · rw [if_pos q, q, List.getD_eq_getElem?_getD, List.getElem?_append_right (Nat.le_refl _), Nat.sub_self]; rfl
  · have : j < u.length := by simp at hj; omega
    rw [if_neg q, hv j this, List.getD_eq_getElem?_getD, List.getElem?_append_left this, ← List.getD_eq_getElem?_getD]; rfl
theorem mat_rev {u : List Nat} {j : Nat} (hj : j < u.length) : mat u.reverse j = mat u (u.length - 1 - j) := by
  unfold mat
  rw [List.getD_eq_getElem?_getD, List.getD_eq_getElem?_getD, List.getElem?_reverse hj]
set_option maxRecDepth 100000 in
set_option maxHeartbeats 4000000 in
theorem c_m_clearWord (hg : hgo g) (hd : 30 ≤ d) {S : cS} (hS : hY w S) {x : Int32} (h : ∀ w', hY w' (sp_clearWord S x).2 → mfy w w' → Q (some (.int (sp_clearWord S x).1)) N c s w') : Γ g d yX10_clearWord [.ref 47, .int x] N c s w Q := by
  refine Γ.intro0 hg kX10_clearWord (by omega) (Nat.le_of_ble_eq_true rfl) (fun P hP => ?_)
  show P N 0 0 w 0 [some (.ref 47), some (.int x), none] []
  cases hq_x : ixn 3 x with
  | none =>
    have hr_x := ixn_none hq_x
    simp only [sp_clearWord, hq_x] at h
    refine hP 0 _ rfl _ _ _ _ _ _ ?_
    simp only [bX10_clearWord_0, hrun, hx, hnth, hput, hok, hcat2, hldI, hldL, hldR, hpI, hpL, hpA, hpR, hp1, hpV, hrtI, hrtL, hrtR, hrtV, hpN, hck, hrI, hrB, hrL, hrA, hwI, hwA, hwB, hrN, hfk, hfs, hrF, hwF, hcl, hfty, tyX1, tyX3, tyX6, tyX9, tyX10, tyJ0, tyJ4, hfit, hcmp, hnar, hres, hst, hacp, kz, kof, kn0, kn1, Bool.not_true, Bool.not_false, true_and, and_true, Nat.zero_add, Nat.reduceAdd, List.length_cons, List.length_nil, true_or, or_true, false_or, or_false, decide_true, decide_false, ne_eq, not_true_eq_false, not_false_eq_true, ki_0, ki_1, ki_2, ki_3, ki_4, ki_5, kb_m100, kb_m10, kb_m9, kb_m8, kb_m7, kb_m6, kb_m5, kb_m4, kb_m3, kb_m2, kb_6, kb_7, kb_8, kb_9, kb_10, kb_12, kb_13, kb_16, kb_27, kb_31, kb_32, kb_43, kb_45, kb_48, kb_57, kb_60, kb_63, kb_81, kb_97, kb_99, kb_100, kb_120, kb_126, ks_m1000, ks_243, ks_255, ks_729, ks_1000, ks_2000, ks_2187, ks_6561, ks_9840, ks_9841, kl_0, kl_1]
    refine c_m_isBufferN hg (by omega) hr_x ?_
    simp only [hrun, hx, hnth, hput, hok, hcat2, hldI, hldL, hldR, hpI, hpL, hpA, hpR, hp1, hpV, hrtI, hrtL, hrtR, hrtV, hpN, hck, hrI, hrB, hrL, hrA, hwI, hwA, hwB, hrN, hfk, hfs, hrF, hwF, hcl, hfty, tyX1, tyX3, tyX6, tyX9, tyX10, tyJ0, tyJ4, hfit, hcmp, hnar, hres, hst, hacp, kz, kof, kn0, kn1, Bool.not_true, Bool.not_false, true_and, and_true, Nat.zero_add, Nat.reduceAdd, List.length_cons, List.length_nil, true_or, or_true, false_or, or_false, decide_true, decide_false, ne_eq, not_true_eq_false, not_false_eq_true, ki_0, ki_1, ki_2, ki_3, ki_4, ki_5, kb_m100, kb_m10, kb_m9, kb_m8, kb_m7, kb_m6, kb_m5, kb_m4, kb_m3, kb_m2, kb_6, kb_7, kb_8, kb_9, kb_10, kb_12, kb_13, kb_16, kb_27, kb_31, kb_32, kb_43, kb_45, kb_48, kb_57, kb_60, kb_63, kb_81, kb_97, kb_99, kb_100, kb_120, kb_126, ks_m1000, ks_243, ks_255, ks_729, ks_1000, ks_2000, ks_2187, ks_6561, ks_9840, ks_9841, kl_0, kl_1]
    refine ⟨fun b4 => ?_, fun b4 => ?_⟩
    · (try simp (disch := omega) only [nI_ltI, nI_leI, nI_eq, Nat.not_lt, Nat.not_le] at b4) <;> (exfalso; omega)
    · try simp (disch := omega) only [nI_ltI, nI_leI, nI_eq, Nat.not_lt, Nat.not_le] at b4
      refine hP 1 _ rfl _ _ _ _ _ _ ?_
      simp only [bX10_clearWord_1, hrun, hx, hnth, hput, hok, hcat2, hldI, hldL, hldR, hpI, hpL, hpA, hpR, hp1, hpV, hrtI, hrtL, hrtR, hrtV, hpN, hck, hrI, hrB, hrL, hrA, hwI, hwA, hwB, hrN, hfk, hfs, hrF, hwF, hcl, hfty, tyX1, tyX3, tyX6, tyX9, tyX10, tyJ0, tyJ4, hfit, hcmp, hnar, hres, hst, hacp, kz, kof, kn0, kn1, Bool.not_true, Bool.not_false, true_and, and_true, Nat.zero_add, Nat.reduceAdd, List.length_cons, List.length_nil, true_or, or_true, false_or, or_false, decide_true, decide_false, ne_eq, not_true_eq_false, not_false_eq_true, ki_0, ki_1, ki_2, ki_3, ki_4, ki_5, kb_m100, kb_m10, kb_m9, kb_m8, kb_m7, kb_m6, kb_m5, kb_m4, kb_m3, kb_m2, kb_6, kb_7, kb_8, kb_9, kb_10, kb_12, kb_13, kb_16, kb_27, kb_31, kb_32, kb_43, kb_45, kb_48, kb_57, kb_60, kb_63, kb_81, kb_97, kb_99, kb_100, kb_120, kb_126, ks_m1000, ks_243, ks_255, ks_729, ks_1000, ks_2000, ks_2187, ks_6561, ks_9840, ks_9841, kl_0, kl_1]
      exact h w hS mfy.rf
  | some i =>
    obtain ⟨h_i, hrfl_i⟩ := ixn_some (by omega) hq_x
    subst hrfl_i
    obtain ⟨⟨⟨ls, ⟨ml, ns, at9, k0⟩, kp, hLm9, hW1, hW2, hR1, hR2, hI9, hO9⟩, hz⟩, f9, hf9⟩ := id hS
    obtain ⟨⟨F, k1, hF⟩, k2, hFr⟩ := id hW1
    have e_i := nI_clamp (n := i) (by omega)
    have f_i := (hF i h_i).1
    have hu_i := (hF i h_i).2
    have h8_i := hu_i.1
    obtain ⟨v_i, hq_i, hv_i⟩ := hFr i h_i
    obtain ⟨G_i, g_i, hG_i⟩ := id hq_i
    simp only [sp_clearWord, hq_x] at h
    refine hP 0 _ rfl _ _ _ _ _ _ ?_
    simp only [bX10_clearWord_0, hrun, hx, hnth, hput, hok, hcat2, hldI, hldL, hldR, hpI, hpL, hpA, hpR, hp1, hpV, hrtI, hrtL, hrtR, hrtV, hpN, hck, hrI, hrB, hrL, hrA, hwI, hwA, hwB, hrN, hfk, hfs, hrF, hwF, hcl, hfty, tyX1, tyX3, tyX6, tyX9, tyX10, tyJ0, tyJ4, hfit, hcmp, hnar, hres, hst, hacp, kz, kof, kn0, kn1, Bool.not_true, Bool.not_false, true_and, and_true, Nat.zero_add, Nat.reduceAdd, List.length_cons, List.length_nil, true_or, or_true, false_or, or_false, decide_true, decide_false, ne_eq, not_true_eq_false, not_false_eq_true, ki_0, ki_1, ki_2, ki_3, ki_4, ki_5, kb_m100, kb_m10, kb_m9, kb_m8, kb_m7, kb_m6, kb_m5, kb_m4, kb_m3, kb_m2, kb_6, kb_7, kb_8, kb_9, kb_10, kb_12, kb_13, kb_16, kb_27, kb_31, kb_32, kb_43, kb_45, kb_48, kb_57, kb_60, kb_63, kb_81, kb_97, kb_99, kb_100, kb_120, kb_126, ks_m1000, ks_243, ks_255, ks_729, ks_1000, ks_2000, ks_2187, ks_6561, ks_9840, ks_9841, kl_0, kl_1, k0, kp, mFl, k1, k2, va_rf, e_i, f_i]
    refine c_m_isBuffer hg (by omega) h_i ?_
    simp only [hrun, hx, hnth, hput, hok, hcat2, hldI, hldL, hldR, hpI, hpL, hpA, hpR, hp1, hpV, hrtI, hrtL, hrtR, hrtV, hpN, hck, hrI, hrB, hrL, hrA, hwI, hwA, hwB, hrN, hfk, hfs, hrF, hwF, hcl, hfty, tyX1, tyX3, tyX6, tyX9, tyX10, tyJ0, tyJ4, hfit, hcmp, hnar, hres, hst, hacp, kz, kof, kn0, kn1, Bool.not_true, Bool.not_false, true_and, and_true, Nat.zero_add, Nat.reduceAdd, List.length_cons, List.length_nil, true_or, or_true, false_or, or_false, decide_true, decide_false, ne_eq, not_true_eq_false, not_false_eq_true, ki_0, ki_1, ki_2, ki_3, ki_4, ki_5, kb_m100, kb_m10, kb_m9, kb_m8, kb_m7, kb_m6, kb_m5, kb_m4, kb_m3, kb_m2, kb_6, kb_7, kb_8, kb_9, kb_10, kb_12, kb_13, kb_16, kb_27, kb_31, kb_32, kb_43, kb_45, kb_48, kb_57, kb_60, kb_63, kb_81, kb_97, kb_99, kb_100, kb_120, kb_126, ks_m1000, ks_243, ks_255, ks_729, ks_1000, ks_2000, ks_2187, ks_6561, ks_9840, ks_9841, kl_0, kl_1, k0, kp, mFl, k1, k2, va_rf, e_i, f_i]
    refine ⟨fun b4 => ?_, fun b4 => ?_⟩
    · try simp (disch := omega) only [nI_ltI, nI_leI, nI_eq, Nat.not_lt, Nat.not_le] at b4
      refine hP 2 _ rfl _ _ _ _ _ _ ?_
      simp only [bX10_clearWord_2, hrun, hx, hnth, hput, hok, hcat2, hldI, hldL, hldR, hpI, hpL, hpA, hpR, hp1, hpV, hrtI, hrtL, hrtR, hrtV, hpN, hck, hrI, hrB, hrL, hrA, hwI, hwA, hwB, hrN, hfk, hfs, hrF, hwF, hcl, hfty, tyX1, tyX3, tyX6, tyX9, tyX10, tyJ0, tyJ4, hfit, hcmp, hnar, hres, hst, hacp, kz, kof, kn0, kn1, Bool.not_true, Bool.not_false, true_and, and_true, Nat.zero_add, Nat.reduceAdd, List.length_cons, List.length_nil, true_or, or_true, false_or, or_false, decide_true, decide_false, ne_eq, not_true_eq_false, not_false_eq_true, ki_0, ki_1, ki_2, ki_3, ki_4, ki_5, kb_m100, kb_m10, kb_m9, kb_m8, kb_m7, kb_m6, kb_m5, kb_m4, kb_m3, kb_m2, kb_6, kb_7, kb_8, kb_9, kb_10, kb_12, kb_13, kb_16, kb_27, kb_31, kb_32, kb_43, kb_45, kb_48, kb_57, kb_60, kb_63, kb_81, kb_97, kb_99, kb_100, kb_120, kb_126, ks_m1000, ks_243, ks_255, ks_729, ks_1000, ks_2000, ks_2187, ks_6561, ks_9840, ks_9841, kl_0, kl_1, k0, kp, mFl, k1, k2, va_rf, e_i, f_i]
      refine ⟨vp_in_nI (by omega) (by omega), ?_⟩
      refine ⟨vp_in_nI (by omega) (by omega), ?_⟩
      have z := hS.wr h_i mW.nil k1 (va_up_self ..) (v := v_i) (hq_i.keep (va_up_ne _ _ (by omega))) (fun j hj => by cases hj) (mfr.up (by simp))
      exact h _ z.1 z.2
    · (try simp (disch := omega) only [nI_ltI, nI_leI, nI_eq, Nat.not_lt, Nat.not_le] at b4) <;> (exfalso; omega)
set_option maxRecDepth 100000 in
set_option maxHeartbeats 4000000 in
theorem c_m_wordLength (hg : hgo g) (hd : 30 ≤ d) {S : cS} (hS : hY w S) {x : Int32} (h : ∀ w', hY w' (sp_wordLength S x).2 → mfy w w' → Q (some (.int (sp_wordLength S x).1)) N c s w') : Γ g d yX10_wordLength [.ref 47, .int x] N c s w Q := by
  refine Γ.intro0 hg kX10_wordLength (by omega) (Nat.le_of_ble_eq_true rfl) (fun P hP => ?_)
  show P N 0 0 w 0 [some (.ref 47), some (.int x)] []
  cases hq_x : ixn 3 x with
  | none =>
    have hr_x := ixn_none hq_x
    simp only [sp_wordLength, hq_x] at h
    refine hP 0 _ rfl _ _ _ _ _ _ ?_
    simp only [bX10_wordLength_0, hrun, hx, hnth, hput, hok, hcat2, hldI, hldL, hldR, hpI, hpL, hpA, hpR, hp1, hpV, hrtI, hrtL, hrtR, hrtV, hpN, hck, hrI, hrB, hrL, hrA, hwI, hwA, hwB, hrN, hfk, hfs, hrF, hwF, hcl, hfty, tyX1, tyX3, tyX6, tyX9, tyX10, tyJ0, tyJ4, hfit, hcmp, hnar, hres, hst, hacp, kz, kof, kn0, kn1, Bool.not_true, Bool.not_false, true_and, and_true, Nat.zero_add, Nat.reduceAdd, List.length_cons, List.length_nil, true_or, or_true, false_or, or_false, decide_true, decide_false, ne_eq, not_true_eq_false, not_false_eq_true, ki_0, ki_1, ki_2, ki_3, ki_4, ki_5, kb_m100, kb_m10, kb_m9, kb_m8, kb_m7, kb_m6, kb_m5, kb_m4, kb_m3, kb_m2, kb_6, kb_7, kb_8, kb_9, kb_10, kb_12, kb_13, kb_16, kb_27, kb_31, kb_32, kb_43, kb_45, kb_48, kb_57, kb_60, kb_63, kb_81, kb_97, kb_99, kb_100, kb_120, kb_126, ks_m1000, ks_243, ks_255, ks_729, ks_1000, ks_2000, ks_2187, ks_6561, ks_9840, ks_9841, kl_0, kl_1]
    refine c_m_isBufferN hg (by omega) hr_x ?_
    simp only [hrun, hx, hnth, hput, hok, hcat2, hldI, hldL, hldR, hpI, hpL, hpA, hpR, hp1, hpV, hrtI, hrtL, hrtR, hrtV, hpN, hck, hrI, hrB, hrL, hrA, hwI, hwA, hwB, hrN, hfk, hfs, hrF, hwF, hcl, hfty, tyX1, tyX3, tyX6, tyX9, tyX10, tyJ0, tyJ4, hfit, hcmp, hnar, hres, hst, hacp, kz, kof, kn0, kn1, Bool.not_true, Bool.not_false, true_and, and_true, Nat.zero_add, Nat.reduceAdd, List.length_cons, List.length_nil, true_or, or_true, false_or, or_false, decide_true, decide_false, ne_eq, not_true_eq_false, not_false_eq_true, ki_0, ki_1, ki_2, ki_3, ki_4, ki_5, kb_m100, kb_m10, kb_m9, kb_m8, kb_m7, kb_m6, kb_m5, kb_m4, kb_m3, kb_m2, kb_6, kb_7, kb_8, kb_9, kb_10, kb_12, kb_13, kb_16, kb_27, kb_31, kb_32, kb_43, kb_45, kb_48, kb_57, kb_60, kb_63, kb_81, kb_97, kb_99, kb_100, kb_120, kb_126, ks_m1000, ks_243, ks_255, ks_729, ks_1000, ks_2000, ks_2187, ks_6561, ks_9840, ks_9841, kl_0, kl_1]
    refine ⟨fun b4 => ?_, fun b4 => ?_⟩
    · try simp (disch := omega) only [nI_ltI, nI_leI, nI_eq, Nat.not_lt, Nat.not_le] at b4
      refine hP 2 _ rfl _ _ _ _ _ _ ?_
      simp only [bX10_wordLength_2, hrun, hx, hnth, hput, hok, hcat2, hldI, hldL, hldR, hpI, hpL, hpA, hpR, hp1, hpV, hrtI, hrtL, hrtR, hrtV, hpN, hck, hrI, hrB, hrL, hrA, hwI, hwA, hwB, hrN, hfk, hfs, hrF, hwF, hcl, hfty, tyX1, tyX3, tyX6, tyX9, tyX10, tyJ0, tyJ4, hfit, hcmp, hnar, hres, hst, hacp, kz, kof, kn0, kn1, Bool.not_true, Bool.not_false, true_and, and_true, Nat.zero_add, Nat.reduceAdd, List.length_cons, List.length_nil, true_or, or_true, false_or, or_false, decide_true, decide_false, ne_eq, not_true_eq_false, not_false_eq_true, ki_0, ki_1, ki_2, ki_3, ki_4, ki_5, kb_m100, kb_m10, kb_m9, kb_m8, kb_m7, kb_m6, kb_m5, kb_m4, kb_m3, kb_m2, kb_6, kb_7, kb_8, kb_9, kb_10, kb_12, kb_13, kb_16, kb_27, kb_31, kb_32, kb_43, kb_45, kb_48, kb_57, kb_60, kb_63, kb_81, kb_97, kb_99, kb_100, kb_120, kb_126, ks_m1000, ks_243, ks_255, ks_729, ks_1000, ks_2000, ks_2187, ks_6561, ks_9840, ks_9841, kl_0, kl_1]
      refine hP 3 _ rfl _ _ _ _ _ _ ?_
      simp only [bX10_wordLength_3, hrun, hx, hnth, hput, hok, hcat2, hldI, hldL, hldR, hpI, hpL, hpA, hpR, hp1, hpV, hrtI, hrtL, hrtR, hrtV, hpN, hck, hrI, hrB, hrL, hrA, hwI, hwA, hwB, hrN, hfk, hfs, hrF, hwF, hcl, hfty, tyX1, tyX3, tyX6, tyX9, tyX10, tyJ0, tyJ4, hfit, hcmp, hnar, hres, hst, hacp, kz, kof, kn0, kn1, Bool.not_true, Bool.not_false, true_and, and_true, Nat.zero_add, Nat.reduceAdd, List.length_cons, List.length_nil, true_or, or_true, false_or, or_false, decide_true, decide_false, ne_eq, not_true_eq_false, not_false_eq_true, ki_0, ki_1, ki_2, ki_3, ki_4, ki_5, kb_m100, kb_m10, kb_m9, kb_m8, kb_m7, kb_m6, kb_m5, kb_m4, kb_m3, kb_m2, kb_6, kb_7, kb_8, kb_9, kb_10, kb_12, kb_13, kb_16, kb_27, kb_31, kb_32, kb_43, kb_45, kb_48, kb_57, kb_60, kb_63, kb_81, kb_97, kb_99, kb_100, kb_120, kb_126, ks_m1000, ks_243, ks_255, ks_729, ks_1000, ks_2000, ks_2187, ks_6561, ks_9840, ks_9841, kl_0, kl_1]
      exact h w hS mfy.rf
    · (try simp (disch := omega) only [nI_ltI, nI_leI, nI_eq, Nat.not_lt, Nat.not_le] at b4) <;> (exfalso; omega)
  | some i =>
    obtain ⟨h_i, hrfl_i⟩ := ixn_some (by omega) hq_x
    subst hrfl_i
    obtain ⟨⟨⟨ls, ⟨ml, ns, at9, k0⟩, kp, hLm9, hW1, hW2, hR1, hR2, hI9, hO9⟩, hz⟩, f9, hf9⟩ := id hS
    obtain ⟨⟨F, k1, hF⟩, k2, hFr⟩ := id hW1
    have e_i := nI_clamp (n := i) (by omega)
    have f_i := (hF i h_i).1
    have hu_i := (hF i h_i).2
    have h8_i := hu_i.1
    obtain ⟨v_i, hq_i, hv_i⟩ := hFr i h_i
    obtain ⟨G_i, g_i, hG_i⟩ := id hq_i
    simp only [sp_wordLength, hq_x] at h
    refine hP 0 _ rfl _ _ _ _ _ _ ?_
    simp only [bX10_wordLength_0, hrun, hx, hnth, hput, hok, hcat2, hldI, hldL, hldR, hpI, hpL, hpA, hpR, hp1, hpV, hrtI, hrtL, hrtR, hrtV, hpN, hck, hrI, hrB, hrL, hrA, hwI, hwA, hwB, hrN, hfk, hfs, hrF, hwF, hcl, hfty, tyX1, tyX3, tyX6, tyX9, tyX10, tyJ0, tyJ4, hfit, hcmp, hnar, hres, hst, hacp, kz, kof, kn0, kn1, Bool.not_true, Bool.not_false, true_and, and_true, Nat.zero_add, Nat.reduceAdd, List.length_cons, List.length_nil, true_or, or_true, false_or, or_false, decide_true, decide_false, ne_eq, not_true_eq_false, not_false_eq_true, ki_0, ki_1, ki_2, ki_3, ki_4, ki_5, kb_m100, kb_m10, kb_m9, kb_m8, kb_m7, kb_m6, kb_m5, kb_m4, kb_m3, kb_m2, kb_6, kb_7, kb_8, kb_9, kb_10, kb_12, kb_13, kb_16, kb_27, kb_31, kb_32, kb_43, kb_45, kb_48, kb_57, kb_60, kb_63, kb_81, kb_97, kb_99, kb_100, kb_120, kb_126, ks_m1000, ks_243, ks_255, ks_729, ks_1000, ks_2000, ks_2187, ks_6561, ks_9840, ks_9841, kl_0, kl_1, k0, kp, mFl, k1, k2, va_rf, e_i, f_i]
    refine c_m_isBuffer hg (by omega) h_i ?_
    simp only [hrun, hx, hnth, hput, hok, hcat2, hldI, hldL, hldR, hpI, hpL, hpA, hpR, hp1, hpV, hrtI, hrtL, hrtR, hrtV, hpN, hck, hrI, hrB, hrL, hrA, hwI, hwA, hwB, hrN, hfk, hfs, hrF, hwF, hcl, hfty, tyX1, tyX3, tyX6, tyX9, tyX10, tyJ0, tyJ4, hfit, hcmp, hnar, hres, hst, hacp, kz, kof, kn0, kn1, Bool.not_true, Bool.not_false, true_and, and_true, Nat.zero_add, Nat.reduceAdd, List.length_cons, List.length_nil, true_or, or_true, false_or, or_false, decide_true, decide_false, ne_eq, not_true_eq_false, not_false_eq_true, ki_0, ki_1, ki_2, ki_3, ki_4, ki_5, kb_m100, kb_m10, kb_m9, kb_m8, kb_m7, kb_m6, kb_m5, kb_m4, kb_m3, kb_m2, kb_6, kb_7, kb_8, kb_9, kb_10, kb_12, kb_13, kb_16, kb_27, kb_31, kb_32, kb_43, kb_45, kb_48, kb_57, kb_60, kb_63, kb_81, kb_97, kb_99, kb_100, kb_120, kb_126, ks_m1000, ks_243, ks_255, ks_729, ks_1000, ks_2000, ks_2187, ks_6561, ks_9840, ks_9841, kl_0, kl_1, k0, kp, mFl, k1, k2, va_rf, e_i, f_i]
    refine ⟨fun b4 => ?_, fun b4 => ?_⟩
    · (try simp (disch := omega) only [nI_ltI, nI_leI, nI_eq, Nat.not_lt, Nat.not_le] at b4) <;> (exfalso; omega)
    · try simp (disch := omega) only [nI_ltI, nI_leI, nI_eq, Nat.not_lt, Nat.not_le] at b4
      refine hP 1 _ rfl _ _ _ _ _ _ ?_
      simp only [bX10_wordLength_1, hrun, hx, hnth, hput, hok, hcat2, hldI, hldL, hldR, hpI, hpL, hpA, hpR, hp1, hpV, hrtI, hrtL, hrtR, hrtV, hpN, hck, hrI, hrB, hrL, hrA, hwI, hwA, hwB, hrN, hfk, hfs, hrF, hwF, hcl, hfty, tyX1, tyX3, tyX6, tyX9, tyX10, tyJ0, tyJ4, hfit, hcmp, hnar, hres, hst, hacp, kz, kof, kn0, kn1, Bool.not_true, Bool.not_false, true_and, and_true, Nat.zero_add, Nat.reduceAdd, List.length_cons, List.length_nil, true_or, or_true, false_or, or_false, decide_true, decide_false, ne_eq, not_true_eq_false, not_false_eq_true, ki_0, ki_1, ki_2, ki_3, ki_4, ki_5, kb_m100, kb_m10, kb_m9, kb_m8, kb_m7, kb_m6, kb_m5, kb_m4, kb_m3, kb_m2, kb_6, kb_7, kb_8, kb_9, kb_10, kb_12, kb_13, kb_16, kb_27, kb_31, kb_32, kb_43, kb_45, kb_48, kb_57, kb_60, kb_63, kb_81, kb_97, kb_99, kb_100, kb_120, kb_126, ks_m1000, ks_243, ks_255, ks_729, ks_1000, ks_2000, ks_2187, ks_6561, ks_9840, ks_9841, kl_0, kl_1, k0, kp, mFl, k1, k2, va_rf, e_i, f_i]
      refine ⟨vp_in_nI (by omega) (by omega), ?_⟩
      refine hP 3 _ rfl _ _ _ _ _ _ ?_
      simp only [bX10_wordLength_3, hrun, hx, hnth, hput, hok, hcat2, hldI, hldL, hldR, hpI, hpL, hpA, hpR, hp1, hpV, hrtI, hrtL, hrtR, hrtV, hpN, hck, hrI, hrB, hrL, hrA, hwI, hwA, hwB, hrN, hfk, hfs, hrF, hwF, hcl, hfty, tyX1, tyX3, tyX6, tyX9, tyX10, tyJ0, tyJ4, hfit, hcmp, hnar, hres, hst, hacp, kz, kof, kn0, kn1, Bool.not_true, Bool.not_false, true_and, and_true, Nat.zero_add, Nat.reduceAdd, List.length_cons, List.length_nil, true_or, or_true, false_or, or_false, decide_true, decide_false, ne_eq, not_true_eq_false, not_false_eq_true, ki_0, ki_1, ki_2, ki_3, ki_4, ki_5, kb_m100, kb_m10, kb_m9, kb_m8, kb_m7, kb_m6, kb_m5, kb_m4, kb_m3, kb_m2, kb_6, kb_7, kb_8, kb_9, kb_10, kb_12, kb_13, kb_16, kb_27, kb_31, kb_32, kb_43, kb_45, kb_48, kb_57, kb_60, kb_63, kb_81, kb_97, kb_99, kb_100, kb_120, kb_126, ks_m1000, ks_243, ks_255, ks_729, ks_1000, ks_2000, ks_2187, ks_6561, ks_9840, ks_9841, kl_0, kl_1, k0, kp, mFl, k1, k2, va_rf, e_i, f_i]
      exact h w hS mfy.rf
theorem btw_N {n : Nat} (hn : n < 1000000) {x : Int32} (hxr : x < nI 0 ∨ nI n ≤ x) : (if ¬ x < nI 0 ∧ ¬ nI n - nI 1 < x then nI 1 else nI 0) = nI 0 := if_neg (fun q => hxr.elim q.1 (fun z => q.2 (by
  rw [Int32.le_iff_toInt_le, nI_toInt (by omega)] at z
  rw [nI_subI (by omega) (by omega), Int32.lt_iff_toInt_lt, Int32.toInt_ofInt_of_le (by omega) (by omega)]
  omega)))
theorem btw_Y {n i : Nat} (hn : n < 1000000) (hi : i < n) : (if ¬ nI i < nI 0 ∧ ¬ nI n - nI 1 < nI i then nI 1 else nI 0) = nI 1 := if_pos ⟨by rw [nI_ltI (by omega) (by omega)]; omega, by
  rw [nI_subI (by omega) (by omega), Int32.lt_iff_toInt_lt, Int32.toInt_ofInt_of_le (by omega) (by omega), nI_toInt (by omega)]
  omega⟩
set_option maxRecDepth 100000 in
set_option maxHeartbeats 4000000 in
theorem c_m_wordLetter (hg : hgo g) (hd : 30 ≤ d) {S : cS} (hS : hY w S) {x y : Int32} (h : ∀ w', hY w' (sp_wordLetter S x y).2 → mfy w w' → Q (some (.int (sp_wordLetter S x y).1)) N c s w') : Γ g d yX10_wordLetter [.ref 47, .int x, .int y] N c s w Q := by
  refine Γ.intro0 hg kX10_wordLetter (by omega) (Nat.le_of_ble_eq_true rfl) (fun P hP => ?_)
  show P N 0 0 w 0 [some (.ref 47), some (.int x), some (.int y)] []
  cases hq_x : ixn 3 x with
  | none =>
    have hr_x := ixn_none hq_x
    simp only [sp_wordLetter, hq_x] at h
    refine hP 0 _ rfl _ _ _ _ _ _ ?_
    simp only [bX10_wordLetter_0, hrun, hx, hnth, hput, hok, hcat2, hldI, hldL, hldR, hpI, hpL, hpA, hpR, hp1, hpV, hrtI, hrtL, hrtR, hrtV, hpN, hck, hrI, hrB, hrL, hrA, hwI, hwA, hwB, hrN, hfk, hfs, hrF, hwF, hcl, hfty, tyX1, tyX3, tyX6, tyX9, tyX10, tyJ0, tyJ4, hfit, hcmp, hnar, hres, hst, hacp, kz, kof, kn0, kn1, Bool.not_true, Bool.not_false, true_and, and_true, Nat.zero_add, Nat.reduceAdd, List.length_cons, List.length_nil, true_or, or_true, false_or, or_false, decide_true, decide_false, ne_eq, not_true_eq_false, not_false_eq_true, ki_0, ki_1, ki_2, ki_3, ki_4, ki_5, kb_m100, kb_m10, kb_m9, kb_m8, kb_m7, kb_m6, kb_m5, kb_m4, kb_m3, kb_m2, kb_6, kb_7, kb_8, kb_9, kb_10, kb_12, kb_13, kb_16, kb_27, kb_31, kb_32, kb_43, kb_45, kb_48, kb_57, kb_60, kb_63, kb_81, kb_97, kb_99, kb_100, kb_120, kb_126, ks_m1000, ks_243, ks_255, ks_729, ks_1000, ks_2000, ks_2187, ks_6561, ks_9840, ks_9841, kl_0, kl_1]
    refine c_m_isBufferN hg (by omega) hr_x ?_
    simp only [hrun, hx, hnth, hput, hok, hcat2, hldI, hldL, hldR, hpI, hpL, hpA, hpR, hp1, hpV, hrtI, hrtL, hrtR, hrtV, hpN, hck, hrI, hrB, hrL, hrA, hwI, hwA, hwB, hrN, hfk, hfs, hrF, hwF, hcl, hfty, tyX1, tyX3, tyX6, tyX9, tyX10, tyJ0, tyJ4, hfit, hcmp, hnar, hres, hst, hacp, kz, kof, kn0, kn1, Bool.not_true, Bool.not_false, true_and, and_true, Nat.zero_add, Nat.reduceAdd, List.length_cons, List.length_nil, true_or, or_true, false_or, or_false, decide_true, decide_false, ne_eq, not_true_eq_false, not_false_eq_true, ki_0, ki_1, ki_2, ki_3, ki_4, ki_5, kb_m100, kb_m10, kb_m9, kb_m8, kb_m7, kb_m6, kb_m5, kb_m4, kb_m3, kb_m2, kb_6, kb_7, kb_8, kb_9, kb_10, kb_12, kb_13, kb_16, kb_27, kb_31, kb_32, kb_43, kb_45, kb_48, kb_57, kb_60, kb_63, kb_81, kb_97, kb_99, kb_100, kb_120, kb_126, ks_m1000, ks_243, ks_255, ks_729, ks_1000, ks_2000, ks_2187, ks_6561, ks_9840, ks_9841, kl_0, kl_1]
    refine ⟨fun b4 => ?_, fun b4 => ?_⟩
    · (try simp (disch := omega) only [nI_ltI, nI_leI, nI_eq, Nat.not_lt, Nat.not_le] at b4) <;> (exfalso; omega)
    · try simp (disch := omega) only [nI_ltI, nI_leI, nI_eq, Nat.not_lt, Nat.not_le] at b4
      refine hP 1 _ rfl _ _ _ _ _ _ ?_
      simp only [bX10_wordLetter_1, hrun, hx, hnth, hput, hok, hcat2, hldI, hldL, hldR, hpI, hpL, hpA, hpR, hp1, hpV, hrtI, hrtL, hrtR, hrtV, hpN, hck, hrI, hrB, hrL, hrA, hwI, hwA, hwB, hrN, hfk, hfs, hrF, hwF, hcl, hfty, tyX1, tyX3, tyX6, tyX9, tyX10, tyJ0, tyJ4, hfit, hcmp, hnar, hres, hst, hacp, kz, kof, kn0, kn1, Bool.not_true, Bool.not_false, true_and, and_true, Nat.zero_add, Nat.reduceAdd, List.length_cons, List.length_nil, true_or, or_true, false_or, or_false, decide_true, decide_false, ne_eq, not_true_eq_false, not_false_eq_true, ki_0, ki_1, ki_2, ki_3, ki_4, ki_5, kb_m100, kb_m10, kb_m9, kb_m8, kb_m7, kb_m6, kb_m5, kb_m4, kb_m3, kb_m2, kb_6, kb_7, kb_8, kb_9, kb_10, kb_12, kb_13, kb_16, kb_27, kb_31, kb_32, kb_43, kb_45, kb_48, kb_57, kb_60, kb_63, kb_81, kb_97, kb_99, kb_100, kb_120, kb_126, ks_m1000, ks_243, ks_255, ks_729, ks_1000, ks_2000, ks_2187, ks_6561, ks_9840, ks_9841, kl_0, kl_1]
      refine hP 5 _ rfl _ _ _ _ _ _ ?_
      simp only [bX10_wordLetter_5, hrun, hx, hnth, hput, hok, hcat2, hldI, hldL, hldR, hpI, hpL, hpA, hpR, hp1, hpV, hrtI, hrtL, hrtR, hrtV, hpN, hck, hrI, hrB, hrL, hrA, hwI, hwA, hwB, hrN, hfk, hfs, hrF, hwF, hcl, hfty, tyX1, tyX3, tyX6, tyX9, tyX10, tyJ0, tyJ4, hfit, hcmp, hnar, hres, hst, hacp, kz, kof, kn0, kn1, Bool.not_true, Bool.not_false, true_and, and_true, Nat.zero_add, Nat.reduceAdd, List.length_cons, List.length_nil, true_or, or_true, false_or, or_false, decide_true, decide_false, ne_eq, not_true_eq_false, not_false_eq_true, ki_0, ki_1, ki_2, ki_3, ki_4, ki_5, kb_m100, kb_m10, kb_m9, kb_m8, kb_m7, kb_m6, kb_m5, kb_m4, kb_m3, kb_m2, kb_6, kb_7, kb_8, kb_9, kb_10, kb_12, kb_13, kb_16, kb_27, kb_31, kb_32, kb_43, kb_45, kb_48, kb_57, kb_60, kb_63, kb_81, kb_97, kb_99, kb_100, kb_120, kb_126, ks_m1000, ks_243, ks_255, ks_729, ks_1000, ks_2000, ks_2187, ks_6561, ks_9840, ks_9841, kl_0, kl_1]
      exact h w hS mfy.rf
  | some i =>
    obtain ⟨h_i, hrfl_i⟩ := ixn_some (by omega) hq_x
    subst hrfl_i
    obtain ⟨⟨⟨ls, ⟨ml, ns, at9, k0⟩, kp, hLm9, hW1, hW2, hR1, hR2, hI9, hO9⟩, hz⟩, f9, hf9⟩ := id hS
    obtain ⟨⟨F, k1, hF⟩, k2, hFr⟩ := id hW1
    have e_i := nI_clamp (n := i) (by omega)
    have f_i := (hF i h_i).1
    have hu_i := (hF i h_i).2
    have h8_i := hu_i.1
    obtain ⟨v_i, hq_i, hv_i⟩ := hFr i h_i
    obtain ⟨G_i, g_i, hG_i⟩ := id hq_i
    cases hq_y : ixn (S.wd i).length y with
    | none =>
      have hr_y := ixn_none hq_y
      simp only [sp_wordLetter, hq_x, hq_y] at h
      refine hP 0 _ rfl _ _ _ _ _ _ ?_
      simp only [bX10_wordLetter_0, hrun, hx, hnth, hput, hok, hcat2, hldI, hldL, hldR, hpI, hpL, hpA, hpR, hp1, hpV, hrtI, hrtL, hrtR, hrtV, hpN, hck, hrI, hrB, hrL, hrA, hwI, hwA, hwB, hrN, hfk, hfs, hrF, hwF, hcl, hfty, tyX1, tyX3, tyX6, tyX9, tyX10, tyJ0, tyJ4, hfit, hcmp, hnar, hres, hst, hacp, kz, kof, kn0, kn1, Bool.not_true, Bool.not_false, true_and, and_true, Nat.zero_add, Nat.reduceAdd, List.length_cons, List.length_nil, true_or, or_true, false_or, or_false, decide_true, decide_false, ne_eq, not_true_eq_false, not_false_eq_true, ki_0, ki_1, ki_2, ki_3, ki_4, ki_5, kb_m100, kb_m10, kb_m9, kb_m8, kb_m7, kb_m6, kb_m5, kb_m4, kb_m3, kb_m2, kb_6, kb_7, kb_8, kb_9, kb_10, kb_12, kb_13, kb_16, kb_27, kb_31, kb_32, kb_43, kb_45, kb_48, kb_57, kb_60, kb_63, kb_81, kb_97, kb_99, kb_100, kb_120, kb_126, ks_m1000, ks_243, ks_255, ks_729, ks_1000, ks_2000, ks_2187, ks_6561, ks_9840, ks_9841, kl_0, kl_1, k0, kp, mFl, k1, k2, va_rf, e_i, f_i, g_i]
      refine c_m_isBuffer hg (by omega) h_i ?_
      simp only [hrun, hx, hnth, hput, hok, hcat2, hldI, hldL, hldR, hpI, hpL, hpA, hpR, hp1, hpV, hrtI, hrtL, hrtR, hrtV, hpN, hck, hrI, hrB, hrL, hrA, hwI, hwA, hwB, hrN, hfk, hfs, hrF, hwF, hcl, hfty, tyX1, tyX3, tyX6, tyX9, tyX10, tyJ0, tyJ4, hfit, hcmp, hnar, hres, hst, hacp, kz, kof, kn0, kn1, Bool.not_true, Bool.not_false, true_and, and_true, Nat.zero_add, Nat.reduceAdd, List.length_cons, List.length_nil, true_or, or_true, false_or, or_false, decide_true, decide_false, ne_eq, not_true_eq_false, not_false_eq_true, ki_0, ki_1, ki_2, ki_3, ki_4, ki_5, kb_m100, kb_m10, kb_m9, kb_m8, kb_m7, kb_m6, kb_m5, kb_m4, kb_m3, kb_m2, kb_6, kb_7, kb_8, kb_9, kb_10, kb_12, kb_13, kb_16, kb_27, kb_31, kb_32, kb_43, kb_45, kb_48, kb_57, kb_60, kb_63, kb_81, kb_97, kb_99, kb_100, kb_120, kb_126, ks_m1000, ks_243, ks_255, ks_729, ks_1000, ks_2000, ks_2187, ks_6561, ks_9840, ks_9841, kl_0, kl_1, k0, kp, mFl, k1, k2, va_rf, e_i, f_i, g_i]
      refine ⟨fun b4 => ?_, fun b4 => ?_⟩
      · try simp (disch := omega) only [nI_ltI, nI_leI, nI_eq, Nat.not_lt, Nat.not_le] at b4
        refine hP 2 _ rfl _ _ _ _ _ _ ?_
        simp only [bX10_wordLetter_2, hrun, hx, hnth, hput, hok, hcat2, hldI, hldL, hldR, hpI, hpL, hpA, hpR, hp1, hpV, hrtI, hrtL, hrtR, hrtV, hpN, hck, hrI, hrB, hrL, hrA, hwI, hwA, hwB, hrN, hfk, hfs, hrF, hwF, hcl, hfty, tyX1, tyX3, tyX6, tyX9, tyX10, tyJ0, tyJ4, hfit, hcmp, hnar, hres, hst, hacp, kz, kof, kn0, kn1, Bool.not_true, Bool.not_false, true_and, and_true, Nat.zero_add, Nat.reduceAdd, List.length_cons, List.length_nil, true_or, or_true, false_or, or_false, decide_true, decide_false, ne_eq, not_true_eq_false, not_false_eq_true, ki_0, ki_1, ki_2, ki_3, ki_4, ki_5, kb_m100, kb_m10, kb_m9, kb_m8, kb_m7, kb_m6, kb_m5, kb_m4, kb_m3, kb_m2, kb_6, kb_7, kb_8, kb_9, kb_10, kb_12, kb_13, kb_16, kb_27, kb_31, kb_32, kb_43, kb_45, kb_48, kb_57, kb_60, kb_63, kb_81, kb_97, kb_99, kb_100, kb_120, kb_126, ks_m1000, ks_243, ks_255, ks_729, ks_1000, ks_2000, ks_2187, ks_6561, ks_9840, ks_9841, kl_0, kl_1, k0, kp, mFl, k1, k2, va_rf, e_i, f_i, g_i]
        refine ⟨vp_in_nI (by omega) (by omega), ?_⟩
        refine c_isBetween hg (by omega) ?_
        rw [btw_N (by omega) hr_y]
        simp only [hrun, hx, hnth, hput, hok, hcat2, hldI, hldL, hldR, hpI, hpL, hpA, hpR, hp1, hpV, hrtI, hrtL, hrtR, hrtV, hpN, hck, hrI, hrB, hrL, hrA, hwI, hwA, hwB, hrN, hfk, hfs, hrF, hwF, hcl, hfty, tyX1, tyX3, tyX6, tyX9, tyX10, tyJ0, tyJ4, hfit, hcmp, hnar, hres, hst, hacp, kz, kof, kn0, kn1, Bool.not_true, Bool.not_false, true_and, and_true, Nat.zero_add, Nat.reduceAdd, List.length_cons, List.length_nil, true_or, or_true, false_or, or_false, decide_true, decide_false, ne_eq, not_true_eq_false, not_false_eq_true, ki_0, ki_1, ki_2, ki_3, ki_4, ki_5, kb_m100, kb_m10, kb_m9, kb_m8, kb_m7, kb_m6, kb_m5, kb_m4, kb_m3, kb_m2, kb_6, kb_7, kb_8, kb_9, kb_10, kb_12, kb_13, kb_16, kb_27, kb_31, kb_32, kb_43, kb_45, kb_48, kb_57, kb_60, kb_63, kb_81, kb_97, kb_99, kb_100, kb_120, kb_126, ks_m1000, ks_243, ks_255, ks_729, ks_1000, ks_2000, ks_2187, ks_6561, ks_9840, ks_9841, kl_0, kl_1, k0, kp, mFl, k1, k2, va_rf, e_i, f_i, g_i]
        refine ⟨fun b25 => ?_, fun b25 => ?_⟩
        · try simp (disch := omega) only [nI_ltI, nI_leI, nI_eq, Nat.not_lt, Nat.not_le] at b25
          refine hP 4 _ rfl _ _ _ _ _ _ ?_
          simp only [bX10_wordLetter_4, hrun, hx, hnth, hput, hok, hcat2, hldI, hldL, hldR, hpI, hpL, hpA, hpR, hp1, hpV, hrtI, hrtL, hrtR, hrtV, hpN, hck, hrI, hrB, hrL, hrA, hwI, hwA, hwB, hrN, hfk, hfs, hrF, hwF, hcl, hfty, tyX1, tyX3, tyX6, tyX9, tyX10, tyJ0, tyJ4, hfit, hcmp, hnar, hres, hst, hacp, kz, kof, kn0, kn1, Bool.not_true, Bool.not_false, true_and, and_true, Nat.zero_add, Nat.reduceAdd, List.length_cons, List.length_nil, true_or, or_true, false_or, or_false, decide_true, decide_false, ne_eq, not_true_eq_false, not_false_eq_true, ki_0, ki_1, ki_2, ki_3, ki_4, ki_5, kb_m100, kb_m10, kb_m9, kb_m8, kb_m7, kb_m6, kb_m5, kb_m4, kb_m3, kb_m2, kb_6, kb_7, kb_8, kb_9, kb_10, kb_12, kb_13, kb_16, kb_27, kb_31, kb_32, kb_43, kb_45, kb_48, kb_57, kb_60, kb_63, kb_81, kb_97, kb_99, kb_100, kb_120, kb_126, ks_m1000, ks_243, ks_255, ks_729, ks_1000, ks_2000, ks_2187, ks_6561, ks_9840, ks_9841, kl_0, kl_1, k0, kp, mFl, k1, k2, va_rf, e_i, f_i, g_i]
          refine hP 5 _ rfl _ _ _ _ _ _ ?_
          simp only [bX10_wordLetter_5, hrun, hx, hnth, hput, hok, hcat2, hldI, hldL, hldR, hpI, hpL, hpA, hpR, hp1, hpV, hrtI, hrtL, hrtR, hrtV, hpN, hck, hrI, hrB, hrL, hrA, hwI, hwA, hwB, hrN, hfk, hfs, hrF, hwF, hcl, hfty, tyX1, tyX3, tyX6, tyX9, tyX10, tyJ0, tyJ4, hfit, hcmp, hnar, hres, hst, hacp, kz, kof, kn0, kn1, Bool.not_true, Bool.not_false, true_and, and_true, Nat.zero_add, Nat.reduceAdd, List.length_cons, List.length_nil, true_or, or_true, false_or, or_false, decide_true, decide_false, ne_eq, not_true_eq_false, not_false_eq_true, ki_0, ki_1, ki_2, ki_3, ki_4, ki_5, kb_m100, kb_m10, kb_m9, kb_m8, kb_m7, kb_m6, kb_m5, kb_m4, kb_m3, kb_m2, kb_6, kb_7, kb_8, kb_9, kb_10, kb_12, kb_13, kb_16, kb_27, kb_31, kb_32, kb_43, kb_45, kb_48, kb_57, kb_60, kb_63, kb_81, kb_97, kb_99, kb_100, kb_120, kb_126, ks_m1000, ks_243, ks_255, ks_729, ks_1000, ks_2000, ks_2187, ks_6561, ks_9840, ks_9841, kl_0, kl_1, k0, kp, mFl, k1, k2, va_rf, e_i, f_i, g_i]
          exact h w hS mfy.rf
        · (try simp (disch := omega) only [nI_ltI, nI_leI, nI_eq, Nat.not_lt, Nat.not_le] at b25) <;> (exfalso; omega)
      · (try simp (disch := omega) only [nI_ltI, nI_leI, nI_eq, Nat.not_lt, Nat.not_le] at b4) <;> (exfalso; omega)
    | some k =>
      obtain ⟨h_k, hrfl_k⟩ := ixn_some (by omega) hq_y
      subst hrfl_k
      have e_k := nI_clamp (n := k) (by omega)
      have r_k := (hG_i k (by omega)).1
      have rv_k : v_i k = (S.wd i).getD k 0 := hv_i k h_k
      simp only [sp_wordLetter, hq_x, hq_y] at h
      refine hP 0 _ rfl _ _ _ _ _ _ ?_
      simp only [bX10_wordLetter_0, hrun, hx, hnth, hput, hok, hcat2, hldI, hldL, hldR, hpI, hpL, hpA, hpR, hp1, hpV, hrtI, hrtL, hrtR, hrtV, hpN, hck, hrI, hrB, hrL, hrA, hwI, hwA, hwB, hrN, hfk, hfs, hrF, hwF, hcl, hfty, tyX1, tyX3, tyX6, tyX9, tyX10, tyJ0, tyJ4, hfit, hcmp, hnar, hres, hst, hacp, kz, kof, kn0, kn1, Bool.not_true, Bool.not_false, true_and, and_true, Nat.zero_add, Nat.reduceAdd, List.length_cons, List.length_nil, true_or, or_true, false_or, or_false, decide_true, decide_false, ne_eq, not_true_eq_false, not_false_eq_true, ki_0, ki_1, ki_2, ki_3, ki_4, ki_5, kb_m100, kb_m10, kb_m9, kb_m8, kb_m7, kb_m6, kb_m5, kb_m4, kb_m3, kb_m2, kb_6, kb_7, kb_8, kb_9, kb_10, kb_12, kb_13, kb_16, kb_27, kb_31, kb_32, kb_43, kb_45, kb_48, kb_57, kb_60, kb_63, kb_81, kb_97, kb_99, kb_100, kb_120, kb_126, ks_m1000, ks_243, ks_255, ks_729, ks_1000, ks_2000, ks_2187, ks_6561, ks_9840, ks_9841, kl_0, kl_1, k0, kp, mFl, k1, k2, va_rf, e_i, f_i, g_i, e_k, r_k, rv_k]
      refine c_m_isBuffer hg (by omega) h_i ?_
      simp only [hrun, hx, hnth, hput, hok, hcat2, hldI, hldL, hldR, hpI, hpL, hpA, hpR, hp1, hpV, hrtI, hrtL, hrtR, hrtV, hpN, hck, hrI, hrB, hrL, hrA, hwI, hwA, hwB, hrN, hfk, hfs, hrF, hwF, hcl, hfty, tyX1, tyX3, tyX6, tyX9, tyX10, tyJ0, tyJ4, hfit, hcmp, hnar, hres, hst, hacp, kz, kof, kn0, kn1, Bool.not_true, Bool.not_false, true_and, and_true, Nat.zero_add, Nat.reduceAdd, List.length_cons, List.length_nil, true_or, or_true, false_or, or_false, decide_true, decide_false, ne_eq, not_true_eq_false, not_false_eq_true, ki_0, ki_1, ki_2, ki_3, ki_4, ki_5, kb_m100, kb_m10, kb_m9, kb_m8, kb_m7, kb_m6, kb_m5, kb_m4, kb_m3, kb_m2, kb_6, kb_7, kb_8, kb_9, kb_10, kb_12, kb_13, kb_16, kb_27, kb_31, kb_32, kb_43, kb_45, kb_48, kb_57, kb_60, kb_63, kb_81, kb_97, kb_99, kb_100, kb_120, kb_126, ks_m1000, ks_243, ks_255, ks_729, ks_1000, ks_2000, ks_2187, ks_6561, ks_9840, ks_9841, kl_0, kl_1, k0, kp, mFl, k1, k2, va_rf, e_i, f_i, g_i, e_k, r_k, rv_k]
      refine ⟨fun b4 => ?_, fun b4 => ?_⟩
      · try simp (disch := omega) only [nI_ltI, nI_leI, nI_eq, Nat.not_lt, Nat.not_le] at b4
        refine hP 2 _ rfl _ _ _ _ _ _ ?_
        simp only [bX10_wordLetter_2, hrun, hx, hnth, hput, hok, hcat2, hldI, hldL, hldR, hpI, hpL, hpA, hpR, hp1, hpV, hrtI, hrtL, hrtR, hrtV, hpN, hck, hrI, hrB, hrL, hrA, hwI, hwA, hwB, hrN, hfk, hfs, hrF, hwF, hcl, hfty, tyX1, tyX3, tyX6, tyX9, tyX10, tyJ0, tyJ4, hfit, hcmp, hnar, hres, hst, hacp, kz, kof, kn0, kn1, Bool.not_true, Bool.not_false, true_and, and_true, Nat.zero_add, Nat.reduceAdd, List.length_cons, List.length_nil, true_or, or_true, false_or, or_false, decide_true, decide_false, ne_eq, not_true_eq_false, not_false_eq_true, ki_0, ki_1, ki_2, ki_3, ki_4, ki_5, kb_m100, kb_m10, kb_m9, kb_m8, kb_m7, kb_m6, kb_m5, kb_m4, kb_m3, kb_m2, kb_6, kb_7, kb_8, kb_9, kb_10, kb_12, kb_13, kb_16, kb_27, kb_31, kb_32, kb_43, kb_45, kb_48, kb_57, kb_60, kb_63, kb_81, kb_97, kb_99, kb_100, kb_120, kb_126, ks_m1000, ks_243, ks_255, ks_729, ks_1000, ks_2000, ks_2187, ks_6561, ks_9840, ks_9841, kl_0, kl_1, k0, kp, mFl, k1, k2, va_rf, e_i, f_i, g_i, e_k, r_k, rv_k]
        refine ⟨vp_in_nI (by omega) (by omega), ?_⟩
        refine c_isBetween hg (by omega) ?_
        rw [btw_Y (by omega) h_k]
        simp only [hrun, hx, hnth, hput, hok, hcat2, hldI, hldL, hldR, hpI, hpL, hpA, hpR, hp1, hpV, hrtI, hrtL, hrtR, hrtV, hpN, hck, hrI, hrB, hrL, hrA, hwI, hwA, hwB, hrN, hfk, hfs, hrF, hwF, hcl, hfty, tyX1, tyX3, tyX6, tyX9, tyX10, tyJ0, tyJ4, hfit, hcmp, hnar, hres, hst, hacp, kz, kof, kn0, kn1, Bool.not_true, Bool.not_false, true_and, and_true, Nat.zero_add, Nat.reduceAdd, List.length_cons, List.length_nil, true_or, or_true, false_or, or_false, decide_true, decide_false, ne_eq, not_true_eq_false, not_false_eq_true, ki_0, ki_1, ki_2, ki_3, ki_4, ki_5, kb_m100, kb_m10, kb_m9, kb_m8, kb_m7, kb_m6, kb_m5, kb_m4, kb_m3, kb_m2, kb_6, kb_7, kb_8, kb_9, kb_10, kb_12, kb_13, kb_16, kb_27, kb_31, kb_32, kb_43, kb_45, kb_48, kb_57, kb_60, kb_63, kb_81, kb_97, kb_99, kb_100, kb_120, kb_126, ks_m1000, ks_243, ks_255, ks_729, ks_1000, ks_2000, ks_2187, ks_6561, ks_9840, ks_9841, kl_0, kl_1, k0, kp, mFl, k1, k2, va_rf, e_i, f_i, g_i, e_k, r_k, rv_k]
        refine ⟨fun b25 => ?_, fun b25 => ?_⟩
        · (try simp (disch := omega) only [nI_ltI, nI_leI, nI_eq, Nat.not_lt, Nat.not_le] at b25) <;> (exfalso; omega)
        · try simp (disch := omega) only [nI_ltI, nI_leI, nI_eq, Nat.not_lt, Nat.not_le] at b25
          refine hP 3 _ rfl _ _ _ _ _ _ ?_
          simp only [bX10_wordLetter_3, hrun, hx, hnth, hput, hok, hcat2, hldI, hldL, hldR, hpI, hpL, hpA, hpR, hp1, hpV, hrtI, hrtL, hrtR, hrtV, hpN, hck, hrI, hrB, hrL, hrA, hwI, hwA, hwB, hrN, hfk, hfs, hrF, hwF, hcl, hfty, tyX1, tyX3, tyX6, tyX9, tyX10, tyJ0, tyJ4, hfit, hcmp, hnar, hres, hst, hacp, kz, kof, kn0, kn1, Bool.not_true, Bool.not_false, true_and, and_true, Nat.zero_add, Nat.reduceAdd, List.length_cons, List.length_nil, true_or, or_true, false_or, or_false, decide_true, decide_false, ne_eq, not_true_eq_false, not_false_eq_true, ki_0, ki_1, ki_2, ki_3, ki_4, ki_5, kb_m100, kb_m10, kb_m9, kb_m8, kb_m7, kb_m6, kb_m5, kb_m4, kb_m3, kb_m2, kb_6, kb_7, kb_8, kb_9, kb_10, kb_12, kb_13, kb_16, kb_27, kb_31, kb_32, kb_43, kb_45, kb_48, kb_57, kb_60, kb_63, kb_81, kb_97, kb_99, kb_100, kb_120, kb_126, ks_m1000, ks_243, ks_255, ks_729, ks_1000, ks_2000, ks_2187, ks_6561, ks_9840, ks_9841, kl_0, kl_1, k0, kp, mFl, k1, k2, va_rf, e_i, f_i, g_i, e_k, r_k, rv_k]
          refine ⟨vp_in_nI (by omega) (by omega), ?_⟩
          refine ⟨vp_in_nI (by omega) (by omega), ?_⟩
          refine hP 5 _ rfl _ _ _ _ _ _ ?_
          simp only [bX10_wordLetter_5, hrun, hx, hnth, hput, hok, hcat2, hldI, hldL, hldR, hpI, hpL, hpA, hpR, hp1, hpV, hrtI, hrtL, hrtR, hrtV, hpN, hck, hrI, hrB, hrL, hrA, hwI, hwA, hwB, hrN, hfk, hfs, hrF, hwF, hcl, hfty, tyX1, tyX3, tyX6, tyX9, tyX10, tyJ0, tyJ4, hfit, hcmp, hnar, hres, hst, hacp, kz, kof, kn0, kn1, Bool.not_true, Bool.not_false, true_and, and_true, Nat.zero_add, Nat.reduceAdd, List.length_cons, List.length_nil, true_or, or_true, false_or, or_false, decide_true, decide_false, ne_eq, not_true_eq_false, not_false_eq_true, ki_0, ki_1, ki_2, ki_3, ki_4, ki_5, kb_m100, kb_m10, kb_m9, kb_m8, kb_m7, kb_m6, kb_m5, kb_m4, kb_m3, kb_m2, kb_6, kb_7, kb_8, kb_9, kb_10, kb_12, kb_13, kb_16, kb_27, kb_31, kb_32, kb_43, kb_45, kb_48, kb_57, kb_60, kb_63, kb_81, kb_97, kb_99, kb_100, kb_120, kb_126, ks_m1000, ks_243, ks_255, ks_729, ks_1000, ks_2000, ks_2187, ks_6561, ks_9840, ks_9841, kl_0, kl_1, k0, kp, mFl, k1, k2, va_rf, e_i, f_i, g_i, e_k, r_k, rv_k]
          exact h w hS mfy.rf
      · (try simp (disch := omega) only [nI_ltI, nI_leI, nI_eq, Nat.not_lt, Nat.not_le] at b4) <;> (exfalso; omega)
set_option maxRecDepth 100000 in
set_option maxHeartbeats 4000000 in
theorem c_m_appendLetter (hg : hgo g) (hd : 30 ≤ d) {S : cS} (hS : hY w S) {x y : Int32} (h : ∀ w', hY w' (sp_appendLetter S x y).2 → mfy w w' → Q (some (.int (sp_appendLetter S x y).1)) N c s w') : Γ g d yX10_appendLetter [.ref 47, .int x, .int y] N c s w Q := by
  refine Γ.intro0 hg kX10_appendLetter (by omega) (Nat.le_of_ble_eq_true rfl) (fun P hP => ?_)
  show P N 0 0 w 0 [some (.ref 47), some (.int x), some (.int y)] []
  cases hq_x : ixn 3 x with
  | none =>
    have hr_x := ixn_none hq_x
    simp only [sp_appendLetter, hq_x] at h
    refine hP 0 _ rfl _ _ _ _ _ _ ?_
    simp only [bX10_appendLetter_0, hrun, hx, hnth, hput, hok, hcat2, hldI, hldL, hldR, hpI, hpL, hpA, hpR, hp1, hpV, hrtI, hrtL, hrtR, hrtV, hpN, hck, hrI, hrB, hrL, hrA, hwI, hwA, hwB, hrN, hfk, hfs, hrF, hwF, hcl, hfty, tyX1, tyX3, tyX6, tyX9, tyX10, tyJ0, tyJ4, hfit, hcmp, hnar, hres, hst, hacp, kz, kof, kn0, kn1, Bool.not_true, Bool.not_false, true_and, and_true, Nat.zero_add, Nat.reduceAdd, List.length_cons, List.length_nil, true_or, or_true, false_or, or_false, decide_true, decide_false, ne_eq, not_true_eq_false, not_false_eq_true, ki_0, ki_1, ki_2, ki_3, ki_4, ki_5, kb_m100, kb_m10, kb_m9, kb_m8, kb_m7, kb_m6, kb_m5, kb_m4, kb_m3, kb_m2, kb_6, kb_7, kb_8, kb_9, kb_10, kb_12, kb_13, kb_16, kb_27, kb_31, kb_32, kb_43, kb_45, kb_48, kb_57, kb_60, kb_63, kb_81, kb_97, kb_99, kb_100, kb_120, kb_126, ks_m1000, ks_243, ks_255, ks_729, ks_1000, ks_2000, ks_2187, ks_6561, ks_9840, ks_9841, kl_0, kl_1]
    refine c_m_isBufferN hg (by omega) hr_x ?_
    simp only [hrun, hx, hnth, hput, hok, hcat2, hldI, hldL, hldR, hpI, hpL, hpA, hpR, hp1, hpV, hrtI, hrtL, hrtR, hrtV, hpN, hck, hrI, hrB, hrL, hrA, hwI, hwA, hwB, hrN, hfk, hfs, hrF, hwF, hcl, hfty, tyX1, tyX3, tyX6, tyX9, tyX10, tyJ0, tyJ4, hfit, hcmp, hnar, hres, hst, hacp, kz, kof, kn0, kn1, Bool.not_true, Bool.not_false, true_and, and_true, Nat.zero_add, Nat.reduceAdd, List.length_cons, List.length_nil, true_or, or_true, false_or, or_false, decide_true, decide_false, ne_eq, not_true_eq_false, not_false_eq_true, ki_0, ki_1, ki_2, ki_3, ki_4, ki_5, kb_m100, kb_m10, kb_m9, kb_m8, kb_m7, kb_m6, kb_m5, kb_m4, kb_m3, kb_m2, kb_6, kb_7, kb_8, kb_9, kb_10, kb_12, kb_13, kb_16, kb_27, kb_31, kb_32, kb_43, kb_45, kb_48, kb_57, kb_60, kb_63, kb_81, kb_97, kb_99, kb_100, kb_120, kb_126, ks_m1000, ks_243, ks_255, ks_729, ks_1000, ks_2000, ks_2187, ks_6561, ks_9840, ks_9841, kl_0, kl_1]
    refine ⟨fun b4 => ?_, fun b4 => ?_⟩
    · (try simp (disch := omega) only [nI_ltI, nI_leI, nI_eq, Nat.not_lt, Nat.not_le] at b4) <;> (exfalso; omega)
    · try simp (disch := omega) only [nI_ltI, nI_leI, nI_eq, Nat.not_lt, Nat.not_le] at b4
      refine hP 1 _ rfl _ _ _ _ _ _ ?_
      simp only [bX10_appendLetter_1, hrun, hx, hnth, hput, hok, hcat2, hldI, hldL, hldR, hpI, hpL, hpA, hpR, hp1, hpV, hrtI, hrtL, hrtR, hrtV, hpN, hck, hrI, hrB, hrL, hrA, hwI, hwA, hwB, hrN, hfk, hfs, hrF, hwF, hcl, hfty, tyX1, tyX3, tyX6, tyX9, tyX10, tyJ0, tyJ4, hfit, hcmp, hnar, hres, hst, hacp, kz, kof, kn0, kn1, Bool.not_true, Bool.not_false, true_and, and_true, Nat.zero_add, Nat.reduceAdd, List.length_cons, List.length_nil, true_or, or_true, false_or, or_false, decide_true, decide_false, ne_eq, not_true_eq_false, not_false_eq_true, ki_0, ki_1, ki_2, ki_3, ki_4, ki_5, kb_m100, kb_m10, kb_m9, kb_m8, kb_m7, kb_m6, kb_m5, kb_m4, kb_m3, kb_m2, kb_6, kb_7, kb_8, kb_9, kb_10, kb_12, kb_13, kb_16, kb_27, kb_31, kb_32, kb_43, kb_45, kb_48, kb_57, kb_60, kb_63, kb_81, kb_97, kb_99, kb_100, kb_120, kb_126, ks_m1000, ks_243, ks_255, ks_729, ks_1000, ks_2000, ks_2187, ks_6561, ks_9840, ks_9841, kl_0, kl_1]
      exact h w hS mfy.rf
  | some i =>
    obtain ⟨h_i, hrfl_i⟩ := ixn_some (by omega) hq_x
    subst hrfl_i
    cases hq_y : ixn 3 y with
    | none =>
      have hr_y := ixn_none hq_y
      simp only [sp_appendLetter, hq_x, hq_y] at h
      refine hP 0 _ rfl _ _ _ _ _ _ ?_
      simp only [bX10_appendLetter_0, hrun, hx, hnth, hput, hok, hcat2, hldI, hldL, hldR, hpI, hpL, hpA, hpR, hp1, hpV, hrtI, hrtL, hrtR, hrtV, hpN, hck, hrI, hrB, hrL, hrA, hwI, hwA, hwB, hrN, hfk, hfs, hrF, hwF, hcl, hfty, tyX1, tyX3, tyX6, tyX9, tyX10, tyJ0, tyJ4, hfit, hcmp, hnar, hres, hst, hacp, kz, kof, kn0, kn1, Bool.not_true, Bool.not_false, true_and, and_true, Nat.zero_add, Nat.reduceAdd, List.length_cons, List.length_nil, true_or, or_true, false_or, or_false, decide_true, decide_false, ne_eq, not_true_eq_false, not_false_eq_true, ki_0, ki_1, ki_2, ki_3, ki_4, ki_5, kb_m100, kb_m10, kb_m9, kb_m8, kb_m7, kb_m6, kb_m5, kb_m4, kb_m3, kb_m2, kb_6, kb_7, kb_8, kb_9, kb_10, kb_12, kb_13, kb_16, kb_27, kb_31, kb_32, kb_43, kb_45, kb_48, kb_57, kb_60, kb_63, kb_81, kb_97, kb_99, kb_100, kb_120, kb_126, ks_m1000, ks_243, ks_255, ks_729, ks_1000, ks_2000, ks_2187, ks_6561, ks_9840, ks_9841, kl_0, kl_1]
      refine c_m_isBuffer hg (by omega) h_i ?_
      simp only [hrun, hx, hnth, hput, hok, hcat2, hldI, hldL, hldR, hpI, hpL, hpA, hpR, hp1, hpV, hrtI, hrtL, hrtR, hrtV, hpN, hck, hrI, hrB, hrL, hrA, hwI, hwA, hwB, hrN, hfk, hfs, hrF, hwF, hcl, hfty, tyX1, tyX3, tyX6, tyX9, tyX10, tyJ0, tyJ4, hfit, hcmp, hnar, hres, hst, hacp, kz, kof, kn0, kn1, Bool.not_true, Bool.not_false, true_and, and_true, Nat.zero_add, Nat.reduceAdd, List.length_cons, List.length_nil, true_or, or_true, false_or, or_false, decide_true, decide_false, ne_eq, not_true_eq_false, not_false_eq_true, ki_0, ki_1, ki_2, ki_3, ki_4, ki_5, kb_m100, kb_m10, kb_m9, kb_m8, kb_m7, kb_m6, kb_m5, kb_m4, kb_m3, kb_m2, kb_6, kb_7, kb_8, kb_9, kb_10, kb_12, kb_13, kb_16, kb_27, kb_31, kb_32, kb_43, kb_45, kb_48, kb_57, kb_60, kb_63, kb_81, kb_97, kb_99, kb_100, kb_120, kb_126, ks_m1000, ks_243, ks_255, ks_729, ks_1000, ks_2000, ks_2187, ks_6561, ks_9840, ks_9841, kl_0, kl_1]
      refine ⟨fun b4 => ?_, fun b4 => ?_⟩
      · try simp (disch := omega) only [nI_ltI, nI_leI, nI_eq, Nat.not_lt, Nat.not_le] at b4
        refine hP 2 _ rfl _ _ _ _ _ _ ?_
        simp only [bX10_appendLetter_2, hrun, hx, hnth, hput, hok, hcat2, hldI, hldL, hldR, hpI, hpL, hpA, hpR, hp1, hpV, hrtI, hrtL, hrtR, hrtV, hpN, hck, hrI, hrB, hrL, hrA, hwI, hwA, hwB, hrN, hfk, hfs, hrF, hwF, hcl, hfty, tyX1, tyX3, tyX6, tyX9, tyX10, tyJ0, tyJ4, hfit, hcmp, hnar, hres, hst, hacp, kz, kof, kn0, kn1, Bool.not_true, Bool.not_false, true_and, and_true, Nat.zero_add, Nat.reduceAdd, List.length_cons, List.length_nil, true_or, or_true, false_or, or_false, decide_true, decide_false, ne_eq, not_true_eq_false, not_false_eq_true, ki_0, ki_1, ki_2, ki_3, ki_4, ki_5, kb_m100, kb_m10, kb_m9, kb_m8, kb_m7, kb_m6, kb_m5, kb_m4, kb_m3, kb_m2, kb_6, kb_7, kb_8, kb_9, kb_10, kb_12, kb_13, kb_16, kb_27, kb_31, kb_32, kb_43, kb_45, kb_48, kb_57, kb_60, kb_63, kb_81, kb_97, kb_99, kb_100, kb_120, kb_126, ks_m1000, ks_243, ks_255, ks_729, ks_1000, ks_2000, ks_2187, ks_6561, ks_9840, ks_9841, kl_0, kl_1]
        refine c_m_isLetterN hg (by omega) hr_y ?_
        simp only [hrun, hx, hnth, hput, hok, hcat2, hldI, hldL, hldR, hpI, hpL, hpA, hpR, hp1, hpV, hrtI, hrtL, hrtR, hrtV, hpN, hck, hrI, hrB, hrL, hrA, hwI, hwA, hwB, hrN, hfk, hfs, hrF, hwF, hcl, hfty, tyX1, tyX3, tyX6, tyX9, tyX10, tyJ0, tyJ4, hfit, hcmp, hnar, hres, hst, hacp, kz, kof, kn0, kn1, Bool.not_true, Bool.not_false, true_and, and_true, Nat.zero_add, Nat.reduceAdd, List.length_cons, List.length_nil, true_or, or_true, false_or, or_false, decide_true, decide_false, ne_eq, not_true_eq_false, not_false_eq_true, ki_0, ki_1, ki_2, ki_3, ki_4, ki_5, kb_m100, kb_m10, kb_m9, kb_m8, kb_m7, kb_m6, kb_m5, kb_m4, kb_m3, kb_m2, kb_6, kb_7, kb_8, kb_9, kb_10, kb_12, kb_13, kb_16, kb_27, kb_31, kb_32, kb_43, kb_45, kb_48, kb_57, kb_60, kb_63, kb_81, kb_97, kb_99, kb_100, kb_120, kb_126, ks_m1000, ks_243, ks_255, ks_729, ks_1000, ks_2000, ks_2187, ks_6561, ks_9840, ks_9841, kl_0, kl_1]
        refine ⟨fun b14 => ?_, fun b14 => ?_⟩
        · (try simp (disch := omega) only [nI_ltI, nI_leI, nI_eq, Nat.not_lt, Nat.not_le] at b14) <;> (exfalso; omega)
        · try simp (disch := omega) only [nI_ltI, nI_leI, nI_eq, Nat.not_lt, Nat.not_le] at b14
          refine hP 3 _ rfl _ _ _ _ _ _ ?_
          simp only [bX10_appendLetter_3, hrun, hx, hnth, hput, hok, hcat2, hldI, hldL, hldR, hpI, hpL, hpA, hpR, hp1, hpV, hrtI, hrtL, hrtR, hrtV, hpN, hck, hrI, hrB, hrL, hrA, hwI, hwA, hwB, hrN, hfk, hfs, hrF, hwF, hcl, hfty, tyX1, tyX3, tyX6, tyX9, tyX10, tyJ0, tyJ4, hfit, hcmp, hnar, hres, hst, hacp, kz, kof, kn0, kn1, Bool.not_true, Bool.not_false, true_and, and_true, Nat.zero_add, Nat.reduceAdd, List.length_cons, List.length_nil, true_or, or_true, false_or, or_false, decide_true, decide_false, ne_eq, not_true_eq_false, not_false_eq_true, ki_0, ki_1, ki_2, ki_3, ki_4, ki_5, kb_m100, kb_m10, kb_m9, kb_m8, kb_m7, kb_m6, kb_m5, kb_m4, kb_m3, kb_m2, kb_6, kb_7, kb_8, kb_9, kb_10, kb_12, kb_13, kb_16, kb_27, kb_31, kb_32, kb_43, kb_45, kb_48, kb_57, kb_60, kb_63, kb_81, kb_97, kb_99, kb_100, kb_120, kb_126, ks_m1000, ks_243, ks_255, ks_729, ks_1000, ks_2000, ks_2187, ks_6561, ks_9840, ks_9841, kl_0, kl_1]
          exact h w hS mfy.rf
      · (try simp (disch := omega) only [nI_ltI, nI_leI, nI_eq, Nat.not_lt, Nat.not_le] at b4) <;> (exfalso; omega)
    | some l =>
      obtain ⟨h_l, hrfl_l⟩ := ixn_some (by omega) hq_y
      subst hrfl_l
      obtain ⟨⟨⟨ls, ⟨ml, ns, at9, k0⟩, kp, hLm9, hW1, hW2, hR1, hR2, hI9, hO9⟩, hz⟩, f9, hf9⟩ := id hS
      obtain ⟨⟨F, k1, hF⟩, k2, hFr⟩ := id hW1
      have e_i := nI_clamp (n := i) (by omega)
      have f_i := (hF i h_i).1
      have hu_i := (hF i h_i).2
      have h8_i := hu_i.1
      obtain ⟨v_i, hq_i, hv_i⟩ := hFr i h_i
      obtain ⟨G_i, g_i, hG_i⟩ := id hq_i
      have e_n := nI_clamp (n := (S.wd i).length) (by omega)
      have eu0 : upd F i (nI (S.wd i).length + nI 1) i = nI (S.wd i).length + nI 1 := by unfold upd; rw [if_pos rfl]
      simp only [sp_appendLetter, hq_x, hq_y] at h
      refine hP 0 _ rfl _ _ _ _ _ _ ?_
      simp only [bX10_appendLetter_0, hrun, hx, hnth, hput, hok, hcat2, hldI, hldL, hldR, hpI, hpL, hpA, hpR, hp1, hpV, hrtI, hrtL, hrtR, hrtV, hpN, hck, hrI, hrB, hrL, hrA, hwI, hwA, hwB, hrN, hfk, hfs, hrF, hwF, hcl, hfty, tyX1, tyX3, tyX6, tyX9, tyX10, tyJ0, tyJ4, hfit, hcmp, hnar, hres, hst, hacp, kz, kof, kn0, kn1, Bool.not_true, Bool.not_false, true_and, and_true, Nat.zero_add, Nat.reduceAdd, List.length_cons, List.length_nil, true_or, or_true, false_or, or_false, decide_true, decide_false, ne_eq, not_true_eq_false, not_false_eq_true, ki_0, ki_1, ki_2, ki_3, ki_4, ki_5, kb_m100, kb_m10, kb_m9, kb_m8, kb_m7, kb_m6, kb_m5, kb_m4, kb_m3, kb_m2, kb_6, kb_7, kb_8, kb_9, kb_10, kb_12, kb_13, kb_16, kb_27, kb_31, kb_32, kb_43, kb_45, kb_48, kb_57, kb_60, kb_63, kb_81, kb_97, kb_99, kb_100, kb_120, kb_126, ks_m1000, ks_243, ks_255, ks_729, ks_1000, ks_2000, ks_2187, ks_6561, ks_9840, ks_9841, kl_0, kl_1, k0, kp, mFl, k1, k2, va_rf, e_i, f_i, g_i, e_n, va_up_self, va_up_ne _ _ (show (49 : Nat) ≠ 51 + i by omega), va_up_ne _ _ (show (47 : Nat) ≠ 51 + i by omega), va_up_ne _ _ (show (47 : Nat) ≠ 49 by omega), eu0]
      refine c_m_isBuffer hg (by omega) h_i ?_
      simp only [hrun, hx, hnth, hput, hok, hcat2, hldI, hldL, hldR, hpI, hpL, hpA, hpR, hp1, hpV, hrtI, hrtL, hrtR, hrtV, hpN, hck, hrI, hrB, hrL, hrA, hwI, hwA, hwB, hrN, hfk, hfs, hrF, hwF, hcl, hfty, tyX1, tyX3, tyX6, tyX9, tyX10, tyJ0, tyJ4, hfit, hcmp, hnar, hres, hst, hacp, kz, kof, kn0, kn1, Bool.not_true, Bool.not_false, true_and, and_true, Nat.zero_add, Nat.reduceAdd, List.length_cons, List.length_nil, true_or, or_true, false_or, or_false, decide_true, decide_false, ne_eq, not_true_eq_false, not_false_eq_true, ki_0, ki_1, ki_2, ki_3, ki_4, ki_5, kb_m100, kb_m10, kb_m9, kb_m8, kb_m7, kb_m6, kb_m5, kb_m4, kb_m3, kb_m2, kb_6, kb_7, kb_8, kb_9, kb_10, kb_12, kb_13, kb_16, kb_27, kb_31, kb_32, kb_43, kb_45, kb_48, kb_57, kb_60, kb_63, kb_81, kb_97, kb_99, kb_100, kb_120, kb_126, ks_m1000, ks_243, ks_255, ks_729, ks_1000, ks_2000, ks_2187, ks_6561, ks_9840, ks_9841, kl_0, kl_1, k0, kp, mFl, k1, k2, va_rf, e_i, f_i, g_i, e_n, va_up_self, va_up_ne _ _ (show (49 : Nat) ≠ 51 + i by omega), va_up_ne _ _ (show (47 : Nat) ≠ 51 + i by omega), va_up_ne _ _ (show (47 : Nat) ≠ 49 by omega), eu0]
      refine ⟨fun b4 => ?_, fun b4 => ?_⟩
      · try simp (disch := omega) only [nI_ltI, nI_leI, nI_eq, Nat.not_lt, Nat.not_le] at b4
        refine hP 2 _ rfl _ _ _ _ _ _ ?_
        simp only [bX10_appendLetter_2, hrun, hx, hnth, hput, hok, hcat2, hldI, hldL, hldR, hpI, hpL, hpA, hpR, hp1, hpV, hrtI, hrtL, hrtR, hrtV, hpN, hck, hrI, hrB, hrL, hrA, hwI, hwA, hwB, hrN, hfk, hfs, hrF, hwF, hcl, hfty, tyX1, tyX3, tyX6, tyX9, tyX10, tyJ0, tyJ4, hfit, hcmp, hnar, hres, hst, hacp, kz, kof, kn0, kn1, Bool.not_true, Bool.not_false, true_and, and_true, Nat.zero_add, Nat.reduceAdd, List.length_cons, List.length_nil, true_or, or_true, false_or, or_false, decide_true, decide_false, ne_eq, not_true_eq_false, not_false_eq_true, ki_0, ki_1, ki_2, ki_3, ki_4, ki_5, kb_m100, kb_m10, kb_m9, kb_m8, kb_m7, kb_m6, kb_m5, kb_m4, kb_m3, kb_m2, kb_6, kb_7, kb_8, kb_9, kb_10, kb_12, kb_13, kb_16, kb_27, kb_31, kb_32, kb_43, kb_45, kb_48, kb_57, kb_60, kb_63, kb_81, kb_97, kb_99, kb_100, kb_120, kb_126, ks_m1000, ks_243, ks_255, ks_729, ks_1000, ks_2000, ks_2187, ks_6561, ks_9840, ks_9841, kl_0, kl_1, k0, kp, mFl, k1, k2, va_rf, e_i, f_i, g_i, e_n, va_up_self, va_up_ne _ _ (show (49 : Nat) ≠ 51 + i by omega), va_up_ne _ _ (show (47 : Nat) ≠ 51 + i by omega), va_up_ne _ _ (show (47 : Nat) ≠ 49 by omega), eu0]
        refine c_m_isLetter hg (by omega) h_l ?_
        simp only [hrun, hx, hnth, hput, hok, hcat2, hldI, hldL, hldR, hpI, hpL, hpA, hpR, hp1, hpV, hrtI, hrtL, hrtR, hrtV, hpN, hck, hrI, hrB, hrL, hrA, hwI, hwA, hwB, hrN, hfk, hfs, hrF, hwF, hcl, hfty, tyX1, tyX3, tyX6, tyX9, tyX10, tyJ0, tyJ4, hfit, hcmp, hnar, hres, hst, hacp, kz, kof, kn0, kn1, Bool.not_true, Bool.not_false, true_and, and_true, Nat.zero_add, Nat.reduceAdd, List.length_cons, List.length_nil, true_or, or_true, false_or, or_false, decide_true, decide_false, ne_eq, not_true_eq_false, not_false_eq_true, ki_0, ki_1, ki_2, ki_3, ki_4, ki_5, kb_m100, kb_m10, kb_m9, kb_m8, kb_m7, kb_m6, kb_m5, kb_m4, kb_m3, kb_m2, kb_6, kb_7, kb_8, kb_9, kb_10, kb_12, kb_13, kb_16, kb_27, kb_31, kb_32, kb_43, kb_45, kb_48, kb_57, kb_60, kb_63, kb_81, kb_97, kb_99, kb_100, kb_120, kb_126, ks_m1000, ks_243, ks_255, ks_729, ks_1000, ks_2000, ks_2187, ks_6561, ks_9840, ks_9841, kl_0, kl_1, k0, kp, mFl, k1, k2, va_rf, e_i, f_i, g_i, e_n, va_up_self, va_up_ne _ _ (show (49 : Nat) ≠ 51 + i by omega), va_up_ne _ _ (show (47 : Nat) ≠ 51 + i by omega), va_up_ne _ _ (show (47 : Nat) ≠ 49 by omega), eu0]
        refine ⟨fun b14 => ?_, fun b14 => ?_⟩
        · try simp (disch := omega) only [nI_ltI, nI_leI, nI_eq, Nat.not_lt, Nat.not_le] at b14
          refine hP 4 _ rfl _ _ _ _ _ _ ?_
          simp only [bX10_appendLetter_4, hrun, hx, hnth, hput, hok, hcat2, hldI, hldL, hldR, hpI, hpL, hpA, hpR, hp1, hpV, hrtI, hrtL, hrtR, hrtV, hpN, hck, hrI, hrB, hrL, hrA, hwI, hwA, hwB, hrN, hfk, hfs, hrF, hwF, hcl, hfty, tyX1, tyX3, tyX6, tyX9, tyX10, tyJ0, tyJ4, hfit, hcmp, hnar, hres, hst, hacp, kz, kof, kn0, kn1, Bool.not_true, Bool.not_false, true_and, and_true, Nat.zero_add, Nat.reduceAdd, List.length_cons, List.length_nil, true_or, or_true, false_or, or_false, decide_true, decide_false, ne_eq, not_true_eq_false, not_false_eq_true, ki_0, ki_1, ki_2, ki_3, ki_4, ki_5, kb_m100, kb_m10, kb_m9, kb_m8, kb_m7, kb_m6, kb_m5, kb_m4, kb_m3, kb_m2, kb_6, kb_7, kb_8, kb_9, kb_10, kb_12, kb_13, kb_16, kb_27, kb_31, kb_32, kb_43, kb_45, kb_48, kb_57, kb_60, kb_63, kb_81, kb_97, kb_99, kb_100, kb_120, kb_126, ks_m1000, ks_243, ks_255, ks_729, ks_1000, ks_2000, ks_2187, ks_6561, ks_9840, ks_9841, kl_0, kl_1, k0, kp, mFl, k1, k2, va_rf, e_i, f_i, g_i, e_n, va_up_self, va_up_ne _ _ (show (49 : Nat) ≠ 51 + i by omega), va_up_ne _ _ (show (47 : Nat) ≠ 51 + i by omega), va_up_ne _ _ (show (47 : Nat) ≠ 49 by omega), eu0]
          refine ⟨vp_in_nI (by omega) (by omega), ?_⟩
          refine ⟨fun b28 => ?_, fun b28 => ?_⟩
          · try simp (disch := omega) only [nI_ltI, nI_leI, nI_eq, Nat.not_lt, Nat.not_le] at b28
            refine hP 6 _ rfl _ _ _ _ _ _ ?_
            simp only [bX10_appendLetter_6, hrun, hx, hnth, hput, hok, hcat2, hldI, hldL, hldR, hpI, hpL, hpA, hpR, hp1, hpV, hrtI, hrtL, hrtR, hrtV, hpN, hck, hrI, hrB, hrL, hrA, hwI, hwA, hwB, hrN, hfk, hfs, hrF, hwF, hcl, hfty, tyX1, tyX3, tyX6, tyX9, tyX10, tyJ0, tyJ4, hfit, hcmp, hnar, hres, hst, hacp, kz, kof, kn0, kn1, Bool.not_true, Bool.not_false, true_and, and_true, Nat.zero_add, Nat.reduceAdd, List.length_cons, List.length_nil, true_or, or_true, false_or, or_false, decide_true, decide_false, ne_eq, not_true_eq_false, not_false_eq_true, ki_0, ki_1, ki_2, ki_3, ki_4, ki_5, kb_m100, kb_m10, kb_m9, kb_m8, kb_m7, kb_m6, kb_m5, kb_m4, kb_m3, kb_m2, kb_6, kb_7, kb_8, kb_9, kb_10, kb_12, kb_13, kb_16, kb_27, kb_31, kb_32, kb_43, kb_45, kb_48, kb_57, kb_60, kb_63, kb_81, kb_97, kb_99, kb_100, kb_120, kb_126, ks_m1000, ks_243, ks_255, ks_729, ks_1000, ks_2000, ks_2187, ks_6561, ks_9840, ks_9841, kl_0, kl_1, k0, kp, mFl, k1, k2, va_rf, e_i, f_i, g_i, e_n, va_up_self, va_up_ne _ _ (show (49 : Nat) ≠ 51 + i by omega), va_up_ne _ _ (show (47 : Nat) ≠ 51 + i by omega), va_up_ne _ _ (show (47 : Nat) ≠ 49 by omega), eu0]
            refine ⟨vp_in_nI (by omega) (by omega), ?_⟩
            refine ⟨vp_in_nI (by omega) (by omega), ?_⟩
            refine ⟨vp_in_nI (by omega) (by omega), ?_⟩
            refine ⟨vp_in_nI (by omega) (by omega), ?_⟩
            refine ⟨vp_in_nI (by omega) (by omega), ?_⟩
            refine ⟨vp_in_nI (by omega) (by omega), ?_⟩
            rw [if_neg (by omega)] at h
            rw [nI_add] at eu0 ⊢
            have z := hS.wr h_i (u := S.wd i ++ [l]) (hu_i.snoc (by omega) h_l) k1 (w' := _) (by rw [List.length_append, va_up_self]) (v := fun j => if j = (S.wd i).length then l else v_i j) ((hrow.set hG_i h_l).keep (va_up_ne _ _ (by omega))) (mat_set hv_i) ((mfr.up (by simp)).tr (mfr.up (by simp)))
            exact h _ z.1 z.2
          · try simp (disch := omega) only [nI_ltI, nI_leI, nI_eq, Nat.not_lt, Nat.not_le] at b28
            refine hP 5 _ rfl _ _ _ _ _ _ ?_
            simp only [bX10_appendLetter_5, hrun, hx, hnth, hput, hok, hcat2, hldI, hldL, hldR, hpI, hpL, hpA, hpR, hp1, hpV, hrtI, hrtL, hrtR, hrtV, hpN, hck, hrI, hrB, hrL, hrA, hwI, hwA, hwB, hrN, hfk, hfs, hrF, hwF, hcl, hfty, tyX1, tyX3, tyX6, tyX9, tyX10, tyJ0, tyJ4, hfit, hcmp, hnar, hres, hst, hacp, kz, kof, kn0, kn1, Bool.not_true, Bool.not_false, true_and, and_true, Nat.zero_add, Nat.reduceAdd, List.length_cons, List.length_nil, true_or, or_true, false_or, or_false, decide_true, decide_false, ne_eq, not_true_eq_false, not_false_eq_true, ki_0, ki_1, ki_2, ki_3, ki_4, ki_5, kb_m100, kb_m10, kb_m9, kb_m8, kb_m7, kb_m6, kb_m5, kb_m4, kb_m3, kb_m2, kb_6, kb_7, kb_8, kb_9, kb_10, kb_12, kb_13, kb_16, kb_27, kb_31, kb_32, kb_43, kb_45, kb_48, kb_57, kb_60, kb_63, kb_81, kb_97, kb_99, kb_100, kb_120, kb_126, ks_m1000, ks_243, ks_255, ks_729, ks_1000, ks_2000, ks_2187, ks_6561, ks_9840, ks_9841, kl_0, kl_1, k0, kp, mFl, k1, k2, va_rf, e_i, f_i, g_i, e_n, va_up_self, va_up_ne _ _ (show (49 : Nat) ≠ 51 + i by omega), va_up_ne _ _ (show (47 : Nat) ≠ 51 + i by omega), va_up_ne _ _ (show (47 : Nat) ≠ 49 by omega), eu0]
            rw [if_pos (by omega)] at h
            exact h w hS mfy.rf
        · (try simp (disch := omega) only [nI_ltI, nI_leI, nI_eq, Nat.not_lt, Nat.not_le] at b14) <;> (exfalso; omega)
      · (try simp (disch := omega) only [nI_ltI, nI_leI, nI_eq, Nat.not_lt, Nat.not_le] at b4) <;> (exfalso; omega)
set_option maxRecDepth 100000 in
set_option maxHeartbeats 4000000 in
theorem c_m_reverseWord (hg : hgo g) (hd : 30 ≤ d) {S : cS} (hS : hY w S) {x y : Int32} (h : ∀ w', hY w' (sp_reverseWord S x y).2 → mfy w w' → Q (some (.int (sp_reverseWord S x y).1)) N c s w') : Γ g d yX10_reverseWord [.ref 47, .int x, .int y] N c s w Q := by
  refine Γ.intro0 hg kX10_reverseWord (by omega) (Nat.le_of_ble_eq_true rfl) (fun P hP => ?_)
  show P N 0 0 w 0 [some (.ref 47), some (.int x), some (.int y), none, none] []
  cases hq_x : ixn 3 x with
  | none =>
    have hr_x := ixn_none hq_x
    simp only [sp_reverseWord, hq_x] at h
    refine hP 0 _ rfl _ _ _ _ _ _ ?_
    simp only [bX10_reverseWord_0, hrun, hx, hnth, hput, hok, hcat2, hldI, hldL, hldR, hpI, hpL, hpA, hpR, hp1, hpV, hrtI, hrtL, hrtR, hrtV, hpN, hck, hrI, hrB, hrL, hrA, hwI, hwA, hwB, hrN, hfk, hfs, hrF, hwF, hcl, hfty, tyX1, tyX3, tyX6, tyX9, tyX10, tyJ0, tyJ4, hfit, hcmp, hnar, hres, hst, hacp, kz, kof, kn0, kn1, Bool.not_true, Bool.not_false, true_and, and_true, Nat.zero_add, Nat.reduceAdd, List.length_cons, List.length_nil, true_or, or_true, false_or, or_false, decide_true, decide_false, ne_eq, not_true_eq_false, not_false_eq_true, ki_0, ki_1, ki_2, ki_3, ki_4, ki_5, kb_m100, kb_m10, kb_m9, kb_m8, kb_m7, kb_m6, kb_m5, kb_m4, kb_m3, kb_m2, kb_6, kb_7, kb_8, kb_9, kb_10, kb_12, kb_13, kb_16, kb_27, kb_31, kb_32, kb_43, kb_45, kb_48, kb_57, kb_60, kb_63, kb_81, kb_97, kb_99, kb_100, kb_120, kb_126, ks_m1000, ks_243, ks_255, ks_729, ks_1000, ks_2000, ks_2187, ks_6561, ks_9840, ks_9841, kl_0, kl_1]
    refine c_m_isBufferN hg (by omega) hr_x ?_
    simp only [hrun, hx, hnth, hput, hok, hcat2, hldI, hldL, hldR, hpI, hpL, hpA, hpR, hp1, hpV, hrtI, hrtL, hrtR, hrtV, hpN, hck, hrI, hrB, hrL, hrA, hwI, hwA, hwB, hrN, hfk, hfs, hrF, hwF, hcl, hfty, tyX1, tyX3, tyX6, tyX9, tyX10, tyJ0, tyJ4, hfit, hcmp, hnar, hres, hst, hacp, kz, kof, kn0, kn1, Bool.not_true, Bool.not_false, true_and, and_true, Nat.zero_add, Nat.reduceAdd, List.length_cons, List.length_nil, true_or, or_true, false_or, or_false, decide_true, decide_false, ne_eq, not_true_eq_false, not_false_eq_true, ki_0, ki_1, ki_2, ki_3, ki_4, ki_5, kb_m100, kb_m10, kb_m9, kb_m8, kb_m7, kb_m6, kb_m5, kb_m4, kb_m3, kb_m2, kb_6, kb_7, kb_8, kb_9, kb_10, kb_12, kb_13, kb_16, kb_27, kb_31, kb_32, kb_43, kb_45, kb_48, kb_57, kb_60, kb_63, kb_81, kb_97, kb_99, kb_100, kb_120, kb_126, ks_m1000, ks_243, ks_255, ks_729, ks_1000, ks_2000, ks_2187, ks_6561, ks_9840, ks_9841, kl_0, kl_1]
    refine ⟨fun b4 => ?_, fun b4 => ?_⟩
    · try simp (disch := omega) only [nI_ltI, nI_leI, nI_eq, Nat.not_lt, Nat.not_le] at b4
      refine hP 2 _ rfl _ _ _ _ _ _ ?_
      simp only [bX10_reverseWord_2, hrun, hx, hnth, hput, hok, hcat2, hldI, hldL, hldR, hpI, hpL, hpA, hpR, hp1, hpV, hrtI, hrtL, hrtR, hrtV, hpN, hck, hrI, hrB, hrL, hrA, hwI, hwA, hwB, hrN, hfk, hfs, hrF, hwF, hcl, hfty, tyX1, tyX3, tyX6, tyX9, tyX10, tyJ0, tyJ4, hfit, hcmp, hnar, hres, hst, hacp, kz, kof, kn0, kn1, Bool.not_true, Bool.not_false, true_and, and_true, Nat.zero_add, Nat.reduceAdd, List.length_cons, List.length_nil, true_or, or_true, false_or, or_false, decide_true, decide_false, ne_eq, not_true_eq_false, not_false_eq_true, ki_0, ki_1, ki_2, ki_3, ki_4, ki_5, kb_m100, kb_m10, kb_m9, kb_m8, kb_m7, kb_m6, kb_m5, kb_m4, kb_m3, kb_m2, kb_6, kb_7, kb_8, kb_9, kb_10, kb_12, kb_13, kb_16, kb_27, kb_31, kb_32, kb_43, kb_45, kb_48, kb_57, kb_60, kb_63, kb_81, kb_97, kb_99, kb_100, kb_120, kb_126, ks_m1000, ks_243, ks_255, ks_729, ks_1000, ks_2000, ks_2187, ks_6561, ks_9840, ks_9841, kl_0, kl_1]
      exact h w hS mfy.rf
    · (try simp (disch := omega) only [nI_ltI, nI_leI, nI_eq, Nat.not_lt, Nat.not_le] at b4) <;> (exfalso; omega)
  | some i =>
    obtain ⟨h_i, hrfl_i⟩ := ixn_some (by omega) hq_x
    subst hrfl_i
    cases hq_y : ixn 3 y with
    | none =>
      have hr_y := ixn_none hq_y
      simp only [sp_reverseWord, hq_x, hq_y] at h
      refine hP 0 _ rfl _ _ _ _ _ _ ?_
      simp only [bX10_reverseWord_0, hrun, hx, hnth, hput, hok, hcat2, hldI, hldL, hldR, hpI, hpL, hpA, hpR, hp1, hpV, hrtI, hrtL, hrtR, hrtV, hpN, hck, hrI, hrB, hrL, hrA, hwI, hwA, hwB, hrN, hfk, hfs, hrF, hwF, hcl, hfty, tyX1, tyX3, tyX6, tyX9, tyX10, tyJ0, tyJ4, hfit, hcmp, hnar, hres, hst, hacp, kz, kof, kn0, kn1, Bool.not_true, Bool.not_false, true_and, and_true, Nat.zero_add, Nat.reduceAdd, List.length_cons, List.length_nil, true_or, or_true, false_or, or_false, decide_true, decide_false, ne_eq, not_true_eq_false, not_false_eq_true, ki_0, ki_1, ki_2, ki_3, ki_4, ki_5, kb_m100, kb_m10, kb_m9, kb_m8, kb_m7, kb_m6, kb_m5, kb_m4, kb_m3, kb_m2, kb_6, kb_7, kb_8, kb_9, kb_10, kb_12, kb_13, kb_16, kb_27, kb_31, kb_32, kb_43, kb_45, kb_48, kb_57, kb_60, kb_63, kb_81, kb_97, kb_99, kb_100, kb_120, kb_126, ks_m1000, ks_243, ks_255, ks_729, ks_1000, ks_2000, ks_2187, ks_6561, ks_9840, ks_9841, kl_0, kl_1]
      refine c_m_isBuffer hg (by omega) h_i ?_
      simp only [hrun, hx, hnth, hput, hok, hcat2, hldI, hldL, hldR, hpI, hpL, hpA, hpR, hp1, hpV, hrtI, hrtL, hrtR, hrtV, hpN, hck, hrI, hrB, hrL, hrA, hwI, hwA, hwB, hrN, hfk, hfs, hrF, hwF, hcl, hfty, tyX1, tyX3, tyX6, tyX9, tyX10, tyJ0, tyJ4, hfit, hcmp, hnar, hres, hst, hacp, kz, kof, kn0, kn1, Bool.not_true, Bool.not_false, true_and, and_true, Nat.zero_add, Nat.reduceAdd, List.length_cons, List.length_nil, true_or, or_true, false_or, or_false, decide_true, decide_false, ne_eq, not_true_eq_false, not_false_eq_true, ki_0, ki_1, ki_2, ki_3, ki_4, ki_5, kb_m100, kb_m10, kb_m9, kb_m8, kb_m7, kb_m6, kb_m5, kb_m4, kb_m3, kb_m2, kb_6, kb_7, kb_8, kb_9, kb_10, kb_12, kb_13, kb_16, kb_27, kb_31, kb_32, kb_43, kb_45, kb_48, kb_57, kb_60, kb_63, kb_81, kb_97, kb_99, kb_100, kb_120, kb_126, ks_m1000, ks_243, ks_255, ks_729, ks_1000, ks_2000, ks_2187, ks_6561, ks_9840, ks_9841, kl_0, kl_1]
      refine ⟨fun b4 => ?_, fun b4 => ?_⟩
      · (try simp (disch := omega) only [nI_ltI, nI_leI, nI_eq, Nat.not_lt, Nat.not_le] at b4) <;> (exfalso; omega)
      · try simp (disch := omega) only [nI_ltI, nI_leI, nI_eq, Nat.not_lt, Nat.not_le] at b4
        refine hP 1 _ rfl _ _ _ _ _ _ ?_
        simp only [bX10_reverseWord_1, hrun, hx, hnth, hput, hok, hcat2, hldI, hldL, hldR, hpI, hpL, hpA, hpR, hp1, hpV, hrtI, hrtL, hrtR, hrtV, hpN, hck, hrI, hrB, hrL, hrA, hwI, hwA, hwB, hrN, hfk, hfs, hrF, hwF, hcl, hfty, tyX1, tyX3, tyX6, tyX9, tyX10, tyJ0, tyJ4, hfit, hcmp, hnar, hres, hst, hacp, kz, kof, kn0, kn1, Bool.not_true, Bool.not_false, true_and, and_true, Nat.zero_add, Nat.reduceAdd, List.length_cons, List.length_nil, true_or, or_true, false_or, or_false, decide_true, decide_false, ne_eq, not_true_eq_false, not_false_eq_true, ki_0, ki_1, ki_2, ki_3, ki_4, ki_5, kb_m100, kb_m10, kb_m9, kb_m8, kb_m7, kb_m6, kb_m5, kb_m4, kb_m3, kb_m2, kb_6, kb_7, kb_8, kb_9, kb_10, kb_12, kb_13, kb_16, kb_27, kb_31, kb_32, kb_43, kb_45, kb_48, kb_57, kb_60, kb_63, kb_81, kb_97, kb_99, kb_100, kb_120, kb_126, ks_m1000, ks_243, ks_255, ks_729, ks_1000, ks_2000, ks_2187, ks_6561, ks_9840, ks_9841, kl_0, kl_1]
        refine c_m_isBufferN hg (by omega) hr_y ?_
        simp only [hrun, hx, hnth, hput, hok, hcat2, hldI, hldL, hldR, hpI, hpL, hpA, hpR, hp1, hpV, hrtI, hrtL, hrtR, hrtV, hpN, hck, hrI, hrB, hrL, hrA, hwI, hwA, hwB, hrN, hfk, hfs, hrF, hwF, hcl, hfty, tyX1, tyX3, tyX6, tyX9, tyX10, tyJ0, tyJ4, hfit, hcmp, hnar, hres, hst, hacp, kz, kof, kn0, kn1, Bool.not_true, Bool.not_false, true_and, and_true, Nat.zero_add, Nat.reduceAdd, List.length_cons, List.length_nil, true_or, or_true, false_or, or_false, decide_true, decide_false, ne_eq, not_true_eq_false, not_false_eq_true, ki_0, ki_1, ki_2, ki_3, ki_4, ki_5, kb_m100, kb_m10, kb_m9, kb_m8, kb_m7, kb_m6, kb_m5, kb_m4, kb_m3, kb_m2, kb_6, kb_7, kb_8, kb_9, kb_10, kb_12, kb_13, kb_16, kb_27, kb_31, kb_32, kb_43, kb_45, kb_48, kb_57, kb_60, kb_63, kb_81, kb_97, kb_99, kb_100, kb_120, kb_126, ks_m1000, ks_243, ks_255, ks_729, ks_1000, ks_2000, ks_2187, ks_6561, ks_9840, ks_9841, kl_0, kl_1]
        refine ⟨fun b11 => ?_, fun b11 => ?_⟩
        · (try simp (disch := omega) only [nI_ltI, nI_leI, nI_eq, Nat.not_lt, Nat.not_le] at b11) <;> (exfalso; omega)
        · try simp (disch := omega) only [nI_ltI, nI_leI, nI_eq, Nat.not_lt, Nat.not_le] at b11
          refine hP 2 _ rfl _ _ _ _ _ _ ?_
          simp only [bX10_reverseWord_2, hrun, hx, hnth, hput, hok, hcat2, hldI, hldL, hldR, hpI, hpL, hpA, hpR, hp1, hpV, hrtI, hrtL, hrtR, hrtV, hpN, hck, hrI, hrB, hrL, hrA, hwI, hwA, hwB, hrN, hfk, hfs, hrF, hwF, hcl, hfty, tyX1, tyX3, tyX6, tyX9, tyX10, tyJ0, tyJ4, hfit, hcmp, hnar, hres, hst, hacp, kz, kof, kn0, kn1, Bool.not_true, Bool.not_false, true_and, and_true, Nat.zero_add, Nat.reduceAdd, List.length_cons, List.length_nil, true_or, or_true, false_or, or_false, decide_true, decide_false, ne_eq, not_true_eq_false, not_false_eq_true, ki_0, ki_1, ki_2, ki_3, ki_4, ki_5, kb_m100, kb_m10, kb_m9, kb_m8, kb_m7, kb_m6, kb_m5, kb_m4, kb_m3, kb_m2, kb_6, kb_7, kb_8, kb_9, kb_10, kb_12, kb_13, kb_16, kb_27, kb_31, kb_32, kb_43, kb_45, kb_48, kb_57, kb_60, kb_63, kb_81, kb_97, kb_99, kb_100, kb_120, kb_126, ks_m1000, ks_243, ks_255, ks_729, ks_1000, ks_2000, ks_2187, ks_6561, ks_9840, ks_9841, kl_0, kl_1]
          exact h w hS mfy.rf
    | some j =>
      obtain ⟨h_j, hrfl_j⟩ := ixn_some (by omega) hq_y
      subst hrfl_j
      obtain ⟨⟨⟨ls, ⟨ml, ns, at9, k0⟩, kp, hLm9, hW1, hW2, hR1, hR2, hI9, hO9⟩, hz⟩, f9, hf9⟩ := id hS
      obtain ⟨⟨F, k1, hF⟩, k2, hFr⟩ := id hW1
      have e_i := nI_clamp (n := i) (by omega)
      have f_i := (hF i h_i).1
      have hu_i := (hF i h_i).2
      have h8_i := hu_i.1
      obtain ⟨v_i, hq_i, hv_i⟩ := hFr i h_i
      obtain ⟨G_i, g_i, hG_i⟩ := id hq_i
      have e_j := nI_clamp (n := j) (by omega)
      have f_j := (hF j h_j).1
      have hu_j := (hF j h_j).2
      have h8_j := hu_j.1
      obtain ⟨v_j, hq_j, hv_j⟩ := hFr j h_j
      obtain ⟨G_j, g_j, hG_j⟩ := id hq_j
      simp only [sp_reverseWord, hq_x, hq_y] at h
      obtain ⟨⟨u67, h67⟩, hz2⟩ := id hz
      have loop2 : ∀ (n k : Nat) (w1 w2 : hWd) (r1 v2 : Nat → Nat), (S.wd i).length - k = n → k ≤ (S.wd i).length → hrow w1 67 r1 → (∀ m, m < (S.wd i).length → r1 m = mat (S.wd i) ((S.wd i).length - 1 - m)) → mfr [67] w w1 → hrow w2 (51 + j) v2 → (∀ m, m < k → v2 m = r1 m) → mfr [51 + j] w1 w2 → P N 0 0 w2 62 [some (.ref 47), some (.int (nI i)), some (.int (nI j)), some (.int (nI (S.wd i).length)), some (.int (nI k))] [] := by
        intro n
        induction n with
        | zero =>
          intro k w1 w2 r1 v2 hn hk hr1 hr2 hm1 hv2 hv3 hm2
          have ek : k = (S.wd i).length := by omega
          have z0 : w2 47 = _ := (hm2 47 (by simp; omega)).trans ((hm1 47 (by decide)).trans k0)
          have z1 : w2 49 = _ := (hm2 49 (by simp; omega)).trans ((hm1 49 (by decide)).trans k1)
          refine hP 7 _ rfl _ _ _ _ _ _ ?_
          simp only [bX10_reverseWord_7, hrun, hx, hnth, hput, hok, hcat2, hldI, hldL, hldR, hpI, hpL, hpA, hpR, hp1, hpV, hrtI, hrtL, hrtR, hrtV, hpN, hck, hrI, hrB, hrL, hrA, hwI, hwA, hwB, hrN, hfk, hfs, hrF, hwF, hcl, hfty, tyX1, tyX3, tyX6, tyX9, tyX10, tyJ0, tyJ4, hfit, hcmp, hnar, hres, hst, hacp, kz, kof, kn0, kn1, Bool.not_true, Bool.not_false, true_and, and_true, Nat.zero_add, Nat.reduceAdd, List.length_cons, List.length_nil, true_or, or_true, false_or, or_false, decide_true, decide_false, ne_eq, not_true_eq_false, not_false_eq_true, ki_0, ki_1, ki_2, ki_3, ki_4, ki_5, kb_m100, kb_m10, kb_m9, kb_m8, kb_m7, kb_m6, kb_m5, kb_m4, kb_m3, kb_m2, kb_6, kb_7, kb_8, kb_9, kb_10, kb_12, kb_13, kb_16, kb_27, kb_31, kb_32, kb_43, kb_45, kb_48, kb_57, kb_60, kb_63, kb_81, kb_97, kb_99, kb_100, kb_120, kb_126, ks_m1000, ks_243, ks_255, ks_729, ks_1000, ks_2000, ks_2187, ks_6561, ks_9840, ks_9841, kl_0, kl_1, z0, mFl, z1, e_j]
          refine ⟨fun b65 => ?_, fun b65 => ?_⟩
          · try simp (disch := omega) only [nI_ltI, nI_leI, nI_eq, Nat.not_lt, Nat.not_le] at b65
            refine hP 9 _ rfl _ _ _ _ _ _ ?_
            simp only [bX10_reverseWord_9, hrun, hx, hnth, hput, hok, hcat2, hldI, hldL, hldR, hpI, hpL, hpA, hpR, hp1, hpV, hrtI, hrtL, hrtR, hrtV, hpN, hck, hrI, hrB, hrL, hrA, hwI, hwA, hwB, hrN, hfk, hfs, hrF, hwF, hcl, hfty, tyX1, tyX3, tyX6, tyX9, tyX10, tyJ0, tyJ4, hfit, hcmp, hnar, hres, hst, hacp, kz, kof, kn0, kn1, Bool.not_true, Bool.not_false, true_and, and_true, Nat.zero_add, Nat.reduceAdd, List.length_cons, List.length_nil, true_or, or_true, false_or, or_false, decide_true, decide_false, ne_eq, not_true_eq_false, not_false_eq_true, ki_0, ki_1, ki_2, ki_3, ki_4, ki_5, kb_m100, kb_m10, kb_m9, kb_m8, kb_m7, kb_m6, kb_m5, kb_m4, kb_m3, kb_m2, kb_6, kb_7, kb_8, kb_9, kb_10, kb_12, kb_13, kb_16, kb_27, kb_31, kb_32, kb_43, kb_45, kb_48, kb_57, kb_60, kb_63, kb_81, kb_97, kb_99, kb_100, kb_120, kb_126, ks_m1000, ks_243, ks_255, ks_729, ks_1000, ks_2000, ks_2187, ks_6561, ks_9840, ks_9841, kl_0, kl_1, z0, mFl, z1, e_j]
            refine ⟨vp_in_nI (by omega) (by omega), ?_⟩
            have hS1 : hY w1 S := ⟨hS.1.r67 hr1 hm1, f9, hf9.keep (hm1 _ (by decide))⟩
            have z := hS1.wr h_j (u := (S.wd i).reverse) hu_i.rev ((hm1 49 (by decide)).trans k1) (by rw [List.length_reverse]; exact va_up_self ..) (hv2.keep (va_up_ne _ _ (by omega))) (fun m hm => by rw [List.length_reverse] at hm; rw [hv3 m (by omega), hr2 m hm, mat_rev hm]) ((hm2.mono (by simp)).tr (mfr.up (by simp)))
            exact h _ z.1 ((hm1.y (by decide)).tr z.2)
          · (try simp (disch := omega) only [nI_ltI, nI_leI, nI_eq, Nat.not_lt, Nat.not_le] at b65) <;> (exfalso; omega)
        | succ n ih =>
          intro k w1 w2 r1 v2 hn hk hr1 hr2 hm1 hv2 hv3 hm2
          obtain ⟨R1, q1, hR9⟩ := id (hr1.keep (hm2 67 (by simp; omega)))
          obtain ⟨V2, q2, hV9⟩ := id hv2
          have e_k := nI_clamp (n := k) (by omega)
          have r_k := (hR9 k (by omega)).1
          have z0 : w2 47 = _ := (hm2 47 (by simp; omega)).trans ((hm1 47 (by decide)).trans k0)
          have z2 : w2 50 = _ := (hm2 50 (by simp; omega)).trans ((hm1 50 (by decide)).trans k2)
          refine hP 7 _ rfl _ _ _ _ _ _ ?_
          simp only [bX10_reverseWord_7, hrun, hx, hnth, hput, hok, hcat2, hldI, hldL, hldR, hpI, hpL, hpA, hpR, hp1, hpV, hrtI, hrtL, hrtR, hrtV, hpN, hck, hrI, hrB, hrL, hrA, hwI, hwA, hwB, hrN, hfk, hfs, hrF, hwF, hcl, hfty, tyX1, tyX3, tyX6, tyX9, tyX10, tyJ0, tyJ4, hfit, hcmp, hnar, hres, hst, hacp, kz, kof, kn0, kn1, Bool.not_true, Bool.not_false, true_and, and_true, Nat.zero_add, Nat.reduceAdd, List.length_cons, List.length_nil, true_or, or_true, false_or, or_false, decide_true, decide_false, ne_eq, not_true_eq_false, not_false_eq_true, ki_0, ki_1, ki_2, ki_3, ki_4, ki_5, kb_m100, kb_m10, kb_m9, kb_m8, kb_m7, kb_m6, kb_m5, kb_m4, kb_m3, kb_m2, kb_6, kb_7, kb_8, kb_9, kb_10, kb_12, kb_13, kb_16, kb_27, kb_31, kb_32, kb_43, kb_45, kb_48, kb_57, kb_60, kb_63, kb_81, kb_97, kb_99, kb_100, kb_120, kb_126, ks_m1000, ks_243, ks_255, ks_729, ks_1000, ks_2000, ks_2187, ks_6561, ks_9840, ks_9841, kl_0, kl_1, z0, mFl, z2, va_rf, q1, q2, e_k, e_j, r_k]
          refine ⟨fun b65 => ?_, fun b65 => ?_⟩
          · (try simp (disch := omega) only [nI_ltI, nI_leI, nI_eq, Nat.not_lt, Nat.not_le] at b65) <;> (exfalso; omega)
          · try simp (disch := omega) only [nI_ltI, nI_leI, nI_eq, Nat.not_lt, Nat.not_le] at b65
            refine hP 8 _ rfl _ _ _ _ _ _ ?_
            simp only [bX10_reverseWord_8, hrun, hx, hnth, hput, hok, hcat2, hldI, hldL, hldR, hpI, hpL, hpA, hpR, hp1, hpV, hrtI, hrtL, hrtR, hrtV, hpN, hck, hrI, hrB, hrL, hrA, hwI, hwA, hwB, hrN, hfk, hfs, hrF, hwF, hcl, hfty, tyX1, tyX3, tyX6, tyX9, tyX10, tyJ0, tyJ4, hfit, hcmp, hnar, hres, hst, hacp, kz, kof, kn0, kn1, Bool.not_true, Bool.not_false, true_and, and_true, Nat.zero_add, Nat.reduceAdd, List.length_cons, List.length_nil, true_or, or_true, false_or, or_false, decide_true, decide_false, ne_eq, not_true_eq_false, not_false_eq_true, ki_0, ki_1, ki_2, ki_3, ki_4, ki_5, kb_m100, kb_m10, kb_m9, kb_m8, kb_m7, kb_m6, kb_m5, kb_m4, kb_m3, kb_m2, kb_6, kb_7, kb_8, kb_9, kb_10, kb_12, kb_13, kb_16, kb_27, kb_31, kb_32, kb_43, kb_45, kb_48, kb_57, kb_60, kb_63, kb_81, kb_97, kb_99, kb_100, kb_120, kb_126, ks_m1000, ks_243, ks_255, ks_729, ks_1000, ks_2000, ks_2187, ks_6561, ks_9840, ks_9841, kl_0, kl_1, z0, mFl, z2, va_rf, q1, q2, e_k, e_j, r_k]
            refine ⟨vp_in_nI (by omega) (by omega), ?_⟩
            refine ⟨vp_in_nI (by omega) (by omega), ?_⟩
            refine ⟨vp_in_nI (by omega) (by omega), ?_⟩
            rw [nI_add]
            refine ih (k + 1) w1 _ r1 _ (by omega) (by omega) hr1 hr2 hm1 (hrow.set hV9 (hR9 k (by omega)).2) (fun m hm => ?_) (hm2.tr (mfr.up (by simp)))
            by_cases q : m = k
            · simp only [if_pos q]; rw [q]
            · simp only [if_neg q]; exact hv3 m (by omega)
      have loop1 : ∀ (n k : Nat) (w1 : hWd) (r1 : Nat → Nat), (S.wd i).length - k = n → k ≤ (S.wd i).length → hrow w1 67 r1 → (∀ m, m < k → r1 m = mat (S.wd i) ((S.wd i).length - 1 - m)) → mfr [67] w w1 → P N 0 0 w1 27 [some (.ref 47), some (.int (nI i)), some (.int (nI j)), some (.int (nI (S.wd i).length)), some (.int (nI k))] [] := by
        intro n
        induction n with
        | zero =>
          intro k w1 r1 hn hk hr1 hr2 hm1
          have ek : k = (S.wd i).length := by omega
          refine hP 4 _ rfl _ _ _ _ _ _ ?_
          simp only [bX10_reverseWord_4, hrun, hx, hnth, hput, hok, hcat2, hldI, hldL, hldR, hpI, hpL, hpA, hpR, hp1, hpV, hrtI, hrtL, hrtR, hrtV, hpN, hck, hrI, hrB, hrL, hrA, hwI, hwA, hwB, hrN, hfk, hfs, hrF, hwF, hcl, hfty, tyX1, tyX3, tyX6, tyX9, tyX10, tyJ0, tyJ4, hfit, hcmp, hnar, hres, hst, hacp, kz, kof, kn0, kn1, Bool.not_true, Bool.not_false, true_and, and_true, Nat.zero_add, Nat.reduceAdd, List.length_cons, List.length_nil, true_or, or_true, false_or, or_false, decide_true, decide_false, ne_eq, not_true_eq_false, not_false_eq_true, ki_0, ki_1, ki_2, ki_3, ki_4, ki_5, kb_m100, kb_m10, kb_m9, kb_m8, kb_m7, kb_m6, kb_m5, kb_m4, kb_m3, kb_m2, kb_6, kb_7, kb_8, kb_9, kb_10, kb_12, kb_13, kb_16, kb_27, kb_31, kb_32, kb_43, kb_45, kb_48, kb_57, kb_60, kb_63, kb_81, kb_97, kb_99, kb_100, kb_120, kb_126, ks_m1000, ks_243, ks_255, ks_729, ks_1000, ks_2000, ks_2187, ks_6561, ks_9840, ks_9841, kl_0, kl_1]
          refine ⟨fun b30 => ?_, fun b30 => ?_⟩
          · try simp (disch := omega) only [nI_ltI, nI_leI, nI_eq, Nat.not_lt, Nat.not_le] at b30
            refine hP 6 _ rfl _ _ _ _ _ _ ?_
            simp only [bX10_reverseWord_6, hrun, hx, hnth, hput, hok, hcat2, hldI, hldL, hldR, hpI, hpL, hpA, hpR, hp1, hpV, hrtI, hrtL, hrtR, hrtV, hpN, hck, hrI, hrB, hrL, hrA, hwI, hwA, hwB, hrN, hfk, hfs, hrF, hwF, hcl, hfty, tyX1, tyX3, tyX6, tyX9, tyX10, tyJ0, tyJ4, hfit, hcmp, hnar, hres, hst, hacp, kz, kof, kn0, kn1, Bool.not_true, Bool.not_false, true_and, and_true, Nat.zero_add, Nat.reduceAdd, List.length_cons, List.length_nil, true_or, or_true, false_or, or_false, decide_true, decide_false, ne_eq, not_true_eq_false, not_false_eq_true, ki_0, ki_1, ki_2, ki_3, ki_4, ki_5, kb_m100, kb_m10, kb_m9, kb_m8, kb_m7, kb_m6, kb_m5, kb_m4, kb_m3, kb_m2, kb_6, kb_7, kb_8, kb_9, kb_10, kb_12, kb_13, kb_16, kb_27, kb_31, kb_32, kb_43, kb_45, kb_48, kb_57, kb_60, kb_63, kb_81, kb_97, kb_99, kb_100, kb_120, kb_126, ks_m1000, ks_243, ks_255, ks_729, ks_1000, ks_2000, ks_2187, ks_6561, ks_9840, ks_9841, kl_0, kl_1]
            exact loop2 _ 0 w1 w1 r1 v_j rfl (Nat.zero_le _) hr1 (fun m hm => hr2 m (by omega)) hm1 (hq_j.keep (hm1 _ (by simp; omega))) (fun m hm => by omega) mfr.rf
          · (try simp (disch := omega) only [nI_ltI, nI_leI, nI_eq, Nat.not_lt, Nat.not_le] at b30) <;> (exfalso; omega)
        | succ n ih =>
          intro k w1 r1 hn hk hr1 hr2 hm1
          obtain ⟨R1, q1, hR9⟩ := id hr1
          have q2 : w1 (51 + i) = _ := (hm1 _ (by simp; omega)).trans g_i
          have e_k := nI_clamp (n := k) (by omega)
          have e_m := nI_clamp (n := (S.wd i).length - 1 - k) (by omega)
          have s_m : nI (S.wd i).length - nI 1 - nI k = nI ((S.wd i).length - 1 - k) := by rw [pk_sub (by omega), pk_sub (by omega)]
          have r_m := (hG_i ((S.wd i).length - 1 - k) (by omega))
          have r_n := r_m.1
          have z0 : w1 47 = _ := (hm1 47 (by decide)).trans k0
          have z2 : w1 50 = _ := (hm1 50 (by decide)).trans k2
          refine hP 4 _ rfl _ _ _ _ _ _ ?_
          simp only [bX10_reverseWord_4, hrun, hx, hnth, hput, hok, hcat2, hldI, hldL, hldR, hpI, hpL, hpA, hpR, hp1, hpV, hrtI, hrtL, hrtR, hrtV, hpN, hck, hrI, hrB, hrL, hrA, hwI, hwA, hwB, hrN, hfk, hfs, hrF, hwF, hcl, hfty, tyX1, tyX3, tyX6, tyX9, tyX10, tyJ0, tyJ4, hfit, hcmp, hnar, hres, hst, hacp, kz, kof, kn0, kn1, Bool.not_true, Bool.not_false, true_and, and_true, Nat.zero_add, Nat.reduceAdd, List.length_cons, List.length_nil, true_or, or_true, false_or, or_false, decide_true, decide_false, ne_eq, not_true_eq_false, not_false_eq_true, ki_0, ki_1, ki_2, ki_3, ki_4, ki_5, kb_m100, kb_m10, kb_m9, kb_m8, kb_m7, kb_m6, kb_m5, kb_m4, kb_m3, kb_m2, kb_6, kb_7, kb_8, kb_9, kb_10, kb_12, kb_13, kb_16, kb_27, kb_31, kb_32, kb_43, kb_45, kb_48, kb_57, kb_60, kb_63, kb_81, kb_97, kb_99, kb_100, kb_120, kb_126, ks_m1000, ks_243, ks_255, ks_729, ks_1000, ks_2000, ks_2187, ks_6561, ks_9840, ks_9841, kl_0, kl_1, z0, mFl, z2, va_rf, q1, q2, e_k, e_i, s_m, e_m, r_n]
          refine ⟨fun b30 => ?_, fun b30 => ?_⟩
          · (try simp (disch := omega) only [nI_ltI, nI_leI, nI_eq, Nat.not_lt, Nat.not_le] at b30) <;> (exfalso; omega)
          · try simp (disch := omega) only [nI_ltI, nI_leI, nI_eq, Nat.not_lt, Nat.not_le] at b30
            refine hP 5 _ rfl _ _ _ _ _ _ ?_
            simp only [bX10_reverseWord_5, hrun, hx, hnth, hput, hok, hcat2, hldI, hldL, hldR, hpI, hpL, hpA, hpR, hp1, hpV, hrtI, hrtL, hrtR, hrtV, hpN, hck, hrI, hrB, hrL, hrA, hwI, hwA, hwB, hrN, hfk, hfs, hrF, hwF, hcl, hfty, tyX1, tyX3, tyX6, tyX9, tyX10, tyJ0, tyJ4, hfit, hcmp, hnar, hres, hst, hacp, kz, kof, kn0, kn1, Bool.not_true, Bool.not_false, true_and, and_true, Nat.zero_add, Nat.reduceAdd, List.length_cons, List.length_nil, true_or, or_true, false_or, or_false, decide_true, decide_false, ne_eq, not_true_eq_false, not_false_eq_true, ki_0, ki_1, ki_2, ki_3, ki_4, ki_5, kb_m100, kb_m10, kb_m9, kb_m8, kb_m7, kb_m6, kb_m5, kb_m4, kb_m3, kb_m2, kb_6, kb_7, kb_8, kb_9, kb_10, kb_12, kb_13, kb_16, kb_27, kb_31, kb_32, kb_43, kb_45, kb_48, kb_57, kb_60, kb_63, kb_81, kb_97, kb_99, kb_100, kb_120, kb_126, ks_m1000, ks_243, ks_255, ks_729, ks_1000, ks_2000, ks_2187, ks_6561, ks_9840, ks_9841, kl_0, kl_1, z0, mFl, z2, va_rf, q1, q2, e_k, e_i, s_m, e_m, r_n]
            refine ⟨vp_in_nI (by omega) (by omega), ?_⟩
            refine ⟨vp_in_nI (by omega) (by omega), ?_⟩
            refine ⟨vp_in_nI (by omega) (by omega), ?_⟩
            rw [nI_add]
            refine ih (k + 1) _ _ (by omega) (by omega) (hrow.set hR9 r_m.2) (fun m hm => ?_) (hm1.tr (mfr.up (by simp)))
            by_cases q : m = k
            · simp only [if_pos q]; rw [q]; exact hv_i _ (by omega)
            · simp only [if_neg q]; exact hr2 m (by omega)
      refine hP 0 _ rfl _ _ _ _ _ _ ?_
      simp only [bX10_reverseWord_0, hrun, hx, hnth, hput, hok, hcat2, hldI, hldL, hldR, hpI, hpL, hpA, hpR, hp1, hpV, hrtI, hrtL, hrtR, hrtV, hpN, hck, hrI, hrB, hrL, hrA, hwI, hwA, hwB, hrN, hfk, hfs, hrF, hwF, hcl, hfty, tyX1, tyX3, tyX6, tyX9, tyX10, tyJ0, tyJ4, hfit, hcmp, hnar, hres, hst, hacp, kz, kof, kn0, kn1, Bool.not_true, Bool.not_false, true_and, and_true, Nat.zero_add, Nat.reduceAdd, List.length_cons, List.length_nil, true_or, or_true, false_or, or_false, decide_true, decide_false, ne_eq, not_true_eq_false, not_false_eq_true, ki_0, ki_1, ki_2, ki_3, ki_4, ki_5, kb_m100, kb_m10, kb_m9, kb_m8, kb_m7, kb_m6, kb_m5, kb_m4, kb_m3, kb_m2, kb_6, kb_7, kb_8, kb_9, kb_10, kb_12, kb_13, kb_16, kb_27, kb_31, kb_32, kb_43, kb_45, kb_48, kb_57, kb_60, kb_63, kb_81, kb_97, kb_99, kb_100, kb_120, kb_126, ks_m1000, ks_243, ks_255, ks_729, ks_1000, ks_2000, ks_2187, ks_6561, ks_9840, ks_9841, kl_0, kl_1, k0, kp, mFl, k1, k2, va_rf, e_i, f_i]
      refine c_m_isBuffer hg (by omega) h_i ?_
      simp only [hrun, hx, hnth, hput, hok, hcat2, hldI, hldL, hldR, hpI, hpL, hpA, hpR, hp1, hpV, hrtI, hrtL, hrtR, hrtV, hpN, hck, hrI, hrB, hrL, hrA, hwI, hwA, hwB, hrN, hfk, hfs, hrF, hwF, hcl, hfty, tyX1, tyX3, tyX6, tyX9, tyX10, tyJ0, tyJ4, hfit, hcmp, hnar, hres, hst, hacp, kz, kof, kn0, kn1, Bool.not_true, Bool.not_false, true_and, and_true, Nat.zero_add, Nat.reduceAdd, List.length_cons, List.length_nil, true_or, or_true, false_or, or_false, decide_true, decide_false, ne_eq, not_true_eq_false, not_false_eq_true, ki_0, ki_1, ki_2, ki_3, ki_4, ki_5, kb_m100, kb_m10, kb_m9, kb_m8, kb_m7, kb_m6, kb_m5, kb_m4, kb_m3, kb_m2, kb_6, kb_7, kb_8, kb_9, kb_10, kb_12, kb_13, kb_16, kb_27, kb_31, kb_32, kb_43, kb_45, kb_48, kb_57, kb_60, kb_63, kb_81, kb_97, kb_99, kb_100, kb_120, kb_126, ks_m1000, ks_243, ks_255, ks_729, ks_1000, ks_2000, ks_2187, ks_6561, ks_9840, ks_9841, kl_0, kl_1, k0, kp, mFl, k1, k2, va_rf, e_i, f_i]
      refine ⟨fun b4 => ?_, fun b4 => ?_⟩
      · (try simp (disch := omega) only [nI_ltI, nI_leI, nI_eq, Nat.not_lt, Nat.not_le] at b4) <;> (exfalso; omega)
      · try simp (disch := omega) only [nI_ltI, nI_leI, nI_eq, Nat.not_lt, Nat.not_le] at b4
        refine hP 1 _ rfl _ _ _ _ _ _ ?_
        simp only [bX10_reverseWord_1, hrun, hx, hnth, hput, hok, hcat2, hldI, hldL, hldR, hpI, hpL, hpA, hpR, hp1, hpV, hrtI, hrtL, hrtR, hrtV, hpN, hck, hrI, hrB, hrL, hrA, hwI, hwA, hwB, hrN, hfk, hfs, hrF, hwF, hcl, hfty, tyX1, tyX3, tyX6, tyX9, tyX10, tyJ0, tyJ4, hfit, hcmp, hnar, hres, hst, hacp, kz, kof, kn0, kn1, Bool.not_true, Bool.not_false, true_and, and_true, Nat.zero_add, Nat.reduceAdd, List.length_cons, List.length_nil, true_or, or_true, false_or, or_false, decide_true, decide_false, ne_eq, not_true_eq_false, not_false_eq_true, ki_0, ki_1, ki_2, ki_3, ki_4, ki_5, kb_m100, kb_m10, kb_m9, kb_m8, kb_m7, kb_m6, kb_m5, kb_m4, kb_m3, kb_m2, kb_6, kb_7, kb_8, kb_9, kb_10, kb_12, kb_13, kb_16, kb_27, kb_31, kb_32, kb_43, kb_45, kb_48, kb_57, kb_60, kb_63, kb_81, kb_97, kb_99, kb_100, kb_120, kb_126, ks_m1000, ks_243, ks_255, ks_729, ks_1000, ks_2000, ks_2187, ks_6561, ks_9840, ks_9841, kl_0, kl_1, k0, kp, mFl, k1, k2, va_rf, e_i, f_i]
        refine c_m_isBuffer hg (by omega) h_j ?_
        simp only [hrun, hx, hnth, hput, hok, hcat2, hldI, hldL, hldR, hpI, hpL, hpA, hpR, hp1, hpV, hrtI, hrtL, hrtR, hrtV, hpN, hck, hrI, hrB, hrL, hrA, hwI, hwA, hwB, hrN, hfk, hfs, hrF, hwF, hcl, hfty, tyX1, tyX3, tyX6, tyX9, tyX10, tyJ0, tyJ4, hfit, hcmp, hnar, hres, hst, hacp, kz, kof, kn0, kn1, Bool.not_true, Bool.not_false, true_and, and_true, Nat.zero_add, Nat.reduceAdd, List.length_cons, List.length_nil, true_or, or_true, false_or, or_false, decide_true, decide_false, ne_eq, not_true_eq_false, not_false_eq_true, ki_0, ki_1, ki_2, ki_3, ki_4, ki_5, kb_m100, kb_m10, kb_m9, kb_m8, kb_m7, kb_m6, kb_m5, kb_m4, kb_m3, kb_m2, kb_6, kb_7, kb_8, kb_9, kb_10, kb_12, kb_13, kb_16, kb_27, kb_31, kb_32, kb_43, kb_45, kb_48, kb_57, kb_60, kb_63, kb_81, kb_97, kb_99, kb_100, kb_120, kb_126, ks_m1000, ks_243, ks_255, ks_729, ks_1000, ks_2000, ks_2187, ks_6561, ks_9840, ks_9841, kl_0, kl_1, k0, kp, mFl, k1, k2, va_rf, e_i, f_i]
        refine ⟨fun b11 => ?_, fun b11 => ?_⟩
        · try simp (disch := omega) only [nI_ltI, nI_leI, nI_eq, Nat.not_lt, Nat.not_le] at b11
          refine hP 3 _ rfl _ _ _ _ _ _ ?_
          simp only [bX10_reverseWord_3, hrun, hx, hnth, hput, hok, hcat2, hldI, hldL, hldR, hpI, hpL, hpA, hpR, hp1, hpV, hrtI, hrtL, hrtR, hrtV, hpN, hck, hrI, hrB, hrL, hrA, hwI, hwA, hwB, hrN, hfk, hfs, hrF, hwF, hcl, hfty, tyX1, tyX3, tyX6, tyX9, tyX10, tyJ0, tyJ4, hfit, hcmp, hnar, hres, hst, hacp, kz, kof, kn0, kn1, Bool.not_true, Bool.not_false, true_and, and_true, Nat.zero_add, Nat.reduceAdd, List.length_cons, List.length_nil, true_or, or_true, false_or, or_false, decide_true, decide_false, ne_eq, not_true_eq_false, not_false_eq_true, ki_0, ki_1, ki_2, ki_3, ki_4, ki_5, kb_m100, kb_m10, kb_m9, kb_m8, kb_m7, kb_m6, kb_m5, kb_m4, kb_m3, kb_m2, kb_6, kb_7, kb_8, kb_9, kb_10, kb_12, kb_13, kb_16, kb_27, kb_31, kb_32, kb_43, kb_45, kb_48, kb_57, kb_60, kb_63, kb_81, kb_97, kb_99, kb_100, kb_120, kb_126, ks_m1000, ks_243, ks_255, ks_729, ks_1000, ks_2000, ks_2187, ks_6561, ks_9840, ks_9841, kl_0, kl_1, k0, kp, mFl, k1, k2, va_rf, e_i, f_i]
          refine ⟨vp_in_nI (by omega) (by omega), ?_⟩
          exact loop1 _ 0 w u67 rfl (Nat.zero_le _) h67 (fun m hm => by omega) mfr.rf
        · (try simp (disch := omega) only [nI_ltI, nI_leI, nI_eq, Nat.not_lt, Nat.not_le] at b11) <;> (exfalso; omega)
end M6
