/-! the reference's Lyndon words -/
section M4
variable {g : hG} {d N c s : Nat} {w : hWd} {Q : hRt}
/-- whether a range is a Lyndon word, by its definition -/
def mlr (u : Nat → Nat) (a n : Nat) : Bool := decide (0 < n ∧ ∀ k, k < n → 1 ≤ k → mcp u u a n (a + k) (n - k) < 0)
theorem ofI_lt {z : Int} (h1 : -8 ≤ z) (h2 : z ≤ 8) : Int32.ofInt z < nI 0 ↔ z < 0 := by
  rw [Int32.lt_iff_toInt_lt, Int32.toInt_ofInt_of_le (by omega) (by omega), nI_toInt (by omega)]
  omega
/-- the longest Lyndon word at the start of a range, from a length downwards -/
def mfl (u : Nat → Nat) (a : Nat) : Nat → Nat
  | 0 => 0
  | n + 1 => if mlr u a (n + 1) then n + 1 else mfl u a n
theorem mlr_1 (u : Nat → Nat) (a : Nat) : mlr u a 1 = true := decide_eq_true ⟨by omega, fun k h1 h2 => by omega⟩
set_option maxRecDepth 100000 in
set_option maxHeartbeats 4000000 in
theorem c_lynR (hg : hgo g) (hd : 2 ≤ d) {x : Nat} {u : Nat → Nat} (hr : hrow w x u) {a n : Nat} (hn : a + n ≤ 8)  (h : Q (some (.int (mbI (mlr u a n)))) N c s w) : Γ g d yX10_isLyndonRange [.ref x, .int (nI a), .int (nI n)] N c s w Q := by
  refine Γ.intro0 hg kX10_isLyndonRange (by omega) (Nat.le_of_ble_eq_true rfl) (fun P hP => ?_)
  show P N 0 0 w 0 [some (.ref x), some (.int (nI a)), some (.int (nI n)), none] []
  obtain ⟨F, kF, hF⟩ := id hr
  have h3 : ∀ j, j < 8 → u j < 3 := fun j hj => (hF j hj).2
  have loop : ∀ (r k : Nat), n - k = r → 1 ≤ k → k ≤ 9 → (∀ j, j < k → j < n → 1 ≤ j → mcp u u a n (a + j) (n - j) < 0) → P N 0 0 w 2 [some (.ref x), some (.int (nI a)), some (.int (nI n)), some (.int (nI k))] [] := by
    intro r
    induction r with
    | zero =>
      intro k hr9 hk hk9 hj
      by_cases h0 : 0 < n
      · have eo : mlr u a n = true := decide_eq_true ⟨h0, fun j h1 h2 => hj j (by omega) h1 h2⟩
        rw [eo] at h
        refine hP 1 _ rfl _ _ _ _ _ _ ?_
        simp only [bX10_isLyndonRange_1, hrun, hx, hnth, hput, hok, hcat2, hldI, hldL, hldR, hpI, hpL, hpA, hpR, hp1, hpV, hrtI, hrtL, hrtR, hrtV, hpN, hck, hrI, hrB, hrL, hrA, hwI, hwA, hwB, hrN, hfk, hfs, hrF, hwF, hcl, hfty, tyX1, tyX3, tyX6, tyX9, tyX10, tyJ0, tyJ4, hfit, hcmp, hnar, hres, hst, hacp, kz, kof, kn0, kn1, Bool.not_true, Bool.not_false, true_and, and_true, Nat.zero_add, Nat.reduceAdd, List.length_cons, List.length_nil, true_or, or_true, false_or, or_false, decide_true, decide_false, ne_eq, not_true_eq_false, not_false_eq_true, ki_0, ki_1, ki_2, ki_3, ki_4, ki_5, kb_m100, kb_m10, kb_m9, kb_m8, kb_m7, kb_m6, kb_m5, kb_m4, kb_m3, kb_m2, kb_6, kb_7, kb_8, kb_9, kb_10, kb_12, kb_13, kb_16, kb_27, kb_31, kb_32, kb_43, kb_45, kb_48, kb_57, kb_60, kb_63, kb_81, kb_97, kb_99, kb_100, kb_120, kb_126, ks_m1000, ks_243, ks_255, ks_729, ks_1000, ks_2000, ks_2187, ks_6561, ks_9840, ks_9841, kl_0, kl_1]
        refine ⟨fun b4 => ?_, fun b4 => ?_⟩
        · try simp (disch := omega) only [nI_ltI, nI_leI, nI_eq, Nat.not_lt, Nat.not_le] at b4
          refine hP 5 _ rfl _ _ _ _ _ _ ?_
          simp only [bX10_isLyndonRange_5, hrun, hx, hnth, hput, hok, hcat2, hldI, hldL, hldR, hpI, hpL, hpA, hpR, hp1, hpV, hrtI, hrtL, hrtR, hrtV, hpN, hck, hrI, hrB, hrL, hrA, hwI, hwA, hwB, hrN, hfk, hfs, hrF, hwF, hcl, hfty, tyX1, tyX3, tyX6, tyX9, tyX10, tyJ0, tyJ4, hfit, hcmp, hnar, hres, hst, hacp, kz, kof, kn0, kn1, Bool.not_true, Bool.not_false, true_and, and_true, Nat.zero_add, Nat.reduceAdd, List.length_cons, List.length_nil, true_or, or_true, false_or, or_false, decide_true, decide_false, ne_eq, not_true_eq_false, not_false_eq_true, ki_0, ki_1, ki_2, ki_3, ki_4, ki_5, kb_m100, kb_m10, kb_m9, kb_m8, kb_m7, kb_m6, kb_m5, kb_m4, kb_m3, kb_m2, kb_6, kb_7, kb_8, kb_9, kb_10, kb_12, kb_13, kb_16, kb_27, kb_31, kb_32, kb_43, kb_45, kb_48, kb_57, kb_60, kb_63, kb_81, kb_97, kb_99, kb_100, kb_120, kb_126, ks_m1000, ks_243, ks_255, ks_729, ks_1000, ks_2000, ks_2187, ks_6561, ks_9840, ks_9841, kl_0, kl_1]
          refine ⟨fun b32 => ?_, fun b32 => ?_⟩
          · (try simp (disch := omega) only [nI_ltI, nI_leI, nI_eq, Nat.not_lt, Nat.not_le] at b32) <;> (exfalso; omega)
          · try simp (disch := omega) only [nI_ltI, nI_leI, nI_eq, Nat.not_lt, Nat.not_le] at b32
            refine hP 6 _ rfl _ _ _ _ _ _ ?_
            simp only [bX10_isLyndonRange_6, hrun, hx, hnth, hput, hok, hcat2, hldI, hldL, hldR, hpI, hpL, hpA, hpR, hp1, hpV, hrtI, hrtL, hrtR, hrtV, hpN, hck, hrI, hrB, hrL, hrA, hwI, hwA, hwB, hrN, hfk, hfs, hrF, hwF, hcl, hfty, tyX1, tyX3, tyX6, tyX9, tyX10, tyJ0, tyJ4, hfit, hcmp, hnar, hres, hst, hacp, kz, kof, kn0, kn1, Bool.not_true, Bool.not_false, true_and, and_true, Nat.zero_add, Nat.reduceAdd, List.length_cons, List.length_nil, true_or, or_true, false_or, or_false, decide_true, decide_false, ne_eq, not_true_eq_false, not_false_eq_true, ki_0, ki_1, ki_2, ki_3, ki_4, ki_5, kb_m100, kb_m10, kb_m9, kb_m8, kb_m7, kb_m6, kb_m5, kb_m4, kb_m3, kb_m2, kb_6, kb_7, kb_8, kb_9, kb_10, kb_12, kb_13, kb_16, kb_27, kb_31, kb_32, kb_43, kb_45, kb_48, kb_57, kb_60, kb_63, kb_81, kb_97, kb_99, kb_100, kb_120, kb_126, ks_m1000, ks_243, ks_255, ks_729, ks_1000, ks_2000, ks_2187, ks_6561, ks_9840, ks_9841, kl_0, kl_1]
            refine hP 8 _ rfl _ _ _ _ _ _ ?_
            simp only [bX10_isLyndonRange_8, hrun, hx, hnth, hput, hok, hcat2, hldI, hldL, hldR, hpI, hpL, hpA, hpR, hp1, hpV, hrtI, hrtL, hrtR, hrtV, hpN, hck, hrI, hrB, hrL, hrA, hwI, hwA, hwB, hrN, hfk, hfs, hrF, hwF, hcl, hfty, tyX1, tyX3, tyX6, tyX9, tyX10, tyJ0, tyJ4, hfit, hcmp, hnar, hres, hst, hacp, kz, kof, kn0, kn1, Bool.not_true, Bool.not_false, true_and, and_true, Nat.zero_add, Nat.reduceAdd, List.length_cons, List.length_nil, true_or, or_true, false_or, or_false, decide_true, decide_false, ne_eq, not_true_eq_false, not_false_eq_true, ki_0, ki_1, ki_2, ki_3, ki_4, ki_5, kb_m100, kb_m10, kb_m9, kb_m8, kb_m7, kb_m6, kb_m5, kb_m4, kb_m3, kb_m2, kb_6, kb_7, kb_8, kb_9, kb_10, kb_12, kb_13, kb_16, kb_27, kb_31, kb_32, kb_43, kb_45, kb_48, kb_57, kb_60, kb_63, kb_81, kb_97, kb_99, kb_100, kb_120, kb_126, ks_m1000, ks_243, ks_255, ks_729, ks_1000, ks_2000, ks_2187, ks_6561, ks_9840, ks_9841, kl_0, kl_1]
            exact h
        · (try simp (disch := omega) only [nI_ltI, nI_leI, nI_eq, Nat.not_lt, Nat.not_le] at b4) <;> (exfalso; omega)
      · have eo : mlr u a n = false := decide_eq_false (fun q => h0 q.1)
        rw [eo] at h
        refine hP 1 _ rfl _ _ _ _ _ _ ?_
        simp only [bX10_isLyndonRange_1, hrun, hx, hnth, hput, hok, hcat2, hldI, hldL, hldR, hpI, hpL, hpA, hpR, hp1, hpV, hrtI, hrtL, hrtR, hrtV, hpN, hck, hrI, hrB, hrL, hrA, hwI, hwA, hwB, hrN, hfk, hfs, hrF, hwF, hcl, hfty, tyX1, tyX3, tyX6, tyX9, tyX10, tyJ0, tyJ4, hfit, hcmp, hnar, hres, hst, hacp, kz, kof, kn0, kn1, Bool.not_true, Bool.not_false, true_and, and_true, Nat.zero_add, Nat.reduceAdd, List.length_cons, List.length_nil, true_or, or_true, false_or, or_false, decide_true, decide_false, ne_eq, not_true_eq_false, not_false_eq_true, ki_0, ki_1, ki_2, ki_3, ki_4, ki_5, kb_m100, kb_m10, kb_m9, kb_m8, kb_m7, kb_m6, kb_m5, kb_m4, kb_m3, kb_m2, kb_6, kb_7, kb_8, kb_9, kb_10, kb_12, kb_13, kb_16, kb_27, kb_31, kb_32, kb_43, kb_45, kb_48, kb_57, kb_60, kb_63, kb_81, kb_97, kb_99, kb_100, kb_120, kb_126, ks_m1000, ks_243, ks_255, ks_729, ks_1000, ks_2000, ks_2187, ks_6561, ks_9840, ks_9841, kl_0, kl_1]
        refine ⟨fun b4 => ?_, fun b4 => ?_⟩
        · try simp (disch := omega) only [nI_ltI, nI_leI, nI_eq, Nat.not_lt, Nat.not_le] at b4
          refine hP 5 _ rfl _ _ _ _ _ _ ?_
          simp only [bX10_isLyndonRange_5, hrun, hx, hnth, hput, hok, hcat2, hldI, hldL, hldR, hpI, hpL, hpA, hpR, hp1, hpV, hrtI, hrtL, hrtR, hrtV, hpN, hck, hrI, hrB, hrL, hrA, hwI, hwA, hwB, hrN, hfk, hfs, hrF, hwF, hcl, hfty, tyX1, tyX3, tyX6, tyX9, tyX10, tyJ0, tyJ4, hfit, hcmp, hnar, hres, hst, hacp, kz, kof, kn0, kn1, Bool.not_true, Bool.not_false, true_and, and_true, Nat.zero_add, Nat.reduceAdd, List.length_cons, List.length_nil, true_or, or_true, false_or, or_false, decide_true, decide_false, ne_eq, not_true_eq_false, not_false_eq_true, ki_0, ki_1, ki_2, ki_3, ki_4, ki_5, kb_m100, kb_m10, kb_m9, kb_m8, kb_m7, kb_m6, kb_m5, kb_m4, kb_m3, kb_m2, kb_6, kb_7, kb_8, kb_9, kb_10, kb_12, kb_13, kb_16, kb_27, kb_31, kb_32, kb_43, kb_45, kb_48, kb_57, kb_60, kb_63, kb_81, kb_97, kb_99, kb_100, kb_120, kb_126, ks_m1000, ks_243, ks_255, ks_729, ks_1000, ks_2000, ks_2187, ks_6561, ks_9840, ks_9841, kl_0, kl_1]
          refine ⟨fun b32 => ?_, fun b32 => ?_⟩
          · try simp (disch := omega) only [nI_ltI, nI_leI, nI_eq, Nat.not_lt, Nat.not_le] at b32
            refine hP 7 _ rfl _ _ _ _ _ _ ?_
            simp only [bX10_isLyndonRange_7, hrun, hx, hnth, hput, hok, hcat2, hldI, hldL, hldR, hpI, hpL, hpA, hpR, hp1, hpV, hrtI, hrtL, hrtR, hrtV, hpN, hck, hrI, hrB, hrL, hrA, hwI, hwA, hwB, hrN, hfk, hfs, hrF, hwF, hcl, hfty, tyX1, tyX3, tyX6, tyX9, tyX10, tyJ0, tyJ4, hfit, hcmp, hnar, hres, hst, hacp, kz, kof, kn0, kn1, Bool.not_true, Bool.not_false, true_and, and_true, Nat.zero_add, Nat.reduceAdd, List.length_cons, List.length_nil, true_or, or_true, false_or, or_false, decide_true, decide_false, ne_eq, not_true_eq_false, not_false_eq_true, ki_0, ki_1, ki_2, ki_3, ki_4, ki_5, kb_m100, kb_m10, kb_m9, kb_m8, kb_m7, kb_m6, kb_m5, kb_m4, kb_m3, kb_m2, kb_6, kb_7, kb_8, kb_9, kb_10, kb_12, kb_13, kb_16, kb_27, kb_31, kb_32, kb_43, kb_45, kb_48, kb_57, kb_60, kb_63, kb_81, kb_97, kb_99, kb_100, kb_120, kb_126, ks_m1000, ks_243, ks_255, ks_729, ks_1000, ks_2000, ks_2187, ks_6561, ks_9840, ks_9841, kl_0, kl_1]
            refine hP 8 _ rfl _ _ _ _ _ _ ?_
            simp only [bX10_isLyndonRange_8, hrun, hx, hnth, hput, hok, hcat2, hldI, hldL, hldR, hpI, hpL, hpA, hpR, hp1, hpV, hrtI, hrtL, hrtR, hrtV, hpN, hck, hrI, hrB, hrL, hrA, hwI, hwA, hwB, hrN, hfk, hfs, hrF, hwF, hcl, hfty, tyX1, tyX3, tyX6, tyX9, tyX10, tyJ0, tyJ4, hfit, hcmp, hnar, hres, hst, hacp, kz, kof, kn0, kn1, Bool.not_true, Bool.not_false, true_and, and_true, Nat.zero_add, Nat.reduceAdd, List.length_cons, List.length_nil, true_or, or_true, false_or, or_false, decide_true, decide_false, ne_eq, not_true_eq_false, not_false_eq_true, ki_0, ki_1, ki_2, ki_3, ki_4, ki_5, kb_m100, kb_m10, kb_m9, kb_m8, kb_m7, kb_m6, kb_m5, kb_m4, kb_m3, kb_m2, kb_6, kb_7, kb_8, kb_9, kb_10, kb_12, kb_13, kb_16, kb_27, kb_31, kb_32, kb_43, kb_45, kb_48, kb_57, kb_60, kb_63, kb_81, kb_97, kb_99, kb_100, kb_120, kb_126, ks_m1000, ks_243, ks_255, ks_729, ks_1000, ks_2000, ks_2187, ks_6561, ks_9840, ks_9841, kl_0, kl_1]
            exact h
          · (try simp (disch := omega) only [nI_ltI, nI_leI, nI_eq, Nat.not_lt, Nat.not_le] at b32) <;> (exfalso; omega)
        · (try simp (disch := omega) only [nI_ltI, nI_leI, nI_eq, Nat.not_lt, Nat.not_le] at b4) <;> (exfalso; omega)
    | succ r ih =>
      intro k hr9 hk hk9 hj
      have es : nI n - nI k = nI (n - k) := pk_sub (by omega)
      have hb := mcmp_b (u := u) (v := u) (a := a) (n := n) (b := a + k) (m := n - k) (by omega) (by omega) h3 h3 (min n (n - k)) 0 (by omega) (by omega)
      have hl9 := ofI_lt hb.1 hb.2
      have hcc : mcmp u u a n (a + k) (n - k) (min n (n - k)) 0 = mcp u u a n (a + k) (n - k) := rfl
      rw [hcc] at hl9
      refine hP 1 _ rfl _ _ _ _ _ _ ?_
      simp only [bX10_isLyndonRange_1, hrun, hx, hnth, hput, hok, hcat2, hldI, hldL, hldR, hpI, hpL, hpA, hpR, hp1, hpV, hrtI, hrtL, hrtR, hrtV, hpN, hck, hrI, hrB, hrL, hrA, hwI, hwA, hwB, hrN, hfk, hfs, hrF, hwF, hcl, hfty, tyX1, tyX3, tyX6, tyX9, tyX10, tyJ0, tyJ4, hfit, hcmp, hnar, hres, hst, hacp, kz, kof, kn0, kn1, Bool.not_true, Bool.not_false, true_and, and_true, Nat.zero_add, Nat.reduceAdd, List.length_cons, List.length_nil, true_or, or_true, false_or, or_false, decide_true, decide_false, ne_eq, not_true_eq_false, not_false_eq_true, ki_0, ki_1, ki_2, ki_3, ki_4, ki_5, kb_m100, kb_m10, kb_m9, kb_m8, kb_m7, kb_m6, kb_m5, kb_m4, kb_m3, kb_m2, kb_6, kb_7, kb_8, kb_9, kb_10, kb_12, kb_13, kb_16, kb_27, kb_31, kb_32, kb_43, kb_45, kb_48, kb_57, kb_60, kb_63, kb_81, kb_97, kb_99, kb_100, kb_120, kb_126, ks_m1000, ks_243, ks_255, ks_729, ks_1000, ks_2000, ks_2187, ks_6561, ks_9840, ks_9841, kl_0, kl_1, es, nI_add]
      refine ⟨fun b4 => ?_, fun b4 => ?_⟩
      · (try simp (disch := omega) only [nI_ltI, nI_leI, nI_eq, Nat.not_lt, Nat.not_le] at b4) <;> (exfalso; omega)
      · try simp (disch := omega) only [nI_ltI, nI_leI, nI_eq, Nat.not_lt, Nat.not_le] at b4
        refine hP 2 _ rfl _ _ _ _ _ _ ?_
        simp only [bX10_isLyndonRange_2, hrun, hx, hnth, hput, hok, hcat2, hldI, hldL, hldR, hpI, hpL, hpA, hpR, hp1, hpV, hrtI, hrtL, hrtR, hrtV, hpN, hck, hrI, hrB, hrL, hrA, hwI, hwA, hwB, hrN, hfk, hfs, hrF, hwF, hcl, hfty, tyX1, tyX3, tyX6, tyX9, tyX10, tyJ0, tyJ4, hfit, hcmp, hnar, hres, hst, hacp, kz, kof, kn0, kn1, Bool.not_true, Bool.not_false, true_and, and_true, Nat.zero_add, Nat.reduceAdd, List.length_cons, List.length_nil, true_or, or_true, false_or, or_false, decide_true, decide_false, ne_eq, not_true_eq_false, not_false_eq_true, ki_0, ki_1, ki_2, ki_3, ki_4, ki_5, kb_m100, kb_m10, kb_m9, kb_m8, kb_m7, kb_m6, kb_m5, kb_m4, kb_m3, kb_m2, kb_6, kb_7, kb_8, kb_9, kb_10, kb_12, kb_13, kb_16, kb_27, kb_31, kb_32, kb_43, kb_45, kb_48, kb_57, kb_60, kb_63, kb_81, kb_97, kb_99, kb_100, kb_120, kb_126, ks_m1000, ks_243, ks_255, ks_729, ks_1000, ks_2000, ks_2187, ks_6561, ks_9840, ks_9841, kl_0, kl_1, es, nI_add]
        refine c_compare hg (by omega) hr hr (by omega) (by omega) ?_
        simp only [hrun, hx, hnth, hput, hok, hcat2, hldI, hldL, hldR, hpI, hpL, hpA, hpR, hp1, hpV, hrtI, hrtL, hrtR, hrtV, hpN, hck, hrI, hrB, hrL, hrA, hwI, hwA, hwB, hrN, hfk, hfs, hrF, hwF, hcl, hfty, tyX1, tyX3, tyX6, tyX9, tyX10, tyJ0, tyJ4, hfit, hcmp, hnar, hres, hst, hacp, kz, kof, kn0, kn1, Bool.not_true, Bool.not_false, true_and, and_true, Nat.zero_add, Nat.reduceAdd, List.length_cons, List.length_nil, true_or, or_true, false_or, or_false, decide_true, decide_false, ne_eq, not_true_eq_false, not_false_eq_true, ki_0, ki_1, ki_2, ki_3, ki_4, ki_5, kb_m100, kb_m10, kb_m9, kb_m8, kb_m7, kb_m6, kb_m5, kb_m4, kb_m3, kb_m2, kb_6, kb_7, kb_8, kb_9, kb_10, kb_12, kb_13, kb_16, kb_27, kb_31, kb_32, kb_43, kb_45, kb_48, kb_57, kb_60, kb_63, kb_81, kb_97, kb_99, kb_100, kb_120, kb_126, ks_m1000, ks_243, ks_255, ks_729, ks_1000, ks_2000, ks_2187, ks_6561, ks_9840, ks_9841, kl_0, kl_1, es, nI_add]
        refine ⟨fun b20 => ?_, fun b20 => ?_⟩
        · skip
          refine hP 4 _ rfl _ _ _ _ _ _ ?_
          simp only [bX10_isLyndonRange_4, hrun, hx, hnth, hput, hok, hcat2, hldI, hldL, hldR, hpI, hpL, hpA, hpR, hp1, hpV, hrtI, hrtL, hrtR, hrtV, hpN, hck, hrI, hrB, hrL, hrA, hwI, hwA, hwB, hrN, hfk, hfs, hrF, hwF, hcl, hfty, tyX1, tyX3, tyX6, tyX9, tyX10, tyJ0, tyJ4, hfit, hcmp, hnar, hres, hst, hacp, kz, kof, kn0, kn1, Bool.not_true, Bool.not_false, true_and, and_true, Nat.zero_add, Nat.reduceAdd, List.length_cons, List.length_nil, true_or, or_true, false_or, or_false, decide_true, decide_false, ne_eq, not_true_eq_false, not_false_eq_true, ki_0, ki_1, ki_2, ki_3, ki_4, ki_5, kb_m100, kb_m10, kb_m9, kb_m8, kb_m7, kb_m6, kb_m5, kb_m4, kb_m3, kb_m2, kb_6, kb_7, kb_8, kb_9, kb_10, kb_12, kb_13, kb_16, kb_27, kb_31, kb_32, kb_43, kb_45, kb_48, kb_57, kb_60, kb_63, kb_81, kb_97, kb_99, kb_100, kb_120, kb_126, ks_m1000, ks_243, ks_255, ks_729, ks_1000, ks_2000, ks_2187, ks_6561, ks_9840, ks_9841, kl_0, kl_1, es, nI_add]
          try rw [nI_add]
          refine ih (k + 1) (by omega) (by omega) (by omega) (fun j h1 h2 h4 => ?_)
          by_cases z : j = k
          · rw [z]; exact hl9.mp b20
          · exact hj j (by omega) h2 h4
        · skip
          refine hP 3 _ rfl _ _ _ _ _ _ ?_
          simp only [bX10_isLyndonRange_3, hrun, hx, hnth, hput, hok, hcat2, hldI, hldL, hldR, hpI, hpL, hpA, hpR, hp1, hpV, hrtI, hrtL, hrtR, hrtV, hpN, hck, hrI, hrB, hrL, hrA, hwI, hwA, hwB, hrN, hfk, hfs, hrF, hwF, hcl, hfty, tyX1, tyX3, tyX6, tyX9, tyX10, tyJ0, tyJ4, hfit, hcmp, hnar, hres, hst, hacp, kz, kof, kn0, kn1, Bool.not_true, Bool.not_false, true_and, and_true, Nat.zero_add, Nat.reduceAdd, List.length_cons, List.length_nil, true_or, or_true, false_or, or_false, decide_true, decide_false, ne_eq, not_true_eq_false, not_false_eq_true, ki_0, ki_1, ki_2, ki_3, ki_4, ki_5, kb_m100, kb_m10, kb_m9, kb_m8, kb_m7, kb_m6, kb_m5, kb_m4, kb_m3, kb_m2, kb_6, kb_7, kb_8, kb_9, kb_10, kb_12, kb_13, kb_16, kb_27, kb_31, kb_32, kb_43, kb_45, kb_48, kb_57, kb_60, kb_63, kb_81, kb_97, kb_99, kb_100, kb_120, kb_126, ks_m1000, ks_243, ks_255, ks_729, ks_1000, ks_2000, ks_2187, ks_6561, ks_9840, ks_9841, kl_0, kl_1, es, nI_add]
          have eo : mlr u a n = false := decide_eq_false (fun q => b20 (hl9.mpr (q.2 k (by omega) hk)))
          rw [eo] at h
          exact h
  refine hP 0 _ rfl _ _ _ _ _ _ ?_
  simp only [bX10_isLyndonRange_0, hrun, hx, hnth, hput, hok, hcat2, hldI, hldL, hldR, hpI, hpL, hpA, hpR, hp1, hpV, hrtI, hrtL, hrtR, hrtV, hpN, hck, hrI, hrB, hrL, hrA, hwI, hwA, hwB, hrN, hfk, hfs, hrF, hwF, hcl, hfty, tyX1, tyX3, tyX6, tyX9, tyX10, tyJ0, tyJ4, hfit, hcmp, hnar, hres, hst, hacp, kz, kof, kn0, kn1, Bool.not_true, Bool.not_false, true_and, and_true, Nat.zero_add, Nat.reduceAdd, List.length_cons, List.length_nil, true_or, or_true, false_or, or_false, decide_true, decide_false, ne_eq, not_true_eq_false, not_false_eq_true, ki_0, ki_1, ki_2, ki_3, ki_4, ki_5, kb_m100, kb_m10, kb_m9, kb_m8, kb_m7, kb_m6, kb_m5, kb_m4, kb_m3, kb_m2, kb_6, kb_7, kb_8, kb_9, kb_10, kb_12, kb_13, kb_16, kb_27, kb_31, kb_32, kb_43, kb_45, kb_48, kb_57, kb_60, kb_63, kb_81, kb_97, kb_99, kb_100, kb_120, kb_126, ks_m1000, ks_243, ks_255, ks_729, ks_1000, ks_2000, ks_2187, ks_6561, ks_9840, ks_9841, kl_0, kl_1]
  exact loop _ 1 rfl (by omega) (by omega) (fun j h1 h2 h4 => by omega)
set_option maxRecDepth 100000 in
set_option maxHeartbeats 4000000 in
theorem c_facLen (hg : hgo g) (hd : 3 ≤ d) {x : Nat} {u : Nat → Nat} (hr : hrow w x u) {a b : Nat} (hab : a < b) (hb : b ≤ 8)  (h : Q (some (.int (nI (mfl u a (b - a))))) N c s w) : Γ g d yX10_factorLength [.ref x, .int (nI a), .int (nI b)] N c s w Q := by
  refine Γ.intro0 hg kX10_factorLength (by omega) (Nat.le_of_ble_eq_true rfl) (fun P hP => ?_)
  show P N 0 0 w 0 [some (.ref x), some (.int (nI a)), some (.int (nI b)), none] []
  have loop : ∀ (n : Nat), 1 ≤ n → a + n ≤ 8 → mfl u a (b - a) = mfl u a n → P N 0 0 w 4 [some (.ref x), some (.int (nI a)), some (.int (nI b)), some (.int (nI n))] [] := by
    intro n
    induction n with
    | zero => intro h1; omega
    | succ n ih =>
      intro h1 h2 hE
      rw [mfl] at hE
      by_cases hl : mlr u a (n + 1) = true
      · have e5 : mbI (mlr u a (n + 1)) = nI 1 := by rw [hl]; rfl
        rw [if_pos hl] at hE
        rw [hE] at h
        refine hP 1 _ rfl _ _ _ _ _ _ ?_
        simp only [bX10_factorLength_1, hrun, hx, hnth, hput, hok, hcat2, hldI, hldL, hldR, hpI, hpL, hpA, hpR, hp1, hpV, hrtI, hrtL, hrtR, hrtV, hpN, hck, hrI, hrB, hrL, hrA, hwI, hwA, hwB, hrN, hfk, hfs, hrF, hwF, hcl, hfty, tyX1, tyX3, tyX6, tyX9, tyX10, tyJ0, tyJ4, hfit, hcmp, hnar, hres, hst, hacp, kz, kof, kn0, kn1, Bool.not_true, Bool.not_false, true_and, and_true, Nat.zero_add, Nat.reduceAdd, List.length_cons, List.length_nil, true_or, or_true, false_or, or_false, decide_true, decide_false, ne_eq, not_true_eq_false, not_false_eq_true, ki_0, ki_1, ki_2, ki_3, ki_4, ki_5, kb_m100, kb_m10, kb_m9, kb_m8, kb_m7, kb_m6, kb_m5, kb_m4, kb_m3, kb_m2, kb_6, kb_7, kb_8, kb_9, kb_10, kb_12, kb_13, kb_16, kb_27, kb_31, kb_32, kb_43, kb_45, kb_48, kb_57, kb_60, kb_63, kb_81, kb_97, kb_99, kb_100, kb_120, kb_126, ks_m1000, ks_243, ks_255, ks_729, ks_1000, ks_2000, ks_2187, ks_6561, ks_9840, ks_9841, kl_0, kl_1, e5]
        refine c_lynR hg (by omega) hr h2 ?_
        simp only [hrun, hx, hnth, hput, hok, hcat2, hldI, hldL, hldR, hpI, hpL, hpA, hpR, hp1, hpV, hrtI, hrtL, hrtR, hrtV, hpN, hck, hrI, hrB, hrL, hrA, hwI, hwA, hwB, hrN, hfk, hfs, hrF, hwF, hcl, hfty, tyX1, tyX3, tyX6, tyX9, tyX10, tyJ0, tyJ4, hfit, hcmp, hnar, hres, hst, hacp, kz, kof, kn0, kn1, Bool.not_true, Bool.not_false, true_and, and_true, Nat.zero_add, Nat.reduceAdd, List.length_cons, List.length_nil, true_or, or_true, false_or, or_false, decide_true, decide_false, ne_eq, not_true_eq_false, not_false_eq_true, ki_0, ki_1, ki_2, ki_3, ki_4, ki_5, kb_m100, kb_m10, kb_m9, kb_m8, kb_m7, kb_m6, kb_m5, kb_m4, kb_m3, kb_m2, kb_6, kb_7, kb_8, kb_9, kb_10, kb_12, kb_13, kb_16, kb_27, kb_31, kb_32, kb_43, kb_45, kb_48, kb_57, kb_60, kb_63, kb_81, kb_97, kb_99, kb_100, kb_120, kb_126, ks_m1000, ks_243, ks_255, ks_729, ks_1000, ks_2000, ks_2187, ks_6561, ks_9840, ks_9841, kl_0, kl_1, e5]
        refine ⟨fun b10 => ?_, fun b10 => ?_⟩
        · try simp (disch := omega) only [nI_ltI, nI_leI, nI_eq, Nat.not_lt, Nat.not_le] at b10
          refine hP 3 _ rfl _ _ _ _ _ _ ?_
          simp only [bX10_factorLength_3, hrun, hx, hnth, hput, hok, hcat2, hldI, hldL, hldR, hpI, hpL, hpA, hpR, hp1, hpV, hrtI, hrtL, hrtR, hrtV, hpN, hck, hrI, hrB, hrL, hrA, hwI, hwA, hwB, hrN, hfk, hfs, hrF, hwF, hcl, hfty, tyX1, tyX3, tyX6, tyX9, tyX10, tyJ0, tyJ4, hfit, hcmp, hnar, hres, hst, hacp, kz, kof, kn0, kn1, Bool.not_true, Bool.not_false, true_and, and_true, Nat.zero_add, Nat.reduceAdd, List.length_cons, List.length_nil, true_or, or_true, false_or, or_false, decide_true, decide_false, ne_eq, not_true_eq_false, not_false_eq_true, ki_0, ki_1, ki_2, ki_3, ki_4, ki_5, kb_m100, kb_m10, kb_m9, kb_m8, kb_m7, kb_m6, kb_m5, kb_m4, kb_m3, kb_m2, kb_6, kb_7, kb_8, kb_9, kb_10, kb_12, kb_13, kb_16, kb_27, kb_31, kb_32, kb_43, kb_45, kb_48, kb_57, kb_60, kb_63, kb_81, kb_97, kb_99, kb_100, kb_120, kb_126, ks_m1000, ks_243, ks_255, ks_729, ks_1000, ks_2000, ks_2187, ks_6561, ks_9840, ks_9841, kl_0, kl_1, e5]
          exact h
        · (try simp (disch := omega) only [nI_ltI, nI_leI, nI_eq, Nat.not_lt, Nat.not_le] at b10) <;> (exfalso; omega)
      · have e5 : mbI (mlr u a (n + 1)) = nI 0 := by rw [Bool.not_eq_true] at hl; rw [hl]; rfl
        rw [if_neg hl] at hE
        have hn1 : 1 ≤ n := by
          refine Nat.pos_of_ne_zero (fun q => hl ?_)
          rw [q]; exact mlr_1 u a
        refine hP 1 _ rfl _ _ _ _ _ _ ?_
        simp only [bX10_factorLength_1, hrun, hx, hnth, hput, hok, hcat2, hldI, hldL, hldR, hpI, hpL, hpA, hpR, hp1, hpV, hrtI, hrtL, hrtR, hrtV, hpN, hck, hrI, hrB, hrL, hrA, hwI, hwA, hwB, hrN, hfk, hfs, hrF, hwF, hcl, hfty, tyX1, tyX3, tyX6, tyX9, tyX10, tyJ0, tyJ4, hfit, hcmp, hnar, hres, hst, hacp, kz, kof, kn0, kn1, Bool.not_true, Bool.not_false, true_and, and_true, Nat.zero_add, Nat.reduceAdd, List.length_cons, List.length_nil, true_or, or_true, false_or, or_false, decide_true, decide_false, ne_eq, not_true_eq_false, not_false_eq_true, ki_0, ki_1, ki_2, ki_3, ki_4, ki_5, kb_m100, kb_m10, kb_m9, kb_m8, kb_m7, kb_m6, kb_m5, kb_m4, kb_m3, kb_m2, kb_6, kb_7, kb_8, kb_9, kb_10, kb_12, kb_13, kb_16, kb_27, kb_31, kb_32, kb_43, kb_45, kb_48, kb_57, kb_60, kb_63, kb_81, kb_97, kb_99, kb_100, kb_120, kb_126, ks_m1000, ks_243, ks_255, ks_729, ks_1000, ks_2000, ks_2187, ks_6561, ks_9840, ks_9841, kl_0, kl_1, e5]
        refine c_lynR hg (by omega) hr h2 ?_
        simp only [hrun, hx, hnth, hput, hok, hcat2, hldI, hldL, hldR, hpI, hpL, hpA, hpR, hp1, hpV, hrtI, hrtL, hrtR, hrtV, hpN, hck, hrI, hrB, hrL, hrA, hwI, hwA, hwB, hrN, hfk, hfs, hrF, hwF, hcl, hfty, tyX1, tyX3, tyX6, tyX9, tyX10, tyJ0, tyJ4, hfit, hcmp, hnar, hres, hst, hacp, kz, kof, kn0, kn1, Bool.not_true, Bool.not_false, true_and, and_true, Nat.zero_add, Nat.reduceAdd, List.length_cons, List.length_nil, true_or, or_true, false_or, or_false, decide_true, decide_false, ne_eq, not_true_eq_false, not_false_eq_true, ki_0, ki_1, ki_2, ki_3, ki_4, ki_5, kb_m100, kb_m10, kb_m9, kb_m8, kb_m7, kb_m6, kb_m5, kb_m4, kb_m3, kb_m2, kb_6, kb_7, kb_8, kb_9, kb_10, kb_12, kb_13, kb_16, kb_27, kb_31, kb_32, kb_43, kb_45, kb_48, kb_57, kb_60, kb_63, kb_81, kb_97, kb_99, kb_100, kb_120, kb_126, ks_m1000, ks_243, ks_255, ks_729, ks_1000, ks_2000, ks_2187, ks_6561, ks_9840, ks_9841, kl_0, kl_1, e5]
        refine ⟨fun b10 => ?_, fun b10 => ?_⟩
        · (try simp (disch := omega) only [nI_ltI, nI_leI, nI_eq, Nat.not_lt, Nat.not_le] at b10) <;> (exfalso; omega)
        · try simp (disch := omega) only [nI_ltI, nI_leI, nI_eq, Nat.not_lt, Nat.not_le] at b10
          refine hP 2 _ rfl _ _ _ _ _ _ ?_
          simp only [bX10_factorLength_2, hrun, hx, hnth, hput, hok, hcat2, hldI, hldL, hldR, hpI, hpL, hpA, hpR, hp1, hpV, hrtI, hrtL, hrtR, hrtV, hpN, hck, hrI, hrB, hrL, hrA, hwI, hwA, hwB, hrN, hfk, hfs, hrF, hwF, hcl, hfty, tyX1, tyX3, tyX6, tyX9, tyX10, tyJ0, tyJ4, hfit, hcmp, hnar, hres, hst, hacp, kz, kof, kn0, kn1, Bool.not_true, Bool.not_false, true_and, and_true, Nat.zero_add, Nat.reduceAdd, List.length_cons, List.length_nil, true_or, or_true, false_or, or_false, decide_true, decide_false, ne_eq, not_true_eq_false, not_false_eq_true, ki_0, ki_1, ki_2, ki_3, ki_4, ki_5, kb_m100, kb_m10, kb_m9, kb_m8, kb_m7, kb_m6, kb_m5, kb_m4, kb_m3, kb_m2, kb_6, kb_7, kb_8, kb_9, kb_10, kb_12, kb_13, kb_16, kb_27, kb_31, kb_32, kb_43, kb_45, kb_48, kb_57, kb_60, kb_63, kb_81, kb_97, kb_99, kb_100, kb_120, kb_126, ks_m1000, ks_243, ks_255, ks_729, ks_1000, ks_2000, ks_2187, ks_6561, ks_9840, ks_9841, kl_0, kl_1, e5]
          rw [nI_dec]
          exact ih hn1 (by omega) hE
  refine hP 0 _ rfl _ _ _ _ _ _ ?_
  simp only [bX10_factorLength_0, hrun, hx, hnth, hput, hok, hcat2, hldI, hldL, hldR, hpI, hpL, hpA, hpR, hp1, hpV, hrtI, hrtL, hrtR, hrtV, hpN, hck, hrI, hrB, hrL, hrA, hwI, hwA, hwB, hrN, hfk, hfs, hrF, hwF, hcl, hfty, tyX1, tyX3, tyX6, tyX9, tyX10, tyJ0, tyJ4, hfit, hcmp, hnar, hres, hst, hacp, kz, kof, kn0, kn1, Bool.not_true, Bool.not_false, true_and, and_true, Nat.zero_add, Nat.reduceAdd, List.length_cons, List.length_nil, true_or, or_true, false_or, or_false, decide_true, decide_false, ne_eq, not_true_eq_false, not_false_eq_true, ki_0, ki_1, ki_2, ki_3, ki_4, ki_5, kb_m100, kb_m10, kb_m9, kb_m8, kb_m7, kb_m6, kb_m5, kb_m4, kb_m3, kb_m2, kb_6, kb_7, kb_8, kb_9, kb_10, kb_12, kb_13, kb_16, kb_27, kb_31, kb_32, kb_43, kb_45, kb_48, kb_57, kb_60, kb_63, kb_81, kb_97, kb_99, kb_100, kb_120, kb_126, ks_m1000, ks_243, ks_255, ks_729, ks_1000, ks_2000, ks_2187, ks_6561, ks_9840, ks_9841, kl_0, kl_1]
  rw [pk_sub (by omega)]
  exact loop _ (by omega) (by omega) rfl
end M4
