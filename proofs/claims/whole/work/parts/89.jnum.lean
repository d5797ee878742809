/-! the library's numbers as text -/
section WJ6
variable {g : hG} {d N c s : Nat} {w : hWd} {Q : hRt}
/-- the library's two rows of digits -/
def dTen (i : Nat) : Int32 := nI (48 + i / 10)
def dOne (i : Nat) : Int32 := nI (48 + i % 10)
def hDg (w : hWd) : Prop := w 1000003 = .inl (12, 100, .inl dTen) ∧ w 1000004 = .inl (12, 100, .inl dOne)
theorem ndg_eq {n j : Nat} (h1 : 1 ≤ j) (h7 : j ≤ 7) (h2 : j = 1 ∨ 10 ^ (j - 1) ≤ n) (h3 : n < 10 ^ j) : ndg n + 1 = j := by
  have hj : j = 1 ∨ j = 2 ∨ j = 3 ∨ j = 4 ∨ j = 5 ∨ j = 6 ∨ j = 7 := by omega
  unfold ndg
  rcases hj with rfl | rfl | rfl | rfl | rfl | rfl | rfl <;> simp at h2 h3 <;> (repeat' split) <;> omega
theorem ndg_100 {x : Nat} (h : 100 ≤ x) (h7 : x < 10000000) : ndg x = ndg (x / 100) + 2 := by
  unfold ndg
  (repeat' split) <;> omega
theorem dfr_at (n : Nat) : ∀ (j i : Nat), i ≤ j → (dfr n j).getD i 0 = 48 + n / 10 ^ (j - i) % 10
  | 0, i, h => by
    rw [show i = 0 by omega, dfr]
    show 48 + n % 10 = _
    rw [Nat.pow_zero, Nat.div_one]
  | j + 1, 0, _ => rfl
  | j + 1, i + 1, h => by
    rw [dfr]
    show (dfr n j).getD i 0 = _
    rw [dfr_at n j i (by omega), show j + 1 - (i + 1) = j - i by omega]
theorem mdg_at {n i : Nat} (h : i ≤ ndg n) : (mdg n).getD i 0 = 48 + n / 10 ^ (ndg n - i) % 10 := dfr_at n _ i h
theorem mdg_pre {x i : Nat} (h : 100 ≤ x) (h7 : x < 10000000) (hi : i ≤ ndg (x / 100)) : (mdg x).getD i 0 = (mdg (x / 100)).getD i 0 := by
  have e := ndg_100 h h7
  rw [mdg_at (by omega), mdg_at hi, Nat.div_div_eq_div_mul, e]
  rw [show (100 : Nat) = 10 ^ 2 by rfl, ← Nat.pow_add, show 2 + (ndg (x / 10 ^ 2) - i) = ndg (x / 10 ^ 2) + 2 - i by rw [show (10 ^ 2 : Nat) = 100 by rfl]; omega]
theorem mdg_last (x : Nat) : (mdg x).getD (ndg x) 0 = 48 + x % 10 := by
  rw [mdg_at (Nat.le_refl _), Nat.sub_self, Nat.pow_zero, Nat.div_one]
theorem mdg_last2 {x k : Nat} (h : ndg x = k + 1) : (mdg x).getD k 0 = 48 + x / 10 % 10 := by
  rw [mdg_at (by omega), show ndg x - k = 1 by omega, Nat.pow_one]
theorem mdg_lt {x i : Nat} (h : i ≤ ndg x) : (mdg x).getD i 0 < 128 := by
  rw [mdg_at h]
  have := Nat.mod_lt (x / 10 ^ (ndg x - i)) (by decide : 0 < 10)
  omega
set_option maxRecDepth 100000 in
set_option maxHeartbeats 4000000 in
theorem c_strSize (hg : hgo g) (hd : 1 ≤ d) {n : Nat} (hn : n ≤ 1000000)  (h : Q (some (.int (nI (ndg n + 1)))) N c s w) : Γ g d yJ6_stringSize_0f7a4 [.int (nI n)] N c s w Q := by
  refine Γ.intro0 hg kJ6_stringSize_0f7a4 (by omega) (Nat.le_of_ble_eq_true rfl) (fun P hP => ?_)
  show P N 0 0 w 0 [some (.int (nI n)), none, none, none] []
  have loop : ∀ (r j : Nat), j + r = 7 → 1 ≤ j → (j = 1 ∨ 10 ^ (j - 1) ≤ n) → P N 0 0 w 16 [some (.int (-nI n)), some (.int (nI 0)), some (.int (-nI (10 ^ j))), some (.int (nI j))] [] := by
    intro r
    induction r with
    | zero =>
      intro j hj h1 h2
      have e7 : j = 7 := by omega
      subst e7
      have h3 := ndg_eq (n := n) (j := 7) (by decide) (by decide) h2 (Nat.lt_of_le_of_lt hn (by decide))
      refine hP 3 _ rfl _ _ _ _ _ _ ?_
      simp only [bJ6_stringSize_0f7a4_3, hrun, hx, hnth, hput, hok, hcat2, hldI, hldL, hldR, hpI, hpL, hpA, hpR, hp1, hpV, hrtI, hrtL, hrtR, hrtV, hpN, hck, hrI, hrB, hrL, hrA, hwI, hwA, hwB, hrN, hfk, hfs, hrF, hwF, hcl, hfty, tyX1, tyX3, tyX6, tyX9, tyX10, tyJ0, tyJ4, hfit, hcmp, hnar, hres, hst, hacp, kz, kof, kn0, kn1, Bool.not_true, Bool.not_false, true_and, and_true, Nat.zero_add, Nat.reduceAdd, List.length_cons, List.length_nil, true_or, or_true, false_or, or_false, decide_true, decide_false, ne_eq, not_true_eq_false, not_false_eq_true, ki_0, ki_1, ki_2, ki_3, ki_4, ki_5, kb_m100, kb_m10, kb_m9, kb_m8, kb_m7, kb_m6, kb_m5, kb_m4, kb_m3, kb_m2, kb_6, kb_7, kb_8, kb_9, kb_10, kb_12, kb_13, kb_16, kb_27, kb_31, kb_32, kb_43, kb_45, kb_48, kb_57, kb_60, kb_63, kb_81, kb_97, kb_99, kb_100, kb_120, kb_126, ks_m1000, ks_243, ks_255, ks_729, ks_1000, ks_2000, ks_2187, ks_6561, ks_9840, ks_9841, kl_0, kl_1, nI_add, kN10, Nat.add_zero]
      refine ⟨fun b19 => ?_, fun b19 => ?_⟩
      · (try simp (disch := omega) only [nI_ltI, nI_leI, nI_eq, Nat.not_lt, Nat.not_le, nN_le, nN_lt] at b19) <;> (exfalso; omega)
      · try simp (disch := omega) only [nI_ltI, nI_leI, nI_eq, Nat.not_lt, Nat.not_le, nN_le, nN_lt] at b19
        refine hP 4 _ rfl _ _ _ _ _ _ ?_
        simp only [bJ6_stringSize_0f7a4_4, hrun, hx, hnth, hput, hok, hcat2, hldI, hldL, hldR, hpI, hpL, hpA, hpR, hp1, hpV, hrtI, hrtL, hrtR, hrtV, hpN, hck, hrI, hrB, hrL, hrA, hwI, hwA, hwB, hrN, hfk, hfs, hrF, hwF, hcl, hfty, tyX1, tyX3, tyX6, tyX9, tyX10, tyJ0, tyJ4, hfit, hcmp, hnar, hres, hst, hacp, kz, kof, kn0, kn1, Bool.not_true, Bool.not_false, true_and, and_true, Nat.zero_add, Nat.reduceAdd, List.length_cons, List.length_nil, true_or, or_true, false_or, or_false, decide_true, decide_false, ne_eq, not_true_eq_false, not_false_eq_true, ki_0, ki_1, ki_2, ki_3, ki_4, ki_5, kb_m100, kb_m10, kb_m9, kb_m8, kb_m7, kb_m6, kb_m5, kb_m4, kb_m3, kb_m2, kb_6, kb_7, kb_8, kb_9, kb_10, kb_12, kb_13, kb_16, kb_27, kb_31, kb_32, kb_43, kb_45, kb_48, kb_57, kb_60, kb_63, kb_81, kb_97, kb_99, kb_100, kb_120, kb_126, ks_m1000, ks_243, ks_255, ks_729, ks_1000, ks_2000, ks_2187, ks_6561, ks_9840, ks_9841, kl_0, kl_1, nI_add, kN10, Nat.add_zero]
        refine ⟨fun b24 => ?_, fun b24 => ?_⟩
        · try simp (disch := omega) only [nI_ltI, nI_leI, nI_eq, Nat.not_lt, Nat.not_le, nN_le, nN_lt] at b24
          exfalso
          have : (10 : Nat) ^ 7 = 10000000 := by decide
          omega
        · try simp (disch := omega) only [nI_ltI, nI_leI, nI_eq, Nat.not_lt, Nat.not_le, nN_le, nN_lt] at b24
          refine hP 5 _ rfl _ _ _ _ _ _ ?_
          simp only [bJ6_stringSize_0f7a4_5, hrun, hx, hnth, hput, hok, hcat2, hldI, hldL, hldR, hpI, hpL, hpA, hpR, hp1, hpV, hrtI, hrtL, hrtR, hrtV, hpN, hck, hrI, hrB, hrL, hrA, hwI, hwA, hwB, hrN, hfk, hfs, hrF, hwF, hcl, hfty, tyX1, tyX3, tyX6, tyX9, tyX10, tyJ0, tyJ4, hfit, hcmp, hnar, hres, hst, hacp, kz, kof, kn0, kn1, Bool.not_true, Bool.not_false, true_and, and_true, Nat.zero_add, Nat.reduceAdd, List.length_cons, List.length_nil, true_or, or_true, false_or, or_false, decide_true, decide_false, ne_eq, not_true_eq_false, not_false_eq_true, ki_0, ki_1, ki_2, ki_3, ki_4, ki_5, kb_m100, kb_m10, kb_m9, kb_m8, kb_m7, kb_m6, kb_m5, kb_m4, kb_m3, kb_m2, kb_6, kb_7, kb_8, kb_9, kb_10, kb_12, kb_13, kb_16, kb_27, kb_31, kb_32, kb_43, kb_45, kb_48, kb_57, kb_60, kb_63, kb_81, kb_97, kb_99, kb_100, kb_120, kb_126, ks_m1000, ks_243, ks_255, ks_729, ks_1000, ks_2000, ks_2187, ks_6561, ks_9840, ks_9841, kl_0, kl_1, nI_add, kN10, Nat.add_zero]
          rw [h3] at h
          exact h
    | succ r ih =>
      intro j hj h1 h2
      have hp : 10 ^ j < 2 ^ 30 := Nat.lt_of_le_of_lt (Nat.pow_le_pow_right (by decide) (show j ≤ 8 by omega)) (by decide)
      refine hP 3 _ rfl _ _ _ _ _ _ ?_
      simp only [bJ6_stringSize_0f7a4_3, hrun, hx, hnth, hput, hok, hcat2, hldI, hldL, hldR, hpI, hpL, hpA, hpR, hp1, hpV, hrtI, hrtL, hrtR, hrtV, hpN, hck, hrI, hrB, hrL, hrA, hwI, hwA, hwB, hrN, hfk, hfs, hrF, hwF, hcl, hfty, tyX1, tyX3, tyX6, tyX9, tyX10, tyJ0, tyJ4, hfit, hcmp, hnar, hres, hst, hacp, kz, kof, kn0, kn1, Bool.not_true, Bool.not_false, true_and, and_true, Nat.zero_add, Nat.reduceAdd, List.length_cons, List.length_nil, true_or, or_true, false_or, or_false, decide_true, decide_false, ne_eq, not_true_eq_false, not_false_eq_true, ki_0, ki_1, ki_2, ki_3, ki_4, ki_5, kb_m100, kb_m10, kb_m9, kb_m8, kb_m7, kb_m6, kb_m5, kb_m4, kb_m3, kb_m2, kb_6, kb_7, kb_8, kb_9, kb_10, kb_12, kb_13, kb_16, kb_27, kb_31, kb_32, kb_43, kb_45, kb_48, kb_57, kb_60, kb_63, kb_81, kb_97, kb_99, kb_100, kb_120, kb_126, ks_m1000, ks_243, ks_255, ks_729, ks_1000, ks_2000, ks_2187, ks_6561, ks_9840, ks_9841, kl_0, kl_1, nI_add, kN10, Nat.add_zero]
      refine ⟨fun b19 => ?_, fun b19 => ?_⟩
      · (try simp (disch := omega) only [nI_ltI, nI_leI, nI_eq, Nat.not_lt, Nat.not_le, nN_le, nN_lt] at b19) <;> (exfalso; omega)
      · try simp (disch := omega) only [nI_ltI, nI_leI, nI_eq, Nat.not_lt, Nat.not_le, nN_le, nN_lt] at b19
        refine hP 4 _ rfl _ _ _ _ _ _ ?_
        simp only [bJ6_stringSize_0f7a4_4, hrun, hx, hnth, hput, hok, hcat2, hldI, hldL, hldR, hpI, hpL, hpA, hpR, hp1, hpV, hrtI, hrtL, hrtR, hrtV, hpN, hck, hrI, hrB, hrL, hrA, hwI, hwA, hwB, hrN, hfk, hfs, hrF, hwF, hcl, hfty, tyX1, tyX3, tyX6, tyX9, tyX10, tyJ0, tyJ4, hfit, hcmp, hnar, hres, hst, hacp, kz, kof, kn0, kn1, Bool.not_true, Bool.not_false, true_and, and_true, Nat.zero_add, Nat.reduceAdd, List.length_cons, List.length_nil, true_or, or_true, false_or, or_false, decide_true, decide_false, ne_eq, not_true_eq_false, not_false_eq_true, ki_0, ki_1, ki_2, ki_3, ki_4, ki_5, kb_m100, kb_m10, kb_m9, kb_m8, kb_m7, kb_m6, kb_m5, kb_m4, kb_m3, kb_m2, kb_6, kb_7, kb_8, kb_9, kb_10, kb_12, kb_13, kb_16, kb_27, kb_31, kb_32, kb_43, kb_45, kb_48, kb_57, kb_60, kb_63, kb_81, kb_97, kb_99, kb_100, kb_120, kb_126, ks_m1000, ks_243, ks_255, ks_729, ks_1000, ks_2000, ks_2187, ks_6561, ks_9840, ks_9841, kl_0, kl_1, nI_add, kN10, Nat.add_zero]
        refine ⟨fun b24 => ?_, fun b24 => ?_⟩
        · try simp (disch := omega) only [nI_ltI, nI_leI, nI_eq, Nat.not_lt, Nat.not_le, nN_le, nN_lt] at b24
          refine hP 6 _ rfl _ _ _ _ _ _ ?_
          simp only [bJ6_stringSize_0f7a4_6, hrun, hx, hnth, hput, hok, hcat2, hldI, hldL, hldR, hpI, hpL, hpA, hpR, hp1, hpV, hrtI, hrtL, hrtR, hrtV, hpN, hck, hrI, hrB, hrL, hrA, hwI, hwA, hwB, hrN, hfk, hfs, hrF, hwF, hcl, hfty, tyX1, tyX3, tyX6, tyX9, tyX10, tyJ0, tyJ4, hfit, hcmp, hnar, hres, hst, hacp, kz, kof, kn0, kn1, Bool.not_true, Bool.not_false, true_and, and_true, Nat.zero_add, Nat.reduceAdd, List.length_cons, List.length_nil, true_or, or_true, false_or, or_false, decide_true, decide_false, ne_eq, not_true_eq_false, not_false_eq_true, ki_0, ki_1, ki_2, ki_3, ki_4, ki_5, kb_m100, kb_m10, kb_m9, kb_m8, kb_m7, kb_m6, kb_m5, kb_m4, kb_m3, kb_m2, kb_6, kb_7, kb_8, kb_9, kb_10, kb_12, kb_13, kb_16, kb_27, kb_31, kb_32, kb_43, kb_45, kb_48, kb_57, kb_60, kb_63, kb_81, kb_97, kb_99, kb_100, kb_120, kb_126, ks_m1000, ks_243, ks_255, ks_729, ks_1000, ks_2000, ks_2187, ks_6561, ks_9840, ks_9841, kl_0, kl_1, nI_add, kN10, Nat.add_zero]
          have e9 : nI 10 * -nI (10 ^ j) = -nI (10 ^ (j + 1)) := by
            rw [Int32.mul_comm, Int32.neg_mul, pk_mul, Nat.pow_succ]
          rw [e9]
          exact ih (j + 1) (by omega) (by omega) (Or.inr b24)
        · try simp (disch := omega) only [nI_ltI, nI_leI, nI_eq, Nat.not_lt, Nat.not_le, nN_le, nN_lt] at b24
          refine hP 5 _ rfl _ _ _ _ _ _ ?_
          simp only [bJ6_stringSize_0f7a4_5, hrun, hx, hnth, hput, hok, hcat2, hldI, hldL, hldR, hpI, hpL, hpA, hpR, hp1, hpV, hrtI, hrtL, hrtR, hrtV, hpN, hck, hrI, hrB, hrL, hrA, hwI, hwA, hwB, hrN, hfk, hfs, hrF, hwF, hcl, hfty, tyX1, tyX3, tyX6, tyX9, tyX10, tyJ0, tyJ4, hfit, hcmp, hnar, hres, hst, hacp, kz, kof, kn0, kn1, Bool.not_true, Bool.not_false, true_and, and_true, Nat.zero_add, Nat.reduceAdd, List.length_cons, List.length_nil, true_or, or_true, false_or, or_false, decide_true, decide_false, ne_eq, not_true_eq_false, not_false_eq_true, ki_0, ki_1, ki_2, ki_3, ki_4, ki_5, kb_m100, kb_m10, kb_m9, kb_m8, kb_m7, kb_m6, kb_m5, kb_m4, kb_m3, kb_m2, kb_6, kb_7, kb_8, kb_9, kb_10, kb_12, kb_13, kb_16, kb_27, kb_31, kb_32, kb_43, kb_45, kb_48, kb_57, kb_60, kb_63, kb_81, kb_97, kb_99, kb_100, kb_120, kb_126, ks_m1000, ks_243, ks_255, ks_729, ks_1000, ks_2000, ks_2187, ks_6561, ks_9840, ks_9841, kl_0, kl_1, nI_add, kN10, Nat.add_zero]
          have h3 := ndg_eq (n := n) (j := j) h1 (by omega) h2 b24
          rw [h3] at h
          exact h
  refine hP 0 _ rfl _ _ _ _ _ _ ?_
  simp only [bJ6_stringSize_0f7a4_0, hrun, hx, hnth, hput, hok, hcat2, hldI, hldL, hldR, hpI, hpL, hpA, hpR, hp1, hpV, hrtI, hrtL, hrtR, hrtV, hpN, hck, hrI, hrB, hrL, hrA, hwI, hwA, hwB, hrN, hfk, hfs, hrF, hwF, hcl, hfty, tyX1, tyX3, tyX6, tyX9, tyX10, tyJ0, tyJ4, hfit, hcmp, hnar, hres, hst, hacp, kz, kof, kn0, kn1, Bool.not_true, Bool.not_false, true_and, and_true, Nat.zero_add, Nat.reduceAdd, List.length_cons, List.length_nil, true_or, or_true, false_or, or_false, decide_true, decide_false, ne_eq, not_true_eq_false, not_false_eq_true, ki_0, ki_1, ki_2, ki_3, ki_4, ki_5, kb_m100, kb_m10, kb_m9, kb_m8, kb_m7, kb_m6, kb_m5, kb_m4, kb_m3, kb_m2, kb_6, kb_7, kb_8, kb_9, kb_10, kb_12, kb_13, kb_16, kb_27, kb_31, kb_32, kb_43, kb_45, kb_48, kb_57, kb_60, kb_63, kb_81, kb_97, kb_99, kb_100, kb_120, kb_126, ks_m1000, ks_243, ks_255, ks_729, ks_1000, ks_2000, ks_2187, ks_6561, ks_9840, ks_9841, kl_0, kl_1, kN10]
  refine ⟨fun b3 => ?_, fun b3 => ?_⟩
  · (try simp (disch := omega) only [nI_ltI, nI_leI, nI_eq, Nat.not_lt, Nat.not_le] at b3) <;> (exfalso; omega)
  · try simp (disch := omega) only [nI_ltI, nI_leI, nI_eq, Nat.not_lt, Nat.not_le] at b3
    refine hP 1 _ rfl _ _ _ _ _ _ ?_
    simp only [bJ6_stringSize_0f7a4_1, hrun, hx, hnth, hput, hok, hcat2, hldI, hldL, hldR, hpI, hpL, hpA, hpR, hp1, hpV, hrtI, hrtL, hrtR, hrtV, hpN, hck, hrI, hrB, hrL, hrA, hwI, hwA, hwB, hrN, hfk, hfs, hrF, hwF, hcl, hfty, tyX1, tyX3, tyX6, tyX9, tyX10, tyJ0, tyJ4, hfit, hcmp, hnar, hres, hst, hacp, kz, kof, kn0, kn1, Bool.not_true, Bool.not_false, true_and, and_true, Nat.zero_add, Nat.reduceAdd, List.length_cons, List.length_nil, true_or, or_true, false_or, or_false, decide_true, decide_false, ne_eq, not_true_eq_false, not_false_eq_true, ki_0, ki_1, ki_2, ki_3, ki_4, ki_5, kb_m100, kb_m10, kb_m9, kb_m8, kb_m7, kb_m6, kb_m5, kb_m4, kb_m3, kb_m2, kb_6, kb_7, kb_8, kb_9, kb_10, kb_12, kb_13, kb_16, kb_27, kb_31, kb_32, kb_43, kb_45, kb_48, kb_57, kb_60, kb_63, kb_81, kb_97, kb_99, kb_100, kb_120, kb_126, ks_m1000, ks_243, ks_255, ks_729, ks_1000, ks_2000, ks_2187, ks_6561, ks_9840, ks_9841, kl_0, kl_1, kN10]
    refine hP 2 _ rfl _ _ _ _ _ _ ?_
    simp only [bJ6_stringSize_0f7a4_2, hrun, hx, hnth, hput, hok, hcat2, hldI, hldL, hldR, hpI, hpL, hpA, hpR, hp1, hpV, hrtI, hrtL, hrtR, hrtV, hpN, hck, hrI, hrB, hrL, hrA, hwI, hwA, hwB, hrN, hfk, hfs, hrF, hwF, hcl, hfty, tyX1, tyX3, tyX6, tyX9, tyX10, tyJ0, tyJ4, hfit, hcmp, hnar, hres, hst, hacp, kz, kof, kn0, kn1, Bool.not_true, Bool.not_false, true_and, and_true, Nat.zero_add, Nat.reduceAdd, List.length_cons, List.length_nil, true_or, or_true, false_or, or_false, decide_true, decide_false, ne_eq, not_true_eq_false, not_false_eq_true, ki_0, ki_1, ki_2, ki_3, ki_4, ki_5, kb_m100, kb_m10, kb_m9, kb_m8, kb_m7, kb_m6, kb_m5, kb_m4, kb_m3, kb_m2, kb_6, kb_7, kb_8, kb_9, kb_10, kb_12, kb_13, kb_16, kb_27, kb_31, kb_32, kb_43, kb_45, kb_48, kb_57, kb_60, kb_63, kb_81, kb_97, kb_99, kb_100, kb_120, kb_126, ks_m1000, ks_243, ks_255, ks_729, ks_1000, ks_2000, ks_2187, ks_6561, ks_9840, ks_9841, kl_0, kl_1, kN10]
    exact loop 6 1 rfl (by decide) (Or.inl rfl)
set_option maxRecDepth 100000 in
set_option maxHeartbeats 4000000 in
theorem c_getChars (hg : hgo g) (hd : 1 ≤ d) {v m n p : Nat} {F : Nat → Int32} (hDg9 : hDg w) (kv : w v = .inl (2, m, .inl F)) (hv9 : v < 1000000) (hn : n ≤ 1000000) (hp9 : p + (ndg n + 1) ≤ m) (hm : m ≤ 100000) (hfy : hBf m F) (h : ∀ w' F', w' v = .inl (2, m, .inl F') → mfr [v] w w' → (∀ j, j < p → F' j = F j) → (∀ i, i ≤ ndg n → F' (p + i) = nI ((mdg n).getD i 0)) → hBf m F' → Q (some (.int (nI p))) N c s w') : Γ g d yJ6_getChars_ba4f3 [.int (nI n), .int (nI (p + (ndg n + 1))), .ref v] N c s w Q := by
  refine Γ.intro0 hg kJ6_getChars_ba4f3 (by omega) (Nat.le_of_ble_eq_true rfl) (fun P hP => ?_)
  show P N 0 0 w 0 [some (.int (nI n)), some (.int (nI (p + (ndg n + 1)))), some (.ref v), none, none, none, none] []
  have loop : ∀ (r x : Nat) (w1 : hWd) (F1 : Nat → Int32) (a3 a4 : Option Value), x < 100 ^ (r + 1) → (a4 = none ∨ ∃ y4, a4 = some (.int y4)) → (w1 v = .inl (2, m, .inl F1)) → mfr [v] w w1 → x ≤ 1000000 → ndg x ≤ ndg n → (∀ i, i ≤ ndg x → (mdg n).getD i 0 = (mdg x).getD i 0) → (∀ j, j < p → F1 j = F j) → (∀ i, ndg x < i → i ≤ ndg n → F1 (p + i) = nI ((mdg n).getD i 0)) → hBf m F1 → P N 0 0 w1 22 [some (.int (-nI x)), some (.int (nI (p + (ndg n + 1)))), some (.ref v), a3, a4, some (.int (nI (p + ndg x + 1))), some (.int (nI 0))] [] := by
    intro r
    induction r with
    | zero =>
      intro x w1 F1 a3 a4 hr9 ha4 k1 hm1 hx6 hnx hpre hlo hhi hy1
      have q1 : x < 100 := hr9
      have o4 : w1 1000004 = .inl (12, 100, .inl dOne) := (hm1 _ (by simp; omega)).trans hDg9.2
      have o3 : w1 1000003 = .inl (12, 100, .inl dTen) := (hm1 _ (by simp; omega)).trans hDg9.1
      have ev3 : ∀ e, va_up w1 v e 1000003 = .inl (12, 100, .inl dTen) := fun e => (va_up_ne _ _ (by omega)).trans o3
      refine hP 5 _ rfl _ _ _ _ _ _ ?_
      simp only [bJ6_getChars_ba4f3_5, hrun, hx, hnth, hput, hok, hcat2, hldI, hldL, hldR, hpI, hpL, hpA, hpR, hp1, hpV, hrtI, hrtL, hrtR, hrtV, hpN, hck, hrI, hrB, hrL, hrA, hwI, hwA, hwB, hrN, hfk, hfs, hrF, hwF, hcl, hfty, tyX1, tyX3, tyX6, tyX9, tyX10, tyJ0, tyJ4, hfit, hcmp, hnar, hres, hst, hacp, kz, kof, kn0, kn1, Bool.not_true, Bool.not_false, true_and, and_true, Nat.zero_add, Nat.reduceAdd, List.length_cons, List.length_nil, true_or, or_true, false_or, or_false, decide_true, decide_false, ne_eq, not_true_eq_false, not_false_eq_true, ki_0, ki_1, ki_2, ki_3, ki_4, ki_5, kb_m100, kb_m10, kb_m9, kb_m8, kb_m7, kb_m6, kb_m5, kb_m4, kb_m3, kb_m2, kb_6, kb_7, kb_8, kb_9, kb_10, kb_12, kb_13, kb_16, kb_27, kb_31, kb_32, kb_43, kb_45, kb_48, kb_57, kb_60, kb_63, kb_81, kb_97, kb_99, kb_100, kb_120, kb_126, ks_m1000, ks_243, ks_255, ks_729, ks_1000, ks_2000, ks_2187, ks_6561, ks_9840, ks_9841, kl_0, kl_1, kN100]
      refine ⟨fun b25 => ?_, fun b25 => ?_⟩
      · try simp (disch := omega) only [nI_ltI, nI_leI, nI_eq, Nat.not_lt, Nat.not_le, nN_le, nN_lt] at b25
        rcases ha4 with rfl | ⟨y4, rfl⟩
        · by_cases q9 : x < 10
          · have hz : ndg x = 0 := by unfold ndg; rw [if_pos q9]
            have ec : (nI x).toNatClampNeg = x := nI_clamp (by omega)
            have ep := nI_clamp (n := p) (by omega)
            have ed : dOne x = nI (48 + x % 10) := rfl
            have en := kvb (48 + x % 10) (by omega)
            simp only [hz, Nat.add_zero]
            refine hP 7 _ rfl _ _ _ _ _ _ ?_
            simp only [bJ6_getChars_ba4f3_7, hrun, hx, hnth, hput, hok, hcat2, hldI, hldL, hldR, hpI, hpL, hpA, hpR, hp1, hpV, hrtI, hrtL, hrtR, hrtV, hpN, hck, hrI, hrB, hrL, hrA, hwI, hwA, hwB, hrN, hfk, hfs, hrF, hwF, hcl, hfty, tyX1, tyX3, tyX6, tyX9, tyX10, tyJ0, tyJ4, hfit, hcmp, hnar, hres, hst, hacp, kz, kof, kn0, kn1, Bool.not_true, Bool.not_false, true_and, and_true, Nat.zero_add, Nat.reduceAdd, List.length_cons, List.length_nil, true_or, or_true, false_or, or_false, decide_true, decide_false, ne_eq, not_true_eq_false, not_false_eq_true, ki_0, ki_1, ki_2, ki_3, ki_4, ki_5, kb_m100, kb_m10, kb_m9, kb_m8, kb_m7, kb_m6, kb_m5, kb_m4, kb_m3, kb_m2, kb_6, kb_7, kb_8, kb_9, kb_10, kb_12, kb_13, kb_16, kb_27, kb_31, kb_32, kb_43, kb_45, kb_48, kb_57, kb_60, kb_63, kb_81, kb_97, kb_99, kb_100, kb_120, kb_126, ks_m1000, ks_243, ks_255, ks_729, ks_1000, ks_2000, ks_2187, ks_6561, ks_9840, ks_9841, kl_0, kl_1, k1, o4, kd1, ec, ep, ed, en, Int32.neg_neg, kN9]
            refine ⟨vp_in_nI (by omega) (by omega), ?_⟩
            refine ⟨vp_in_nI (by omega) (by omega), ?_⟩
            refine ⟨fun b88 => ?_, fun b88 => ?_⟩
            · try simp (disch := omega) only [nI_ltI, nI_leI, nI_eq, Nat.not_lt, Nat.not_le, nN_le, nN_lt] at b88
              refine hP 9 _ rfl _ _ _ _ _ _ ?_
              simp only [bJ6_getChars_ba4f3_9, hrun, hx, hnth, hput, hok, hcat2, hldI, hldL, hldR, hpI, hpL, hpA, hpR, hp1, hpV, hrtI, hrtL, hrtR, hrtV, hpN, hck, hrI, hrB, hrL, hrA, hwI, hwA, hwB, hrN, hfk, hfs, hrF, hwF, hcl, hfty, tyX1, tyX3, tyX6, tyX9, tyX10, tyJ0, tyJ4, hfit, hcmp, hnar, hres, hst, hacp, kz, kof, kn0, kn1, Bool.not_true, Bool.not_false, true_and, and_true, Nat.zero_add, Nat.reduceAdd, List.length_cons, List.length_nil, true_or, or_true, false_or, or_false, decide_true, decide_false, ne_eq, not_true_eq_false, not_false_eq_true, ki_0, ki_1, ki_2, ki_3, ki_4, ki_5, kb_m100, kb_m10, kb_m9, kb_m8, kb_m7, kb_m6, kb_m5, kb_m4, kb_m3, kb_m2, kb_6, kb_7, kb_8, kb_9, kb_10, kb_12, kb_13, kb_16, kb_27, kb_31, kb_32, kb_43, kb_45, kb_48, kb_57, kb_60, kb_63, kb_81, kb_97, kb_99, kb_100, kb_120, kb_126, ks_m1000, ks_243, ks_255, ks_729, ks_1000, ks_2000, ks_2187, ks_6561, ks_9840, ks_9841, kl_0, kl_1, k1, o4, kd1, ec, ep, ed, en, Int32.neg_neg, kN9]
              refine ⟨fun b106 => ?_, fun b106 => ?_⟩
              · try simp (disch := omega) only [nI_ltI, nI_leI, nI_eq, Nat.not_lt, Nat.not_le, nN_le, nN_lt] at b106
                refine hP 11 _ rfl _ _ _ _ _ _ ?_
                simp only [bJ6_getChars_ba4f3_11, hrun, hx, hnth, hput, hok, hcat2, hldI, hldL, hldR, hpI, hpL, hpA, hpR, hp1, hpV, hrtI, hrtL, hrtR, hrtV, hpN, hck, hrI, hrB, hrL, hrA, hwI, hwA, hwB, hrN, hfk, hfs, hrF, hwF, hcl, hfty, tyX1, tyX3, tyX6, tyX9, tyX10, tyJ0, tyJ4, hfit, hcmp, hnar, hres, hst, hacp, kz, kof, kn0, kn1, Bool.not_true, Bool.not_false, true_and, and_true, Nat.zero_add, Nat.reduceAdd, List.length_cons, List.length_nil, true_or, or_true, false_or, or_false, decide_true, decide_false, ne_eq, not_true_eq_false, not_false_eq_true, ki_0, ki_1, ki_2, ki_3, ki_4, ki_5, kb_m100, kb_m10, kb_m9, kb_m8, kb_m7, kb_m6, kb_m5, kb_m4, kb_m3, kb_m2, kb_6, kb_7, kb_8, kb_9, kb_10, kb_12, kb_13, kb_16, kb_27, kb_31, kb_32, kb_43, kb_45, kb_48, kb_57, kb_60, kb_63, kb_81, kb_97, kb_99, kb_100, kb_120, kb_126, ks_m1000, ks_243, ks_255, ks_729, ks_1000, ks_2000, ks_2187, ks_6561, ks_9840, ks_9841, kl_0, kl_1, k1, o4, kd1, ec, ep, ed, en, Int32.neg_neg, kN9]
                refine h _ _ (va_up_self ..) (hm1.tr (mfr.up (by simp))) (fun j hj => ?_) (fun i hi => ?_) (hBf.upd hy1 (by omega))
                · rw [pk_un (by omega)]; exact hlo j hj
                · by_cases qi : i = 0
                  · subst qi
                    rw [show p + 0 = p from rfl, pk_us]
                    have e5 := hpre 0 (by omega)
                    have e6 := mdg_last x
                    rw [hz] at e6
                    rw [e5, e6]
                  · rw [pk_un (by omega)]
                    exact hhi i (by omega) hi
              · (try simp (disch := omega) only [nI_ltI, nI_leI, nI_eq, Nat.not_lt, Nat.not_le, nN_le, nN_lt] at b106) <;> (exfalso; omega)
            · (try simp (disch := omega) only [nI_ltI, nI_leI, nI_eq, Nat.not_lt, Nat.not_le, nN_le, nN_lt] at b88) <;> (exfalso; omega)
          · have hz : ndg x = 1 := by unfold ndg; rw [if_neg q9, if_pos q1]
            have ec : (nI x).toNatClampNeg = x := nI_clamp (by omega)
            have ep := nI_clamp (n := p) (by omega)
            have ep1 := nI_clamp (n := p + 1) (by omega)
            have ed : dOne x = nI (48 + x % 10) := rfl
            have et : dTen x = nI (48 + x / 10) := rfl
            have en := kvb (48 + x % 10) (by omega)
            have en2 := kvb (48 + x / 10) (by omega)
            simp only [hz]
            refine hP 7 _ rfl _ _ _ _ _ _ ?_
            simp only [bJ6_getChars_ba4f3_7, hrun, hx, hnth, hput, hok, hcat2, hldI, hldL, hldR, hpI, hpL, hpA, hpR, hp1, hpV, hrtI, hrtL, hrtR, hrtV, hpN, hck, hrI, hrB, hrL, hrA, hwI, hwA, hwB, hrN, hfk, hfs, hrF, hwF, hcl, hfty, tyX1, tyX3, tyX6, tyX9, tyX10, tyJ0, tyJ4, hfit, hcmp, hnar, hres, hst, hacp, kz, kof, kn0, kn1, Bool.not_true, Bool.not_false, true_and, and_true, Nat.zero_add, Nat.reduceAdd, List.length_cons, List.length_nil, true_or, or_true, false_or, or_false, decide_true, decide_false, ne_eq, not_true_eq_false, not_false_eq_true, ki_0, ki_1, ki_2, ki_3, ki_4, ki_5, kb_m100, kb_m10, kb_m9, kb_m8, kb_m7, kb_m6, kb_m5, kb_m4, kb_m3, kb_m2, kb_6, kb_7, kb_8, kb_9, kb_10, kb_12, kb_13, kb_16, kb_27, kb_31, kb_32, kb_43, kb_45, kb_48, kb_57, kb_60, kb_63, kb_81, kb_97, kb_99, kb_100, kb_120, kb_126, ks_m1000, ks_243, ks_255, ks_729, ks_1000, ks_2000, ks_2187, ks_6561, ks_9840, ks_9841, kl_0, kl_1, k1, o4, ev3, kd1, ec, ep, ep1, ed, et, en, en2, Int32.neg_neg, kN9, va_up_self]
            refine ⟨vp_in_nI (by omega) (by omega), ?_⟩
            refine ⟨vp_in_nI (by omega) (by omega), ?_⟩
            refine ⟨fun b88 => ?_, fun b88 => ?_⟩
            · (try simp (disch := omega) only [nI_ltI, nI_leI, nI_eq, Nat.not_lt, Nat.not_le, nN_le, nN_lt] at b88) <;> (exfalso; omega)
            · try simp (disch := omega) only [nI_ltI, nI_leI, nI_eq, Nat.not_lt, Nat.not_le, nN_le, nN_lt] at b88
              refine hP 8 _ rfl _ _ _ _ _ _ ?_
              simp only [bJ6_getChars_ba4f3_8, hrun, hx, hnth, hput, hok, hcat2, hldI, hldL, hldR, hpI, hpL, hpA, hpR, hp1, hpV, hrtI, hrtL, hrtR, hrtV, hpN, hck, hrI, hrB, hrL, hrA, hwI, hwA, hwB, hrN, hfk, hfs, hrF, hwF, hcl, hfty, tyX1, tyX3, tyX6, tyX9, tyX10, tyJ0, tyJ4, hfit, hcmp, hnar, hres, hst, hacp, kz, kof, kn0, kn1, Bool.not_true, Bool.not_false, true_and, and_true, Nat.zero_add, Nat.reduceAdd, List.length_cons, List.length_nil, true_or, or_true, false_or, or_false, decide_true, decide_false, ne_eq, not_true_eq_false, not_false_eq_true, ki_0, ki_1, ki_2, ki_3, ki_4, ki_5, kb_m100, kb_m10, kb_m9, kb_m8, kb_m7, kb_m6, kb_m5, kb_m4, kb_m3, kb_m2, kb_6, kb_7, kb_8, kb_9, kb_10, kb_12, kb_13, kb_16, kb_27, kb_31, kb_32, kb_43, kb_45, kb_48, kb_57, kb_60, kb_63, kb_81, kb_97, kb_99, kb_100, kb_120, kb_126, ks_m1000, ks_243, ks_255, ks_729, ks_1000, ks_2000, ks_2187, ks_6561, ks_9840, ks_9841, kl_0, kl_1, k1, o4, ev3, kd1, ec, ep, ep1, ed, et, en, en2, Int32.neg_neg, kN9, va_up_self]
              refine ⟨vp_in_nI (by omega) (by omega), ?_⟩
              refine ⟨vp_in_nI (by omega) (by omega), ?_⟩
              refine hP 9 _ rfl _ _ _ _ _ _ ?_
              simp only [bJ6_getChars_ba4f3_9, hrun, hx, hnth, hput, hok, hcat2, hldI, hldL, hldR, hpI, hpL, hpA, hpR, hp1, hpV, hrtI, hrtL, hrtR, hrtV, hpN, hck, hrI, hrB, hrL, hrA, hwI, hwA, hwB, hrN, hfk, hfs, hrF, hwF, hcl, hfty, tyX1, tyX3, tyX6, tyX9, tyX10, tyJ0, tyJ4, hfit, hcmp, hnar, hres, hst, hacp, kz, kof, kn0, kn1, Bool.not_true, Bool.not_false, true_and, and_true, Nat.zero_add, Nat.reduceAdd, List.length_cons, List.length_nil, true_or, or_true, false_or, or_false, decide_true, decide_false, ne_eq, not_true_eq_false, not_false_eq_true, ki_0, ki_1, ki_2, ki_3, ki_4, ki_5, kb_m100, kb_m10, kb_m9, kb_m8, kb_m7, kb_m6, kb_m5, kb_m4, kb_m3, kb_m2, kb_6, kb_7, kb_8, kb_9, kb_10, kb_12, kb_13, kb_16, kb_27, kb_31, kb_32, kb_43, kb_45, kb_48, kb_57, kb_60, kb_63, kb_81, kb_97, kb_99, kb_100, kb_120, kb_126, ks_m1000, ks_243, ks_255, ks_729, ks_1000, ks_2000, ks_2187, ks_6561, ks_9840, ks_9841, kl_0, kl_1, k1, o4, ev3, kd1, ec, ep, ep1, ed, et, en, en2, Int32.neg_neg, kN9, va_up_self]
              refine ⟨fun b106 => ?_, fun b106 => ?_⟩
              · try simp (disch := omega) only [nI_ltI, nI_leI, nI_eq, Nat.not_lt, Nat.not_le, nN_le, nN_lt] at b106
                refine hP 11 _ rfl _ _ _ _ _ _ ?_
                simp only [bJ6_getChars_ba4f3_11, hrun, hx, hnth, hput, hok, hcat2, hldI, hldL, hldR, hpI, hpL, hpA, hpR, hp1, hpV, hrtI, hrtL, hrtR, hrtV, hpN, hck, hrI, hrB, hrL, hrA, hwI, hwA, hwB, hrN, hfk, hfs, hrF, hwF, hcl, hfty, tyX1, tyX3, tyX6, tyX9, tyX10, tyJ0, tyJ4, hfit, hcmp, hnar, hres, hst, hacp, kz, kof, kn0, kn1, Bool.not_true, Bool.not_false, true_and, and_true, Nat.zero_add, Nat.reduceAdd, List.length_cons, List.length_nil, true_or, or_true, false_or, or_false, decide_true, decide_false, ne_eq, not_true_eq_false, not_false_eq_true, ki_0, ki_1, ki_2, ki_3, ki_4, ki_5, kb_m100, kb_m10, kb_m9, kb_m8, kb_m7, kb_m6, kb_m5, kb_m4, kb_m3, kb_m2, kb_6, kb_7, kb_8, kb_9, kb_10, kb_12, kb_13, kb_16, kb_27, kb_31, kb_32, kb_43, kb_45, kb_48, kb_57, kb_60, kb_63, kb_81, kb_97, kb_99, kb_100, kb_120, kb_126, ks_m1000, ks_243, ks_255, ks_729, ks_1000, ks_2000, ks_2187, ks_6561, ks_9840, ks_9841, kl_0, kl_1, k1, o4, ev3, kd1, ec, ep, ep1, ed, et, en, en2, Int32.neg_neg, kN9, va_up_self]
                refine h _ _ (va_up_self ..) (hm1.tr ((mfr.up (by simp)).tr (mfr.up (by simp)))) (fun j hj => ?_) (fun i hi => ?_) (hBf.upd (hBf.upd hy1 (by omega)) (by omega))
                · rw [pk_un (by omega), pk_un (by omega)]; exact hlo j hj
                · by_cases qi : i = 0
                  · subst qi
                    rw [show p + 0 = p from rfl, pk_us]
                    have e5 := hpre 0 (by omega)
                    have e6 := mdg_last2 (x := x) (k := 0) hz
                    rw [e5, e6, Nat.mod_eq_of_lt (by omega)]
                  · by_cases qi1 : i = 1
                    · subst qi1
                      rw [pk_un (by omega), pk_us]
                      have e5 := hpre 1 (by omega)
                      have e6 := mdg_last x
                      rw [hz] at e6
                      rw [e5, e6]
                    · rw [pk_un (by omega), pk_un (by omega)]
                      exact hhi i (by omega) hi
              · (try simp (disch := omega) only [nI_ltI, nI_leI, nI_eq, Nat.not_lt, Nat.not_le, nN_le, nN_lt] at b106) <;> (exfalso; omega)
        · by_cases q9 : x < 10
          · have hz : ndg x = 0 := by unfold ndg; rw [if_pos q9]
            have ec : (nI x).toNatClampNeg = x := nI_clamp (by omega)
            have ep := nI_clamp (n := p) (by omega)
            have ed : dOne x = nI (48 + x % 10) := rfl
            have en := kvb (48 + x % 10) (by omega)
            simp only [hz, Nat.add_zero]
            refine hP 7 _ rfl _ _ _ _ _ _ ?_
            simp only [bJ6_getChars_ba4f3_7, hrun, hx, hnth, hput, hok, hcat2, hldI, hldL, hldR, hpI, hpL, hpA, hpR, hp1, hpV, hrtI, hrtL, hrtR, hrtV, hpN, hck, hrI, hrB, hrL, hrA, hwI, hwA, hwB, hrN, hfk, hfs, hrF, hwF, hcl, hfty, tyX1, tyX3, tyX6, tyX9, tyX10, tyJ0, tyJ4, hfit, hcmp, hnar, hres, hst, hacp, kz, kof, kn0, kn1, Bool.not_true, Bool.not_false, true_and, and_true, Nat.zero_add, Nat.reduceAdd, List.length_cons, List.length_nil, true_or, or_true, false_or, or_false, decide_true, decide_false, ne_eq, not_true_eq_false, not_false_eq_true, ki_0, ki_1, ki_2, ki_3, ki_4, ki_5, kb_m100, kb_m10, kb_m9, kb_m8, kb_m7, kb_m6, kb_m5, kb_m4, kb_m3, kb_m2, kb_6, kb_7, kb_8, kb_9, kb_10, kb_12, kb_13, kb_16, kb_27, kb_31, kb_32, kb_43, kb_45, kb_48, kb_57, kb_60, kb_63, kb_81, kb_97, kb_99, kb_100, kb_120, kb_126, ks_m1000, ks_243, ks_255, ks_729, ks_1000, ks_2000, ks_2187, ks_6561, ks_9840, ks_9841, kl_0, kl_1, k1, o4, kd1, ec, ep, ed, en, Int32.neg_neg, kN9]
            refine ⟨vp_in_nI (by omega) (by omega), ?_⟩
            refine ⟨vp_in_nI (by omega) (by omega), ?_⟩
            refine ⟨fun b88 => ?_, fun b88 => ?_⟩
            · try simp (disch := omega) only [nI_ltI, nI_leI, nI_eq, Nat.not_lt, Nat.not_le, nN_le, nN_lt] at b88
              refine hP 9 _ rfl _ _ _ _ _ _ ?_
              simp only [bJ6_getChars_ba4f3_9, hrun, hx, hnth, hput, hok, hcat2, hldI, hldL, hldR, hpI, hpL, hpA, hpR, hp1, hpV, hrtI, hrtL, hrtR, hrtV, hpN, hck, hrI, hrB, hrL, hrA, hwI, hwA, hwB, hrN, hfk, hfs, hrF, hwF, hcl, hfty, tyX1, tyX3, tyX6, tyX9, tyX10, tyJ0, tyJ4, hfit, hcmp, hnar, hres, hst, hacp, kz, kof, kn0, kn1, Bool.not_true, Bool.not_false, true_and, and_true, Nat.zero_add, Nat.reduceAdd, List.length_cons, List.length_nil, true_or, or_true, false_or, or_false, decide_true, decide_false, ne_eq, not_true_eq_false, not_false_eq_true, ki_0, ki_1, ki_2, ki_3, ki_4, ki_5, kb_m100, kb_m10, kb_m9, kb_m8, kb_m7, kb_m6, kb_m5, kb_m4, kb_m3, kb_m2, kb_6, kb_7, kb_8, kb_9, kb_10, kb_12, kb_13, kb_16, kb_27, kb_31, kb_32, kb_43, kb_45, kb_48, kb_57, kb_60, kb_63, kb_81, kb_97, kb_99, kb_100, kb_120, kb_126, ks_m1000, ks_243, ks_255, ks_729, ks_1000, ks_2000, ks_2187, ks_6561, ks_9840, ks_9841, kl_0, kl_1, k1, o4, kd1, ec, ep, ed, en, Int32.neg_neg, kN9]
              refine ⟨fun b106 => ?_, fun b106 => ?_⟩
              · try simp (disch := omega) only [nI_ltI, nI_leI, nI_eq, Nat.not_lt, Nat.not_le, nN_le, nN_lt] at b106
                refine hP 11 _ rfl _ _ _ _ _ _ ?_
                simp only [bJ6_getChars_ba4f3_11, hrun, hx, hnth, hput, hok, hcat2, hldI, hldL, hldR, hpI, hpL, hpA, hpR, hp1, hpV, hrtI, hrtL, hrtR, hrtV, hpN, hck, hrI, hrB, hrL, hrA, hwI, hwA, hwB, hrN, hfk, hfs, hrF, hwF, hcl, hfty, tyX1, tyX3, tyX6, tyX9, tyX10, tyJ0, tyJ4, hfit, hcmp, hnar, hres, hst, hacp, kz, kof, kn0, kn1, Bool.not_true, Bool.not_false, true_and, and_true, Nat.zero_add, Nat.reduceAdd, List.length_cons, List.length_nil, true_or, or_true, false_or, or_false, decide_true, decide_false, ne_eq, not_true_eq_false, not_false_eq_true, ki_0, ki_1, ki_2, ki_3, ki_4, ki_5, kb_m100, kb_m10, kb_m9, kb_m8, kb_m7, kb_m6, kb_m5, kb_m4, kb_m3, kb_m2, kb_6, kb_7, kb_8, kb_9, kb_10, kb_12, kb_13, kb_16, kb_27, kb_31, kb_32, kb_43, kb_45, kb_48, kb_57, kb_60, kb_63, kb_81, kb_97, kb_99, kb_100, kb_120, kb_126, ks_m1000, ks_243, ks_255, ks_729, ks_1000, ks_2000, ks_2187, ks_6561, ks_9840, ks_9841, kl_0, kl_1, k1, o4, kd1, ec, ep, ed, en, Int32.neg_neg, kN9]
                refine h _ _ (va_up_self ..) (hm1.tr (mfr.up (by simp))) (fun j hj => ?_) (fun i hi => ?_) (hBf.upd hy1 (by omega))
                · rw [pk_un (by omega)]; exact hlo j hj
                · by_cases qi : i = 0
                  · subst qi
                    rw [show p + 0 = p from rfl, pk_us]
                    have e5 := hpre 0 (by omega)
                    have e6 := mdg_last x
                    rw [hz] at e6
                    rw [e5, e6]
                  · rw [pk_un (by omega)]
                    exact hhi i (by omega) hi
              · (try simp (disch := omega) only [nI_ltI, nI_leI, nI_eq, Nat.not_lt, Nat.not_le, nN_le, nN_lt] at b106) <;> (exfalso; omega)
            · (try simp (disch := omega) only [nI_ltI, nI_leI, nI_eq, Nat.not_lt, Nat.not_le, nN_le, nN_lt] at b88) <;> (exfalso; omega)
          · have hz : ndg x = 1 := by unfold ndg; rw [if_neg q9, if_pos q1]
            have ec : (nI x).toNatClampNeg = x := nI_clamp (by omega)
            have ep := nI_clamp (n := p) (by omega)
            have ep1 := nI_clamp (n := p + 1) (by omega)
            have ed : dOne x = nI (48 + x % 10) := rfl
            have et : dTen x = nI (48 + x / 10) := rfl
            have en := kvb (48 + x % 10) (by omega)
            have en2 := kvb (48 + x / 10) (by omega)
            simp only [hz]
            refine hP 7 _ rfl _ _ _ _ _ _ ?_
            simp only [bJ6_getChars_ba4f3_7, hrun, hx, hnth, hput, hok, hcat2, hldI, hldL, hldR, hpI, hpL, hpA, hpR, hp1, hpV, hrtI, hrtL, hrtR, hrtV, hpN, hck, hrI, hrB, hrL, hrA, hwI, hwA, hwB, hrN, hfk, hfs, hrF, hwF, hcl, hfty, tyX1, tyX3, tyX6, tyX9, tyX10, tyJ0, tyJ4, hfit, hcmp, hnar, hres, hst, hacp, kz, kof, kn0, kn1, Bool.not_true, Bool.not_false, true_and, and_true, Nat.zero_add, Nat.reduceAdd, List.length_cons, List.length_nil, true_or, or_true, false_or, or_false, decide_true, decide_false, ne_eq, not_true_eq_false, not_false_eq_true, ki_0, ki_1, ki_2, ki_3, ki_4, ki_5, kb_m100, kb_m10, kb_m9, kb_m8, kb_m7, kb_m6, kb_m5, kb_m4, kb_m3, kb_m2, kb_6, kb_7, kb_8, kb_9, kb_10, kb_12, kb_13, kb_16, kb_27, kb_31, kb_32, kb_43, kb_45, kb_48, kb_57, kb_60, kb_63, kb_81, kb_97, kb_99, kb_100, kb_120, kb_126, ks_m1000, ks_243, ks_255, ks_729, ks_1000, ks_2000, ks_2187, ks_6561, ks_9840, ks_9841, kl_0, kl_1, k1, o4, ev3, kd1, ec, ep, ep1, ed, et, en, en2, Int32.neg_neg, kN9, va_up_self]
            refine ⟨vp_in_nI (by omega) (by omega), ?_⟩
            refine ⟨vp_in_nI (by omega) (by omega), ?_⟩
            refine ⟨fun b88 => ?_, fun b88 => ?_⟩
            · (try simp (disch := omega) only [nI_ltI, nI_leI, nI_eq, Nat.not_lt, Nat.not_le, nN_le, nN_lt] at b88) <;> (exfalso; omega)
            · try simp (disch := omega) only [nI_ltI, nI_leI, nI_eq, Nat.not_lt, Nat.not_le, nN_le, nN_lt] at b88
              refine hP 8 _ rfl _ _ _ _ _ _ ?_
              simp only [bJ6_getChars_ba4f3_8, hrun, hx, hnth, hput, hok, hcat2, hldI, hldL, hldR, hpI, hpL, hpA, hpR, hp1, hpV, hrtI, hrtL, hrtR, hrtV, hpN, hck, hrI, hrB, hrL, hrA, hwI, hwA, hwB, hrN, hfk, hfs, hrF, hwF, hcl, hfty, tyX1, tyX3, tyX6, tyX9, tyX10, tyJ0, tyJ4, hfit, hcmp, hnar, hres, hst, hacp, kz, kof, kn0, kn1, Bool.not_true, Bool.not_false, true_and, and_true, Nat.zero_add, Nat.reduceAdd, List.length_cons, List.length_nil, true_or, or_true, false_or, or_false, decide_true, decide_false, ne_eq, not_true_eq_false, not_false_eq_true, ki_0, ki_1, ki_2, ki_3, ki_4, ki_5, kb_m100, kb_m10, kb_m9, kb_m8, kb_m7, kb_m6, kb_m5, kb_m4, kb_m3, kb_m2, kb_6, kb_7, kb_8, kb_9, kb_10, kb_12, kb_13, kb_16, kb_27, kb_31, kb_32, kb_43, kb_45, kb_48, kb_57, kb_60, kb_63, kb_81, kb_97, kb_99, kb_100, kb_120, kb_126, ks_m1000, ks_243, ks_255, ks_729, ks_1000, ks_2000, ks_2187, ks_6561, ks_9840, ks_9841, kl_0, kl_1, k1, o4, ev3, kd1, ec, ep, ep1, ed, et, en, en2, Int32.neg_neg, kN9, va_up_self]
              refine ⟨vp_in_nI (by omega) (by omega), ?_⟩
              refine ⟨vp_in_nI (by omega) (by omega), ?_⟩
              refine hP 9 _ rfl _ _ _ _ _ _ ?_
              simp only [bJ6_getChars_ba4f3_9, hrun, hx, hnth, hput, hok, hcat2, hldI, hldL, hldR, hpI, hpL, hpA, hpR, hp1, hpV, hrtI, hrtL, hrtR, hrtV, hpN, hck, hrI, hrB, hrL, hrA, hwI, hwA, hwB, hrN, hfk, hfs, hrF, hwF, hcl, hfty, tyX1, tyX3, tyX6, tyX9, tyX10, tyJ0, tyJ4, hfit, hcmp, hnar, hres, hst, hacp, kz, kof, kn0, kn1, Bool.not_true, Bool.not_false, true_and, and_true, Nat.zero_add, Nat.reduceAdd, List.length_cons, List.length_nil, true_or, or_true, false_or, or_false, decide_true, decide_false, ne_eq, not_true_eq_false, not_false_eq_true, ki_0, ki_1, ki_2, ki_3, ki_4, ki_5, kb_m100, kb_m10, kb_m9, kb_m8, kb_m7, kb_m6, kb_m5, kb_m4, kb_m3, kb_m2, kb_6, kb_7, kb_8, kb_9, kb_10, kb_12, kb_13, kb_16, kb_27, kb_31, kb_32, kb_43, kb_45, kb_48, kb_57, kb_60, kb_63, kb_81, kb_97, kb_99, kb_100, kb_120, kb_126, ks_m1000, ks_243, ks_255, ks_729, ks_1000, ks_2000, ks_2187, ks_6561, ks_9840, ks_9841, kl_0, kl_1, k1, o4, ev3, kd1, ec, ep, ep1, ed, et, en, en2, Int32.neg_neg, kN9, va_up_self]
              refine ⟨fun b106 => ?_, fun b106 => ?_⟩
              · try simp (disch := omega) only [nI_ltI, nI_leI, nI_eq, Nat.not_lt, Nat.not_le, nN_le, nN_lt] at b106
                refine hP 11 _ rfl _ _ _ _ _ _ ?_
                simp only [bJ6_getChars_ba4f3_11, hrun, hx, hnth, hput, hok, hcat2, hldI, hldL, hldR, hpI, hpL, hpA, hpR, hp1, hpV, hrtI, hrtL, hrtR, hrtV, hpN, hck, hrI, hrB, hrL, hrA, hwI, hwA, hwB, hrN, hfk, hfs, hrF, hwF, hcl, hfty, tyX1, tyX3, tyX6, tyX9, tyX10, tyJ0, tyJ4, hfit, hcmp, hnar, hres, hst, hacp, kz, kof, kn0, kn1, Bool.not_true, Bool.not_false, true_and, and_true, Nat.zero_add, Nat.reduceAdd, List.length_cons, List.length_nil, true_or, or_true, false_or, or_false, decide_true, decide_false, ne_eq, not_true_eq_false, not_false_eq_true, ki_0, ki_1, ki_2, ki_3, ki_4, ki_5, kb_m100, kb_m10, kb_m9, kb_m8, kb_m7, kb_m6, kb_m5, kb_m4, kb_m3, kb_m2, kb_6, kb_7, kb_8, kb_9, kb_10, kb_12, kb_13, kb_16, kb_27, kb_31, kb_32, kb_43, kb_45, kb_48, kb_57, kb_60, kb_63, kb_81, kb_97, kb_99, kb_100, kb_120, kb_126, ks_m1000, ks_243, ks_255, ks_729, ks_1000, ks_2000, ks_2187, ks_6561, ks_9840, ks_9841, kl_0, kl_1, k1, o4, ev3, kd1, ec, ep, ep1, ed, et, en, en2, Int32.neg_neg, kN9, va_up_self]
                refine h _ _ (va_up_self ..) (hm1.tr ((mfr.up (by simp)).tr (mfr.up (by simp)))) (fun j hj => ?_) (fun i hi => ?_) (hBf.upd (hBf.upd hy1 (by omega)) (by omega))
                · rw [pk_un (by omega), pk_un (by omega)]; exact hlo j hj
                · by_cases qi : i = 0
                  · subst qi
                    rw [show p + 0 = p from rfl, pk_us]
                    have e5 := hpre 0 (by omega)
                    have e6 := mdg_last2 (x := x) (k := 0) hz
                    rw [e5, e6, Nat.mod_eq_of_lt (by omega)]
                  · by_cases qi1 : i = 1
                    · subst qi1
                      rw [pk_un (by omega), pk_us]
                      have e5 := hpre 1 (by omega)
                      have e6 := mdg_last x
                      rw [hz] at e6
                      rw [e5, e6]
                    · rw [pk_un (by omega), pk_un (by omega)]
                      exact hhi i (by omega) hi
              · (try simp (disch := omega) only [nI_ltI, nI_leI, nI_eq, Nat.not_lt, Nat.not_le, nN_le, nN_lt] at b106) <;> (exfalso; omega)
      · (try simp (disch := omega) only [nI_ltI, nI_leI, nI_eq, Nat.not_lt, Nat.not_le, nN_le, nN_lt] at b25) <;> (exfalso; omega)
    | succ r ih =>
      intro x w1 F1 a3 a4 hr9 ha4 k1 hm1 hx6 hnx hpre hlo hhi hy1
      have o4 : w1 1000004 = .inl (12, 100, .inl dOne) := (hm1 _ (by simp; omega)).trans hDg9.2
      have o3 : w1 1000003 = .inl (12, 100, .inl dTen) := (hm1 _ (by simp; omega)).trans hDg9.1
      have ev3 : ∀ e, va_up w1 v e 1000003 = .inl (12, 100, .inl dTen) := fun e => (va_up_ne _ _ (by omega)).trans o3
      have hq : x / 100 < 100 ^ (r + 1) := by
        rw [Nat.pow_succ] at hr9
        exact Nat.div_lt_of_lt_mul (by rw [Nat.mul_comm]; exact hr9)
      refine hP 5 _ rfl _ _ _ _ _ _ ?_
      simp only [bJ6_getChars_ba4f3_5, hrun, hx, hnth, hput, hok, hcat2, hldI, hldL, hldR, hpI, hpL, hpA, hpR, hp1, hpV, hrtI, hrtL, hrtR, hrtV, hpN, hck, hrI, hrB, hrL, hrA, hwI, hwA, hwB, hrN, hfk, hfs, hrF, hwF, hcl, hfty, tyX1, tyX3, tyX6, tyX9, tyX10, tyJ0, tyJ4, hfit, hcmp, hnar, hres, hst, hacp, kz, kof, kn0, kn1, Bool.not_true, Bool.not_false, true_and, and_true, Nat.zero_add, Nat.reduceAdd, List.length_cons, List.length_nil, true_or, or_true, false_or, or_false, decide_true, decide_false, ne_eq, not_true_eq_false, not_false_eq_true, ki_0, ki_1, ki_2, ki_3, ki_4, ki_5, kb_m100, kb_m10, kb_m9, kb_m8, kb_m7, kb_m6, kb_m5, kb_m4, kb_m3, kb_m2, kb_6, kb_7, kb_8, kb_9, kb_10, kb_12, kb_13, kb_16, kb_27, kb_31, kb_32, kb_43, kb_45, kb_48, kb_57, kb_60, kb_63, kb_81, kb_97, kb_99, kb_100, kb_120, kb_126, ks_m1000, ks_243, ks_255, ks_729, ks_1000, ks_2000, ks_2187, ks_6561, ks_9840, ks_9841, kl_0, kl_1, kN100]
      refine ⟨fun b25 => ?_, fun b25 => ?_⟩
      · try simp (disch := omega) only [nI_ltI, nI_leI, nI_eq, Nat.not_lt, Nat.not_le, nN_le, nN_lt] at b25
        have q1 : x < 100 := b25
        rcases ha4 with rfl | ⟨y4, rfl⟩
        · by_cases q9 : x < 10
          · have hz : ndg x = 0 := by unfold ndg; rw [if_pos q9]
            have ec : (nI x).toNatClampNeg = x := nI_clamp (by omega)
            have ep := nI_clamp (n := p) (by omega)
            have ed : dOne x = nI (48 + x % 10) := rfl
            have en := kvb (48 + x % 10) (by omega)
            simp only [hz, Nat.add_zero]
            refine hP 7 _ rfl _ _ _ _ _ _ ?_
            simp only [bJ6_getChars_ba4f3_7, hrun, hx, hnth, hput, hok, hcat2, hldI, hldL, hldR, hpI, hpL, hpA, hpR, hp1, hpV, hrtI, hrtL, hrtR, hrtV, hpN, hck, hrI, hrB, hrL, hrA, hwI, hwA, hwB, hrN, hfk, hfs, hrF, hwF, hcl, hfty, tyX1, tyX3, tyX6, tyX9, tyX10, tyJ0, tyJ4, hfit, hcmp, hnar, hres, hst, hacp, kz, kof, kn0, kn1, Bool.not_true, Bool.not_false, true_and, and_true, Nat.zero_add, Nat.reduceAdd, List.length_cons, List.length_nil, true_or, or_true, false_or, or_false, decide_true, decide_false, ne_eq, not_true_eq_false, not_false_eq_true, ki_0, ki_1, ki_2, ki_3, ki_4, ki_5, kb_m100, kb_m10, kb_m9, kb_m8, kb_m7, kb_m6, kb_m5, kb_m4, kb_m3, kb_m2, kb_6, kb_7, kb_8, kb_9, kb_10, kb_12, kb_13, kb_16, kb_27, kb_31, kb_32, kb_43, kb_45, kb_48, kb_57, kb_60, kb_63, kb_81, kb_97, kb_99, kb_100, kb_120, kb_126, ks_m1000, ks_243, ks_255, ks_729, ks_1000, ks_2000, ks_2187, ks_6561, ks_9840, ks_9841, kl_0, kl_1, k1, o4, kd1, ec, ep, ed, en, Int32.neg_neg, kN9]
            refine ⟨vp_in_nI (by omega) (by omega), ?_⟩
            refine ⟨vp_in_nI (by omega) (by omega), ?_⟩
            refine ⟨fun b88 => ?_, fun b88 => ?_⟩
            · try simp (disch := omega) only [nI_ltI, nI_leI, nI_eq, Nat.not_lt, Nat.not_le, nN_le, nN_lt] at b88
              refine hP 9 _ rfl _ _ _ _ _ _ ?_
              simp only [bJ6_getChars_ba4f3_9, hrun, hx, hnth, hput, hok, hcat2, hldI, hldL, hldR, hpI, hpL, hpA, hpR, hp1, hpV, hrtI, hrtL, hrtR, hrtV, hpN, hck, hrI, hrB, hrL, hrA, hwI, hwA, hwB, hrN, hfk, hfs, hrF, hwF, hcl, hfty, tyX1, tyX3, tyX6, tyX9, tyX10, tyJ0, tyJ4, hfit, hcmp, hnar, hres, hst, hacp, kz, kof, kn0, kn1, Bool.not_true, Bool.not_false, true_and, and_true, Nat.zero_add, Nat.reduceAdd, List.length_cons, List.length_nil, true_or, or_true, false_or, or_false, decide_true, decide_false, ne_eq, not_true_eq_false, not_false_eq_true, ki_0, ki_1, ki_2, ki_3, ki_4, ki_5, kb_m100, kb_m10, kb_m9, kb_m8, kb_m7, kb_m6, kb_m5, kb_m4, kb_m3, kb_m2, kb_6, kb_7, kb_8, kb_9, kb_10, kb_12, kb_13, kb_16, kb_27, kb_31, kb_32, kb_43, kb_45, kb_48, kb_57, kb_60, kb_63, kb_81, kb_97, kb_99, kb_100, kb_120, kb_126, ks_m1000, ks_243, ks_255, ks_729, ks_1000, ks_2000, ks_2187, ks_6561, ks_9840, ks_9841, kl_0, kl_1, k1, o4, kd1, ec, ep, ed, en, Int32.neg_neg, kN9]
              refine ⟨fun b106 => ?_, fun b106 => ?_⟩
              · try simp (disch := omega) only [nI_ltI, nI_leI, nI_eq, Nat.not_lt, Nat.not_le, nN_le, nN_lt] at b106
                refine hP 11 _ rfl _ _ _ _ _ _ ?_
                simp only [bJ6_getChars_ba4f3_11, hrun, hx, hnth, hput, hok, hcat2, hldI, hldL, hldR, hpI, hpL, hpA, hpR, hp1, hpV, hrtI, hrtL, hrtR, hrtV, hpN, hck, hrI, hrB, hrL, hrA, hwI, hwA, hwB, hrN, hfk, hfs, hrF, hwF, hcl, hfty, tyX1, tyX3, tyX6, tyX9, tyX10, tyJ0, tyJ4, hfit, hcmp, hnar, hres, hst, hacp, kz, kof, kn0, kn1, Bool.not_true, Bool.not_false, true_and, and_true, Nat.zero_add, Nat.reduceAdd, List.length_cons, List.length_nil, true_or, or_true, false_or, or_false, decide_true, decide_false, ne_eq, not_true_eq_false, not_false_eq_true, ki_0, ki_1, ki_2, ki_3, ki_4, ki_5, kb_m100, kb_m10, kb_m9, kb_m8, kb_m7, kb_m6, kb_m5, kb_m4, kb_m3, kb_m2, kb_6, kb_7, kb_8, kb_9, kb_10, kb_12, kb_13, kb_16, kb_27, kb_31, kb_32, kb_43, kb_45, kb_48, kb_57, kb_60, kb_63, kb_81, kb_97, kb_99, kb_100, kb_120, kb_126, ks_m1000, ks_243, ks_255, ks_729, ks_1000, ks_2000, ks_2187, ks_6561, ks_9840, ks_9841, kl_0, kl_1, k1, o4, kd1, ec, ep, ed, en, Int32.neg_neg, kN9]
                refine h _ _ (va_up_self ..) (hm1.tr (mfr.up (by simp))) (fun j hj => ?_) (fun i hi => ?_) (hBf.upd hy1 (by omega))
                · rw [pk_un (by omega)]; exact hlo j hj
                · by_cases qi : i = 0
                  · subst qi
                    rw [show p + 0 = p from rfl, pk_us]
                    have e5 := hpre 0 (by omega)
                    have e6 := mdg_last x
                    rw [hz] at e6
                    rw [e5, e6]
                  · rw [pk_un (by omega)]
                    exact hhi i (by omega) hi
              · (try simp (disch := omega) only [nI_ltI, nI_leI, nI_eq, Nat.not_lt, Nat.not_le, nN_le, nN_lt] at b106) <;> (exfalso; omega)
            · (try simp (disch := omega) only [nI_ltI, nI_leI, nI_eq, Nat.not_lt, Nat.not_le, nN_le, nN_lt] at b88) <;> (exfalso; omega)
          · have hz : ndg x = 1 := by unfold ndg; rw [if_neg q9, if_pos q1]
            have ec : (nI x).toNatClampNeg = x := nI_clamp (by omega)
            have ep := nI_clamp (n := p) (by omega)
            have ep1 := nI_clamp (n := p + 1) (by omega)
            have ed : dOne x = nI (48 + x % 10) := rfl
            have et : dTen x = nI (48 + x / 10) := rfl
            have en := kvb (48 + x % 10) (by omega)
            have en2 := kvb (48 + x / 10) (by omega)
            simp only [hz]
            refine hP 7 _ rfl _ _ _ _ _ _ ?_
            simp only [bJ6_getChars_ba4f3_7, hrun, hx, hnth, hput, hok, hcat2, hldI, hldL, hldR, hpI, hpL, hpA, hpR, hp1, hpV, hrtI, hrtL, hrtR, hrtV, hpN, hck, hrI, hrB, hrL, hrA, hwI, hwA, hwB, hrN, hfk, hfs, hrF, hwF, hcl, hfty, tyX1, tyX3, tyX6, tyX9, tyX10, tyJ0, tyJ4, hfit, hcmp, hnar, hres, hst, hacp, kz, kof, kn0, kn1, Bool.not_true, Bool.not_false, true_and, and_true, Nat.zero_add, Nat.reduceAdd, List.length_cons, List.length_nil, true_or, or_true, false_or, or_false, decide_true, decide_false, ne_eq, not_true_eq_false, not_false_eq_true, ki_0, ki_1, ki_2, ki_3, ki_4, ki_5, kb_m100, kb_m10, kb_m9, kb_m8, kb_m7, kb_m6, kb_m5, kb_m4, kb_m3, kb_m2, kb_6, kb_7, kb_8, kb_9, kb_10, kb_12, kb_13, kb_16, kb_27, kb_31, kb_32, kb_43, kb_45, kb_48, kb_57, kb_60, kb_63, kb_81, kb_97, kb_99, kb_100, kb_120, kb_126, ks_m1000, ks_243, ks_255, ks_729, ks_1000, ks_2000, ks_2187, ks_6561, ks_9840, ks_9841, kl_0, kl_1, k1, o4, ev3, kd1, ec, ep, ep1, ed, et, en, en2, Int32.neg_neg, kN9, va_up_self]
            refine ⟨vp_in_nI (by omega) (by omega), ?_⟩
            refine ⟨vp_in_nI (by omega) (by omega), ?_⟩
            refine ⟨fun b88 => ?_, fun b88 => ?_⟩
            · (try simp (disch := omega) only [nI_ltI, nI_leI, nI_eq, Nat.not_lt, Nat.not_le, nN_le, nN_lt] at b88) <;> (exfalso; omega)
            · try simp (disch := omega) only [nI_ltI, nI_leI, nI_eq, Nat.not_lt, Nat.not_le, nN_le, nN_lt] at b88
              refine hP 8 _ rfl _ _ _ _ _ _ ?_
              simp only [bJ6_getChars_ba4f3_8, hrun, hx, hnth, hput, hok, hcat2, hldI, hldL, hldR, hpI, hpL, hpA, hpR, hp1, hpV, hrtI, hrtL, hrtR, hrtV, hpN, hck, hrI, hrB, hrL, hrA, hwI, hwA, hwB, hrN, hfk, hfs, hrF, hwF, hcl, hfty, tyX1, tyX3, tyX6, tyX9, tyX10, tyJ0, tyJ4, hfit, hcmp, hnar, hres, hst, hacp, kz, kof, kn0, kn1, Bool.not_true, Bool.not_false, true_and, and_true, Nat.zero_add, Nat.reduceAdd, List.length_cons, List.length_nil, true_or, or_true, false_or, or_false, decide_true, decide_false, ne_eq, not_true_eq_false, not_false_eq_true, ki_0, ki_1, ki_2, ki_3, ki_4, ki_5, kb_m100, kb_m10, kb_m9, kb_m8, kb_m7, kb_m6, kb_m5, kb_m4, kb_m3, kb_m2, kb_6, kb_7, kb_8, kb_9, kb_10, kb_12, kb_13, kb_16, kb_27, kb_31, kb_32, kb_43, kb_45, kb_48, kb_57, kb_60, kb_63, kb_81, kb_97, kb_99, kb_100, kb_120, kb_126, ks_m1000, ks_243, ks_255, ks_729, ks_1000, ks_2000, ks_2187, ks_6561, ks_9840, ks_9841, kl_0, kl_1, k1, o4, ev3, kd1, ec, ep, ep1, ed, et, en, en2, Int32.neg_neg, kN9, va_up_self]
              refine ⟨vp_in_nI (by omega) (by omega), ?_⟩
              refine ⟨vp_in_nI (by omega) (by omega), ?_⟩
              refine hP 9 _ rfl _ _ _ _ _ _ ?_
              simp only [bJ6_getChars_ba4f3_9, hrun, hx, hnth, hput, hok, hcat2, hldI, hldL, hldR, hpI, hpL, hpA, hpR, hp1, hpV, hrtI, hrtL, hrtR, hrtV, hpN, hck, hrI, hrB, hrL, hrA, hwI, hwA, hwB, hrN, hfk, hfs, hrF, hwF, hcl, hfty, tyX1, tyX3, tyX6, tyX9, tyX10, tyJ0, tyJ4, hfit, hcmp, hnar, hres, hst, hacp, kz, kof, kn0, kn1, Bool.not_true, Bool.not_false, true_and, and_true, Nat.zero_add, Nat.reduceAdd, List.length_cons, List.length_nil, true_or, or_true, false_or, or_false, decide_true, decide_false, ne_eq, not_true_eq_false, not_false_eq_true, ki_0, ki_1, ki_2, ki_3, ki_4, ki_5, kb_m100, kb_m10, kb_m9, kb_m8, kb_m7, kb_m6, kb_m5, kb_m4, kb_m3, kb_m2, kb_6, kb_7, kb_8, kb_9, kb_10, kb_12, kb_13, kb_16, kb_27, kb_31, kb_32, kb_43, kb_45, kb_48, kb_57, kb_60, kb_63, kb_81, kb_97, kb_99, kb_100, kb_120, kb_126, ks_m1000, ks_243, ks_255, ks_729, ks_1000, ks_2000, ks_2187, ks_6561, ks_9840, ks_9841, kl_0, kl_1, k1, o4, ev3, kd1, ec, ep, ep1, ed, et, en, en2, Int32.neg_neg, kN9, va_up_self]
              refine ⟨fun b106 => ?_, fun b106 => ?_⟩
              · try simp (disch := omega) only [nI_ltI, nI_leI, nI_eq, Nat.not_lt, Nat.not_le, nN_le, nN_lt] at b106
                refine hP 11 _ rfl _ _ _ _ _ _ ?_
                simp only [bJ6_getChars_ba4f3_11, hrun, hx, hnth, hput, hok, hcat2, hldI, hldL, hldR, hpI, hpL, hpA, hpR, hp1, hpV, hrtI, hrtL, hrtR, hrtV, hpN, hck, hrI, hrB, hrL, hrA, hwI, hwA, hwB, hrN, hfk, hfs, hrF, hwF, hcl, hfty, tyX1, tyX3, tyX6, tyX9, tyX10, tyJ0, tyJ4, hfit, hcmp, hnar, hres, hst, hacp, kz, kof, kn0, kn1, Bool.not_true, Bool.not_false, true_and, and_true, Nat.zero_add, Nat.reduceAdd, List.length_cons, List.length_nil, true_or, or_true, false_or, or_false, decide_true, decide_false, ne_eq, not_true_eq_false, not_false_eq_true, ki_0, ki_1, ki_2, ki_3, ki_4, ki_5, kb_m100, kb_m10, kb_m9, kb_m8, kb_m7, kb_m6, kb_m5, kb_m4, kb_m3, kb_m2, kb_6, kb_7, kb_8, kb_9, kb_10, kb_12, kb_13, kb_16, kb_27, kb_31, kb_32, kb_43, kb_45, kb_48, kb_57, kb_60, kb_63, kb_81, kb_97, kb_99, kb_100, kb_120, kb_126, ks_m1000, ks_243, ks_255, ks_729, ks_1000, ks_2000, ks_2187, ks_6561, ks_9840, ks_9841, kl_0, kl_1, k1, o4, ev3, kd1, ec, ep, ep1, ed, et, en, en2, Int32.neg_neg, kN9, va_up_self]
                refine h _ _ (va_up_self ..) (hm1.tr ((mfr.up (by simp)).tr (mfr.up (by simp)))) (fun j hj => ?_) (fun i hi => ?_) (hBf.upd (hBf.upd hy1 (by omega)) (by omega))
                · rw [pk_un (by omega), pk_un (by omega)]; exact hlo j hj
                · by_cases qi : i = 0
                  · subst qi
                    rw [show p + 0 = p from rfl, pk_us]
                    have e5 := hpre 0 (by omega)
                    have e6 := mdg_last2 (x := x) (k := 0) hz
                    rw [e5, e6, Nat.mod_eq_of_lt (by omega)]
                  · by_cases qi1 : i = 1
                    · subst qi1
                      rw [pk_un (by omega), pk_us]
                      have e5 := hpre 1 (by omega)
                      have e6 := mdg_last x
                      rw [hz] at e6
                      rw [e5, e6]
                    · rw [pk_un (by omega), pk_un (by omega)]
                      exact hhi i (by omega) hi
              · (try simp (disch := omega) only [nI_ltI, nI_leI, nI_eq, Nat.not_lt, Nat.not_le, nN_le, nN_lt] at b106) <;> (exfalso; omega)
        · by_cases q9 : x < 10
          · have hz : ndg x = 0 := by unfold ndg; rw [if_pos q9]
            have ec : (nI x).toNatClampNeg = x := nI_clamp (by omega)
            have ep := nI_clamp (n := p) (by omega)
            have ed : dOne x = nI (48 + x % 10) := rfl
            have en := kvb (48 + x % 10) (by omega)
            simp only [hz, Nat.add_zero]
            refine hP 7 _ rfl _ _ _ _ _ _ ?_
            simp only [bJ6_getChars_ba4f3_7, hrun, hx, hnth, hput, hok, hcat2, hldI, hldL, hldR, hpI, hpL, hpA, hpR, hp1, hpV, hrtI, hrtL, hrtR, hrtV, hpN, hck, hrI, hrB, hrL, hrA, hwI, hwA, hwB, hrN, hfk, hfs, hrF, hwF, hcl, hfty, tyX1, tyX3, tyX6, tyX9, tyX10, tyJ0, tyJ4, hfit, hcmp, hnar, hres, hst, hacp, kz, kof, kn0, kn1, Bool.not_true, Bool.not_false, true_and, and_true, Nat.zero_add, Nat.reduceAdd, List.length_cons, List.length_nil, true_or, or_true, false_or, or_false, decide_true, decide_false, ne_eq, not_true_eq_false, not_false_eq_true, ki_0, ki_1, ki_2, ki_3, ki_4, ki_5, kb_m100, kb_m10, kb_m9, kb_m8, kb_m7, kb_m6, kb_m5, kb_m4, kb_m3, kb_m2, kb_6, kb_7, kb_8, kb_9, kb_10, kb_12, kb_13, kb_16, kb_27, kb_31, kb_32, kb_43, kb_45, kb_48, kb_57, kb_60, kb_63, kb_81, kb_97, kb_99, kb_100, kb_120, kb_126, ks_m1000, ks_243, ks_255, ks_729, ks_1000, ks_2000, ks_2187, ks_6561, ks_9840, ks_9841, kl_0, kl_1, k1, o4, kd1, ec, ep, ed, en, Int32.neg_neg, kN9]
            refine ⟨vp_in_nI (by omega) (by omega), ?_⟩
            refine ⟨vp_in_nI (by omega) (by omega), ?_⟩
            refine ⟨fun b88 => ?_, fun b88 => ?_⟩
            · try simp (disch := omega) only [nI_ltI, nI_leI, nI_eq, Nat.not_lt, Nat.not_le, nN_le, nN_lt] at b88
              refine hP 9 _ rfl _ _ _ _ _ _ ?_
              simp only [bJ6_getChars_ba4f3_9, hrun, hx, hnth, hput, hok, hcat2, hldI, hldL, hldR, hpI, hpL, hpA, hpR, hp1, hpV, hrtI, hrtL, hrtR, hrtV, hpN, hck, hrI, hrB, hrL, hrA, hwI, hwA, hwB, hrN, hfk, hfs, hrF, hwF, hcl, hfty, tyX1, tyX3, tyX6, tyX9, tyX10, tyJ0, tyJ4, hfit, hcmp, hnar, hres, hst, hacp, kz, kof, kn0, kn1, Bool.not_true, Bool.not_false, true_and, and_true, Nat.zero_add, Nat.reduceAdd, List.length_cons, List.length_nil, true_or, or_true, false_or, or_false, decide_true, decide_false, ne_eq, not_true_eq_false, not_false_eq_true, ki_0, ki_1, ki_2, ki_3, ki_4, ki_5, kb_m100, kb_m10, kb_m9, kb_m8, kb_m7, kb_m6, kb_m5, kb_m4, kb_m3, kb_m2, kb_6, kb_7, kb_8, kb_9, kb_10, kb_12, kb_13, kb_16, kb_27, kb_31, kb_32, kb_43, kb_45, kb_48, kb_57, kb_60, kb_63, kb_81, kb_97, kb_99, kb_100, kb_120, kb_126, ks_m1000, ks_243, ks_255, ks_729, ks_1000, ks_2000, ks_2187, ks_6561, ks_9840, ks_9841, kl_0, kl_1, k1, o4, kd1, ec, ep, ed, en, Int32.neg_neg, kN9]
              refine ⟨fun b106 => ?_, fun b106 => ?_⟩
              · try simp (disch := omega) only [nI_ltI, nI_leI, nI_eq, Nat.not_lt, Nat.not_le, nN_le, nN_lt] at b106
                refine hP 11 _ rfl _ _ _ _ _ _ ?_
                simp only [bJ6_getChars_ba4f3_11, hrun, hx, hnth, hput, hok, hcat2, hldI, hldL, hldR, hpI, hpL, hpA, hpR, hp1, hpV, hrtI, hrtL, hrtR, hrtV, hpN, hck, hrI, hrB, hrL, hrA, hwI, hwA, hwB, hrN, hfk, hfs, hrF, hwF, hcl, hfty, tyX1, tyX3, tyX6, tyX9, tyX10, tyJ0, tyJ4, hfit, hcmp, hnar, hres, hst, hacp, kz, kof, kn0, kn1, Bool.not_true, Bool.not_false, true_and, and_true, Nat.zero_add, Nat.reduceAdd, List.length_cons, List.length_nil, true_or, or_true, false_or, or_false, decide_true, decide_false, ne_eq, not_true_eq_false, not_false_eq_true, ki_0, ki_1, ki_2, ki_3, ki_4, ki_5, kb_m100, kb_m10, kb_m9, kb_m8, kb_m7, kb_m6, kb_m5, kb_m4, kb_m3, kb_m2, kb_6, kb_7, kb_8, kb_9, kb_10, kb_12, kb_13, kb_16, kb_27, kb_31, kb_32, kb_43, kb_45, kb_48, kb_57, kb_60, kb_63, kb_81, kb_97, kb_99, kb_100, kb_120, kb_126, ks_m1000, ks_243, ks_255, ks_729, ks_1000, ks_2000, ks_2187, ks_6561, ks_9840, ks_9841, kl_0, kl_1, k1, o4, kd1, ec, ep, ed, en, Int32.neg_neg, kN9]
                refine h _ _ (va_up_self ..) (hm1.tr (mfr.up (by simp))) (fun j hj => ?_) (fun i hi => ?_) (hBf.upd hy1 (by omega))
                · rw [pk_un (by omega)]; exact hlo j hj
                · by_cases qi : i = 0
                  · subst qi
                    rw [show p + 0 = p from rfl, pk_us]
                    have e5 := hpre 0 (by omega)
                    have e6 := mdg_last x
                    rw [hz] at e6
                    rw [e5, e6]
                  · rw [pk_un (by omega)]
                    exact hhi i (by omega) hi
              · (try simp (disch := omega) only [nI_ltI, nI_leI, nI_eq, Nat.not_lt, Nat.not_le, nN_le, nN_lt] at b106) <;> (exfalso; omega)
            · (try simp (disch := omega) only [nI_ltI, nI_leI, nI_eq, Nat.not_lt, Nat.not_le, nN_le, nN_lt] at b88) <;> (exfalso; omega)
          · have hz : ndg x = 1 := by unfold ndg; rw [if_neg q9, if_pos q1]
            have ec : (nI x).toNatClampNeg = x := nI_clamp (by omega)
            have ep := nI_clamp (n := p) (by omega)
            have ep1 := nI_clamp (n := p + 1) (by omega)
            have ed : dOne x = nI (48 + x % 10) := rfl
            have et : dTen x = nI (48 + x / 10) := rfl
            have en := kvb (48 + x % 10) (by omega)
            have en2 := kvb (48 + x / 10) (by omega)
            simp only [hz]
            refine hP 7 _ rfl _ _ _ _ _ _ ?_
            simp only [bJ6_getChars_ba4f3_7, hrun, hx, hnth, hput, hok, hcat2, hldI, hldL, hldR, hpI, hpL, hpA, hpR, hp1, hpV, hrtI, hrtL, hrtR, hrtV, hpN, hck, hrI, hrB, hrL, hrA, hwI, hwA, hwB, hrN, hfk, hfs, hrF, hwF, hcl, hfty, tyX1, tyX3, tyX6, tyX9, tyX10, tyJ0, tyJ4, hfit, hcmp, hnar, hres, hst, hacp, kz, kof, kn0, kn1, Bool.not_true, Bool.not_false, true_and, and_true, Nat.zero_add, Nat.reduceAdd, List.length_cons, List.length_nil, true_or, or_true, false_or, or_false, decide_true, decide_false, ne_eq, not_true_eq_false, not_false_eq_true, ki_0, ki_1, ki_2, ki_3, ki_4, ki_5, kb_m100, kb_m10, kb_m9, kb_m8, kb_m7, kb_m6, kb_m5, kb_m4, kb_m3, kb_m2, kb_6, kb_7, kb_8, kb_9, kb_10, kb_12, kb_13, kb_16, kb_27, kb_31, kb_32, kb_43, kb_45, kb_48, kb_57, kb_60, kb_63, kb_81, kb_97, kb_99, kb_100, kb_120, kb_126, ks_m1000, ks_243, ks_255, ks_729, ks_1000, ks_2000, ks_2187, ks_6561, ks_9840, ks_9841, kl_0, kl_1, k1, o4, ev3, kd1, ec, ep, ep1, ed, et, en, en2, Int32.neg_neg, kN9, va_up_self]
            refine ⟨vp_in_nI (by omega) (by omega), ?_⟩
            refine ⟨vp_in_nI (by omega) (by omega), ?_⟩
            refine ⟨fun b88 => ?_, fun b88 => ?_⟩
            · (try simp (disch := omega) only [nI_ltI, nI_leI, nI_eq, Nat.not_lt, Nat.not_le, nN_le, nN_lt] at b88) <;> (exfalso; omega)
            · try simp (disch := omega) only [nI_ltI, nI_leI, nI_eq, Nat.not_lt, Nat.not_le, nN_le, nN_lt] at b88
              refine hP 8 _ rfl _ _ _ _ _ _ ?_
              simp only [bJ6_getChars_ba4f3_8, hrun, hx, hnth, hput, hok, hcat2, hldI, hldL, hldR, hpI, hpL, hpA, hpR, hp1, hpV, hrtI, hrtL, hrtR, hrtV, hpN, hck, hrI, hrB, hrL, hrA, hwI, hwA, hwB, hrN, hfk, hfs, hrF, hwF, hcl, hfty, tyX1, tyX3, tyX6, tyX9, tyX10, tyJ0, tyJ4, hfit, hcmp, hnar, hres, hst, hacp, kz, kof, kn0, kn1, Bool.not_true, Bool.not_false, true_and, and_true, Nat.zero_add, Nat.reduceAdd, List.length_cons, List.length_nil, true_or, or_true, false_or, or_false, decide_true, decide_false, ne_eq, not_true_eq_false, not_false_eq_true, ki_0, ki_1, ki_2, ki_3, ki_4, ki_5, kb_m100, kb_m10, kb_m9, kb_m8, kb_m7, kb_m6, kb_m5, kb_m4, kb_m3, kb_m2, kb_6, kb_7, kb_8, kb_9, kb_10, kb_12, kb_13, kb_16, kb_27, kb_31, kb_32, kb_43, kb_45, kb_48, kb_57, kb_60, kb_63, kb_81, kb_97, kb_99, kb_100, kb_120, kb_126, ks_m1000, ks_243, ks_255, ks_729, ks_1000, ks_2000, ks_2187, ks_6561, ks_9840, ks_9841, kl_0, kl_1, k1, o4, ev3, kd1, ec, ep, ep1, ed, et, en, en2, Int32.neg_neg, kN9, va_up_self]
              refine ⟨vp_in_nI (by omega) (by omega), ?_⟩
              refine ⟨vp_in_nI (by omega) (by omega), ?_⟩
              refine hP 9 _ rfl _ _ _ _ _ _ ?_
              simp only [bJ6_getChars_ba4f3_9, hrun, hx, hnth, hput, hok, hcat2, hldI, hldL, hldR, hpI, hpL, hpA, hpR, hp1, hpV, hrtI, hrtL, hrtR, hrtV, hpN, hck, hrI, hrB, hrL, hrA, hwI, hwA, hwB, hrN, hfk, hfs, hrF, hwF, hcl, hfty, tyX1, tyX3, tyX6, tyX9, tyX10, tyJ0, tyJ4, hfit, hcmp, hnar, hres, hst, hacp, kz, kof, kn0, kn1, Bool.not_true, Bool.not_false, true_and, and_true, Nat.zero_add, Nat.reduceAdd, List.length_cons, List.length_nil, true_or, or_true, false_or, or_false, decide_true, decide_false, ne_eq, not_true_eq_false, not_false_eq_true, ki_0, ki_1, ki_2, ki_3, ki_4, ki_5, kb_m100, kb_m10, kb_m9, kb_m8, kb_m7, kb_m6, kb_m5, kb_m4, kb_m3, kb_m2, kb_6, kb_7, kb_8, kb_9, kb_10, kb_12, kb_13, kb_16, kb_27, kb_31, kb_32, kb_43, kb_45, kb_48, kb_57, kb_60, kb_63, kb_81, kb_97, kb_99, kb_100, kb_120, kb_126, ks_m1000, ks_243, ks_255, ks_729, ks_1000, ks_2000, ks_2187, ks_6561, ks_9840, ks_9841, kl_0, kl_1, k1, o4, ev3, kd1, ec, ep, ep1, ed, et, en, en2, Int32.neg_neg, kN9, va_up_self]
              refine ⟨fun b106 => ?_, fun b106 => ?_⟩
              · try simp (disch := omega) only [nI_ltI, nI_leI, nI_eq, Nat.not_lt, Nat.not_le, nN_le, nN_lt] at b106
                refine hP 11 _ rfl _ _ _ _ _ _ ?_
                simp only [bJ6_getChars_ba4f3_11, hrun, hx, hnth, hput, hok, hcat2, hldI, hldL, hldR, hpI, hpL, hpA, hpR, hp1, hpV, hrtI, hrtL, hrtR, hrtV, hpN, hck, hrI, hrB, hrL, hrA, hwI, hwA, hwB, hrN, hfk, hfs, hrF, hwF, hcl, hfty, tyX1, tyX3, tyX6, tyX9, tyX10, tyJ0, tyJ4, hfit, hcmp, hnar, hres, hst, hacp, kz, kof, kn0, kn1, Bool.not_true, Bool.not_false, true_and, and_true, Nat.zero_add, Nat.reduceAdd, List.length_cons, List.length_nil, true_or, or_true, false_or, or_false, decide_true, decide_false, ne_eq, not_true_eq_false, not_false_eq_true, ki_0, ki_1, ki_2, ki_3, ki_4, ki_5, kb_m100, kb_m10, kb_m9, kb_m8, kb_m7, kb_m6, kb_m5, kb_m4, kb_m3, kb_m2, kb_6, kb_7, kb_8, kb_9, kb_10, kb_12, kb_13, kb_16, kb_27, kb_31, kb_32, kb_43, kb_45, kb_48, kb_57, kb_60, kb_63, kb_81, kb_97, kb_99, kb_100, kb_120, kb_126, ks_m1000, ks_243, ks_255, ks_729, ks_1000, ks_2000, ks_2187, ks_6561, ks_9840, ks_9841, kl_0, kl_1, k1, o4, ev3, kd1, ec, ep, ep1, ed, et, en, en2, Int32.neg_neg, kN9, va_up_self]
                refine h _ _ (va_up_self ..) (hm1.tr ((mfr.up (by simp)).tr (mfr.up (by simp)))) (fun j hj => ?_) (fun i hi => ?_) (hBf.upd (hBf.upd hy1 (by omega)) (by omega))
                · rw [pk_un (by omega), pk_un (by omega)]; exact hlo j hj
                · by_cases qi : i = 0
                  · subst qi
                    rw [show p + 0 = p from rfl, pk_us]
                    have e5 := hpre 0 (by omega)
                    have e6 := mdg_last2 (x := x) (k := 0) hz
                    rw [e5, e6, Nat.mod_eq_of_lt (by omega)]
                  · by_cases qi1 : i = 1
                    · subst qi1
                      rw [pk_un (by omega), pk_us]
                      have e5 := hpre 1 (by omega)
                      have e6 := mdg_last x
                      rw [hz] at e6
                      rw [e5, e6]
                    · rw [pk_un (by omega), pk_un (by omega)]
                      exact hhi i (by omega) hi
              · (try simp (disch := omega) only [nI_ltI, nI_leI, nI_eq, Nat.not_lt, Nat.not_le, nN_le, nN_lt] at b106) <;> (exfalso; omega)
      · try simp (disch := omega) only [nI_ltI, nI_leI, nI_eq, Nat.not_lt, Nat.not_le, nN_le, nN_lt] at b25
        have hy := ndg_100 b25 (by omega)
        have ec : (nI (x % 100)).toNatClampNeg = x % 100 := nI_clamp (by omega)
        have er : -nI (x / 100) * nI 100 - -nI x = nI (x % 100) := by
          rw [nN_rem (by omega)]; congr 1; omega
        have ediv := nN_div (n := x) (by omega)
        have ep1 := nI_clamp (n := p + (ndg (x / 100) + 1)) (by omega)
        have ep2 := nI_clamp (n := p + (ndg (x / 100) + 1) + 1) (by omega)
        have ed : dOne (x % 100) = nI (48 + x % 100 % 10) := rfl
        have et : dTen (x % 100) = nI (48 + x % 100 / 10) := rfl
        have en := kvb (48 + x % 100 % 10) (by omega)
        have en2 := kvb (48 + x % 100 / 10) (by omega)
        have hpos : p + ndg x + 1 = p + (ndg (x / 100) + 1) + 1 + 1 := by omega
        rw [hpos]
        refine hP 6 _ rfl _ _ _ _ _ _ ?_
        simp only [bJ6_getChars_ba4f3_6, hrun, hx, hnth, hput, hok, hcat2, hldI, hldL, hldR, hpI, hpL, hpA, hpR, hp1, hpV, hrtI, hrtL, hrtR, hrtV, hpN, hck, hrI, hrB, hrL, hrA, hwI, hwA, hwB, hrN, hfk, hfs, hrF, hwF, hcl, hfty, tyX1, tyX3, tyX6, tyX9, tyX10, tyJ0, tyJ4, hfit, hcmp, hnar, hres, hst, hacp, kz, kof, kn0, kn1, Bool.not_true, Bool.not_false, true_and, and_true, Nat.zero_add, Nat.reduceAdd, List.length_cons, List.length_nil, true_or, or_true, false_or, or_false, decide_true, decide_false, ne_eq, not_true_eq_false, not_false_eq_true, ki_0, ki_1, ki_2, ki_3, ki_4, ki_5, kb_m100, kb_m10, kb_m9, kb_m8, kb_m7, kb_m6, kb_m5, kb_m4, kb_m3, kb_m2, kb_6, kb_7, kb_8, kb_9, kb_10, kb_12, kb_13, kb_16, kb_27, kb_31, kb_32, kb_43, kb_45, kb_48, kb_57, kb_60, kb_63, kb_81, kb_97, kb_99, kb_100, kb_120, kb_126, ks_m1000, ks_243, ks_255, ks_729, ks_1000, ks_2000, ks_2187, ks_6561, ks_9840, ks_9841, kl_0, kl_1, k1, o4, ev3, kd1, ec, ep1, ep2, ed, et, en, en2, er, ediv, va_up_self]
        refine ⟨by decide, ?_⟩
        refine ⟨vp_in_nI (by omega) (by omega), ?_⟩
        refine ⟨vp_in_nI (by omega) (by omega), ?_⟩
        refine ⟨vp_in_nI (by omega) (by omega), ?_⟩
        refine ⟨vp_in_nI (by omega) (by omega), ?_⟩
        have hpos2 : p + (ndg (x / 100) + 1) = p + ndg (x / 100) + 1 := by omega
        rw [hpos2]
        refine ih (x / 100) _ _ _ _ hq (Or.inr ⟨_, rfl⟩) (va_up_self ..) (hm1.tr ((mfr.up (by simp)).tr (mfr.up (by simp)))) (by omega) (by omega) (fun i hi => ?_) (fun j hj => ?_) (fun i h1 h2 => ?_) (hBf.upd (hBf.upd hy1 (by omega)) (by omega))
        · rw [hpre i (by omega), mdg_pre b25 (by omega) hi]
        · rw [pk_un (by omega), pk_un (by omega)]; exact hlo j hj
        · by_cases qi : i = ndg (x / 100) + 1
          · subst qi
            rw [show p + ndg (x / 100) + 1 = p + (ndg (x / 100) + 1) by omega, pk_us]
            have e6 := mdg_last2 (x := x) (k := ndg (x / 100) + 1) (by omega)
            rw [hpre _ (by omega), e6]
            congr 2
            omega
          · by_cases qi1 : i = ndg (x / 100) + 2
            · subst qi1
              rw [pk_un (by omega), show p + (ndg (x / 100) + 2) = p + ndg (x / 100) + 1 + 1 by omega, pk_us]
              have e6 := mdg_last x
              rw [hy] at e6
              rw [hpre _ (by omega), e6]
              congr 2
              omega
            · rw [pk_un (by omega), pk_un (by omega)]
              exact hhi i (by omega) h2
  refine hP 0 _ rfl _ _ _ _ _ _ ?_
  simp only [bJ6_getChars_ba4f3_0, hrun, hx, hnth, hput, hok, hcat2, hldI, hldL, hldR, hpI, hpL, hpA, hpR, hp1, hpV, hrtI, hrtL, hrtR, hrtV, hpN, hck, hrI, hrB, hrL, hrA, hwI, hwA, hwB, hrN, hfk, hfs, hrF, hwF, hcl, hfty, tyX1, tyX3, tyX6, tyX9, tyX10, tyJ0, tyJ4, hfit, hcmp, hnar, hres, hst, hacp, kz, kof, kn0, kn1, Bool.not_true, Bool.not_false, true_and, and_true, Nat.zero_add, Nat.reduceAdd, List.length_cons, List.length_nil, true_or, or_true, false_or, or_false, decide_true, decide_false, ne_eq, not_true_eq_false, not_false_eq_true, ki_0, ki_1, ki_2, ki_3, ki_4, ki_5, kb_m100, kb_m10, kb_m9, kb_m8, kb_m7, kb_m6, kb_m5, kb_m4, kb_m3, kb_m2, kb_6, kb_7, kb_8, kb_9, kb_10, kb_12, kb_13, kb_16, kb_27, kb_31, kb_32, kb_43, kb_45, kb_48, kb_57, kb_60, kb_63, kb_81, kb_97, kb_99, kb_100, kb_120, kb_126, ks_m1000, ks_243, ks_255, ks_729, ks_1000, ks_2000, ks_2187, ks_6561, ks_9840, ks_9841, kl_0, kl_1]
  refine ⟨fun b4 => ?_, fun b4 => ?_⟩
  · try simp (disch := omega) only [nI_ltI, nI_leI, nI_eq, Nat.not_lt, Nat.not_le] at b4
    refine hP 2 _ rfl _ _ _ _ _ _ ?_
    simp only [bJ6_getChars_ba4f3_2, hrun, hx, hnth, hput, hok, hcat2, hldI, hldL, hldR, hpI, hpL, hpA, hpR, hp1, hpV, hrtI, hrtL, hrtR, hrtV, hpN, hck, hrI, hrB, hrL, hrA, hwI, hwA, hwB, hrN, hfk, hfs, hrF, hwF, hcl, hfty, tyX1, tyX3, tyX6, tyX9, tyX10, tyJ0, tyJ4, hfit, hcmp, hnar, hres, hst, hacp, kz, kof, kn0, kn1, Bool.not_true, Bool.not_false, true_and, and_true, Nat.zero_add, Nat.reduceAdd, List.length_cons, List.length_nil, true_or, or_true, false_or, or_false, decide_true, decide_false, ne_eq, not_true_eq_false, not_false_eq_true, ki_0, ki_1, ki_2, ki_3, ki_4, ki_5, kb_m100, kb_m10, kb_m9, kb_m8, kb_m7, kb_m6, kb_m5, kb_m4, kb_m3, kb_m2, kb_6, kb_7, kb_8, kb_9, kb_10, kb_12, kb_13, kb_16, kb_27, kb_31, kb_32, kb_43, kb_45, kb_48, kb_57, kb_60, kb_63, kb_81, kb_97, kb_99, kb_100, kb_120, kb_126, ks_m1000, ks_243, ks_255, ks_729, ks_1000, ks_2000, ks_2187, ks_6561, ks_9840, ks_9841, kl_0, kl_1]
    refine hP 3 _ rfl _ _ _ _ _ _ ?_
    simp only [bJ6_getChars_ba4f3_3, hrun, hx, hnth, hput, hok, hcat2, hldI, hldL, hldR, hpI, hpL, hpA, hpR, hp1, hpV, hrtI, hrtL, hrtR, hrtV, hpN, hck, hrI, hrB, hrL, hrA, hwI, hwA, hwB, hrN, hfk, hfs, hrF, hwF, hcl, hfty, tyX1, tyX3, tyX6, tyX9, tyX10, tyJ0, tyJ4, hfit, hcmp, hnar, hres, hst, hacp, kz, kof, kn0, kn1, Bool.not_true, Bool.not_false, true_and, and_true, Nat.zero_add, Nat.reduceAdd, List.length_cons, List.length_nil, true_or, or_true, false_or, or_false, decide_true, decide_false, ne_eq, not_true_eq_false, not_false_eq_true, ki_0, ki_1, ki_2, ki_3, ki_4, ki_5, kb_m100, kb_m10, kb_m9, kb_m8, kb_m7, kb_m6, kb_m5, kb_m4, kb_m3, kb_m2, kb_6, kb_7, kb_8, kb_9, kb_10, kb_12, kb_13, kb_16, kb_27, kb_31, kb_32, kb_43, kb_45, kb_48, kb_57, kb_60, kb_63, kb_81, kb_97, kb_99, kb_100, kb_120, kb_126, ks_m1000, ks_243, ks_255, ks_729, ks_1000, ks_2000, ks_2187, ks_6561, ks_9840, ks_9841, kl_0, kl_1]
    refine ⟨fun b16 => ?_, fun b16 => ?_⟩
    · (try simp (disch := omega) only [nI_ltI, nI_leI, nI_eq, Nat.not_lt, Nat.not_le] at b16) <;> (exfalso; omega)
    · try simp (disch := omega) only [nI_ltI, nI_leI, nI_eq, Nat.not_lt, Nat.not_le] at b16
      refine hP 4 _ rfl _ _ _ _ _ _ ?_
      simp only [bJ6_getChars_ba4f3_4, hrun, hx, hnth, hput, hok, hcat2, hldI, hldL, hldR, hpI, hpL, hpA, hpR, hp1, hpV, hrtI, hrtL, hrtR, hrtV, hpN, hck, hrI, hrB, hrL, hrA, hwI, hwA, hwB, hrN, hfk, hfs, hrF, hwF, hcl, hfty, tyX1, tyX3, tyX6, tyX9, tyX10, tyJ0, tyJ4, hfit, hcmp, hnar, hres, hst, hacp, kz, kof, kn0, kn1, Bool.not_true, Bool.not_false, true_and, and_true, Nat.zero_add, Nat.reduceAdd, List.length_cons, List.length_nil, true_or, or_true, false_or, or_false, decide_true, decide_false, ne_eq, not_true_eq_false, not_false_eq_true, ki_0, ki_1, ki_2, ki_3, ki_4, ki_5, kb_m100, kb_m10, kb_m9, kb_m8, kb_m7, kb_m6, kb_m5, kb_m4, kb_m3, kb_m2, kb_6, kb_7, kb_8, kb_9, kb_10, kb_12, kb_13, kb_16, kb_27, kb_31, kb_32, kb_43, kb_45, kb_48, kb_57, kb_60, kb_63, kb_81, kb_97, kb_99, kb_100, kb_120, kb_126, ks_m1000, ks_243, ks_255, ks_729, ks_1000, ks_2000, ks_2187, ks_6561, ks_9840, ks_9841, kl_0, kl_1]
      exact loop 3 n w F none none (Nat.lt_of_le_of_lt hn (by decide)) (Or.inl rfl) kv mfr.rf hn (Nat.le_refl _) (fun _ _ => rfl) (fun _ _ => rfl) (fun i h1 h2 => by omega) hfy
  · (try simp (disch := omega) only [nI_ltI, nI_leI, nI_eq, Nat.not_lt, Nat.not_le] at b4) <;> (exfalso; omega)
end WJ6
