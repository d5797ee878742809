/-! the class's Polynomial -/
section W3
variable {g : hG} {d N c s : Nat} {w : hWd} {Q : hRt}
/-- a polynomial as the class keeps it: terms in rising order of the words' numbers -/
def mP (L : List (Nat × Int)) : Prop := L.length ≤ 120 ∧ (∀ q ∈ L, q.1 < 9841 ∧ q.2 ≠ 0 ∧ -1000000 ≤ q.2 ∧ q.2 ≤ 1000000) ∧ L.Pairwise (fun a b => a.1 < b.1)
def hPoly (w : hWd) (p a b : Nat) (L : List (Nat × Int)) : Prop := a ≠ b ∧ ∃ cf nf, w p = .inr (3, [.ref a, .ref b, .int (nI L.length)]) ∧ w a = .inl (0, 120, .inl cf) ∧ w b = .inl (0, 120, .inl nf) ∧ ∀ (i : Nat) (q : Nat × Int), L[i]? = some q → cf i = nI q.1 ∧ nf i = Int32.ofInt q.2
theorem hPoly.keep {w w' : hWd} {p a b : Nat} {L : List (Nat × Int)} (h : hPoly w p a b L) (h1 : w' p = w p) (h2 : w' a = w a) (h3 : w' b = w b) : hPoly w' p a b L := by
  obtain ⟨e0, cf, nf, e1, e2, e3, e4⟩ := h
  exact ⟨e0, cf, nf, by rw [h1, e1], by rw [h2, e2], by rw [h3, e3], e4⟩
theorem ofI64 (z : Int) (h1 : -1000000 ≤ z) (h2 : z ≤ 1000000) : (Int32.ofInt z).toInt64 = Int64.ofInt z := by
  apply Int64.toInt_inj.mp
  rw [Int32.toInt_toInt64, Int32.toInt_ofInt_of_le (by omega) (by omega), Int64.toInt_ofInt_of_le (by omega) (by omega)]
theorem ofI32 (z : Int) (h1 : -1000000 ≤ z) (h2 : z ≤ 1000000) : (Int64.ofInt z).toInt32 = Int32.ofInt z := by
  apply Int32.toInt_inj.mp
  rw [Int64.toInt_toInt32, Int64.toInt_ofInt_of_le (by omega) (by omega), Int32.toInt_ofInt]
/-- the coefficient of the word with number c -/
def mcoef (L : List (Nat × Int)) (c : Nat) : Int := match L.find? (fun q => q.1 == c) with | some q => q.2 | none => 0
theorem mP.at {L : List (Nat × Int)} (h : mP L) {i : Nat} {q : Nat × Int} (hi : L[i]? = some q) : i < L.length ∧ i < 120 ∧ q.1 < 9841 ∧ q.2 ≠ 0 ∧ -1000000 ≤ q.2 ∧ q.2 ≤ 1000000 := by
  have h1 := (List.getElem?_eq_some_iff.mp hi).1
  have h2 := h.2.1 q (List.mem_of_getElem? hi)
  exact ⟨h1, by have := h.1; omega, h2⟩
set_option maxRecDepth 100000 in
set_option maxHeartbeats 4000000 in
theorem c_size (hg : hgo g) (hd : 1 ≤ d) {p a b : Nat} {L : List (Nat × Int)} (hp : hPoly w p a b L) (hL : mP L)  (h : Q (some (.int (nI L.length))) N c s w) : Γ g d yX3_size [.ref p] N c s w Q := by
  refine Γ.intro0 hg kX3_size (by omega) (Nat.le_of_ble_eq_true rfl) (fun P hP => ?_)
  show P N 0 0 w 0 [some (.ref p)] []
  obtain ⟨hab, cf, nf, hw1, hw2, hw3, hw4⟩ := hp
  have hL1 := hL.1
  refine hP 0 _ rfl _ _ _ _ _ _ ?_
  simp only [bX3_size_0, hrun, hx, hnth, hput, hok, hcat2, hldI, hldL, hldR, hpI, hpL, hpA, hpR, hp1, hpV, hrtI, hrtL, hrtR, hrtV, hpN, hck, hrI, hrB, hrL, hrA, hwI, hwA, hwB, hrN, hfk, hfs, hrF, hwF, hcl, hfty, tyX1, tyX3, tyX6, tyX9, tyX10, tyJ0, tyJ4, hfit, hcmp, hnar, hres, hst, hacp, kz, kof, kn0, kn1, Bool.not_true, Bool.not_false, true_and, and_true, Nat.zero_add, Nat.reduceAdd, List.length_cons, List.length_nil, true_or, or_true, false_or, or_false, decide_true, decide_false, ne_eq, not_true_eq_false, not_false_eq_true, ki_0, ki_1, ki_2, ki_3, ki_4, ki_5, kb_m100, kb_m10, kb_m9, kb_m8, kb_m7, kb_m6, kb_m5, kb_m4, kb_m3, kb_m2, kb_6, kb_7, kb_8, kb_9, kb_10, kb_12, kb_13, kb_16, kb_27, kb_31, kb_32, kb_43, kb_45, kb_48, kb_57, kb_60, kb_63, kb_81, kb_97, kb_99, kb_100, kb_120, kb_126, ks_m1000, ks_243, ks_255, ks_729, ks_1000, ks_2000, ks_2187, ks_6561, ks_9840, ks_9841, kl_0, kl_1, hw1, hw2, hw3]
  exact h
set_option maxRecDepth 100000 in
set_option maxHeartbeats 4000000 in
theorem c_hasTerm (hg : hgo g) (hd : 1 ≤ d) {p a b : Nat} {L : List (Nat × Int)} (hp : hPoly w p a b L) (hL : mP L) {i : Nat} (hi : i < L.length)  (h : Q (some (.int (nI 1))) N c s w) : Γ g d yX3_hasTerm [.ref p, .int (nI i)] N c s w Q := by
  refine Γ.intro0 hg kX3_hasTerm (by omega) (Nat.le_of_ble_eq_true rfl) (fun P hP => ?_)
  show P N 0 0 w 0 [some (.ref p), some (.int (nI i))] []
  obtain ⟨hab, cf, nf, hw1, hw2, hw3, hw4⟩ := hp
  have hL1 := hL.1
  refine hP 0 _ rfl _ _ _ _ _ _ ?_
  simp only [bX3_hasTerm_0, hrun, hx, hnth, hput, hok, hcat2, hldI, hldL, hldR, hpI, hpL, hpA, hpR, hp1, hpV, hrtI, hrtL, hrtR, hrtV, hpN, hck, hrI, hrB, hrL, hrA, hwI, hwA, hwB, hrN, hfk, hfs, hrF, hwF, hcl, hfty, tyX1, tyX3, tyX6, tyX9, tyX10, tyJ0, tyJ4, hfit, hcmp, hnar, hres, hst, hacp, kz, kof, kn0, kn1, Bool.not_true, Bool.not_false, true_and, and_true, Nat.zero_add, Nat.reduceAdd, List.length_cons, List.length_nil, true_or, or_true, false_or, or_false, decide_true, decide_false, ne_eq, not_true_eq_false, not_false_eq_true, ki_0, ki_1, ki_2, ki_3, ki_4, ki_5, kb_m100, kb_m10, kb_m9, kb_m8, kb_m7, kb_m6, kb_m5, kb_m4, kb_m3, kb_m2, kb_6, kb_7, kb_8, kb_9, kb_10, kb_12, kb_13, kb_16, kb_27, kb_31, kb_32, kb_43, kb_45, kb_48, kb_57, kb_60, kb_63, kb_81, kb_97, kb_99, kb_100, kb_120, kb_126, ks_m1000, ks_243, ks_255, ks_729, ks_1000, ks_2000, ks_2187, ks_6561, ks_9840, ks_9841, kl_0, kl_1, hw1, hw2, hw3]
  refine ⟨fun b1 => ?_, fun b1 => ?_⟩
  · (try simp (disch := omega) only [nI_ltI, nI_leI, nI_eq, Nat.not_lt, Nat.not_le] at b1) <;> (exfalso; omega)
  · try simp (disch := omega) only [nI_ltI, nI_leI, nI_eq, Nat.not_lt, Nat.not_le] at b1
    refine hP 1 _ rfl _ _ _ _ _ _ ?_
    simp only [bX3_hasTerm_1, hrun, hx, hnth, hput, hok, hcat2, hldI, hldL, hldR, hpI, hpL, hpA, hpR, hp1, hpV, hrtI, hrtL, hrtR, hrtV, hpN, hck, hrI, hrB, hrL, hrA, hwI, hwA, hwB, hrN, hfk, hfs, hrF, hwF, hcl, hfty, tyX1, tyX3, tyX6, tyX9, tyX10, tyJ0, tyJ4, hfit, hcmp, hnar, hres, hst, hacp, kz, kof, kn0, kn1, Bool.not_true, Bool.not_false, true_and, and_true, Nat.zero_add, Nat.reduceAdd, List.length_cons, List.length_nil, true_or, or_true, false_or, or_false, decide_true, decide_false, ne_eq, not_true_eq_false, not_false_eq_true, ki_0, ki_1, ki_2, ki_3, ki_4, ki_5, kb_m100, kb_m10, kb_m9, kb_m8, kb_m7, kb_m6, kb_m5, kb_m4, kb_m3, kb_m2, kb_6, kb_7, kb_8, kb_9, kb_10, kb_12, kb_13, kb_16, kb_27, kb_31, kb_32, kb_43, kb_45, kb_48, kb_57, kb_60, kb_63, kb_81, kb_97, kb_99, kb_100, kb_120, kb_126, ks_m1000, ks_243, ks_255, ks_729, ks_1000, ks_2000, ks_2187, ks_6561, ks_9840, ks_9841, kl_0, kl_1, hw1, hw2, hw3]
    refine ⟨fun b9 => ?_, fun b9 => ?_⟩
    · (try simp (disch := omega) only [nI_ltI, nI_leI, nI_eq, Nat.not_lt, Nat.not_le] at b9) <;> (exfalso; omega)
    · try simp (disch := omega) only [nI_ltI, nI_leI, nI_eq, Nat.not_lt, Nat.not_le] at b9
      refine hP 2 _ rfl _ _ _ _ _ _ ?_
      simp only [bX3_hasTerm_2, hrun, hx, hnth, hput, hok, hcat2, hldI, hldL, hldR, hpI, hpL, hpA, hpR, hp1, hpV, hrtI, hrtL, hrtR, hrtV, hpN, hck, hrI, hrB, hrL, hrA, hwI, hwA, hwB, hrN, hfk, hfs, hrF, hwF, hcl, hfty, tyX1, tyX3, tyX6, tyX9, tyX10, tyJ0, tyJ4, hfit, hcmp, hnar, hres, hst, hacp, kz, kof, kn0, kn1, Bool.not_true, Bool.not_false, true_and, and_true, Nat.zero_add, Nat.reduceAdd, List.length_cons, List.length_nil, true_or, or_true, false_or, or_false, decide_true, decide_false, ne_eq, not_true_eq_false, not_false_eq_true, ki_0, ki_1, ki_2, ki_3, ki_4, ki_5, kb_m100, kb_m10, kb_m9, kb_m8, kb_m7, kb_m6, kb_m5, kb_m4, kb_m3, kb_m2, kb_6, kb_7, kb_8, kb_9, kb_10, kb_12, kb_13, kb_16, kb_27, kb_31, kb_32, kb_43, kb_45, kb_48, kb_57, kb_60, kb_63, kb_81, kb_97, kb_99, kb_100, kb_120, kb_126, ks_m1000, ks_243, ks_255, ks_729, ks_1000, ks_2000, ks_2187, ks_6561, ks_9840, ks_9841, kl_0, kl_1, hw1, hw2, hw3]
      refine hP 4 _ rfl _ _ _ _ _ _ ?_
      simp only [bX3_hasTerm_4, hrun, hx, hnth, hput, hok, hcat2, hldI, hldL, hldR, hpI, hpL, hpA, hpR, hp1, hpV, hrtI, hrtL, hrtR, hrtV, hpN, hck, hrI, hrB, hrL, hrA, hwI, hwA, hwB, hrN, hfk, hfs, hrF, hwF, hcl, hfty, tyX1, tyX3, tyX6, tyX9, tyX10, tyJ0, tyJ4, hfit, hcmp, hnar, hres, hst, hacp, kz, kof, kn0, kn1, Bool.not_true, Bool.not_false, true_and, and_true, Nat.zero_add, Nat.reduceAdd, List.length_cons, List.length_nil, true_or, or_true, false_or, or_false, decide_true, decide_false, ne_eq, not_true_eq_false, not_false_eq_true, ki_0, ki_1, ki_2, ki_3, ki_4, ki_5, kb_m100, kb_m10, kb_m9, kb_m8, kb_m7, kb_m6, kb_m5, kb_m4, kb_m3, kb_m2, kb_6, kb_7, kb_8, kb_9, kb_10, kb_12, kb_13, kb_16, kb_27, kb_31, kb_32, kb_43, kb_45, kb_48, kb_57, kb_60, kb_63, kb_81, kb_97, kb_99, kb_100, kb_120, kb_126, ks_m1000, ks_243, ks_255, ks_729, ks_1000, ks_2000, ks_2187, ks_6561, ks_9840, ks_9841, kl_0, kl_1, hw1, hw2, hw3]
      exact h
set_option maxRecDepth 100000 in
set_option maxHeartbeats 4000000 in
theorem c_hasTermN (hg : hgo g) (hd : 1 ≤ d) {p a b : Nat} {L : List (Nat × Int)} (hp : hPoly w p a b L) (hL : mP L) {x : Int32} (hxr : x < nI 0 ∨ nI L.length ≤ x)  (h : Q (some (.int (nI 0))) N c s w) : Γ g d yX3_hasTerm [.ref p, .int x] N c s w Q := by
  refine Γ.intro0 hg kX3_hasTerm (by omega) (Nat.le_of_ble_eq_true rfl) (fun P hP => ?_)
  show P N 0 0 w 0 [some (.ref p), some (.int x)] []
  obtain ⟨hab, cf, nf, hw1, hw2, hw3, hw4⟩ := hp
  have hL1 := hL.1
  refine hP 0 _ rfl _ _ _ _ _ _ ?_
  simp only [bX3_hasTerm_0, hrun, hx, hnth, hput, hok, hcat2, hldI, hldL, hldR, hpI, hpL, hpA, hpR, hp1, hpV, hrtI, hrtL, hrtR, hrtV, hpN, hck, hrI, hrB, hrL, hrA, hwI, hwA, hwB, hrN, hfk, hfs, hrF, hwF, hcl, hfty, tyX1, tyX3, tyX6, tyX9, tyX10, tyJ0, tyJ4, hfit, hcmp, hnar, hres, hst, hacp, kz, kof, kn0, kn1, Bool.not_true, Bool.not_false, true_and, and_true, Nat.zero_add, Nat.reduceAdd, List.length_cons, List.length_nil, true_or, or_true, false_or, or_false, decide_true, decide_false, ne_eq, not_true_eq_false, not_false_eq_true, ki_0, ki_1, ki_2, ki_3, ki_4, ki_5, kb_m100, kb_m10, kb_m9, kb_m8, kb_m7, kb_m6, kb_m5, kb_m4, kb_m3, kb_m2, kb_6, kb_7, kb_8, kb_9, kb_10, kb_12, kb_13, kb_16, kb_27, kb_31, kb_32, kb_43, kb_45, kb_48, kb_57, kb_60, kb_63, kb_81, kb_97, kb_99, kb_100, kb_120, kb_126, ks_m1000, ks_243, ks_255, ks_729, ks_1000, ks_2000, ks_2187, ks_6561, ks_9840, ks_9841, kl_0, kl_1, hw1, hw2, hw3]
  refine ⟨fun b1 => ?_, fun b1 => ?_⟩
  · skip
    refine hP 3 _ rfl _ _ _ _ _ _ ?_
    simp only [bX3_hasTerm_3, hrun, hx, hnth, hput, hok, hcat2, hldI, hldL, hldR, hpI, hpL, hpA, hpR, hp1, hpV, hrtI, hrtL, hrtR, hrtV, hpN, hck, hrI, hrB, hrL, hrA, hwI, hwA, hwB, hrN, hfk, hfs, hrF, hwF, hcl, hfty, tyX1, tyX3, tyX6, tyX9, tyX10, tyJ0, tyJ4, hfit, hcmp, hnar, hres, hst, hacp, kz, kof, kn0, kn1, Bool.not_true, Bool.not_false, true_and, and_true, Nat.zero_add, Nat.reduceAdd, List.length_cons, List.length_nil, true_or, or_true, false_or, or_false, decide_true, decide_false, ne_eq, not_true_eq_false, not_false_eq_true, ki_0, ki_1, ki_2, ki_3, ki_4, ki_5, kb_m100, kb_m10, kb_m9, kb_m8, kb_m7, kb_m6, kb_m5, kb_m4, kb_m3, kb_m2, kb_6, kb_7, kb_8, kb_9, kb_10, kb_12, kb_13, kb_16, kb_27, kb_31, kb_32, kb_43, kb_45, kb_48, kb_57, kb_60, kb_63, kb_81, kb_97, kb_99, kb_100, kb_120, kb_126, ks_m1000, ks_243, ks_255, ks_729, ks_1000, ks_2000, ks_2187, ks_6561, ks_9840, ks_9841, kl_0, kl_1, hw1, hw2, hw3]
    refine hP 4 _ rfl _ _ _ _ _ _ ?_
    simp only [bX3_hasTerm_4, hrun, hx, hnth, hput, hok, hcat2, hldI, hldL, hldR, hpI, hpL, hpA, hpR, hp1, hpV, hrtI, hrtL, hrtR, hrtV, hpN, hck, hrI, hrB, hrL, hrA, hwI, hwA, hwB, hrN, hfk, hfs, hrF, hwF, hcl, hfty, tyX1, tyX3, tyX6, tyX9, tyX10, tyJ0, tyJ4, hfit, hcmp, hnar, hres, hst, hacp, kz, kof, kn0, kn1, Bool.not_true, Bool.not_false, true_and, and_true, Nat.zero_add, Nat.reduceAdd, List.length_cons, List.length_nil, true_or, or_true, false_or, or_false, decide_true, decide_false, ne_eq, not_true_eq_false, not_false_eq_true, ki_0, ki_1, ki_2, ki_3, ki_4, ki_5, kb_m100, kb_m10, kb_m9, kb_m8, kb_m7, kb_m6, kb_m5, kb_m4, kb_m3, kb_m2, kb_6, kb_7, kb_8, kb_9, kb_10, kb_12, kb_13, kb_16, kb_27, kb_31, kb_32, kb_43, kb_45, kb_48, kb_57, kb_60, kb_63, kb_81, kb_97, kb_99, kb_100, kb_120, kb_126, ks_m1000, ks_243, ks_255, ks_729, ks_1000, ks_2000, ks_2187, ks_6561, ks_9840, ks_9841, kl_0, kl_1, hw1, hw2, hw3]
    exact h
  · skip
    refine hP 1 _ rfl _ _ _ _ _ _ ?_
    simp only [bX3_hasTerm_1, hrun, hx, hnth, hput, hok, hcat2, hldI, hldL, hldR, hpI, hpL, hpA, hpR, hp1, hpV, hrtI, hrtL, hrtR, hrtV, hpN, hck, hrI, hrB, hrL, hrA, hwI, hwA, hwB, hrN, hfk, hfs, hrF, hwF, hcl, hfty, tyX1, tyX3, tyX6, tyX9, tyX10, tyJ0, tyJ4, hfit, hcmp, hnar, hres, hst, hacp, kz, kof, kn0, kn1, Bool.not_true, Bool.not_false, true_and, and_true, Nat.zero_add, Nat.reduceAdd, List.length_cons, List.length_nil, true_or, or_true, false_or, or_false, decide_true, decide_false, ne_eq, not_true_eq_false, not_false_eq_true, ki_0, ki_1, ki_2, ki_3, ki_4, ki_5, kb_m100, kb_m10, kb_m9, kb_m8, kb_m7, kb_m6, kb_m5, kb_m4, kb_m3, kb_m2, kb_6, kb_7, kb_8, kb_9, kb_10, kb_12, kb_13, kb_16, kb_27, kb_31, kb_32, kb_43, kb_45, kb_48, kb_57, kb_60, kb_63, kb_81, kb_97, kb_99, kb_100, kb_120, kb_126, ks_m1000, ks_243, ks_255, ks_729, ks_1000, ks_2000, ks_2187, ks_6561, ks_9840, ks_9841, kl_0, kl_1, hw1, hw2, hw3]
    refine ⟨fun b9 => ?_, fun b9 => ?_⟩
    · skip
      refine hP 3 _ rfl _ _ _ _ _ _ ?_
      simp only [bX3_hasTerm_3, hrun, hx, hnth, hput, hok, hcat2, hldI, hldL, hldR, hpI, hpL, hpA, hpR, hp1, hpV, hrtI, hrtL, hrtR, hrtV, hpN, hck, hrI, hrB, hrL, hrA, hwI, hwA, hwB, hrN, hfk, hfs, hrF, hwF, hcl, hfty, tyX1, tyX3, tyX6, tyX9, tyX10, tyJ0, tyJ4, hfit, hcmp, hnar, hres, hst, hacp, kz, kof, kn0, kn1, Bool.not_true, Bool.not_false, true_and, and_true, Nat.zero_add, Nat.reduceAdd, List.length_cons, List.length_nil, true_or, or_true, false_or, or_false, decide_true, decide_false, ne_eq, not_true_eq_false, not_false_eq_true, ki_0, ki_1, ki_2, ki_3, ki_4, ki_5, kb_m100, kb_m10, kb_m9, kb_m8, kb_m7, kb_m6, kb_m5, kb_m4, kb_m3, kb_m2, kb_6, kb_7, kb_8, kb_9, kb_10, kb_12, kb_13, kb_16, kb_27, kb_31, kb_32, kb_43, kb_45, kb_48, kb_57, kb_60, kb_63, kb_81, kb_97, kb_99, kb_100, kb_120, kb_126, ks_m1000, ks_243, ks_255, ks_729, ks_1000, ks_2000, ks_2187, ks_6561, ks_9840, ks_9841, kl_0, kl_1, hw1, hw2, hw3]
      refine hP 4 _ rfl _ _ _ _ _ _ ?_
      simp only [bX3_hasTerm_4, hrun, hx, hnth, hput, hok, hcat2, hldI, hldL, hldR, hpI, hpL, hpA, hpR, hp1, hpV, hrtI, hrtL, hrtR, hrtV, hpN, hck, hrI, hrB, hrL, hrA, hwI, hwA, hwB, hrN, hfk, hfs, hrF, hwF, hcl, hfty, tyX1, tyX3, tyX6, tyX9, tyX10, tyJ0, tyJ4, hfit, hcmp, hnar, hres, hst, hacp, kz, kof, kn0, kn1, Bool.not_true, Bool.not_false, true_and, and_true, Nat.zero_add, Nat.reduceAdd, List.length_cons, List.length_nil, true_or, or_true, false_or, or_false, decide_true, decide_false, ne_eq, not_true_eq_false, not_false_eq_true, ki_0, ki_1, ki_2, ki_3, ki_4, ki_5, kb_m100, kb_m10, kb_m9, kb_m8, kb_m7, kb_m6, kb_m5, kb_m4, kb_m3, kb_m2, kb_6, kb_7, kb_8, kb_9, kb_10, kb_12, kb_13, kb_16, kb_27, kb_31, kb_32, kb_43, kb_45, kb_48, kb_57, kb_60, kb_63, kb_81, kb_97, kb_99, kb_100, kb_120, kb_126, ks_m1000, ks_243, ks_255, ks_729, ks_1000, ks_2000, ks_2187, ks_6561, ks_9840, ks_9841, kl_0, kl_1, hw1, hw2, hw3]
      exact h
    · skip
      exact (hxr.elim b1 b9).elim
set_option maxRecDepth 100000 in
set_option maxHeartbeats 4000000 in
theorem c_codeAt (hg : hgo g) (hd : 2 ≤ d) {p a b : Nat} {L : List (Nat × Int)} (hp : hPoly w p a b L) (hL : mP L) {i : Nat} {q : Nat × Int} (hi : L[i]? = some q)  (h : Q (some (.int (nI q.1))) N c s w) : Γ g d yX3_codeAt [.ref p, .int (nI i)] N c s w Q := by
  refine Γ.intro0 hg kX3_codeAt (by omega) (Nat.le_of_ble_eq_true rfl) (fun P hP => ?_)
  show P N 0 0 w 0 [some (.ref p), some (.int (nI i))] []
  have hi9 := hL.at hi
  have hp9 := hp
  obtain ⟨hab, cf, nf, hw1, hw2, hw3, hw4⟩ := hp
  have hL1 := hL.1
  obtain ⟨hc, hn⟩ := hw4 i q hi
  refine hP 0 _ rfl _ _ _ _ _ _ ?_
  simp only [bX3_codeAt_0, hrun, hx, hnth, hput, hok, hcat2, hldI, hldL, hldR, hpI, hpL, hpA, hpR, hp1, hpV, hrtI, hrtL, hrtR, hrtV, hpN, hck, hrI, hrB, hrL, hrA, hwI, hwA, hwB, hrN, hfk, hfs, hrF, hwF, hcl, hfty, tyX1, tyX3, tyX6, tyX9, tyX10, tyJ0, tyJ4, hfit, hcmp, hnar, hres, hst, hacp, kz, kof, kn0, kn1, Bool.not_true, Bool.not_false, true_and, and_true, Nat.zero_add, Nat.reduceAdd, List.length_cons, List.length_nil, true_or, or_true, false_or, or_false, decide_true, decide_false, ne_eq, not_true_eq_false, not_false_eq_true, ki_0, ki_1, ki_2, ki_3, ki_4, ki_5, kb_m100, kb_m10, kb_m9, kb_m8, kb_m7, kb_m6, kb_m5, kb_m4, kb_m3, kb_m2, kb_6, kb_7, kb_8, kb_9, kb_10, kb_12, kb_13, kb_16, kb_27, kb_31, kb_32, kb_43, kb_45, kb_48, kb_57, kb_60, kb_63, kb_81, kb_97, kb_99, kb_100, kb_120, kb_126, ks_m1000, ks_243, ks_255, ks_729, ks_1000, ks_2000, ks_2187, ks_6561, ks_9840, ks_9841, kl_0, kl_1, hw1, hw2, hw3]
  refine c_hasTerm hg (by omega) hp9 hL hi9.1 ?_
  simp only [hrun, hx, hnth, hput, hok, hcat2, hldI, hldL, hldR, hpI, hpL, hpA, hpR, hp1, hpV, hrtI, hrtL, hrtR, hrtV, hpN, hck, hrI, hrB, hrL, hrA, hwI, hwA, hwB, hrN, hfk, hfs, hrF, hwF, hcl, hfty, tyX1, tyX3, tyX6, tyX9, tyX10, tyJ0, tyJ4, hfit, hcmp, hnar, hres, hst, hacp, kz, kof, kn0, kn1, Bool.not_true, Bool.not_false, true_and, and_true, Nat.zero_add, Nat.reduceAdd, List.length_cons, List.length_nil, true_or, or_true, false_or, or_false, decide_true, decide_false, ne_eq, not_true_eq_false, not_false_eq_true, ki_0, ki_1, ki_2, ki_3, ki_4, ki_5, kb_m100, kb_m10, kb_m9, kb_m8, kb_m7, kb_m6, kb_m5, kb_m4, kb_m3, kb_m2, kb_6, kb_7, kb_8, kb_9, kb_10, kb_12, kb_13, kb_16, kb_27, kb_31, kb_32, kb_43, kb_45, kb_48, kb_57, kb_60, kb_63, kb_81, kb_97, kb_99, kb_100, kb_120, kb_126, ks_m1000, ks_243, ks_255, ks_729, ks_1000, ks_2000, ks_2187, ks_6561, ks_9840, ks_9841, kl_0, kl_1, hw1, hw2, hw3]
  refine ⟨fun b5 => ?_, fun b5 => ?_⟩
  · (try simp (disch := omega) only [nI_ltI, nI_leI, nI_eq, Nat.not_lt, Nat.not_le] at b5) <;> (exfalso; omega)
  · try simp (disch := omega) only [nI_ltI, nI_leI, nI_eq, Nat.not_lt, Nat.not_le] at b5
    refine hP 1 _ rfl _ _ _ _ _ _ ?_
    simp only [bX3_codeAt_1, hrun, hx, hnth, hput, hok, hcat2, hldI, hldL, hldR, hpI, hpL, hpA, hpR, hp1, hpV, hrtI, hrtL, hrtR, hrtV, hpN, hck, hrI, hrB, hrL, hrA, hwI, hwA, hwB, hrN, hfk, hfs, hrF, hwF, hcl, hfty, tyX1, tyX3, tyX6, tyX9, tyX10, tyJ0, tyJ4, hfit, hcmp, hnar, hres, hst, hacp, kz, kof, kn0, kn1, Bool.not_true, Bool.not_false, true_and, and_true, Nat.zero_add, Nat.reduceAdd, List.length_cons, List.length_nil, true_or, or_true, false_or, or_false, decide_true, decide_false, ne_eq, not_true_eq_false, not_false_eq_true, ki_0, ki_1, ki_2, ki_3, ki_4, ki_5, kb_m100, kb_m10, kb_m9, kb_m8, kb_m7, kb_m6, kb_m5, kb_m4, kb_m3, kb_m2, kb_6, kb_7, kb_8, kb_9, kb_10, kb_12, kb_13, kb_16, kb_27, kb_31, kb_32, kb_43, kb_45, kb_48, kb_57, kb_60, kb_63, kb_81, kb_97, kb_99, kb_100, kb_120, kb_126, ks_m1000, ks_243, ks_255, ks_729, ks_1000, ks_2000, ks_2187, ks_6561, ks_9840, ks_9841, kl_0, kl_1, hw1, hw2, hw3]
    refine ⟨vp_in_nI (by omega) (by omega), ?_⟩
    refine hP 3 _ rfl _ _ _ _ _ _ ?_
    simp only [bX3_codeAt_3, hrun, hx, hnth, hput, hok, hcat2, hldI, hldL, hldR, hpI, hpL, hpA, hpR, hp1, hpV, hrtI, hrtL, hrtR, hrtV, hpN, hck, hrI, hrB, hrL, hrA, hwI, hwA, hwB, hrN, hfk, hfs, hrF, hwF, hcl, hfty, tyX1, tyX3, tyX6, tyX9, tyX10, tyJ0, tyJ4, hfit, hcmp, hnar, hres, hst, hacp, kz, kof, kn0, kn1, Bool.not_true, Bool.not_false, true_and, and_true, Nat.zero_add, Nat.reduceAdd, List.length_cons, List.length_nil, true_or, or_true, false_or, or_false, decide_true, decide_false, ne_eq, not_true_eq_false, not_false_eq_true, ki_0, ki_1, ki_2, ki_3, ki_4, ki_5, kb_m100, kb_m10, kb_m9, kb_m8, kb_m7, kb_m6, kb_m5, kb_m4, kb_m3, kb_m2, kb_6, kb_7, kb_8, kb_9, kb_10, kb_12, kb_13, kb_16, kb_27, kb_31, kb_32, kb_43, kb_45, kb_48, kb_57, kb_60, kb_63, kb_81, kb_97, kb_99, kb_100, kb_120, kb_126, ks_m1000, ks_243, ks_255, ks_729, ks_1000, ks_2000, ks_2187, ks_6561, ks_9840, ks_9841, kl_0, kl_1, hw1, hw2, hw3]
    rwa [nI_clamp (by omega), hc]
set_option maxRecDepth 100000 in
set_option maxHeartbeats 4000000 in
theorem c_codeAtN (hg : hgo g) (hd : 2 ≤ d) {p a b : Nat} {L : List (Nat × Int)} (hp : hPoly w p a b L) (hL : mP L) {x : Int32} (hxr : x < nI 0 ∨ nI L.length ≤ x)  (h : Q (some (.int (nI 0))) N c s w) : Γ g d yX3_codeAt [.ref p, .int x] N c s w Q := by
  refine Γ.intro0 hg kX3_codeAt (by omega) (Nat.le_of_ble_eq_true rfl) (fun P hP => ?_)
  show P N 0 0 w 0 [some (.ref p), some (.int x)] []
  have hp9 := hp
  obtain ⟨hab, cf, nf, hw1, hw2, hw3, hw4⟩ := hp
  have hL1 := hL.1
  refine hP 0 _ rfl _ _ _ _ _ _ ?_
  simp only [bX3_codeAt_0, hrun, hx, hnth, hput, hok, hcat2, hldI, hldL, hldR, hpI, hpL, hpA, hpR, hp1, hpV, hrtI, hrtL, hrtR, hrtV, hpN, hck, hrI, hrB, hrL, hrA, hwI, hwA, hwB, hrN, hfk, hfs, hrF, hwF, hcl, hfty, tyX1, tyX3, tyX6, tyX9, tyX10, tyJ0, tyJ4, hfit, hcmp, hnar, hres, hst, hacp, kz, kof, kn0, kn1, Bool.not_true, Bool.not_false, true_and, and_true, Nat.zero_add, Nat.reduceAdd, List.length_cons, List.length_nil, true_or, or_true, false_or, or_false, decide_true, decide_false, ne_eq, not_true_eq_false, not_false_eq_true, ki_0, ki_1, ki_2, ki_3, ki_4, ki_5, kb_m100, kb_m10, kb_m9, kb_m8, kb_m7, kb_m6, kb_m5, kb_m4, kb_m3, kb_m2, kb_6, kb_7, kb_8, kb_9, kb_10, kb_12, kb_13, kb_16, kb_27, kb_31, kb_32, kb_43, kb_45, kb_48, kb_57, kb_60, kb_63, kb_81, kb_97, kb_99, kb_100, kb_120, kb_126, ks_m1000, ks_243, ks_255, ks_729, ks_1000, ks_2000, ks_2187, ks_6561, ks_9840, ks_9841, kl_0, kl_1, hw1, hw2, hw3]
  refine c_hasTermN hg (by omega) hp9 hL hxr ?_
  simp only [hrun, hx, hnth, hput, hok, hcat2, hldI, hldL, hldR, hpI, hpL, hpA, hpR, hp1, hpV, hrtI, hrtL, hrtR, hrtV, hpN, hck, hrI, hrB, hrL, hrA, hwI, hwA, hwB, hrN, hfk, hfs, hrF, hwF, hcl, hfty, tyX1, tyX3, tyX6, tyX9, tyX10, tyJ0, tyJ4, hfit, hcmp, hnar, hres, hst, hacp, kz, kof, kn0, kn1, Bool.not_true, Bool.not_false, true_and, and_true, Nat.zero_add, Nat.reduceAdd, List.length_cons, List.length_nil, true_or, or_true, false_or, or_false, decide_true, decide_false, ne_eq, not_true_eq_false, not_false_eq_true, ki_0, ki_1, ki_2, ki_3, ki_4, ki_5, kb_m100, kb_m10, kb_m9, kb_m8, kb_m7, kb_m6, kb_m5, kb_m4, kb_m3, kb_m2, kb_6, kb_7, kb_8, kb_9, kb_10, kb_12, kb_13, kb_16, kb_27, kb_31, kb_32, kb_43, kb_45, kb_48, kb_57, kb_60, kb_63, kb_81, kb_97, kb_99, kb_100, kb_120, kb_126, ks_m1000, ks_243, ks_255, ks_729, ks_1000, ks_2000, ks_2187, ks_6561, ks_9840, ks_9841, kl_0, kl_1, hw1, hw2, hw3]
  refine ⟨fun b5 => ?_, fun b5 => ?_⟩
  · try simp (disch := omega) only [nI_ltI, nI_leI, nI_eq, Nat.not_lt, Nat.not_le] at b5
    refine hP 2 _ rfl _ _ _ _ _ _ ?_
    simp only [bX3_codeAt_2, hrun, hx, hnth, hput, hok, hcat2, hldI, hldL, hldR, hpI, hpL, hpA, hpR, hp1, hpV, hrtI, hrtL, hrtR, hrtV, hpN, hck, hrI, hrB, hrL, hrA, hwI, hwA, hwB, hrN, hfk, hfs, hrF, hwF, hcl, hfty, tyX1, tyX3, tyX6, tyX9, tyX10, tyJ0, tyJ4, hfit, hcmp, hnar, hres, hst, hacp, kz, kof, kn0, kn1, Bool.not_true, Bool.not_false, true_and, and_true, Nat.zero_add, Nat.reduceAdd, List.length_cons, List.length_nil, true_or, or_true, false_or, or_false, decide_true, decide_false, ne_eq, not_true_eq_false, not_false_eq_true, ki_0, ki_1, ki_2, ki_3, ki_4, ki_5, kb_m100, kb_m10, kb_m9, kb_m8, kb_m7, kb_m6, kb_m5, kb_m4, kb_m3, kb_m2, kb_6, kb_7, kb_8, kb_9, kb_10, kb_12, kb_13, kb_16, kb_27, kb_31, kb_32, kb_43, kb_45, kb_48, kb_57, kb_60, kb_63, kb_81, kb_97, kb_99, kb_100, kb_120, kb_126, ks_m1000, ks_243, ks_255, ks_729, ks_1000, ks_2000, ks_2187, ks_6561, ks_9840, ks_9841, kl_0, kl_1, hw1, hw2, hw3]
    refine hP 3 _ rfl _ _ _ _ _ _ ?_
    simp only [bX3_codeAt_3, hrun, hx, hnth, hput, hok, hcat2, hldI, hldL, hldR, hpI, hpL, hpA, hpR, hp1, hpV, hrtI, hrtL, hrtR, hrtV, hpN, hck, hrI, hrB, hrL, hrA, hwI, hwA, hwB, hrN, hfk, hfs, hrF, hwF, hcl, hfty, tyX1, tyX3, tyX6, tyX9, tyX10, tyJ0, tyJ4, hfit, hcmp, hnar, hres, hst, hacp, kz, kof, kn0, kn1, Bool.not_true, Bool.not_false, true_and, and_true, Nat.zero_add, Nat.reduceAdd, List.length_cons, List.length_nil, true_or, or_true, false_or, or_false, decide_true, decide_false, ne_eq, not_true_eq_false, not_false_eq_true, ki_0, ki_1, ki_2, ki_3, ki_4, ki_5, kb_m100, kb_m10, kb_m9, kb_m8, kb_m7, kb_m6, kb_m5, kb_m4, kb_m3, kb_m2, kb_6, kb_7, kb_8, kb_9, kb_10, kb_12, kb_13, kb_16, kb_27, kb_31, kb_32, kb_43, kb_45, kb_48, kb_57, kb_60, kb_63, kb_81, kb_97, kb_99, kb_100, kb_120, kb_126, ks_m1000, ks_243, ks_255, ks_729, ks_1000, ks_2000, ks_2187, ks_6561, ks_9840, ks_9841, kl_0, kl_1, hw1, hw2, hw3]
    exact h
  · (try simp (disch := omega) only [nI_ltI, nI_leI, nI_eq, Nat.not_lt, Nat.not_le] at b5) <;> (exfalso; omega)
set_option maxRecDepth 100000 in
set_option maxHeartbeats 4000000 in
theorem c_numberAt (hg : hgo g) (hd : 2 ≤ d) {p a b : Nat} {L : List (Nat × Int)} (hp : hPoly w p a b L) (hL : mP L) {i : Nat} {q : Nat × Int} (hi : L[i]? = some q)  (h : Q (some (.long (Int64.ofInt q.2))) N c s w) : Γ g d yX3_numberAt [.ref p, .int (nI i)] N c s w Q := by
  refine Γ.intro0 hg kX3_numberAt (by omega) (Nat.le_of_ble_eq_true rfl) (fun P hP => ?_)
  show P N 0 0 w 0 [some (.ref p), some (.int (nI i))] []
  have hi9 := hL.at hi
  have hp9 := hp
  obtain ⟨hab, cf, nf, hw1, hw2, hw3, hw4⟩ := hp
  have hL1 := hL.1
  obtain ⟨hc, hn⟩ := hw4 i q hi
  refine hP 0 _ rfl _ _ _ _ _ _ ?_
  simp only [bX3_numberAt_0, hrun, hx, hnth, hput, hok, hcat2, hldI, hldL, hldR, hpI, hpL, hpA, hpR, hp1, hpV, hrtI, hrtL, hrtR, hrtV, hpN, hck, hrI, hrB, hrL, hrA, hwI, hwA, hwB, hrN, hfk, hfs, hrF, hwF, hcl, hfty, tyX1, tyX3, tyX6, tyX9, tyX10, tyJ0, tyJ4, hfit, hcmp, hnar, hres, hst, hacp, kz, kof, kn0, kn1, Bool.not_true, Bool.not_false, true_and, and_true, Nat.zero_add, Nat.reduceAdd, List.length_cons, List.length_nil, true_or, or_true, false_or, or_false, decide_true, decide_false, ne_eq, not_true_eq_false, not_false_eq_true, ki_0, ki_1, ki_2, ki_3, ki_4, ki_5, kb_m100, kb_m10, kb_m9, kb_m8, kb_m7, kb_m6, kb_m5, kb_m4, kb_m3, kb_m2, kb_6, kb_7, kb_8, kb_9, kb_10, kb_12, kb_13, kb_16, kb_27, kb_31, kb_32, kb_43, kb_45, kb_48, kb_57, kb_60, kb_63, kb_81, kb_97, kb_99, kb_100, kb_120, kb_126, ks_m1000, ks_243, ks_255, ks_729, ks_1000, ks_2000, ks_2187, ks_6561, ks_9840, ks_9841, kl_0, kl_1, hw1, hw2, hw3]
  refine c_hasTerm hg (by omega) hp9 hL hi9.1 ?_
  simp only [hrun, hx, hnth, hput, hok, hcat2, hldI, hldL, hldR, hpI, hpL, hpA, hpR, hp1, hpV, hrtI, hrtL, hrtR, hrtV, hpN, hck, hrI, hrB, hrL, hrA, hwI, hwA, hwB, hrN, hfk, hfs, hrF, hwF, hcl, hfty, tyX1, tyX3, tyX6, tyX9, tyX10, tyJ0, tyJ4, hfit, hcmp, hnar, hres, hst, hacp, kz, kof, kn0, kn1, Bool.not_true, Bool.not_false, true_and, and_true, Nat.zero_add, Nat.reduceAdd, List.length_cons, List.length_nil, true_or, or_true, false_or, or_false, decide_true, decide_false, ne_eq, not_true_eq_false, not_false_eq_true, ki_0, ki_1, ki_2, ki_3, ki_4, ki_5, kb_m100, kb_m10, kb_m9, kb_m8, kb_m7, kb_m6, kb_m5, kb_m4, kb_m3, kb_m2, kb_6, kb_7, kb_8, kb_9, kb_10, kb_12, kb_13, kb_16, kb_27, kb_31, kb_32, kb_43, kb_45, kb_48, kb_57, kb_60, kb_63, kb_81, kb_97, kb_99, kb_100, kb_120, kb_126, ks_m1000, ks_243, ks_255, ks_729, ks_1000, ks_2000, ks_2187, ks_6561, ks_9840, ks_9841, kl_0, kl_1, hw1, hw2, hw3]
  refine ⟨fun b5 => ?_, fun b5 => ?_⟩
  · (try simp (disch := omega) only [nI_ltI, nI_leI, nI_eq, Nat.not_lt, Nat.not_le] at b5) <;> (exfalso; omega)
  · try simp (disch := omega) only [nI_ltI, nI_leI, nI_eq, Nat.not_lt, Nat.not_le] at b5
    refine hP 1 _ rfl _ _ _ _ _ _ ?_
    simp only [bX3_numberAt_1, hrun, hx, hnth, hput, hok, hcat2, hldI, hldL, hldR, hpI, hpL, hpA, hpR, hp1, hpV, hrtI, hrtL, hrtR, hrtV, hpN, hck, hrI, hrB, hrL, hrA, hwI, hwA, hwB, hrN, hfk, hfs, hrF, hwF, hcl, hfty, tyX1, tyX3, tyX6, tyX9, tyX10, tyJ0, tyJ4, hfit, hcmp, hnar, hres, hst, hacp, kz, kof, kn0, kn1, Bool.not_true, Bool.not_false, true_and, and_true, Nat.zero_add, Nat.reduceAdd, List.length_cons, List.length_nil, true_or, or_true, false_or, or_false, decide_true, decide_false, ne_eq, not_true_eq_false, not_false_eq_true, ki_0, ki_1, ki_2, ki_3, ki_4, ki_5, kb_m100, kb_m10, kb_m9, kb_m8, kb_m7, kb_m6, kb_m5, kb_m4, kb_m3, kb_m2, kb_6, kb_7, kb_8, kb_9, kb_10, kb_12, kb_13, kb_16, kb_27, kb_31, kb_32, kb_43, kb_45, kb_48, kb_57, kb_60, kb_63, kb_81, kb_97, kb_99, kb_100, kb_120, kb_126, ks_m1000, ks_243, ks_255, ks_729, ks_1000, ks_2000, ks_2187, ks_6561, ks_9840, ks_9841, kl_0, kl_1, hw1, hw2, hw3]
    refine ⟨vp_in_nI (by omega) (by omega), ?_⟩
    refine hP 3 _ rfl _ _ _ _ _ _ ?_
    simp only [bX3_numberAt_3, hrun, hx, hnth, hput, hok, hcat2, hldI, hldL, hldR, hpI, hpL, hpA, hpR, hp1, hpV, hrtI, hrtL, hrtR, hrtV, hpN, hck, hrI, hrB, hrL, hrA, hwI, hwA, hwB, hrN, hfk, hfs, hrF, hwF, hcl, hfty, tyX1, tyX3, tyX6, tyX9, tyX10, tyJ0, tyJ4, hfit, hcmp, hnar, hres, hst, hacp, kz, kof, kn0, kn1, Bool.not_true, Bool.not_false, true_and, and_true, Nat.zero_add, Nat.reduceAdd, List.length_cons, List.length_nil, true_or, or_true, false_or, or_false, decide_true, decide_false, ne_eq, not_true_eq_false, not_false_eq_true, ki_0, ki_1, ki_2, ki_3, ki_4, ki_5, kb_m100, kb_m10, kb_m9, kb_m8, kb_m7, kb_m6, kb_m5, kb_m4, kb_m3, kb_m2, kb_6, kb_7, kb_8, kb_9, kb_10, kb_12, kb_13, kb_16, kb_27, kb_31, kb_32, kb_43, kb_45, kb_48, kb_57, kb_60, kb_63, kb_81, kb_97, kb_99, kb_100, kb_120, kb_126, ks_m1000, ks_243, ks_255, ks_729, ks_1000, ks_2000, ks_2187, ks_6561, ks_9840, ks_9841, kl_0, kl_1, hw1, hw2, hw3]
    rwa [nI_clamp (by omega), hn, ofI64 _ hi9.2.2.2.2.1 hi9.2.2.2.2.2]
set_option maxRecDepth 100000 in
set_option maxHeartbeats 4000000 in
theorem c_numberAtN (hg : hgo g) (hd : 2 ≤ d) {p a b : Nat} {L : List (Nat × Int)} (hp : hPoly w p a b L) (hL : mP L) {x : Int32} (hxr : x < nI 0 ∨ nI L.length ≤ x)  (h : Q (some (.long (lN 0))) N c s w) : Γ g d yX3_numberAt [.ref p, .int x] N c s w Q := by
  refine Γ.intro0 hg kX3_numberAt (by omega) (Nat.le_of_ble_eq_true rfl) (fun P hP => ?_)
  show P N 0 0 w 0 [some (.ref p), some (.int x)] []
  have hp9 := hp
  obtain ⟨hab, cf, nf, hw1, hw2, hw3, hw4⟩ := hp
  have hL1 := hL.1
  refine hP 0 _ rfl _ _ _ _ _ _ ?_
  simp only [bX3_numberAt_0, hrun, hx, hnth, hput, hok, hcat2, hldI, hldL, hldR, hpI, hpL, hpA, hpR, hp1, hpV, hrtI, hrtL, hrtR, hrtV, hpN, hck, hrI, hrB, hrL, hrA, hwI, hwA, hwB, hrN, hfk, hfs, hrF, hwF, hcl, hfty, tyX1, tyX3, tyX6, tyX9, tyX10, tyJ0, tyJ4, hfit, hcmp, hnar, hres, hst, hacp, kz, kof, kn0, kn1, Bool.not_true, Bool.not_false, true_and, and_true, Nat.zero_add, Nat.reduceAdd, List.length_cons, List.length_nil, true_or, or_true, false_or, or_false, decide_true, decide_false, ne_eq, not_true_eq_false, not_false_eq_true, ki_0, ki_1, ki_2, ki_3, ki_4, ki_5, kb_m100, kb_m10, kb_m9, kb_m8, kb_m7, kb_m6, kb_m5, kb_m4, kb_m3, kb_m2, kb_6, kb_7, kb_8, kb_9, kb_10, kb_12, kb_13, kb_16, kb_27, kb_31, kb_32, kb_43, kb_45, kb_48, kb_57, kb_60, kb_63, kb_81, kb_97, kb_99, kb_100, kb_120, kb_126, ks_m1000, ks_243, ks_255, ks_729, ks_1000, ks_2000, ks_2187, ks_6561, ks_9840, ks_9841, kl_0, kl_1, hw1, hw2, hw3]
  refine c_hasTermN hg (by omega) hp9 hL hxr ?_
  simp only [hrun, hx, hnth, hput, hok, hcat2, hldI, hldL, hldR, hpI, hpL, hpA, hpR, hp1, hpV, hrtI, hrtL, hrtR, hrtV, hpN, hck, hrI, hrB, hrL, hrA, hwI, hwA, hwB, hrN, hfk, hfs, hrF, hwF, hcl, hfty, tyX1, tyX3, tyX6, tyX9, tyX10, tyJ0, tyJ4, hfit, hcmp, hnar, hres, hst, hacp, kz, kof, kn0, kn1, Bool.not_true, Bool.not_false, true_and, and_true, Nat.zero_add, Nat.reduceAdd, List.length_cons, List.length_nil, true_or, or_true, false_or, or_false, decide_true, decide_false, ne_eq, not_true_eq_false, not_false_eq_true, ki_0, ki_1, ki_2, ki_3, ki_4, ki_5, kb_m100, kb_m10, kb_m9, kb_m8, kb_m7, kb_m6, kb_m5, kb_m4, kb_m3, kb_m2, kb_6, kb_7, kb_8, kb_9, kb_10, kb_12, kb_13, kb_16, kb_27, kb_31, kb_32, kb_43, kb_45, kb_48, kb_57, kb_60, kb_63, kb_81, kb_97, kb_99, kb_100, kb_120, kb_126, ks_m1000, ks_243, ks_255, ks_729, ks_1000, ks_2000, ks_2187, ks_6561, ks_9840, ks_9841, kl_0, kl_1, hw1, hw2, hw3]
  refine ⟨fun b5 => ?_, fun b5 => ?_⟩
  · try simp (disch := omega) only [nI_ltI, nI_leI, nI_eq, Nat.not_lt, Nat.not_le] at b5
    refine hP 2 _ rfl _ _ _ _ _ _ ?_
    simp only [bX3_numberAt_2, hrun, hx, hnth, hput, hok, hcat2, hldI, hldL, hldR, hpI, hpL, hpA, hpR, hp1, hpV, hrtI, hrtL, hrtR, hrtV, hpN, hck, hrI, hrB, hrL, hrA, hwI, hwA, hwB, hrN, hfk, hfs, hrF, hwF, hcl, hfty, tyX1, tyX3, tyX6, tyX9, tyX10, tyJ0, tyJ4, hfit, hcmp, hnar, hres, hst, hacp, kz, kof, kn0, kn1, Bool.not_true, Bool.not_false, true_and, and_true, Nat.zero_add, Nat.reduceAdd, List.length_cons, List.length_nil, true_or, or_true, false_or, or_false, decide_true, decide_false, ne_eq, not_true_eq_false, not_false_eq_true, ki_0, ki_1, ki_2, ki_3, ki_4, ki_5, kb_m100, kb_m10, kb_m9, kb_m8, kb_m7, kb_m6, kb_m5, kb_m4, kb_m3, kb_m2, kb_6, kb_7, kb_8, kb_9, kb_10, kb_12, kb_13, kb_16, kb_27, kb_31, kb_32, kb_43, kb_45, kb_48, kb_57, kb_60, kb_63, kb_81, kb_97, kb_99, kb_100, kb_120, kb_126, ks_m1000, ks_243, ks_255, ks_729, ks_1000, ks_2000, ks_2187, ks_6561, ks_9840, ks_9841, kl_0, kl_1, hw1, hw2, hw3]
    refine hP 3 _ rfl _ _ _ _ _ _ ?_
    simp only [bX3_numberAt_3, hrun, hx, hnth, hput, hok, hcat2, hldI, hldL, hldR, hpI, hpL, hpA, hpR, hp1, hpV, hrtI, hrtL, hrtR, hrtV, hpN, hck, hrI, hrB, hrL, hrA, hwI, hwA, hwB, hrN, hfk, hfs, hrF, hwF, hcl, hfty, tyX1, tyX3, tyX6, tyX9, tyX10, tyJ0, tyJ4, hfit, hcmp, hnar, hres, hst, hacp, kz, kof, kn0, kn1, Bool.not_true, Bool.not_false, true_and, and_true, Nat.zero_add, Nat.reduceAdd, List.length_cons, List.length_nil, true_or, or_true, false_or, or_false, decide_true, decide_false, ne_eq, not_true_eq_false, not_false_eq_true, ki_0, ki_1, ki_2, ki_3, ki_4, ki_5, kb_m100, kb_m10, kb_m9, kb_m8, kb_m7, kb_m6, kb_m5, kb_m4, kb_m3, kb_m2, kb_6, kb_7, kb_8, kb_9, kb_10, kb_12, kb_13, kb_16, kb_27, kb_31, kb_32, kb_43, kb_45, kb_48, kb_57, kb_60, kb_63, kb_81, kb_97, kb_99, kb_100, kb_120, kb_126, ks_m1000, ks_243, ks_255, ks_729, ks_1000, ks_2000, ks_2187, ks_6561, ks_9840, ks_9841, kl_0, kl_1, hw1, hw2, hw3]
    exact h
  · (try simp (disch := omega) only [nI_ltI, nI_leI, nI_eq, Nat.not_lt, Nat.not_le] at b5) <;> (exfalso; omega)
theorem mfind_none {L : List (Nat × Int)} {c : Nat} (h : ∀ (j : Nat) (q : Nat × Int), L[j]? = some q → q.1 ≠ c) : L.find? (fun q => q.1 == c) = none := by
  rw [List.find?_eq_none]
  intro q hq
  obtain ⟨j, hj⟩ := List.getElem?_of_mem hq
  simpa using h j q hj
theorem mfind_some {L : List (Nat × Int)} {c i : Nat} {q : Nat × Int} (hi : L[i]? = some q) (hq : q.1 = c) (h : ∀ (j : Nat) (q : Nat × Int), j < i → L[j]? = some q → q.1 ≠ c) : L.find? (fun q => q.1 == c) = some q := by
  have hlt := (List.getElem?_eq_some_iff.mp hi).1
  rw [List.find?_eq_some_iff_getElem]
  refine ⟨by simpa using hq, i, hlt, ?_, fun j hj => ?_⟩
  · have := (List.getElem?_eq_some_iff.mp hi).2
    exact this
  · have := h j (L[j]'(by omega)) hj (List.getElem?_eq_getElem (by omega))
    simpa using this
set_option maxRecDepth 100000 in
set_option maxHeartbeats 4000000 in
theorem c_numberOf (hg : hgo g) (hd : 3 ≤ d) {p a b : Nat} {L : List (Nat × Int)} (hp : hPoly w p a b L) (hL : mP L) {k : Nat} (hk : k < 9841)  (h : Q (some (.long (Int64.ofInt (mcoef L k)))) N c s w) : Γ g d yX3_numberOf [.ref p, .int (nI k)] N c s w Q := by
  refine Γ.intro0 hg kX3_numberOf (by omega) (Nat.le_of_ble_eq_true rfl) (fun P hP => ?_)
  show P N 0 0 w 0 [some (.ref p), some (.int (nI k)), none] []
  have hp9 := hp
  obtain ⟨hab, cf, nf, hw1, hw2, hw3, hw4⟩ := hp
  have hL1 := hL.1
  have loop : ∀ (n i : Nat), L.length - i = n → i ≤ L.length → (∀ (j : Nat) (q : Nat × Int), j < i → L[j]? = some q → q.1 ≠ k) → P N 0 0 w 2 [some (.ref p), some (.int (nI k)), some (.int (nI i))] [] := by
    intro n
    induction n with
    | zero =>
      intro i hn hi hj
      have hi2 : i = L.length := by omega
      have e : mcoef L k = 0 := by
        unfold mcoef
        rw [mfind_none (fun j q hq => hj j q (by have := (List.getElem?_eq_some_iff.mp hq).1; omega) hq)]
      rw [e] at h
      refine hP 1 _ rfl _ _ _ _ _ _ ?_
      simp only [bX3_numberOf_1, hrun, hx, hnth, hput, hok, hcat2, hldI, hldL, hldR, hpI, hpL, hpA, hpR, hp1, hpV, hrtI, hrtL, hrtR, hrtV, hpN, hck, hrI, hrB, hrL, hrA, hwI, hwA, hwB, hrN, hfk, hfs, hrF, hwF, hcl, hfty, tyX1, tyX3, tyX6, tyX9, tyX10, tyJ0, tyJ4, hfit, hcmp, hnar, hres, hst, hacp, kz, kof, kn0, kn1, Bool.not_true, Bool.not_false, true_and, and_true, Nat.zero_add, Nat.reduceAdd, List.length_cons, List.length_nil, true_or, or_true, false_or, or_false, decide_true, decide_false, ne_eq, not_true_eq_false, not_false_eq_true, ki_0, ki_1, ki_2, ki_3, ki_4, ki_5, kb_m100, kb_m10, kb_m9, kb_m8, kb_m7, kb_m6, kb_m5, kb_m4, kb_m3, kb_m2, kb_6, kb_7, kb_8, kb_9, kb_10, kb_12, kb_13, kb_16, kb_27, kb_31, kb_32, kb_43, kb_45, kb_48, kb_57, kb_60, kb_63, kb_81, kb_97, kb_99, kb_100, kb_120, kb_126, ks_m1000, ks_243, ks_255, ks_729, ks_1000, ks_2000, ks_2187, ks_6561, ks_9840, ks_9841, kl_0, kl_1, hw1, hw2, hw3]
      refine ⟨fun b7 => ?_, fun b7 => ?_⟩
      · try simp (disch := omega) only [nI_ltI, nI_leI, nI_eq, Nat.not_lt, Nat.not_le] at b7
        refine hP 5 _ rfl _ _ _ _ _ _ ?_
        simp only [bX3_numberOf_5, hrun, hx, hnth, hput, hok, hcat2, hldI, hldL, hldR, hpI, hpL, hpA, hpR, hp1, hpV, hrtI, hrtL, hrtR, hrtV, hpN, hck, hrI, hrB, hrL, hrA, hwI, hwA, hwB, hrN, hfk, hfs, hrF, hwF, hcl, hfty, tyX1, tyX3, tyX6, tyX9, tyX10, tyJ0, tyJ4, hfit, hcmp, hnar, hres, hst, hacp, kz, kof, kn0, kn1, Bool.not_true, Bool.not_false, true_and, and_true, Nat.zero_add, Nat.reduceAdd, List.length_cons, List.length_nil, true_or, or_true, false_or, or_false, decide_true, decide_false, ne_eq, not_true_eq_false, not_false_eq_true, ki_0, ki_1, ki_2, ki_3, ki_4, ki_5, kb_m100, kb_m10, kb_m9, kb_m8, kb_m7, kb_m6, kb_m5, kb_m4, kb_m3, kb_m2, kb_6, kb_7, kb_8, kb_9, kb_10, kb_12, kb_13, kb_16, kb_27, kb_31, kb_32, kb_43, kb_45, kb_48, kb_57, kb_60, kb_63, kb_81, kb_97, kb_99, kb_100, kb_120, kb_126, ks_m1000, ks_243, ks_255, ks_729, ks_1000, ks_2000, ks_2187, ks_6561, ks_9840, ks_9841, kl_0, kl_1, hw1, hw2, hw3]
        exact h
      · (try simp (disch := omega) only [nI_ltI, nI_leI, nI_eq, Nat.not_lt, Nat.not_le] at b7) <;> (exfalso; omega)
    | succ n ih =>
      intro i hn hi hj
      have hlt : i < L.length := by omega
      have hq : L[i]? = some L[i] := List.getElem?_eq_getElem hlt
      have hi9 := hL.at hq
      refine hP 1 _ rfl _ _ _ _ _ _ ?_
      simp only [bX3_numberOf_1, hrun, hx, hnth, hput, hok, hcat2, hldI, hldL, hldR, hpI, hpL, hpA, hpR, hp1, hpV, hrtI, hrtL, hrtR, hrtV, hpN, hck, hrI, hrB, hrL, hrA, hwI, hwA, hwB, hrN, hfk, hfs, hrF, hwF, hcl, hfty, tyX1, tyX3, tyX6, tyX9, tyX10, tyJ0, tyJ4, hfit, hcmp, hnar, hres, hst, hacp, kz, kof, kn0, kn1, Bool.not_true, Bool.not_false, true_and, and_true, Nat.zero_add, Nat.reduceAdd, List.length_cons, List.length_nil, true_or, or_true, false_or, or_false, decide_true, decide_false, ne_eq, not_true_eq_false, not_false_eq_true, ki_0, ki_1, ki_2, ki_3, ki_4, ki_5, kb_m100, kb_m10, kb_m9, kb_m8, kb_m7, kb_m6, kb_m5, kb_m4, kb_m3, kb_m2, kb_6, kb_7, kb_8, kb_9, kb_10, kb_12, kb_13, kb_16, kb_27, kb_31, kb_32, kb_43, kb_45, kb_48, kb_57, kb_60, kb_63, kb_81, kb_97, kb_99, kb_100, kb_120, kb_126, ks_m1000, ks_243, ks_255, ks_729, ks_1000, ks_2000, ks_2187, ks_6561, ks_9840, ks_9841, kl_0, kl_1, hw1, hw2, hw3]
      refine ⟨fun b7 => ?_, fun b7 => ?_⟩
      · (try simp (disch := omega) only [nI_ltI, nI_leI, nI_eq, Nat.not_lt, Nat.not_le] at b7) <;> (exfalso; omega)
      · try simp (disch := omega) only [nI_ltI, nI_leI, nI_eq, Nat.not_lt, Nat.not_le] at b7
        refine hP 2 _ rfl _ _ _ _ _ _ ?_
        simp only [bX3_numberOf_2, hrun, hx, hnth, hput, hok, hcat2, hldI, hldL, hldR, hpI, hpL, hpA, hpR, hp1, hpV, hrtI, hrtL, hrtR, hrtV, hpN, hck, hrI, hrB, hrL, hrA, hwI, hwA, hwB, hrN, hfk, hfs, hrF, hwF, hcl, hfty, tyX1, tyX3, tyX6, tyX9, tyX10, tyJ0, tyJ4, hfit, hcmp, hnar, hres, hst, hacp, kz, kof, kn0, kn1, Bool.not_true, Bool.not_false, true_and, and_true, Nat.zero_add, Nat.reduceAdd, List.length_cons, List.length_nil, true_or, or_true, false_or, or_false, decide_true, decide_false, ne_eq, not_true_eq_false, not_false_eq_true, ki_0, ki_1, ki_2, ki_3, ki_4, ki_5, kb_m100, kb_m10, kb_m9, kb_m8, kb_m7, kb_m6, kb_m5, kb_m4, kb_m3, kb_m2, kb_6, kb_7, kb_8, kb_9, kb_10, kb_12, kb_13, kb_16, kb_27, kb_31, kb_32, kb_43, kb_45, kb_48, kb_57, kb_60, kb_63, kb_81, kb_97, kb_99, kb_100, kb_120, kb_126, ks_m1000, ks_243, ks_255, ks_729, ks_1000, ks_2000, ks_2187, ks_6561, ks_9840, ks_9841, kl_0, kl_1, hw1, hw2, hw3]
        refine c_codeAt hg (by omega) hp9 hL hq ?_
        simp only [hrun, hx, hnth, hput, hok, hcat2, hldI, hldL, hldR, hpI, hpL, hpA, hpR, hp1, hpV, hrtI, hrtL, hrtR, hrtV, hpN, hck, hrI, hrB, hrL, hrA, hwI, hwA, hwB, hrN, hfk, hfs, hrF, hwF, hcl, hfty, tyX1, tyX3, tyX6, tyX9, tyX10, tyJ0, tyJ4, hfit, hcmp, hnar, hres, hst, hacp, kz, kof, kn0, kn1, Bool.not_true, Bool.not_false, true_and, and_true, Nat.zero_add, Nat.reduceAdd, List.length_cons, List.length_nil, true_or, or_true, false_or, or_false, decide_true, decide_false, ne_eq, not_true_eq_false, not_false_eq_true, ki_0, ki_1, ki_2, ki_3, ki_4, ki_5, kb_m100, kb_m10, kb_m9, kb_m8, kb_m7, kb_m6, kb_m5, kb_m4, kb_m3, kb_m2, kb_6, kb_7, kb_8, kb_9, kb_10, kb_12, kb_13, kb_16, kb_27, kb_31, kb_32, kb_43, kb_45, kb_48, kb_57, kb_60, kb_63, kb_81, kb_97, kb_99, kb_100, kb_120, kb_126, ks_m1000, ks_243, ks_255, ks_729, ks_1000, ks_2000, ks_2187, ks_6561, ks_9840, ks_9841, kl_0, kl_1, hw1, hw2, hw3]
        refine ⟨fun b16 => ?_, fun b16 => ?_⟩
        · try simp (disch := omega) only [nI_ltI, nI_leI, nI_eq, Nat.not_lt, Nat.not_le] at b16
          refine hP 4 _ rfl _ _ _ _ _ _ ?_
          simp only [bX3_numberOf_4, hrun, hx, hnth, hput, hok, hcat2, hldI, hldL, hldR, hpI, hpL, hpA, hpR, hp1, hpV, hrtI, hrtL, hrtR, hrtV, hpN, hck, hrI, hrB, hrL, hrA, hwI, hwA, hwB, hrN, hfk, hfs, hrF, hwF, hcl, hfty, tyX1, tyX3, tyX6, tyX9, tyX10, tyJ0, tyJ4, hfit, hcmp, hnar, hres, hst, hacp, kz, kof, kn0, kn1, Bool.not_true, Bool.not_false, true_and, and_true, Nat.zero_add, Nat.reduceAdd, List.length_cons, List.length_nil, true_or, or_true, false_or, or_false, decide_true, decide_false, ne_eq, not_true_eq_false, not_false_eq_true, ki_0, ki_1, ki_2, ki_3, ki_4, ki_5, kb_m100, kb_m10, kb_m9, kb_m8, kb_m7, kb_m6, kb_m5, kb_m4, kb_m3, kb_m2, kb_6, kb_7, kb_8, kb_9, kb_10, kb_12, kb_13, kb_16, kb_27, kb_31, kb_32, kb_43, kb_45, kb_48, kb_57, kb_60, kb_63, kb_81, kb_97, kb_99, kb_100, kb_120, kb_126, ks_m1000, ks_243, ks_255, ks_729, ks_1000, ks_2000, ks_2187, ks_6561, ks_9840, ks_9841, kl_0, kl_1, hw1, hw2, hw3]
          rw [nI_add]
          exact ih (i + 1) (by omega) (by omega) (fun j q hj1 hq1 => by
            by_cases e : j = i
            · subst e
              rw [hq] at hq1
              cases hq1
              exact b16
            · exact hj j q (by omega) hq1)
        · try simp (disch := omega) only [nI_ltI, nI_leI, nI_eq, Nat.not_lt, Nat.not_le] at b16
          refine hP 3 _ rfl _ _ _ _ _ _ ?_
          simp only [bX3_numberOf_3, hrun, hx, hnth, hput, hok, hcat2, hldI, hldL, hldR, hpI, hpL, hpA, hpR, hp1, hpV, hrtI, hrtL, hrtR, hrtV, hpN, hck, hrI, hrB, hrL, hrA, hwI, hwA, hwB, hrN, hfk, hfs, hrF, hwF, hcl, hfty, tyX1, tyX3, tyX6, tyX9, tyX10, tyJ0, tyJ4, hfit, hcmp, hnar, hres, hst, hacp, kz, kof, kn0, kn1, Bool.not_true, Bool.not_false, true_and, and_true, Nat.zero_add, Nat.reduceAdd, List.length_cons, List.length_nil, true_or, or_true, false_or, or_false, decide_true, decide_false, ne_eq, not_true_eq_false, not_false_eq_true, ki_0, ki_1, ki_2, ki_3, ki_4, ki_5, kb_m100, kb_m10, kb_m9, kb_m8, kb_m7, kb_m6, kb_m5, kb_m4, kb_m3, kb_m2, kb_6, kb_7, kb_8, kb_9, kb_10, kb_12, kb_13, kb_16, kb_27, kb_31, kb_32, kb_43, kb_45, kb_48, kb_57, kb_60, kb_63, kb_81, kb_97, kb_99, kb_100, kb_120, kb_126, ks_m1000, ks_243, ks_255, ks_729, ks_1000, ks_2000, ks_2187, ks_6561, ks_9840, ks_9841, kl_0, kl_1, hw1, hw2, hw3]
          refine c_numberAt hg (by omega) hp9 hL hq ?_
          simp only [hrun, hx, hnth, hput, hok, hcat2, hldI, hldL, hldR, hpI, hpL, hpA, hpR, hp1, hpV, hrtI, hrtL, hrtR, hrtV, hpN, hck, hrI, hrB, hrL, hrA, hwI, hwA, hwB, hrN, hfk, hfs, hrF, hwF, hcl, hfty, tyX1, tyX3, tyX6, tyX9, tyX10, tyJ0, tyJ4, hfit, hcmp, hnar, hres, hst, hacp, kz, kof, kn0, kn1, Bool.not_true, Bool.not_false, true_and, and_true, Nat.zero_add, Nat.reduceAdd, List.length_cons, List.length_nil, true_or, or_true, false_or, or_false, decide_true, decide_false, ne_eq, not_true_eq_false, not_false_eq_true, ki_0, ki_1, ki_2, ki_3, ki_4, ki_5, kb_m100, kb_m10, kb_m9, kb_m8, kb_m7, kb_m6, kb_m5, kb_m4, kb_m3, kb_m2, kb_6, kb_7, kb_8, kb_9, kb_10, kb_12, kb_13, kb_16, kb_27, kb_31, kb_32, kb_43, kb_45, kb_48, kb_57, kb_60, kb_63, kb_81, kb_97, kb_99, kb_100, kb_120, kb_126, ks_m1000, ks_243, ks_255, ks_729, ks_1000, ks_2000, ks_2187, ks_6561, ks_9840, ks_9841, kl_0, kl_1, hw1, hw2, hw3]
          have e : mcoef L k = (L[i]).2 := by
            unfold mcoef
            rw [mfind_some hq b16 hj]
          rwa [e] at h
  refine hP 0 _ rfl _ _ _ _ _ _ ?_
  simp only [bX3_numberOf_0, hrun, hx, hnth, hput, hok, hcat2, hldI, hldL, hldR, hpI, hpL, hpA, hpR, hp1, hpV, hrtI, hrtL, hrtR, hrtV, hpN, hck, hrI, hrB, hrL, hrA, hwI, hwA, hwB, hrN, hfk, hfs, hrF, hwF, hcl, hfty, tyX1, tyX3, tyX6, tyX9, tyX10, tyJ0, tyJ4, hfit, hcmp, hnar, hres, hst, hacp, kz, kof, kn0, kn1, Bool.not_true, Bool.not_false, true_and, and_true, Nat.zero_add, Nat.reduceAdd, List.length_cons, List.length_nil, true_or, or_true, false_or, or_false, decide_true, decide_false, ne_eq, not_true_eq_false, not_false_eq_true, ki_0, ki_1, ki_2, ki_3, ki_4, ki_5, kb_m100, kb_m10, kb_m9, kb_m8, kb_m7, kb_m6, kb_m5, kb_m4, kb_m3, kb_m2, kb_6, kb_7, kb_8, kb_9, kb_10, kb_12, kb_13, kb_16, kb_27, kb_31, kb_32, kb_43, kb_45, kb_48, kb_57, kb_60, kb_63, kb_81, kb_97, kb_99, kb_100, kb_120, kb_126, ks_m1000, ks_243, ks_255, ks_729, ks_1000, ks_2000, ks_2187, ks_6561, ks_9840, ks_9841, kl_0, kl_1]
  exact loop _ 0 rfl (Nat.zero_le _) (fun j q hj => by omega)
/-- the word of a number, by its letters -/
def mdecF : Nat → Nat → List Nat
  | 0, _ => []
  | n + 1, c => if c = 0 then [] else mdecF n ((c - 1) / 3) ++ [(c - 1) % 3]
def mdec (c : Nat) : List Nat := mdecF 8 c
theorem mdecF_enc : ∀ (n : Nat) (u : List Nat), u.length ≤ n → (∀ x ∈ u, x < 3) → mdecF n (menc u) = u
  | 0, u, h, _ => by
    have : u = [] := List.eq_nil_of_length_eq_zero (by omega)
    subst this; rfl
  | n + 1, u, h, hx => by
    rcases mlist_snoc u with rfl | ⟨u', x, rfl⟩
    · rfl
    · have h1 : x < 3 := hx x (by simp)
      rw [menc_snoc]
      show (if 3 * menc u' + 1 + x = 0 then [] else mdecF n ((3 * menc u' + 1 + x - 1) / 3) ++ [(3 * menc u' + 1 + x - 1) % 3]) = _
      rw [if_neg (by omega), show (3 * menc u' + 1 + x - 1) / 3 = menc u' by omega, show (3 * menc u' + 1 + x - 1) % 3 = x by omega, mdecF_enc n u' (by simp at h; omega) (fun y hy => hx y (List.mem_append_left _ hy))]
theorem mdec_enc {u : List Nat} (h : mW u) : mdec (menc u) = u := mdecF_enc 8 u h.1 h.2
theorem mdec_W {k : Nat} (h : k < 9841) : mW (mdec k) ∧ menc (mdec k) = k := by
  obtain ⟨u, h1, rfl⟩ := mword h
  rw [mdec_enc h1]
  exact ⟨h1, rfl⟩
/-- the length of the last, that is of the longest word; 0 for the polynomial 0 -/
def mlong (L : List (Nat × Int)) : Nat := match L.getLast? with | some q => (mdec q.1).length | none => 0
set_option maxRecDepth 100000 in
set_option maxHeartbeats 4000000 in
theorem c_longestWord (hg : hgo g) (hd : 3 ≤ d) {p a b : Nat} {L : List (Nat × Int)} (hp : hPoly w p a b L) (hL : mP L)  (h : Q (some (.int (nI (mlong L)))) N c s w) : Γ g d yX3_longestWord [.ref p] N c s w Q := by
  refine Γ.intro0 hg kX3_longestWord (by omega) (Nat.le_of_ble_eq_true rfl) (fun P hP => ?_)
  show P N 0 0 w 0 [some (.ref p)] []
  have hp9 := hp
  obtain ⟨hab, cf, nf, hw1, hw2, hw3, hw4⟩ := hp
  have hL1 := hL.1
  by_cases hz : L = []
  · subst hz
    refine hP 0 _ rfl _ _ _ _ _ _ ?_
    simp only [bX3_longestWord_0, hrun, hx, hnth, hput, hok, hcat2, hldI, hldL, hldR, hpI, hpL, hpA, hpR, hp1, hpV, hrtI, hrtL, hrtR, hrtV, hpN, hck, hrI, hrB, hrL, hrA, hwI, hwA, hwB, hrN, hfk, hfs, hrF, hwF, hcl, hfty, tyX1, tyX3, tyX6, tyX9, tyX10, tyJ0, tyJ4, hfit, hcmp, hnar, hres, hst, hacp, kz, kof, kn0, kn1, Bool.not_true, Bool.not_false, true_and, and_true, Nat.zero_add, Nat.reduceAdd, List.length_cons, List.length_nil, true_or, or_true, false_or, or_false, decide_true, decide_false, ne_eq, not_true_eq_false, not_false_eq_true, ki_0, ki_1, ki_2, ki_3, ki_4, ki_5, kb_m100, kb_m10, kb_m9, kb_m8, kb_m7, kb_m6, kb_m5, kb_m4, kb_m3, kb_m2, kb_6, kb_7, kb_8, kb_9, kb_10, kb_12, kb_13, kb_16, kb_27, kb_31, kb_32, kb_43, kb_45, kb_48, kb_57, kb_60, kb_63, kb_81, kb_97, kb_99, kb_100, kb_120, kb_126, ks_m1000, ks_243, ks_255, ks_729, ks_1000, ks_2000, ks_2187, ks_6561, ks_9840, ks_9841, kl_0, kl_1, hw1, hw2, hw3]
    refine c_codeAtN hg (by omega) hp9 hL (Or.inl (by decide +kernel)) ?_
    simp only [hrun, hx, hnth, hput, hok, hcat2, hldI, hldL, hldR, hpI, hpL, hpA, hpR, hp1, hpV, hrtI, hrtL, hrtR, hrtV, hpN, hck, hrI, hrB, hrL, hrA, hwI, hwA, hwB, hrN, hfk, hfs, hrF, hwF, hcl, hfty, tyX1, tyX3, tyX6, tyX9, tyX10, tyJ0, tyJ4, hfit, hcmp, hnar, hres, hst, hacp, kz, kof, kn0, kn1, Bool.not_true, Bool.not_false, true_and, and_true, Nat.zero_add, Nat.reduceAdd, List.length_cons, List.length_nil, true_or, or_true, false_or, or_false, decide_true, decide_false, ne_eq, not_true_eq_false, not_false_eq_true, ki_0, ki_1, ki_2, ki_3, ki_4, ki_5, kb_m100, kb_m10, kb_m9, kb_m8, kb_m7, kb_m6, kb_m5, kb_m4, kb_m3, kb_m2, kb_6, kb_7, kb_8, kb_9, kb_10, kb_12, kb_13, kb_16, kb_27, kb_31, kb_32, kb_43, kb_45, kb_48, kb_57, kb_60, kb_63, kb_81, kb_97, kb_99, kb_100, kb_120, kb_126, ks_m1000, ks_243, ks_255, ks_729, ks_1000, ks_2000, ks_2187, ks_6561, ks_9840, ks_9841, kl_0, kl_1, hw1, hw2, hw3]
    rw [← menc_nil]
    refine c_lengthOf hg (by omega) mW.nil ?_
    simp only [hrun, hx, hnth, hput, hok, hcat2, hldI, hldL, hldR, hpI, hpL, hpA, hpR, hp1, hpV, hrtI, hrtL, hrtR, hrtV, hpN, hck, hrI, hrB, hrL, hrA, hwI, hwA, hwB, hrN, hfk, hfs, hrF, hwF, hcl, hfty, tyX1, tyX3, tyX6, tyX9, tyX10, tyJ0, tyJ4, hfit, hcmp, hnar, hres, hst, hacp, kz, kof, kn0, kn1, Bool.not_true, Bool.not_false, true_and, and_true, Nat.zero_add, Nat.reduceAdd, List.length_cons, List.length_nil, true_or, or_true, false_or, or_false, decide_true, decide_false, ne_eq, not_true_eq_false, not_false_eq_true, ki_0, ki_1, ki_2, ki_3, ki_4, ki_5, kb_m100, kb_m10, kb_m9, kb_m8, kb_m7, kb_m6, kb_m5, kb_m4, kb_m3, kb_m2, kb_6, kb_7, kb_8, kb_9, kb_10, kb_12, kb_13, kb_16, kb_27, kb_31, kb_32, kb_43, kb_45, kb_48, kb_57, kb_60, kb_63, kb_81, kb_97, kb_99, kb_100, kb_120, kb_126, ks_m1000, ks_243, ks_255, ks_729, ks_1000, ks_2000, ks_2187, ks_6561, ks_9840, ks_9841, kl_0, kl_1, hw1, hw2, hw3]
    exact h
  · have hlt : 0 < L.length := List.length_pos_iff.mpr hz
    have hq : L[L.length - 1]? = some (L[L.length - 1]'(by omega)) := List.getElem?_eq_getElem (by omega)
    have hi9 := hL.at hq
    obtain ⟨u1, u2⟩ := mdec_W hi9.2.2.1
    have e : mlong L = (mdec (L[L.length - 1]'(by omega)).1).length := by
      unfold mlong
      rw [List.getLast?_eq_getElem?, hq]
    rw [e] at h
    have e2 : nI L.length - nI 1 = nI (L.length - 1) := pk_sub (by omega)
    refine hP 0 _ rfl _ _ _ _ _ _ ?_
    simp only [bX3_longestWord_0, hrun, hx, hnth, hput, hok, hcat2, hldI, hldL, hldR, hpI, hpL, hpA, hpR, hp1, hpV, hrtI, hrtL, hrtR, hrtV, hpN, hck, hrI, hrB, hrL, hrA, hwI, hwA, hwB, hrN, hfk, hfs, hrF, hwF, hcl, hfty, tyX1, tyX3, tyX6, tyX9, tyX10, tyJ0, tyJ4, hfit, hcmp, hnar, hres, hst, hacp, kz, kof, kn0, kn1, Bool.not_true, Bool.not_false, true_and, and_true, Nat.zero_add, Nat.reduceAdd, List.length_cons, List.length_nil, true_or, or_true, false_or, or_false, decide_true, decide_false, ne_eq, not_true_eq_false, not_false_eq_true, ki_0, ki_1, ki_2, ki_3, ki_4, ki_5, kb_m100, kb_m10, kb_m9, kb_m8, kb_m7, kb_m6, kb_m5, kb_m4, kb_m3, kb_m2, kb_6, kb_7, kb_8, kb_9, kb_10, kb_12, kb_13, kb_16, kb_27, kb_31, kb_32, kb_43, kb_45, kb_48, kb_57, kb_60, kb_63, kb_81, kb_97, kb_99, kb_100, kb_120, kb_126, ks_m1000, ks_243, ks_255, ks_729, ks_1000, ks_2000, ks_2187, ks_6561, ks_9840, ks_9841, kl_0, kl_1, hw1, hw2, hw3, e2]
    refine c_codeAt hg (by omega) hp9 hL hq ?_
    simp only [hrun, hx, hnth, hput, hok, hcat2, hldI, hldL, hldR, hpI, hpL, hpA, hpR, hp1, hpV, hrtI, hrtL, hrtR, hrtV, hpN, hck, hrI, hrB, hrL, hrA, hwI, hwA, hwB, hrN, hfk, hfs, hrF, hwF, hcl, hfty, tyX1, tyX3, tyX6, tyX9, tyX10, tyJ0, tyJ4, hfit, hcmp, hnar, hres, hst, hacp, kz, kof, kn0, kn1, Bool.not_true, Bool.not_false, true_and, and_true, Nat.zero_add, Nat.reduceAdd, List.length_cons, List.length_nil, true_or, or_true, false_or, or_false, decide_true, decide_false, ne_eq, not_true_eq_false, not_false_eq_true, ki_0, ki_1, ki_2, ki_3, ki_4, ki_5, kb_m100, kb_m10, kb_m9, kb_m8, kb_m7, kb_m6, kb_m5, kb_m4, kb_m3, kb_m2, kb_6, kb_7, kb_8, kb_9, kb_10, kb_12, kb_13, kb_16, kb_27, kb_31, kb_32, kb_43, kb_45, kb_48, kb_57, kb_60, kb_63, kb_81, kb_97, kb_99, kb_100, kb_120, kb_126, ks_m1000, ks_243, ks_255, ks_729, ks_1000, ks_2000, ks_2187, ks_6561, ks_9840, ks_9841, kl_0, kl_1, hw1, hw2, hw3, e2]
    rw [← u2]
    refine c_lengthOf hg (by omega) u1 ?_
    simp only [hrun, hx, hnth, hput, hok, hcat2, hldI, hldL, hldR, hpI, hpL, hpA, hpR, hp1, hpV, hrtI, hrtL, hrtR, hrtV, hpN, hck, hrI, hrB, hrL, hrA, hwI, hwA, hwB, hrN, hfk, hfs, hrF, hwF, hcl, hfty, tyX1, tyX3, tyX6, tyX9, tyX10, tyJ0, tyJ4, hfit, hcmp, hnar, hres, hst, hacp, kz, kof, kn0, kn1, Bool.not_true, Bool.not_false, true_and, and_true, Nat.zero_add, Nat.reduceAdd, List.length_cons, List.length_nil, true_or, or_true, false_or, or_false, decide_true, decide_false, ne_eq, not_true_eq_false, not_false_eq_true, ki_0, ki_1, ki_2, ki_3, ki_4, ki_5, kb_m100, kb_m10, kb_m9, kb_m8, kb_m7, kb_m6, kb_m5, kb_m4, kb_m3, kb_m2, kb_6, kb_7, kb_8, kb_9, kb_10, kb_12, kb_13, kb_16, kb_27, kb_31, kb_32, kb_43, kb_45, kb_48, kb_57, kb_60, kb_63, kb_81, kb_97, kb_99, kb_100, kb_120, kb_126, ks_m1000, ks_243, ks_255, ks_729, ks_1000, ks_2000, ks_2187, ks_6561, ks_9840, ks_9841, kl_0, kl_1, hw1, hw2, hw3, e2]
    exact h
/-- outside S nothing changed -/
def mfr (S : List Nat) (w w' : hWd) : Prop := ∀ i, i ∉ S → w' i = w i
theorem mfr.rf {S : List Nat} {w : hWd} : mfr S w w := fun _ _ => rfl
theorem mfr.tr {S : List Nat} {w w1 w2 : hWd} (h1 : mfr S w w1) (h2 : mfr S w1 w2) : mfr S w w2 := fun i hi => (h2 i hi).trans (h1 i hi)
theorem mfr.mono {S S' : List Nat} {w w' : hWd} (h : mfr S w w') (hS : ∀ i ∈ S, i ∈ S') : mfr S' w w' := fun i hi => h i (fun q => hi (hS i q))
theorem mfr.up {S : List Nat} {w : hWd} {k : Nat} {e : hE} (h : k ∈ S) : mfr S w (va_up w k e) := fun i hi => va_up_ne w e (fun q => hi (by rw [q]; exact h))
theorem hPoly.ne {w : hWd} {p a b : Nat} {L : List (Nat × Int)} (h : hPoly w p a b L) : p ≠ a ∧ p ≠ b ∧ a ≠ b := by
  obtain ⟨e0, cf, nf, e1, e2, e3, e4⟩ := h
  exact ⟨(fun q => by rw [q, e2] at e1; cases e1), (fun q => by rw [q, e3] at e1; cases e1), e0⟩
theorem mP.nil : mP [] := ⟨by simp, (fun _ h => by cases h), List.Pairwise.nil⟩
set_option maxRecDepth 100000 in
set_option maxHeartbeats 4000000 in
theorem c_clear (hg : hgo g) (hd : 1 ≤ d) {p a b : Nat} {L : List (Nat × Int)} (hp : hPoly w p a b L) (hL : mP L)  (h : ∀ w', hPoly w' p a b [] → mfr [p] w w' → Q none N c s w') : Γ g d yX3_clear [.ref p] N c s w Q := by
  refine Γ.intro0 hg kX3_clear (by omega) (Nat.le_of_ble_eq_true rfl) (fun P hP => ?_)
  show P N 0 0 w 0 [some (.ref p)] []
  have hne := hp.ne
  obtain ⟨hab, cf, nf, hw1, hw2, hw3, hw4⟩ := hp
  have hL1 := hL.1
  refine hP 0 _ rfl _ _ _ _ _ _ ?_
  simp only [bX3_clear_0, hrun, hx, hnth, hput, hok, hcat2, hldI, hldL, hldR, hpI, hpL, hpA, hpR, hp1, hpV, hrtI, hrtL, hrtR, hrtV, hpN, hck, hrI, hrB, hrL, hrA, hwI, hwA, hwB, hrN, hfk, hfs, hrF, hwF, hcl, hfty, tyX1, tyX3, tyX6, tyX9, tyX10, tyJ0, tyJ4, hfit, hcmp, hnar, hres, hst, hacp, kz, kof, kn0, kn1, Bool.not_true, Bool.not_false, true_and, and_true, Nat.zero_add, Nat.reduceAdd, List.length_cons, List.length_nil, true_or, or_true, false_or, or_false, decide_true, decide_false, ne_eq, not_true_eq_false, not_false_eq_true, ki_0, ki_1, ki_2, ki_3, ki_4, ki_5, kb_m100, kb_m10, kb_m9, kb_m8, kb_m7, kb_m6, kb_m5, kb_m4, kb_m3, kb_m2, kb_6, kb_7, kb_8, kb_9, kb_10, kb_12, kb_13, kb_16, kb_27, kb_31, kb_32, kb_43, kb_45, kb_48, kb_57, kb_60, kb_63, kb_81, kb_97, kb_99, kb_100, kb_120, kb_126, ks_m1000, ks_243, ks_255, ks_729, ks_1000, ks_2000, ks_2187, ks_6561, ks_9840, ks_9841, kl_0, kl_1, hw1, hw2, hw3]
  refine h _ ⟨hab, cf, nf, va_up_self _ _ _, (va_up_ne _ _ hne.1.symm).trans hw2, (va_up_ne _ _ hne.2.1.symm).trans hw3, fun i q hq => by cases i <;> cases hq⟩ (mfr.up (by simp))
set_option maxRecDepth 100000 in
set_option maxHeartbeats 4000000 in
theorem c_append (hg : hgo g) (hd : 1 ≤ d) {p a b : Nat} {L : List (Nat × Int)} (hp : hPoly w p a b L) (hL : mP L) (hlt : L.length < 120) {k : Nat} {z : Int} (hz1 : -1000000 ≤ z) (hz2 : z ≤ 1000000)  (h : ∀ w', hPoly w' p a b (L ++ [(k, z)]) → mfr [p, a, b] w w' → Q none N c s w') : Γ g d yX3_append [.ref p, .int (nI k), .long (Int64.ofInt z)] N c s w Q := by
  refine Γ.intro0 hg kX3_append (by omega) (Nat.le_of_ble_eq_true rfl) (fun P hP => ?_)
  show P N 0 0 w 0 [some (.ref p), some (.int (nI k)), some (.long (Int64.ofInt z)), none] []
  have hne := hp.ne
  obtain ⟨hab, cf, nf, hw1, hw2, hw3, hw4⟩ := hp
  have hL1 := hL.1
  have u1 : ∀ (f : hWd) (v : hE), va_up f a v p = f p := fun f v => va_up_ne f v hne.1
  have u2 : ∀ (f : hWd) (v : hE), va_up f b v p = f p := fun f v => va_up_ne f v hne.2.1
  have u3 : ∀ (f : hWd) (v : hE), va_up f a v b = f b := fun f v => va_up_ne f v hab.symm
  have u4 : ∀ (f : hWd) (v : hE), va_up f b v a = f a := fun f v => va_up_ne f v hab
  have u5 : ∀ (f : hWd) (v : hE), va_up f p v a = f a := fun f v => va_up_ne f v hne.1.symm
  have u6 : ∀ (f : hWd) (v : hE), va_up f p v b = f b := fun f v => va_up_ne f v hne.2.1.symm
  have e7 := nI_clamp (n := L.length) (by omega)
  refine hP 0 _ rfl _ _ _ _ _ _ ?_
  simp only [bX3_append_0, hrun, hx, hnth, hput, hok, hcat2, hldI, hldL, hldR, hpI, hpL, hpA, hpR, hp1, hpV, hrtI, hrtL, hrtR, hrtV, hpN, hck, hrI, hrB, hrL, hrA, hwI, hwA, hwB, hrN, hfk, hfs, hrF, hwF, hcl, hfty, tyX1, tyX3, tyX6, tyX9, tyX10, tyJ0, tyJ4, hfit, hcmp, hnar, hres, hst, hacp, kz, kof, kn0, kn1, Bool.not_true, Bool.not_false, true_and, and_true, Nat.zero_add, Nat.reduceAdd, List.length_cons, List.length_nil, true_or, or_true, false_or, or_false, decide_true, decide_false, ne_eq, not_true_eq_false, not_false_eq_true, ki_0, ki_1, ki_2, ki_3, ki_4, ki_5, kb_m100, kb_m10, kb_m9, kb_m8, kb_m7, kb_m6, kb_m5, kb_m4, kb_m3, kb_m2, kb_6, kb_7, kb_8, kb_9, kb_10, kb_12, kb_13, kb_16, kb_27, kb_31, kb_32, kb_43, kb_45, kb_48, kb_57, kb_60, kb_63, kb_81, kb_97, kb_99, kb_100, kb_120, kb_126, ks_m1000, ks_243, ks_255, ks_729, ks_1000, ks_2000, ks_2187, ks_6561, ks_9840, ks_9841, kl_0, kl_1, hw1, hw2, hw3, u1, u2, u3, u4, u5, u6, va_up_self]
  refine ⟨fun b6 => ?_, fun b6 => ?_⟩
  · (try simp (disch := omega) only [nI_ltI, nI_leI, nI_eq, Nat.not_lt, Nat.not_le] at b6) <;> (exfalso; omega)
  · try simp (disch := omega) only [nI_ltI, nI_leI, nI_eq, Nat.not_lt, Nat.not_le] at b6
    refine hP 1 _ rfl _ _ _ _ _ _ ?_
    simp only [bX3_append_1, hrun, hx, hnth, hput, hok, hcat2, hldI, hldL, hldR, hpI, hpL, hpA, hpR, hp1, hpV, hrtI, hrtL, hrtR, hrtV, hpN, hck, hrI, hrB, hrL, hrA, hwI, hwA, hwB, hrN, hfk, hfs, hrF, hwF, hcl, hfty, tyX1, tyX3, tyX6, tyX9, tyX10, tyJ0, tyJ4, hfit, hcmp, hnar, hres, hst, hacp, kz, kof, kn0, kn1, Bool.not_true, Bool.not_false, true_and, and_true, Nat.zero_add, Nat.reduceAdd, List.length_cons, List.length_nil, true_or, or_true, false_or, or_false, decide_true, decide_false, ne_eq, not_true_eq_false, not_false_eq_true, ki_0, ki_1, ki_2, ki_3, ki_4, ki_5, kb_m100, kb_m10, kb_m9, kb_m8, kb_m7, kb_m6, kb_m5, kb_m4, kb_m3, kb_m2, kb_6, kb_7, kb_8, kb_9, kb_10, kb_12, kb_13, kb_16, kb_27, kb_31, kb_32, kb_43, kb_45, kb_48, kb_57, kb_60, kb_63, kb_81, kb_97, kb_99, kb_100, kb_120, kb_126, ks_m1000, ks_243, ks_255, ks_729, ks_1000, ks_2000, ks_2187, ks_6561, ks_9840, ks_9841, kl_0, kl_1, hw1, hw2, hw3, u1, u2, u3, u4, u5, u6, va_up_self]
    refine ⟨vp_in_nI (by omega) (by omega), ?_⟩
    refine ⟨vp_in_nI (by omega) (by omega), ?_⟩
    refine hP 2 _ rfl _ _ _ _ _ _ ?_
    simp only [bX3_append_2, hrun, hx, hnth, hput, hok, hcat2, hldI, hldL, hldR, hpI, hpL, hpA, hpR, hp1, hpV, hrtI, hrtL, hrtR, hrtV, hpN, hck, hrI, hrB, hrL, hrA, hwI, hwA, hwB, hrN, hfk, hfs, hrF, hwF, hcl, hfty, tyX1, tyX3, tyX6, tyX9, tyX10, tyJ0, tyJ4, hfit, hcmp, hnar, hres, hst, hacp, kz, kof, kn0, kn1, Bool.not_true, Bool.not_false, true_and, and_true, Nat.zero_add, Nat.reduceAdd, List.length_cons, List.length_nil, true_or, or_true, false_or, or_false, decide_true, decide_false, ne_eq, not_true_eq_false, not_false_eq_true, ki_0, ki_1, ki_2, ki_3, ki_4, ki_5, kb_m100, kb_m10, kb_m9, kb_m8, kb_m7, kb_m6, kb_m5, kb_m4, kb_m3, kb_m2, kb_6, kb_7, kb_8, kb_9, kb_10, kb_12, kb_13, kb_16, kb_27, kb_31, kb_32, kb_43, kb_45, kb_48, kb_57, kb_60, kb_63, kb_81, kb_97, kb_99, kb_100, kb_120, kb_126, ks_m1000, ks_243, ks_255, ks_729, ks_1000, ks_2000, ks_2187, ks_6561, ks_9840, ks_9841, kl_0, kl_1, hw1, hw2, hw3, u1, u2, u3, u4, u5, u6, va_up_self]
    refine h _ ⟨hab, upd cf L.length (nI k), upd nf L.length (Int32.ofInt z), ?_, ?_, ?_, fun i q hq => ?_⟩ (((mfr.up (by simp)).tr (mfr.up (by simp))).tr (mfr.up (by simp)))
    · simp only [va_up_self, nI_add, List.length_append, List.length_cons, List.length_nil]
    · simp only [u5, u4, va_up_self, e7]
    · simp only [u6, va_up_self, e7, ofI32 _ hz1 hz2]
    · by_cases hi : i < L.length
      · rw [List.getElem?_append_left hi] at hq
        have := hw4 i q hq
        have hne9 : i ≠ L.length := by omega
        simpa [upd, hne9] using this
      · rw [List.getElem?_append_right (by omega)] at hq
        have hi0 : i - L.length < 1 := (List.getElem?_eq_some_iff.mp hq).1
        have hi1 : i = L.length := by omega
        subst hi1
        rw [Nat.sub_self] at hq
        cases hq
        simp [upd]
set_option maxRecDepth 100000 in
set_option maxHeartbeats 4000000 in
theorem c_copyFrom (hg : hgo g) (hd : 2 ≤ d) {p a b p2 a2 b2 : Nat} {L L2 : List (Nat × Int)} (hp : hPoly w p a b L) (hq : hPoly w p2 a2 b2 L2) (hL2 : mP L2) (hd1 : a2 ≠ b ∧ b2 ≠ a ∧ p2 ≠ a ∧ p2 ≠ b ∧ p2 ≠ p ∧ a ≠ a2 ∧ b ≠ b2)  (h : ∀ w', hPoly w' p a b L2 → mfr [p, a, b] w w' → Q none N c s w') : Γ g d yX3_copyFrom [.ref p, .ref p2] N c s w Q := by
  refine Γ.intro0 hg kX3_copyFrom (by omega) (Nat.le_of_ble_eq_true rfl) (fun P hP => ?_)
  show P N 0 0 w 0 [some (.ref p), some (.ref p2)] []
  have hne := hp.ne
  have hne2 := hq.ne
  obtain ⟨hab, cf, nf, hw1, hw2, hw3, hw4⟩ := hp
  obtain ⟨hab2, cf2, nf2, hq1, hq2, hq3, hq4⟩ := hq
  have u1 : ∀ (f : hWd) (v : hE), va_up f a v p = f p := fun f v => va_up_ne f v hne.1
  have u2 : ∀ (f : hWd) (v : hE), va_up f b v p = f p := fun f v => va_up_ne f v hne.2.1
  have u3 : ∀ (f : hWd) (v : hE), va_up f a v b = f b := fun f v => va_up_ne f v hab.symm
  have u4 : ∀ (f : hWd) (v : hE), va_up f b v a = f a := fun f v => va_up_ne f v hab
  have u5 : ∀ (f : hWd) (v : hE), va_up f p v a = f a := fun f v => va_up_ne f v hne.1.symm
  have u6 : ∀ (f : hWd) (v : hE), va_up f p v b = f b := fun f v => va_up_ne f v hne.2.1.symm
  have u7 : ∀ (f : hWd) (v : hE), va_up f a v p2 = f p2 := fun f v => va_up_ne f v hd1.2.2.1
  have u8 : ∀ (f : hWd) (v : hE), va_up f b v p2 = f p2 := fun f v => va_up_ne f v hd1.2.2.2.1
  have u9 : ∀ (f : hWd) (v : hE), va_up f a v b2 = f b2 := fun f v => va_up_ne f v hd1.2.1
  have c0 : (nI 0).toNatClampNeg = 0 := by decide +kernel
  have c1 : (nI 120).toNatClampNeg = 120 := by decide +kernel
  have cz' : ¬ nI 0 < nI 0 := by decide +kernel
  have cy' : ¬ nI 120 < nI 0 := by decide +kernel
  refine hP 0 _ rfl _ _ _ _ _ _ ?_
  simp only [bX3_copyFrom_0, hrun, hx, hnth, hput, hok, hcat2, hldI, hldL, hldR, hpI, hpL, hpA, hpR, hp1, hpV, hrtI, hrtL, hrtR, hrtV, hpN, hck, hrI, hrB, hrL, hrA, hwI, hwA, hwB, hrN, hfk, hfs, hrF, hwF, hcl, hfty, tyX1, tyX3, tyX6, tyX9, tyX10, tyJ0, tyJ4, hfit, hcmp, hnar, hres, hst, hacp, kz, kof, kn0, kn1, Bool.not_true, Bool.not_false, true_and, and_true, Nat.zero_add, Nat.reduceAdd, List.length_cons, List.length_nil, true_or, or_true, false_or, or_false, decide_true, decide_false, ne_eq, not_true_eq_false, not_false_eq_true, ki_0, ki_1, ki_2, ki_3, ki_4, ki_5, kb_m100, kb_m10, kb_m9, kb_m8, kb_m7, kb_m6, kb_m5, kb_m4, kb_m3, kb_m2, kb_6, kb_7, kb_8, kb_9, kb_10, kb_12, kb_13, kb_16, kb_27, kb_31, kb_32, kb_43, kb_45, kb_48, kb_57, kb_60, kb_63, kb_81, kb_97, kb_99, kb_100, kb_120, kb_126, ks_m1000, ks_243, ks_255, ks_729, ks_1000, ks_2000, ks_2187, ks_6561, ks_9840, ks_9841, kl_0, kl_1, hw1, hw2, hw3, hq1, hq2, hq3, u1, u2, u3, u4, u5, u6, u7, u8, u9, va_up_self, c0, c1, cz', cy', Nat.zero_add, Nat.le_refl]
  refine h _ ⟨hab, va_cpy cf2 cf 0 0 120, va_cpy nf2 nf 0 0 120, ?_, ?_, ?_, fun i q hq => ?_⟩ (((mfr.up (by simp)).tr (mfr.up (by simp))).tr (mfr.up (by simp)))
  · simp only [va_up_self]
  · simp only [u5, u4, va_up_self]
  · simp only [u6, va_up_self]
  · have := hq4 i q hq
    have hi := hL2.at hq
    rw [sb_cpy0 hi.2.1, sb_cpy0 hi.2.1]
    exact this
end W3
