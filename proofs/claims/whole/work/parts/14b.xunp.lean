/-! the class's Words.unpack -/
section W8b
variable {g : hG} {d N c s : Nat} {w : hWd} {Q : hRt}
/-- the first letters of a row are those of a word, the rest as before -/
def mset (f : Nat → Int32) (u : List Nat) : Nat → Int32 := fun j => if j < u.length then nI (u.getD j 0) else f j
theorem mhi_sub {n : Nat} (h : 1 ≤ n) : nI n - nI 1 = mhi n := by
  obtain ⟨k, rfl⟩ : ∃ k, n = k + 1 := ⟨n - 1, by omega⟩
  rw [mhi_succ, pk_sub (by omega)]
  rfl
theorem mhi_0 : nI 0 - nI 1 = mhi 0 := by decide +kernel
theorem mhi_s (n : Nat) : nI n - nI 1 = mhi n := by
  cases n with
  | zero => exact mhi_0
  | succ n => exact mhi_sub (by omega)
theorem mhi_neg {h : Nat} (hh : h ≤ 9841) : mhi h < nI 0 ↔ h = 0 := by
  rw [mhi_lt hh (by omega)]; omega
theorem nI_min2 (a b : Nat) (ha : a < 2 ^ 31) (hb : b < 2 ^ 31) : (if nI b < nI a then nI b else nI a) = nI (min a b) := nI_min a b ha hb
set_option maxRecDepth 100000 in
set_option maxHeartbeats 4000000 in
theorem c_unpack (hg : hgo g) (hd : 3 ≤ d) {u : List Nat} (hu : mW u) {x : Nat} {f : Nat → Int32} (hwx : w x = .inl (0, 8, .inl f))  (h : ∀ w', w' = va_up w x (.inl (0, 8, .inl (mset f u))) → Q (some (.int (nI u.length))) N c s w') : Γ g d yX8_unpack [.int (nI (menc u)), .ref x] N c s w Q := by
  refine Γ.intro0 hg kX8_unpack (by omega) (Nat.le_of_ble_eq_true rfl) (fun P hP => ?_)
  show P N 0 0 w 0 [some (.int (nI (menc u))), some (.ref x), none, none, none] []
  have h8 := hu.1
  have eb : ¬ nI 8 < nI u.length := by rw [nI_ltI (by omega) (by omega)]; omega
  have loop : ∀ (n : Nat) (v : List Nat) (w1 : hWd), v.length = n → (∃ r, v ++ r = u) → (∃ F, w1 = va_up w x (.inl (0, 8, .inl F)) ∧ ∀ j, F j = if n ≤ j ∧ j < u.length then nI (u.getD j 0) else f j) → P N 0 0 w1 17 [some (.int (nI (menc u))), some (.ref x), some (.int (nI u.length)), some (.int (nI (menc v))), some (.int (mhi n))] [] := by
    intro n
    induction n with
    | zero =>
      intro v w1 hn hr ⟨F, hF1, hF2⟩
      refine hP 1 _ rfl _ _ _ _ _ _ ?_
      simp only [bX8_unpack_1, hrun, hx, hnth, hput, hok, hcat2, hldI, hldL, hldR, hpI, hpL, hpA, hpR, hp1, hpV, hrtI, hrtL, hrtR, hrtV, hpN, hck, hrI, hrB, hrL, hrA, hwI, hwA, hwB, hrN, hfk, hfs, hrF, hwF, hcl, hfty, tyX1, tyX3, tyX6, tyX9, tyX10, tyJ0, tyJ4, hfit, hcmp, hnar, hres, hst, hacp, kz, kof, kn0, kn1, Bool.not_true, Bool.not_false, true_and, and_true, Nat.zero_add, Nat.reduceAdd, List.length_cons, List.length_nil, true_or, or_true, false_or, or_false, decide_true, decide_false, ne_eq, not_true_eq_false, not_false_eq_true, ki_0, ki_1, ki_2, ki_3, ki_4, ki_5, kb_m100, kb_m10, kb_m9, kb_m8, kb_m7, kb_m6, kb_m5, kb_m4, kb_m3, kb_m2, kb_6, kb_7, kb_8, kb_9, kb_10, kb_12, kb_13, kb_16, kb_27, kb_31, kb_32, kb_43, kb_45, kb_48, kb_57, kb_60, kb_63, kb_81, kb_97, kb_99, kb_100, kb_120, kb_126, ks_m1000, ks_243, ks_255, ks_729, ks_1000, ks_2000, ks_2187, ks_6561, ks_9840, ks_9841, kl_0, kl_1]
      refine ⟨fun b19 => ?_, fun b19 => ?_⟩
      · try simp (disch := omega) only [nI_ltI, nI_leI, nI_eq, Nat.not_lt, Nat.not_le, mhi_neg] at b19
        refine hP 3 _ rfl _ _ _ _ _ _ ?_
        simp only [bX8_unpack_3, hrun, hx, hnth, hput, hok, hcat2, hldI, hldL, hldR, hpI, hpL, hpA, hpR, hp1, hpV, hrtI, hrtL, hrtR, hrtV, hpN, hck, hrI, hrB, hrL, hrA, hwI, hwA, hwB, hrN, hfk, hfs, hrF, hwF, hcl, hfty, tyX1, tyX3, tyX6, tyX9, tyX10, tyJ0, tyJ4, hfit, hcmp, hnar, hres, hst, hacp, kz, kof, kn0, kn1, Bool.not_true, Bool.not_false, true_and, and_true, Nat.zero_add, Nat.reduceAdd, List.length_cons, List.length_nil, true_or, or_true, false_or, or_false, decide_true, decide_false, ne_eq, not_true_eq_false, not_false_eq_true, ki_0, ki_1, ki_2, ki_3, ki_4, ki_5, kb_m100, kb_m10, kb_m9, kb_m8, kb_m7, kb_m6, kb_m5, kb_m4, kb_m3, kb_m2, kb_6, kb_7, kb_8, kb_9, kb_10, kb_12, kb_13, kb_16, kb_27, kb_31, kb_32, kb_43, kb_45, kb_48, kb_57, kb_60, kb_63, kb_81, kb_97, kb_99, kb_100, kb_120, kb_126, ks_m1000, ks_243, ks_255, ks_729, ks_1000, ks_2000, ks_2187, ks_6561, ks_9840, ks_9841, kl_0, kl_1]
        refine h w1 ?_
        rw [hF1]
        have eF : F = mset f u := by
          funext j
          rw [hF2 j]
          unfold mset
          by_cases q : j < u.length <;> simp [q]
        rw [eF]
      · try simp (disch := omega) only [nI_ltI, nI_leI, nI_eq, Nat.not_lt, Nat.not_le, mhi_neg] at b19
        exact (b19 trivial).elim
    | succ n ih =>
      intro v w1 hn ⟨r, hr⟩ ⟨F, hF1, hF2⟩
      rcases mlist_snoc v with rfl | ⟨v', y, rfl⟩
      · cases hn
      have hn' : v'.length = n := by simpa using hn
      have hlen : n + 1 ≤ u.length := by rw [← hr]; simp; omega
      have hW : mW (v' ++ [y]) := hu.sub (by rw [← hr]; simp) (fun z hz => by rw [← hr]; exact List.mem_append_left _ hz)
      have ey : u.getD n 0 = y := by
        rw [← hr, List.append_assoc, List.getD_eq_getElem?_getD, List.getElem?_append_right (by omega), hn', Nat.sub_self]
        rfl
      have k1 : w1 x = .inl (0, 8, .inl F) := by rw [hF1, va_up_self]
      have e7 := nI_clamp (n := n) (by omega)
      rw [mhi_succ]
      refine hP 1 _ rfl _ _ _ _ _ _ ?_
      simp only [bX8_unpack_1, hrun, hx, hnth, hput, hok, hcat2, hldI, hldL, hldR, hpI, hpL, hpA, hpR, hp1, hpV, hrtI, hrtL, hrtR, hrtV, hpN, hck, hrI, hrB, hrL, hrA, hwI, hwA, hwB, hrN, hfk, hfs, hrF, hwF, hcl, hfty, tyX1, tyX3, tyX6, tyX9, tyX10, tyJ0, tyJ4, hfit, hcmp, hnar, hres, hst, hacp, kz, kof, kn0, kn1, Bool.not_true, Bool.not_false, true_and, and_true, Nat.zero_add, Nat.reduceAdd, List.length_cons, List.length_nil, true_or, or_true, false_or, or_false, decide_true, decide_false, ne_eq, not_true_eq_false, not_false_eq_true, ki_0, ki_1, ki_2, ki_3, ki_4, ki_5, kb_m100, kb_m10, kb_m9, kb_m8, kb_m7, kb_m6, kb_m5, kb_m4, kb_m3, kb_m2, kb_6, kb_7, kb_8, kb_9, kb_10, kb_12, kb_13, kb_16, kb_27, kb_31, kb_32, kb_43, kb_45, kb_48, kb_57, kb_60, kb_63, kb_81, kb_97, kb_99, kb_100, kb_120, kb_126, ks_m1000, ks_243, ks_255, ks_729, ks_1000, ks_2000, ks_2187, ks_6561, ks_9840, ks_9841, kl_0, kl_1, k1, e7]
      refine ⟨fun b19 => ?_, fun b19 => ?_⟩
      · (try simp (disch := omega) only [nI_ltI, nI_leI, nI_eq, Nat.not_lt, Nat.not_le] at b19) <;> (exfalso; omega)
      · try simp (disch := omega) only [nI_ltI, nI_leI, nI_eq, Nat.not_lt, Nat.not_le] at b19
        refine hP 2 _ rfl _ _ _ _ _ _ ?_
        simp only [bX8_unpack_2, hrun, hx, hnth, hput, hok, hcat2, hldI, hldL, hldR, hpI, hpL, hpA, hpR, hp1, hpV, hrtI, hrtL, hrtR, hrtV, hpN, hck, hrI, hrB, hrL, hrA, hwI, hwA, hwB, hrN, hfk, hfs, hrF, hwF, hcl, hfty, tyX1, tyX3, tyX6, tyX9, tyX10, tyJ0, tyJ4, hfit, hcmp, hnar, hres, hst, hacp, kz, kof, kn0, kn1, Bool.not_true, Bool.not_false, true_and, and_true, Nat.zero_add, Nat.reduceAdd, List.length_cons, List.length_nil, true_or, or_true, false_or, or_false, decide_true, decide_false, ne_eq, not_true_eq_false, not_false_eq_true, ki_0, ki_1, ki_2, ki_3, ki_4, ki_5, kb_m100, kb_m10, kb_m9, kb_m8, kb_m7, kb_m6, kb_m5, kb_m4, kb_m3, kb_m2, kb_6, kb_7, kb_8, kb_9, kb_10, kb_12, kb_13, kb_16, kb_27, kb_31, kb_32, kb_43, kb_45, kb_48, kb_57, kb_60, kb_63, kb_81, kb_97, kb_99, kb_100, kb_120, kb_126, ks_m1000, ks_243, ks_255, ks_729, ks_1000, ks_2000, ks_2187, ks_6561, ks_9840, ks_9841, kl_0, kl_1, k1, e7]
        refine c_lastLetter hg (by omega) hW ?_
        simp only [hrun, hx, hnth, hput, hok, hcat2, hldI, hldL, hldR, hpI, hpL, hpA, hpR, hp1, hpV, hrtI, hrtL, hrtR, hrtV, hpN, hck, hrI, hrB, hrL, hrA, hwI, hwA, hwB, hrN, hfk, hfs, hrF, hwF, hcl, hfty, tyX1, tyX3, tyX6, tyX9, tyX10, tyJ0, tyJ4, hfit, hcmp, hnar, hres, hst, hacp, kz, kof, kn0, kn1, Bool.not_true, Bool.not_false, true_and, and_true, Nat.zero_add, Nat.reduceAdd, List.length_cons, List.length_nil, true_or, or_true, false_or, or_false, decide_true, decide_false, ne_eq, not_true_eq_false, not_false_eq_true, ki_0, ki_1, ki_2, ki_3, ki_4, ki_5, kb_m100, kb_m10, kb_m9, kb_m8, kb_m7, kb_m6, kb_m5, kb_m4, kb_m3, kb_m2, kb_6, kb_7, kb_8, kb_9, kb_10, kb_12, kb_13, kb_16, kb_27, kb_31, kb_32, kb_43, kb_45, kb_48, kb_57, kb_60, kb_63, kb_81, kb_97, kb_99, kb_100, kb_120, kb_126, ks_m1000, ks_243, ks_255, ks_729, ks_1000, ks_2000, ks_2187, ks_6561, ks_9840, ks_9841, kl_0, kl_1, k1, e7]
        refine ⟨vp_in_nI (by omega) (by omega), ?_⟩
        refine c_withoutLast hg (by omega) hW ?_
        simp only [hrun, hx, hnth, hput, hok, hcat2, hldI, hldL, hldR, hpI, hpL, hpA, hpR, hp1, hpV, hrtI, hrtL, hrtR, hrtV, hpN, hck, hrI, hrB, hrL, hrA, hwI, hwA, hwB, hrN, hfk, hfs, hrF, hwF, hcl, hfty, tyX1, tyX3, tyX6, tyX9, tyX10, tyJ0, tyJ4, hfit, hcmp, hnar, hres, hst, hacp, kz, kof, kn0, kn1, Bool.not_true, Bool.not_false, true_and, and_true, Nat.zero_add, Nat.reduceAdd, List.length_cons, List.length_nil, true_or, or_true, false_or, or_false, decide_true, decide_false, ne_eq, not_true_eq_false, not_false_eq_true, ki_0, ki_1, ki_2, ki_3, ki_4, ki_5, kb_m100, kb_m10, kb_m9, kb_m8, kb_m7, kb_m6, kb_m5, kb_m4, kb_m3, kb_m2, kb_6, kb_7, kb_8, kb_9, kb_10, kb_12, kb_13, kb_16, kb_27, kb_31, kb_32, kb_43, kb_45, kb_48, kb_57, kb_60, kb_63, kb_81, kb_97, kb_99, kb_100, kb_120, kb_126, ks_m1000, ks_243, ks_255, ks_729, ks_1000, ks_2000, ks_2187, ks_6561, ks_9840, ks_9841, kl_0, kl_1, k1, e7]
        rw [List.dropLast_concat]
        have e9 : nI n + Int32.ofInt (-1) = mhi n := by
          have : Int32.ofInt (-1) = -nI 1 := by decide +kernel
          rw [this, ← mhi_s, Int32.sub_eq_add_neg]
        rw [e9]
        refine ih v' _ hn' ⟨y :: r, by rw [← hr]; simp⟩ ⟨upd F n (nI y), by rw [hF1, bx_uu], fun j => ?_⟩
        unfold upd
        by_cases q : j = n
        · subst q
          rw [if_pos rfl, if_pos ⟨Nat.le_refl _, by omega⟩, ey]
        · rw [if_neg q, hF2 j]
          by_cases q2 : n + 1 ≤ j ∧ j < u.length
          · rw [if_pos q2, if_pos ⟨by omega, q2.2⟩]
          · rw [if_neg q2, if_neg (by omega)]
  refine hP 0 _ rfl _ _ _ _ _ _ ?_
  simp only [bX8_unpack_0, hrun, hx, hnth, hput, hok, hcat2, hldI, hldL, hldR, hpI, hpL, hpA, hpR, hp1, hpV, hrtI, hrtL, hrtR, hrtV, hpN, hck, hrI, hrB, hrL, hrA, hwI, hwA, hwB, hrN, hfk, hfs, hrF, hwF, hcl, hfty, tyX1, tyX3, tyX6, tyX9, tyX10, tyJ0, tyJ4, hfit, hcmp, hnar, hres, hst, hacp, kz, kof, kn0, kn1, Bool.not_true, Bool.not_false, true_and, and_true, Nat.zero_add, Nat.reduceAdd, List.length_cons, List.length_nil, true_or, or_true, false_or, or_false, decide_true, decide_false, ne_eq, not_true_eq_false, not_false_eq_true, ki_0, ki_1, ki_2, ki_3, ki_4, ki_5, kb_m100, kb_m10, kb_m9, kb_m8, kb_m7, kb_m6, kb_m5, kb_m4, kb_m3, kb_m2, kb_6, kb_7, kb_8, kb_9, kb_10, kb_12, kb_13, kb_16, kb_27, kb_31, kb_32, kb_43, kb_45, kb_48, kb_57, kb_60, kb_63, kb_81, kb_97, kb_99, kb_100, kb_120, kb_126, ks_m1000, ks_243, ks_255, ks_729, ks_1000, ks_2000, ks_2187, ks_6561, ks_9840, ks_9841, kl_0, kl_1, hwx, eb, ↓reduceIte, mhi_s]
  refine c_lengthOf hg (by omega) hu ?_
  simp only [hrun, hx, hnth, hput, hok, hcat2, hldI, hldL, hldR, hpI, hpL, hpA, hpR, hp1, hpV, hrtI, hrtL, hrtR, hrtV, hpN, hck, hrI, hrB, hrL, hrA, hwI, hwA, hwB, hrN, hfk, hfs, hrF, hwF, hcl, hfty, tyX1, tyX3, tyX6, tyX9, tyX10, tyJ0, tyJ4, hfit, hcmp, hnar, hres, hst, hacp, kz, kof, kn0, kn1, Bool.not_true, Bool.not_false, true_and, and_true, Nat.zero_add, Nat.reduceAdd, List.length_cons, List.length_nil, true_or, or_true, false_or, or_false, decide_true, decide_false, ne_eq, not_true_eq_false, not_false_eq_true, ki_0, ki_1, ki_2, ki_3, ki_4, ki_5, kb_m100, kb_m10, kb_m9, kb_m8, kb_m7, kb_m6, kb_m5, kb_m4, kb_m3, kb_m2, kb_6, kb_7, kb_8, kb_9, kb_10, kb_12, kb_13, kb_16, kb_27, kb_31, kb_32, kb_43, kb_45, kb_48, kb_57, kb_60, kb_63, kb_81, kb_97, kb_99, kb_100, kb_120, kb_126, ks_m1000, ks_243, ks_255, ks_729, ks_1000, ks_2000, ks_2187, ks_6561, ks_9840, ks_9841, kl_0, kl_1, hwx, eb, ↓reduceIte, mhi_s]
  refine loop _ u w rfl ⟨[], by simp⟩ ⟨f, ?_, fun j => ?_⟩
  · funext j
    by_cases q : j = x
    · subst q; rw [va_up_self, hwx]
    · rw [va_up_ne _ _ q]
  · rw [if_neg (by omega)]
end W8b
