/-! the class's Factors.read -/
section W1b
variable {g : hG} {d N c s : Nat} {w : hWd} {Q : hRt}
theorem c_unpackR (hg : hgo g) (hd : 3 ≤ d) {u : List Nat} (hu : mW u) {x : Nat} {u0 : Nat → Nat} (hr : hrow w x u0) (h : ∀ w' v, hrow w' x v → (∀ j, j < u.length → v j = mat u j) → mfr [x] w w' → Q (some (.int (nI u.length))) N c s w') : Γ g d yX8_unpack [.int (nI (menc u)), .ref x] N c s w Q := by
  obtain ⟨F, k, hF⟩ := hr
  refine c_unpack hg hd hu k (fun w' e => ?_)
  subst e
  refine h _ (fun j => if j < u.length then u.getD j 0 else u0 j) ⟨_, va_up_self .., fun j hj => ?_⟩ (fun j hj => if_pos hj) (mfr.up (by simp))
  unfold mset
  by_cases q : j < u.length
  · simp only [if_pos q]
    refine ⟨trivial, hu.2 _ ?_⟩
    rw [List.getD_eq_getElem?_getD, List.getElem?_eq_getElem q]
    exact List.getElem_mem q
  · simp only [if_neg q]
    exact hF j hj
theorem mfac_stop (u : List Nat) (n s : Nat) (h : n = 0 ∨ u.length ≤ s) : mfac u n s = [] := by
  cases n with
  | zero => rfl
  | succ n => rw [mfac, if_neg (by omega)]
set_option maxRecDepth 100000 in
set_option maxHeartbeats 4000000 in
theorem c_read (hg : hgo g) (hd : 4 ≤ d) {q la sa ua ra : Nat} {u : List Nat} (hu : mW u) (hF : hF9 w q la sa ua ra)  (h : ∀ w', hFc w' q la sa ua ra u (fun _ => 0) → mfr [q, la, sa, ua, ra] w w' → Q none N c s w') : Γ g d yX1_read [.ref q, .int (nI (menc u))] N c s w Q := by
  refine Γ.intro0 hg kX1_read (by omega) (Nat.le_of_ble_eq_true rfl) (fun P hP => ?_)
  show P N 0 0 w 0 [some (.ref q), some (.int (nI (menc u))), none, none, none] []
  obtain ⟨hdis, z0, v0, S0, U0, R0, k0, hr0, kS0, kU0, kR0⟩ := hF
  have h8 := hu.1
  have hd9 := hdis
  obtain ⟨d1, d2, d3, d4, d5, d6, d7, d8, d9, d10⟩ := hd9
  have loop2 : ∀ (n : Nat) (w1 : hWd) (i st : Nat), st ≤ 8 → hFa w1 q la sa ua ra u → (∃ U, w1 ua = .inl (0, 8, .inl U) ∧ ∀ i, i < mfn u → U i = nI 0) → ∀ R, w1 ra = .inl (3, 8, .inl R) → (∀ j, j < i → R j = mbI (mrep u j)) → mfr [q, la, sa, ua, ra] w w1 → i ≤ mfn u → mfn u - i = n → P N 0 0 w1 88 [some (.ref q), some (.int (nI (menc u))), some (.int (nI u.length)), some (.int (nI st)), some (.int (nI i))] [] := by
    have hn8 := mfn_le u
    intro n
    induction n with
    | zero =>
      intro w1 i st hst hFa1 hU R kR hR hm hi hn
      have k0 := hFa1.2.2.1
      refine hP 5 _ rfl _ _ _ _ _ _ ?_
      simp only [bX1_read_5, hrun, hx, hnth, hput, hok, hcat2, hldI, hldL, hldR, hpI, hpL, hpA, hpR, hp1, hpV, hrtI, hrtL, hrtR, hrtV, hpN, hck, hrI, hrB, hrL, hrA, hwI, hwA, hwB, hrN, hfk, hfs, hrF, hwF, hcl, hfty, tyX1, tyX3, tyX6, tyX9, tyX10, tyJ0, tyJ4, hfit, hcmp, hnar, hres, hst, hacp, kz, kof, kn0, kn1, Bool.not_true, Bool.not_false, true_and, and_true, Nat.zero_add, Nat.reduceAdd, List.length_cons, List.length_nil, true_or, or_true, false_or, or_false, decide_true, decide_false, ne_eq, not_true_eq_false, not_false_eq_true, ki_0, ki_1, ki_2, ki_3, ki_4, ki_5, kb_m100, kb_m10, kb_m9, kb_m8, kb_m7, kb_m6, kb_m5, kb_m4, kb_m3, kb_m2, kb_6, kb_7, kb_8, kb_9, kb_10, kb_12, kb_13, kb_16, kb_27, kb_31, kb_32, kb_43, kb_45, kb_48, kb_57, kb_60, kb_63, kb_81, kb_97, kb_99, kb_100, kb_120, kb_126, ks_m1000, ks_243, ks_255, ks_729, ks_1000, ks_2000, ks_2187, ks_6561, ks_9840, ks_9841, kl_0, kl_1, k0]
      refine ⟨fun b94 => ?_, fun b94 => ?_⟩
      · try simp (disch := omega) only [nI_ltI, nI_leI, nI_eq, Nat.not_lt, Nat.not_le] at b94
        refine hP 11 _ rfl _ _ _ _ _ _ ?_
        simp only [bX1_read_11, hrun, hx, hnth, hput, hok, hcat2, hldI, hldL, hldR, hpI, hpL, hpA, hpR, hp1, hpV, hrtI, hrtL, hrtR, hrtV, hpN, hck, hrI, hrB, hrL, hrA, hwI, hwA, hwB, hrN, hfk, hfs, hrF, hwF, hcl, hfty, tyX1, tyX3, tyX6, tyX9, tyX10, tyJ0, tyJ4, hfit, hcmp, hnar, hres, hst, hacp, kz, kof, kn0, kn1, Bool.not_true, Bool.not_false, true_and, and_true, Nat.zero_add, Nat.reduceAdd, List.length_cons, List.length_nil, true_or, or_true, false_or, or_false, decide_true, decide_false, ne_eq, not_true_eq_false, not_false_eq_true, ki_0, ki_1, ki_2, ki_3, ki_4, ki_5, kb_m100, kb_m10, kb_m9, kb_m8, kb_m7, kb_m6, kb_m5, kb_m4, kb_m3, kb_m2, kb_6, kb_7, kb_8, kb_9, kb_10, kb_12, kb_13, kb_16, kb_27, kb_31, kb_32, kb_43, kb_45, kb_48, kb_57, kb_60, kb_63, kb_81, kb_97, kb_99, kb_100, kb_120, kb_126, ks_m1000, ks_243, ks_255, ks_729, ks_1000, ks_2000, ks_2187, ks_6561, ks_9840, ks_9841, kl_0, kl_1, k0]
        obtain ⟨U, kU, hU⟩ := hU
        exact h w1 ⟨hFa1, ⟨U, kU, fun i hi => ⟨hU i hi, Nat.zero_le 8⟩⟩, R, kR, fun j hj => hR j (by omega)⟩ hm
      · (try simp (disch := omega) only [nI_ltI, nI_leI, nI_eq, Nat.not_lt, Nat.not_le] at b94) <;> (exfalso; omega)
    | succ n ih =>
      intro w1 i st hst hFa1 hU R kR hR hm hi hn
      have k0 := hFa1.2.2.1
      have e7 := nI_clamp (n := i) (by omega)
      have next : ∀ z, z = mbI (mrep u i) → P N 0 0 (va_up w1 ra (.inl (3, 8, .inl (upd R i z)))) 88 [some (.ref q), some (.int (nI (menc u))), some (.int (nI u.length)), some (.int (nI st)), some (.int (nI (i + 1)))] [] := by
        intro z hz
        refine ih _ (i + 1) st hst (hFa1.keep (fun j hj => va_up_ne _ _ (fun e => ?_))) ?_ _ (va_up_self ..) (fun j hj => ?_) (hm.tr (mfr.up (by simp))) (by omega) (by omega)
        · simp at hj; rcases hj with z | z | z <;> omega
        · obtain ⟨U, kU, hU⟩ := hU
          exact ⟨U, by rw [va_up_ne _ _ (by omega)]; exact kU, hU⟩
        · unfold upd
          by_cases qj : j = i
          · rw [if_pos qj, qj, hz]
          · rw [if_neg qj]; exact hR j (by omega)
      refine hP 5 _ rfl _ _ _ _ _ _ ?_
      simp only [bX1_read_5, hrun, hx, hnth, hput, hok, hcat2, hldI, hldL, hldR, hpI, hpL, hpA, hpR, hp1, hpV, hrtI, hrtL, hrtR, hrtV, hpN, hck, hrI, hrB, hrL, hrA, hwI, hwA, hwB, hrN, hfk, hfs, hrF, hwF, hcl, hfty, tyX1, tyX3, tyX6, tyX9, tyX10, tyJ0, tyJ4, hfit, hcmp, hnar, hres, hst, hacp, kz, kof, kn0, kn1, Bool.not_true, Bool.not_false, true_and, and_true, Nat.zero_add, Nat.reduceAdd, List.length_cons, List.length_nil, true_or, or_true, false_or, or_false, decide_true, decide_false, ne_eq, not_true_eq_false, not_false_eq_true, ki_0, ki_1, ki_2, ki_3, ki_4, ki_5, kb_m100, kb_m10, kb_m9, kb_m8, kb_m7, kb_m6, kb_m5, kb_m4, kb_m3, kb_m2, kb_6, kb_7, kb_8, kb_9, kb_10, kb_12, kb_13, kb_16, kb_27, kb_31, kb_32, kb_43, kb_45, kb_48, kb_57, kb_60, kb_63, kb_81, kb_97, kb_99, kb_100, kb_120, kb_126, ks_m1000, ks_243, ks_255, ks_729, ks_1000, ks_2000, ks_2187, ks_6561, ks_9840, ks_9841, kl_0, kl_1, k0, kR, e7, vnb0, vnb1]
      refine ⟨fun b94 => ?_, fun b94 => ?_⟩
      · (try simp (disch := omega) only [nI_ltI, nI_leI, nI_eq, Nat.not_lt, Nat.not_le] at b94) <;> (exfalso; omega)
      · try simp (disch := omega) only [nI_ltI, nI_leI, nI_eq, Nat.not_lt, Nat.not_le] at b94
        refine hP 6 _ rfl _ _ _ _ _ _ ?_
        simp only [bX1_read_6, hrun, hx, hnth, hput, hok, hcat2, hldI, hldL, hldR, hpI, hpL, hpA, hpR, hp1, hpV, hrtI, hrtL, hrtR, hrtV, hpN, hck, hrI, hrB, hrL, hrA, hwI, hwA, hwB, hrN, hfk, hfs, hrF, hwF, hcl, hfty, tyX1, tyX3, tyX6, tyX9, tyX10, tyJ0, tyJ4, hfit, hcmp, hnar, hres, hst, hacp, kz, kof, kn0, kn1, Bool.not_true, Bool.not_false, true_and, and_true, Nat.zero_add, Nat.reduceAdd, List.length_cons, List.length_nil, true_or, or_true, false_or, or_false, decide_true, decide_false, ne_eq, not_true_eq_false, not_false_eq_true, ki_0, ki_1, ki_2, ki_3, ki_4, ki_5, kb_m100, kb_m10, kb_m9, kb_m8, kb_m7, kb_m6, kb_m5, kb_m4, kb_m3, kb_m2, kb_6, kb_7, kb_8, kb_9, kb_10, kb_12, kb_13, kb_16, kb_27, kb_31, kb_32, kb_43, kb_45, kb_48, kb_57, kb_60, kb_63, kb_81, kb_97, kb_99, kb_100, kb_120, kb_126, ks_m1000, ks_243, ks_255, ks_729, ks_1000, ks_2000, ks_2187, ks_6561, ks_9840, ks_9841, kl_0, kl_1, k0, kR, e7, vnb0, vnb1]
        refine ⟨fun b105 => ?_, fun b105 => ?_⟩
        · try simp (disch := omega) only [nI_ltI, nI_leI, nI_eq, Nat.not_lt, Nat.not_le] at b105
          refine hP 9 _ rfl _ _ _ _ _ _ ?_
          simp only [bX1_read_9, hrun, hx, hnth, hput, hok, hcat2, hldI, hldL, hldR, hpI, hpL, hpA, hpR, hp1, hpV, hrtI, hrtL, hrtR, hrtV, hpN, hck, hrI, hrB, hrL, hrA, hwI, hwA, hwB, hrN, hfk, hfs, hrF, hwF, hcl, hfty, tyX1, tyX3, tyX6, tyX9, tyX10, tyJ0, tyJ4, hfit, hcmp, hnar, hres, hst, hacp, kz, kof, kn0, kn1, Bool.not_true, Bool.not_false, true_and, and_true, Nat.zero_add, Nat.reduceAdd, List.length_cons, List.length_nil, true_or, or_true, false_or, or_false, decide_true, decide_false, ne_eq, not_true_eq_false, not_false_eq_true, ki_0, ki_1, ki_2, ki_3, ki_4, ki_5, kb_m100, kb_m10, kb_m9, kb_m8, kb_m7, kb_m6, kb_m5, kb_m4, kb_m3, kb_m2, kb_6, kb_7, kb_8, kb_9, kb_10, kb_12, kb_13, kb_16, kb_27, kb_31, kb_32, kb_43, kb_45, kb_48, kb_57, kb_60, kb_63, kb_81, kb_97, kb_99, kb_100, kb_120, kb_126, ks_m1000, ks_243, ks_255, ks_729, ks_1000, ks_2000, ks_2187, ks_6561, ks_9840, ks_9841, kl_0, kl_1, k0, kR, e7, vnb0, vnb1]
          refine hP 10 _ rfl _ _ _ _ _ _ ?_
          simp only [bX1_read_10, hrun, hx, hnth, hput, hok, hcat2, hldI, hldL, hldR, hpI, hpL, hpA, hpR, hp1, hpV, hrtI, hrtL, hrtR, hrtV, hpN, hck, hrI, hrB, hrL, hrA, hwI, hwA, hwB, hrN, hfk, hfs, hrF, hwF, hcl, hfty, tyX1, tyX3, tyX6, tyX9, tyX10, tyJ0, tyJ4, hfit, hcmp, hnar, hres, hst, hacp, kz, kof, kn0, kn1, Bool.not_true, Bool.not_false, true_and, and_true, Nat.zero_add, Nat.reduceAdd, List.length_cons, List.length_nil, true_or, or_true, false_or, or_false, decide_true, decide_false, ne_eq, not_true_eq_false, not_false_eq_true, ki_0, ki_1, ki_2, ki_3, ki_4, ki_5, kb_m100, kb_m10, kb_m9, kb_m8, kb_m7, kb_m6, kb_m5, kb_m4, kb_m3, kb_m2, kb_6, kb_7, kb_8, kb_9, kb_10, kb_12, kb_13, kb_16, kb_27, kb_31, kb_32, kb_43, kb_45, kb_48, kb_57, kb_60, kb_63, kb_81, kb_97, kb_99, kb_100, kb_120, kb_126, ks_m1000, ks_243, ks_255, ks_729, ks_1000, ks_2000, ks_2187, ks_6561, ks_9840, ks_9841, kl_0, kl_1, k0, kR, e7, vnb0, vnb1]
          refine ⟨vp_in_nI (by omega) (by omega), ?_⟩
          rw [nI_add]
          refine next _ ?_
          obtain rfl : i = 0 := by omega
          rfl
        · try simp (disch := omega) only [nI_ltI, nI_leI, nI_eq, Nat.not_lt, Nat.not_le] at b105
          refine hP 7 _ rfl _ _ _ _ _ _ ?_
          simp only [bX1_read_7, hrun, hx, hnth, hput, hok, hcat2, hldI, hldL, hldR, hpI, hpL, hpA, hpR, hp1, hpV, hrtI, hrtL, hrtR, hrtV, hpN, hck, hrI, hrB, hrL, hrA, hwI, hwA, hwB, hrN, hfk, hfs, hrF, hwF, hcl, hfty, tyX1, tyX3, tyX6, tyX9, tyX10, tyJ0, tyJ4, hfit, hcmp, hnar, hres, hst, hacp, kz, kof, kn0, kn1, Bool.not_true, Bool.not_false, true_and, and_true, Nat.zero_add, Nat.reduceAdd, List.length_cons, List.length_nil, true_or, or_true, false_or, or_false, decide_true, decide_false, ne_eq, not_true_eq_false, not_false_eq_true, ki_0, ki_1, ki_2, ki_3, ki_4, ki_5, kb_m100, kb_m10, kb_m9, kb_m8, kb_m7, kb_m6, kb_m5, kb_m4, kb_m3, kb_m2, kb_6, kb_7, kb_8, kb_9, kb_10, kb_12, kb_13, kb_16, kb_27, kb_31, kb_32, kb_43, kb_45, kb_48, kb_57, kb_60, kb_63, kb_81, kb_97, kb_99, kb_100, kb_120, kb_126, ks_m1000, ks_243, ks_255, ks_729, ks_1000, ks_2000, ks_2187, ks_6561, ks_9840, ks_9841, kl_0, kl_1, k0, kR, e7, vnb0, vnb1]
          rw [pk_sub (by omega)]
          refine c_isSame hg (by omega) hFa1 (by omega) (by omega) ?_
          simp only [hrun, hx, hnth, hput, hok, hcat2, hldI, hldL, hldR, hpI, hpL, hpA, hpR, hp1, hpV, hrtI, hrtL, hrtR, hrtV, hpN, hck, hrI, hrB, hrL, hrA, hwI, hwA, hwB, hrN, hfk, hfs, hrF, hwF, hcl, hfty, tyX1, tyX3, tyX6, tyX9, tyX10, tyJ0, tyJ4, hfit, hcmp, hnar, hres, hst, hacp, kz, kof, kn0, kn1, Bool.not_true, Bool.not_false, true_and, and_true, Nat.zero_add, Nat.reduceAdd, List.length_cons, List.length_nil, true_or, or_true, false_or, or_false, decide_true, decide_false, ne_eq, not_true_eq_false, not_false_eq_true, ki_0, ki_1, ki_2, ki_3, ki_4, ki_5, kb_m100, kb_m10, kb_m9, kb_m8, kb_m7, kb_m6, kb_m5, kb_m4, kb_m3, kb_m2, kb_6, kb_7, kb_8, kb_9, kb_10, kb_12, kb_13, kb_16, kb_27, kb_31, kb_32, kb_43, kb_45, kb_48, kb_57, kb_60, kb_63, kb_81, kb_97, kb_99, kb_100, kb_120, kb_126, ks_m1000, ks_243, ks_255, ks_729, ks_1000, ks_2000, ks_2187, ks_6561, ks_9840, ks_9841, kl_0, kl_1, k0, kR, e7, vnb0, vnb1]
          refine ⟨fun b118 => ?_, fun b118 => ?_⟩
          · try simp (disch := omega) only [nI_ltI, nI_leI, nI_eq, Nat.not_lt, Nat.not_le] at b118
            refine hP 9 _ rfl _ _ _ _ _ _ ?_
            simp only [bX1_read_9, hrun, hx, hnth, hput, hok, hcat2, hldI, hldL, hldR, hpI, hpL, hpA, hpR, hp1, hpV, hrtI, hrtL, hrtR, hrtV, hpN, hck, hrI, hrB, hrL, hrA, hwI, hwA, hwB, hrN, hfk, hfs, hrF, hwF, hcl, hfty, tyX1, tyX3, tyX6, tyX9, tyX10, tyJ0, tyJ4, hfit, hcmp, hnar, hres, hst, hacp, kz, kof, kn0, kn1, Bool.not_true, Bool.not_false, true_and, and_true, Nat.zero_add, Nat.reduceAdd, List.length_cons, List.length_nil, true_or, or_true, false_or, or_false, decide_true, decide_false, ne_eq, not_true_eq_false, not_false_eq_true, ki_0, ki_1, ki_2, ki_3, ki_4, ki_5, kb_m100, kb_m10, kb_m9, kb_m8, kb_m7, kb_m6, kb_m5, kb_m4, kb_m3, kb_m2, kb_6, kb_7, kb_8, kb_9, kb_10, kb_12, kb_13, kb_16, kb_27, kb_31, kb_32, kb_43, kb_45, kb_48, kb_57, kb_60, kb_63, kb_81, kb_97, kb_99, kb_100, kb_120, kb_126, ks_m1000, ks_243, ks_255, ks_729, ks_1000, ks_2000, ks_2187, ks_6561, ks_9840, ks_9841, kl_0, kl_1, k0, kR, e7, vnb0, vnb1]
            refine hP 10 _ rfl _ _ _ _ _ _ ?_
            simp only [bX1_read_10, hrun, hx, hnth, hput, hok, hcat2, hldI, hldL, hldR, hpI, hpL, hpA, hpR, hp1, hpV, hrtI, hrtL, hrtR, hrtV, hpN, hck, hrI, hrB, hrL, hrA, hwI, hwA, hwB, hrN, hfk, hfs, hrF, hwF, hcl, hfty, tyX1, tyX3, tyX6, tyX9, tyX10, tyJ0, tyJ4, hfit, hcmp, hnar, hres, hst, hacp, kz, kof, kn0, kn1, Bool.not_true, Bool.not_false, true_and, and_true, Nat.zero_add, Nat.reduceAdd, List.length_cons, List.length_nil, true_or, or_true, false_or, or_false, decide_true, decide_false, ne_eq, not_true_eq_false, not_false_eq_true, ki_0, ki_1, ki_2, ki_3, ki_4, ki_5, kb_m100, kb_m10, kb_m9, kb_m8, kb_m7, kb_m6, kb_m5, kb_m4, kb_m3, kb_m2, kb_6, kb_7, kb_8, kb_9, kb_10, kb_12, kb_13, kb_16, kb_27, kb_31, kb_32, kb_43, kb_45, kb_48, kb_57, kb_60, kb_63, kb_81, kb_97, kb_99, kb_100, kb_120, kb_126, ks_m1000, ks_243, ks_255, ks_729, ks_1000, ks_2000, ks_2187, ks_6561, ks_9840, ks_9841, kl_0, kl_1, k0, kR, e7, vnb0, vnb1]
            refine ⟨vp_in_nI (by omega) (by omega), ?_⟩
            rw [nI_add]
            refine next _ ?_
            have b9 : msame u (i - 1) i = false := by cases hq : msame u (i - 1) i; rfl; rw [hq] at b118; exact absurd b118 (by decide +kernel)
            unfold mrep
            rw [b9, Bool.and_false]
            rfl
          · try simp (disch := omega) only [nI_ltI, nI_leI, nI_eq, Nat.not_lt, Nat.not_le] at b118
            refine hP 8 _ rfl _ _ _ _ _ _ ?_
            simp only [bX1_read_8, hrun, hx, hnth, hput, hok, hcat2, hldI, hldL, hldR, hpI, hpL, hpA, hpR, hp1, hpV, hrtI, hrtL, hrtR, hrtV, hpN, hck, hrI, hrB, hrL, hrA, hwI, hwA, hwB, hrN, hfk, hfs, hrF, hwF, hcl, hfty, tyX1, tyX3, tyX6, tyX9, tyX10, tyJ0, tyJ4, hfit, hcmp, hnar, hres, hst, hacp, kz, kof, kn0, kn1, Bool.not_true, Bool.not_false, true_and, and_true, Nat.zero_add, Nat.reduceAdd, List.length_cons, List.length_nil, true_or, or_true, false_or, or_false, decide_true, decide_false, ne_eq, not_true_eq_false, not_false_eq_true, ki_0, ki_1, ki_2, ki_3, ki_4, ki_5, kb_m100, kb_m10, kb_m9, kb_m8, kb_m7, kb_m6, kb_m5, kb_m4, kb_m3, kb_m2, kb_6, kb_7, kb_8, kb_9, kb_10, kb_12, kb_13, kb_16, kb_27, kb_31, kb_32, kb_43, kb_45, kb_48, kb_57, kb_60, kb_63, kb_81, kb_97, kb_99, kb_100, kb_120, kb_126, ks_m1000, ks_243, ks_255, ks_729, ks_1000, ks_2000, ks_2187, ks_6561, ks_9840, ks_9841, kl_0, kl_1, k0, kR, e7, vnb0, vnb1]
            refine hP 10 _ rfl _ _ _ _ _ _ ?_
            simp only [bX1_read_10, hrun, hx, hnth, hput, hok, hcat2, hldI, hldL, hldR, hpI, hpL, hpA, hpR, hp1, hpV, hrtI, hrtL, hrtR, hrtV, hpN, hck, hrI, hrB, hrL, hrA, hwI, hwA, hwB, hrN, hfk, hfs, hrF, hwF, hcl, hfty, tyX1, tyX3, tyX6, tyX9, tyX10, tyJ0, tyJ4, hfit, hcmp, hnar, hres, hst, hacp, kz, kof, kn0, kn1, Bool.not_true, Bool.not_false, true_and, and_true, Nat.zero_add, Nat.reduceAdd, List.length_cons, List.length_nil, true_or, or_true, false_or, or_false, decide_true, decide_false, ne_eq, not_true_eq_false, not_false_eq_true, ki_0, ki_1, ki_2, ki_3, ki_4, ki_5, kb_m100, kb_m10, kb_m9, kb_m8, kb_m7, kb_m6, kb_m5, kb_m4, kb_m3, kb_m2, kb_6, kb_7, kb_8, kb_9, kb_10, kb_12, kb_13, kb_16, kb_27, kb_31, kb_32, kb_43, kb_45, kb_48, kb_57, kb_60, kb_63, kb_81, kb_97, kb_99, kb_100, kb_120, kb_126, ks_m1000, ks_243, ks_255, ks_729, ks_1000, ks_2000, ks_2187, ks_6561, ks_9840, ks_9841, kl_0, kl_1, k0, kR, e7, vnb0, vnb1]
            refine ⟨vp_in_nI (by omega) (by omega), ?_⟩
            rw [nI_add]
            refine next _ ?_
            have b9 : msame u (i - 1) i = true := by cases hq : msame u (i - 1) i; (rw [hq] at b118; exact absurd rfl b118); rfl
            unfold mrep
            rw [b9, decide_eq_true (by omega)]
            rfl
  have loop : ∀ (n : Nat) (w1 : hWd) (l : List Nat) (st : Nat) (x4 : Option Value), mfac u 8 0 = l ++ mfac u (8 - l.length) st → 8 - l.length = n → l.length ≤ 8 → st ≤ u.length → w1 q = .inr (2, [.ref la, .ref sa, .ref ua, .ref ra, .int (nI l.length)]) → (∃ v, hrow w1 la v ∧ ∀ j, j < u.length → v j = mat u j) → (∃ S, w1 sa = .inl (0, 9, .inl S) ∧ (∀ i, i < l.length → S i = nI (l.getD i 0)) ∧ (0 < l.length → S l.length = nI u.length)) → (∃ U, w1 ua = .inl (0, 8, .inl U) ∧ ∀ i, i < l.length → U i = nI 0) → (∃ R, w1 ra = .inl (3, 8, .inl R)) → mfr [q, la, sa, ua, ra] w w1 → P N 0 0 w1 16 [some (.ref q), some (.int (nI (menc u))), some (.int (nI u.length)), some (.int (nI st)), x4] [] := by
    intro n
    induction n with
    | zero =>
      intro w1 l st x4 hl hn hl8 hs k0 ⟨v, ⟨L, kL, hL⟩, hv⟩ ⟨S, kS, hS, hSn⟩ ⟨U, kU, hU⟩ ⟨R, kR⟩ hm
      have hn4 : st ≤ 8 := by omega
      refine hP 1 _ rfl _ _ _ _ _ _ ?_
      simp only [bX1_read_1, hrun, hx, hnth, hput, hok, hcat2, hldI, hldL, hldR, hpI, hpL, hpA, hpR, hp1, hpV, hrtI, hrtL, hrtR, hrtV, hpN, hck, hrI, hrB, hrL, hrA, hwI, hwA, hwB, hrN, hfk, hfs, hrF, hwF, hcl, hfty, tyX1, tyX3, tyX6, tyX9, tyX10, tyJ0, tyJ4, hfit, hcmp, hnar, hres, hst, hacp, kz, kof, kn0, kn1, Bool.not_true, Bool.not_false, true_and, and_true, Nat.zero_add, Nat.reduceAdd, List.length_cons, List.length_nil, true_or, or_true, false_or, or_false, decide_true, decide_false, ne_eq, not_true_eq_false, not_false_eq_true, ki_0, ki_1, ki_2, ki_3, ki_4, ki_5, kb_m100, kb_m10, kb_m9, kb_m8, kb_m7, kb_m6, kb_m5, kb_m4, kb_m3, kb_m2, kb_6, kb_7, kb_8, kb_9, kb_10, kb_12, kb_13, kb_16, kb_27, kb_31, kb_32, kb_43, kb_45, kb_48, kb_57, kb_60, kb_63, kb_81, kb_97, kb_99, kb_100, kb_120, kb_126, ks_m1000, ks_243, ks_255, ks_729, ks_1000, ks_2000, ks_2187, ks_6561, ks_9840, ks_9841, kl_0, kl_1, k0]
      refine ⟨fun b22 => ?_, fun b22 => ?_⟩
      · try simp (disch := omega) only [nI_ltI, nI_leI, nI_eq, Nat.not_lt, Nat.not_le] at b22
        refine hP 4 _ rfl _ _ _ _ _ _ ?_
        simp only [bX1_read_4, hrun, hx, hnth, hput, hok, hcat2, hldI, hldL, hldR, hpI, hpL, hpA, hpR, hp1, hpV, hrtI, hrtL, hrtR, hrtV, hpN, hck, hrI, hrB, hrL, hrA, hwI, hwA, hwB, hrN, hfk, hfs, hrF, hwF, hcl, hfty, tyX1, tyX3, tyX6, tyX9, tyX10, tyJ0, tyJ4, hfit, hcmp, hnar, hres, hst, hacp, kz, kof, kn0, kn1, Bool.not_true, Bool.not_false, true_and, and_true, Nat.zero_add, Nat.reduceAdd, List.length_cons, List.length_nil, true_or, or_true, false_or, or_false, decide_true, decide_false, ne_eq, not_true_eq_false, not_false_eq_true, ki_0, ki_1, ki_2, ki_3, ki_4, ki_5, kb_m100, kb_m10, kb_m9, kb_m8, kb_m7, kb_m6, kb_m5, kb_m4, kb_m3, kb_m2, kb_6, kb_7, kb_8, kb_9, kb_10, kb_12, kb_13, kb_16, kb_27, kb_31, kb_32, kb_43, kb_45, kb_48, kb_57, kb_60, kb_63, kb_81, kb_97, kb_99, kb_100, kb_120, kb_126, ks_m1000, ks_243, ks_255, ks_729, ks_1000, ks_2000, ks_2187, ks_6561, ks_9840, ks_9841, kl_0, kl_1, k0]
        have eF : mfacs u = l := by unfold mfacs; rw [hl, mfac_stop u _ _ (by omega), List.append_nil]
        have en : mfn u = l.length := by unfold mfn; rw [eF]
        refine loop2 _ w1 0 st hn4 ⟨hdis, hu, by rw [en]; exact k0, ⟨v, ⟨L, kL, hL⟩, hv⟩, S, kS, fun i hi => ?_⟩ ⟨U, kU, fun i hi => hU i (by omega)⟩ R kR (fun i hi => by omega) hm (Nat.zero_le _) rfl
        rw [en] at hi
        unfold mfb
        rw [eF]
        have hd1 : l.getD i u.length = l.getD i 0 := by rw [List.getD_eq_getElem?_getD, List.getD_eq_getElem?_getD, List.getElem?_eq_getElem hi]; rfl
        refine ⟨by rw [hd1]; exact (hS i hi), ?_⟩
        by_cases q1 : i + 1 < l.length
        · have hd2 : l.getD (i + 1) u.length = l.getD (i + 1) 0 := by rw [List.getD_eq_getElem?_getD, List.getD_eq_getElem?_getD, List.getElem?_eq_getElem q1]; rfl
          rw [hd2]; exact hS _ q1
        · obtain q2 : i + 1 = l.length := by omega
          rw [q2, List.getD_eq_getElem?_getD, List.getElem?_eq_none (Nat.le_refl _)]
          exact hSn (by omega)
      · (try simp (disch := omega) only [nI_ltI, nI_leI, nI_eq, Nat.not_lt, Nat.not_le] at b22) <;> (exfalso; omega)
    | succ n ih =>
      intro w1 l st x4 hl hn hl8 hs k0 ⟨v, ⟨L, kL, hL⟩, hv⟩ ⟨S, kS, hS, hSn⟩ ⟨U, kU, hU⟩ ⟨R, kR⟩ hm
      have hn4 : st ≤ 8 := by omega
      have e7 := nI_clamp (n := l.length) (by omega)
      have e8 := nI_clamp (n := l.length + 1) (by omega)
      refine hP 1 _ rfl _ _ _ _ _ _ ?_
      simp only [bX1_read_1, hrun, hx, hnth, hput, hok, hcat2, hldI, hldL, hldR, hpI, hpL, hpA, hpR, hp1, hpV, hrtI, hrtL, hrtR, hrtV, hpN, hck, hrI, hrB, hrL, hrA, hwI, hwA, hwB, hrN, hfk, hfs, hrF, hwF, hcl, hfty, tyX1, tyX3, tyX6, tyX9, tyX10, tyJ0, tyJ4, hfit, hcmp, hnar, hres, hst, hacp, kz, kof, kn0, kn1, Bool.not_true, Bool.not_false, true_and, and_true, Nat.zero_add, Nat.reduceAdd, List.length_cons, List.length_nil, true_or, or_true, false_or, or_false, decide_true, decide_false, ne_eq, not_true_eq_false, not_false_eq_true, ki_0, ki_1, ki_2, ki_3, ki_4, ki_5, kb_m100, kb_m10, kb_m9, kb_m8, kb_m7, kb_m6, kb_m5, kb_m4, kb_m3, kb_m2, kb_6, kb_7, kb_8, kb_9, kb_10, kb_12, kb_13, kb_16, kb_27, kb_31, kb_32, kb_43, kb_45, kb_48, kb_57, kb_60, kb_63, kb_81, kb_97, kb_99, kb_100, kb_120, kb_126, ks_m1000, ks_243, ks_255, ks_729, ks_1000, ks_2000, ks_2187, ks_6561, ks_9840, ks_9841, kl_0, kl_1, k0, kL, kS, kU, kR, e7, e8, nI_add, va_up_self, va_up_ne, d1, d2, d3, d4, d5, d6, d7, d8, d9, d10, d1.symm, d2.symm, d3.symm, d4.symm, d5.symm, d6.symm, d7.symm, d8.symm, d9.symm, d10.symm, ne_eq, not_false_eq_true]
      refine ⟨fun b22 => ?_, fun b22 => ?_⟩
      · (try simp (disch := omega) only [nI_ltI, nI_leI, nI_eq, Nat.not_lt, Nat.not_le] at b22) <;> (exfalso; omega)
      · try simp (disch := omega) only [nI_ltI, nI_leI, nI_eq, Nat.not_lt, Nat.not_le] at b22
        refine hP 2 _ rfl _ _ _ _ _ _ ?_
        simp only [bX1_read_2, hrun, hx, hnth, hput, hok, hcat2, hldI, hldL, hldR, hpI, hpL, hpA, hpR, hp1, hpV, hrtI, hrtL, hrtR, hrtV, hpN, hck, hrI, hrB, hrL, hrA, hwI, hwA, hwB, hrN, hfk, hfs, hrF, hwF, hcl, hfty, tyX1, tyX3, tyX6, tyX9, tyX10, tyJ0, tyJ4, hfit, hcmp, hnar, hres, hst, hacp, kz, kof, kn0, kn1, Bool.not_true, Bool.not_false, true_and, and_true, Nat.zero_add, Nat.reduceAdd, List.length_cons, List.length_nil, true_or, or_true, false_or, or_false, decide_true, decide_false, ne_eq, not_true_eq_false, not_false_eq_true, ki_0, ki_1, ki_2, ki_3, ki_4, ki_5, kb_m100, kb_m10, kb_m9, kb_m8, kb_m7, kb_m6, kb_m5, kb_m4, kb_m3, kb_m2, kb_6, kb_7, kb_8, kb_9, kb_10, kb_12, kb_13, kb_16, kb_27, kb_31, kb_32, kb_43, kb_45, kb_48, kb_57, kb_60, kb_63, kb_81, kb_97, kb_99, kb_100, kb_120, kb_126, ks_m1000, ks_243, ks_255, ks_729, ks_1000, ks_2000, ks_2187, ks_6561, ks_9840, ks_9841, kl_0, kl_1, k0, kL, kS, kU, kR, e7, e8, nI_add, va_up_self, va_up_ne, d1, d2, d3, d4, d5, d6, d7, d8, d9, d10, d1.symm, d2.symm, d3.symm, d4.symm, d5.symm, d6.symm, d7.symm, d8.symm, d9.symm, d10.symm, ne_eq, not_false_eq_true]
        refine ⟨fun b27 => ?_, fun b27 => ?_⟩
        · try simp (disch := omega) only [nI_ltI, nI_leI, nI_eq, Nat.not_lt, Nat.not_le] at b27
          refine hP 4 _ rfl _ _ _ _ _ _ ?_
          simp only [bX1_read_4, hrun, hx, hnth, hput, hok, hcat2, hldI, hldL, hldR, hpI, hpL, hpA, hpR, hp1, hpV, hrtI, hrtL, hrtR, hrtV, hpN, hck, hrI, hrB, hrL, hrA, hwI, hwA, hwB, hrN, hfk, hfs, hrF, hwF, hcl, hfty, tyX1, tyX3, tyX6, tyX9, tyX10, tyJ0, tyJ4, hfit, hcmp, hnar, hres, hst, hacp, kz, kof, kn0, kn1, Bool.not_true, Bool.not_false, true_and, and_true, Nat.zero_add, Nat.reduceAdd, List.length_cons, List.length_nil, true_or, or_true, false_or, or_false, decide_true, decide_false, ne_eq, not_true_eq_false, not_false_eq_true, ki_0, ki_1, ki_2, ki_3, ki_4, ki_5, kb_m100, kb_m10, kb_m9, kb_m8, kb_m7, kb_m6, kb_m5, kb_m4, kb_m3, kb_m2, kb_6, kb_7, kb_8, kb_9, kb_10, kb_12, kb_13, kb_16, kb_27, kb_31, kb_32, kb_43, kb_45, kb_48, kb_57, kb_60, kb_63, kb_81, kb_97, kb_99, kb_100, kb_120, kb_126, ks_m1000, ks_243, ks_255, ks_729, ks_1000, ks_2000, ks_2187, ks_6561, ks_9840, ks_9841, kl_0, kl_1, k0, kL, kS, kU, kR, e7, e8, nI_add, va_up_self, va_up_ne, d1, d2, d3, d4, d5, d6, d7, d8, d9, d10, d1.symm, d2.symm, d3.symm, d4.symm, d5.symm, d6.symm, d7.symm, d8.symm, d9.symm, d10.symm, ne_eq, not_false_eq_true]
          have eF : mfacs u = l := by unfold mfacs; rw [hl, mfac_stop u _ _ (by omega), List.append_nil]
          have en : mfn u = l.length := by unfold mfn; rw [eF]
          refine loop2 _ w1 0 st hn4 ⟨hdis, hu, by rw [en]; exact k0, ⟨v, ⟨L, kL, hL⟩, hv⟩, S, kS, fun i hi => ?_⟩ ⟨U, kU, fun i hi => hU i (by omega)⟩ R kR (fun i hi => by omega) hm (Nat.zero_le _) rfl
          rw [en] at hi
          unfold mfb
          rw [eF]
          have hd1 : l.getD i u.length = l.getD i 0 := by rw [List.getD_eq_getElem?_getD, List.getD_eq_getElem?_getD, List.getElem?_eq_getElem hi]; rfl
          refine ⟨by rw [hd1]; exact (hS i hi), ?_⟩
          by_cases q1 : i + 1 < l.length
          · have hd2 : l.getD (i + 1) u.length = l.getD (i + 1) 0 := by rw [List.getD_eq_getElem?_getD, List.getD_eq_getElem?_getD, List.getElem?_eq_getElem q1]; rfl
            rw [hd2]; exact hS _ q1
          · obtain q2 : i + 1 = l.length := by omega
            rw [q2, List.getD_eq_getElem?_getD, List.getElem?_eq_none (Nat.le_refl _)]
            exact hSn (by omega)
        · try simp (disch := omega) only [nI_ltI, nI_leI, nI_eq, Nat.not_lt, Nat.not_le] at b27
          refine hP 3 _ rfl _ _ _ _ _ _ ?_
          simp only [bX1_read_3, hrun, hx, hnth, hput, hok, hcat2, hldI, hldL, hldR, hpI, hpL, hpA, hpR, hp1, hpV, hrtI, hrtL, hrtR, hrtV, hpN, hck, hrI, hrB, hrL, hrA, hwI, hwA, hwB, hrN, hfk, hfs, hrF, hwF, hcl, hfty, tyX1, tyX3, tyX6, tyX9, tyX10, tyJ0, tyJ4, hfit, hcmp, hnar, hres, hst, hacp, kz, kof, kn0, kn1, Bool.not_true, Bool.not_false, true_and, and_true, Nat.zero_add, Nat.reduceAdd, List.length_cons, List.length_nil, true_or, or_true, false_or, or_false, decide_true, decide_false, ne_eq, not_true_eq_false, not_false_eq_true, ki_0, ki_1, ki_2, ki_3, ki_4, ki_5, kb_m100, kb_m10, kb_m9, kb_m8, kb_m7, kb_m6, kb_m5, kb_m4, kb_m3, kb_m2, kb_6, kb_7, kb_8, kb_9, kb_10, kb_12, kb_13, kb_16, kb_27, kb_31, kb_32, kb_43, kb_45, kb_48, kb_57, kb_60, kb_63, kb_81, kb_97, kb_99, kb_100, kb_120, kb_126, ks_m1000, ks_243, ks_255, ks_729, ks_1000, ks_2000, ks_2187, ks_6561, ks_9840, ks_9841, kl_0, kl_1, k0, kL, kS, kU, kR, e7, e8, nI_add, va_up_self, va_up_ne, d1, d2, d3, d4, d5, d6, d7, d8, d9, d10, d1.symm, d2.symm, d3.symm, d4.symm, d5.symm, d6.symm, d7.symm, d8.symm, d9.symm, d10.symm, ne_eq, not_false_eq_true]
          refine ⟨vp_in_nI (by omega) (by omega), ?_⟩
          refine c_prefixLength (u := v) hg (by omega) (by rw [va_up_ne _ _ (by omega)]; exact kL) (fun j hj => (hL j (by omega)).1) (fun j hj => (hL j (by omega)).2) (by omega) (by omega) ?_
          rw [mpre_cg (v := mat u) (by omega) hv]
          simp only [hrun, hx, hnth, hput, hok, hcat2, hldI, hldL, hldR, hpI, hpL, hpA, hpR, hp1, hpV, hrtI, hrtL, hrtR, hrtV, hpN, hck, hrI, hrB, hrL, hrA, hwI, hwA, hwB, hrN, hfk, hfs, hrF, hwF, hcl, hfty, tyX1, tyX3, tyX6, tyX9, tyX10, tyJ0, tyJ4, hfit, hcmp, hnar, hres, hst, hacp, kz, kof, kn0, kn1, Bool.not_true, Bool.not_false, true_and, and_true, Nat.zero_add, Nat.reduceAdd, List.length_cons, List.length_nil, true_or, or_true, false_or, or_false, decide_true, decide_false, ne_eq, not_true_eq_false, not_false_eq_true, ki_0, ki_1, ki_2, ki_3, ki_4, ki_5, kb_m100, kb_m10, kb_m9, kb_m8, kb_m7, kb_m6, kb_m5, kb_m4, kb_m3, kb_m2, kb_6, kb_7, kb_8, kb_9, kb_10, kb_12, kb_13, kb_16, kb_27, kb_31, kb_32, kb_43, kb_45, kb_48, kb_57, kb_60, kb_63, kb_81, kb_97, kb_99, kb_100, kb_120, kb_126, ks_m1000, ks_243, ks_255, ks_729, ks_1000, ks_2000, ks_2187, ks_6561, ks_9840, ks_9841, kl_0, kl_1, k0, kL, kS, kU, kR, e7, e8, nI_add, va_up_self, va_up_ne, d1, d2, d3, d4, d5, d6, d7, d8, d9, d10, d1.symm, d2.symm, d3.symm, d4.symm, d5.symm, d6.symm, d7.symm, d8.symm, d9.symm, d10.symm, ne_eq, not_false_eq_true]
          refine ⟨vp_in_nI (by omega) (by omega), ?_⟩
          refine ⟨vp_in_nI (by omega) (by omega), ?_⟩
          have hp := mpre_bd (u := mat u) (a := st) (b := u.length) (by omega)
          refine ih _ (l ++ [st]) (st + mpre (mat u) st u.length) _ ?_ ?_ ?_ (by omega) ?_ ⟨v, ⟨L, ?_, hL⟩, hv⟩ ⟨upd (upd S l.length (nI st)) (l.length + 1) (nI u.length), ?_, ?_, ?_⟩ ⟨upd U l.length (nI 0), ?_, ?_⟩ ⟨R, ?_⟩ ?_
          · rw [hl, show 8 - l.length = n + 1 by omega, mfac, if_pos (by omega), List.append_assoc, List.length_append, List.length_singleton, show 8 - (l.length + 1) = n by omega]; rfl
          · rw [List.length_append, List.length_singleton]; omega
          · rw [List.length_append, List.length_singleton]; omega
          · rw [List.length_append, List.length_singleton]; simp only [va_up_self, va_up_ne, d1, d2, d3, d4, d5, d6, d7, d8, d9, d10, d1.symm, d2.symm, d3.symm, d4.symm, d5.symm, d6.symm, d7.symm, d8.symm, d9.symm, d10.symm, ne_eq, not_false_eq_true]
          · simp only [kL, va_up_self, va_up_ne, d1, d2, d3, d4, d5, d6, d7, d8, d9, d10, d1.symm, d2.symm, d3.symm, d4.symm, d5.symm, d6.symm, d7.symm, d8.symm, d9.symm, d10.symm, ne_eq, not_false_eq_true]
          · simp only [va_up_self, va_up_ne, d1, d2, d3, d4, d5, d6, d7, d8, d9, d10, d1.symm, d2.symm, d3.symm, d4.symm, d5.symm, d6.symm, d7.symm, d8.symm, d9.symm, d10.symm, ne_eq, not_false_eq_true]
          · intro i hi
            rw [List.length_append, List.length_singleton] at hi
            unfold upd
            rw [if_neg (by omega)]
            by_cases qi : i = l.length
            · rw [if_pos qi, qi, List.getD_eq_getElem?_getD, List.getElem?_append_right (Nat.le_refl _), Nat.sub_self]; rfl
            · rw [if_neg qi, hS i (by omega), List.getD_eq_getElem?_getD, List.getD_eq_getElem?_getD, List.getElem?_append_left (by omega)]
          · intro _
            rw [List.length_append, List.length_singleton]
            unfold upd
            rw [if_pos rfl]
          · simp only [va_up_self, va_up_ne, d1, d2, d3, d4, d5, d6, d7, d8, d9, d10, d1.symm, d2.symm, d3.symm, d4.symm, d5.symm, d6.symm, d7.symm, d8.symm, d9.symm, d10.symm, ne_eq, not_false_eq_true]
          · intro i hi
            rw [List.length_append, List.length_singleton] at hi
            unfold upd
            by_cases qi : i = l.length
            · rw [if_pos qi]
            · rw [if_neg qi]; exact hU i (by omega)
          · simp only [kR, va_up_self, va_up_ne, d1, d2, d3, d4, d5, d6, d7, d8, d9, d10, d1.symm, d2.symm, d3.symm, d4.symm, d5.symm, d6.symm, d7.symm, d8.symm, d9.symm, d10.symm, ne_eq, not_false_eq_true]
          · exact (((hm.tr (mfr.up (by simp))).tr (mfr.up (by simp))).tr (mfr.up (by simp))).tr (mfr.up (by simp))
  refine hP 0 _ rfl _ _ _ _ _ _ ?_
  simp only [bX1_read_0, hrun, hx, hnth, hput, hok, hcat2, hldI, hldL, hldR, hpI, hpL, hpA, hpR, hp1, hpV, hrtI, hrtL, hrtR, hrtV, hpN, hck, hrI, hrB, hrL, hrA, hwI, hwA, hwB, hrN, hfk, hfs, hrF, hwF, hcl, hfty, tyX1, tyX3, tyX6, tyX9, tyX10, tyJ0, tyJ4, hfit, hcmp, hnar, hres, hst, hacp, kz, kof, kn0, kn1, Bool.not_true, Bool.not_false, true_and, and_true, Nat.zero_add, Nat.reduceAdd, List.length_cons, List.length_nil, true_or, or_true, false_or, or_false, decide_true, decide_false, ne_eq, not_true_eq_false, not_false_eq_true, ki_0, ki_1, ki_2, ki_3, ki_4, ki_5, kb_m100, kb_m10, kb_m9, kb_m8, kb_m7, kb_m6, kb_m5, kb_m4, kb_m3, kb_m2, kb_6, kb_7, kb_8, kb_9, kb_10, kb_12, kb_13, kb_16, kb_27, kb_31, kb_32, kb_43, kb_45, kb_48, kb_57, kb_60, kb_63, kb_81, kb_97, kb_99, kb_100, kb_120, kb_126, ks_m1000, ks_243, ks_255, ks_729, ks_1000, ks_2000, ks_2187, ks_6561, ks_9840, ks_9841, kl_0, kl_1, k0]
  refine c_unpackR hg (by omega) hu hr0 (fun w1 v hr1 hv hm => ?_)
  have f1 := fun j hj => hm j hj
  have k1 := (hm q (by simp; omega)).trans k0
  simp only [hrun, hx, hnth, hput, hok, hcat2, hldI, hldL, hldR, hpI, hpL, hpA, hpR, hp1, hpV, hrtI, hrtL, hrtR, hrtV, hpN, hck, hrI, hrB, hrL, hrA, hwI, hwA, hwB, hrN, hfk, hfs, hrF, hwF, hcl, hfty, tyX1, tyX3, tyX6, tyX9, tyX10, tyJ0, tyJ4, hfit, hcmp, hnar, hres, hst, hacp, kz, kof, kn0, kn1, Bool.not_true, Bool.not_false, true_and, and_true, Nat.zero_add, Nat.reduceAdd, List.length_cons, List.length_nil, true_or, or_true, false_or, or_false, decide_true, decide_false, ne_eq, not_true_eq_false, not_false_eq_true, ki_0, ki_1, ki_2, ki_3, ki_4, ki_5, kb_m100, kb_m10, kb_m9, kb_m8, kb_m7, kb_m6, kb_m5, kb_m4, kb_m3, kb_m2, kb_6, kb_7, kb_8, kb_9, kb_10, kb_12, kb_13, kb_16, kb_27, kb_31, kb_32, kb_43, kb_45, kb_48, kb_57, kb_60, kb_63, kb_81, kb_97, kb_99, kb_100, kb_120, kb_126, ks_m1000, ks_243, ks_255, ks_729, ks_1000, ks_2000, ks_2187, ks_6561, ks_9840, ks_9841, kl_0, kl_1, k0, k1]
  refine loop _ _ [] 0 _ rfl rfl (Nat.zero_le _) (Nat.zero_le _) (va_up_self ..) ⟨v, hr1.keep (va_up_ne _ _ (by omega)), hv⟩ ⟨S0, by rw [va_up_ne _ _ (by omega), hm _ (by simp; omega), kS0], (fun i hi => by cases hi), (fun q => by cases q)⟩ ⟨U0, by rw [va_up_ne _ _ (by omega), hm _ (by simp; omega), kU0], (fun i hi => by cases hi)⟩ ⟨R0, by rw [va_up_ne _ _ (by omega), hm _ (by simp; omega), kR0]⟩ ((hm.mono (by simp)).tr (mfr.up (by simp)))
end W1b
