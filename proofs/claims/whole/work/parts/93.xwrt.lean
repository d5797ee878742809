/-! the class writes a polynomial -/
section W9s
variable {g : hG} {d N c s : Nat} {w : hWd} {Q : hRt}
/-- room for the output: so many more rows, so many more places -/
def Bg (m c s : Nat) : Prop := ((c = 20 ∧ 16 ≤ m) ∨ (c = 19 ∧ 34 ≤ m) ∨ (c = 18 ∧ 70 ≤ m) ∨ (c = 17 ∧ 142 ≤ m) ∨ (c = 16 ∧ 286 ≤ m) ∨ (c = 15 ∧ 574 ≤ m) ∨ (c = 14 ∧ 1150 ≤ m) ∨ (c = 13 ∧ 2302 ≤ m)) ∧ m ≤ 4000 ∧ 8000 ≤ s + 2 * (m + 2)
theorem Bg.step {m c s K : Nat} (h : Bg m c s) (hK : K ≤ 1930) : gcu m K ≤ c ∧ gsu m K ≤ s ∧ Bg (gcap m K) (c - gcu m K) (s - gsu m K) := by
  obtain ⟨h1, h2, h3⟩ := h
  unfold gcu gsu gcap Bg
  by_cases q : K ≤ m
  · rw [if_pos q, if_pos q, if_pos q]
    exact ⟨Nat.zero_le _, Nat.zero_le _, h1, h2, h3⟩
  · rw [if_neg q, if_neg q, if_neg q]
    refine ⟨by omega, by omega, by omega, by omega, by omega⟩
theorem Bg.bd {m c s : Nat} (h : Bg m c s) : c ≤ 20 ∧ 13 ≤ c ∧ 16 ≤ m ∧ m ≤ 4000 := by
  obtain ⟨h1, h2, h3⟩ := h
  omega
theorem dfr_pos (n : Nat) : 1 ≤ (mdg n).length := by unfold mdg; rw [dfr_len]; omega
theorem mtm_pos {q : Nat × Int} (b : Bool) (h : q.1 < 9841) : 0 < (mtm b q).length := by
  unfold mtm
  rw [List.length_append, List.length_append, List.length_map]
  by_cases z : q.2.natAbs ≠ 1 ∨ q.1 = 0
  · rw [if_pos z]
    have := dfr_pos q.2.natAbs
    omega
  · have h1 := mdec_W h
    have h2 : (mdec q.1).length ≠ 0 := fun y => z (Or.inr (by
      have y2 := List.eq_nil_of_length_eq_zero y
      have y3 := h1.2
      rw [y2] at y3
      exact y3.symm))
    omega
theorem mtk9_pos {L : List (Nat × Int)} (hL : mP L) {m : Nat} (hm : 0 < m) (h : m ≤ L.length) : 0 < (mtk9 L m).length := by
  obtain ⟨k, rfl⟩ : ∃ k, m = k + 1 := ⟨m - 1, by omega⟩
  rw [mtk9, List.length_append]
  have hq : L[k]? = some L[k] := List.getElem?_eq_getElem (by omega)
  have hg9 : L.getD k (0, 0) = L[k] := by rw [List.getD_eq_getElem?_getD, hq]; rfl
  rw [hg9]
  have := mtm_pos (decide (k = 0)) (hL.at hq).2.2.1
  omega
theorem c_aTerm (hg : hgo g) (hd : 8 ≤ d) {b v m : Nat} {t : List Nat} {q : Nat × Int} (ht : hSB w b v m t) (hq1 : q.1 < 9841) (hz1 : -1000000 ≤ q.2) (hz2 : q.2 ≤ 1000000) (hDg9 : hDg w) (hm16 : 16 ≤ m) (hm4 : m ≤ 4000) (hbN : b < N) (hvN : v < N) (hN9 : N ≤ 900000) {K : Nat} (hK : (t ++ mtm (decide (t.length = 0)) q).length = K) (hc1 : gcu m K ≤ c) (hs1 : gsu m K ≤ s)
    (h : ∀ w', hSB w' b (gvv v N m K) (gcap m K) (t ++ mtm (decide (t.length = 0)) q) → mfr [b, v, N] w w' → Q none (N + gcu m K) (c - gcu m K) (s - gsu m K) w') : Γ g d yX7_appendTerm [.ref b, .int (nI q.1), .long (Int64.ofInt q.2)] N c s w Q := by
  obtain ⟨k, z⟩ := q
  obtain ⟨u, hu, rfl⟩ := mword hq1
  subst hK
  exact c_appendTerm hg hd ht hu hz1 hz2 hDg9 hm16 hm4 hbN hvN hN9 hc1 hs1 h
set_option maxRecDepth 100000 in
set_option maxHeartbeats 4000000 in
theorem c_x_write (hg : hgo g) (hd : 25 ≤ d) {S : cS} (hX9 : hX w S) (hB9 : hTB w N S) (hNb : N ≤ 800000) (hc20 : 20 ≤ c) (hs80 : 8000 ≤ s) (hDg9 : hDg w) {x : Int32} (h : ∀ w' N' c' s', hX w' (sp_write S x).2 → hTB w' N' (sp_write S x).2 → tfr w w' → N ≤ N' → N' ≤ N + 20 → c ≤ c' + 20 → s ≤ s' + 8000 → Q (some (.int (sp_write S x).1)) N' c' s' w') : Γ g d yX9_write [.ref 0, .int x] N c s w Q := by
  have k0 := hX9.1
  obtain ⟨hN1, hN2, hi60, ho19, v5, m5, v7, m7, h5, h7, hv5, hv5N, hv7, hv7N, hv57, hm5, hm52, hm7, hm72⟩ := id hB9
  obtain ⟨ml7, F7, kb7, _⟩ := id h7.2.2.2
  cases hq_x : ixn 5 x with
  | none =>
    have hr_x := ixn_none hq_x
    simp only [sp_write, hq_x] at h
    refine Γ.intro0 hg kX9_write (by omega) (Nat.le_of_ble_eq_true rfl) (fun P hP => ?_)
    show P N 0 0 w 0 [some (.ref 0), some (.int x), none, none] []
    refine hP 0 _ rfl _ _ _ _ _ _ ?_
    simp only [bX9_write_0, hrun, hx, hnth, hput, hok, hcat2, hldI, hldL, hldR, hpI, hpL, hpA, hpR, hp1, hpV, hrtI, hrtL, hrtR, hrtV, hpN, hck, hrI, hrB, hrL, hrA, hwI, hwA, hwB, hrN, hfk, hfs, hrF, hwF, hcl, hfty, tyX1, tyX3, tyX6, tyX9, tyX10, tyJ0, tyJ4, hfit, hcmp, hnar, hres, hst, hacp, kz, kof, kn0, kn1, Bool.not_true, Bool.not_false, true_and, and_true, Nat.zero_add, Nat.reduceAdd, List.length_cons, List.length_nil, true_or, or_true, false_or, or_false, decide_true, decide_false, ne_eq, not_true_eq_false, not_false_eq_true, ki_0, ki_1, ki_2, ki_3, ki_4, ki_5, kb_m100, kb_m10, kb_m9, kb_m8, kb_m7, kb_m6, kb_m5, kb_m4, kb_m3, kb_m2, kb_6, kb_7, kb_8, kb_9, kb_10, kb_12, kb_13, kb_16, kb_27, kb_31, kb_32, kb_43, kb_45, kb_48, kb_57, kb_60, kb_63, kb_81, kb_97, kb_99, kb_100, kb_120, kb_126, ks_m1000, ks_243, ks_255, ks_729, ks_1000, ks_2000, ks_2187, ks_6561, ks_9840, ks_9841, kl_0, kl_1, k0]
    refine c_registerAtN hg (by omega) hr_x ?_
    simp only [hrun, hx, hnth, hput, hok, hcat2, hldI, hldL, hldR, hpI, hpL, hpA, hpR, hp1, hpV, hrtI, hrtL, hrtR, hrtV, hpN, hck, hrI, hrB, hrL, hrA, hwI, hwA, hwB, hrN, hfk, hfs, hrF, hwF, hcl, hfty, tyX1, tyX3, tyX6, tyX9, tyX10, tyJ0, tyJ4, hfit, hcmp, hnar, hres, hst, hacp, kz, kof, kn0, kn1, Bool.not_true, Bool.not_false, true_and, and_true, Nat.zero_add, Nat.reduceAdd, List.length_cons, List.length_nil, true_or, or_true, false_or, or_false, decide_true, decide_false, ne_eq, not_true_eq_false, not_false_eq_true, ki_0, ki_1, ki_2, ki_3, ki_4, ki_5, kb_m100, kb_m10, kb_m9, kb_m8, kb_m7, kb_m6, kb_m5, kb_m4, kb_m3, kb_m2, kb_6, kb_7, kb_8, kb_9, kb_10, kb_12, kb_13, kb_16, kb_27, kb_31, kb_32, kb_43, kb_45, kb_48, kb_57, kb_60, kb_63, kb_81, kb_97, kb_99, kb_100, kb_120, kb_126, ks_m1000, ks_243, ks_255, ks_729, ks_1000, ks_2000, ks_2187, ks_6561, ks_9840, ks_9841, kl_0, kl_1, k0]
    refine hP 1 _ rfl _ _ _ _ _ _ ?_
    simp only [bX9_write_1, hrun, hx, hnth, hput, hok, hcat2, hldI, hldL, hldR, hpI, hpL, hpA, hpR, hp1, hpV, hrtI, hrtL, hrtR, hrtV, hpN, hck, hrI, hrB, hrL, hrA, hwI, hwA, hwB, hrN, hfk, hfs, hrF, hwF, hcl, hfty, tyX1, tyX3, tyX6, tyX9, tyX10, tyJ0, tyJ4, hfit, hcmp, hnar, hres, hst, hacp, kz, kof, kn0, kn1, Bool.not_true, Bool.not_false, true_and, and_true, Nat.zero_add, Nat.reduceAdd, List.length_cons, List.length_nil, true_or, or_true, false_or, or_false, decide_true, decide_false, ne_eq, not_true_eq_false, not_false_eq_true, ki_0, ki_1, ki_2, ki_3, ki_4, ki_5, kb_m100, kb_m10, kb_m9, kb_m8, kb_m7, kb_m6, kb_m5, kb_m4, kb_m3, kb_m2, kb_6, kb_7, kb_8, kb_9, kb_10, kb_12, kb_13, kb_16, kb_27, kb_31, kb_32, kb_43, kb_45, kb_48, kb_57, kb_60, kb_63, kb_81, kb_97, kb_99, kb_100, kb_120, kb_126, ks_m1000, ks_243, ks_255, ks_729, ks_1000, ks_2000, ks_2187, ks_6561, ks_9840, ks_9841, kl_0, kl_1, k0]
    exact h w _ _ _ hX9 hB9 tfr.rf (Nat.le_refl _) (by omega) (by omega) (by omega)
  | some i =>
    obtain ⟨h_i, hrfl_i⟩ := ixn_some (by omega) hq_x
    subst hrfl_i
    simp only [sp_write, hq_x] at h
    obtain ⟨hr, hs⟩ := hX9.r
    obtain ⟨fs_i, kp_i⟩ := hr.cl h_i
    have hPi := hr.P h_i
    have hpi := hr.p h_i
    have hL120 := hPi.1
    have hlen9 := mtxt_len hPi
    refine Γ.intro hg kX9_write (by omega) (20) (8000) (by omega) (by omega) (Nat.le_of_ble_eq_true rfl) (fun P hP => ?_)
    show P N (20) (8000) w 0 [some (.ref 0), some (.int (nI i)), none, none] []
    have fr9 : ∀ w1, (∀ j, j ≠ 7 → j ≠ v7 → (j < N ∨ 1000000 ≤ j) → w1 j = w j) → w1 0 = w 0 ∧ hPoly w1 (17 + 6 * i) (17 + 1 + 6 * i) (17 + 2 + 6 * i) (S.rg i) := fun w1 hf => ⟨hf 0 (by omega) (by omega) (by omega), hpi.keep (hf _ (by omega) (by omega) (by omega)) (hf _ (by omega) (by omega) (by omega)) (hf _ (by omega) (by omega) (by omega))⟩
    have fin9 : ∀ (w1 : hWd) (N1 c1 s1 v1 m1 : Nat) (x3 : Option Value), hSB w1 7 v1 m1 (mtxt (S.rg i)) → (v1 = v7 ∨ N ≤ v1) → v1 < N1 → Bg m1 c1 s1 → N1 + c1 = N + 20 → (∀ j, j ≠ 7 → j ≠ v7 → (j < N ∨ 1000000 ≤ j) → w1 j = w j) → P N1 c1 s1 w1 73 [some (.ref 0), some (.int (nI i)), some (.ref (17 + 6 * i)), x3] [] := by
      intro w1 N1 c1 s1 v1 m1 x3 hb1 hv1 hvN hBg hNc hf
      have z0 := (fr9 w1 hf).1.trans k0
      have hBN := hBg.bd
      obtain ⟨ml1, F1, kb1, _⟩ := id hb1.2.2.2
      refine hP 7 _ rfl _ _ _ _ _ _ ?_
      simp only [bX9_write_7, hrun, hx, hnth, hput, hok, hcat2, hldI, hldL, hldR, hpI, hpL, hpA, hpR, hp1, hpV, hrtI, hrtL, hrtR, hrtV, hpN, hck, hrI, hrB, hrL, hrA, hwI, hwA, hwB, hrN, hfk, hfs, hrF, hwF, hcl, hfty, tyX1, tyX3, tyX6, tyX9, tyX10, tyJ0, tyJ4, hfit, hcmp, hnar, hres, hst, hacp, kz, kof, kn0, kn1, Bool.not_true, Bool.not_false, true_and, and_true, Nat.zero_add, Nat.reduceAdd, List.length_cons, List.length_nil, true_or, or_true, false_or, or_false, decide_true, decide_false, ne_eq, not_true_eq_false, not_false_eq_true, ki_0, ki_1, ki_2, ki_3, ki_4, ki_5, kb_m100, kb_m10, kb_m9, kb_m8, kb_m7, kb_m6, kb_m5, kb_m4, kb_m3, kb_m2, kb_6, kb_7, kb_8, kb_9, kb_10, kb_12, kb_13, kb_16, kb_27, kb_31, kb_32, kb_43, kb_45, kb_48, kb_57, kb_60, kb_63, kb_81, kb_97, kb_99, kb_100, kb_120, kb_126, ks_m1000, ks_243, ks_255, ks_729, ks_1000, ks_2000, ks_2187, ks_6561, ks_9840, ks_9841, kl_0, kl_1, z0, kb1]
      refine c_bLength hg (by omega) hb1 ?_
      simp only [hrun, hx, hnth, hput, hok, hcat2, hldI, hldL, hldR, hpI, hpL, hpA, hpR, hp1, hpV, hrtI, hrtL, hrtR, hrtV, hpN, hck, hrI, hrB, hrL, hrA, hwI, hwA, hwB, hrN, hfk, hfs, hrF, hwF, hcl, hfty, tyX1, tyX3, tyX6, tyX9, tyX10, tyJ0, tyJ4, hfit, hcmp, hnar, hres, hst, hacp, kz, kof, kn0, kn1, Bool.not_true, Bool.not_false, true_and, and_true, Nat.zero_add, Nat.reduceAdd, List.length_cons, List.length_nil, true_or, or_true, false_or, or_false, decide_true, decide_false, ne_eq, not_true_eq_false, not_false_eq_true, ki_0, ki_1, ki_2, ki_3, ki_4, ki_5, kb_m100, kb_m10, kb_m9, kb_m8, kb_m7, kb_m6, kb_m5, kb_m4, kb_m3, kb_m2, kb_6, kb_7, kb_8, kb_9, kb_10, kb_12, kb_13, kb_16, kb_27, kb_31, kb_32, kb_43, kb_45, kb_48, kb_57, kb_60, kb_63, kb_81, kb_97, kb_99, kb_100, kb_120, kb_126, ks_m1000, ks_243, ks_255, ks_729, ks_1000, ks_2000, ks_2187, ks_6561, ks_9840, ks_9841, kl_0, kl_1, z0, kb1]
      refine h w1 _ _ _ (hX9.bld (fun j hj => hf j (by omega) (by omega) (by omega)) rfl rfl rfl rfl rfl) ⟨by omega, by omega, hi60, hlen9, v5, m5, v1, m1, h5.keep (hf _ (by omega) (by omega) (by omega)) (hf _ (by omega) (by omega) (by omega)), hb1, hv5, by omega, by omega, hvN, by omega, hm5, hm52, hBN.2.2.1, hBN.2.2.2⟩ (fun j hj => hf j (by omega) (by omega) (by omega)) (by omega) (by omega) (by omega) (by omega)
    have loop : ∀ (n m : Nat) (w1 : hWd) (N1 c1 s1 v1 m1 : Nat), (S.rg i).length - m = n → m ≤ (S.rg i).length → hSB w1 7 v1 m1 (mtk9 (S.rg i) m) → (v1 = v7 ∨ N ≤ v1) → v1 < N1 → Bg m1 c1 s1 → N1 + c1 = N + 20 → (∀ j, j ≠ 7 → j ≠ v7 → (j < N ∨ 1000000 ≤ j) → w1 j = w j) → P N1 c1 s1 w1 22 [some (.ref 0), some (.int (nI i)), some (.ref (17 + 6 * i)), some (.int (nI m))] [] := by
      intro n
      induction n with
      | zero =>
        intro m w1 N1 c1 s1 v1 m1 hn hm hb1 hv1 hvN hBg hNc hf
        obtain rfl : m = (S.rg i).length := by omega
        obtain ⟨f0, hp1⟩ := fr9 w1 hf
        have z0 := f0.trans k0
        obtain ⟨fsp, kp1⟩ := hp1.cl
        obtain ⟨ml1, F1, kb1, _⟩ := id hb1.2.2.2
        have hBN := hBg.bd
        by_cases q0 : (S.rg i).length = 0
        · have et : mtxt (S.rg i) = [48] := if_pos q0
          have e0 : mtk9 (S.rg i) (S.rg i).length = [] := by rw [q0]; rfl
          rw [e0] at hb1
          have hsu := hBg.step (K := 1) (by decide)
          have hb2 := hb1
          refine hP 3 _ rfl _ _ _ _ _ _ ?_
          simp only [bX9_write_3, hrun, hx, hnth, hput, hok, hcat2, hldI, hldL, hldR, hpI, hpL, hpA, hpR, hp1, hpV, hrtI, hrtL, hrtR, hrtV, hpN, hck, hrI, hrB, hrL, hrA, hwI, hwA, hwB, hrN, hfk, hfs, hrF, hwF, hcl, hfty, tyX1, tyX3, tyX6, tyX9, tyX10, tyJ0, tyJ4, hfit, hcmp, hnar, hres, hst, hacp, kz, kof, kn0, kn1, Bool.not_true, Bool.not_false, true_and, and_true, Nat.zero_add, Nat.reduceAdd, List.length_cons, List.length_nil, true_or, or_true, false_or, or_false, decide_true, decide_false, ne_eq, not_true_eq_false, not_false_eq_true, ki_0, ki_1, ki_2, ki_3, ki_4, ki_5, kb_m100, kb_m10, kb_m9, kb_m8, kb_m7, kb_m6, kb_m5, kb_m4, kb_m3, kb_m2, kb_6, kb_7, kb_8, kb_9, kb_10, kb_12, kb_13, kb_16, kb_27, kb_31, kb_32, kb_43, kb_45, kb_48, kb_57, kb_60, kb_63, kb_81, kb_97, kb_99, kb_100, kb_120, kb_126, ks_m1000, ks_243, ks_255, ks_729, ks_1000, ks_2000, ks_2187, ks_6561, ks_9840, ks_9841, kl_0, kl_1, z0, kp1, kb1]
          refine c_size hg (by omega) hp1 hPi ?_
          simp only [hrun, hx, hnth, hput, hok, hcat2, hldI, hldL, hldR, hpI, hpL, hpA, hpR, hp1, hpV, hrtI, hrtL, hrtR, hrtV, hpN, hck, hrI, hrB, hrL, hrA, hwI, hwA, hwB, hrN, hfk, hfs, hrF, hwF, hcl, hfty, tyX1, tyX3, tyX6, tyX9, tyX10, tyJ0, tyJ4, hfit, hcmp, hnar, hres, hst, hacp, kz, kof, kn0, kn1, Bool.not_true, Bool.not_false, true_and, and_true, Nat.zero_add, Nat.reduceAdd, List.length_cons, List.length_nil, true_or, or_true, false_or, or_false, decide_true, decide_false, ne_eq, not_true_eq_false, not_false_eq_true, ki_0, ki_1, ki_2, ki_3, ki_4, ki_5, kb_m100, kb_m10, kb_m9, kb_m8, kb_m7, kb_m6, kb_m5, kb_m4, kb_m3, kb_m2, kb_6, kb_7, kb_8, kb_9, kb_10, kb_12, kb_13, kb_16, kb_27, kb_31, kb_32, kb_43, kb_45, kb_48, kb_57, kb_60, kb_63, kb_81, kb_97, kb_99, kb_100, kb_120, kb_126, ks_m1000, ks_243, ks_255, ks_729, ks_1000, ks_2000, ks_2187, ks_6561, ks_9840, ks_9841, kl_0, kl_1, z0, kp1, kb1]
          refine ⟨fun b27 => ?_, fun b27 => ?_⟩
          · try simp (disch := omega) only [nI_ltI, nI_leI, nI_eq, Nat.not_lt, Nat.not_le] at b27
            refine hP 5 _ rfl _ _ _ _ _ _ ?_
            simp only [bX9_write_5, hrun, hx, hnth, hput, hok, hcat2, hldI, hldL, hldR, hpI, hpL, hpA, hpR, hp1, hpV, hrtI, hrtL, hrtR, hrtV, hpN, hck, hrI, hrB, hrL, hrA, hwI, hwA, hwB, hrN, hfk, hfs, hrF, hwF, hcl, hfty, tyX1, tyX3, tyX6, tyX9, tyX10, tyJ0, tyJ4, hfit, hcmp, hnar, hres, hst, hacp, kz, kof, kn0, kn1, Bool.not_true, Bool.not_false, true_and, and_true, Nat.zero_add, Nat.reduceAdd, List.length_cons, List.length_nil, true_or, or_true, false_or, or_false, decide_true, decide_false, ne_eq, not_true_eq_false, not_false_eq_true, ki_0, ki_1, ki_2, ki_3, ki_4, ki_5, kb_m100, kb_m10, kb_m9, kb_m8, kb_m7, kb_m6, kb_m5, kb_m4, kb_m3, kb_m2, kb_6, kb_7, kb_8, kb_9, kb_10, kb_12, kb_13, kb_16, kb_27, kb_31, kb_32, kb_43, kb_45, kb_48, kb_57, kb_60, kb_63, kb_81, kb_97, kb_99, kb_100, kb_120, kb_126, ks_m1000, ks_243, ks_255, ks_729, ks_1000, ks_2000, ks_2187, ks_6561, ks_9840, ks_9841, kl_0, kl_1, z0, kp1, kb1]
            refine c_bLength hg (by omega) hb1 ?_
            simp only [hrun, hx, hnth, hput, hok, hcat2, hldI, hldL, hldR, hpI, hpL, hpA, hpR, hp1, hpV, hrtI, hrtL, hrtR, hrtV, hpN, hck, hrI, hrB, hrL, hrA, hwI, hwA, hwB, hrN, hfk, hfs, hrF, hwF, hcl, hfty, tyX1, tyX3, tyX6, tyX9, tyX10, tyJ0, tyJ4, hfit, hcmp, hnar, hres, hst, hacp, kz, kof, kn0, kn1, Bool.not_true, Bool.not_false, true_and, and_true, Nat.zero_add, Nat.reduceAdd, List.length_cons, List.length_nil, true_or, or_true, false_or, or_false, decide_true, decide_false, ne_eq, not_true_eq_false, not_false_eq_true, ki_0, ki_1, ki_2, ki_3, ki_4, ki_5, kb_m100, kb_m10, kb_m9, kb_m8, kb_m7, kb_m6, kb_m5, kb_m4, kb_m3, kb_m2, kb_6, kb_7, kb_8, kb_9, kb_10, kb_12, kb_13, kb_16, kb_27, kb_31, kb_32, kb_43, kb_45, kb_48, kb_57, kb_60, kb_63, kb_81, kb_97, kb_99, kb_100, kb_120, kb_126, ks_m1000, ks_243, ks_255, ks_729, ks_1000, ks_2000, ks_2187, ks_6561, ks_9840, ks_9841, kl_0, kl_1, z0, kp1, kb1]
            refine ⟨fun b60 => ?_, fun b60 => ?_⟩
            · (try simp (disch := omega) only [nI_ltI, nI_leI, nI_eq, Nat.not_lt, Nat.not_le] at b60) <;> (exfalso; omega)
            · try simp (disch := omega) only [nI_ltI, nI_leI, nI_eq, Nat.not_lt, Nat.not_le] at b60
              refine hP 6 _ rfl _ _ _ _ _ _ ?_
              simp only [bX9_write_6, hrun, hx, hnth, hput, hok, hcat2, hldI, hldL, hldR, hpI, hpL, hpA, hpR, hp1, hpV, hrtI, hrtL, hrtR, hrtV, hpN, hck, hrI, hrB, hrL, hrA, hwI, hwA, hwB, hrN, hfk, hfs, hrF, hwF, hcl, hfty, tyX1, tyX3, tyX6, tyX9, tyX10, tyJ0, tyJ4, hfit, hcmp, hnar, hres, hst, hacp, kz, kof, kn0, kn1, Bool.not_true, Bool.not_false, true_and, and_true, Nat.zero_add, Nat.reduceAdd, List.length_cons, List.length_nil, true_or, or_true, false_or, or_false, decide_true, decide_false, ne_eq, not_true_eq_false, not_false_eq_true, ki_0, ki_1, ki_2, ki_3, ki_4, ki_5, kb_m100, kb_m10, kb_m9, kb_m8, kb_m7, kb_m6, kb_m5, kb_m4, kb_m3, kb_m2, kb_6, kb_7, kb_8, kb_9, kb_10, kb_12, kb_13, kb_16, kb_27, kb_31, kb_32, kb_43, kb_45, kb_48, kb_57, kb_60, kb_63, kb_81, kb_97, kb_99, kb_100, kb_120, kb_126, ks_m1000, ks_243, ks_255, ks_729, ks_1000, ks_2000, ks_2187, ks_6561, ks_9840, ks_9841, kl_0, kl_1, z0, kp1, kb1]
              refine c_bApp hg (by omega) hb1 (by simp) (by omega) (by omega) hvN hsu.1 hsu.2.1 (x := 48) (by decide) (fun w2 hb2 hm2 => ?_)
              have e16 : (1 : Nat) ≤ m1 := by omega
              have ec : gcap m1 1 = m1 := if_pos e16
              have ev : gvv v1 N1 m1 1 = v1 := if_pos e16
              have eu : gcu m1 1 = 0 := if_pos e16
              have es : gsu m1 1 = 0 := if_pos e16
              simp only [List.length_nil, Nat.zero_add, List.nil_append, ec, ev] at hb2 hm2
              have z2 : w2 0 = _ := (hm2 0 (by simp; omega)).trans z0
              simp only [hrun, hx, hnth, hput, hok, hcat2, hldI, hldL, hldR, hpI, hpL, hpA, hpR, hp1, hpV, hrtI, hrtL, hrtR, hrtV, hpN, hck, hrI, hrB, hrL, hrA, hwI, hwA, hwB, hrN, hfk, hfs, hrF, hwF, hcl, hfty, tyX1, tyX3, tyX6, tyX9, tyX10, tyJ0, tyJ4, hfit, hcmp, hnar, hres, hst, hacp, kz, kof, kn0, kn1, Bool.not_true, Bool.not_false, true_and, and_true, Nat.zero_add, Nat.reduceAdd, List.length_cons, List.length_nil, true_or, or_true, false_or, or_false, decide_true, decide_false, ne_eq, not_true_eq_false, not_false_eq_true, ki_0, ki_1, ki_2, ki_3, ki_4, ki_5, kb_m100, kb_m10, kb_m9, kb_m8, kb_m7, kb_m6, kb_m5, kb_m4, kb_m3, kb_m2, kb_6, kb_7, kb_8, kb_9, kb_10, kb_12, kb_13, kb_16, kb_27, kb_31, kb_32, kb_43, kb_45, kb_48, kb_57, kb_60, kb_63, kb_81, kb_97, kb_99, kb_100, kb_120, kb_126, ks_m1000, ks_243, ks_255, ks_729, ks_1000, ks_2000, ks_2187, ks_6561, ks_9840, ks_9841, kl_0, kl_1, z0, kp1, kb1]
              simp only [List.length_nil, Nat.zero_add, eu, es, Nat.add_zero, Nat.sub_zero]
              refine fin9 w2 _ _ _ v1 m1 _ (by rw [et]; exact hb2) hv1 hvN hBg hNc (fun j h1 h2 h3 => (hm2 j (by simp; omega)).trans (hf j h1 h2 h3))
          · (try simp (disch := omega) only [nI_ltI, nI_leI, nI_eq, Nat.not_lt, Nat.not_le] at b27) <;> (exfalso; omega)
        · have et : mtxt (S.rg i) = mtk9 (S.rg i) (S.rg i).length := if_neg q0
          have hpos := mtk9_pos hPi (m := (S.rg i).length) (by omega) (Nat.le_refl _)
          have hup := mtk9_len hPi (S.rg i).length (Nat.le_refl _)
          refine hP 3 _ rfl _ _ _ _ _ _ ?_
          simp only [bX9_write_3, hrun, hx, hnth, hput, hok, hcat2, hldI, hldL, hldR, hpI, hpL, hpA, hpR, hp1, hpV, hrtI, hrtL, hrtR, hrtV, hpN, hck, hrI, hrB, hrL, hrA, hwI, hwA, hwB, hrN, hfk, hfs, hrF, hwF, hcl, hfty, tyX1, tyX3, tyX6, tyX9, tyX10, tyJ0, tyJ4, hfit, hcmp, hnar, hres, hst, hacp, kz, kof, kn0, kn1, Bool.not_true, Bool.not_false, true_and, and_true, Nat.zero_add, Nat.reduceAdd, List.length_cons, List.length_nil, true_or, or_true, false_or, or_false, decide_true, decide_false, ne_eq, not_true_eq_false, not_false_eq_true, ki_0, ki_1, ki_2, ki_3, ki_4, ki_5, kb_m100, kb_m10, kb_m9, kb_m8, kb_m7, kb_m6, kb_m5, kb_m4, kb_m3, kb_m2, kb_6, kb_7, kb_8, kb_9, kb_10, kb_12, kb_13, kb_16, kb_27, kb_31, kb_32, kb_43, kb_45, kb_48, kb_57, kb_60, kb_63, kb_81, kb_97, kb_99, kb_100, kb_120, kb_126, ks_m1000, ks_243, ks_255, ks_729, ks_1000, ks_2000, ks_2187, ks_6561, ks_9840, ks_9841, kl_0, kl_1, z0, kp1, kb1]
          refine c_size hg (by omega) hp1 hPi ?_
          simp only [hrun, hx, hnth, hput, hok, hcat2, hldI, hldL, hldR, hpI, hpL, hpA, hpR, hp1, hpV, hrtI, hrtL, hrtR, hrtV, hpN, hck, hrI, hrB, hrL, hrA, hwI, hwA, hwB, hrN, hfk, hfs, hrF, hwF, hcl, hfty, tyX1, tyX3, tyX6, tyX9, tyX10, tyJ0, tyJ4, hfit, hcmp, hnar, hres, hst, hacp, kz, kof, kn0, kn1, Bool.not_true, Bool.not_false, true_and, and_true, Nat.zero_add, Nat.reduceAdd, List.length_cons, List.length_nil, true_or, or_true, false_or, or_false, decide_true, decide_false, ne_eq, not_true_eq_false, not_false_eq_true, ki_0, ki_1, ki_2, ki_3, ki_4, ki_5, kb_m100, kb_m10, kb_m9, kb_m8, kb_m7, kb_m6, kb_m5, kb_m4, kb_m3, kb_m2, kb_6, kb_7, kb_8, kb_9, kb_10, kb_12, kb_13, kb_16, kb_27, kb_31, kb_32, kb_43, kb_45, kb_48, kb_57, kb_60, kb_63, kb_81, kb_97, kb_99, kb_100, kb_120, kb_126, ks_m1000, ks_243, ks_255, ks_729, ks_1000, ks_2000, ks_2187, ks_6561, ks_9840, ks_9841, kl_0, kl_1, z0, kp1, kb1]
          refine ⟨fun b27 => ?_, fun b27 => ?_⟩
          · try simp (disch := omega) only [nI_ltI, nI_leI, nI_eq, Nat.not_lt, Nat.not_le] at b27
            refine hP 5 _ rfl _ _ _ _ _ _ ?_
            simp only [bX9_write_5, hrun, hx, hnth, hput, hok, hcat2, hldI, hldL, hldR, hpI, hpL, hpA, hpR, hp1, hpV, hrtI, hrtL, hrtR, hrtV, hpN, hck, hrI, hrB, hrL, hrA, hwI, hwA, hwB, hrN, hfk, hfs, hrF, hwF, hcl, hfty, tyX1, tyX3, tyX6, tyX9, tyX10, tyJ0, tyJ4, hfit, hcmp, hnar, hres, hst, hacp, kz, kof, kn0, kn1, Bool.not_true, Bool.not_false, true_and, and_true, Nat.zero_add, Nat.reduceAdd, List.length_cons, List.length_nil, true_or, or_true, false_or, or_false, decide_true, decide_false, ne_eq, not_true_eq_false, not_false_eq_true, ki_0, ki_1, ki_2, ki_3, ki_4, ki_5, kb_m100, kb_m10, kb_m9, kb_m8, kb_m7, kb_m6, kb_m5, kb_m4, kb_m3, kb_m2, kb_6, kb_7, kb_8, kb_9, kb_10, kb_12, kb_13, kb_16, kb_27, kb_31, kb_32, kb_43, kb_45, kb_48, kb_57, kb_60, kb_63, kb_81, kb_97, kb_99, kb_100, kb_120, kb_126, ks_m1000, ks_243, ks_255, ks_729, ks_1000, ks_2000, ks_2187, ks_6561, ks_9840, ks_9841, kl_0, kl_1, z0, kp1, kb1]
            refine c_bLength hg (by omega) hb1 ?_
            simp only [hrun, hx, hnth, hput, hok, hcat2, hldI, hldL, hldR, hpI, hpL, hpA, hpR, hp1, hpV, hrtI, hrtL, hrtR, hrtV, hpN, hck, hrI, hrB, hrL, hrA, hwI, hwA, hwB, hrN, hfk, hfs, hrF, hwF, hcl, hfty, tyX1, tyX3, tyX6, tyX9, tyX10, tyJ0, tyJ4, hfit, hcmp, hnar, hres, hst, hacp, kz, kof, kn0, kn1, Bool.not_true, Bool.not_false, true_and, and_true, Nat.zero_add, Nat.reduceAdd, List.length_cons, List.length_nil, true_or, or_true, false_or, or_false, decide_true, decide_false, ne_eq, not_true_eq_false, not_false_eq_true, ki_0, ki_1, ki_2, ki_3, ki_4, ki_5, kb_m100, kb_m10, kb_m9, kb_m8, kb_m7, kb_m6, kb_m5, kb_m4, kb_m3, kb_m2, kb_6, kb_7, kb_8, kb_9, kb_10, kb_12, kb_13, kb_16, kb_27, kb_31, kb_32, kb_43, kb_45, kb_48, kb_57, kb_60, kb_63, kb_81, kb_97, kb_99, kb_100, kb_120, kb_126, ks_m1000, ks_243, ks_255, ks_729, ks_1000, ks_2000, ks_2187, ks_6561, ks_9840, ks_9841, kl_0, kl_1, z0, kp1, kb1]
            refine ⟨fun b60 => ?_, fun b60 => ?_⟩
            · try simp (disch := omega) only [nI_ltI, nI_leI, nI_eq, Nat.not_lt, Nat.not_le] at b60
              exact fin9 w1 _ _ _ v1 m1 _ (by rw [et]; exact hb1) hv1 hvN hBg hNc hf
            · (try simp (disch := omega) only [nI_ltI, nI_leI, nI_eq, Nat.not_lt, Nat.not_le] at b60) <;> (exfalso; omega)
          · (try simp (disch := omega) only [nI_ltI, nI_leI, nI_eq, Nat.not_lt, Nat.not_le] at b27) <;> (exfalso; omega)
      | succ n ih =>
        intro m w1 N1 c1 s1 v1 m1 hn hm hb1 hv1 hvN hBg hNc hf
        obtain ⟨f0, hp1⟩ := fr9 w1 hf
        have z0 := f0.trans k0
        obtain ⟨fsp, kp1⟩ := hp1.cl
        obtain ⟨ml1, F1, kb1, _⟩ := id hb1.2.2.2
        have hBN := hBg.bd
        have hq1 : (S.rg i)[m]? = some (S.rg i)[m] := List.getElem?_eq_getElem (by omega)
        have hgm : (S.rg i).getD m (0, 0) = (S.rg i)[m] := by rw [List.getD_eq_getElem?_getD, hq1]; rfl
        have hqb := hPi.at hq1
        have hll := mtk9_len hPi m (by omega)
        have hml := mtm_len (f := decide (m = 0)) hqb.2.2.1
        have edm : decide ((mtk9 (S.rg i) m).length = 0) = decide (m = 0) := by
          by_cases y : m = 0
          · subst y; rfl
          · have := mtk9_pos hPi (m := m) (by omega) (by omega)
            rw [decide_eq_false y, decide_eq_false (by omega)]
        have hDg1 : hDg w1 := ⟨(hf _ (by omega) (by omega) (by omega)).trans hDg9.1, (hf _ (by omega) (by omega) (by omega)).trans hDg9.2⟩
        have emk : mtk9 (S.rg i) (m + 1) = mtk9 (S.rg i) m ++ mtm (decide (m = 0)) (S.rg i)[m] := by rw [mtk9, hgm]
        have hK : (mtk9 (S.rg i) m ++ mtm (decide ((mtk9 (S.rg i) m).length = 0)) (S.rg i)[m]).length = (mtk9 (S.rg i) (m + 1)).length := by rw [emk, edm]
        have hK9 := mtk9_len hPi (m + 1) (by omega)
        have hsu := hBg.step (K := (mtk9 (S.rg i) (m + 1)).length) (by omega)
        refine hP 3 _ rfl _ _ _ _ _ _ ?_
        simp only [bX9_write_3, hrun, hx, hnth, hput, hok, hcat2, hldI, hldL, hldR, hpI, hpL, hpA, hpR, hp1, hpV, hrtI, hrtL, hrtR, hrtV, hpN, hck, hrI, hrB, hrL, hrA, hwI, hwA, hwB, hrN, hfk, hfs, hrF, hwF, hcl, hfty, tyX1, tyX3, tyX6, tyX9, tyX10, tyJ0, tyJ4, hfit, hcmp, hnar, hres, hst, hacp, kz, kof, kn0, kn1, Bool.not_true, Bool.not_false, true_and, and_true, Nat.zero_add, Nat.reduceAdd, List.length_cons, List.length_nil, true_or, or_true, false_or, or_false, decide_true, decide_false, ne_eq, not_true_eq_false, not_false_eq_true, ki_0, ki_1, ki_2, ki_3, ki_4, ki_5, kb_m100, kb_m10, kb_m9, kb_m8, kb_m7, kb_m6, kb_m5, kb_m4, kb_m3, kb_m2, kb_6, kb_7, kb_8, kb_9, kb_10, kb_12, kb_13, kb_16, kb_27, kb_31, kb_32, kb_43, kb_45, kb_48, kb_57, kb_60, kb_63, kb_81, kb_97, kb_99, kb_100, kb_120, kb_126, ks_m1000, ks_243, ks_255, ks_729, ks_1000, ks_2000, ks_2187, ks_6561, ks_9840, ks_9841, kl_0, kl_1, z0, kp1, kb1, nI_add]
        refine c_size hg (by omega) hp1 hPi ?_
        simp only [hrun, hx, hnth, hput, hok, hcat2, hldI, hldL, hldR, hpI, hpL, hpA, hpR, hp1, hpV, hrtI, hrtL, hrtR, hrtV, hpN, hck, hrI, hrB, hrL, hrA, hwI, hwA, hwB, hrN, hfk, hfs, hrF, hwF, hcl, hfty, tyX1, tyX3, tyX6, tyX9, tyX10, tyJ0, tyJ4, hfit, hcmp, hnar, hres, hst, hacp, kz, kof, kn0, kn1, Bool.not_true, Bool.not_false, true_and, and_true, Nat.zero_add, Nat.reduceAdd, List.length_cons, List.length_nil, true_or, or_true, false_or, or_false, decide_true, decide_false, ne_eq, not_true_eq_false, not_false_eq_true, ki_0, ki_1, ki_2, ki_3, ki_4, ki_5, kb_m100, kb_m10, kb_m9, kb_m8, kb_m7, kb_m6, kb_m5, kb_m4, kb_m3, kb_m2, kb_6, kb_7, kb_8, kb_9, kb_10, kb_12, kb_13, kb_16, kb_27, kb_31, kb_32, kb_43, kb_45, kb_48, kb_57, kb_60, kb_63, kb_81, kb_97, kb_99, kb_100, kb_120, kb_126, ks_m1000, ks_243, ks_255, ks_729, ks_1000, ks_2000, ks_2187, ks_6561, ks_9840, ks_9841, kl_0, kl_1, z0, kp1, kb1, nI_add]
        refine ⟨fun b27 => ?_, fun b27 => ?_⟩
        · (try simp (disch := omega) only [nI_ltI, nI_leI, nI_eq, Nat.not_lt, Nat.not_le] at b27) <;> (exfalso; omega)
        · try simp (disch := omega) only [nI_ltI, nI_leI, nI_eq, Nat.not_lt, Nat.not_le] at b27
          refine hP 4 _ rfl _ _ _ _ _ _ ?_
          simp only [bX9_write_4, hrun, hx, hnth, hput, hok, hcat2, hldI, hldL, hldR, hpI, hpL, hpA, hpR, hp1, hpV, hrtI, hrtL, hrtR, hrtV, hpN, hck, hrI, hrB, hrL, hrA, hwI, hwA, hwB, hrN, hfk, hfs, hrF, hwF, hcl, hfty, tyX1, tyX3, tyX6, tyX9, tyX10, tyJ0, tyJ4, hfit, hcmp, hnar, hres, hst, hacp, kz, kof, kn0, kn1, Bool.not_true, Bool.not_false, true_and, and_true, Nat.zero_add, Nat.reduceAdd, List.length_cons, List.length_nil, true_or, or_true, false_or, or_false, decide_true, decide_false, ne_eq, not_true_eq_false, not_false_eq_true, ki_0, ki_1, ki_2, ki_3, ki_4, ki_5, kb_m100, kb_m10, kb_m9, kb_m8, kb_m7, kb_m6, kb_m5, kb_m4, kb_m3, kb_m2, kb_6, kb_7, kb_8, kb_9, kb_10, kb_12, kb_13, kb_16, kb_27, kb_31, kb_32, kb_43, kb_45, kb_48, kb_57, kb_60, kb_63, kb_81, kb_97, kb_99, kb_100, kb_120, kb_126, ks_m1000, ks_243, ks_255, ks_729, ks_1000, ks_2000, ks_2187, ks_6561, ks_9840, ks_9841, kl_0, kl_1, z0, kp1, kb1, nI_add]
          refine c_codeAt hg (by omega) hp1 hPi hq1 ?_
          simp only [hrun, hx, hnth, hput, hok, hcat2, hldI, hldL, hldR, hpI, hpL, hpA, hpR, hp1, hpV, hrtI, hrtL, hrtR, hrtV, hpN, hck, hrI, hrB, hrL, hrA, hwI, hwA, hwB, hrN, hfk, hfs, hrF, hwF, hcl, hfty, tyX1, tyX3, tyX6, tyX9, tyX10, tyJ0, tyJ4, hfit, hcmp, hnar, hres, hst, hacp, kz, kof, kn0, kn1, Bool.not_true, Bool.not_false, true_and, and_true, Nat.zero_add, Nat.reduceAdd, List.length_cons, List.length_nil, true_or, or_true, false_or, or_false, decide_true, decide_false, ne_eq, not_true_eq_false, not_false_eq_true, ki_0, ki_1, ki_2, ki_3, ki_4, ki_5, kb_m100, kb_m10, kb_m9, kb_m8, kb_m7, kb_m6, kb_m5, kb_m4, kb_m3, kb_m2, kb_6, kb_7, kb_8, kb_9, kb_10, kb_12, kb_13, kb_16, kb_27, kb_31, kb_32, kb_43, kb_45, kb_48, kb_57, kb_60, kb_63, kb_81, kb_97, kb_99, kb_100, kb_120, kb_126, ks_m1000, ks_243, ks_255, ks_729, ks_1000, ks_2000, ks_2187, ks_6561, ks_9840, ks_9841, kl_0, kl_1, z0, kp1, kb1, nI_add]
          refine c_numberAt hg (by omega) hp1 hPi hq1 ?_
          simp only [hrun, hx, hnth, hput, hok, hcat2, hldI, hldL, hldR, hpI, hpL, hpA, hpR, hp1, hpV, hrtI, hrtL, hrtR, hrtV, hpN, hck, hrI, hrB, hrL, hrA, hwI, hwA, hwB, hrN, hfk, hfs, hrF, hwF, hcl, hfty, tyX1, tyX3, tyX6, tyX9, tyX10, tyJ0, tyJ4, hfit, hcmp, hnar, hres, hst, hacp, kz, kof, kn0, kn1, Bool.not_true, Bool.not_false, true_and, and_true, Nat.zero_add, Nat.reduceAdd, List.length_cons, List.length_nil, true_or, or_true, false_or, or_false, decide_true, decide_false, ne_eq, not_true_eq_false, not_false_eq_true, ki_0, ki_1, ki_2, ki_3, ki_4, ki_5, kb_m100, kb_m10, kb_m9, kb_m8, kb_m7, kb_m6, kb_m5, kb_m4, kb_m3, kb_m2, kb_6, kb_7, kb_8, kb_9, kb_10, kb_12, kb_13, kb_16, kb_27, kb_31, kb_32, kb_43, kb_45, kb_48, kb_57, kb_60, kb_63, kb_81, kb_97, kb_99, kb_100, kb_120, kb_126, ks_m1000, ks_243, ks_255, ks_729, ks_1000, ks_2000, ks_2187, ks_6561, ks_9840, ks_9841, kl_0, kl_1, z0, kp1, kb1, nI_add]
          refine c_aTerm hg (by omega) hb1 hqb.2.2.1 hqb.2.2.2.2.1 hqb.2.2.2.2.2 hDg1 hBN.2.2.1 hBN.2.2.2 (by omega) hvN (by omega) hK hsu.1 hsu.2.1 (fun w2 hb2 hm2 => ?_)
          rw [edm, ← emk] at hb2
          simp only [hrun, hx, hnth, hput, hok, hcat2, hldI, hldL, hldR, hpI, hpL, hpA, hpR, hp1, hpV, hrtI, hrtL, hrtR, hrtV, hpN, hck, hrI, hrB, hrL, hrA, hwI, hwA, hwB, hrN, hfk, hfs, hrF, hwF, hcl, hfty, tyX1, tyX3, tyX6, tyX9, tyX10, tyJ0, tyJ4, hfit, hcmp, hnar, hres, hst, hacp, kz, kof, kn0, kn1, Bool.not_true, Bool.not_false, true_and, and_true, Nat.zero_add, Nat.reduceAdd, List.length_cons, List.length_nil, true_or, or_true, false_or, or_false, decide_true, decide_false, ne_eq, not_true_eq_false, not_false_eq_true, ki_0, ki_1, ki_2, ki_3, ki_4, ki_5, kb_m100, kb_m10, kb_m9, kb_m8, kb_m7, kb_m6, kb_m5, kb_m4, kb_m3, kb_m2, kb_6, kb_7, kb_8, kb_9, kb_10, kb_12, kb_13, kb_16, kb_27, kb_31, kb_32, kb_43, kb_45, kb_48, kb_57, kb_60, kb_63, kb_81, kb_97, kb_99, kb_100, kb_120, kb_126, ks_m1000, ks_243, ks_255, ks_729, ks_1000, ks_2000, ks_2187, ks_6561, ks_9840, ks_9841, kl_0, kl_1, z0, kp1, kb1, nI_add]
          have hvv := g_v2 v1 N1 m1 (mtk9 (S.rg i) (m + 1)).length
          exact ih (m + 1) w2 _ _ _ _ _ (by omega) (by omega) hb2 (by omega) (g_vlt hvN) hsu.2.2 (by omega) (fun j h1 h2 h3 => (hm2 j (by simp; omega)).trans (hf j h1 h2 h3))
    refine hP 0 _ rfl _ _ _ _ _ _ ?_
    simp only [bX9_write_0, hrun, hx, hnth, hput, hok, hcat2, hldI, hldL, hldR, hpI, hpL, hpA, hpR, hp1, hpV, hrtI, hrtL, hrtR, hrtV, hpN, hck, hrI, hrB, hrL, hrA, hwI, hwA, hwB, hrN, hfk, hfs, hrF, hwF, hcl, hfty, tyX1, tyX3, tyX6, tyX9, tyX10, tyJ0, tyJ4, hfit, hcmp, hnar, hres, hst, hacp, kz, kof, kn0, kn1, Bool.not_true, Bool.not_false, true_and, and_true, Nat.zero_add, Nat.reduceAdd, List.length_cons, List.length_nil, true_or, or_true, false_or, or_false, decide_true, decide_false, ne_eq, not_true_eq_false, not_false_eq_true, ki_0, ki_1, ki_2, ki_3, ki_4, ki_5, kb_m100, kb_m10, kb_m9, kb_m8, kb_m7, kb_m6, kb_m5, kb_m4, kb_m3, kb_m2, kb_6, kb_7, kb_8, kb_9, kb_10, kb_12, kb_13, kb_16, kb_27, kb_31, kb_32, kb_43, kb_45, kb_48, kb_57, kb_60, kb_63, kb_81, kb_97, kb_99, kb_100, kb_120, kb_126, ks_m1000, ks_243, ks_255, ks_729, ks_1000, ks_2000, ks_2187, ks_6561, ks_9840, ks_9841, kl_0, kl_1, k0, kp_i, kb7]
    refine c_regAt hg (by omega) hr h_i ?_
    simp only [hrun, hx, hnth, hput, hok, hcat2, hldI, hldL, hldR, hpI, hpL, hpA, hpR, hp1, hpV, hrtI, hrtL, hrtR, hrtV, hpN, hck, hrI, hrB, hrL, hrA, hwI, hwA, hwB, hrN, hfk, hfs, hrF, hwF, hcl, hfty, tyX1, tyX3, tyX6, tyX9, tyX10, tyJ0, tyJ4, hfit, hcmp, hnar, hres, hst, hacp, kz, kof, kn0, kn1, Bool.not_true, Bool.not_false, true_and, and_true, Nat.zero_add, Nat.reduceAdd, List.length_cons, List.length_nil, true_or, or_true, false_or, or_false, decide_true, decide_false, ne_eq, not_true_eq_false, not_false_eq_true, ki_0, ki_1, ki_2, ki_3, ki_4, ki_5, kb_m100, kb_m10, kb_m9, kb_m8, kb_m7, kb_m6, kb_m5, kb_m4, kb_m3, kb_m2, kb_6, kb_7, kb_8, kb_9, kb_10, kb_12, kb_13, kb_16, kb_27, kb_31, kb_32, kb_43, kb_45, kb_48, kb_57, kb_60, kb_63, kb_81, kb_97, kb_99, kb_100, kb_120, kb_126, ks_m1000, ks_243, ks_255, ks_729, ks_1000, ks_2000, ks_2187, ks_6561, ks_9840, ks_9841, kl_0, kl_1, k0, kp_i, kb7]
    refine hP 2 _ rfl _ _ _ _ _ _ ?_
    simp only [bX9_write_2, hrun, hx, hnth, hput, hok, hcat2, hldI, hldL, hldR, hpI, hpL, hpA, hpR, hp1, hpV, hrtI, hrtL, hrtR, hrtV, hpN, hck, hrI, hrB, hrL, hrA, hwI, hwA, hwB, hrN, hfk, hfs, hrF, hwF, hcl, hfty, tyX1, tyX3, tyX6, tyX9, tyX10, tyJ0, tyJ4, hfit, hcmp, hnar, hres, hst, hacp, kz, kof, kn0, kn1, Bool.not_true, Bool.not_false, true_and, and_true, Nat.zero_add, Nat.reduceAdd, List.length_cons, List.length_nil, true_or, or_true, false_or, or_false, decide_true, decide_false, ne_eq, not_true_eq_false, not_false_eq_true, ki_0, ki_1, ki_2, ki_3, ki_4, ki_5, kb_m100, kb_m10, kb_m9, kb_m8, kb_m7, kb_m6, kb_m5, kb_m4, kb_m3, kb_m2, kb_6, kb_7, kb_8, kb_9, kb_10, kb_12, kb_13, kb_16, kb_27, kb_31, kb_32, kb_43, kb_45, kb_48, kb_57, kb_60, kb_63, kb_81, kb_97, kb_99, kb_100, kb_120, kb_126, ks_m1000, ks_243, ks_255, ks_729, ks_1000, ks_2000, ks_2187, ks_6561, ks_9840, ks_9841, kl_0, kl_1, k0, kp_i, kb7]
    refine c_bSetLength hg (by omega) h7 (fun w1 hb1 hm1 => ?_)
    simp only [hrun, hx, hnth, hput, hok, hcat2, hldI, hldL, hldR, hpI, hpL, hpA, hpR, hp1, hpV, hrtI, hrtL, hrtR, hrtV, hpN, hck, hrI, hrB, hrL, hrA, hwI, hwA, hwB, hrN, hfk, hfs, hrF, hwF, hcl, hfty, tyX1, tyX3, tyX6, tyX9, tyX10, tyJ0, tyJ4, hfit, hcmp, hnar, hres, hst, hacp, kz, kof, kn0, kn1, Bool.not_true, Bool.not_false, true_and, and_true, Nat.zero_add, Nat.reduceAdd, List.length_cons, List.length_nil, true_or, or_true, false_or, or_false, decide_true, decide_false, ne_eq, not_true_eq_false, not_false_eq_true, ki_0, ki_1, ki_2, ki_3, ki_4, ki_5, kb_m100, kb_m10, kb_m9, kb_m8, kb_m7, kb_m6, kb_m5, kb_m4, kb_m3, kb_m2, kb_6, kb_7, kb_8, kb_9, kb_10, kb_12, kb_13, kb_16, kb_27, kb_31, kb_32, kb_43, kb_45, kb_48, kb_57, kb_60, kb_63, kb_81, kb_97, kb_99, kb_100, kb_120, kb_126, ks_m1000, ks_243, ks_255, ks_729, ks_1000, ks_2000, ks_2187, ks_6561, ks_9840, ks_9841, kl_0, kl_1, k0, kp_i, kb7]
    exact loop _ 0 w1 _ _ _ v7 m7 rfl (Nat.zero_le _) hb1 (Or.inl rfl) hv7N ⟨Or.inl ⟨rfl, hm7⟩, hm72, by omega⟩ (by omega) (fun j h1 h2 h3 => hm1 j (by simp; omega))
end W9s
