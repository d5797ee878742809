/-! the law's loop -/
section M46
variable {g : hG} {d : Nat}
/-- the choice of a case -/
def lSw (P : hPt) : Prop := ∀ (N c s : Nat) (w : hWd) (ls : hLs) (m : Nat), m < 64 → (m < 38 → P N c s w (lT m) ls []) → (38 ≤ m → P N c s w 1407 ls []) → P N c s w 32 ls [.int (nI m)]
set_option maxRecDepth 100000 in
set_option maxHeartbeats 4000000 in
theorem law_loop (hg : hgo g) (hd : 40 ≤ d) {P : hPt} (hP : hCl (Γ g d) (some .boolean) tLaw lR P) {L : Nat} {xs : Nat → Int32} (hL : L ≤ 2560) {w0 : hWd} (k0 : w0 1000000 = .inl (10, L, .inl xs)) (hD0 : hDg w0) (hT0 : hTx2 w0) (hsw : lSw P) : ∀ (n i N c s : Nat) (w : hWd) (S : cS), i + 5 * n = 2560 → lIv w0 w N S → N + 20 * n ≤ 20000 → 20 * n ≤ c → 8000 * n ≤ s → P N c s w 18 [some (.ref 1000000), some (.ref 0), some (.ref 47), some (.int (nI i))] [] := by
  intro n
  induction n with
  | zero =>
    intro i N c s w S hin hI hN hc hs
    have kS : w 1000000 = _ := (hI.2.2.2 1000000 (by omega)).trans k0
    have n5 : (nI L - nI 5 < nI i) = True := eq_true ((lw_5 hL (by omega)).mpr (by omega))
    refine hP 1 _ rfl _ _ _ _ _ _ ?_
    simp only [bLaw_1, hrun, hx, hnth, hput, hok, hcat2, hldI, hldL, hldR, hpI, hpL, hpA, hpR, hp1, hpV, hrtI, hrtL, hrtR, hrtV, hpN, hck, hrI, hrB, hrL, hrA, hwI, hwA, hwB, hrN, hfk, hfs, hrF, hwF, hcl, hfty, tyX1, tyX3, tyX6, tyX9, tyX10, tyJ0, tyJ4, hfit, hcmp, hnar, hres, hst, hacp, kz, kof, kn0, kn1, Bool.not_true, Bool.not_false, true_and, and_true, Nat.zero_add, Nat.reduceAdd, List.length_cons, List.length_nil, true_or, or_true, false_or, or_false, decide_true, decide_false, ne_eq, not_true_eq_false, not_false_eq_true, ki_0, ki_1, ki_2, ki_3, ki_4, ki_5, kb_m100, kb_m10, kb_m9, kb_m8, kb_m7, kb_m6, kb_m5, kb_m4, kb_m3, kb_m2, kb_6, kb_7, kb_8, kb_9, kb_10, kb_12, kb_13, kb_16, kb_27, kb_31, kb_32, kb_43, kb_45, kb_48, kb_57, kb_60, kb_63, kb_81, kb_97, kb_99, kb_100, kb_120, kb_126, ks_m1000, ks_243, ks_255, ks_729, ks_1000, ks_2000, ks_2187, ks_6561, ks_9840, ks_9841, kl_0, kl_1, kS, n5]
    refine ⟨fun b23 => ?_, fun b23 => ?_⟩
    · skip
      refine hP 80 _ rfl _ _ _ _ _ _ ?_
      simp only [bLaw_80, hrun, hx, hnth, hput, hok, hcat2, hldI, hldL, hldR, hpI, hpL, hpA, hpR, hp1, hpV, hrtI, hrtL, hrtR, hrtV, hpN, hck, hrI, hrB, hrL, hrA, hwI, hwA, hwB, hrN, hfk, hfs, hrF, hwF, hcl, hfty, tyX1, tyX3, tyX6, tyX9, tyX10, tyJ0, tyJ4, hfit, hcmp, hnar, hres, hst, hacp, kz, kof, kn0, kn1, Bool.not_true, Bool.not_false, true_and, and_true, Nat.zero_add, Nat.reduceAdd, List.length_cons, List.length_nil, true_or, or_true, false_or, or_false, decide_true, decide_false, ne_eq, not_true_eq_false, not_false_eq_true, ki_0, ki_1, ki_2, ki_3, ki_4, ki_5, kb_m100, kb_m10, kb_m9, kb_m8, kb_m7, kb_m6, kb_m5, kb_m4, kb_m3, kb_m2, kb_6, kb_7, kb_8, kb_9, kb_10, kb_12, kb_13, kb_16, kb_27, kb_31, kb_32, kb_43, kb_45, kb_48, kb_57, kb_60, kb_63, kb_81, kb_97, kb_99, kb_100, kb_120, kb_126, ks_m1000, ks_243, ks_255, ks_729, ks_1000, ks_2000, ks_2187, ks_6561, ks_9840, ks_9841, kl_0, kl_1, kS, n5]
      exact rfl
    · skip
      first | exact b23.elim | exact absurd trivial b23
  | succ n ih =>
    intro i N c s w S hin hI hN hc hs
    have kS : w 1000000 = _ := (hI.2.2.2 1000000 (by omega)).trans k0
    by_cases q : L < i + 5
    · have n5 : (nI L - nI 5 < nI i) = True := eq_true ((lw_5 hL (by omega)).mpr q)
      refine hP 1 _ rfl _ _ _ _ _ _ ?_
      simp only [bLaw_1, hrun, hx, hnth, hput, hok, hcat2, hldI, hldL, hldR, hpI, hpL, hpA, hpR, hp1, hpV, hrtI, hrtL, hrtR, hrtV, hpN, hck, hrI, hrB, hrL, hrA, hwI, hwA, hwB, hrN, hfk, hfs, hrF, hwF, hcl, hfty, tyX1, tyX3, tyX6, tyX9, tyX10, tyJ0, tyJ4, hfit, hcmp, hnar, hres, hst, hacp, kz, kof, kn0, kn1, Bool.not_true, Bool.not_false, true_and, and_true, Nat.zero_add, Nat.reduceAdd, List.length_cons, List.length_nil, true_or, or_true, false_or, or_false, decide_true, decide_false, ne_eq, not_true_eq_false, not_false_eq_true, ki_0, ki_1, ki_2, ki_3, ki_4, ki_5, kb_m100, kb_m10, kb_m9, kb_m8, kb_m7, kb_m6, kb_m5, kb_m4, kb_m3, kb_m2, kb_6, kb_7, kb_8, kb_9, kb_10, kb_12, kb_13, kb_16, kb_27, kb_31, kb_32, kb_43, kb_45, kb_48, kb_57, kb_60, kb_63, kb_81, kb_97, kb_99, kb_100, kb_120, kb_126, ks_m1000, ks_243, ks_255, ks_729, ks_1000, ks_2000, ks_2187, ks_6561, ks_9840, ks_9841, kl_0, kl_1, kS, n5]
      refine ⟨fun b23 => ?_, fun b23 => ?_⟩
      · skip
        refine hP 80 _ rfl _ _ _ _ _ _ ?_
        simp only [bLaw_80, hrun, hx, hnth, hput, hok, hcat2, hldI, hldL, hldR, hpI, hpL, hpA, hpR, hp1, hpV, hrtI, hrtL, hrtR, hrtV, hpN, hck, hrI, hrB, hrL, hrA, hwI, hwA, hwB, hrN, hfk, hfs, hrF, hwF, hcl, hfty, tyX1, tyX3, tyX6, tyX9, tyX10, tyJ0, tyJ4, hfit, hcmp, hnar, hres, hst, hacp, kz, kof, kn0, kn1, Bool.not_true, Bool.not_false, true_and, and_true, Nat.zero_add, Nat.reduceAdd, List.length_cons, List.length_nil, true_or, or_true, false_or, or_false, decide_true, decide_false, ne_eq, not_true_eq_false, not_false_eq_true, ki_0, ki_1, ki_2, ki_3, ki_4, ki_5, kb_m100, kb_m10, kb_m9, kb_m8, kb_m7, kb_m6, kb_m5, kb_m4, kb_m3, kb_m2, kb_6, kb_7, kb_8, kb_9, kb_10, kb_12, kb_13, kb_16, kb_27, kb_31, kb_32, kb_43, kb_45, kb_48, kb_57, kb_60, kb_63, kb_81, kb_97, kb_99, kb_100, kb_120, kb_126, ks_m1000, ks_243, ks_255, ks_729, ks_1000, ks_2000, ks_2187, ks_6561, ks_9840, ks_9841, kl_0, kl_1, kS, n5]
        exact rfl
      · skip
        first | exact b23.elim | exact absurd trivial b23
    · have n5 : (nI L - nI 5 < nI i) = False := eq_false (fun z => q ((lw_5 hL (by omega)).mp z))
      have e_i := nI_clamp (n := i) (by omega)
      have tail : ∀ (w' : hWd) (N' c' s' : Nat) (S' : cS), lIv w0 w' N' S' → N' ≤ N + 20 → c ≤ c' + 20 → s ≤ s' + 8000 → P N' c' s' w' 1407 [some (.ref 1000000), some (.ref 0), some (.ref 47), some (.int (nI i))] [] := by
        intro w' N' c' s' S' hI' h1 h2 h3
        refine hP 79 _ rfl _ _ _ _ _ _ ?_
        simp only [bLaw_79, hrun, hx, hnth, hput, hok, hcat2, hldI, hldL, hldR, hpI, hpL, hpA, hpR, hp1, hpV, hrtI, hrtL, hrtR, hrtV, hpN, hck, hrI, hrB, hrL, hrA, hwI, hwA, hwB, hrN, hfk, hfs, hrF, hwF, hcl, hfty, tyX1, tyX3, tyX6, tyX9, tyX10, tyJ0, tyJ4, hfit, hcmp, hnar, hres, hst, hacp, kz, kof, kn0, kn1, Bool.not_true, Bool.not_false, true_and, and_true, Nat.zero_add, Nat.reduceAdd, List.length_cons, List.length_nil, true_or, or_true, false_or, or_false, decide_true, decide_false, ne_eq, not_true_eq_false, not_false_eq_true, ki_0, ki_1, ki_2, ki_3, ki_4, ki_5, kb_m100, kb_m10, kb_m9, kb_m8, kb_m7, kb_m6, kb_m5, kb_m4, kb_m3, kb_m2, kb_6, kb_7, kb_8, kb_9, kb_10, kb_12, kb_13, kb_16, kb_27, kb_31, kb_32, kb_43, kb_45, kb_48, kb_57, kb_60, kb_63, kb_81, kb_97, kb_99, kb_100, kb_120, kb_126, ks_m1000, ks_243, ks_255, ks_729, ks_1000, ks_2000, ks_2187, ks_6561, ks_9840, ks_9841, kl_0, kl_1, nI_add]
        exact ih (i + 5) N' c' s' w' S' (by omega) hI' (by omega) (by omega) (by omega)
      obtain ⟨m, hm, em⟩ := land63 (xs i)
      refine hP 1 _ rfl _ _ _ _ _ _ ?_
      simp only [bLaw_1, hrun, hx, hnth, hput, hok, hcat2, hldI, hldL, hldR, hpI, hpL, hpA, hpR, hp1, hpV, hrtI, hrtL, hrtR, hrtV, hpN, hck, hrI, hrB, hrL, hrA, hwI, hwA, hwB, hrN, hfk, hfs, hrF, hwF, hcl, hfty, tyX1, tyX3, tyX6, tyX9, tyX10, tyJ0, tyJ4, hfit, hcmp, hnar, hres, hst, hacp, kz, kof, kn0, kn1, Bool.not_true, Bool.not_false, true_and, and_true, Nat.zero_add, Nat.reduceAdd, List.length_cons, List.length_nil, true_or, or_true, false_or, or_false, decide_true, decide_false, ne_eq, not_true_eq_false, not_false_eq_true, ki_0, ki_1, ki_2, ki_3, ki_4, ki_5, kb_m100, kb_m10, kb_m9, kb_m8, kb_m7, kb_m6, kb_m5, kb_m4, kb_m3, kb_m2, kb_6, kb_7, kb_8, kb_9, kb_10, kb_12, kb_13, kb_16, kb_27, kb_31, kb_32, kb_43, kb_45, kb_48, kb_57, kb_60, kb_63, kb_81, kb_97, kb_99, kb_100, kb_120, kb_126, ks_m1000, ks_243, ks_255, ks_729, ks_1000, ks_2000, ks_2187, ks_6561, ks_9840, ks_9841, kl_0, kl_1, kS, n5, e_i, em]
      refine ⟨fun b23 => ?_, fun b23 => ?_⟩
      · skip
        exact b23.elim
      · skip
        refine hP 2 _ rfl _ _ _ _ _ _ ?_
        simp only [bLaw_2, hrun, hx, hnth, hput, hok, hcat2, hldI, hldL, hldR, hpI, hpL, hpA, hpR, hp1, hpV, hrtI, hrtL, hrtR, hrtV, hpN, hck, hrI, hrB, hrL, hrA, hwI, hwA, hwB, hrN, hfk, hfs, hrF, hwF, hcl, hfty, tyX1, tyX3, tyX6, tyX9, tyX10, tyJ0, tyJ4, hfit, hcmp, hnar, hres, hst, hacp, kz, kof, kn0, kn1, Bool.not_true, Bool.not_false, true_and, and_true, Nat.zero_add, Nat.reduceAdd, List.length_cons, List.length_nil, true_or, or_true, false_or, or_false, decide_true, decide_false, ne_eq, not_true_eq_false, not_false_eq_true, ki_0, ki_1, ki_2, ki_3, ki_4, ki_5, kb_m100, kb_m10, kb_m9, kb_m8, kb_m7, kb_m6, kb_m5, kb_m4, kb_m3, kb_m2, kb_6, kb_7, kb_8, kb_9, kb_10, kb_12, kb_13, kb_16, kb_27, kb_31, kb_32, kb_43, kb_45, kb_48, kb_57, kb_60, kb_63, kb_81, kb_97, kb_99, kb_100, kb_120, kb_126, ks_m1000, ks_243, ks_255, ks_729, ks_1000, ks_2000, ks_2187, ks_6561, ks_9840, ks_9841, kl_0, kl_1, kS, n5, e_i, em]
        refine ⟨vp_in_nI (by omega) (by omega), ?_⟩
        refine hsw _ _ _ _ _ m hm (fun hlt => ?_) (fun _ => tail _ _ _ _ _ hI (by omega) (by omega) (by omega))
        rcases (show m = 0 ∨ m = 1 ∨ m = 2 ∨ m = 3 ∨ m = 4 ∨ m = 5 ∨ m = 6 ∨ m = 7 ∨ m = 8 ∨ m = 9 ∨ m = 10 ∨ m = 11 ∨ m = 12 ∨ m = 13 ∨ m = 14 ∨ m = 15 ∨ m = 16 ∨ m = 17 ∨ m = 18 ∨ m = 19 ∨ m = 20 ∨ m = 21 ∨ m = 22 ∨ m = 23 ∨ m = 24 ∨ m = 25 ∨ m = 26 ∨ m = 27 ∨ m = 28 ∨ m = 29 ∨ m = 30 ∨ m = 31 ∨ m = 32 ∨ m = 33 ∨ m = 34 ∨ m = 35 ∨ m = 36 ∨ m = 37 by omega) with rfl | rfl | rfl | rfl | rfl | rfl | rfl | rfl | rfl | rfl | rfl | rfl | rfl | rfl | rfl | rfl | rfl | rfl | rfl | rfl | rfl | rfl | rfl | rfl | rfl | rfl | rfl | rfl | rfl | rfl | rfl | rfl | rfl | rfl | rfl | rfl | rfl | rfl
        · exact law_0 hg hd hP hL k0 hD0 hT0 hI (by omega) (by omega) (by omega) (by omega) tail
        · exact law_1 hg hd hP hL k0 hD0 hT0 hI (by omega) (by omega) (by omega) (by omega) tail
        · exact law_2 hg hd hP hL k0 hD0 hT0 hI (by omega) (by omega) (by omega) (by omega) tail
        · exact law_3 hg hd hP hL k0 hD0 hT0 hI (by omega) (by omega) (by omega) (by omega) tail
        · exact law_4 hg hd hP hL k0 hD0 hT0 hI (by omega) (by omega) (by omega) (by omega) tail
        · exact law_5 hg hd hP hL k0 hD0 hT0 hI (by omega) (by omega) (by omega) (by omega) tail
        · exact law_6 hg hd hP hL k0 hD0 hT0 hI (by omega) (by omega) (by omega) (by omega) tail
        · exact law_7 hg hd hP hL k0 hD0 hT0 hI (by omega) (by omega) (by omega) (by omega) tail
        · exact law_8 hg hd hP hL k0 hD0 hT0 hI (by omega) (by omega) (by omega) (by omega) tail
        · exact law_9 hg hd hP hL k0 hD0 hT0 hI (by omega) (by omega) (by omega) (by omega) tail
        · exact law_10 hg hd hP hL k0 hD0 hT0 hI (by omega) (by omega) (by omega) (by omega) tail
        · exact law_11 hg hd hP hL k0 hD0 hT0 hI (by omega) (by omega) (by omega) (by omega) tail
        · exact law_12 hg hd hP hL k0 hD0 hT0 hI (by omega) (by omega) (by omega) (by omega) tail
        · exact law_13 hg hd hP hL k0 hD0 hT0 hI (by omega) (by omega) (by omega) (by omega) tail
        · exact law_14 hg hd hP hL k0 hD0 hT0 hI (by omega) (by omega) (by omega) (by omega) tail
        · exact law_15 hg hd hP hL k0 hD0 hT0 hI (by omega) (by omega) (by omega) (by omega) tail
        · exact law_16 hg hd hP hL k0 hD0 hT0 hI (by omega) (by omega) (by omega) (by omega) tail
        · exact law_17 hg hd hP hL k0 hD0 hT0 hI (by omega) (by omega) (by omega) (by omega) tail
        · exact law_18 hg hd hP hL k0 hD0 hT0 hI (by omega) (by omega) (by omega) (by omega) tail
        · exact law_19 hg hd hP hL k0 hD0 hT0 hI (by omega) (by omega) (by omega) (by omega) tail
        · exact law_20 hg hd hP hL k0 hD0 hT0 hI (by omega) (by omega) (by omega) (by omega) tail
        · exact law_21 hg hd hP hL k0 hD0 hT0 hI (by omega) (by omega) (by omega) (by omega) tail
        · exact law_22 hg hd hP hL k0 hD0 hT0 hI (by omega) (by omega) (by omega) (by omega) tail
        · exact law_23 hg hd hP hL k0 hD0 hT0 hI (by omega) (by omega) (by omega) (by omega) tail
        · exact law_24 hg hd hP hL k0 hD0 hT0 hI (by omega) (by omega) (by omega) (by omega) tail
        · exact law_25 hg hd hP hL k0 hD0 hT0 hI (by omega) (by omega) (by omega) (by omega) tail
        · exact law_26 hg hd hP hL k0 hD0 hT0 hI (by omega) (by omega) (by omega) (by omega) tail
        · exact law_27 hg hd hP hL k0 hD0 hT0 hI (by omega) (by omega) (by omega) (by omega) tail
        · exact law_28 hg hd hP hL k0 hD0 hT0 hI (by omega) (by omega) (by omega) (by omega) tail
        · exact law_29 hg hd hP hL k0 hD0 hT0 hI (by omega) (by omega) (by omega) (by omega) tail
        · exact law_30 hg hd hP hL k0 hD0 hT0 hI (by omega) (by omega) (by omega) (by omega) tail
        · exact law_31 hg hd hP hL k0 hD0 hT0 hI (by omega) (by omega) (by omega) (by omega) tail
        · exact law_32 hg hd hP hL k0 hD0 hT0 hI (by omega) (by omega) (by omega) (by omega) tail
        · exact law_33 hg hd hP hL k0 hD0 hT0 hI (by omega) (by omega) (by omega) (by omega) tail
        · exact law_34 hg hd hP hL k0 hD0 hT0 hI (by omega) (by omega) (by omega) (by omega) tail
        · exact law_35 hg hd hP hL k0 hD0 hT0 hI (by omega) (by omega) (by omega) (by omega) tail
        · exact law_36 hg hd hP hL k0 hD0 hT0 hI (by omega) (by omega) (by omega) (by omega) tail
        · exact law_37 hg hd hP hL k0 hD0 hT0 hI (by omega) (by omega) (by omega) (by omega) tail
end M46
