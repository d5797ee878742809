/-! the law's cases -/
section M45
variable {g : hG} {d : Nat}
theorem hX.cl0 {w : hWd} {S : cS} (h : hX w S) : ∃ fs, w 0 = .inr (5, fs) := ⟨_, h.1⟩
theorem hY.cl47 {w : hWd} {S : cS} (h : hY w S) : ∃ fs, w 47 = .inr (6, fs) := by
  obtain ⟨⟨⟨ls, ⟨ml, ns, at9, k0⟩, _⟩, _⟩, _⟩ := h
  exact ⟨_, k0⟩
theorem hSc.fr {w w' : hWd} {q v : Nat} {t : List Nat} (h : hSc w q v t) (e1 : w' q = w q) (e2 : w' v = w v) : hSc w' q v t := by
  obtain ⟨a, F, b, c, z⟩ := h
  exact ⟨a, F, e1.trans b, e2.trans c, z⟩
theorem hTx2.fr {w w' : hWd} (h : hTx2 w) (e : ∀ j, 1000000 ≤ j → w' j = w j) : hTx2 w' := fun j hj => by
  obtain ⟨v, hv9, z⟩ := h j hj
  exact ⟨v, hv9, z.fr (e _ (by omega)) (e _ hv9)⟩
theorem hTx2.s {w : hWd} (h : hTx2 w) : hTxs w := fun j hj => by
  obtain ⟨v, _, z⟩ := h j hj
  exact ⟨v, z⟩
theorem hDg.fr {w w' : hWd} (h : hDg w) (e : ∀ j, 1000000 ≤ j → w' j = w j) : hDg w' := ⟨(e _ (by omega)).trans h.1, (e _ (by omega)).trans h.2⟩
/-- what the law keeps from call to call -/
def lIv (w0 w : hWd) (N : Nat) (S : cS) : Prop := hX w S ∧ hTB w N S ∧ hY w S ∧ ∀ j, 1000000 ≤ j → w j = w0 j
theorem lIv.st {w0 w w1 w2 : hWd} {N : Nat} {S S1 : cS} (h : lIv w0 w N S) (hX1 : hX w1 S1) (hm1 : nfr w w1) (hY2 : hY w2 S1) (hm2 : mfy w1 w2) (e : S1.inp = S.inp ∧ S1.out = S.out) : lIv w0 w2 N S1 :=
  ⟨hX1.my hm2, (h.2.1.nf hm1 e.1 e.2).my hm2, hY2, fun j hj => (hm2 j (by omega)).trans ((hm1 j (by omega)).trans (h.2.2.2 j hj))⟩
theorem lIv.tx {w0 w w1 w2 : hWd} {N N1 : Nat} {S S1 : cS} (h : lIv w0 w N S) (hX1 : hX w1 S1) (hB1 : hTB w1 N1 S1) (hm1 : tfr w w1) (hY2 : hY w2 S1) (hm2 : mfy w1 w2) : lIv w0 w2 N1 S1 :=
  ⟨hX1.my hm2, hB1.my hm2, hY2, fun j hj => (hm2 j (by omega)).trans ((hm1 j (by omega)).trans (h.2.2.2 j hj))⟩
theorem lIv.nt {w0 w w2 : hWd} {N : Nat} {S S1 : cS} (h : lIv w0 w N S) (hY2 : hY w2 S1) (hm2 : mfy w w2) (e : S1 = S) : lIv w0 w2 N S1 := by
  subst e
  exact ⟨h.1.my hm2, h.2.1.my hm2, hY2, fun j hj => (hm2 j (by omega)).trans (h.2.2.2 j hj)⟩
def lR : hRt := fun r _ _ _ _ => r = some (.int (nI 1))
theorem lw_5 {L i : Nat} (hL : L ≤ 2560) (hi : i ≤ 2560) : (nI L - nI 5 < nI i) ↔ L < i + 5 := by
  rw [Int32.lt_iff_toInt_lt, pk_sub_toInt (by omega) (by omega), nI_toInt (by omega)]
  omega
theorem land63 (x : Int32) : ∃ m, m < 64 ∧ x &&& nI 63 = nI m := by
  refine ⟨(x &&& nI 63).toBitVec.toNat, ?_, ?_⟩
  · rw [Int32.toBitVec_and, BitVec.toNat_and]
    have : (nI 63).toBitVec.toNat = 63 := by decide +kernel
    rw [this]
    exact Nat.and_lt_two_pow _ (by decide : 63 < 2 ^ 6)
  · apply Int32.toBitVec_inj.mp
    show _ = BitVec.ofNat 32 _
    rw [BitVec.ofNat_toNat, BitVec.setWidth_eq]
theorem sp_appendLetter_t {S : cS} {x y : Int32} : (sp_appendLetter S x y).2.inp = S.inp ∧ (sp_appendLetter S x y).2.out = S.out := by
  unfold sp_appendLetter
  repeat' split
  all_goals exact ⟨rfl, rfl⟩
theorem sp_clearWord_t {S : cS} {x : Int32} : (sp_clearWord S x).2.inp = S.inp ∧ (sp_clearWord S x).2.out = S.out := by
  unfold sp_clearWord
  repeat' split
  all_goals exact ⟨rfl, rfl⟩
theorem sp_wordLength_t {S : cS} {x : Int32} : (sp_wordLength S x).2.inp = S.inp ∧ (sp_wordLength S x).2.out = S.out := by
  unfold sp_wordLength
  repeat' split
  all_goals exact ⟨rfl, rfl⟩
theorem sp_wordLetter_t {S : cS} {x y : Int32} : (sp_wordLetter S x y).2.inp = S.inp ∧ (sp_wordLetter S x y).2.out = S.out := by
  unfold sp_wordLetter
  repeat' split
  all_goals exact ⟨rfl, rfl⟩
theorem sp_reverseWord_t {S : cS} {x y : Int32} : (sp_reverseWord S x y).2.inp = S.inp ∧ (sp_reverseWord S x y).2.out = S.out := by
  unfold sp_reverseWord
  repeat' split
  all_goals exact ⟨rfl, rfl⟩
theorem sp_subwordCount_t {S : cS} {x y : Int32} : (sp_subwordCount S x y).2.inp = S.inp ∧ (sp_subwordCount S x y).2.out = S.out := by
  unfold sp_subwordCount
  repeat' split
  all_goals exact ⟨rfl, rfl⟩
theorem sp_cover_t {o : Nat} {S : cS} {x y z : Int32} : (sp_cover o S x y z).2.inp = S.inp ∧ (sp_cover o S x y z).2.out = S.out := by
  unfold sp_cover
  repeat' split
  all_goals exact ⟨rfl, rfl⟩
theorem sp_isLyndon_t {S : cS} {x : Int32} : (sp_isLyndon S x).2.inp = S.inp ∧ (sp_isLyndon S x).2.out = S.out := by
  unfold sp_isLyndon
  repeat' split
  all_goals exact ⟨rfl, rfl⟩
theorem sp_factorCount_t {S : cS} {x : Int32} : (sp_factorCount S x).2.inp = S.inp ∧ (sp_factorCount S x).2.out = S.out := by
  unfold sp_factorCount
  repeat' split
  all_goals exact ⟨rfl, rfl⟩
theorem sp_factorStart_t {S : cS} {x y : Int32} : (sp_factorStart S x y).2.inp = S.inp ∧ (sp_factorStart S x y).2.out = S.out := by
  unfold sp_factorStart
  repeat' split
  all_goals exact ⟨rfl, rfl⟩
theorem sp_nextLyndon_t {S : cS} {x y : Int32} : (sp_nextLyndon S x y).2.inp = S.inp ∧ (sp_nextLyndon S x y).2.out = S.out := by
  unfold sp_nextLyndon
  repeat' split
  all_goals exact ⟨rfl, rfl⟩
theorem sp_lyndonCount_t {S : cS} {x : Int32} : (sp_lyndonCount S x).2.inp = S.inp ∧ (sp_lyndonCount S x).2.out = S.out := by
  unfold sp_lyndonCount
  repeat' split
  all_goals exact ⟨rfl, rfl⟩
theorem sp_bracket_t {S : cS} {x y : Int32} : (sp_bracket S x y).2.inp = S.inp ∧ (sp_bracket S x y).2.out = S.out := by
  unfold sp_bracket
  repeat' split
  all_goals exact ⟨rfl, rfl⟩
theorem sp_basis_t {S : cS} {x y : Int32} : (sp_basis S x y).2.inp = S.inp ∧ (sp_basis S x y).2.out = S.out := by
  unfold sp_basis
  repeat' split
  all_goals exact ⟨rfl, rfl⟩
theorem sp_clearPolynomial_t {S : cS} {x : Int32} : (sp_clearPolynomial S x).2.inp = S.inp ∧ (sp_clearPolynomial S x).2.out = S.out := by
  unfold sp_clearPolynomial
  repeat' split
  all_goals exact ⟨rfl, rfl⟩
theorem sp_addTerm_t {S : cS} {x y z : Int32} : (sp_addTerm S x y z).2.inp = S.inp ∧ (sp_addTerm S x y z).2.out = S.out := by
  unfold sp_addTerm
  repeat' split
  all_goals exact ⟨rfl, rfl⟩
theorem sp_coefficient_t {S : cS} {x y : Int32} : (sp_coefficient S x y).2.inp = S.inp ∧ (sp_coefficient S x y).2.out = S.out := by
  unfold sp_coefficient
  repeat' split
  all_goals exact ⟨rfl, rfl⟩
theorem sp_termCount_t {S : cS} {x : Int32} : (sp_termCount S x).2.inp = S.inp ∧ (sp_termCount S x).2.out = S.out := by
  unfold sp_termCount
  repeat' split
  all_goals exact ⟨rfl, rfl⟩
theorem sp_termLength_t {S : cS} {x y : Int32} : (sp_termLength S x y).2.inp = S.inp ∧ (sp_termLength S x y).2.out = S.out := by
  unfold sp_termLength
  repeat' split
  all_goals exact ⟨rfl, rfl⟩
theorem sp_termLetter_t {S : cS} {x y z : Int32} : (sp_termLetter S x y z).2.inp = S.inp ∧ (sp_termLetter S x y z).2.out = S.out := by
  unfold sp_termLetter
  repeat' split
  all_goals exact ⟨rfl, rfl⟩
theorem sp_termCoefficient_t {S : cS} {x y : Int32} : (sp_termCoefficient S x y).2.inp = S.inp ∧ (sp_termCoefficient S x y).2.out = S.out := by
  unfold sp_termCoefficient
  repeat' split
  all_goals exact ⟨rfl, rfl⟩
theorem sp_add_t {S : cS} {x y z : Int32} : (sp_add S x y z).2.inp = S.inp ∧ (sp_add S x y z).2.out = S.out := by
  unfold sp_add
  repeat' split
  all_goals exact ⟨rfl, rfl⟩
theorem sp_scale_t {S : cS} {x y z : Int32} : (sp_scale S x y z).2.inp = S.inp ∧ (sp_scale S x y z).2.out = S.out := by
  unfold sp_scale
  repeat' split
  all_goals exact ⟨rfl, rfl⟩
theorem sp_multiply_t {S : cS} {x y z u : Int32} : (sp_multiply S x y z u).2.inp = S.inp ∧ (sp_multiply S x y z u).2.out = S.out := by
  unfold sp_multiply
  repeat' split
  all_goals exact ⟨rfl, rfl⟩
theorem sp_antipode_t {S : cS} {x y : Int32} : (sp_antipode S x y).2.inp = S.inp ∧ (sp_antipode S x y).2.out = S.out := by
  unfold sp_antipode
  repeat' split
  all_goals exact ⟨rfl, rfl⟩
theorem sp_residual_t {S : cS} {x y z u : Int32} : (sp_residual S x y z u).2.inp = S.inp ∧ (sp_residual S x y z u).2.out = S.out := by
  unfold sp_residual
  repeat' split
  all_goals exact ⟨rfl, rfl⟩
theorem sp_derive_t {S : cS} {x y z : Int32} : (sp_derive S x y z).2.inp = S.inp ∧ (sp_derive S x y z).2.out = S.out := by
  unfold sp_derive
  repeat' split
  all_goals exact ⟨rfl, rfl⟩
theorem sp_pair_t {S : cS} {x y : Int32} : (sp_pair S x y).2.inp = S.inp ∧ (sp_pair S x y).2.out = S.out := by
  unfold sp_pair
  repeat' split
  all_goals exact ⟨rfl, rfl⟩
theorem sp_coordinates_t {S : cS} {x y : Int32} : (sp_coordinates S x y).2.inp = S.inp ∧ (sp_coordinates S x y).2.out = S.out := by
  unfold sp_coordinates
  repeat' split
  all_goals exact ⟨rfl, rfl⟩
theorem sp_isLie_t {S : cS} {x : Int32} : (sp_isLie S x).2.inp = S.inp ∧ (sp_isLie S x).2.out = S.out := by
  unfold sp_isLie
  repeat' split
  all_goals exact ⟨rfl, rfl⟩
theorem sp_save_t {S : cS} : (sp_save S ).2.inp = S.inp ∧ (sp_save S ).2.out = S.out := by
  unfold sp_save
  repeat' split
  all_goals exact ⟨rfl, rfl⟩
theorem sp_restore_t {S : cS} : (sp_restore S ).2.inp = S.inp ∧ (sp_restore S ).2.out = S.out := by
  unfold sp_restore
  repeat' split
  all_goals exact ⟨rfl, rfl⟩
theorem sp_outputCharacter_s {S : cS} {x : Int32} : (sp_outputCharacter S x).2 = S := by
  unfold sp_outputCharacter
  repeat' split
  all_goals rfl
set_option maxRecDepth 100000 in
set_option maxHeartbeats 4000000 in
theorem law_0 (hg : hgo g) (hd : 40 ≤ d) {P : hPt} (hP : hCl (Γ g d) (some .boolean) tLaw lR P) {L : Nat} {xs : Nat → Int32} (hL : L ≤ 2560) {w0 : hWd} (k0 : w0 1000000 = .inl (10, L, .inl xs)) (hD0 : hDg w0) (hT0 : hTx2 w0) {i N c s : Nat} {w : hWd} {S : cS} (hI : lIv w0 w N S) (hi : i + 5 ≤ L) (hN : N ≤ 800000) (hc : 20 ≤ c) (hs : 8000 ≤ s) (h : ∀ w' N' c' s' S', lIv w0 w' N' S' → N' ≤ N + 20 → c ≤ c' + 20 → s ≤ s' + 8000 → P N' c' s' w' 1407 [some (.ref 1000000), some (.ref 0), some (.ref 47), some (.int (nI i))] []) : P N c s w 200 [some (.ref 1000000), some (.ref 0), some (.ref 47), some (.int (nI i))] [] := by
  have kS : w 1000000 = _ := (hI.2.2.2 1000000 (by omega)).trans k0
  obtain ⟨fs0, k00⟩ := hI.1.cl0
  refine hP 3 _ rfl _ _ _ _ _ _ ?_
  simp only [bLaw_3, hrun, hx, hnth, hput, hok, hcat2, hldI, hldL, hldR, hpI, hpL, hpA, hpR, hp1, hpV, hrtI, hrtL, hrtR, hrtV, hpN, hck, hrI, hrB, hrL, hrA, hwI, hwA, hwB, hrN, hfk, hfs, hrF, hwF, hcl, hfty, tyX1, tyX3, tyX6, tyX9, tyX10, tyJ0, tyJ4, hfit, hcmp, hnar, hres, hst, hacp, kz, kof, kn0, kn1, Bool.not_true, Bool.not_false, true_and, and_true, Nat.zero_add, Nat.reduceAdd, List.length_cons, List.length_nil, true_or, or_true, false_or, or_false, decide_true, decide_false, ne_eq, not_true_eq_false, not_false_eq_true, ki_0, ki_1, ki_2, ki_3, ki_4, ki_5, kb_m100, kb_m10, kb_m9, kb_m8, kb_m7, kb_m6, kb_m5, kb_m4, kb_m3, kb_m2, kb_6, kb_7, kb_8, kb_9, kb_10, kb_12, kb_13, kb_16, kb_27, kb_31, kb_32, kb_43, kb_45, kb_48, kb_57, kb_60, kb_63, kb_81, kb_97, kb_99, kb_100, kb_120, kb_126, ks_m1000, ks_243, ks_255, ks_729, ks_1000, ks_2000, ks_2187, ks_6561, ks_9840, ks_9841, kl_0, kl_1, kS, k00, nI_add]
  refine ⟨vp_in_nI (by omega) (by omega), ?_⟩
  refine ⟨vp_in_nI (by omega) (by omega), ?_⟩
  refine c_appendLetter hg (by omega) hI.1 (fun w1 hX1 hm1 => ?_)
  have hY1 := hI.2.2.1.t hm1.t
  have zS1 : w1 1000000 = _ := (hm1 _ (by omega)).trans kS
  obtain ⟨fs1, k471⟩ := hY1.cl47
  simp only [hrun, hx, hnth, hput, hok, hcat2, hldI, hldL, hldR, hpI, hpL, hpA, hpR, hp1, hpV, hrtI, hrtL, hrtR, hrtV, hpN, hck, hrI, hrB, hrL, hrA, hwI, hwA, hwB, hrN, hfk, hfs, hrF, hwF, hcl, hfty, tyX1, tyX3, tyX6, tyX9, tyX10, tyJ0, tyJ4, hfit, hcmp, hnar, hres, hst, hacp, kz, kof, kn0, kn1, Bool.not_true, Bool.not_false, true_and, and_true, Nat.zero_add, Nat.reduceAdd, List.length_cons, List.length_nil, true_or, or_true, false_or, or_false, decide_true, decide_false, ne_eq, not_true_eq_false, not_false_eq_true, ki_0, ki_1, ki_2, ki_3, ki_4, ki_5, kb_m100, kb_m10, kb_m9, kb_m8, kb_m7, kb_m6, kb_m5, kb_m4, kb_m3, kb_m2, kb_6, kb_7, kb_8, kb_9, kb_10, kb_12, kb_13, kb_16, kb_27, kb_31, kb_32, kb_43, kb_45, kb_48, kb_57, kb_60, kb_63, kb_81, kb_97, kb_99, kb_100, kb_120, kb_126, ks_m1000, ks_243, ks_255, ks_729, ks_1000, ks_2000, ks_2187, ks_6561, ks_9840, ks_9841, kl_0, kl_1, kS, k00, nI_add, zS1, k471]
  refine ⟨vp_in_nI (by omega) (by omega), ?_⟩
  refine ⟨vp_in_nI (by omega) (by omega), ?_⟩
  refine c_m_appendLetter hg (by omega) hY1 (fun w2 hY2 hm2 => ?_)
  simp only [hrun, hx, hnth, hput, hok, hcat2, hldI, hldL, hldR, hpI, hpL, hpA, hpR, hp1, hpV, hrtI, hrtL, hrtR, hrtV, hpN, hck, hrI, hrB, hrL, hrA, hwI, hwA, hwB, hrN, hfk, hfs, hrF, hwF, hcl, hfty, tyX1, tyX3, tyX6, tyX9, tyX10, tyJ0, tyJ4, hfit, hcmp, hnar, hres, hst, hacp, kz, kof, kn0, kn1, Bool.not_true, Bool.not_false, true_and, and_true, Nat.zero_add, Nat.reduceAdd, List.length_cons, List.length_nil, true_or, or_true, false_or, or_false, decide_true, decide_false, ne_eq, not_true_eq_false, not_false_eq_true, ki_0, ki_1, ki_2, ki_3, ki_4, ki_5, kb_m100, kb_m10, kb_m9, kb_m8, kb_m7, kb_m6, kb_m5, kb_m4, kb_m3, kb_m2, kb_6, kb_7, kb_8, kb_9, kb_10, kb_12, kb_13, kb_16, kb_27, kb_31, kb_32, kb_43, kb_45, kb_48, kb_57, kb_60, kb_63, kb_81, kb_97, kb_99, kb_100, kb_120, kb_126, ks_m1000, ks_243, ks_255, ks_729, ks_1000, ks_2000, ks_2187, ks_6561, ks_9840, ks_9841, kl_0, kl_1, kS, k00, nI_add]
  refine ⟨fun b228 => ?_, fun b228 => ?_⟩
  · skip
    exact h w2 _ _ _ _ (hI.st hX1 hm1 hY2 hm2 sp_appendLetter_t) (by omega) (by omega) (by omega)
  · skip
    first | exact b228.elim | exact absurd rfl b228 | exact absurd ((lcmp_eq _ _).mpr rfl) b228
set_option maxRecDepth 100000 in
set_option maxHeartbeats 4000000 in
theorem law_1 (hg : hgo g) (hd : 40 ≤ d) {P : hPt} (hP : hCl (Γ g d) (some .boolean) tLaw lR P) {L : Nat} {xs : Nat → Int32} (hL : L ≤ 2560) {w0 : hWd} (k0 : w0 1000000 = .inl (10, L, .inl xs)) (hD0 : hDg w0) (hT0 : hTx2 w0) {i N c s : Nat} {w : hWd} {S : cS} (hI : lIv w0 w N S) (hi : i + 5 ≤ L) (hN : N ≤ 800000) (hc : 20 ≤ c) (hs : 8000 ≤ s) (h : ∀ w' N' c' s' S', lIv w0 w' N' S' → N' ≤ N + 20 → c ≤ c' + 20 → s ≤ s' + 8000 → P N' c' s' w' 1407 [some (.ref 1000000), some (.ref 0), some (.ref 47), some (.int (nI i))] []) : P N c s w 233 [some (.ref 1000000), some (.ref 0), some (.ref 47), some (.int (nI i))] [] := by
  have kS : w 1000000 = _ := (hI.2.2.2 1000000 (by omega)).trans k0
  obtain ⟨fs0, k00⟩ := hI.1.cl0
  refine hP 5 _ rfl _ _ _ _ _ _ ?_
  simp only [bLaw_5, hrun, hx, hnth, hput, hok, hcat2, hldI, hldL, hldR, hpI, hpL, hpA, hpR, hp1, hpV, hrtI, hrtL, hrtR, hrtV, hpN, hck, hrI, hrB, hrL, hrA, hwI, hwA, hwB, hrN, hfk, hfs, hrF, hwF, hcl, hfty, tyX1, tyX3, tyX6, tyX9, tyX10, tyJ0, tyJ4, hfit, hcmp, hnar, hres, hst, hacp, kz, kof, kn0, kn1, Bool.not_true, Bool.not_false, true_and, and_true, Nat.zero_add, Nat.reduceAdd, List.length_cons, List.length_nil, true_or, or_true, false_or, or_false, decide_true, decide_false, ne_eq, not_true_eq_false, not_false_eq_true, ki_0, ki_1, ki_2, ki_3, ki_4, ki_5, kb_m100, kb_m10, kb_m9, kb_m8, kb_m7, kb_m6, kb_m5, kb_m4, kb_m3, kb_m2, kb_6, kb_7, kb_8, kb_9, kb_10, kb_12, kb_13, kb_16, kb_27, kb_31, kb_32, kb_43, kb_45, kb_48, kb_57, kb_60, kb_63, kb_81, kb_97, kb_99, kb_100, kb_120, kb_126, ks_m1000, ks_243, ks_255, ks_729, ks_1000, ks_2000, ks_2187, ks_6561, ks_9840, ks_9841, kl_0, kl_1, kS, k00, nI_add]
  refine ⟨vp_in_nI (by omega) (by omega), ?_⟩
  refine c_clearWord hg (by omega) hI.1 (fun w1 hX1 hm1 => ?_)
  have hY1 := hI.2.2.1.t hm1.t
  have zS1 : w1 1000000 = _ := (hm1 _ (by omega)).trans kS
  obtain ⟨fs1, k471⟩ := hY1.cl47
  simp only [hrun, hx, hnth, hput, hok, hcat2, hldI, hldL, hldR, hpI, hpL, hpA, hpR, hp1, hpV, hrtI, hrtL, hrtR, hrtV, hpN, hck, hrI, hrB, hrL, hrA, hwI, hwA, hwB, hrN, hfk, hfs, hrF, hwF, hcl, hfty, tyX1, tyX3, tyX6, tyX9, tyX10, tyJ0, tyJ4, hfit, hcmp, hnar, hres, hst, hacp, kz, kof, kn0, kn1, Bool.not_true, Bool.not_false, true_and, and_true, Nat.zero_add, Nat.reduceAdd, List.length_cons, List.length_nil, true_or, or_true, false_or, or_false, decide_true, decide_false, ne_eq, not_true_eq_false, not_false_eq_true, ki_0, ki_1, ki_2, ki_3, ki_4, ki_5, kb_m100, kb_m10, kb_m9, kb_m8, kb_m7, kb_m6, kb_m5, kb_m4, kb_m3, kb_m2, kb_6, kb_7, kb_8, kb_9, kb_10, kb_12, kb_13, kb_16, kb_27, kb_31, kb_32, kb_43, kb_45, kb_48, kb_57, kb_60, kb_63, kb_81, kb_97, kb_99, kb_100, kb_120, kb_126, ks_m1000, ks_243, ks_255, ks_729, ks_1000, ks_2000, ks_2187, ks_6561, ks_9840, ks_9841, kl_0, kl_1, kS, k00, nI_add, zS1, k471]
  refine ⟨vp_in_nI (by omega) (by omega), ?_⟩
  refine c_m_clearWord hg (by omega) hY1 (fun w2 hY2 hm2 => ?_)
  simp only [hrun, hx, hnth, hput, hok, hcat2, hldI, hldL, hldR, hpI, hpL, hpA, hpR, hp1, hpV, hrtI, hrtL, hrtR, hrtV, hpN, hck, hrI, hrB, hrL, hrA, hwI, hwA, hwB, hrN, hfk, hfs, hrF, hwF, hcl, hfty, tyX1, tyX3, tyX6, tyX9, tyX10, tyJ0, tyJ4, hfit, hcmp, hnar, hres, hst, hacp, kz, kof, kn0, kn1, Bool.not_true, Bool.not_false, true_and, and_true, Nat.zero_add, Nat.reduceAdd, List.length_cons, List.length_nil, true_or, or_true, false_or, or_false, decide_true, decide_false, ne_eq, not_true_eq_false, not_false_eq_true, ki_0, ki_1, ki_2, ki_3, ki_4, ki_5, kb_m100, kb_m10, kb_m9, kb_m8, kb_m7, kb_m6, kb_m5, kb_m4, kb_m3, kb_m2, kb_6, kb_7, kb_8, kb_9, kb_10, kb_12, kb_13, kb_16, kb_27, kb_31, kb_32, kb_43, kb_45, kb_48, kb_57, kb_60, kb_63, kb_81, kb_97, kb_99, kb_100, kb_120, kb_126, ks_m1000, ks_243, ks_255, ks_729, ks_1000, ks_2000, ks_2187, ks_6561, ks_9840, ks_9841, kl_0, kl_1, kS, k00, nI_add]
  refine ⟨fun b251 => ?_, fun b251 => ?_⟩
  · skip
    exact h w2 _ _ _ _ (hI.st hX1 hm1 hY2 hm2 sp_clearWord_t) (by omega) (by omega) (by omega)
  · skip
    first | exact b251.elim | exact absurd rfl b251 | exact absurd ((lcmp_eq _ _).mpr rfl) b251
set_option maxRecDepth 100000 in
set_option maxHeartbeats 4000000 in
theorem law_2 (hg : hgo g) (hd : 40 ≤ d) {P : hPt} (hP : hCl (Γ g d) (some .boolean) tLaw lR P) {L : Nat} {xs : Nat → Int32} (hL : L ≤ 2560) {w0 : hWd} (k0 : w0 1000000 = .inl (10, L, .inl xs)) (hD0 : hDg w0) (hT0 : hTx2 w0) {i N c s : Nat} {w : hWd} {S : cS} (hI : lIv w0 w N S) (hi : i + 5 ≤ L) (hN : N ≤ 800000) (hc : 20 ≤ c) (hs : 8000 ≤ s) (h : ∀ w' N' c' s' S', lIv w0 w' N' S' → N' ≤ N + 20 → c ≤ c' + 20 → s ≤ s' + 8000 → P N' c' s' w' 1407 [some (.ref 1000000), some (.ref 0), some (.ref 47), some (.int (nI i))] []) : P N c s w 256 [some (.ref 1000000), some (.ref 0), some (.ref 47), some (.int (nI i))] [] := by
  have kS : w 1000000 = _ := (hI.2.2.2 1000000 (by omega)).trans k0
  obtain ⟨fs0, k00⟩ := hI.1.cl0
  refine hP 7 _ rfl _ _ _ _ _ _ ?_
  simp only [bLaw_7, hrun, hx, hnth, hput, hok, hcat2, hldI, hldL, hldR, hpI, hpL, hpA, hpR, hp1, hpV, hrtI, hrtL, hrtR, hrtV, hpN, hck, hrI, hrB, hrL, hrA, hwI, hwA, hwB, hrN, hfk, hfs, hrF, hwF, hcl, hfty, tyX1, tyX3, tyX6, tyX9, tyX10, tyJ0, tyJ4, hfit, hcmp, hnar, hres, hst, hacp, kz, kof, kn0, kn1, Bool.not_true, Bool.not_false, true_and, and_true, Nat.zero_add, Nat.reduceAdd, List.length_cons, List.length_nil, true_or, or_true, false_or, or_false, decide_true, decide_false, ne_eq, not_true_eq_false, not_false_eq_true, ki_0, ki_1, ki_2, ki_3, ki_4, ki_5, kb_m100, kb_m10, kb_m9, kb_m8, kb_m7, kb_m6, kb_m5, kb_m4, kb_m3, kb_m2, kb_6, kb_7, kb_8, kb_9, kb_10, kb_12, kb_13, kb_16, kb_27, kb_31, kb_32, kb_43, kb_45, kb_48, kb_57, kb_60, kb_63, kb_81, kb_97, kb_99, kb_100, kb_120, kb_126, ks_m1000, ks_243, ks_255, ks_729, ks_1000, ks_2000, ks_2187, ks_6561, ks_9840, ks_9841, kl_0, kl_1, kS, k00, nI_add]
  refine ⟨vp_in_nI (by omega) (by omega), ?_⟩
  refine c_wordLength hg (by omega) hI.1 (fun w1 hX1 hm1 => ?_)
  have hY1 := hI.2.2.1.t hm1.t
  have zS1 : w1 1000000 = _ := (hm1 _ (by omega)).trans kS
  obtain ⟨fs1, k471⟩ := hY1.cl47
  simp only [hrun, hx, hnth, hput, hok, hcat2, hldI, hldL, hldR, hpI, hpL, hpA, hpR, hp1, hpV, hrtI, hrtL, hrtR, hrtV, hpN, hck, hrI, hrB, hrL, hrA, hwI, hwA, hwB, hrN, hfk, hfs, hrF, hwF, hcl, hfty, tyX1, tyX3, tyX6, tyX9, tyX10, tyJ0, tyJ4, hfit, hcmp, hnar, hres, hst, hacp, kz, kof, kn0, kn1, Bool.not_true, Bool.not_false, true_and, and_true, Nat.zero_add, Nat.reduceAdd, List.length_cons, List.length_nil, true_or, or_true, false_or, or_false, decide_true, decide_false, ne_eq, not_true_eq_false, not_false_eq_true, ki_0, ki_1, ki_2, ki_3, ki_4, ki_5, kb_m100, kb_m10, kb_m9, kb_m8, kb_m7, kb_m6, kb_m5, kb_m4, kb_m3, kb_m2, kb_6, kb_7, kb_8, kb_9, kb_10, kb_12, kb_13, kb_16, kb_27, kb_31, kb_32, kb_43, kb_45, kb_48, kb_57, kb_60, kb_63, kb_81, kb_97, kb_99, kb_100, kb_120, kb_126, ks_m1000, ks_243, ks_255, ks_729, ks_1000, ks_2000, ks_2187, ks_6561, ks_9840, ks_9841, kl_0, kl_1, kS, k00, nI_add, zS1, k471]
  refine ⟨vp_in_nI (by omega) (by omega), ?_⟩
  refine c_m_wordLength hg (by omega) hY1 (fun w2 hY2 hm2 => ?_)
  simp only [hrun, hx, hnth, hput, hok, hcat2, hldI, hldL, hldR, hpI, hpL, hpA, hpR, hp1, hpV, hrtI, hrtL, hrtR, hrtV, hpN, hck, hrI, hrB, hrL, hrA, hwI, hwA, hwB, hrN, hfk, hfs, hrF, hwF, hcl, hfty, tyX1, tyX3, tyX6, tyX9, tyX10, tyJ0, tyJ4, hfit, hcmp, hnar, hres, hst, hacp, kz, kof, kn0, kn1, Bool.not_true, Bool.not_false, true_and, and_true, Nat.zero_add, Nat.reduceAdd, List.length_cons, List.length_nil, true_or, or_true, false_or, or_false, decide_true, decide_false, ne_eq, not_true_eq_false, not_false_eq_true, ki_0, ki_1, ki_2, ki_3, ki_4, ki_5, kb_m100, kb_m10, kb_m9, kb_m8, kb_m7, kb_m6, kb_m5, kb_m4, kb_m3, kb_m2, kb_6, kb_7, kb_8, kb_9, kb_10, kb_12, kb_13, kb_16, kb_27, kb_31, kb_32, kb_43, kb_45, kb_48, kb_57, kb_60, kb_63, kb_81, kb_97, kb_99, kb_100, kb_120, kb_126, ks_m1000, ks_243, ks_255, ks_729, ks_1000, ks_2000, ks_2187, ks_6561, ks_9840, ks_9841, kl_0, kl_1, kS, k00, nI_add]
  refine ⟨fun b274 => ?_, fun b274 => ?_⟩
  · skip
    exact h w2 _ _ _ _ (hI.st hX1 hm1 hY2 hm2 sp_wordLength_t) (by omega) (by omega) (by omega)
  · skip
    first | exact b274.elim | exact absurd rfl b274 | exact absurd ((lcmp_eq _ _).mpr rfl) b274
set_option maxRecDepth 100000 in
set_option maxHeartbeats 4000000 in
theorem law_3 (hg : hgo g) (hd : 40 ≤ d) {P : hPt} (hP : hCl (Γ g d) (some .boolean) tLaw lR P) {L : Nat} {xs : Nat → Int32} (hL : L ≤ 2560) {w0 : hWd} (k0 : w0 1000000 = .inl (10, L, .inl xs)) (hD0 : hDg w0) (hT0 : hTx2 w0) {i N c s : Nat} {w : hWd} {S : cS} (hI : lIv w0 w N S) (hi : i + 5 ≤ L) (hN : N ≤ 800000) (hc : 20 ≤ c) (hs : 8000 ≤ s) (h : ∀ w' N' c' s' S', lIv w0 w' N' S' → N' ≤ N + 20 → c ≤ c' + 20 → s ≤ s' + 8000 → P N' c' s' w' 1407 [some (.ref 1000000), some (.ref 0), some (.ref 47), some (.int (nI i))] []) : P N c s w 279 [some (.ref 1000000), some (.ref 0), some (.ref 47), some (.int (nI i))] [] := by
  have kS : w 1000000 = _ := (hI.2.2.2 1000000 (by omega)).trans k0
  obtain ⟨fs0, k00⟩ := hI.1.cl0
  refine hP 9 _ rfl _ _ _ _ _ _ ?_
  simp only [bLaw_9, hrun, hx, hnth, hput, hok, hcat2, hldI, hldL, hldR, hpI, hpL, hpA, hpR, hp1, hpV, hrtI, hrtL, hrtR, hrtV, hpN, hck, hrI, hrB, hrL, hrA, hwI, hwA, hwB, hrN, hfk, hfs, hrF, hwF, hcl, hfty, tyX1, tyX3, tyX6, tyX9, tyX10, tyJ0, tyJ4, hfit, hcmp, hnar, hres, hst, hacp, kz, kof, kn0, kn1, Bool.not_true, Bool.not_false, true_and, and_true, Nat.zero_add, Nat.reduceAdd, List.length_cons, List.length_nil, true_or, or_true, false_or, or_false, decide_true, decide_false, ne_eq, not_true_eq_false, not_false_eq_true, ki_0, ki_1, ki_2, ki_3, ki_4, ki_5, kb_m100, kb_m10, kb_m9, kb_m8, kb_m7, kb_m6, kb_m5, kb_m4, kb_m3, kb_m2, kb_6, kb_7, kb_8, kb_9, kb_10, kb_12, kb_13, kb_16, kb_27, kb_31, kb_32, kb_43, kb_45, kb_48, kb_57, kb_60, kb_63, kb_81, kb_97, kb_99, kb_100, kb_120, kb_126, ks_m1000, ks_243, ks_255, ks_729, ks_1000, ks_2000, ks_2187, ks_6561, ks_9840, ks_9841, kl_0, kl_1, kS, k00, nI_add]
  refine ⟨vp_in_nI (by omega) (by omega), ?_⟩
  refine ⟨vp_in_nI (by omega) (by omega), ?_⟩
  refine c_wordLetter hg (by omega) hI.1 (fun w1 hX1 hm1 => ?_)
  have hY1 := hI.2.2.1.t hm1.t
  have zS1 : w1 1000000 = _ := (hm1 _ (by omega)).trans kS
  obtain ⟨fs1, k471⟩ := hY1.cl47
  simp only [hrun, hx, hnth, hput, hok, hcat2, hldI, hldL, hldR, hpI, hpL, hpA, hpR, hp1, hpV, hrtI, hrtL, hrtR, hrtV, hpN, hck, hrI, hrB, hrL, hrA, hwI, hwA, hwB, hrN, hfk, hfs, hrF, hwF, hcl, hfty, tyX1, tyX3, tyX6, tyX9, tyX10, tyJ0, tyJ4, hfit, hcmp, hnar, hres, hst, hacp, kz, kof, kn0, kn1, Bool.not_true, Bool.not_false, true_and, and_true, Nat.zero_add, Nat.reduceAdd, List.length_cons, List.length_nil, true_or, or_true, false_or, or_false, decide_true, decide_false, ne_eq, not_true_eq_false, not_false_eq_true, ki_0, ki_1, ki_2, ki_3, ki_4, ki_5, kb_m100, kb_m10, kb_m9, kb_m8, kb_m7, kb_m6, kb_m5, kb_m4, kb_m3, kb_m2, kb_6, kb_7, kb_8, kb_9, kb_10, kb_12, kb_13, kb_16, kb_27, kb_31, kb_32, kb_43, kb_45, kb_48, kb_57, kb_60, kb_63, kb_81, kb_97, kb_99, kb_100, kb_120, kb_126, ks_m1000, ks_243, ks_255, ks_729, ks_1000, ks_2000, ks_2187, ks_6561, ks_9840, ks_9841, kl_0, kl_1, kS, k00, nI_add, zS1, k471]
  refine ⟨vp_in_nI (by omega) (by omega), ?_⟩
  refine ⟨vp_in_nI (by omega) (by omega), ?_⟩
  refine c_m_wordLetter hg (by omega) hY1 (fun w2 hY2 hm2 => ?_)
  simp only [hrun, hx, hnth, hput, hok, hcat2, hldI, hldL, hldR, hpI, hpL, hpA, hpR, hp1, hpV, hrtI, hrtL, hrtR, hrtV, hpN, hck, hrI, hrB, hrL, hrA, hwI, hwA, hwB, hrN, hfk, hfs, hrF, hwF, hcl, hfty, tyX1, tyX3, tyX6, tyX9, tyX10, tyJ0, tyJ4, hfit, hcmp, hnar, hres, hst, hacp, kz, kof, kn0, kn1, Bool.not_true, Bool.not_false, true_and, and_true, Nat.zero_add, Nat.reduceAdd, List.length_cons, List.length_nil, true_or, or_true, false_or, or_false, decide_true, decide_false, ne_eq, not_true_eq_false, not_false_eq_true, ki_0, ki_1, ki_2, ki_3, ki_4, ki_5, kb_m100, kb_m10, kb_m9, kb_m8, kb_m7, kb_m6, kb_m5, kb_m4, kb_m3, kb_m2, kb_6, kb_7, kb_8, kb_9, kb_10, kb_12, kb_13, kb_16, kb_27, kb_31, kb_32, kb_43, kb_45, kb_48, kb_57, kb_60, kb_63, kb_81, kb_97, kb_99, kb_100, kb_120, kb_126, ks_m1000, ks_243, ks_255, ks_729, ks_1000, ks_2000, ks_2187, ks_6561, ks_9840, ks_9841, kl_0, kl_1, kS, k00, nI_add]
  refine ⟨fun b307 => ?_, fun b307 => ?_⟩
  · skip
    exact h w2 _ _ _ _ (hI.st hX1 hm1 hY2 hm2 sp_wordLetter_t) (by omega) (by omega) (by omega)
  · skip
    first | exact b307.elim | exact absurd rfl b307 | exact absurd ((lcmp_eq _ _).mpr rfl) b307
set_option maxRecDepth 100000 in
set_option maxHeartbeats 4000000 in
theorem law_4 (hg : hgo g) (hd : 40 ≤ d) {P : hPt} (hP : hCl (Γ g d) (some .boolean) tLaw lR P) {L : Nat} {xs : Nat → Int32} (hL : L ≤ 2560) {w0 : hWd} (k0 : w0 1000000 = .inl (10, L, .inl xs)) (hD0 : hDg w0) (hT0 : hTx2 w0) {i N c s : Nat} {w : hWd} {S : cS} (hI : lIv w0 w N S) (hi : i + 5 ≤ L) (hN : N ≤ 800000) (hc : 20 ≤ c) (hs : 8000 ≤ s) (h : ∀ w' N' c' s' S', lIv w0 w' N' S' → N' ≤ N + 20 → c ≤ c' + 20 → s ≤ s' + 8000 → P N' c' s' w' 1407 [some (.ref 1000000), some (.ref 0), some (.ref 47), some (.int (nI i))] []) : P N c s w 312 [some (.ref 1000000), some (.ref 0), some (.ref 47), some (.int (nI i))] [] := by
  have kS : w 1000000 = _ := (hI.2.2.2 1000000 (by omega)).trans k0
  obtain ⟨fs0, k00⟩ := hI.1.cl0
  refine hP 11 _ rfl _ _ _ _ _ _ ?_
  simp only [bLaw_11, hrun, hx, hnth, hput, hok, hcat2, hldI, hldL, hldR, hpI, hpL, hpA, hpR, hp1, hpV, hrtI, hrtL, hrtR, hrtV, hpN, hck, hrI, hrB, hrL, hrA, hwI, hwA, hwB, hrN, hfk, hfs, hrF, hwF, hcl, hfty, tyX1, tyX3, tyX6, tyX9, tyX10, tyJ0, tyJ4, hfit, hcmp, hnar, hres, hst, hacp, kz, kof, kn0, kn1, Bool.not_true, Bool.not_false, true_and, and_true, Nat.zero_add, Nat.reduceAdd, List.length_cons, List.length_nil, true_or, or_true, false_or, or_false, decide_true, decide_false, ne_eq, not_true_eq_false, not_false_eq_true, ki_0, ki_1, ki_2, ki_3, ki_4, ki_5, kb_m100, kb_m10, kb_m9, kb_m8, kb_m7, kb_m6, kb_m5, kb_m4, kb_m3, kb_m2, kb_6, kb_7, kb_8, kb_9, kb_10, kb_12, kb_13, kb_16, kb_27, kb_31, kb_32, kb_43, kb_45, kb_48, kb_57, kb_60, kb_63, kb_81, kb_97, kb_99, kb_100, kb_120, kb_126, ks_m1000, ks_243, ks_255, ks_729, ks_1000, ks_2000, ks_2187, ks_6561, ks_9840, ks_9841, kl_0, kl_1, kS, k00, nI_add]
  refine ⟨vp_in_nI (by omega) (by omega), ?_⟩
  refine ⟨vp_in_nI (by omega) (by omega), ?_⟩
  refine c_reverseWord hg (by omega) hI.1 (fun w1 hX1 hm1 => ?_)
  have hY1 := hI.2.2.1.t hm1.t
  have zS1 : w1 1000000 = _ := (hm1 _ (by omega)).trans kS
  obtain ⟨fs1, k471⟩ := hY1.cl47
  simp only [hrun, hx, hnth, hput, hok, hcat2, hldI, hldL, hldR, hpI, hpL, hpA, hpR, hp1, hpV, hrtI, hrtL, hrtR, hrtV, hpN, hck, hrI, hrB, hrL, hrA, hwI, hwA, hwB, hrN, hfk, hfs, hrF, hwF, hcl, hfty, tyX1, tyX3, tyX6, tyX9, tyX10, tyJ0, tyJ4, hfit, hcmp, hnar, hres, hst, hacp, kz, kof, kn0, kn1, Bool.not_true, Bool.not_false, true_and, and_true, Nat.zero_add, Nat.reduceAdd, List.length_cons, List.length_nil, true_or, or_true, false_or, or_false, decide_true, decide_false, ne_eq, not_true_eq_false, not_false_eq_true, ki_0, ki_1, ki_2, ki_3, ki_4, ki_5, kb_m100, kb_m10, kb_m9, kb_m8, kb_m7, kb_m6, kb_m5, kb_m4, kb_m3, kb_m2, kb_6, kb_7, kb_8, kb_9, kb_10, kb_12, kb_13, kb_16, kb_27, kb_31, kb_32, kb_43, kb_45, kb_48, kb_57, kb_60, kb_63, kb_81, kb_97, kb_99, kb_100, kb_120, kb_126, ks_m1000, ks_243, ks_255, ks_729, ks_1000, ks_2000, ks_2187, ks_6561, ks_9840, ks_9841, kl_0, kl_1, kS, k00, nI_add, zS1, k471]
  refine ⟨vp_in_nI (by omega) (by omega), ?_⟩
  refine ⟨vp_in_nI (by omega) (by omega), ?_⟩
  refine c_m_reverseWord hg (by omega) hY1 (fun w2 hY2 hm2 => ?_)
  simp only [hrun, hx, hnth, hput, hok, hcat2, hldI, hldL, hldR, hpI, hpL, hpA, hpR, hp1, hpV, hrtI, hrtL, hrtR, hrtV, hpN, hck, hrI, hrB, hrL, hrA, hwI, hwA, hwB, hrN, hfk, hfs, hrF, hwF, hcl, hfty, tyX1, tyX3, tyX6, tyX9, tyX10, tyJ0, tyJ4, hfit, hcmp, hnar, hres, hst, hacp, kz, kof, kn0, kn1, Bool.not_true, Bool.not_false, true_and, and_true, Nat.zero_add, Nat.reduceAdd, List.length_cons, List.length_nil, true_or, or_true, false_or, or_false, decide_true, decide_false, ne_eq, not_true_eq_false, not_false_eq_true, ki_0, ki_1, ki_2, ki_3, ki_4, ki_5, kb_m100, kb_m10, kb_m9, kb_m8, kb_m7, kb_m6, kb_m5, kb_m4, kb_m3, kb_m2, kb_6, kb_7, kb_8, kb_9, kb_10, kb_12, kb_13, kb_16, kb_27, kb_31, kb_32, kb_43, kb_45, kb_48, kb_57, kb_60, kb_63, kb_81, kb_97, kb_99, kb_100, kb_120, kb_126, ks_m1000, ks_243, ks_255, ks_729, ks_1000, ks_2000, ks_2187, ks_6561, ks_9840, ks_9841, kl_0, kl_1, kS, k00, nI_add]
  refine ⟨fun b340 => ?_, fun b340 => ?_⟩
  · skip
    exact h w2 _ _ _ _ (hI.st hX1 hm1 hY2 hm2 sp_reverseWord_t) (by omega) (by omega) (by omega)
  · skip
    first | exact b340.elim | exact absurd rfl b340 | exact absurd ((lcmp_eq _ _).mpr rfl) b340
set_option maxRecDepth 100000 in
set_option maxHeartbeats 4000000 in
theorem law_5 (hg : hgo g) (hd : 40 ≤ d) {P : hPt} (hP : hCl (Γ g d) (some .boolean) tLaw lR P) {L : Nat} {xs : Nat → Int32} (hL : L ≤ 2560) {w0 : hWd} (k0 : w0 1000000 = .inl (10, L, .inl xs)) (hD0 : hDg w0) (hT0 : hTx2 w0) {i N c s : Nat} {w : hWd} {S : cS} (hI : lIv w0 w N S) (hi : i + 5 ≤ L) (hN : N ≤ 800000) (hc : 20 ≤ c) (hs : 8000 ≤ s) (h : ∀ w' N' c' s' S', lIv w0 w' N' S' → N' ≤ N + 20 → c ≤ c' + 20 → s ≤ s' + 8000 → P N' c' s' w' 1407 [some (.ref 1000000), some (.ref 0), some (.ref 47), some (.int (nI i))] []) : P N c s w 345 [some (.ref 1000000), some (.ref 0), some (.ref 47), some (.int (nI i))] [] := by
  have kS : w 1000000 = _ := (hI.2.2.2 1000000 (by omega)).trans k0
  obtain ⟨fs0, k00⟩ := hI.1.cl0
  refine hP 13 _ rfl _ _ _ _ _ _ ?_
  simp only [bLaw_13, hrun, hx, hnth, hput, hok, hcat2, hldI, hldL, hldR, hpI, hpL, hpA, hpR, hp1, hpV, hrtI, hrtL, hrtR, hrtV, hpN, hck, hrI, hrB, hrL, hrA, hwI, hwA, hwB, hrN, hfk, hfs, hrF, hwF, hcl, hfty, tyX1, tyX3, tyX6, tyX9, tyX10, tyJ0, tyJ4, hfit, hcmp, hnar, hres, hst, hacp, kz, kof, kn0, kn1, Bool.not_true, Bool.not_false, true_and, and_true, Nat.zero_add, Nat.reduceAdd, List.length_cons, List.length_nil, true_or, or_true, false_or, or_false, decide_true, decide_false, ne_eq, not_true_eq_false, not_false_eq_true, ki_0, ki_1, ki_2, ki_3, ki_4, ki_5, kb_m100, kb_m10, kb_m9, kb_m8, kb_m7, kb_m6, kb_m5, kb_m4, kb_m3, kb_m2, kb_6, kb_7, kb_8, kb_9, kb_10, kb_12, kb_13, kb_16, kb_27, kb_31, kb_32, kb_43, kb_45, kb_48, kb_57, kb_60, kb_63, kb_81, kb_97, kb_99, kb_100, kb_120, kb_126, ks_m1000, ks_243, ks_255, ks_729, ks_1000, ks_2000, ks_2187, ks_6561, ks_9840, ks_9841, kl_0, kl_1, kS, k00, nI_add]
  refine ⟨vp_in_nI (by omega) (by omega), ?_⟩
  refine ⟨vp_in_nI (by omega) (by omega), ?_⟩
  refine c_subwordCount hg (by omega) hI.1 (fun w1 hX1 hm1 => ?_)
  have hY1 := hI.2.2.1.t hm1.t
  have zS1 : w1 1000000 = _ := (hm1 _ (by omega)).trans kS
  obtain ⟨fs1, k471⟩ := hY1.cl47
  simp only [hrun, hx, hnth, hput, hok, hcat2, hldI, hldL, hldR, hpI, hpL, hpA, hpR, hp1, hpV, hrtI, hrtL, hrtR, hrtV, hpN, hck, hrI, hrB, hrL, hrA, hwI, hwA, hwB, hrN, hfk, hfs, hrF, hwF, hcl, hfty, tyX1, tyX3, tyX6, tyX9, tyX10, tyJ0, tyJ4, hfit, hcmp, hnar, hres, hst, hacp, kz, kof, kn0, kn1, Bool.not_true, Bool.not_false, true_and, and_true, Nat.zero_add, Nat.reduceAdd, List.length_cons, List.length_nil, true_or, or_true, false_or, or_false, decide_true, decide_false, ne_eq, not_true_eq_false, not_false_eq_true, ki_0, ki_1, ki_2, ki_3, ki_4, ki_5, kb_m100, kb_m10, kb_m9, kb_m8, kb_m7, kb_m6, kb_m5, kb_m4, kb_m3, kb_m2, kb_6, kb_7, kb_8, kb_9, kb_10, kb_12, kb_13, kb_16, kb_27, kb_31, kb_32, kb_43, kb_45, kb_48, kb_57, kb_60, kb_63, kb_81, kb_97, kb_99, kb_100, kb_120, kb_126, ks_m1000, ks_243, ks_255, ks_729, ks_1000, ks_2000, ks_2187, ks_6561, ks_9840, ks_9841, kl_0, kl_1, kS, k00, nI_add, zS1, k471]
  refine ⟨vp_in_nI (by omega) (by omega), ?_⟩
  refine ⟨vp_in_nI (by omega) (by omega), ?_⟩
  refine c_m_subwordCount hg (by omega) hY1 (fun w2 hY2 hm2 => ?_)
  simp only [hrun, hx, hnth, hput, hok, hcat2, hldI, hldL, hldR, hpI, hpL, hpA, hpR, hp1, hpV, hrtI, hrtL, hrtR, hrtV, hpN, hck, hrI, hrB, hrL, hrA, hwI, hwA, hwB, hrN, hfk, hfs, hrF, hwF, hcl, hfty, tyX1, tyX3, tyX6, tyX9, tyX10, tyJ0, tyJ4, hfit, hcmp, hnar, hres, hst, hacp, kz, kof, kn0, kn1, Bool.not_true, Bool.not_false, true_and, and_true, Nat.zero_add, Nat.reduceAdd, List.length_cons, List.length_nil, true_or, or_true, false_or, or_false, decide_true, decide_false, ne_eq, not_true_eq_false, not_false_eq_true, ki_0, ki_1, ki_2, ki_3, ki_4, ki_5, kb_m100, kb_m10, kb_m9, kb_m8, kb_m7, kb_m6, kb_m5, kb_m4, kb_m3, kb_m2, kb_6, kb_7, kb_8, kb_9, kb_10, kb_12, kb_13, kb_16, kb_27, kb_31, kb_32, kb_43, kb_45, kb_48, kb_57, kb_60, kb_63, kb_81, kb_97, kb_99, kb_100, kb_120, kb_126, ks_m1000, ks_243, ks_255, ks_729, ks_1000, ks_2000, ks_2187, ks_6561, ks_9840, ks_9841, kl_0, kl_1, kS, k00, nI_add]
  refine ⟨fun b373 => ?_, fun b373 => ?_⟩
  · skip
    exact h w2 _ _ _ _ (hI.st hX1 hm1 hY2 hm2 sp_subwordCount_t) (by omega) (by omega) (by omega)
  · skip
    first | exact b373.elim | exact absurd rfl b373 | exact absurd ((lcmp_eq _ _).mpr rfl) b373
set_option maxRecDepth 100000 in
set_option maxHeartbeats 4000000 in
theorem law_6 (hg : hgo g) (hd : 40 ≤ d) {P : hPt} (hP : hCl (Γ g d) (some .boolean) tLaw lR P) {L : Nat} {xs : Nat → Int32} (hL : L ≤ 2560) {w0 : hWd} (k0 : w0 1000000 = .inl (10, L, .inl xs)) (hD0 : hDg w0) (hT0 : hTx2 w0) {i N c s : Nat} {w : hWd} {S : cS} (hI : lIv w0 w N S) (hi : i + 5 ≤ L) (hN : N ≤ 800000) (hc : 20 ≤ c) (hs : 8000 ≤ s) (h : ∀ w' N' c' s' S', lIv w0 w' N' S' → N' ≤ N + 20 → c ≤ c' + 20 → s ≤ s' + 8000 → P N' c' s' w' 1407 [some (.ref 1000000), some (.ref 0), some (.ref 47), some (.int (nI i))] []) : P N c s w 378 [some (.ref 1000000), some (.ref 0), some (.ref 47), some (.int (nI i))] [] := by
  have kS : w 1000000 = _ := (hI.2.2.2 1000000 (by omega)).trans k0
  obtain ⟨fs0, k00⟩ := hI.1.cl0
  refine hP 15 _ rfl _ _ _ _ _ _ ?_
  simp only [bLaw_15, hrun, hx, hnth, hput, hok, hcat2, hldI, hldL, hldR, hpI, hpL, hpA, hpR, hp1, hpV, hrtI, hrtL, hrtR, hrtV, hpN, hck, hrI, hrB, hrL, hrA, hwI, hwA, hwB, hrN, hfk, hfs, hrF, hwF, hcl, hfty, tyX1, tyX3, tyX6, tyX9, tyX10, tyJ0, tyJ4, hfit, hcmp, hnar, hres, hst, hacp, kz, kof, kn0, kn1, Bool.not_true, Bool.not_false, true_and, and_true, Nat.zero_add, Nat.reduceAdd, List.length_cons, List.length_nil, true_or, or_true, false_or, or_false, decide_true, decide_false, ne_eq, not_true_eq_false, not_false_eq_true, ki_0, ki_1, ki_2, ki_3, ki_4, ki_5, kb_m100, kb_m10, kb_m9, kb_m8, kb_m7, kb_m6, kb_m5, kb_m4, kb_m3, kb_m2, kb_6, kb_7, kb_8, kb_9, kb_10, kb_12, kb_13, kb_16, kb_27, kb_31, kb_32, kb_43, kb_45, kb_48, kb_57, kb_60, kb_63, kb_81, kb_97, kb_99, kb_100, kb_120, kb_126, ks_m1000, ks_243, ks_255, ks_729, ks_1000, ks_2000, ks_2187, ks_6561, ks_9840, ks_9841, kl_0, kl_1, kS, k00, nI_add]
  refine ⟨vp_in_nI (by omega) (by omega), ?_⟩
  refine ⟨vp_in_nI (by omega) (by omega), ?_⟩
  refine ⟨vp_in_nI (by omega) (by omega), ?_⟩
  refine c_splitCount hg (by omega) hI.1 (fun w1 hX1 hm1 => ?_)
  have hY1 := hI.2.2.1.t hm1.t
  have zS1 : w1 1000000 = _ := (hm1 _ (by omega)).trans kS
  obtain ⟨fs1, k471⟩ := hY1.cl47
  simp only [hrun, hx, hnth, hput, hok, hcat2, hldI, hldL, hldR, hpI, hpL, hpA, hpR, hp1, hpV, hrtI, hrtL, hrtR, hrtV, hpN, hck, hrI, hrB, hrL, hrA, hwI, hwA, hwB, hrN, hfk, hfs, hrF, hwF, hcl, hfty, tyX1, tyX3, tyX6, tyX9, tyX10, tyJ0, tyJ4, hfit, hcmp, hnar, hres, hst, hacp, kz, kof, kn0, kn1, Bool.not_true, Bool.not_false, true_and, and_true, Nat.zero_add, Nat.reduceAdd, List.length_cons, List.length_nil, true_or, or_true, false_or, or_false, decide_true, decide_false, ne_eq, not_true_eq_false, not_false_eq_true, ki_0, ki_1, ki_2, ki_3, ki_4, ki_5, kb_m100, kb_m10, kb_m9, kb_m8, kb_m7, kb_m6, kb_m5, kb_m4, kb_m3, kb_m2, kb_6, kb_7, kb_8, kb_9, kb_10, kb_12, kb_13, kb_16, kb_27, kb_31, kb_32, kb_43, kb_45, kb_48, kb_57, kb_60, kb_63, kb_81, kb_97, kb_99, kb_100, kb_120, kb_126, ks_m1000, ks_243, ks_255, ks_729, ks_1000, ks_2000, ks_2187, ks_6561, ks_9840, ks_9841, kl_0, kl_1, kS, k00, nI_add, zS1, k471]
  refine ⟨vp_in_nI (by omega) (by omega), ?_⟩
  refine ⟨vp_in_nI (by omega) (by omega), ?_⟩
  refine ⟨vp_in_nI (by omega) (by omega), ?_⟩
  refine c_m_splitCount hg (by omega) hY1 (fun w2 hY2 hm2 => ?_)
  simp only [hrun, hx, hnth, hput, hok, hcat2, hldI, hldL, hldR, hpI, hpL, hpA, hpR, hp1, hpV, hrtI, hrtL, hrtR, hrtV, hpN, hck, hrI, hrB, hrL, hrA, hwI, hwA, hwB, hrN, hfk, hfs, hrF, hwF, hcl, hfty, tyX1, tyX3, tyX6, tyX9, tyX10, tyJ0, tyJ4, hfit, hcmp, hnar, hres, hst, hacp, kz, kof, kn0, kn1, Bool.not_true, Bool.not_false, true_and, and_true, Nat.zero_add, Nat.reduceAdd, List.length_cons, List.length_nil, true_or, or_true, false_or, or_false, decide_true, decide_false, ne_eq, not_true_eq_false, not_false_eq_true, ki_0, ki_1, ki_2, ki_3, ki_4, ki_5, kb_m100, kb_m10, kb_m9, kb_m8, kb_m7, kb_m6, kb_m5, kb_m4, kb_m3, kb_m2, kb_6, kb_7, kb_8, kb_9, kb_10, kb_12, kb_13, kb_16, kb_27, kb_31, kb_32, kb_43, kb_45, kb_48, kb_57, kb_60, kb_63, kb_81, kb_97, kb_99, kb_100, kb_120, kb_126, ks_m1000, ks_243, ks_255, ks_729, ks_1000, ks_2000, ks_2187, ks_6561, ks_9840, ks_9841, kl_0, kl_1, kS, k00, nI_add]
  refine ⟨fun b416 => ?_, fun b416 => ?_⟩
  · skip
    exact h w2 _ _ _ _ (hI.st hX1 hm1 hY2 hm2 sp_cover_t) (by omega) (by omega) (by omega)
  · skip
    first | exact b416.elim | exact absurd rfl b416 | exact absurd ((lcmp_eq _ _).mpr rfl) b416
set_option maxRecDepth 100000 in
set_option maxHeartbeats 4000000 in
theorem law_7 (hg : hgo g) (hd : 40 ≤ d) {P : hPt} (hP : hCl (Γ g d) (some .boolean) tLaw lR P) {L : Nat} {xs : Nat → Int32} (hL : L ≤ 2560) {w0 : hWd} (k0 : w0 1000000 = .inl (10, L, .inl xs)) (hD0 : hDg w0) (hT0 : hTx2 w0) {i N c s : Nat} {w : hWd} {S : cS} (hI : lIv w0 w N S) (hi : i + 5 ≤ L) (hN : N ≤ 800000) (hc : 20 ≤ c) (hs : 8000 ≤ s) (h : ∀ w' N' c' s' S', lIv w0 w' N' S' → N' ≤ N + 20 → c ≤ c' + 20 → s ≤ s' + 8000 → P N' c' s' w' 1407 [some (.ref 1000000), some (.ref 0), some (.ref 47), some (.int (nI i))] []) : P N c s w 421 [some (.ref 1000000), some (.ref 0), some (.ref 47), some (.int (nI i))] [] := by
  have kS : w 1000000 = _ := (hI.2.2.2 1000000 (by omega)).trans k0
  obtain ⟨fs0, k00⟩ := hI.1.cl0
  refine hP 17 _ rfl _ _ _ _ _ _ ?_
  simp only [bLaw_17, hrun, hx, hnth, hput, hok, hcat2, hldI, hldL, hldR, hpI, hpL, hpA, hpR, hp1, hpV, hrtI, hrtL, hrtR, hrtV, hpN, hck, hrI, hrB, hrL, hrA, hwI, hwA, hwB, hrN, hfk, hfs, hrF, hwF, hcl, hfty, tyX1, tyX3, tyX6, tyX9, tyX10, tyJ0, tyJ4, hfit, hcmp, hnar, hres, hst, hacp, kz, kof, kn0, kn1, Bool.not_true, Bool.not_false, true_and, and_true, Nat.zero_add, Nat.reduceAdd, List.length_cons, List.length_nil, true_or, or_true, false_or, or_false, decide_true, decide_false, ne_eq, not_true_eq_false, not_false_eq_true, ki_0, ki_1, ki_2, ki_3, ki_4, ki_5, kb_m100, kb_m10, kb_m9, kb_m8, kb_m7, kb_m6, kb_m5, kb_m4, kb_m3, kb_m2, kb_6, kb_7, kb_8, kb_9, kb_10, kb_12, kb_13, kb_16, kb_27, kb_31, kb_32, kb_43, kb_45, kb_48, kb_57, kb_60, kb_63, kb_81, kb_97, kb_99, kb_100, kb_120, kb_126, ks_m1000, ks_243, ks_255, ks_729, ks_1000, ks_2000, ks_2187, ks_6561, ks_9840, ks_9841, kl_0, kl_1, kS, k00, nI_add]
  refine ⟨vp_in_nI (by omega) (by omega), ?_⟩
  refine ⟨vp_in_nI (by omega) (by omega), ?_⟩
  refine ⟨vp_in_nI (by omega) (by omega), ?_⟩
  refine c_coverCount hg (by omega) hI.1 (fun w1 hX1 hm1 => ?_)
  have hY1 := hI.2.2.1.t hm1.t
  have zS1 : w1 1000000 = _ := (hm1 _ (by omega)).trans kS
  obtain ⟨fs1, k471⟩ := hY1.cl47
  simp only [hrun, hx, hnth, hput, hok, hcat2, hldI, hldL, hldR, hpI, hpL, hpA, hpR, hp1, hpV, hrtI, hrtL, hrtR, hrtV, hpN, hck, hrI, hrB, hrL, hrA, hwI, hwA, hwB, hrN, hfk, hfs, hrF, hwF, hcl, hfty, tyX1, tyX3, tyX6, tyX9, tyX10, tyJ0, tyJ4, hfit, hcmp, hnar, hres, hst, hacp, kz, kof, kn0, kn1, Bool.not_true, Bool.not_false, true_and, and_true, Nat.zero_add, Nat.reduceAdd, List.length_cons, List.length_nil, true_or, or_true, false_or, or_false, decide_true, decide_false, ne_eq, not_true_eq_false, not_false_eq_true, ki_0, ki_1, ki_2, ki_3, ki_4, ki_5, kb_m100, kb_m10, kb_m9, kb_m8, kb_m7, kb_m6, kb_m5, kb_m4, kb_m3, kb_m2, kb_6, kb_7, kb_8, kb_9, kb_10, kb_12, kb_13, kb_16, kb_27, kb_31, kb_32, kb_43, kb_45, kb_48, kb_57, kb_60, kb_63, kb_81, kb_97, kb_99, kb_100, kb_120, kb_126, ks_m1000, ks_243, ks_255, ks_729, ks_1000, ks_2000, ks_2187, ks_6561, ks_9840, ks_9841, kl_0, kl_1, kS, k00, nI_add, zS1, k471]
  refine ⟨vp_in_nI (by omega) (by omega), ?_⟩
  refine ⟨vp_in_nI (by omega) (by omega), ?_⟩
  refine ⟨vp_in_nI (by omega) (by omega), ?_⟩
  refine c_m_coverCount hg (by omega) hY1 (fun w2 hY2 hm2 => ?_)
  simp only [hrun, hx, hnth, hput, hok, hcat2, hldI, hldL, hldR, hpI, hpL, hpA, hpR, hp1, hpV, hrtI, hrtL, hrtR, hrtV, hpN, hck, hrI, hrB, hrL, hrA, hwI, hwA, hwB, hrN, hfk, hfs, hrF, hwF, hcl, hfty, tyX1, tyX3, tyX6, tyX9, tyX10, tyJ0, tyJ4, hfit, hcmp, hnar, hres, hst, hacp, kz, kof, kn0, kn1, Bool.not_true, Bool.not_false, true_and, and_true, Nat.zero_add, Nat.reduceAdd, List.length_cons, List.length_nil, true_or, or_true, false_or, or_false, decide_true, decide_false, ne_eq, not_true_eq_false, not_false_eq_true, ki_0, ki_1, ki_2, ki_3, ki_4, ki_5, kb_m100, kb_m10, kb_m9, kb_m8, kb_m7, kb_m6, kb_m5, kb_m4, kb_m3, kb_m2, kb_6, kb_7, kb_8, kb_9, kb_10, kb_12, kb_13, kb_16, kb_27, kb_31, kb_32, kb_43, kb_45, kb_48, kb_57, kb_60, kb_63, kb_81, kb_97, kb_99, kb_100, kb_120, kb_126, ks_m1000, ks_243, ks_255, ks_729, ks_1000, ks_2000, ks_2187, ks_6561, ks_9840, ks_9841, kl_0, kl_1, kS, k00, nI_add]
  refine ⟨fun b459 => ?_, fun b459 => ?_⟩
  · skip
    exact h w2 _ _ _ _ (hI.st hX1 hm1 hY2 hm2 sp_cover_t) (by omega) (by omega) (by omega)
  · skip
    first | exact b459.elim | exact absurd rfl b459 | exact absurd ((lcmp_eq _ _).mpr rfl) b459
set_option maxRecDepth 100000 in
set_option maxHeartbeats 4000000 in
theorem law_8 (hg : hgo g) (hd : 40 ≤ d) {P : hPt} (hP : hCl (Γ g d) (some .boolean) tLaw lR P) {L : Nat} {xs : Nat → Int32} (hL : L ≤ 2560) {w0 : hWd} (k0 : w0 1000000 = .inl (10, L, .inl xs)) (hD0 : hDg w0) (hT0 : hTx2 w0) {i N c s : Nat} {w : hWd} {S : cS} (hI : lIv w0 w N S) (hi : i + 5 ≤ L) (hN : N ≤ 800000) (hc : 20 ≤ c) (hs : 8000 ≤ s) (h : ∀ w' N' c' s' S', lIv w0 w' N' S' → N' ≤ N + 20 → c ≤ c' + 20 → s ≤ s' + 8000 → P N' c' s' w' 1407 [some (.ref 1000000), some (.ref 0), some (.ref 47), some (.int (nI i))] []) : P N c s w 464 [some (.ref 1000000), some (.ref 0), some (.ref 47), some (.int (nI i))] [] := by
  have kS : w 1000000 = _ := (hI.2.2.2 1000000 (by omega)).trans k0
  obtain ⟨fs0, k00⟩ := hI.1.cl0
  refine hP 19 _ rfl _ _ _ _ _ _ ?_
  simp only [bLaw_19, hrun, hx, hnth, hput, hok, hcat2, hldI, hldL, hldR, hpI, hpL, hpA, hpR, hp1, hpV, hrtI, hrtL, hrtR, hrtV, hpN, hck, hrI, hrB, hrL, hrA, hwI, hwA, hwB, hrN, hfk, hfs, hrF, hwF, hcl, hfty, tyX1, tyX3, tyX6, tyX9, tyX10, tyJ0, tyJ4, hfit, hcmp, hnar, hres, hst, hacp, kz, kof, kn0, kn1, Bool.not_true, Bool.not_false, true_and, and_true, Nat.zero_add, Nat.reduceAdd, List.length_cons, List.length_nil, true_or, or_true, false_or, or_false, decide_true, decide_false, ne_eq, not_true_eq_false, not_false_eq_true, ki_0, ki_1, ki_2, ki_3, ki_4, ki_5, kb_m100, kb_m10, kb_m9, kb_m8, kb_m7, kb_m6, kb_m5, kb_m4, kb_m3, kb_m2, kb_6, kb_7, kb_8, kb_9, kb_10, kb_12, kb_13, kb_16, kb_27, kb_31, kb_32, kb_43, kb_45, kb_48, kb_57, kb_60, kb_63, kb_81, kb_97, kb_99, kb_100, kb_120, kb_126, ks_m1000, ks_243, ks_255, ks_729, ks_1000, ks_2000, ks_2187, ks_6561, ks_9840, ks_9841, kl_0, kl_1, kS, k00, nI_add]
  refine ⟨vp_in_nI (by omega) (by omega), ?_⟩
  refine c_isLyndon hg (by omega) hI.1 (fun w1 hX1 hm1 => ?_)
  have hY1 := hI.2.2.1.t hm1.t
  have zS1 : w1 1000000 = _ := (hm1 _ (by omega)).trans kS
  obtain ⟨fs1, k471⟩ := hY1.cl47
  simp only [hrun, hx, hnth, hput, hok, hcat2, hldI, hldL, hldR, hpI, hpL, hpA, hpR, hp1, hpV, hrtI, hrtL, hrtR, hrtV, hpN, hck, hrI, hrB, hrL, hrA, hwI, hwA, hwB, hrN, hfk, hfs, hrF, hwF, hcl, hfty, tyX1, tyX3, tyX6, tyX9, tyX10, tyJ0, tyJ4, hfit, hcmp, hnar, hres, hst, hacp, kz, kof, kn0, kn1, Bool.not_true, Bool.not_false, true_and, and_true, Nat.zero_add, Nat.reduceAdd, List.length_cons, List.length_nil, true_or, or_true, false_or, or_false, decide_true, decide_false, ne_eq, not_true_eq_false, not_false_eq_true, ki_0, ki_1, ki_2, ki_3, ki_4, ki_5, kb_m100, kb_m10, kb_m9, kb_m8, kb_m7, kb_m6, kb_m5, kb_m4, kb_m3, kb_m2, kb_6, kb_7, kb_8, kb_9, kb_10, kb_12, kb_13, kb_16, kb_27, kb_31, kb_32, kb_43, kb_45, kb_48, kb_57, kb_60, kb_63, kb_81, kb_97, kb_99, kb_100, kb_120, kb_126, ks_m1000, ks_243, ks_255, ks_729, ks_1000, ks_2000, ks_2187, ks_6561, ks_9840, ks_9841, kl_0, kl_1, kS, k00, nI_add, zS1, k471]
  refine ⟨vp_in_nI (by omega) (by omega), ?_⟩
  refine c_m_isLyndon hg (by omega) hY1 (fun w2 hY2 hm2 => ?_)
  simp only [hrun, hx, hnth, hput, hok, hcat2, hldI, hldL, hldR, hpI, hpL, hpA, hpR, hp1, hpV, hrtI, hrtL, hrtR, hrtV, hpN, hck, hrI, hrB, hrL, hrA, hwI, hwA, hwB, hrN, hfk, hfs, hrF, hwF, hcl, hfty, tyX1, tyX3, tyX6, tyX9, tyX10, tyJ0, tyJ4, hfit, hcmp, hnar, hres, hst, hacp, kz, kof, kn0, kn1, Bool.not_true, Bool.not_false, true_and, and_true, Nat.zero_add, Nat.reduceAdd, List.length_cons, List.length_nil, true_or, or_true, false_or, or_false, decide_true, decide_false, ne_eq, not_true_eq_false, not_false_eq_true, ki_0, ki_1, ki_2, ki_3, ki_4, ki_5, kb_m100, kb_m10, kb_m9, kb_m8, kb_m7, kb_m6, kb_m5, kb_m4, kb_m3, kb_m2, kb_6, kb_7, kb_8, kb_9, kb_10, kb_12, kb_13, kb_16, kb_27, kb_31, kb_32, kb_43, kb_45, kb_48, kb_57, kb_60, kb_63, kb_81, kb_97, kb_99, kb_100, kb_120, kb_126, ks_m1000, ks_243, ks_255, ks_729, ks_1000, ks_2000, ks_2187, ks_6561, ks_9840, ks_9841, kl_0, kl_1, kS, k00, nI_add]
  refine ⟨fun b482 => ?_, fun b482 => ?_⟩
  · skip
    exact h w2 _ _ _ _ (hI.st hX1 hm1 hY2 hm2 sp_isLyndon_t) (by omega) (by omega) (by omega)
  · skip
    first | exact b482.elim | exact absurd rfl b482 | exact absurd ((lcmp_eq _ _).mpr rfl) b482
set_option maxRecDepth 100000 in
set_option maxHeartbeats 4000000 in
theorem law_9 (hg : hgo g) (hd : 40 ≤ d) {P : hPt} (hP : hCl (Γ g d) (some .boolean) tLaw lR P) {L : Nat} {xs : Nat → Int32} (hL : L ≤ 2560) {w0 : hWd} (k0 : w0 1000000 = .inl (10, L, .inl xs)) (hD0 : hDg w0) (hT0 : hTx2 w0) {i N c s : Nat} {w : hWd} {S : cS} (hI : lIv w0 w N S) (hi : i + 5 ≤ L) (hN : N ≤ 800000) (hc : 20 ≤ c) (hs : 8000 ≤ s) (h : ∀ w' N' c' s' S', lIv w0 w' N' S' → N' ≤ N + 20 → c ≤ c' + 20 → s ≤ s' + 8000 → P N' c' s' w' 1407 [some (.ref 1000000), some (.ref 0), some (.ref 47), some (.int (nI i))] []) : P N c s w 487 [some (.ref 1000000), some (.ref 0), some (.ref 47), some (.int (nI i))] [] := by
  have kS : w 1000000 = _ := (hI.2.2.2 1000000 (by omega)).trans k0
  obtain ⟨fs0, k00⟩ := hI.1.cl0
  refine hP 21 _ rfl _ _ _ _ _ _ ?_
  simp only [bLaw_21, hrun, hx, hnth, hput, hok, hcat2, hldI, hldL, hldR, hpI, hpL, hpA, hpR, hp1, hpV, hrtI, hrtL, hrtR, hrtV, hpN, hck, hrI, hrB, hrL, hrA, hwI, hwA, hwB, hrN, hfk, hfs, hrF, hwF, hcl, hfty, tyX1, tyX3, tyX6, tyX9, tyX10, tyJ0, tyJ4, hfit, hcmp, hnar, hres, hst, hacp, kz, kof, kn0, kn1, Bool.not_true, Bool.not_false, true_and, and_true, Nat.zero_add, Nat.reduceAdd, List.length_cons, List.length_nil, true_or, or_true, false_or, or_false, decide_true, decide_false, ne_eq, not_true_eq_false, not_false_eq_true, ki_0, ki_1, ki_2, ki_3, ki_4, ki_5, kb_m100, kb_m10, kb_m9, kb_m8, kb_m7, kb_m6, kb_m5, kb_m4, kb_m3, kb_m2, kb_6, kb_7, kb_8, kb_9, kb_10, kb_12, kb_13, kb_16, kb_27, kb_31, kb_32, kb_43, kb_45, kb_48, kb_57, kb_60, kb_63, kb_81, kb_97, kb_99, kb_100, kb_120, kb_126, ks_m1000, ks_243, ks_255, ks_729, ks_1000, ks_2000, ks_2187, ks_6561, ks_9840, ks_9841, kl_0, kl_1, kS, k00, nI_add]
  refine ⟨vp_in_nI (by omega) (by omega), ?_⟩
  refine c_factorCount hg (by omega) hI.1 (fun w1 hX1 hm1 => ?_)
  have hY1 := hI.2.2.1.t hm1.t
  have zS1 : w1 1000000 = _ := (hm1 _ (by omega)).trans kS
  obtain ⟨fs1, k471⟩ := hY1.cl47
  simp only [hrun, hx, hnth, hput, hok, hcat2, hldI, hldL, hldR, hpI, hpL, hpA, hpR, hp1, hpV, hrtI, hrtL, hrtR, hrtV, hpN, hck, hrI, hrB, hrL, hrA, hwI, hwA, hwB, hrN, hfk, hfs, hrF, hwF, hcl, hfty, tyX1, tyX3, tyX6, tyX9, tyX10, tyJ0, tyJ4, hfit, hcmp, hnar, hres, hst, hacp, kz, kof, kn0, kn1, Bool.not_true, Bool.not_false, true_and, and_true, Nat.zero_add, Nat.reduceAdd, List.length_cons, List.length_nil, true_or, or_true, false_or, or_false, decide_true, decide_false, ne_eq, not_true_eq_false, not_false_eq_true, ki_0, ki_1, ki_2, ki_3, ki_4, ki_5, kb_m100, kb_m10, kb_m9, kb_m8, kb_m7, kb_m6, kb_m5, kb_m4, kb_m3, kb_m2, kb_6, kb_7, kb_8, kb_9, kb_10, kb_12, kb_13, kb_16, kb_27, kb_31, kb_32, kb_43, kb_45, kb_48, kb_57, kb_60, kb_63, kb_81, kb_97, kb_99, kb_100, kb_120, kb_126, ks_m1000, ks_243, ks_255, ks_729, ks_1000, ks_2000, ks_2187, ks_6561, ks_9840, ks_9841, kl_0, kl_1, kS, k00, nI_add, zS1, k471]
  refine ⟨vp_in_nI (by omega) (by omega), ?_⟩
  refine c_m_factorCount hg (by omega) hY1 (fun w2 hY2 hm2 => ?_)
  simp only [hrun, hx, hnth, hput, hok, hcat2, hldI, hldL, hldR, hpI, hpL, hpA, hpR, hp1, hpV, hrtI, hrtL, hrtR, hrtV, hpN, hck, hrI, hrB, hrL, hrA, hwI, hwA, hwB, hrN, hfk, hfs, hrF, hwF, hcl, hfty, tyX1, tyX3, tyX6, tyX9, tyX10, tyJ0, tyJ4, hfit, hcmp, hnar, hres, hst, hacp, kz, kof, kn0, kn1, Bool.not_true, Bool.not_false, true_and, and_true, Nat.zero_add, Nat.reduceAdd, List.length_cons, List.length_nil, true_or, or_true, false_or, or_false, decide_true, decide_false, ne_eq, not_true_eq_false, not_false_eq_true, ki_0, ki_1, ki_2, ki_3, ki_4, ki_5, kb_m100, kb_m10, kb_m9, kb_m8, kb_m7, kb_m6, kb_m5, kb_m4, kb_m3, kb_m2, kb_6, kb_7, kb_8, kb_9, kb_10, kb_12, kb_13, kb_16, kb_27, kb_31, kb_32, kb_43, kb_45, kb_48, kb_57, kb_60, kb_63, kb_81, kb_97, kb_99, kb_100, kb_120, kb_126, ks_m1000, ks_243, ks_255, ks_729, ks_1000, ks_2000, ks_2187, ks_6561, ks_9840, ks_9841, kl_0, kl_1, kS, k00, nI_add]
  refine ⟨fun b505 => ?_, fun b505 => ?_⟩
  · skip
    exact h w2 _ _ _ _ (hI.st hX1 hm1 hY2 hm2 sp_factorCount_t) (by omega) (by omega) (by omega)
  · skip
    first | exact b505.elim | exact absurd rfl b505 | exact absurd ((lcmp_eq _ _).mpr rfl) b505
set_option maxRecDepth 100000 in
set_option maxHeartbeats 4000000 in
theorem law_10 (hg : hgo g) (hd : 40 ≤ d) {P : hPt} (hP : hCl (Γ g d) (some .boolean) tLaw lR P) {L : Nat} {xs : Nat → Int32} (hL : L ≤ 2560) {w0 : hWd} (k0 : w0 1000000 = .inl (10, L, .inl xs)) (hD0 : hDg w0) (hT0 : hTx2 w0) {i N c s : Nat} {w : hWd} {S : cS} (hI : lIv w0 w N S) (hi : i + 5 ≤ L) (hN : N ≤ 800000) (hc : 20 ≤ c) (hs : 8000 ≤ s) (h : ∀ w' N' c' s' S', lIv w0 w' N' S' → N' ≤ N + 20 → c ≤ c' + 20 → s ≤ s' + 8000 → P N' c' s' w' 1407 [some (.ref 1000000), some (.ref 0), some (.ref 47), some (.int (nI i))] []) : P N c s w 510 [some (.ref 1000000), some (.ref 0), some (.ref 47), some (.int (nI i))] [] := by
  have kS : w 1000000 = _ := (hI.2.2.2 1000000 (by omega)).trans k0
  obtain ⟨fs0, k00⟩ := hI.1.cl0
  refine hP 23 _ rfl _ _ _ _ _ _ ?_
  simp only [bLaw_23, hrun, hx, hnth, hput, hok, hcat2, hldI, hldL, hldR, hpI, hpL, hpA, hpR, hp1, hpV, hrtI, hrtL, hrtR, hrtV, hpN, hck, hrI, hrB, hrL, hrA, hwI, hwA, hwB, hrN, hfk, hfs, hrF, hwF, hcl, hfty, tyX1, tyX3, tyX6, tyX9, tyX10, tyJ0, tyJ4, hfit, hcmp, hnar, hres, hst, hacp, kz, kof, kn0, kn1, Bool.not_true, Bool.not_false, true_and, and_true, Nat.zero_add, Nat.reduceAdd, List.length_cons, List.length_nil, true_or, or_true, false_or, or_false, decide_true, decide_false, ne_eq, not_true_eq_false, not_false_eq_true, ki_0, ki_1, ki_2, ki_3, ki_4, ki_5, kb_m100, kb_m10, kb_m9, kb_m8, kb_m7, kb_m6, kb_m5, kb_m4, kb_m3, kb_m2, kb_6, kb_7, kb_8, kb_9, kb_10, kb_12, kb_13, kb_16, kb_27, kb_31, kb_32, kb_43, kb_45, kb_48, kb_57, kb_60, kb_63, kb_81, kb_97, kb_99, kb_100, kb_120, kb_126, ks_m1000, ks_243, ks_255, ks_729, ks_1000, ks_2000, ks_2187, ks_6561, ks_9840, ks_9841, kl_0, kl_1, kS, k00, nI_add]
  refine ⟨vp_in_nI (by omega) (by omega), ?_⟩
  refine ⟨vp_in_nI (by omega) (by omega), ?_⟩
  refine c_factorStart hg (by omega) hI.1 (fun w1 hX1 hm1 => ?_)
  have hY1 := hI.2.2.1.t hm1.t
  have zS1 : w1 1000000 = _ := (hm1 _ (by omega)).trans kS
  obtain ⟨fs1, k471⟩ := hY1.cl47
  simp only [hrun, hx, hnth, hput, hok, hcat2, hldI, hldL, hldR, hpI, hpL, hpA, hpR, hp1, hpV, hrtI, hrtL, hrtR, hrtV, hpN, hck, hrI, hrB, hrL, hrA, hwI, hwA, hwB, hrN, hfk, hfs, hrF, hwF, hcl, hfty, tyX1, tyX3, tyX6, tyX9, tyX10, tyJ0, tyJ4, hfit, hcmp, hnar, hres, hst, hacp, kz, kof, kn0, kn1, Bool.not_true, Bool.not_false, true_and, and_true, Nat.zero_add, Nat.reduceAdd, List.length_cons, List.length_nil, true_or, or_true, false_or, or_false, decide_true, decide_false, ne_eq, not_true_eq_false, not_false_eq_true, ki_0, ki_1, ki_2, ki_3, ki_4, ki_5, kb_m100, kb_m10, kb_m9, kb_m8, kb_m7, kb_m6, kb_m5, kb_m4, kb_m3, kb_m2, kb_6, kb_7, kb_8, kb_9, kb_10, kb_12, kb_13, kb_16, kb_27, kb_31, kb_32, kb_43, kb_45, kb_48, kb_57, kb_60, kb_63, kb_81, kb_97, kb_99, kb_100, kb_120, kb_126, ks_m1000, ks_243, ks_255, ks_729, ks_1000, ks_2000, ks_2187, ks_6561, ks_9840, ks_9841, kl_0, kl_1, kS, k00, nI_add, zS1, k471]
  refine ⟨vp_in_nI (by omega) (by omega), ?_⟩
  refine ⟨vp_in_nI (by omega) (by omega), ?_⟩
  refine c_m_factorStart hg (by omega) hY1 (fun w2 hY2 hm2 => ?_)
  simp only [hrun, hx, hnth, hput, hok, hcat2, hldI, hldL, hldR, hpI, hpL, hpA, hpR, hp1, hpV, hrtI, hrtL, hrtR, hrtV, hpN, hck, hrI, hrB, hrL, hrA, hwI, hwA, hwB, hrN, hfk, hfs, hrF, hwF, hcl, hfty, tyX1, tyX3, tyX6, tyX9, tyX10, tyJ0, tyJ4, hfit, hcmp, hnar, hres, hst, hacp, kz, kof, kn0, kn1, Bool.not_true, Bool.not_false, true_and, and_true, Nat.zero_add, Nat.reduceAdd, List.length_cons, List.length_nil, true_or, or_true, false_or, or_false, decide_true, decide_false, ne_eq, not_true_eq_false, not_false_eq_true, ki_0, ki_1, ki_2, ki_3, ki_4, ki_5, kb_m100, kb_m10, kb_m9, kb_m8, kb_m7, kb_m6, kb_m5, kb_m4, kb_m3, kb_m2, kb_6, kb_7, kb_8, kb_9, kb_10, kb_12, kb_13, kb_16, kb_27, kb_31, kb_32, kb_43, kb_45, kb_48, kb_57, kb_60, kb_63, kb_81, kb_97, kb_99, kb_100, kb_120, kb_126, ks_m1000, ks_243, ks_255, ks_729, ks_1000, ks_2000, ks_2187, ks_6561, ks_9840, ks_9841, kl_0, kl_1, kS, k00, nI_add]
  refine ⟨fun b538 => ?_, fun b538 => ?_⟩
  · skip
    exact h w2 _ _ _ _ (hI.st hX1 hm1 hY2 hm2 sp_factorStart_t) (by omega) (by omega) (by omega)
  · skip
    first | exact b538.elim | exact absurd rfl b538 | exact absurd ((lcmp_eq _ _).mpr rfl) b538
set_option maxRecDepth 100000 in
set_option maxHeartbeats 4000000 in
theorem law_11 (hg : hgo g) (hd : 40 ≤ d) {P : hPt} (hP : hCl (Γ g d) (some .boolean) tLaw lR P) {L : Nat} {xs : Nat → Int32} (hL : L ≤ 2560) {w0 : hWd} (k0 : w0 1000000 = .inl (10, L, .inl xs)) (hD0 : hDg w0) (hT0 : hTx2 w0) {i N c s : Nat} {w : hWd} {S : cS} (hI : lIv w0 w N S) (hi : i + 5 ≤ L) (hN : N ≤ 800000) (hc : 20 ≤ c) (hs : 8000 ≤ s) (h : ∀ w' N' c' s' S', lIv w0 w' N' S' → N' ≤ N + 20 → c ≤ c' + 20 → s ≤ s' + 8000 → P N' c' s' w' 1407 [some (.ref 1000000), some (.ref 0), some (.ref 47), some (.int (nI i))] []) : P N c s w 543 [some (.ref 1000000), some (.ref 0), some (.ref 47), some (.int (nI i))] [] := by
  have kS : w 1000000 = _ := (hI.2.2.2 1000000 (by omega)).trans k0
  obtain ⟨fs0, k00⟩ := hI.1.cl0
  refine hP 25 _ rfl _ _ _ _ _ _ ?_
  simp only [bLaw_25, hrun, hx, hnth, hput, hok, hcat2, hldI, hldL, hldR, hpI, hpL, hpA, hpR, hp1, hpV, hrtI, hrtL, hrtR, hrtV, hpN, hck, hrI, hrB, hrL, hrA, hwI, hwA, hwB, hrN, hfk, hfs, hrF, hwF, hcl, hfty, tyX1, tyX3, tyX6, tyX9, tyX10, tyJ0, tyJ4, hfit, hcmp, hnar, hres, hst, hacp, kz, kof, kn0, kn1, Bool.not_true, Bool.not_false, true_and, and_true, Nat.zero_add, Nat.reduceAdd, List.length_cons, List.length_nil, true_or, or_true, false_or, or_false, decide_true, decide_false, ne_eq, not_true_eq_false, not_false_eq_true, ki_0, ki_1, ki_2, ki_3, ki_4, ki_5, kb_m100, kb_m10, kb_m9, kb_m8, kb_m7, kb_m6, kb_m5, kb_m4, kb_m3, kb_m2, kb_6, kb_7, kb_8, kb_9, kb_10, kb_12, kb_13, kb_16, kb_27, kb_31, kb_32, kb_43, kb_45, kb_48, kb_57, kb_60, kb_63, kb_81, kb_97, kb_99, kb_100, kb_120, kb_126, ks_m1000, ks_243, ks_255, ks_729, ks_1000, ks_2000, ks_2187, ks_6561, ks_9840, ks_9841, kl_0, kl_1, kS, k00, nI_add]
  refine ⟨vp_in_nI (by omega) (by omega), ?_⟩
  refine ⟨vp_in_nI (by omega) (by omega), ?_⟩
  refine c_nextLyndon hg (by omega) hI.1 (fun w1 hX1 hm1 => ?_)
  have hY1 := hI.2.2.1.t hm1.t
  have zS1 : w1 1000000 = _ := (hm1 _ (by omega)).trans kS
  obtain ⟨fs1, k471⟩ := hY1.cl47
  simp only [hrun, hx, hnth, hput, hok, hcat2, hldI, hldL, hldR, hpI, hpL, hpA, hpR, hp1, hpV, hrtI, hrtL, hrtR, hrtV, hpN, hck, hrI, hrB, hrL, hrA, hwI, hwA, hwB, hrN, hfk, hfs, hrF, hwF, hcl, hfty, tyX1, tyX3, tyX6, tyX9, tyX10, tyJ0, tyJ4, hfit, hcmp, hnar, hres, hst, hacp, kz, kof, kn0, kn1, Bool.not_true, Bool.not_false, true_and, and_true, Nat.zero_add, Nat.reduceAdd, List.length_cons, List.length_nil, true_or, or_true, false_or, or_false, decide_true, decide_false, ne_eq, not_true_eq_false, not_false_eq_true, ki_0, ki_1, ki_2, ki_3, ki_4, ki_5, kb_m100, kb_m10, kb_m9, kb_m8, kb_m7, kb_m6, kb_m5, kb_m4, kb_m3, kb_m2, kb_6, kb_7, kb_8, kb_9, kb_10, kb_12, kb_13, kb_16, kb_27, kb_31, kb_32, kb_43, kb_45, kb_48, kb_57, kb_60, kb_63, kb_81, kb_97, kb_99, kb_100, kb_120, kb_126, ks_m1000, ks_243, ks_255, ks_729, ks_1000, ks_2000, ks_2187, ks_6561, ks_9840, ks_9841, kl_0, kl_1, kS, k00, nI_add, zS1, k471]
  refine ⟨vp_in_nI (by omega) (by omega), ?_⟩
  refine ⟨vp_in_nI (by omega) (by omega), ?_⟩
  refine c_m_nextLyndon hg (by omega) hY1 (fun w2 hY2 hm2 => ?_)
  simp only [hrun, hx, hnth, hput, hok, hcat2, hldI, hldL, hldR, hpI, hpL, hpA, hpR, hp1, hpV, hrtI, hrtL, hrtR, hrtV, hpN, hck, hrI, hrB, hrL, hrA, hwI, hwA, hwB, hrN, hfk, hfs, hrF, hwF, hcl, hfty, tyX1, tyX3, tyX6, tyX9, tyX10, tyJ0, tyJ4, hfit, hcmp, hnar, hres, hst, hacp, kz, kof, kn0, kn1, Bool.not_true, Bool.not_false, true_and, and_true, Nat.zero_add, Nat.reduceAdd, List.length_cons, List.length_nil, true_or, or_true, false_or, or_false, decide_true, decide_false, ne_eq, not_true_eq_false, not_false_eq_true, ki_0, ki_1, ki_2, ki_3, ki_4, ki_5, kb_m100, kb_m10, kb_m9, kb_m8, kb_m7, kb_m6, kb_m5, kb_m4, kb_m3, kb_m2, kb_6, kb_7, kb_8, kb_9, kb_10, kb_12, kb_13, kb_16, kb_27, kb_31, kb_32, kb_43, kb_45, kb_48, kb_57, kb_60, kb_63, kb_81, kb_97, kb_99, kb_100, kb_120, kb_126, ks_m1000, ks_243, ks_255, ks_729, ks_1000, ks_2000, ks_2187, ks_6561, ks_9840, ks_9841, kl_0, kl_1, kS, k00, nI_add]
  refine ⟨fun b571 => ?_, fun b571 => ?_⟩
  · skip
    exact h w2 _ _ _ _ (hI.st hX1 hm1 hY2 hm2 sp_nextLyndon_t) (by omega) (by omega) (by omega)
  · skip
    first | exact b571.elim | exact absurd rfl b571 | exact absurd ((lcmp_eq _ _).mpr rfl) b571
set_option maxRecDepth 100000 in
set_option maxHeartbeats 4000000 in
theorem law_12 (hg : hgo g) (hd : 40 ≤ d) {P : hPt} (hP : hCl (Γ g d) (some .boolean) tLaw lR P) {L : Nat} {xs : Nat → Int32} (hL : L ≤ 2560) {w0 : hWd} (k0 : w0 1000000 = .inl (10, L, .inl xs)) (hD0 : hDg w0) (hT0 : hTx2 w0) {i N c s : Nat} {w : hWd} {S : cS} (hI : lIv w0 w N S) (hi : i + 5 ≤ L) (hN : N ≤ 800000) (hc : 20 ≤ c) (hs : 8000 ≤ s) (h : ∀ w' N' c' s' S', lIv w0 w' N' S' → N' ≤ N + 20 → c ≤ c' + 20 → s ≤ s' + 8000 → P N' c' s' w' 1407 [some (.ref 1000000), some (.ref 0), some (.ref 47), some (.int (nI i))] []) : P N c s w 576 [some (.ref 1000000), some (.ref 0), some (.ref 47), some (.int (nI i))] [] := by
  have kS : w 1000000 = _ := (hI.2.2.2 1000000 (by omega)).trans k0
  obtain ⟨fs0, k00⟩ := hI.1.cl0
  refine hP 27 _ rfl _ _ _ _ _ _ ?_
  simp only [bLaw_27, hrun, hx, hnth, hput, hok, hcat2, hldI, hldL, hldR, hpI, hpL, hpA, hpR, hp1, hpV, hrtI, hrtL, hrtR, hrtV, hpN, hck, hrI, hrB, hrL, hrA, hwI, hwA, hwB, hrN, hfk, hfs, hrF, hwF, hcl, hfty, tyX1, tyX3, tyX6, tyX9, tyX10, tyJ0, tyJ4, hfit, hcmp, hnar, hres, hst, hacp, kz, kof, kn0, kn1, Bool.not_true, Bool.not_false, true_and, and_true, Nat.zero_add, Nat.reduceAdd, List.length_cons, List.length_nil, true_or, or_true, false_or, or_false, decide_true, decide_false, ne_eq, not_true_eq_false, not_false_eq_true, ki_0, ki_1, ki_2, ki_3, ki_4, ki_5, kb_m100, kb_m10, kb_m9, kb_m8, kb_m7, kb_m6, kb_m5, kb_m4, kb_m3, kb_m2, kb_6, kb_7, kb_8, kb_9, kb_10, kb_12, kb_13, kb_16, kb_27, kb_31, kb_32, kb_43, kb_45, kb_48, kb_57, kb_60, kb_63, kb_81, kb_97, kb_99, kb_100, kb_120, kb_126, ks_m1000, ks_243, ks_255, ks_729, ks_1000, ks_2000, ks_2187, ks_6561, ks_9840, ks_9841, kl_0, kl_1, kS, k00, nI_add]
  refine ⟨vp_in_nI (by omega) (by omega), ?_⟩
  refine c_lyndonCount hg (by omega) hI.1 (fun w1 hX1 hm1 => ?_)
  have hY1 := hI.2.2.1.t hm1.t
  have zS1 : w1 1000000 = _ := (hm1 _ (by omega)).trans kS
  obtain ⟨fs1, k471⟩ := hY1.cl47
  simp only [hrun, hx, hnth, hput, hok, hcat2, hldI, hldL, hldR, hpI, hpL, hpA, hpR, hp1, hpV, hrtI, hrtL, hrtR, hrtV, hpN, hck, hrI, hrB, hrL, hrA, hwI, hwA, hwB, hrN, hfk, hfs, hrF, hwF, hcl, hfty, tyX1, tyX3, tyX6, tyX9, tyX10, tyJ0, tyJ4, hfit, hcmp, hnar, hres, hst, hacp, kz, kof, kn0, kn1, Bool.not_true, Bool.not_false, true_and, and_true, Nat.zero_add, Nat.reduceAdd, List.length_cons, List.length_nil, true_or, or_true, false_or, or_false, decide_true, decide_false, ne_eq, not_true_eq_false, not_false_eq_true, ki_0, ki_1, ki_2, ki_3, ki_4, ki_5, kb_m100, kb_m10, kb_m9, kb_m8, kb_m7, kb_m6, kb_m5, kb_m4, kb_m3, kb_m2, kb_6, kb_7, kb_8, kb_9, kb_10, kb_12, kb_13, kb_16, kb_27, kb_31, kb_32, kb_43, kb_45, kb_48, kb_57, kb_60, kb_63, kb_81, kb_97, kb_99, kb_100, kb_120, kb_126, ks_m1000, ks_243, ks_255, ks_729, ks_1000, ks_2000, ks_2187, ks_6561, ks_9840, ks_9841, kl_0, kl_1, kS, k00, nI_add, zS1, k471]
  refine ⟨vp_in_nI (by omega) (by omega), ?_⟩
  refine c_m_lyndonCount hg (by omega) hY1 (fun w2 hY2 hm2 => ?_)
  simp only [hrun, hx, hnth, hput, hok, hcat2, hldI, hldL, hldR, hpI, hpL, hpA, hpR, hp1, hpV, hrtI, hrtL, hrtR, hrtV, hpN, hck, hrI, hrB, hrL, hrA, hwI, hwA, hwB, hrN, hfk, hfs, hrF, hwF, hcl, hfty, tyX1, tyX3, tyX6, tyX9, tyX10, tyJ0, tyJ4, hfit, hcmp, hnar, hres, hst, hacp, kz, kof, kn0, kn1, Bool.not_true, Bool.not_false, true_and, and_true, Nat.zero_add, Nat.reduceAdd, List.length_cons, List.length_nil, true_or, or_true, false_or, or_false, decide_true, decide_false, ne_eq, not_true_eq_false, not_false_eq_true, ki_0, ki_1, ki_2, ki_3, ki_4, ki_5, kb_m100, kb_m10, kb_m9, kb_m8, kb_m7, kb_m6, kb_m5, kb_m4, kb_m3, kb_m2, kb_6, kb_7, kb_8, kb_9, kb_10, kb_12, kb_13, kb_16, kb_27, kb_31, kb_32, kb_43, kb_45, kb_48, kb_57, kb_60, kb_63, kb_81, kb_97, kb_99, kb_100, kb_120, kb_126, ks_m1000, ks_243, ks_255, ks_729, ks_1000, ks_2000, ks_2187, ks_6561, ks_9840, ks_9841, kl_0, kl_1, kS, k00, nI_add]
  refine ⟨fun b594 => ?_, fun b594 => ?_⟩
  · skip
    exact h w2 _ _ _ _ (hI.st hX1 hm1 hY2 hm2 sp_lyndonCount_t) (by omega) (by omega) (by omega)
  · skip
    first | exact b594.elim | exact absurd rfl b594 | exact absurd ((lcmp_eq _ _).mpr rfl) b594
set_option maxRecDepth 100000 in
set_option maxHeartbeats 4000000 in
theorem law_13 (hg : hgo g) (hd : 40 ≤ d) {P : hPt} (hP : hCl (Γ g d) (some .boolean) tLaw lR P) {L : Nat} {xs : Nat → Int32} (hL : L ≤ 2560) {w0 : hWd} (k0 : w0 1000000 = .inl (10, L, .inl xs)) (hD0 : hDg w0) (hT0 : hTx2 w0) {i N c s : Nat} {w : hWd} {S : cS} (hI : lIv w0 w N S) (hi : i + 5 ≤ L) (hN : N ≤ 800000) (hc : 20 ≤ c) (hs : 8000 ≤ s) (h : ∀ w' N' c' s' S', lIv w0 w' N' S' → N' ≤ N + 20 → c ≤ c' + 20 → s ≤ s' + 8000 → P N' c' s' w' 1407 [some (.ref 1000000), some (.ref 0), some (.ref 47), some (.int (nI i))] []) : P N c s w 599 [some (.ref 1000000), some (.ref 0), some (.ref 47), some (.int (nI i))] [] := by
  have kS : w 1000000 = _ := (hI.2.2.2 1000000 (by omega)).trans k0
  obtain ⟨fs0, k00⟩ := hI.1.cl0
  refine hP 29 _ rfl _ _ _ _ _ _ ?_
  simp only [bLaw_29, hrun, hx, hnth, hput, hok, hcat2, hldI, hldL, hldR, hpI, hpL, hpA, hpR, hp1, hpV, hrtI, hrtL, hrtR, hrtV, hpN, hck, hrI, hrB, hrL, hrA, hwI, hwA, hwB, hrN, hfk, hfs, hrF, hwF, hcl, hfty, tyX1, tyX3, tyX6, tyX9, tyX10, tyJ0, tyJ4, hfit, hcmp, hnar, hres, hst, hacp, kz, kof, kn0, kn1, Bool.not_true, Bool.not_false, true_and, and_true, Nat.zero_add, Nat.reduceAdd, List.length_cons, List.length_nil, true_or, or_true, false_or, or_false, decide_true, decide_false, ne_eq, not_true_eq_false, not_false_eq_true, ki_0, ki_1, ki_2, ki_3, ki_4, ki_5, kb_m100, kb_m10, kb_m9, kb_m8, kb_m7, kb_m6, kb_m5, kb_m4, kb_m3, kb_m2, kb_6, kb_7, kb_8, kb_9, kb_10, kb_12, kb_13, kb_16, kb_27, kb_31, kb_32, kb_43, kb_45, kb_48, kb_57, kb_60, kb_63, kb_81, kb_97, kb_99, kb_100, kb_120, kb_126, ks_m1000, ks_243, ks_255, ks_729, ks_1000, ks_2000, ks_2187, ks_6561, ks_9840, ks_9841, kl_0, kl_1, kS, k00, nI_add]
  refine ⟨vp_in_nI (by omega) (by omega), ?_⟩
  refine ⟨vp_in_nI (by omega) (by omega), ?_⟩
  refine c_bracket hg (by omega) hI.1 (fun w1 hX1 hm1 => ?_)
  have hY1 := hI.2.2.1.t hm1.t
  have zS1 : w1 1000000 = _ := (hm1 _ (by omega)).trans kS
  obtain ⟨fs1, k471⟩ := hY1.cl47
  simp only [hrun, hx, hnth, hput, hok, hcat2, hldI, hldL, hldR, hpI, hpL, hpA, hpR, hp1, hpV, hrtI, hrtL, hrtR, hrtV, hpN, hck, hrI, hrB, hrL, hrA, hwI, hwA, hwB, hrN, hfk, hfs, hrF, hwF, hcl, hfty, tyX1, tyX3, tyX6, tyX9, tyX10, tyJ0, tyJ4, hfit, hcmp, hnar, hres, hst, hacp, kz, kof, kn0, kn1, Bool.not_true, Bool.not_false, true_and, and_true, Nat.zero_add, Nat.reduceAdd, List.length_cons, List.length_nil, true_or, or_true, false_or, or_false, decide_true, decide_false, ne_eq, not_true_eq_false, not_false_eq_true, ki_0, ki_1, ki_2, ki_3, ki_4, ki_5, kb_m100, kb_m10, kb_m9, kb_m8, kb_m7, kb_m6, kb_m5, kb_m4, kb_m3, kb_m2, kb_6, kb_7, kb_8, kb_9, kb_10, kb_12, kb_13, kb_16, kb_27, kb_31, kb_32, kb_43, kb_45, kb_48, kb_57, kb_60, kb_63, kb_81, kb_97, kb_99, kb_100, kb_120, kb_126, ks_m1000, ks_243, ks_255, ks_729, ks_1000, ks_2000, ks_2187, ks_6561, ks_9840, ks_9841, kl_0, kl_1, kS, k00, nI_add, zS1, k471]
  refine ⟨vp_in_nI (by omega) (by omega), ?_⟩
  refine ⟨vp_in_nI (by omega) (by omega), ?_⟩
  refine c_m_bracket hg (by omega) hY1 (fun w2 hY2 hm2 => ?_)
  simp only [hrun, hx, hnth, hput, hok, hcat2, hldI, hldL, hldR, hpI, hpL, hpA, hpR, hp1, hpV, hrtI, hrtL, hrtR, hrtV, hpN, hck, hrI, hrB, hrL, hrA, hwI, hwA, hwB, hrN, hfk, hfs, hrF, hwF, hcl, hfty, tyX1, tyX3, tyX6, tyX9, tyX10, tyJ0, tyJ4, hfit, hcmp, hnar, hres, hst, hacp, kz, kof, kn0, kn1, Bool.not_true, Bool.not_false, true_and, and_true, Nat.zero_add, Nat.reduceAdd, List.length_cons, List.length_nil, true_or, or_true, false_or, or_false, decide_true, decide_false, ne_eq, not_true_eq_false, not_false_eq_true, ki_0, ki_1, ki_2, ki_3, ki_4, ki_5, kb_m100, kb_m10, kb_m9, kb_m8, kb_m7, kb_m6, kb_m5, kb_m4, kb_m3, kb_m2, kb_6, kb_7, kb_8, kb_9, kb_10, kb_12, kb_13, kb_16, kb_27, kb_31, kb_32, kb_43, kb_45, kb_48, kb_57, kb_60, kb_63, kb_81, kb_97, kb_99, kb_100, kb_120, kb_126, ks_m1000, ks_243, ks_255, ks_729, ks_1000, ks_2000, ks_2187, ks_6561, ks_9840, ks_9841, kl_0, kl_1, kS, k00, nI_add]
  refine ⟨fun b627 => ?_, fun b627 => ?_⟩
  · skip
    exact h w2 _ _ _ _ (hI.st hX1 hm1 hY2 hm2 sp_bracket_t) (by omega) (by omega) (by omega)
  · skip
    first | exact b627.elim | exact absurd rfl b627 | exact absurd ((lcmp_eq _ _).mpr rfl) b627
set_option maxRecDepth 100000 in
set_option maxHeartbeats 4000000 in
theorem law_14 (hg : hgo g) (hd : 40 ≤ d) {P : hPt} (hP : hCl (Γ g d) (some .boolean) tLaw lR P) {L : Nat} {xs : Nat → Int32} (hL : L ≤ 2560) {w0 : hWd} (k0 : w0 1000000 = .inl (10, L, .inl xs)) (hD0 : hDg w0) (hT0 : hTx2 w0) {i N c s : Nat} {w : hWd} {S : cS} (hI : lIv w0 w N S) (hi : i + 5 ≤ L) (hN : N ≤ 800000) (hc : 20 ≤ c) (hs : 8000 ≤ s) (h : ∀ w' N' c' s' S', lIv w0 w' N' S' → N' ≤ N + 20 → c ≤ c' + 20 → s ≤ s' + 8000 → P N' c' s' w' 1407 [some (.ref 1000000), some (.ref 0), some (.ref 47), some (.int (nI i))] []) : P N c s w 632 [some (.ref 1000000), some (.ref 0), some (.ref 47), some (.int (nI i))] [] := by
  have kS : w 1000000 = _ := (hI.2.2.2 1000000 (by omega)).trans k0
  obtain ⟨fs0, k00⟩ := hI.1.cl0
  refine hP 31 _ rfl _ _ _ _ _ _ ?_
  simp only [bLaw_31, hrun, hx, hnth, hput, hok, hcat2, hldI, hldL, hldR, hpI, hpL, hpA, hpR, hp1, hpV, hrtI, hrtL, hrtR, hrtV, hpN, hck, hrI, hrB, hrL, hrA, hwI, hwA, hwB, hrN, hfk, hfs, hrF, hwF, hcl, hfty, tyX1, tyX3, tyX6, tyX9, tyX10, tyJ0, tyJ4, hfit, hcmp, hnar, hres, hst, hacp, kz, kof, kn0, kn1, Bool.not_true, Bool.not_false, true_and, and_true, Nat.zero_add, Nat.reduceAdd, List.length_cons, List.length_nil, true_or, or_true, false_or, or_false, decide_true, decide_false, ne_eq, not_true_eq_false, not_false_eq_true, ki_0, ki_1, ki_2, ki_3, ki_4, ki_5, kb_m100, kb_m10, kb_m9, kb_m8, kb_m7, kb_m6, kb_m5, kb_m4, kb_m3, kb_m2, kb_6, kb_7, kb_8, kb_9, kb_10, kb_12, kb_13, kb_16, kb_27, kb_31, kb_32, kb_43, kb_45, kb_48, kb_57, kb_60, kb_63, kb_81, kb_97, kb_99, kb_100, kb_120, kb_126, ks_m1000, ks_243, ks_255, ks_729, ks_1000, ks_2000, ks_2187, ks_6561, ks_9840, ks_9841, kl_0, kl_1, kS, k00, nI_add]
  refine ⟨vp_in_nI (by omega) (by omega), ?_⟩
  refine ⟨vp_in_nI (by omega) (by omega), ?_⟩
  refine c_basis hg (by omega) hI.1 (fun w1 hX1 hm1 => ?_)
  have hY1 := hI.2.2.1.t hm1.t
  have zS1 : w1 1000000 = _ := (hm1 _ (by omega)).trans kS
  obtain ⟨fs1, k471⟩ := hY1.cl47
  simp only [hrun, hx, hnth, hput, hok, hcat2, hldI, hldL, hldR, hpI, hpL, hpA, hpR, hp1, hpV, hrtI, hrtL, hrtR, hrtV, hpN, hck, hrI, hrB, hrL, hrA, hwI, hwA, hwB, hrN, hfk, hfs, hrF, hwF, hcl, hfty, tyX1, tyX3, tyX6, tyX9, tyX10, tyJ0, tyJ4, hfit, hcmp, hnar, hres, hst, hacp, kz, kof, kn0, kn1, Bool.not_true, Bool.not_false, true_and, and_true, Nat.zero_add, Nat.reduceAdd, List.length_cons, List.length_nil, true_or, or_true, false_or, or_false, decide_true, decide_false, ne_eq, not_true_eq_false, not_false_eq_true, ki_0, ki_1, ki_2, ki_3, ki_4, ki_5, kb_m100, kb_m10, kb_m9, kb_m8, kb_m7, kb_m6, kb_m5, kb_m4, kb_m3, kb_m2, kb_6, kb_7, kb_8, kb_9, kb_10, kb_12, kb_13, kb_16, kb_27, kb_31, kb_32, kb_43, kb_45, kb_48, kb_57, kb_60, kb_63, kb_81, kb_97, kb_99, kb_100, kb_120, kb_126, ks_m1000, ks_243, ks_255, ks_729, ks_1000, ks_2000, ks_2187, ks_6561, ks_9840, ks_9841, kl_0, kl_1, kS, k00, nI_add, zS1, k471]
  refine ⟨vp_in_nI (by omega) (by omega), ?_⟩
  refine ⟨vp_in_nI (by omega) (by omega), ?_⟩
  refine c_m_basis hg (by omega) hY1 (fun w2 hY2 hm2 => ?_)
  simp only [hrun, hx, hnth, hput, hok, hcat2, hldI, hldL, hldR, hpI, hpL, hpA, hpR, hp1, hpV, hrtI, hrtL, hrtR, hrtV, hpN, hck, hrI, hrB, hrL, hrA, hwI, hwA, hwB, hrN, hfk, hfs, hrF, hwF, hcl, hfty, tyX1, tyX3, tyX6, tyX9, tyX10, tyJ0, tyJ4, hfit, hcmp, hnar, hres, hst, hacp, kz, kof, kn0, kn1, Bool.not_true, Bool.not_false, true_and, and_true, Nat.zero_add, Nat.reduceAdd, List.length_cons, List.length_nil, true_or, or_true, false_or, or_false, decide_true, decide_false, ne_eq, not_true_eq_false, not_false_eq_true, ki_0, ki_1, ki_2, ki_3, ki_4, ki_5, kb_m100, kb_m10, kb_m9, kb_m8, kb_m7, kb_m6, kb_m5, kb_m4, kb_m3, kb_m2, kb_6, kb_7, kb_8, kb_9, kb_10, kb_12, kb_13, kb_16, kb_27, kb_31, kb_32, kb_43, kb_45, kb_48, kb_57, kb_60, kb_63, kb_81, kb_97, kb_99, kb_100, kb_120, kb_126, ks_m1000, ks_243, ks_255, ks_729, ks_1000, ks_2000, ks_2187, ks_6561, ks_9840, ks_9841, kl_0, kl_1, kS, k00, nI_add]
  refine ⟨fun b660 => ?_, fun b660 => ?_⟩
  · skip
    exact h w2 _ _ _ _ (hI.st hX1 hm1 hY2 hm2 sp_basis_t) (by omega) (by omega) (by omega)
  · skip
    first | exact b660.elim | exact absurd rfl b660 | exact absurd ((lcmp_eq _ _).mpr rfl) b660
set_option maxRecDepth 100000 in
set_option maxHeartbeats 4000000 in
theorem law_15 (hg : hgo g) (hd : 40 ≤ d) {P : hPt} (hP : hCl (Γ g d) (some .boolean) tLaw lR P) {L : Nat} {xs : Nat → Int32} (hL : L ≤ 2560) {w0 : hWd} (k0 : w0 1000000 = .inl (10, L, .inl xs)) (hD0 : hDg w0) (hT0 : hTx2 w0) {i N c s : Nat} {w : hWd} {S : cS} (hI : lIv w0 w N S) (hi : i + 5 ≤ L) (hN : N ≤ 800000) (hc : 20 ≤ c) (hs : 8000 ≤ s) (h : ∀ w' N' c' s' S', lIv w0 w' N' S' → N' ≤ N + 20 → c ≤ c' + 20 → s ≤ s' + 8000 → P N' c' s' w' 1407 [some (.ref 1000000), some (.ref 0), some (.ref 47), some (.int (nI i))] []) : P N c s w 665 [some (.ref 1000000), some (.ref 0), some (.ref 47), some (.int (nI i))] [] := by
  have kS : w 1000000 = _ := (hI.2.2.2 1000000 (by omega)).trans k0
  obtain ⟨fs0, k00⟩ := hI.1.cl0
  refine hP 33 _ rfl _ _ _ _ _ _ ?_
  simp only [bLaw_33, hrun, hx, hnth, hput, hok, hcat2, hldI, hldL, hldR, hpI, hpL, hpA, hpR, hp1, hpV, hrtI, hrtL, hrtR, hrtV, hpN, hck, hrI, hrB, hrL, hrA, hwI, hwA, hwB, hrN, hfk, hfs, hrF, hwF, hcl, hfty, tyX1, tyX3, tyX6, tyX9, tyX10, tyJ0, tyJ4, hfit, hcmp, hnar, hres, hst, hacp, kz, kof, kn0, kn1, Bool.not_true, Bool.not_false, true_and, and_true, Nat.zero_add, Nat.reduceAdd, List.length_cons, List.length_nil, true_or, or_true, false_or, or_false, decide_true, decide_false, ne_eq, not_true_eq_false, not_false_eq_true, ki_0, ki_1, ki_2, ki_3, ki_4, ki_5, kb_m100, kb_m10, kb_m9, kb_m8, kb_m7, kb_m6, kb_m5, kb_m4, kb_m3, kb_m2, kb_6, kb_7, kb_8, kb_9, kb_10, kb_12, kb_13, kb_16, kb_27, kb_31, kb_32, kb_43, kb_45, kb_48, kb_57, kb_60, kb_63, kb_81, kb_97, kb_99, kb_100, kb_120, kb_126, ks_m1000, ks_243, ks_255, ks_729, ks_1000, ks_2000, ks_2187, ks_6561, ks_9840, ks_9841, kl_0, kl_1, kS, k00, nI_add]
  refine ⟨vp_in_nI (by omega) (by omega), ?_⟩
  refine c_clearPolynomial hg (by omega) hI.1 (fun w1 hX1 hm1 => ?_)
  have hY1 := hI.2.2.1.t hm1.t
  have zS1 : w1 1000000 = _ := (hm1 _ (by omega)).trans kS
  obtain ⟨fs1, k471⟩ := hY1.cl47
  simp only [hrun, hx, hnth, hput, hok, hcat2, hldI, hldL, hldR, hpI, hpL, hpA, hpR, hp1, hpV, hrtI, hrtL, hrtR, hrtV, hpN, hck, hrI, hrB, hrL, hrA, hwI, hwA, hwB, hrN, hfk, hfs, hrF, hwF, hcl, hfty, tyX1, tyX3, tyX6, tyX9, tyX10, tyJ0, tyJ4, hfit, hcmp, hnar, hres, hst, hacp, kz, kof, kn0, kn1, Bool.not_true, Bool.not_false, true_and, and_true, Nat.zero_add, Nat.reduceAdd, List.length_cons, List.length_nil, true_or, or_true, false_or, or_false, decide_true, decide_false, ne_eq, not_true_eq_false, not_false_eq_true, ki_0, ki_1, ki_2, ki_3, ki_4, ki_5, kb_m100, kb_m10, kb_m9, kb_m8, kb_m7, kb_m6, kb_m5, kb_m4, kb_m3, kb_m2, kb_6, kb_7, kb_8, kb_9, kb_10, kb_12, kb_13, kb_16, kb_27, kb_31, kb_32, kb_43, kb_45, kb_48, kb_57, kb_60, kb_63, kb_81, kb_97, kb_99, kb_100, kb_120, kb_126, ks_m1000, ks_243, ks_255, ks_729, ks_1000, ks_2000, ks_2187, ks_6561, ks_9840, ks_9841, kl_0, kl_1, kS, k00, nI_add, zS1, k471]
  refine ⟨vp_in_nI (by omega) (by omega), ?_⟩
  refine c_m_clearPolynomial hg (by omega) hY1 (fun w2 hY2 hm2 => ?_)
  simp only [hrun, hx, hnth, hput, hok, hcat2, hldI, hldL, hldR, hpI, hpL, hpA, hpR, hp1, hpV, hrtI, hrtL, hrtR, hrtV, hpN, hck, hrI, hrB, hrL, hrA, hwI, hwA, hwB, hrN, hfk, hfs, hrF, hwF, hcl, hfty, tyX1, tyX3, tyX6, tyX9, tyX10, tyJ0, tyJ4, hfit, hcmp, hnar, hres, hst, hacp, kz, kof, kn0, kn1, Bool.not_true, Bool.not_false, true_and, and_true, Nat.zero_add, Nat.reduceAdd, List.length_cons, List.length_nil, true_or, or_true, false_or, or_false, decide_true, decide_false, ne_eq, not_true_eq_false, not_false_eq_true, ki_0, ki_1, ki_2, ki_3, ki_4, ki_5, kb_m100, kb_m10, kb_m9, kb_m8, kb_m7, kb_m6, kb_m5, kb_m4, kb_m3, kb_m2, kb_6, kb_7, kb_8, kb_9, kb_10, kb_12, kb_13, kb_16, kb_27, kb_31, kb_32, kb_43, kb_45, kb_48, kb_57, kb_60, kb_63, kb_81, kb_97, kb_99, kb_100, kb_120, kb_126, ks_m1000, ks_243, ks_255, ks_729, ks_1000, ks_2000, ks_2187, ks_6561, ks_9840, ks_9841, kl_0, kl_1, kS, k00, nI_add]
  refine ⟨fun b683 => ?_, fun b683 => ?_⟩
  · skip
    exact h w2 _ _ _ _ (hI.st hX1 hm1 hY2 hm2 sp_clearPolynomial_t) (by omega) (by omega) (by omega)
  · skip
    first | exact b683.elim | exact absurd rfl b683 | exact absurd ((lcmp_eq _ _).mpr rfl) b683
set_option maxRecDepth 100000 in
set_option maxHeartbeats 4000000 in
theorem law_16 (hg : hgo g) (hd : 40 ≤ d) {P : hPt} (hP : hCl (Γ g d) (some .boolean) tLaw lR P) {L : Nat} {xs : Nat → Int32} (hL : L ≤ 2560) {w0 : hWd} (k0 : w0 1000000 = .inl (10, L, .inl xs)) (hD0 : hDg w0) (hT0 : hTx2 w0) {i N c s : Nat} {w : hWd} {S : cS} (hI : lIv w0 w N S) (hi : i + 5 ≤ L) (hN : N ≤ 800000) (hc : 20 ≤ c) (hs : 8000 ≤ s) (h : ∀ w' N' c' s' S', lIv w0 w' N' S' → N' ≤ N + 20 → c ≤ c' + 20 → s ≤ s' + 8000 → P N' c' s' w' 1407 [some (.ref 1000000), some (.ref 0), some (.ref 47), some (.int (nI i))] []) : P N c s w 688 [some (.ref 1000000), some (.ref 0), some (.ref 47), some (.int (nI i))] [] := by
  have kS : w 1000000 = _ := (hI.2.2.2 1000000 (by omega)).trans k0
  obtain ⟨fs0, k00⟩ := hI.1.cl0
  refine hP 35 _ rfl _ _ _ _ _ _ ?_
  simp only [bLaw_35, hrun, hx, hnth, hput, hok, hcat2, hldI, hldL, hldR, hpI, hpL, hpA, hpR, hp1, hpV, hrtI, hrtL, hrtR, hrtV, hpN, hck, hrI, hrB, hrL, hrA, hwI, hwA, hwB, hrN, hfk, hfs, hrF, hwF, hcl, hfty, tyX1, tyX3, tyX6, tyX9, tyX10, tyJ0, tyJ4, hfit, hcmp, hnar, hres, hst, hacp, kz, kof, kn0, kn1, Bool.not_true, Bool.not_false, true_and, and_true, Nat.zero_add, Nat.reduceAdd, List.length_cons, List.length_nil, true_or, or_true, false_or, or_false, decide_true, decide_false, ne_eq, not_true_eq_false, not_false_eq_true, ki_0, ki_1, ki_2, ki_3, ki_4, ki_5, kb_m100, kb_m10, kb_m9, kb_m8, kb_m7, kb_m6, kb_m5, kb_m4, kb_m3, kb_m2, kb_6, kb_7, kb_8, kb_9, kb_10, kb_12, kb_13, kb_16, kb_27, kb_31, kb_32, kb_43, kb_45, kb_48, kb_57, kb_60, kb_63, kb_81, kb_97, kb_99, kb_100, kb_120, kb_126, ks_m1000, ks_243, ks_255, ks_729, ks_1000, ks_2000, ks_2187, ks_6561, ks_9840, ks_9841, kl_0, kl_1, kS, k00, nI_add]
  refine ⟨vp_in_nI (by omega) (by omega), ?_⟩
  refine ⟨vp_in_nI (by omega) (by omega), ?_⟩
  refine ⟨vp_in_nI (by omega) (by omega), ?_⟩
  refine c_addTerm hg (by omega) hI.1 (fun w1 hX1 hm1 => ?_)
  have hY1 := hI.2.2.1.t hm1.t
  have zS1 : w1 1000000 = _ := (hm1 _ (by omega)).trans kS
  obtain ⟨fs1, k471⟩ := hY1.cl47
  simp only [hrun, hx, hnth, hput, hok, hcat2, hldI, hldL, hldR, hpI, hpL, hpA, hpR, hp1, hpV, hrtI, hrtL, hrtR, hrtV, hpN, hck, hrI, hrB, hrL, hrA, hwI, hwA, hwB, hrN, hfk, hfs, hrF, hwF, hcl, hfty, tyX1, tyX3, tyX6, tyX9, tyX10, tyJ0, tyJ4, hfit, hcmp, hnar, hres, hst, hacp, kz, kof, kn0, kn1, Bool.not_true, Bool.not_false, true_and, and_true, Nat.zero_add, Nat.reduceAdd, List.length_cons, List.length_nil, true_or, or_true, false_or, or_false, decide_true, decide_false, ne_eq, not_true_eq_false, not_false_eq_true, ki_0, ki_1, ki_2, ki_3, ki_4, ki_5, kb_m100, kb_m10, kb_m9, kb_m8, kb_m7, kb_m6, kb_m5, kb_m4, kb_m3, kb_m2, kb_6, kb_7, kb_8, kb_9, kb_10, kb_12, kb_13, kb_16, kb_27, kb_31, kb_32, kb_43, kb_45, kb_48, kb_57, kb_60, kb_63, kb_81, kb_97, kb_99, kb_100, kb_120, kb_126, ks_m1000, ks_243, ks_255, ks_729, ks_1000, ks_2000, ks_2187, ks_6561, ks_9840, ks_9841, kl_0, kl_1, kS, k00, nI_add, zS1, k471]
  refine ⟨vp_in_nI (by omega) (by omega), ?_⟩
  refine ⟨vp_in_nI (by omega) (by omega), ?_⟩
  refine ⟨vp_in_nI (by omega) (by omega), ?_⟩
  refine c_m_addTerm hg (by omega) hY1 (fun w2 hY2 hm2 => ?_)
  simp only [hrun, hx, hnth, hput, hok, hcat2, hldI, hldL, hldR, hpI, hpL, hpA, hpR, hp1, hpV, hrtI, hrtL, hrtR, hrtV, hpN, hck, hrI, hrB, hrL, hrA, hwI, hwA, hwB, hrN, hfk, hfs, hrF, hwF, hcl, hfty, tyX1, tyX3, tyX6, tyX9, tyX10, tyJ0, tyJ4, hfit, hcmp, hnar, hres, hst, hacp, kz, kof, kn0, kn1, Bool.not_true, Bool.not_false, true_and, and_true, Nat.zero_add, Nat.reduceAdd, List.length_cons, List.length_nil, true_or, or_true, false_or, or_false, decide_true, decide_false, ne_eq, not_true_eq_false, not_false_eq_true, ki_0, ki_1, ki_2, ki_3, ki_4, ki_5, kb_m100, kb_m10, kb_m9, kb_m8, kb_m7, kb_m6, kb_m5, kb_m4, kb_m3, kb_m2, kb_6, kb_7, kb_8, kb_9, kb_10, kb_12, kb_13, kb_16, kb_27, kb_31, kb_32, kb_43, kb_45, kb_48, kb_57, kb_60, kb_63, kb_81, kb_97, kb_99, kb_100, kb_120, kb_126, ks_m1000, ks_243, ks_255, ks_729, ks_1000, ks_2000, ks_2187, ks_6561, ks_9840, ks_9841, kl_0, kl_1, kS, k00, nI_add]
  refine ⟨fun b726 => ?_, fun b726 => ?_⟩
  · skip
    exact h w2 _ _ _ _ (hI.st hX1 hm1 hY2 hm2 sp_addTerm_t) (by omega) (by omega) (by omega)
  · skip
    first | exact b726.elim | exact absurd rfl b726 | exact absurd ((lcmp_eq _ _).mpr rfl) b726
set_option maxRecDepth 100000 in
set_option maxHeartbeats 4000000 in
theorem law_17 (hg : hgo g) (hd : 40 ≤ d) {P : hPt} (hP : hCl (Γ g d) (some .boolean) tLaw lR P) {L : Nat} {xs : Nat → Int32} (hL : L ≤ 2560) {w0 : hWd} (k0 : w0 1000000 = .inl (10, L, .inl xs)) (hD0 : hDg w0) (hT0 : hTx2 w0) {i N c s : Nat} {w : hWd} {S : cS} (hI : lIv w0 w N S) (hi : i + 5 ≤ L) (hN : N ≤ 800000) (hc : 20 ≤ c) (hs : 8000 ≤ s) (h : ∀ w' N' c' s' S', lIv w0 w' N' S' → N' ≤ N + 20 → c ≤ c' + 20 → s ≤ s' + 8000 → P N' c' s' w' 1407 [some (.ref 1000000), some (.ref 0), some (.ref 47), some (.int (nI i))] []) : P N c s w 731 [some (.ref 1000000), some (.ref 0), some (.ref 47), some (.int (nI i))] [] := by
  have kS : w 1000000 = _ := (hI.2.2.2 1000000 (by omega)).trans k0
  obtain ⟨fs0, k00⟩ := hI.1.cl0
  refine hP 37 _ rfl _ _ _ _ _ _ ?_
  simp only [bLaw_37, hrun, hx, hnth, hput, hok, hcat2, hldI, hldL, hldR, hpI, hpL, hpA, hpR, hp1, hpV, hrtI, hrtL, hrtR, hrtV, hpN, hck, hrI, hrB, hrL, hrA, hwI, hwA, hwB, hrN, hfk, hfs, hrF, hwF, hcl, hfty, tyX1, tyX3, tyX6, tyX9, tyX10, tyJ0, tyJ4, hfit, hcmp, hnar, hres, hst, hacp, kz, kof, kn0, kn1, Bool.not_true, Bool.not_false, true_and, and_true, Nat.zero_add, Nat.reduceAdd, List.length_cons, List.length_nil, true_or, or_true, false_or, or_false, decide_true, decide_false, ne_eq, not_true_eq_false, not_false_eq_true, ki_0, ki_1, ki_2, ki_3, ki_4, ki_5, kb_m100, kb_m10, kb_m9, kb_m8, kb_m7, kb_m6, kb_m5, kb_m4, kb_m3, kb_m2, kb_6, kb_7, kb_8, kb_9, kb_10, kb_12, kb_13, kb_16, kb_27, kb_31, kb_32, kb_43, kb_45, kb_48, kb_57, kb_60, kb_63, kb_81, kb_97, kb_99, kb_100, kb_120, kb_126, ks_m1000, ks_243, ks_255, ks_729, ks_1000, ks_2000, ks_2187, ks_6561, ks_9840, ks_9841, kl_0, kl_1, kS, k00, nI_add]
  refine ⟨vp_in_nI (by omega) (by omega), ?_⟩
  refine ⟨vp_in_nI (by omega) (by omega), ?_⟩
  refine c_coefficient hg (by omega) hI.1 (fun w1 hX1 hm1 => ?_)
  have hY1 := hI.2.2.1.t hm1.t
  have zS1 : w1 1000000 = _ := (hm1 _ (by omega)).trans kS
  obtain ⟨fs1, k471⟩ := hY1.cl47
  simp only [hrun, hx, hnth, hput, hok, hcat2, hldI, hldL, hldR, hpI, hpL, hpA, hpR, hp1, hpV, hrtI, hrtL, hrtR, hrtV, hpN, hck, hrI, hrB, hrL, hrA, hwI, hwA, hwB, hrN, hfk, hfs, hrF, hwF, hcl, hfty, tyX1, tyX3, tyX6, tyX9, tyX10, tyJ0, tyJ4, hfit, hcmp, hnar, hres, hst, hacp, kz, kof, kn0, kn1, Bool.not_true, Bool.not_false, true_and, and_true, Nat.zero_add, Nat.reduceAdd, List.length_cons, List.length_nil, true_or, or_true, false_or, or_false, decide_true, decide_false, ne_eq, not_true_eq_false, not_false_eq_true, ki_0, ki_1, ki_2, ki_3, ki_4, ki_5, kb_m100, kb_m10, kb_m9, kb_m8, kb_m7, kb_m6, kb_m5, kb_m4, kb_m3, kb_m2, kb_6, kb_7, kb_8, kb_9, kb_10, kb_12, kb_13, kb_16, kb_27, kb_31, kb_32, kb_43, kb_45, kb_48, kb_57, kb_60, kb_63, kb_81, kb_97, kb_99, kb_100, kb_120, kb_126, ks_m1000, ks_243, ks_255, ks_729, ks_1000, ks_2000, ks_2187, ks_6561, ks_9840, ks_9841, kl_0, kl_1, kS, k00, nI_add, zS1, k471]
  refine ⟨vp_in_nI (by omega) (by omega), ?_⟩
  refine ⟨vp_in_nI (by omega) (by omega), ?_⟩
  refine c_m_coefficient hg (by omega) hY1 (fun w2 hY2 hm2 => ?_)
  simp only [hrun, hx, hnth, hput, hok, hcat2, hldI, hldL, hldR, hpI, hpL, hpA, hpR, hp1, hpV, hrtI, hrtL, hrtR, hrtV, hpN, hck, hrI, hrB, hrL, hrA, hwI, hwA, hwB, hrN, hfk, hfs, hrF, hwF, hcl, hfty, tyX1, tyX3, tyX6, tyX9, tyX10, tyJ0, tyJ4, hfit, hcmp, hnar, hres, hst, hacp, kz, kof, kn0, kn1, Bool.not_true, Bool.not_false, true_and, and_true, Nat.zero_add, Nat.reduceAdd, List.length_cons, List.length_nil, true_or, or_true, false_or, or_false, decide_true, decide_false, ne_eq, not_true_eq_false, not_false_eq_true, ki_0, ki_1, ki_2, ki_3, ki_4, ki_5, kb_m100, kb_m10, kb_m9, kb_m8, kb_m7, kb_m6, kb_m5, kb_m4, kb_m3, kb_m2, kb_6, kb_7, kb_8, kb_9, kb_10, kb_12, kb_13, kb_16, kb_27, kb_31, kb_32, kb_43, kb_45, kb_48, kb_57, kb_60, kb_63, kb_81, kb_97, kb_99, kb_100, kb_120, kb_126, ks_m1000, ks_243, ks_255, ks_729, ks_1000, ks_2000, ks_2187, ks_6561, ks_9840, ks_9841, kl_0, kl_1, kS, k00, nI_add]
  refine ⟨fun b760 => ?_, fun b760 => ?_⟩
  · skip
    exact h w2 _ _ _ _ (hI.st hX1 hm1 hY2 hm2 sp_coefficient_t) (by omega) (by omega) (by omega)
  · skip
    first | exact b760.elim | exact absurd rfl b760 | exact absurd ((lcmp_eq _ _).mpr rfl) b760
set_option maxRecDepth 100000 in
set_option maxHeartbeats 4000000 in
theorem law_18 (hg : hgo g) (hd : 40 ≤ d) {P : hPt} (hP : hCl (Γ g d) (some .boolean) tLaw lR P) {L : Nat} {xs : Nat → Int32} (hL : L ≤ 2560) {w0 : hWd} (k0 : w0 1000000 = .inl (10, L, .inl xs)) (hD0 : hDg w0) (hT0 : hTx2 w0) {i N c s : Nat} {w : hWd} {S : cS} (hI : lIv w0 w N S) (hi : i + 5 ≤ L) (hN : N ≤ 800000) (hc : 20 ≤ c) (hs : 8000 ≤ s) (h : ∀ w' N' c' s' S', lIv w0 w' N' S' → N' ≤ N + 20 → c ≤ c' + 20 → s ≤ s' + 8000 → P N' c' s' w' 1407 [some (.ref 1000000), some (.ref 0), some (.ref 47), some (.int (nI i))] []) : P N c s w 765 [some (.ref 1000000), some (.ref 0), some (.ref 47), some (.int (nI i))] [] := by
  have kS : w 1000000 = _ := (hI.2.2.2 1000000 (by omega)).trans k0
  obtain ⟨fs0, k00⟩ := hI.1.cl0
  refine hP 39 _ rfl _ _ _ _ _ _ ?_
  simp only [bLaw_39, hrun, hx, hnth, hput, hok, hcat2, hldI, hldL, hldR, hpI, hpL, hpA, hpR, hp1, hpV, hrtI, hrtL, hrtR, hrtV, hpN, hck, hrI, hrB, hrL, hrA, hwI, hwA, hwB, hrN, hfk, hfs, hrF, hwF, hcl, hfty, tyX1, tyX3, tyX6, tyX9, tyX10, tyJ0, tyJ4, hfit, hcmp, hnar, hres, hst, hacp, kz, kof, kn0, kn1, Bool.not_true, Bool.not_false, true_and, and_true, Nat.zero_add, Nat.reduceAdd, List.length_cons, List.length_nil, true_or, or_true, false_or, or_false, decide_true, decide_false, ne_eq, not_true_eq_false, not_false_eq_true, ki_0, ki_1, ki_2, ki_3, ki_4, ki_5, kb_m100, kb_m10, kb_m9, kb_m8, kb_m7, kb_m6, kb_m5, kb_m4, kb_m3, kb_m2, kb_6, kb_7, kb_8, kb_9, kb_10, kb_12, kb_13, kb_16, kb_27, kb_31, kb_32, kb_43, kb_45, kb_48, kb_57, kb_60, kb_63, kb_81, kb_97, kb_99, kb_100, kb_120, kb_126, ks_m1000, ks_243, ks_255, ks_729, ks_1000, ks_2000, ks_2187, ks_6561, ks_9840, ks_9841, kl_0, kl_1, kS, k00, nI_add]
  refine ⟨vp_in_nI (by omega) (by omega), ?_⟩
  refine c_termCount hg (by omega) hI.1 (fun w1 hX1 hm1 => ?_)
  have hY1 := hI.2.2.1.t hm1.t
  have zS1 : w1 1000000 = _ := (hm1 _ (by omega)).trans kS
  obtain ⟨fs1, k471⟩ := hY1.cl47
  simp only [hrun, hx, hnth, hput, hok, hcat2, hldI, hldL, hldR, hpI, hpL, hpA, hpR, hp1, hpV, hrtI, hrtL, hrtR, hrtV, hpN, hck, hrI, hrB, hrL, hrA, hwI, hwA, hwB, hrN, hfk, hfs, hrF, hwF, hcl, hfty, tyX1, tyX3, tyX6, tyX9, tyX10, tyJ0, tyJ4, hfit, hcmp, hnar, hres, hst, hacp, kz, kof, kn0, kn1, Bool.not_true, Bool.not_false, true_and, and_true, Nat.zero_add, Nat.reduceAdd, List.length_cons, List.length_nil, true_or, or_true, false_or, or_false, decide_true, decide_false, ne_eq, not_true_eq_false, not_false_eq_true, ki_0, ki_1, ki_2, ki_3, ki_4, ki_5, kb_m100, kb_m10, kb_m9, kb_m8, kb_m7, kb_m6, kb_m5, kb_m4, kb_m3, kb_m2, kb_6, kb_7, kb_8, kb_9, kb_10, kb_12, kb_13, kb_16, kb_27, kb_31, kb_32, kb_43, kb_45, kb_48, kb_57, kb_60, kb_63, kb_81, kb_97, kb_99, kb_100, kb_120, kb_126, ks_m1000, ks_243, ks_255, ks_729, ks_1000, ks_2000, ks_2187, ks_6561, ks_9840, ks_9841, kl_0, kl_1, kS, k00, nI_add, zS1, k471]
  refine ⟨vp_in_nI (by omega) (by omega), ?_⟩
  refine c_m_termCount hg (by omega) hY1 (fun w2 hY2 hm2 => ?_)
  simp only [hrun, hx, hnth, hput, hok, hcat2, hldI, hldL, hldR, hpI, hpL, hpA, hpR, hp1, hpV, hrtI, hrtL, hrtR, hrtV, hpN, hck, hrI, hrB, hrL, hrA, hwI, hwA, hwB, hrN, hfk, hfs, hrF, hwF, hcl, hfty, tyX1, tyX3, tyX6, tyX9, tyX10, tyJ0, tyJ4, hfit, hcmp, hnar, hres, hst, hacp, kz, kof, kn0, kn1, Bool.not_true, Bool.not_false, true_and, and_true, Nat.zero_add, Nat.reduceAdd, List.length_cons, List.length_nil, true_or, or_true, false_or, or_false, decide_true, decide_false, ne_eq, not_true_eq_false, not_false_eq_true, ki_0, ki_1, ki_2, ki_3, ki_4, ki_5, kb_m100, kb_m10, kb_m9, kb_m8, kb_m7, kb_m6, kb_m5, kb_m4, kb_m3, kb_m2, kb_6, kb_7, kb_8, kb_9, kb_10, kb_12, kb_13, kb_16, kb_27, kb_31, kb_32, kb_43, kb_45, kb_48, kb_57, kb_60, kb_63, kb_81, kb_97, kb_99, kb_100, kb_120, kb_126, ks_m1000, ks_243, ks_255, ks_729, ks_1000, ks_2000, ks_2187, ks_6561, ks_9840, ks_9841, kl_0, kl_1, kS, k00, nI_add]
  refine ⟨fun b783 => ?_, fun b783 => ?_⟩
  · skip
    exact h w2 _ _ _ _ (hI.st hX1 hm1 hY2 hm2 sp_termCount_t) (by omega) (by omega) (by omega)
  · skip
    first | exact b783.elim | exact absurd rfl b783 | exact absurd ((lcmp_eq _ _).mpr rfl) b783
set_option maxRecDepth 100000 in
set_option maxHeartbeats 4000000 in
theorem law_19 (hg : hgo g) (hd : 40 ≤ d) {P : hPt} (hP : hCl (Γ g d) (some .boolean) tLaw lR P) {L : Nat} {xs : Nat → Int32} (hL : L ≤ 2560) {w0 : hWd} (k0 : w0 1000000 = .inl (10, L, .inl xs)) (hD0 : hDg w0) (hT0 : hTx2 w0) {i N c s : Nat} {w : hWd} {S : cS} (hI : lIv w0 w N S) (hi : i + 5 ≤ L) (hN : N ≤ 800000) (hc : 20 ≤ c) (hs : 8000 ≤ s) (h : ∀ w' N' c' s' S', lIv w0 w' N' S' → N' ≤ N + 20 → c ≤ c' + 20 → s ≤ s' + 8000 → P N' c' s' w' 1407 [some (.ref 1000000), some (.ref 0), some (.ref 47), some (.int (nI i))] []) : P N c s w 788 [some (.ref 1000000), some (.ref 0), some (.ref 47), some (.int (nI i))] [] := by
  have kS : w 1000000 = _ := (hI.2.2.2 1000000 (by omega)).trans k0
  obtain ⟨fs0, k00⟩ := hI.1.cl0
  refine hP 41 _ rfl _ _ _ _ _ _ ?_
  simp only [bLaw_41, hrun, hx, hnth, hput, hok, hcat2, hldI, hldL, hldR, hpI, hpL, hpA, hpR, hp1, hpV, hrtI, hrtL, hrtR, hrtV, hpN, hck, hrI, hrB, hrL, hrA, hwI, hwA, hwB, hrN, hfk, hfs, hrF, hwF, hcl, hfty, tyX1, tyX3, tyX6, tyX9, tyX10, tyJ0, tyJ4, hfit, hcmp, hnar, hres, hst, hacp, kz, kof, kn0, kn1, Bool.not_true, Bool.not_false, true_and, and_true, Nat.zero_add, Nat.reduceAdd, List.length_cons, List.length_nil, true_or, or_true, false_or, or_false, decide_true, decide_false, ne_eq, not_true_eq_false, not_false_eq_true, ki_0, ki_1, ki_2, ki_3, ki_4, ki_5, kb_m100, kb_m10, kb_m9, kb_m8, kb_m7, kb_m6, kb_m5, kb_m4, kb_m3, kb_m2, kb_6, kb_7, kb_8, kb_9, kb_10, kb_12, kb_13, kb_16, kb_27, kb_31, kb_32, kb_43, kb_45, kb_48, kb_57, kb_60, kb_63, kb_81, kb_97, kb_99, kb_100, kb_120, kb_126, ks_m1000, ks_243, ks_255, ks_729, ks_1000, ks_2000, ks_2187, ks_6561, ks_9840, ks_9841, kl_0, kl_1, kS, k00, nI_add]
  refine ⟨vp_in_nI (by omega) (by omega), ?_⟩
  refine ⟨vp_in_nI (by omega) (by omega), ?_⟩
  refine c_termLength hg (by omega) hI.1 (fun w1 hX1 hm1 => ?_)
  have hY1 := hI.2.2.1.t hm1.t
  have zS1 : w1 1000000 = _ := (hm1 _ (by omega)).trans kS
  obtain ⟨fs1, k471⟩ := hY1.cl47
  simp only [hrun, hx, hnth, hput, hok, hcat2, hldI, hldL, hldR, hpI, hpL, hpA, hpR, hp1, hpV, hrtI, hrtL, hrtR, hrtV, hpN, hck, hrI, hrB, hrL, hrA, hwI, hwA, hwB, hrN, hfk, hfs, hrF, hwF, hcl, hfty, tyX1, tyX3, tyX6, tyX9, tyX10, tyJ0, tyJ4, hfit, hcmp, hnar, hres, hst, hacp, kz, kof, kn0, kn1, Bool.not_true, Bool.not_false, true_and, and_true, Nat.zero_add, Nat.reduceAdd, List.length_cons, List.length_nil, true_or, or_true, false_or, or_false, decide_true, decide_false, ne_eq, not_true_eq_false, not_false_eq_true, ki_0, ki_1, ki_2, ki_3, ki_4, ki_5, kb_m100, kb_m10, kb_m9, kb_m8, kb_m7, kb_m6, kb_m5, kb_m4, kb_m3, kb_m2, kb_6, kb_7, kb_8, kb_9, kb_10, kb_12, kb_13, kb_16, kb_27, kb_31, kb_32, kb_43, kb_45, kb_48, kb_57, kb_60, kb_63, kb_81, kb_97, kb_99, kb_100, kb_120, kb_126, ks_m1000, ks_243, ks_255, ks_729, ks_1000, ks_2000, ks_2187, ks_6561, ks_9840, ks_9841, kl_0, kl_1, kS, k00, nI_add, zS1, k471]
  refine ⟨vp_in_nI (by omega) (by omega), ?_⟩
  refine ⟨vp_in_nI (by omega) (by omega), ?_⟩
  refine c_m_termLength hg (by omega) hY1 (fun w2 hY2 hm2 => ?_)
  simp only [hrun, hx, hnth, hput, hok, hcat2, hldI, hldL, hldR, hpI, hpL, hpA, hpR, hp1, hpV, hrtI, hrtL, hrtR, hrtV, hpN, hck, hrI, hrB, hrL, hrA, hwI, hwA, hwB, hrN, hfk, hfs, hrF, hwF, hcl, hfty, tyX1, tyX3, tyX6, tyX9, tyX10, tyJ0, tyJ4, hfit, hcmp, hnar, hres, hst, hacp, kz, kof, kn0, kn1, Bool.not_true, Bool.not_false, true_and, and_true, Nat.zero_add, Nat.reduceAdd, List.length_cons, List.length_nil, true_or, or_true, false_or, or_false, decide_true, decide_false, ne_eq, not_true_eq_false, not_false_eq_true, ki_0, ki_1, ki_2, ki_3, ki_4, ki_5, kb_m100, kb_m10, kb_m9, kb_m8, kb_m7, kb_m6, kb_m5, kb_m4, kb_m3, kb_m2, kb_6, kb_7, kb_8, kb_9, kb_10, kb_12, kb_13, kb_16, kb_27, kb_31, kb_32, kb_43, kb_45, kb_48, kb_57, kb_60, kb_63, kb_81, kb_97, kb_99, kb_100, kb_120, kb_126, ks_m1000, ks_243, ks_255, ks_729, ks_1000, ks_2000, ks_2187, ks_6561, ks_9840, ks_9841, kl_0, kl_1, kS, k00, nI_add]
  refine ⟨fun b816 => ?_, fun b816 => ?_⟩
  · skip
    exact h w2 _ _ _ _ (hI.st hX1 hm1 hY2 hm2 sp_termLength_t) (by omega) (by omega) (by omega)
  · skip
    first | exact b816.elim | exact absurd rfl b816 | exact absurd ((lcmp_eq _ _).mpr rfl) b816
set_option maxRecDepth 100000 in
set_option maxHeartbeats 4000000 in
theorem law_20 (hg : hgo g) (hd : 40 ≤ d) {P : hPt} (hP : hCl (Γ g d) (some .boolean) tLaw lR P) {L : Nat} {xs : Nat → Int32} (hL : L ≤ 2560) {w0 : hWd} (k0 : w0 1000000 = .inl (10, L, .inl xs)) (hD0 : hDg w0) (hT0 : hTx2 w0) {i N c s : Nat} {w : hWd} {S : cS} (hI : lIv w0 w N S) (hi : i + 5 ≤ L) (hN : N ≤ 800000) (hc : 20 ≤ c) (hs : 8000 ≤ s) (h : ∀ w' N' c' s' S', lIv w0 w' N' S' → N' ≤ N + 20 → c ≤ c' + 20 → s ≤ s' + 8000 → P N' c' s' w' 1407 [some (.ref 1000000), some (.ref 0), some (.ref 47), some (.int (nI i))] []) : P N c s w 821 [some (.ref 1000000), some (.ref 0), some (.ref 47), some (.int (nI i))] [] := by
  have kS : w 1000000 = _ := (hI.2.2.2 1000000 (by omega)).trans k0
  obtain ⟨fs0, k00⟩ := hI.1.cl0
  refine hP 43 _ rfl _ _ _ _ _ _ ?_
  simp only [bLaw_43, hrun, hx, hnth, hput, hok, hcat2, hldI, hldL, hldR, hpI, hpL, hpA, hpR, hp1, hpV, hrtI, hrtL, hrtR, hrtV, hpN, hck, hrI, hrB, hrL, hrA, hwI, hwA, hwB, hrN, hfk, hfs, hrF, hwF, hcl, hfty, tyX1, tyX3, tyX6, tyX9, tyX10, tyJ0, tyJ4, hfit, hcmp, hnar, hres, hst, hacp, kz, kof, kn0, kn1, Bool.not_true, Bool.not_false, true_and, and_true, Nat.zero_add, Nat.reduceAdd, List.length_cons, List.length_nil, true_or, or_true, false_or, or_false, decide_true, decide_false, ne_eq, not_true_eq_false, not_false_eq_true, ki_0, ki_1, ki_2, ki_3, ki_4, ki_5, kb_m100, kb_m10, kb_m9, kb_m8, kb_m7, kb_m6, kb_m5, kb_m4, kb_m3, kb_m2, kb_6, kb_7, kb_8, kb_9, kb_10, kb_12, kb_13, kb_16, kb_27, kb_31, kb_32, kb_43, kb_45, kb_48, kb_57, kb_60, kb_63, kb_81, kb_97, kb_99, kb_100, kb_120, kb_126, ks_m1000, ks_243, ks_255, ks_729, ks_1000, ks_2000, ks_2187, ks_6561, ks_9840, ks_9841, kl_0, kl_1, kS, k00, nI_add]
  refine ⟨vp_in_nI (by omega) (by omega), ?_⟩
  refine ⟨vp_in_nI (by omega) (by omega), ?_⟩
  refine ⟨vp_in_nI (by omega) (by omega), ?_⟩
  refine c_termLetter hg (by omega) hI.1 (fun w1 hX1 hm1 => ?_)
  have hY1 := hI.2.2.1.t hm1.t
  have zS1 : w1 1000000 = _ := (hm1 _ (by omega)).trans kS
  obtain ⟨fs1, k471⟩ := hY1.cl47
  simp only [hrun, hx, hnth, hput, hok, hcat2, hldI, hldL, hldR, hpI, hpL, hpA, hpR, hp1, hpV, hrtI, hrtL, hrtR, hrtV, hpN, hck, hrI, hrB, hrL, hrA, hwI, hwA, hwB, hrN, hfk, hfs, hrF, hwF, hcl, hfty, tyX1, tyX3, tyX6, tyX9, tyX10, tyJ0, tyJ4, hfit, hcmp, hnar, hres, hst, hacp, kz, kof, kn0, kn1, Bool.not_true, Bool.not_false, true_and, and_true, Nat.zero_add, Nat.reduceAdd, List.length_cons, List.length_nil, true_or, or_true, false_or, or_false, decide_true, decide_false, ne_eq, not_true_eq_false, not_false_eq_true, ki_0, ki_1, ki_2, ki_3, ki_4, ki_5, kb_m100, kb_m10, kb_m9, kb_m8, kb_m7, kb_m6, kb_m5, kb_m4, kb_m3, kb_m2, kb_6, kb_7, kb_8, kb_9, kb_10, kb_12, kb_13, kb_16, kb_27, kb_31, kb_32, kb_43, kb_45, kb_48, kb_57, kb_60, kb_63, kb_81, kb_97, kb_99, kb_100, kb_120, kb_126, ks_m1000, ks_243, ks_255, ks_729, ks_1000, ks_2000, ks_2187, ks_6561, ks_9840, ks_9841, kl_0, kl_1, kS, k00, nI_add, zS1, k471]
  refine ⟨vp_in_nI (by omega) (by omega), ?_⟩
  refine ⟨vp_in_nI (by omega) (by omega), ?_⟩
  refine ⟨vp_in_nI (by omega) (by omega), ?_⟩
  refine c_m_termLetter hg (by omega) hY1 (fun w2 hY2 hm2 => ?_)
  simp only [hrun, hx, hnth, hput, hok, hcat2, hldI, hldL, hldR, hpI, hpL, hpA, hpR, hp1, hpV, hrtI, hrtL, hrtR, hrtV, hpN, hck, hrI, hrB, hrL, hrA, hwI, hwA, hwB, hrN, hfk, hfs, hrF, hwF, hcl, hfty, tyX1, tyX3, tyX6, tyX9, tyX10, tyJ0, tyJ4, hfit, hcmp, hnar, hres, hst, hacp, kz, kof, kn0, kn1, Bool.not_true, Bool.not_false, true_and, and_true, Nat.zero_add, Nat.reduceAdd, List.length_cons, List.length_nil, true_or, or_true, false_or, or_false, decide_true, decide_false, ne_eq, not_true_eq_false, not_false_eq_true, ki_0, ki_1, ki_2, ki_3, ki_4, ki_5, kb_m100, kb_m10, kb_m9, kb_m8, kb_m7, kb_m6, kb_m5, kb_m4, kb_m3, kb_m2, kb_6, kb_7, kb_8, kb_9, kb_10, kb_12, kb_13, kb_16, kb_27, kb_31, kb_32, kb_43, kb_45, kb_48, kb_57, kb_60, kb_63, kb_81, kb_97, kb_99, kb_100, kb_120, kb_126, ks_m1000, ks_243, ks_255, ks_729, ks_1000, ks_2000, ks_2187, ks_6561, ks_9840, ks_9841, kl_0, kl_1, kS, k00, nI_add]
  refine ⟨fun b859 => ?_, fun b859 => ?_⟩
  · skip
    exact h w2 _ _ _ _ (hI.st hX1 hm1 hY2 hm2 sp_termLetter_t) (by omega) (by omega) (by omega)
  · skip
    first | exact b859.elim | exact absurd rfl b859 | exact absurd ((lcmp_eq _ _).mpr rfl) b859
set_option maxRecDepth 100000 in
set_option maxHeartbeats 4000000 in
theorem law_21 (hg : hgo g) (hd : 40 ≤ d) {P : hPt} (hP : hCl (Γ g d) (some .boolean) tLaw lR P) {L : Nat} {xs : Nat → Int32} (hL : L ≤ 2560) {w0 : hWd} (k0 : w0 1000000 = .inl (10, L, .inl xs)) (hD0 : hDg w0) (hT0 : hTx2 w0) {i N c s : Nat} {w : hWd} {S : cS} (hI : lIv w0 w N S) (hi : i + 5 ≤ L) (hN : N ≤ 800000) (hc : 20 ≤ c) (hs : 8000 ≤ s) (h : ∀ w' N' c' s' S', lIv w0 w' N' S' → N' ≤ N + 20 → c ≤ c' + 20 → s ≤ s' + 8000 → P N' c' s' w' 1407 [some (.ref 1000000), some (.ref 0), some (.ref 47), some (.int (nI i))] []) : P N c s w 864 [some (.ref 1000000), some (.ref 0), some (.ref 47), some (.int (nI i))] [] := by
  have kS : w 1000000 = _ := (hI.2.2.2 1000000 (by omega)).trans k0
  obtain ⟨fs0, k00⟩ := hI.1.cl0
  refine hP 45 _ rfl _ _ _ _ _ _ ?_
  simp only [bLaw_45, hrun, hx, hnth, hput, hok, hcat2, hldI, hldL, hldR, hpI, hpL, hpA, hpR, hp1, hpV, hrtI, hrtL, hrtR, hrtV, hpN, hck, hrI, hrB, hrL, hrA, hwI, hwA, hwB, hrN, hfk, hfs, hrF, hwF, hcl, hfty, tyX1, tyX3, tyX6, tyX9, tyX10, tyJ0, tyJ4, hfit, hcmp, hnar, hres, hst, hacp, kz, kof, kn0, kn1, Bool.not_true, Bool.not_false, true_and, and_true, Nat.zero_add, Nat.reduceAdd, List.length_cons, List.length_nil, true_or, or_true, false_or, or_false, decide_true, decide_false, ne_eq, not_true_eq_false, not_false_eq_true, ki_0, ki_1, ki_2, ki_3, ki_4, ki_5, kb_m100, kb_m10, kb_m9, kb_m8, kb_m7, kb_m6, kb_m5, kb_m4, kb_m3, kb_m2, kb_6, kb_7, kb_8, kb_9, kb_10, kb_12, kb_13, kb_16, kb_27, kb_31, kb_32, kb_43, kb_45, kb_48, kb_57, kb_60, kb_63, kb_81, kb_97, kb_99, kb_100, kb_120, kb_126, ks_m1000, ks_243, ks_255, ks_729, ks_1000, ks_2000, ks_2187, ks_6561, ks_9840, ks_9841, kl_0, kl_1, kS, k00, nI_add]
  refine ⟨vp_in_nI (by omega) (by omega), ?_⟩
  refine ⟨vp_in_nI (by omega) (by omega), ?_⟩
  refine c_termCoefficient hg (by omega) hI.1 (fun w1 hX1 hm1 => ?_)
  have hY1 := hI.2.2.1.t hm1.t
  have zS1 : w1 1000000 = _ := (hm1 _ (by omega)).trans kS
  obtain ⟨fs1, k471⟩ := hY1.cl47
  simp only [hrun, hx, hnth, hput, hok, hcat2, hldI, hldL, hldR, hpI, hpL, hpA, hpR, hp1, hpV, hrtI, hrtL, hrtR, hrtV, hpN, hck, hrI, hrB, hrL, hrA, hwI, hwA, hwB, hrN, hfk, hfs, hrF, hwF, hcl, hfty, tyX1, tyX3, tyX6, tyX9, tyX10, tyJ0, tyJ4, hfit, hcmp, hnar, hres, hst, hacp, kz, kof, kn0, kn1, Bool.not_true, Bool.not_false, true_and, and_true, Nat.zero_add, Nat.reduceAdd, List.length_cons, List.length_nil, true_or, or_true, false_or, or_false, decide_true, decide_false, ne_eq, not_true_eq_false, not_false_eq_true, ki_0, ki_1, ki_2, ki_3, ki_4, ki_5, kb_m100, kb_m10, kb_m9, kb_m8, kb_m7, kb_m6, kb_m5, kb_m4, kb_m3, kb_m2, kb_6, kb_7, kb_8, kb_9, kb_10, kb_12, kb_13, kb_16, kb_27, kb_31, kb_32, kb_43, kb_45, kb_48, kb_57, kb_60, kb_63, kb_81, kb_97, kb_99, kb_100, kb_120, kb_126, ks_m1000, ks_243, ks_255, ks_729, ks_1000, ks_2000, ks_2187, ks_6561, ks_9840, ks_9841, kl_0, kl_1, kS, k00, nI_add, zS1, k471]
  refine ⟨vp_in_nI (by omega) (by omega), ?_⟩
  refine ⟨vp_in_nI (by omega) (by omega), ?_⟩
  refine c_m_termCoefficient hg (by omega) hY1 (fun w2 hY2 hm2 => ?_)
  simp only [hrun, hx, hnth, hput, hok, hcat2, hldI, hldL, hldR, hpI, hpL, hpA, hpR, hp1, hpV, hrtI, hrtL, hrtR, hrtV, hpN, hck, hrI, hrB, hrL, hrA, hwI, hwA, hwB, hrN, hfk, hfs, hrF, hwF, hcl, hfty, tyX1, tyX3, tyX6, tyX9, tyX10, tyJ0, tyJ4, hfit, hcmp, hnar, hres, hst, hacp, kz, kof, kn0, kn1, Bool.not_true, Bool.not_false, true_and, and_true, Nat.zero_add, Nat.reduceAdd, List.length_cons, List.length_nil, true_or, or_true, false_or, or_false, decide_true, decide_false, ne_eq, not_true_eq_false, not_false_eq_true, ki_0, ki_1, ki_2, ki_3, ki_4, ki_5, kb_m100, kb_m10, kb_m9, kb_m8, kb_m7, kb_m6, kb_m5, kb_m4, kb_m3, kb_m2, kb_6, kb_7, kb_8, kb_9, kb_10, kb_12, kb_13, kb_16, kb_27, kb_31, kb_32, kb_43, kb_45, kb_48, kb_57, kb_60, kb_63, kb_81, kb_97, kb_99, kb_100, kb_120, kb_126, ks_m1000, ks_243, ks_255, ks_729, ks_1000, ks_2000, ks_2187, ks_6561, ks_9840, ks_9841, kl_0, kl_1, kS, k00, nI_add]
  refine ⟨fun b893 => ?_, fun b893 => ?_⟩
  · skip
    exact h w2 _ _ _ _ (hI.st hX1 hm1 hY2 hm2 sp_termCoefficient_t) (by omega) (by omega) (by omega)
  · skip
    first | exact b893.elim | exact absurd rfl b893 | exact absurd ((lcmp_eq _ _).mpr rfl) b893
set_option maxRecDepth 100000 in
set_option maxHeartbeats 4000000 in
theorem law_22 (hg : hgo g) (hd : 40 ≤ d) {P : hPt} (hP : hCl (Γ g d) (some .boolean) tLaw lR P) {L : Nat} {xs : Nat → Int32} (hL : L ≤ 2560) {w0 : hWd} (k0 : w0 1000000 = .inl (10, L, .inl xs)) (hD0 : hDg w0) (hT0 : hTx2 w0) {i N c s : Nat} {w : hWd} {S : cS} (hI : lIv w0 w N S) (hi : i + 5 ≤ L) (hN : N ≤ 800000) (hc : 20 ≤ c) (hs : 8000 ≤ s) (h : ∀ w' N' c' s' S', lIv w0 w' N' S' → N' ≤ N + 20 → c ≤ c' + 20 → s ≤ s' + 8000 → P N' c' s' w' 1407 [some (.ref 1000000), some (.ref 0), some (.ref 47), some (.int (nI i))] []) : P N c s w 898 [some (.ref 1000000), some (.ref 0), some (.ref 47), some (.int (nI i))] [] := by
  have kS : w 1000000 = _ := (hI.2.2.2 1000000 (by omega)).trans k0
  obtain ⟨fs0, k00⟩ := hI.1.cl0
  refine hP 47 _ rfl _ _ _ _ _ _ ?_
  simp only [bLaw_47, hrun, hx, hnth, hput, hok, hcat2, hldI, hldL, hldR, hpI, hpL, hpA, hpR, hp1, hpV, hrtI, hrtL, hrtR, hrtV, hpN, hck, hrI, hrB, hrL, hrA, hwI, hwA, hwB, hrN, hfk, hfs, hrF, hwF, hcl, hfty, tyX1, tyX3, tyX6, tyX9, tyX10, tyJ0, tyJ4, hfit, hcmp, hnar, hres, hst, hacp, kz, kof, kn0, kn1, Bool.not_true, Bool.not_false, true_and, and_true, Nat.zero_add, Nat.reduceAdd, List.length_cons, List.length_nil, true_or, or_true, false_or, or_false, decide_true, decide_false, ne_eq, not_true_eq_false, not_false_eq_true, ki_0, ki_1, ki_2, ki_3, ki_4, ki_5, kb_m100, kb_m10, kb_m9, kb_m8, kb_m7, kb_m6, kb_m5, kb_m4, kb_m3, kb_m2, kb_6, kb_7, kb_8, kb_9, kb_10, kb_12, kb_13, kb_16, kb_27, kb_31, kb_32, kb_43, kb_45, kb_48, kb_57, kb_60, kb_63, kb_81, kb_97, kb_99, kb_100, kb_120, kb_126, ks_m1000, ks_243, ks_255, ks_729, ks_1000, ks_2000, ks_2187, ks_6561, ks_9840, ks_9841, kl_0, kl_1, kS, k00, nI_add]
  refine ⟨vp_in_nI (by omega) (by omega), ?_⟩
  refine ⟨vp_in_nI (by omega) (by omega), ?_⟩
  refine ⟨vp_in_nI (by omega) (by omega), ?_⟩
  refine c_add hg (by omega) hI.1 (fun w1 hX1 hm1 => ?_)
  have hY1 := hI.2.2.1.t hm1.t
  have zS1 : w1 1000000 = _ := (hm1 _ (by omega)).trans kS
  obtain ⟨fs1, k471⟩ := hY1.cl47
  simp only [hrun, hx, hnth, hput, hok, hcat2, hldI, hldL, hldR, hpI, hpL, hpA, hpR, hp1, hpV, hrtI, hrtL, hrtR, hrtV, hpN, hck, hrI, hrB, hrL, hrA, hwI, hwA, hwB, hrN, hfk, hfs, hrF, hwF, hcl, hfty, tyX1, tyX3, tyX6, tyX9, tyX10, tyJ0, tyJ4, hfit, hcmp, hnar, hres, hst, hacp, kz, kof, kn0, kn1, Bool.not_true, Bool.not_false, true_and, and_true, Nat.zero_add, Nat.reduceAdd, List.length_cons, List.length_nil, true_or, or_true, false_or, or_false, decide_true, decide_false, ne_eq, not_true_eq_false, not_false_eq_true, ki_0, ki_1, ki_2, ki_3, ki_4, ki_5, kb_m100, kb_m10, kb_m9, kb_m8, kb_m7, kb_m6, kb_m5, kb_m4, kb_m3, kb_m2, kb_6, kb_7, kb_8, kb_9, kb_10, kb_12, kb_13, kb_16, kb_27, kb_31, kb_32, kb_43, kb_45, kb_48, kb_57, kb_60, kb_63, kb_81, kb_97, kb_99, kb_100, kb_120, kb_126, ks_m1000, ks_243, ks_255, ks_729, ks_1000, ks_2000, ks_2187, ks_6561, ks_9840, ks_9841, kl_0, kl_1, kS, k00, nI_add, zS1, k471]
  refine ⟨vp_in_nI (by omega) (by omega), ?_⟩
  refine ⟨vp_in_nI (by omega) (by omega), ?_⟩
  refine ⟨vp_in_nI (by omega) (by omega), ?_⟩
  refine c_m_add hg (by omega) hY1 (fun w2 hY2 hm2 => ?_)
  simp only [hrun, hx, hnth, hput, hok, hcat2, hldI, hldL, hldR, hpI, hpL, hpA, hpR, hp1, hpV, hrtI, hrtL, hrtR, hrtV, hpN, hck, hrI, hrB, hrL, hrA, hwI, hwA, hwB, hrN, hfk, hfs, hrF, hwF, hcl, hfty, tyX1, tyX3, tyX6, tyX9, tyX10, tyJ0, tyJ4, hfit, hcmp, hnar, hres, hst, hacp, kz, kof, kn0, kn1, Bool.not_true, Bool.not_false, true_and, and_true, Nat.zero_add, Nat.reduceAdd, List.length_cons, List.length_nil, true_or, or_true, false_or, or_false, decide_true, decide_false, ne_eq, not_true_eq_false, not_false_eq_true, ki_0, ki_1, ki_2, ki_3, ki_4, ki_5, kb_m100, kb_m10, kb_m9, kb_m8, kb_m7, kb_m6, kb_m5, kb_m4, kb_m3, kb_m2, kb_6, kb_7, kb_8, kb_9, kb_10, kb_12, kb_13, kb_16, kb_27, kb_31, kb_32, kb_43, kb_45, kb_48, kb_57, kb_60, kb_63, kb_81, kb_97, kb_99, kb_100, kb_120, kb_126, ks_m1000, ks_243, ks_255, ks_729, ks_1000, ks_2000, ks_2187, ks_6561, ks_9840, ks_9841, kl_0, kl_1, kS, k00, nI_add]
  refine ⟨fun b936 => ?_, fun b936 => ?_⟩
  · skip
    exact h w2 _ _ _ _ (hI.st hX1 hm1 hY2 hm2 sp_add_t) (by omega) (by omega) (by omega)
  · skip
    first | exact b936.elim | exact absurd rfl b936 | exact absurd ((lcmp_eq _ _).mpr rfl) b936
set_option maxRecDepth 100000 in
set_option maxHeartbeats 4000000 in
theorem law_23 (hg : hgo g) (hd : 40 ≤ d) {P : hPt} (hP : hCl (Γ g d) (some .boolean) tLaw lR P) {L : Nat} {xs : Nat → Int32} (hL : L ≤ 2560) {w0 : hWd} (k0 : w0 1000000 = .inl (10, L, .inl xs)) (hD0 : hDg w0) (hT0 : hTx2 w0) {i N c s : Nat} {w : hWd} {S : cS} (hI : lIv w0 w N S) (hi : i + 5 ≤ L) (hN : N ≤ 800000) (hc : 20 ≤ c) (hs : 8000 ≤ s) (h : ∀ w' N' c' s' S', lIv w0 w' N' S' → N' ≤ N + 20 → c ≤ c' + 20 → s ≤ s' + 8000 → P N' c' s' w' 1407 [some (.ref 1000000), some (.ref 0), some (.ref 47), some (.int (nI i))] []) : P N c s w 941 [some (.ref 1000000), some (.ref 0), some (.ref 47), some (.int (nI i))] [] := by
  have kS : w 1000000 = _ := (hI.2.2.2 1000000 (by omega)).trans k0
  obtain ⟨fs0, k00⟩ := hI.1.cl0
  refine hP 49 _ rfl _ _ _ _ _ _ ?_
  simp only [bLaw_49, hrun, hx, hnth, hput, hok, hcat2, hldI, hldL, hldR, hpI, hpL, hpA, hpR, hp1, hpV, hrtI, hrtL, hrtR, hrtV, hpN, hck, hrI, hrB, hrL, hrA, hwI, hwA, hwB, hrN, hfk, hfs, hrF, hwF, hcl, hfty, tyX1, tyX3, tyX6, tyX9, tyX10, tyJ0, tyJ4, hfit, hcmp, hnar, hres, hst, hacp, kz, kof, kn0, kn1, Bool.not_true, Bool.not_false, true_and, and_true, Nat.zero_add, Nat.reduceAdd, List.length_cons, List.length_nil, true_or, or_true, false_or, or_false, decide_true, decide_false, ne_eq, not_true_eq_false, not_false_eq_true, ki_0, ki_1, ki_2, ki_3, ki_4, ki_5, kb_m100, kb_m10, kb_m9, kb_m8, kb_m7, kb_m6, kb_m5, kb_m4, kb_m3, kb_m2, kb_6, kb_7, kb_8, kb_9, kb_10, kb_12, kb_13, kb_16, kb_27, kb_31, kb_32, kb_43, kb_45, kb_48, kb_57, kb_60, kb_63, kb_81, kb_97, kb_99, kb_100, kb_120, kb_126, ks_m1000, ks_243, ks_255, ks_729, ks_1000, ks_2000, ks_2187, ks_6561, ks_9840, ks_9841, kl_0, kl_1, kS, k00, nI_add]
  refine ⟨vp_in_nI (by omega) (by omega), ?_⟩
  refine ⟨vp_in_nI (by omega) (by omega), ?_⟩
  refine ⟨vp_in_nI (by omega) (by omega), ?_⟩
  refine c_scale hg (by omega) hI.1 (fun w1 hX1 hm1 => ?_)
  have hY1 := hI.2.2.1.t hm1.t
  have zS1 : w1 1000000 = _ := (hm1 _ (by omega)).trans kS
  obtain ⟨fs1, k471⟩ := hY1.cl47
  simp only [hrun, hx, hnth, hput, hok, hcat2, hldI, hldL, hldR, hpI, hpL, hpA, hpR, hp1, hpV, hrtI, hrtL, hrtR, hrtV, hpN, hck, hrI, hrB, hrL, hrA, hwI, hwA, hwB, hrN, hfk, hfs, hrF, hwF, hcl, hfty, tyX1, tyX3, tyX6, tyX9, tyX10, tyJ0, tyJ4, hfit, hcmp, hnar, hres, hst, hacp, kz, kof, kn0, kn1, Bool.not_true, Bool.not_false, true_and, and_true, Nat.zero_add, Nat.reduceAdd, List.length_cons, List.length_nil, true_or, or_true, false_or, or_false, decide_true, decide_false, ne_eq, not_true_eq_false, not_false_eq_true, ki_0, ki_1, ki_2, ki_3, ki_4, ki_5, kb_m100, kb_m10, kb_m9, kb_m8, kb_m7, kb_m6, kb_m5, kb_m4, kb_m3, kb_m2, kb_6, kb_7, kb_8, kb_9, kb_10, kb_12, kb_13, kb_16, kb_27, kb_31, kb_32, kb_43, kb_45, kb_48, kb_57, kb_60, kb_63, kb_81, kb_97, kb_99, kb_100, kb_120, kb_126, ks_m1000, ks_243, ks_255, ks_729, ks_1000, ks_2000, ks_2187, ks_6561, ks_9840, ks_9841, kl_0, kl_1, kS, k00, nI_add, zS1, k471]
  refine ⟨vp_in_nI (by omega) (by omega), ?_⟩
  refine ⟨vp_in_nI (by omega) (by omega), ?_⟩
  refine ⟨vp_in_nI (by omega) (by omega), ?_⟩
  refine c_m_scale hg (by omega) hY1 (fun w2 hY2 hm2 => ?_)
  simp only [hrun, hx, hnth, hput, hok, hcat2, hldI, hldL, hldR, hpI, hpL, hpA, hpR, hp1, hpV, hrtI, hrtL, hrtR, hrtV, hpN, hck, hrI, hrB, hrL, hrA, hwI, hwA, hwB, hrN, hfk, hfs, hrF, hwF, hcl, hfty, tyX1, tyX3, tyX6, tyX9, tyX10, tyJ0, tyJ4, hfit, hcmp, hnar, hres, hst, hacp, kz, kof, kn0, kn1, Bool.not_true, Bool.not_false, true_and, and_true, Nat.zero_add, Nat.reduceAdd, List.length_cons, List.length_nil, true_or, or_true, false_or, or_false, decide_true, decide_false, ne_eq, not_true_eq_false, not_false_eq_true, ki_0, ki_1, ki_2, ki_3, ki_4, ki_5, kb_m100, kb_m10, kb_m9, kb_m8, kb_m7, kb_m6, kb_m5, kb_m4, kb_m3, kb_m2, kb_6, kb_7, kb_8, kb_9, kb_10, kb_12, kb_13, kb_16, kb_27, kb_31, kb_32, kb_43, kb_45, kb_48, kb_57, kb_60, kb_63, kb_81, kb_97, kb_99, kb_100, kb_120, kb_126, ks_m1000, ks_243, ks_255, ks_729, ks_1000, ks_2000, ks_2187, ks_6561, ks_9840, ks_9841, kl_0, kl_1, kS, k00, nI_add]
  refine ⟨fun b979 => ?_, fun b979 => ?_⟩
  · skip
    exact h w2 _ _ _ _ (hI.st hX1 hm1 hY2 hm2 sp_scale_t) (by omega) (by omega) (by omega)
  · skip
    first | exact b979.elim | exact absurd rfl b979 | exact absurd ((lcmp_eq _ _).mpr rfl) b979
set_option maxRecDepth 100000 in
set_option maxHeartbeats 4000000 in
theorem law_24 (hg : hgo g) (hd : 40 ≤ d) {P : hPt} (hP : hCl (Γ g d) (some .boolean) tLaw lR P) {L : Nat} {xs : Nat → Int32} (hL : L ≤ 2560) {w0 : hWd} (k0 : w0 1000000 = .inl (10, L, .inl xs)) (hD0 : hDg w0) (hT0 : hTx2 w0) {i N c s : Nat} {w : hWd} {S : cS} (hI : lIv w0 w N S) (hi : i + 5 ≤ L) (hN : N ≤ 800000) (hc : 20 ≤ c) (hs : 8000 ≤ s) (h : ∀ w' N' c' s' S', lIv w0 w' N' S' → N' ≤ N + 20 → c ≤ c' + 20 → s ≤ s' + 8000 → P N' c' s' w' 1407 [some (.ref 1000000), some (.ref 0), some (.ref 47), some (.int (nI i))] []) : P N c s w 984 [some (.ref 1000000), some (.ref 0), some (.ref 47), some (.int (nI i))] [] := by
  have kS : w 1000000 = _ := (hI.2.2.2 1000000 (by omega)).trans k0
  obtain ⟨fs0, k00⟩ := hI.1.cl0
  refine hP 51 _ rfl _ _ _ _ _ _ ?_
  simp only [bLaw_51, hrun, hx, hnth, hput, hok, hcat2, hldI, hldL, hldR, hpI, hpL, hpA, hpR, hp1, hpV, hrtI, hrtL, hrtR, hrtV, hpN, hck, hrI, hrB, hrL, hrA, hwI, hwA, hwB, hrN, hfk, hfs, hrF, hwF, hcl, hfty, tyX1, tyX3, tyX6, tyX9, tyX10, tyJ0, tyJ4, hfit, hcmp, hnar, hres, hst, hacp, kz, kof, kn0, kn1, Bool.not_true, Bool.not_false, true_and, and_true, Nat.zero_add, Nat.reduceAdd, List.length_cons, List.length_nil, true_or, or_true, false_or, or_false, decide_true, decide_false, ne_eq, not_true_eq_false, not_false_eq_true, ki_0, ki_1, ki_2, ki_3, ki_4, ki_5, kb_m100, kb_m10, kb_m9, kb_m8, kb_m7, kb_m6, kb_m5, kb_m4, kb_m3, kb_m2, kb_6, kb_7, kb_8, kb_9, kb_10, kb_12, kb_13, kb_16, kb_27, kb_31, kb_32, kb_43, kb_45, kb_48, kb_57, kb_60, kb_63, kb_81, kb_97, kb_99, kb_100, kb_120, kb_126, ks_m1000, ks_243, ks_255, ks_729, ks_1000, ks_2000, ks_2187, ks_6561, ks_9840, ks_9841, kl_0, kl_1, kS, k00, nI_add]
  refine ⟨vp_in_nI (by omega) (by omega), ?_⟩
  refine ⟨vp_in_nI (by omega) (by omega), ?_⟩
  refine ⟨vp_in_nI (by omega) (by omega), ?_⟩
  refine ⟨vp_in_nI (by omega) (by omega), ?_⟩
  refine c_multiply hg (by omega) hI.1 (fun w1 hX1 hm1 => ?_)
  have hY1 := hI.2.2.1.t hm1.t
  have zS1 : w1 1000000 = _ := (hm1 _ (by omega)).trans kS
  obtain ⟨fs1, k471⟩ := hY1.cl47
  simp only [hrun, hx, hnth, hput, hok, hcat2, hldI, hldL, hldR, hpI, hpL, hpA, hpR, hp1, hpV, hrtI, hrtL, hrtR, hrtV, hpN, hck, hrI, hrB, hrL, hrA, hwI, hwA, hwB, hrN, hfk, hfs, hrF, hwF, hcl, hfty, tyX1, tyX3, tyX6, tyX9, tyX10, tyJ0, tyJ4, hfit, hcmp, hnar, hres, hst, hacp, kz, kof, kn0, kn1, Bool.not_true, Bool.not_false, true_and, and_true, Nat.zero_add, Nat.reduceAdd, List.length_cons, List.length_nil, true_or, or_true, false_or, or_false, decide_true, decide_false, ne_eq, not_true_eq_false, not_false_eq_true, ki_0, ki_1, ki_2, ki_3, ki_4, ki_5, kb_m100, kb_m10, kb_m9, kb_m8, kb_m7, kb_m6, kb_m5, kb_m4, kb_m3, kb_m2, kb_6, kb_7, kb_8, kb_9, kb_10, kb_12, kb_13, kb_16, kb_27, kb_31, kb_32, kb_43, kb_45, kb_48, kb_57, kb_60, kb_63, kb_81, kb_97, kb_99, kb_100, kb_120, kb_126, ks_m1000, ks_243, ks_255, ks_729, ks_1000, ks_2000, ks_2187, ks_6561, ks_9840, ks_9841, kl_0, kl_1, kS, k00, nI_add, zS1, k471]
  refine ⟨vp_in_nI (by omega) (by omega), ?_⟩
  refine ⟨vp_in_nI (by omega) (by omega), ?_⟩
  refine ⟨vp_in_nI (by omega) (by omega), ?_⟩
  refine ⟨vp_in_nI (by omega) (by omega), ?_⟩
  refine c_m_multiply hg (by omega) hY1 (fun w2 hY2 hm2 => ?_)
  simp only [hrun, hx, hnth, hput, hok, hcat2, hldI, hldL, hldR, hpI, hpL, hpA, hpR, hp1, hpV, hrtI, hrtL, hrtR, hrtV, hpN, hck, hrI, hrB, hrL, hrA, hwI, hwA, hwB, hrN, hfk, hfs, hrF, hwF, hcl, hfty, tyX1, tyX3, tyX6, tyX9, tyX10, tyJ0, tyJ4, hfit, hcmp, hnar, hres, hst, hacp, kz, kof, kn0, kn1, Bool.not_true, Bool.not_false, true_and, and_true, Nat.zero_add, Nat.reduceAdd, List.length_cons, List.length_nil, true_or, or_true, false_or, or_false, decide_true, decide_false, ne_eq, not_true_eq_false, not_false_eq_true, ki_0, ki_1, ki_2, ki_3, ki_4, ki_5, kb_m100, kb_m10, kb_m9, kb_m8, kb_m7, kb_m6, kb_m5, kb_m4, kb_m3, kb_m2, kb_6, kb_7, kb_8, kb_9, kb_10, kb_12, kb_13, kb_16, kb_27, kb_31, kb_32, kb_43, kb_45, kb_48, kb_57, kb_60, kb_63, kb_81, kb_97, kb_99, kb_100, kb_120, kb_126, ks_m1000, ks_243, ks_255, ks_729, ks_1000, ks_2000, ks_2187, ks_6561, ks_9840, ks_9841, kl_0, kl_1, kS, k00, nI_add]
  refine ⟨fun b1032 => ?_, fun b1032 => ?_⟩
  · skip
    exact h w2 _ _ _ _ (hI.st hX1 hm1 hY2 hm2 sp_multiply_t) (by omega) (by omega) (by omega)
  · skip
    first | exact b1032.elim | exact absurd rfl b1032 | exact absurd ((lcmp_eq _ _).mpr rfl) b1032
set_option maxRecDepth 100000 in
set_option maxHeartbeats 4000000 in
theorem law_25 (hg : hgo g) (hd : 40 ≤ d) {P : hPt} (hP : hCl (Γ g d) (some .boolean) tLaw lR P) {L : Nat} {xs : Nat → Int32} (hL : L ≤ 2560) {w0 : hWd} (k0 : w0 1000000 = .inl (10, L, .inl xs)) (hD0 : hDg w0) (hT0 : hTx2 w0) {i N c s : Nat} {w : hWd} {S : cS} (hI : lIv w0 w N S) (hi : i + 5 ≤ L) (hN : N ≤ 800000) (hc : 20 ≤ c) (hs : 8000 ≤ s) (h : ∀ w' N' c' s' S', lIv w0 w' N' S' → N' ≤ N + 20 → c ≤ c' + 20 → s ≤ s' + 8000 → P N' c' s' w' 1407 [some (.ref 1000000), some (.ref 0), some (.ref 47), some (.int (nI i))] []) : P N c s w 1037 [some (.ref 1000000), some (.ref 0), some (.ref 47), some (.int (nI i))] [] := by
  have kS : w 1000000 = _ := (hI.2.2.2 1000000 (by omega)).trans k0
  obtain ⟨fs0, k00⟩ := hI.1.cl0
  refine hP 53 _ rfl _ _ _ _ _ _ ?_
  simp only [bLaw_53, hrun, hx, hnth, hput, hok, hcat2, hldI, hldL, hldR, hpI, hpL, hpA, hpR, hp1, hpV, hrtI, hrtL, hrtR, hrtV, hpN, hck, hrI, hrB, hrL, hrA, hwI, hwA, hwB, hrN, hfk, hfs, hrF, hwF, hcl, hfty, tyX1, tyX3, tyX6, tyX9, tyX10, tyJ0, tyJ4, hfit, hcmp, hnar, hres, hst, hacp, kz, kof, kn0, kn1, Bool.not_true, Bool.not_false, true_and, and_true, Nat.zero_add, Nat.reduceAdd, List.length_cons, List.length_nil, true_or, or_true, false_or, or_false, decide_true, decide_false, ne_eq, not_true_eq_false, not_false_eq_true, ki_0, ki_1, ki_2, ki_3, ki_4, ki_5, kb_m100, kb_m10, kb_m9, kb_m8, kb_m7, kb_m6, kb_m5, kb_m4, kb_m3, kb_m2, kb_6, kb_7, kb_8, kb_9, kb_10, kb_12, kb_13, kb_16, kb_27, kb_31, kb_32, kb_43, kb_45, kb_48, kb_57, kb_60, kb_63, kb_81, kb_97, kb_99, kb_100, kb_120, kb_126, ks_m1000, ks_243, ks_255, ks_729, ks_1000, ks_2000, ks_2187, ks_6561, ks_9840, ks_9841, kl_0, kl_1, kS, k00, nI_add]
  refine ⟨vp_in_nI (by omega) (by omega), ?_⟩
  refine ⟨vp_in_nI (by omega) (by omega), ?_⟩
  refine c_antipode hg (by omega) hI.1 (fun w1 hX1 hm1 => ?_)
  have hY1 := hI.2.2.1.t hm1.t
  have zS1 : w1 1000000 = _ := (hm1 _ (by omega)).trans kS
  obtain ⟨fs1, k471⟩ := hY1.cl47
  simp only [hrun, hx, hnth, hput, hok, hcat2, hldI, hldL, hldR, hpI, hpL, hpA, hpR, hp1, hpV, hrtI, hrtL, hrtR, hrtV, hpN, hck, hrI, hrB, hrL, hrA, hwI, hwA, hwB, hrN, hfk, hfs, hrF, hwF, hcl, hfty, tyX1, tyX3, tyX6, tyX9, tyX10, tyJ0, tyJ4, hfit, hcmp, hnar, hres, hst, hacp, kz, kof, kn0, kn1, Bool.not_true, Bool.not_false, true_and, and_true, Nat.zero_add, Nat.reduceAdd, List.length_cons, List.length_nil, true_or, or_true, false_or, or_false, decide_true, decide_false, ne_eq, not_true_eq_false, not_false_eq_true, ki_0, ki_1, ki_2, ki_3, ki_4, ki_5, kb_m100, kb_m10, kb_m9, kb_m8, kb_m7, kb_m6, kb_m5, kb_m4, kb_m3, kb_m2, kb_6, kb_7, kb_8, kb_9, kb_10, kb_12, kb_13, kb_16, kb_27, kb_31, kb_32, kb_43, kb_45, kb_48, kb_57, kb_60, kb_63, kb_81, kb_97, kb_99, kb_100, kb_120, kb_126, ks_m1000, ks_243, ks_255, ks_729, ks_1000, ks_2000, ks_2187, ks_6561, ks_9840, ks_9841, kl_0, kl_1, kS, k00, nI_add, zS1, k471]
  refine ⟨vp_in_nI (by omega) (by omega), ?_⟩
  refine ⟨vp_in_nI (by omega) (by omega), ?_⟩
  refine c_m_antipode hg (by omega) hY1 (fun w2 hY2 hm2 => ?_)
  simp only [hrun, hx, hnth, hput, hok, hcat2, hldI, hldL, hldR, hpI, hpL, hpA, hpR, hp1, hpV, hrtI, hrtL, hrtR, hrtV, hpN, hck, hrI, hrB, hrL, hrA, hwI, hwA, hwB, hrN, hfk, hfs, hrF, hwF, hcl, hfty, tyX1, tyX3, tyX6, tyX9, tyX10, tyJ0, tyJ4, hfit, hcmp, hnar, hres, hst, hacp, kz, kof, kn0, kn1, Bool.not_true, Bool.not_false, true_and, and_true, Nat.zero_add, Nat.reduceAdd, List.length_cons, List.length_nil, true_or, or_true, false_or, or_false, decide_true, decide_false, ne_eq, not_true_eq_false, not_false_eq_true, ki_0, ki_1, ki_2, ki_3, ki_4, ki_5, kb_m100, kb_m10, kb_m9, kb_m8, kb_m7, kb_m6, kb_m5, kb_m4, kb_m3, kb_m2, kb_6, kb_7, kb_8, kb_9, kb_10, kb_12, kb_13, kb_16, kb_27, kb_31, kb_32, kb_43, kb_45, kb_48, kb_57, kb_60, kb_63, kb_81, kb_97, kb_99, kb_100, kb_120, kb_126, ks_m1000, ks_243, ks_255, ks_729, ks_1000, ks_2000, ks_2187, ks_6561, ks_9840, ks_9841, kl_0, kl_1, kS, k00, nI_add]
  refine ⟨fun b1065 => ?_, fun b1065 => ?_⟩
  · skip
    exact h w2 _ _ _ _ (hI.st hX1 hm1 hY2 hm2 sp_antipode_t) (by omega) (by omega) (by omega)
  · skip
    first | exact b1065.elim | exact absurd rfl b1065 | exact absurd ((lcmp_eq _ _).mpr rfl) b1065
set_option maxRecDepth 100000 in
set_option maxHeartbeats 4000000 in
theorem law_26 (hg : hgo g) (hd : 40 ≤ d) {P : hPt} (hP : hCl (Γ g d) (some .boolean) tLaw lR P) {L : Nat} {xs : Nat → Int32} (hL : L ≤ 2560) {w0 : hWd} (k0 : w0 1000000 = .inl (10, L, .inl xs)) (hD0 : hDg w0) (hT0 : hTx2 w0) {i N c s : Nat} {w : hWd} {S : cS} (hI : lIv w0 w N S) (hi : i + 5 ≤ L) (hN : N ≤ 800000) (hc : 20 ≤ c) (hs : 8000 ≤ s) (h : ∀ w' N' c' s' S', lIv w0 w' N' S' → N' ≤ N + 20 → c ≤ c' + 20 → s ≤ s' + 8000 → P N' c' s' w' 1407 [some (.ref 1000000), some (.ref 0), some (.ref 47), some (.int (nI i))] []) : P N c s w 1070 [some (.ref 1000000), some (.ref 0), some (.ref 47), some (.int (nI i))] [] := by
  have kS : w 1000000 = _ := (hI.2.2.2 1000000 (by omega)).trans k0
  obtain ⟨fs0, k00⟩ := hI.1.cl0
  refine hP 55 _ rfl _ _ _ _ _ _ ?_
  simp only [bLaw_55, hrun, hx, hnth, hput, hok, hcat2, hldI, hldL, hldR, hpI, hpL, hpA, hpR, hp1, hpV, hrtI, hrtL, hrtR, hrtV, hpN, hck, hrI, hrB, hrL, hrA, hwI, hwA, hwB, hrN, hfk, hfs, hrF, hwF, hcl, hfty, tyX1, tyX3, tyX6, tyX9, tyX10, tyJ0, tyJ4, hfit, hcmp, hnar, hres, hst, hacp, kz, kof, kn0, kn1, Bool.not_true, Bool.not_false, true_and, and_true, Nat.zero_add, Nat.reduceAdd, List.length_cons, List.length_nil, true_or, or_true, false_or, or_false, decide_true, decide_false, ne_eq, not_true_eq_false, not_false_eq_true, ki_0, ki_1, ki_2, ki_3, ki_4, ki_5, kb_m100, kb_m10, kb_m9, kb_m8, kb_m7, kb_m6, kb_m5, kb_m4, kb_m3, kb_m2, kb_6, kb_7, kb_8, kb_9, kb_10, kb_12, kb_13, kb_16, kb_27, kb_31, kb_32, kb_43, kb_45, kb_48, kb_57, kb_60, kb_63, kb_81, kb_97, kb_99, kb_100, kb_120, kb_126, ks_m1000, ks_243, ks_255, ks_729, ks_1000, ks_2000, ks_2187, ks_6561, ks_9840, ks_9841, kl_0, kl_1, kS, k00, nI_add]
  refine ⟨vp_in_nI (by omega) (by omega), ?_⟩
  refine ⟨vp_in_nI (by omega) (by omega), ?_⟩
  refine ⟨vp_in_nI (by omega) (by omega), ?_⟩
  refine ⟨vp_in_nI (by omega) (by omega), ?_⟩
  refine c_residual hg (by omega) hI.1 (fun w1 hX1 hm1 => ?_)
  have hY1 := hI.2.2.1.t hm1.t
  have zS1 : w1 1000000 = _ := (hm1 _ (by omega)).trans kS
  obtain ⟨fs1, k471⟩ := hY1.cl47
  simp only [hrun, hx, hnth, hput, hok, hcat2, hldI, hldL, hldR, hpI, hpL, hpA, hpR, hp1, hpV, hrtI, hrtL, hrtR, hrtV, hpN, hck, hrI, hrB, hrL, hrA, hwI, hwA, hwB, hrN, hfk, hfs, hrF, hwF, hcl, hfty, tyX1, tyX3, tyX6, tyX9, tyX10, tyJ0, tyJ4, hfit, hcmp, hnar, hres, hst, hacp, kz, kof, kn0, kn1, Bool.not_true, Bool.not_false, true_and, and_true, Nat.zero_add, Nat.reduceAdd, List.length_cons, List.length_nil, true_or, or_true, false_or, or_false, decide_true, decide_false, ne_eq, not_true_eq_false, not_false_eq_true, ki_0, ki_1, ki_2, ki_3, ki_4, ki_5, kb_m100, kb_m10, kb_m9, kb_m8, kb_m7, kb_m6, kb_m5, kb_m4, kb_m3, kb_m2, kb_6, kb_7, kb_8, kb_9, kb_10, kb_12, kb_13, kb_16, kb_27, kb_31, kb_32, kb_43, kb_45, kb_48, kb_57, kb_60, kb_63, kb_81, kb_97, kb_99, kb_100, kb_120, kb_126, ks_m1000, ks_243, ks_255, ks_729, ks_1000, ks_2000, ks_2187, ks_6561, ks_9840, ks_9841, kl_0, kl_1, kS, k00, nI_add, zS1, k471]
  refine ⟨vp_in_nI (by omega) (by omega), ?_⟩
  refine ⟨vp_in_nI (by omega) (by omega), ?_⟩
  refine ⟨vp_in_nI (by omega) (by omega), ?_⟩
  refine ⟨vp_in_nI (by omega) (by omega), ?_⟩
  refine c_m_residual hg (by omega) hY1 (fun w2 hY2 hm2 => ?_)
  simp only [hrun, hx, hnth, hput, hok, hcat2, hldI, hldL, hldR, hpI, hpL, hpA, hpR, hp1, hpV, hrtI, hrtL, hrtR, hrtV, hpN, hck, hrI, hrB, hrL, hrA, hwI, hwA, hwB, hrN, hfk, hfs, hrF, hwF, hcl, hfty, tyX1, tyX3, tyX6, tyX9, tyX10, tyJ0, tyJ4, hfit, hcmp, hnar, hres, hst, hacp, kz, kof, kn0, kn1, Bool.not_true, Bool.not_false, true_and, and_true, Nat.zero_add, Nat.reduceAdd, List.length_cons, List.length_nil, true_or, or_true, false_or, or_false, decide_true, decide_false, ne_eq, not_true_eq_false, not_false_eq_true, ki_0, ki_1, ki_2, ki_3, ki_4, ki_5, kb_m100, kb_m10, kb_m9, kb_m8, kb_m7, kb_m6, kb_m5, kb_m4, kb_m3, kb_m2, kb_6, kb_7, kb_8, kb_9, kb_10, kb_12, kb_13, kb_16, kb_27, kb_31, kb_32, kb_43, kb_45, kb_48, kb_57, kb_60, kb_63, kb_81, kb_97, kb_99, kb_100, kb_120, kb_126, ks_m1000, ks_243, ks_255, ks_729, ks_1000, ks_2000, ks_2187, ks_6561, ks_9840, ks_9841, kl_0, kl_1, kS, k00, nI_add]
  refine ⟨fun b1118 => ?_, fun b1118 => ?_⟩
  · skip
    exact h w2 _ _ _ _ (hI.st hX1 hm1 hY2 hm2 sp_residual_t) (by omega) (by omega) (by omega)
  · skip
    first | exact b1118.elim | exact absurd rfl b1118 | exact absurd ((lcmp_eq _ _).mpr rfl) b1118
set_option maxRecDepth 100000 in
set_option maxHeartbeats 4000000 in
theorem law_27 (hg : hgo g) (hd : 40 ≤ d) {P : hPt} (hP : hCl (Γ g d) (some .boolean) tLaw lR P) {L : Nat} {xs : Nat → Int32} (hL : L ≤ 2560) {w0 : hWd} (k0 : w0 1000000 = .inl (10, L, .inl xs)) (hD0 : hDg w0) (hT0 : hTx2 w0) {i N c s : Nat} {w : hWd} {S : cS} (hI : lIv w0 w N S) (hi : i + 5 ≤ L) (hN : N ≤ 800000) (hc : 20 ≤ c) (hs : 8000 ≤ s) (h : ∀ w' N' c' s' S', lIv w0 w' N' S' → N' ≤ N + 20 → c ≤ c' + 20 → s ≤ s' + 8000 → P N' c' s' w' 1407 [some (.ref 1000000), some (.ref 0), some (.ref 47), some (.int (nI i))] []) : P N c s w 1123 [some (.ref 1000000), some (.ref 0), some (.ref 47), some (.int (nI i))] [] := by
  have kS : w 1000000 = _ := (hI.2.2.2 1000000 (by omega)).trans k0
  obtain ⟨fs0, k00⟩ := hI.1.cl0
  refine hP 57 _ rfl _ _ _ _ _ _ ?_
  simp only [bLaw_57, hrun, hx, hnth, hput, hok, hcat2, hldI, hldL, hldR, hpI, hpL, hpA, hpR, hp1, hpV, hrtI, hrtL, hrtR, hrtV, hpN, hck, hrI, hrB, hrL, hrA, hwI, hwA, hwB, hrN, hfk, hfs, hrF, hwF, hcl, hfty, tyX1, tyX3, tyX6, tyX9, tyX10, tyJ0, tyJ4, hfit, hcmp, hnar, hres, hst, hacp, kz, kof, kn0, kn1, Bool.not_true, Bool.not_false, true_and, and_true, Nat.zero_add, Nat.reduceAdd, List.length_cons, List.length_nil, true_or, or_true, false_or, or_false, decide_true, decide_false, ne_eq, not_true_eq_false, not_false_eq_true, ki_0, ki_1, ki_2, ki_3, ki_4, ki_5, kb_m100, kb_m10, kb_m9, kb_m8, kb_m7, kb_m6, kb_m5, kb_m4, kb_m3, kb_m2, kb_6, kb_7, kb_8, kb_9, kb_10, kb_12, kb_13, kb_16, kb_27, kb_31, kb_32, kb_43, kb_45, kb_48, kb_57, kb_60, kb_63, kb_81, kb_97, kb_99, kb_100, kb_120, kb_126, ks_m1000, ks_243, ks_255, ks_729, ks_1000, ks_2000, ks_2187, ks_6561, ks_9840, ks_9841, kl_0, kl_1, kS, k00, nI_add]
  refine ⟨vp_in_nI (by omega) (by omega), ?_⟩
  refine ⟨vp_in_nI (by omega) (by omega), ?_⟩
  refine ⟨vp_in_nI (by omega) (by omega), ?_⟩
  refine c_derive hg (by omega) hI.1 (fun w1 hX1 hm1 => ?_)
  have hY1 := hI.2.2.1.t hm1.t
  have zS1 : w1 1000000 = _ := (hm1 _ (by omega)).trans kS
  obtain ⟨fs1, k471⟩ := hY1.cl47
  simp only [hrun, hx, hnth, hput, hok, hcat2, hldI, hldL, hldR, hpI, hpL, hpA, hpR, hp1, hpV, hrtI, hrtL, hrtR, hrtV, hpN, hck, hrI, hrB, hrL, hrA, hwI, hwA, hwB, hrN, hfk, hfs, hrF, hwF, hcl, hfty, tyX1, tyX3, tyX6, tyX9, tyX10, tyJ0, tyJ4, hfit, hcmp, hnar, hres, hst, hacp, kz, kof, kn0, kn1, Bool.not_true, Bool.not_false, true_and, and_true, Nat.zero_add, Nat.reduceAdd, List.length_cons, List.length_nil, true_or, or_true, false_or, or_false, decide_true, decide_false, ne_eq, not_true_eq_false, not_false_eq_true, ki_0, ki_1, ki_2, ki_3, ki_4, ki_5, kb_m100, kb_m10, kb_m9, kb_m8, kb_m7, kb_m6, kb_m5, kb_m4, kb_m3, kb_m2, kb_6, kb_7, kb_8, kb_9, kb_10, kb_12, kb_13, kb_16, kb_27, kb_31, kb_32, kb_43, kb_45, kb_48, kb_57, kb_60, kb_63, kb_81, kb_97, kb_99, kb_100, kb_120, kb_126, ks_m1000, ks_243, ks_255, ks_729, ks_1000, ks_2000, ks_2187, ks_6561, ks_9840, ks_9841, kl_0, kl_1, kS, k00, nI_add, zS1, k471]
  refine ⟨vp_in_nI (by omega) (by omega), ?_⟩
  refine ⟨vp_in_nI (by omega) (by omega), ?_⟩
  refine ⟨vp_in_nI (by omega) (by omega), ?_⟩
  refine c_m_derive hg (by omega) hY1 (fun w2 hY2 hm2 => ?_)
  simp only [hrun, hx, hnth, hput, hok, hcat2, hldI, hldL, hldR, hpI, hpL, hpA, hpR, hp1, hpV, hrtI, hrtL, hrtR, hrtV, hpN, hck, hrI, hrB, hrL, hrA, hwI, hwA, hwB, hrN, hfk, hfs, hrF, hwF, hcl, hfty, tyX1, tyX3, tyX6, tyX9, tyX10, tyJ0, tyJ4, hfit, hcmp, hnar, hres, hst, hacp, kz, kof, kn0, kn1, Bool.not_true, Bool.not_false, true_and, and_true, Nat.zero_add, Nat.reduceAdd, List.length_cons, List.length_nil, true_or, or_true, false_or, or_false, decide_true, decide_false, ne_eq, not_true_eq_false, not_false_eq_true, ki_0, ki_1, ki_2, ki_3, ki_4, ki_5, kb_m100, kb_m10, kb_m9, kb_m8, kb_m7, kb_m6, kb_m5, kb_m4, kb_m3, kb_m2, kb_6, kb_7, kb_8, kb_9, kb_10, kb_12, kb_13, kb_16, kb_27, kb_31, kb_32, kb_43, kb_45, kb_48, kb_57, kb_60, kb_63, kb_81, kb_97, kb_99, kb_100, kb_120, kb_126, ks_m1000, ks_243, ks_255, ks_729, ks_1000, ks_2000, ks_2187, ks_6561, ks_9840, ks_9841, kl_0, kl_1, kS, k00, nI_add]
  refine ⟨fun b1161 => ?_, fun b1161 => ?_⟩
  · skip
    exact h w2 _ _ _ _ (hI.st hX1 hm1 hY2 hm2 sp_derive_t) (by omega) (by omega) (by omega)
  · skip
    first | exact b1161.elim | exact absurd rfl b1161 | exact absurd ((lcmp_eq _ _).mpr rfl) b1161
set_option maxRecDepth 100000 in
set_option maxHeartbeats 4000000 in
theorem law_28 (hg : hgo g) (hd : 40 ≤ d) {P : hPt} (hP : hCl (Γ g d) (some .boolean) tLaw lR P) {L : Nat} {xs : Nat → Int32} (hL : L ≤ 2560) {w0 : hWd} (k0 : w0 1000000 = .inl (10, L, .inl xs)) (hD0 : hDg w0) (hT0 : hTx2 w0) {i N c s : Nat} {w : hWd} {S : cS} (hI : lIv w0 w N S) (hi : i + 5 ≤ L) (hN : N ≤ 800000) (hc : 20 ≤ c) (hs : 8000 ≤ s) (h : ∀ w' N' c' s' S', lIv w0 w' N' S' → N' ≤ N + 20 → c ≤ c' + 20 → s ≤ s' + 8000 → P N' c' s' w' 1407 [some (.ref 1000000), some (.ref 0), some (.ref 47), some (.int (nI i))] []) : P N c s w 1166 [some (.ref 1000000), some (.ref 0), some (.ref 47), some (.int (nI i))] [] := by
  have kS : w 1000000 = _ := (hI.2.2.2 1000000 (by omega)).trans k0
  obtain ⟨fs0, k00⟩ := hI.1.cl0
  refine hP 59 _ rfl _ _ _ _ _ _ ?_
  simp only [bLaw_59, hrun, hx, hnth, hput, hok, hcat2, hldI, hldL, hldR, hpI, hpL, hpA, hpR, hp1, hpV, hrtI, hrtL, hrtR, hrtV, hpN, hck, hrI, hrB, hrL, hrA, hwI, hwA, hwB, hrN, hfk, hfs, hrF, hwF, hcl, hfty, tyX1, tyX3, tyX6, tyX9, tyX10, tyJ0, tyJ4, hfit, hcmp, hnar, hres, hst, hacp, kz, kof, kn0, kn1, Bool.not_true, Bool.not_false, true_and, and_true, Nat.zero_add, Nat.reduceAdd, List.length_cons, List.length_nil, true_or, or_true, false_or, or_false, decide_true, decide_false, ne_eq, not_true_eq_false, not_false_eq_true, ki_0, ki_1, ki_2, ki_3, ki_4, ki_5, kb_m100, kb_m10, kb_m9, kb_m8, kb_m7, kb_m6, kb_m5, kb_m4, kb_m3, kb_m2, kb_6, kb_7, kb_8, kb_9, kb_10, kb_12, kb_13, kb_16, kb_27, kb_31, kb_32, kb_43, kb_45, kb_48, kb_57, kb_60, kb_63, kb_81, kb_97, kb_99, kb_100, kb_120, kb_126, ks_m1000, ks_243, ks_255, ks_729, ks_1000, ks_2000, ks_2187, ks_6561, ks_9840, ks_9841, kl_0, kl_1, kS, k00, nI_add]
  refine ⟨vp_in_nI (by omega) (by omega), ?_⟩
  refine ⟨vp_in_nI (by omega) (by omega), ?_⟩
  refine c_pair hg (by omega) hI.1 (fun w1 hX1 hm1 => ?_)
  have hY1 := hI.2.2.1.t hm1.t
  have zS1 : w1 1000000 = _ := (hm1 _ (by omega)).trans kS
  obtain ⟨fs1, k471⟩ := hY1.cl47
  simp only [hrun, hx, hnth, hput, hok, hcat2, hldI, hldL, hldR, hpI, hpL, hpA, hpR, hp1, hpV, hrtI, hrtL, hrtR, hrtV, hpN, hck, hrI, hrB, hrL, hrA, hwI, hwA, hwB, hrN, hfk, hfs, hrF, hwF, hcl, hfty, tyX1, tyX3, tyX6, tyX9, tyX10, tyJ0, tyJ4, hfit, hcmp, hnar, hres, hst, hacp, kz, kof, kn0, kn1, Bool.not_true, Bool.not_false, true_and, and_true, Nat.zero_add, Nat.reduceAdd, List.length_cons, List.length_nil, true_or, or_true, false_or, or_false, decide_true, decide_false, ne_eq, not_true_eq_false, not_false_eq_true, ki_0, ki_1, ki_2, ki_3, ki_4, ki_5, kb_m100, kb_m10, kb_m9, kb_m8, kb_m7, kb_m6, kb_m5, kb_m4, kb_m3, kb_m2, kb_6, kb_7, kb_8, kb_9, kb_10, kb_12, kb_13, kb_16, kb_27, kb_31, kb_32, kb_43, kb_45, kb_48, kb_57, kb_60, kb_63, kb_81, kb_97, kb_99, kb_100, kb_120, kb_126, ks_m1000, ks_243, ks_255, ks_729, ks_1000, ks_2000, ks_2187, ks_6561, ks_9840, ks_9841, kl_0, kl_1, kS, k00, nI_add, zS1, k471]
  refine ⟨vp_in_nI (by omega) (by omega), ?_⟩
  refine ⟨vp_in_nI (by omega) (by omega), ?_⟩
  refine c_m_pair hg (by omega) hY1 (fun w2 hY2 hm2 => ?_)
  simp only [hrun, hx, hnth, hput, hok, hcat2, hldI, hldL, hldR, hpI, hpL, hpA, hpR, hp1, hpV, hrtI, hrtL, hrtR, hrtV, hpN, hck, hrI, hrB, hrL, hrA, hwI, hwA, hwB, hrN, hfk, hfs, hrF, hwF, hcl, hfty, tyX1, tyX3, tyX6, tyX9, tyX10, tyJ0, tyJ4, hfit, hcmp, hnar, hres, hst, hacp, kz, kof, kn0, kn1, Bool.not_true, Bool.not_false, true_and, and_true, Nat.zero_add, Nat.reduceAdd, List.length_cons, List.length_nil, true_or, or_true, false_or, or_false, decide_true, decide_false, ne_eq, not_true_eq_false, not_false_eq_true, ki_0, ki_1, ki_2, ki_3, ki_4, ki_5, kb_m100, kb_m10, kb_m9, kb_m8, kb_m7, kb_m6, kb_m5, kb_m4, kb_m3, kb_m2, kb_6, kb_7, kb_8, kb_9, kb_10, kb_12, kb_13, kb_16, kb_27, kb_31, kb_32, kb_43, kb_45, kb_48, kb_57, kb_60, kb_63, kb_81, kb_97, kb_99, kb_100, kb_120, kb_126, ks_m1000, ks_243, ks_255, ks_729, ks_1000, ks_2000, ks_2187, ks_6561, ks_9840, ks_9841, kl_0, kl_1, kS, k00, nI_add]
  refine ⟨fun b1195 => ?_, fun b1195 => ?_⟩
  · skip
    exact h w2 _ _ _ _ (hI.st hX1 hm1 hY2 hm2 sp_pair_t) (by omega) (by omega) (by omega)
  · skip
    first | exact b1195.elim | exact absurd rfl b1195 | exact absurd ((lcmp_eq _ _).mpr rfl) b1195
set_option maxRecDepth 100000 in
set_option maxHeartbeats 4000000 in
theorem law_29 (hg : hgo g) (hd : 40 ≤ d) {P : hPt} (hP : hCl (Γ g d) (some .boolean) tLaw lR P) {L : Nat} {xs : Nat → Int32} (hL : L ≤ 2560) {w0 : hWd} (k0 : w0 1000000 = .inl (10, L, .inl xs)) (hD0 : hDg w0) (hT0 : hTx2 w0) {i N c s : Nat} {w : hWd} {S : cS} (hI : lIv w0 w N S) (hi : i + 5 ≤ L) (hN : N ≤ 800000) (hc : 20 ≤ c) (hs : 8000 ≤ s) (h : ∀ w' N' c' s' S', lIv w0 w' N' S' → N' ≤ N + 20 → c ≤ c' + 20 → s ≤ s' + 8000 → P N' c' s' w' 1407 [some (.ref 1000000), some (.ref 0), some (.ref 47), some (.int (nI i))] []) : P N c s w 1200 [some (.ref 1000000), some (.ref 0), some (.ref 47), some (.int (nI i))] [] := by
  have kS : w 1000000 = _ := (hI.2.2.2 1000000 (by omega)).trans k0
  obtain ⟨fs0, k00⟩ := hI.1.cl0
  refine hP 61 _ rfl _ _ _ _ _ _ ?_
  simp only [bLaw_61, hrun, hx, hnth, hput, hok, hcat2, hldI, hldL, hldR, hpI, hpL, hpA, hpR, hp1, hpV, hrtI, hrtL, hrtR, hrtV, hpN, hck, hrI, hrB, hrL, hrA, hwI, hwA, hwB, hrN, hfk, hfs, hrF, hwF, hcl, hfty, tyX1, tyX3, tyX6, tyX9, tyX10, tyJ0, tyJ4, hfit, hcmp, hnar, hres, hst, hacp, kz, kof, kn0, kn1, Bool.not_true, Bool.not_false, true_and, and_true, Nat.zero_add, Nat.reduceAdd, List.length_cons, List.length_nil, true_or, or_true, false_or, or_false, decide_true, decide_false, ne_eq, not_true_eq_false, not_false_eq_true, ki_0, ki_1, ki_2, ki_3, ki_4, ki_5, kb_m100, kb_m10, kb_m9, kb_m8, kb_m7, kb_m6, kb_m5, kb_m4, kb_m3, kb_m2, kb_6, kb_7, kb_8, kb_9, kb_10, kb_12, kb_13, kb_16, kb_27, kb_31, kb_32, kb_43, kb_45, kb_48, kb_57, kb_60, kb_63, kb_81, kb_97, kb_99, kb_100, kb_120, kb_126, ks_m1000, ks_243, ks_255, ks_729, ks_1000, ks_2000, ks_2187, ks_6561, ks_9840, ks_9841, kl_0, kl_1, kS, k00, nI_add]
  refine ⟨vp_in_nI (by omega) (by omega), ?_⟩
  refine ⟨vp_in_nI (by omega) (by omega), ?_⟩
  refine c_coordinates hg (by omega) hI.1 (fun w1 hX1 hm1 => ?_)
  have hY1 := hI.2.2.1.t hm1.t
  have zS1 : w1 1000000 = _ := (hm1 _ (by omega)).trans kS
  obtain ⟨fs1, k471⟩ := hY1.cl47
  simp only [hrun, hx, hnth, hput, hok, hcat2, hldI, hldL, hldR, hpI, hpL, hpA, hpR, hp1, hpV, hrtI, hrtL, hrtR, hrtV, hpN, hck, hrI, hrB, hrL, hrA, hwI, hwA, hwB, hrN, hfk, hfs, hrF, hwF, hcl, hfty, tyX1, tyX3, tyX6, tyX9, tyX10, tyJ0, tyJ4, hfit, hcmp, hnar, hres, hst, hacp, kz, kof, kn0, kn1, Bool.not_true, Bool.not_false, true_and, and_true, Nat.zero_add, Nat.reduceAdd, List.length_cons, List.length_nil, true_or, or_true, false_or, or_false, decide_true, decide_false, ne_eq, not_true_eq_false, not_false_eq_true, ki_0, ki_1, ki_2, ki_3, ki_4, ki_5, kb_m100, kb_m10, kb_m9, kb_m8, kb_m7, kb_m6, kb_m5, kb_m4, kb_m3, kb_m2, kb_6, kb_7, kb_8, kb_9, kb_10, kb_12, kb_13, kb_16, kb_27, kb_31, kb_32, kb_43, kb_45, kb_48, kb_57, kb_60, kb_63, kb_81, kb_97, kb_99, kb_100, kb_120, kb_126, ks_m1000, ks_243, ks_255, ks_729, ks_1000, ks_2000, ks_2187, ks_6561, ks_9840, ks_9841, kl_0, kl_1, kS, k00, nI_add, zS1, k471]
  refine ⟨vp_in_nI (by omega) (by omega), ?_⟩
  refine ⟨vp_in_nI (by omega) (by omega), ?_⟩
  refine c_m_coordinates hg (by omega) hY1 (fun w2 hY2 hm2 => ?_)
  simp only [hrun, hx, hnth, hput, hok, hcat2, hldI, hldL, hldR, hpI, hpL, hpA, hpR, hp1, hpV, hrtI, hrtL, hrtR, hrtV, hpN, hck, hrI, hrB, hrL, hrA, hwI, hwA, hwB, hrN, hfk, hfs, hrF, hwF, hcl, hfty, tyX1, tyX3, tyX6, tyX9, tyX10, tyJ0, tyJ4, hfit, hcmp, hnar, hres, hst, hacp, kz, kof, kn0, kn1, Bool.not_true, Bool.not_false, true_and, and_true, Nat.zero_add, Nat.reduceAdd, List.length_cons, List.length_nil, true_or, or_true, false_or, or_false, decide_true, decide_false, ne_eq, not_true_eq_false, not_false_eq_true, ki_0, ki_1, ki_2, ki_3, ki_4, ki_5, kb_m100, kb_m10, kb_m9, kb_m8, kb_m7, kb_m6, kb_m5, kb_m4, kb_m3, kb_m2, kb_6, kb_7, kb_8, kb_9, kb_10, kb_12, kb_13, kb_16, kb_27, kb_31, kb_32, kb_43, kb_45, kb_48, kb_57, kb_60, kb_63, kb_81, kb_97, kb_99, kb_100, kb_120, kb_126, ks_m1000, ks_243, ks_255, ks_729, ks_1000, ks_2000, ks_2187, ks_6561, ks_9840, ks_9841, kl_0, kl_1, kS, k00, nI_add]
  refine ⟨fun b1228 => ?_, fun b1228 => ?_⟩
  · skip
    exact h w2 _ _ _ _ (hI.st hX1 hm1 hY2 hm2 sp_coordinates_t) (by omega) (by omega) (by omega)
  · skip
    first | exact b1228.elim | exact absurd rfl b1228 | exact absurd ((lcmp_eq _ _).mpr rfl) b1228
set_option maxRecDepth 100000 in
set_option maxHeartbeats 4000000 in
theorem law_30 (hg : hgo g) (hd : 40 ≤ d) {P : hPt} (hP : hCl (Γ g d) (some .boolean) tLaw lR P) {L : Nat} {xs : Nat → Int32} (hL : L ≤ 2560) {w0 : hWd} (k0 : w0 1000000 = .inl (10, L, .inl xs)) (hD0 : hDg w0) (hT0 : hTx2 w0) {i N c s : Nat} {w : hWd} {S : cS} (hI : lIv w0 w N S) (hi : i + 5 ≤ L) (hN : N ≤ 800000) (hc : 20 ≤ c) (hs : 8000 ≤ s) (h : ∀ w' N' c' s' S', lIv w0 w' N' S' → N' ≤ N + 20 → c ≤ c' + 20 → s ≤ s' + 8000 → P N' c' s' w' 1407 [some (.ref 1000000), some (.ref 0), some (.ref 47), some (.int (nI i))] []) : P N c s w 1233 [some (.ref 1000000), some (.ref 0), some (.ref 47), some (.int (nI i))] [] := by
  have kS : w 1000000 = _ := (hI.2.2.2 1000000 (by omega)).trans k0
  obtain ⟨fs0, k00⟩ := hI.1.cl0
  refine hP 63 _ rfl _ _ _ _ _ _ ?_
  simp only [bLaw_63, hrun, hx, hnth, hput, hok, hcat2, hldI, hldL, hldR, hpI, hpL, hpA, hpR, hp1, hpV, hrtI, hrtL, hrtR, hrtV, hpN, hck, hrI, hrB, hrL, hrA, hwI, hwA, hwB, hrN, hfk, hfs, hrF, hwF, hcl, hfty, tyX1, tyX3, tyX6, tyX9, tyX10, tyJ0, tyJ4, hfit, hcmp, hnar, hres, hst, hacp, kz, kof, kn0, kn1, Bool.not_true, Bool.not_false, true_and, and_true, Nat.zero_add, Nat.reduceAdd, List.length_cons, List.length_nil, true_or, or_true, false_or, or_false, decide_true, decide_false, ne_eq, not_true_eq_false, not_false_eq_true, ki_0, ki_1, ki_2, ki_3, ki_4, ki_5, kb_m100, kb_m10, kb_m9, kb_m8, kb_m7, kb_m6, kb_m5, kb_m4, kb_m3, kb_m2, kb_6, kb_7, kb_8, kb_9, kb_10, kb_12, kb_13, kb_16, kb_27, kb_31, kb_32, kb_43, kb_45, kb_48, kb_57, kb_60, kb_63, kb_81, kb_97, kb_99, kb_100, kb_120, kb_126, ks_m1000, ks_243, ks_255, ks_729, ks_1000, ks_2000, ks_2187, ks_6561, ks_9840, ks_9841, kl_0, kl_1, kS, k00, nI_add]
  refine ⟨vp_in_nI (by omega) (by omega), ?_⟩
  refine c_isLie hg (by omega) hI.1 (fun w1 hX1 hm1 => ?_)
  have hY1 := hI.2.2.1.t hm1.t
  have zS1 : w1 1000000 = _ := (hm1 _ (by omega)).trans kS
  obtain ⟨fs1, k471⟩ := hY1.cl47
  simp only [hrun, hx, hnth, hput, hok, hcat2, hldI, hldL, hldR, hpI, hpL, hpA, hpR, hp1, hpV, hrtI, hrtL, hrtR, hrtV, hpN, hck, hrI, hrB, hrL, hrA, hwI, hwA, hwB, hrN, hfk, hfs, hrF, hwF, hcl, hfty, tyX1, tyX3, tyX6, tyX9, tyX10, tyJ0, tyJ4, hfit, hcmp, hnar, hres, hst, hacp, kz, kof, kn0, kn1, Bool.not_true, Bool.not_false, true_and, and_true, Nat.zero_add, Nat.reduceAdd, List.length_cons, List.length_nil, true_or, or_true, false_or, or_false, decide_true, decide_false, ne_eq, not_true_eq_false, not_false_eq_true, ki_0, ki_1, ki_2, ki_3, ki_4, ki_5, kb_m100, kb_m10, kb_m9, kb_m8, kb_m7, kb_m6, kb_m5, kb_m4, kb_m3, kb_m2, kb_6, kb_7, kb_8, kb_9, kb_10, kb_12, kb_13, kb_16, kb_27, kb_31, kb_32, kb_43, kb_45, kb_48, kb_57, kb_60, kb_63, kb_81, kb_97, kb_99, kb_100, kb_120, kb_126, ks_m1000, ks_243, ks_255, ks_729, ks_1000, ks_2000, ks_2187, ks_6561, ks_9840, ks_9841, kl_0, kl_1, kS, k00, nI_add, zS1, k471]
  refine ⟨vp_in_nI (by omega) (by omega), ?_⟩
  refine c_m_isLie hg (by omega) hY1 (fun w2 hY2 hm2 => ?_)
  simp only [hrun, hx, hnth, hput, hok, hcat2, hldI, hldL, hldR, hpI, hpL, hpA, hpR, hp1, hpV, hrtI, hrtL, hrtR, hrtV, hpN, hck, hrI, hrB, hrL, hrA, hwI, hwA, hwB, hrN, hfk, hfs, hrF, hwF, hcl, hfty, tyX1, tyX3, tyX6, tyX9, tyX10, tyJ0, tyJ4, hfit, hcmp, hnar, hres, hst, hacp, kz, kof, kn0, kn1, Bool.not_true, Bool.not_false, true_and, and_true, Nat.zero_add, Nat.reduceAdd, List.length_cons, List.length_nil, true_or, or_true, false_or, or_false, decide_true, decide_false, ne_eq, not_true_eq_false, not_false_eq_true, ki_0, ki_1, ki_2, ki_3, ki_4, ki_5, kb_m100, kb_m10, kb_m9, kb_m8, kb_m7, kb_m6, kb_m5, kb_m4, kb_m3, kb_m2, kb_6, kb_7, kb_8, kb_9, kb_10, kb_12, kb_13, kb_16, kb_27, kb_31, kb_32, kb_43, kb_45, kb_48, kb_57, kb_60, kb_63, kb_81, kb_97, kb_99, kb_100, kb_120, kb_126, ks_m1000, ks_243, ks_255, ks_729, ks_1000, ks_2000, ks_2187, ks_6561, ks_9840, ks_9841, kl_0, kl_1, kS, k00, nI_add]
  refine ⟨fun b1251 => ?_, fun b1251 => ?_⟩
  · skip
    exact h w2 _ _ _ _ (hI.st hX1 hm1 hY2 hm2 sp_isLie_t) (by omega) (by omega) (by omega)
  · skip
    first | exact b1251.elim | exact absurd rfl b1251 | exact absurd ((lcmp_eq _ _).mpr rfl) b1251
set_option maxRecDepth 100000 in
set_option maxHeartbeats 4000000 in
theorem law_31 (hg : hgo g) (hd : 40 ≤ d) {P : hPt} (hP : hCl (Γ g d) (some .boolean) tLaw lR P) {L : Nat} {xs : Nat → Int32} (hL : L ≤ 2560) {w0 : hWd} (k0 : w0 1000000 = .inl (10, L, .inl xs)) (hD0 : hDg w0) (hT0 : hTx2 w0) {i N c s : Nat} {w : hWd} {S : cS} (hI : lIv w0 w N S) (hi : i + 5 ≤ L) (hN : N ≤ 800000) (hc : 20 ≤ c) (hs : 8000 ≤ s) (h : ∀ w' N' c' s' S', lIv w0 w' N' S' → N' ≤ N + 20 → c ≤ c' + 20 → s ≤ s' + 8000 → P N' c' s' w' 1407 [some (.ref 1000000), some (.ref 0), some (.ref 47), some (.int (nI i))] []) : P N c s w 1256 [some (.ref 1000000), some (.ref 0), some (.ref 47), some (.int (nI i))] [] := by
  have kS : w 1000000 = _ := (hI.2.2.2 1000000 (by omega)).trans k0
  obtain ⟨fs0, k00⟩ := hI.1.cl0
  refine hP 65 _ rfl _ _ _ _ _ _ ?_
  simp only [bLaw_65, hrun, hx, hnth, hput, hok, hcat2, hldI, hldL, hldR, hpI, hpL, hpA, hpR, hp1, hpV, hrtI, hrtL, hrtR, hrtV, hpN, hck, hrI, hrB, hrL, hrA, hwI, hwA, hwB, hrN, hfk, hfs, hrF, hwF, hcl, hfty, tyX1, tyX3, tyX6, tyX9, tyX10, tyJ0, tyJ4, hfit, hcmp, hnar, hres, hst, hacp, kz, kof, kn0, kn1, Bool.not_true, Bool.not_false, true_and, and_true, Nat.zero_add, Nat.reduceAdd, List.length_cons, List.length_nil, true_or, or_true, false_or, or_false, decide_true, decide_false, ne_eq, not_true_eq_false, not_false_eq_true, ki_0, ki_1, ki_2, ki_3, ki_4, ki_5, kb_m100, kb_m10, kb_m9, kb_m8, kb_m7, kb_m6, kb_m5, kb_m4, kb_m3, kb_m2, kb_6, kb_7, kb_8, kb_9, kb_10, kb_12, kb_13, kb_16, kb_27, kb_31, kb_32, kb_43, kb_45, kb_48, kb_57, kb_60, kb_63, kb_81, kb_97, kb_99, kb_100, kb_120, kb_126, ks_m1000, ks_243, ks_255, ks_729, ks_1000, ks_2000, ks_2187, ks_6561, ks_9840, ks_9841, kl_0, kl_1, kS, k00, nI_add]
  refine ⟨vp_in_nI (by omega) (by omega), ?_⟩
  refine c_x_appendCharacter hg (by omega) hI.1 hI.2.1 (by omega) (by omega) (by omega) (fun w1 N1 c1 s1 hX1 hB1 hm1 hn1 hn2 hc1 hs1 => ?_)
  have hY1 := hI.2.2.1.t hm1
  have zS1 : w1 1000000 = _ := (hm1 _ (by omega)).trans kS
  obtain ⟨fs1, k471⟩ := hY1.cl47
  simp only [hrun, hx, hnth, hput, hok, hcat2, hldI, hldL, hldR, hpI, hpL, hpA, hpR, hp1, hpV, hrtI, hrtL, hrtR, hrtV, hpN, hck, hrI, hrB, hrL, hrA, hwI, hwA, hwB, hrN, hfk, hfs, hrF, hwF, hcl, hfty, tyX1, tyX3, tyX6, tyX9, tyX10, tyJ0, tyJ4, hfit, hcmp, hnar, hres, hst, hacp, kz, kof, kn0, kn1, Bool.not_true, Bool.not_false, true_and, and_true, Nat.zero_add, Nat.reduceAdd, List.length_cons, List.length_nil, true_or, or_true, false_or, or_false, decide_true, decide_false, ne_eq, not_true_eq_false, not_false_eq_true, ki_0, ki_1, ki_2, ki_3, ki_4, ki_5, kb_m100, kb_m10, kb_m9, kb_m8, kb_m7, kb_m6, kb_m5, kb_m4, kb_m3, kb_m2, kb_6, kb_7, kb_8, kb_9, kb_10, kb_12, kb_13, kb_16, kb_27, kb_31, kb_32, kb_43, kb_45, kb_48, kb_57, kb_60, kb_63, kb_81, kb_97, kb_99, kb_100, kb_120, kb_126, ks_m1000, ks_243, ks_255, ks_729, ks_1000, ks_2000, ks_2187, ks_6561, ks_9840, ks_9841, kl_0, kl_1, kS, k00, nI_add, zS1, k471]
  refine ⟨vp_in_nI (by omega) (by omega), ?_⟩
  refine c_m_appendCharacter hg (by omega) hY1 (fun w2 hY2 hm2 => ?_)
  simp only [hrun, hx, hnth, hput, hok, hcat2, hldI, hldL, hldR, hpI, hpL, hpA, hpR, hp1, hpV, hrtI, hrtL, hrtR, hrtV, hpN, hck, hrI, hrB, hrL, hrA, hwI, hwA, hwB, hrN, hfk, hfs, hrF, hwF, hcl, hfty, tyX1, tyX3, tyX6, tyX9, tyX10, tyJ0, tyJ4, hfit, hcmp, hnar, hres, hst, hacp, kz, kof, kn0, kn1, Bool.not_true, Bool.not_false, true_and, and_true, Nat.zero_add, Nat.reduceAdd, List.length_cons, List.length_nil, true_or, or_true, false_or, or_false, decide_true, decide_false, ne_eq, not_true_eq_false, not_false_eq_true, ki_0, ki_1, ki_2, ki_3, ki_4, ki_5, kb_m100, kb_m10, kb_m9, kb_m8, kb_m7, kb_m6, kb_m5, kb_m4, kb_m3, kb_m2, kb_6, kb_7, kb_8, kb_9, kb_10, kb_12, kb_13, kb_16, kb_27, kb_31, kb_32, kb_43, kb_45, kb_48, kb_57, kb_60, kb_63, kb_81, kb_97, kb_99, kb_100, kb_120, kb_126, ks_m1000, ks_243, ks_255, ks_729, ks_1000, ks_2000, ks_2187, ks_6561, ks_9840, ks_9841, kl_0, kl_1, kS, k00, nI_add]
  refine ⟨fun b1274 => ?_, fun b1274 => ?_⟩
  · skip
    exact h w2 _ _ _ _ (hI.tx hX1 hB1 hm1 hY2 hm2) (by omega) (by omega) (by omega)
  · skip
    first | exact b1274.elim | exact absurd rfl b1274 | exact absurd ((lcmp_eq _ _).mpr rfl) b1274
set_option maxRecDepth 100000 in
set_option maxHeartbeats 4000000 in
theorem law_32 (hg : hgo g) (hd : 40 ≤ d) {P : hPt} (hP : hCl (Γ g d) (some .boolean) tLaw lR P) {L : Nat} {xs : Nat → Int32} (hL : L ≤ 2560) {w0 : hWd} (k0 : w0 1000000 = .inl (10, L, .inl xs)) (hD0 : hDg w0) (hT0 : hTx2 w0) {i N c s : Nat} {w : hWd} {S : cS} (hI : lIv w0 w N S) (hi : i + 5 ≤ L) (hN : N ≤ 800000) (hc : 20 ≤ c) (hs : 8000 ≤ s) (h : ∀ w' N' c' s' S', lIv w0 w' N' S' → N' ≤ N + 20 → c ≤ c' + 20 → s ≤ s' + 8000 → P N' c' s' w' 1407 [some (.ref 1000000), some (.ref 0), some (.ref 47), some (.int (nI i))] []) : P N c s w 1279 [some (.ref 1000000), some (.ref 0), some (.ref 47), some (.int (nI i))] [] := by
  have kS : w 1000000 = _ := (hI.2.2.2 1000000 (by omega)).trans k0
  obtain ⟨fs0, k00⟩ := hI.1.cl0
  refine hP 67 _ rfl _ _ _ _ _ _ ?_
  simp only [bLaw_67, hrun, hx, hnth, hput, hok, hcat2, hldI, hldL, hldR, hpI, hpL, hpA, hpR, hp1, hpV, hrtI, hrtL, hrtR, hrtV, hpN, hck, hrI, hrB, hrL, hrA, hwI, hwA, hwB, hrN, hfk, hfs, hrF, hwF, hcl, hfty, tyX1, tyX3, tyX6, tyX9, tyX10, tyJ0, tyJ4, hfit, hcmp, hnar, hres, hst, hacp, kz, kof, kn0, kn1, Bool.not_true, Bool.not_false, true_and, and_true, Nat.zero_add, Nat.reduceAdd, List.length_cons, List.length_nil, true_or, or_true, false_or, or_false, decide_true, decide_false, ne_eq, not_true_eq_false, not_false_eq_true, ki_0, ki_1, ki_2, ki_3, ki_4, ki_5, kb_m100, kb_m10, kb_m9, kb_m8, kb_m7, kb_m6, kb_m5, kb_m4, kb_m3, kb_m2, kb_6, kb_7, kb_8, kb_9, kb_10, kb_12, kb_13, kb_16, kb_27, kb_31, kb_32, kb_43, kb_45, kb_48, kb_57, kb_60, kb_63, kb_81, kb_97, kb_99, kb_100, kb_120, kb_126, ks_m1000, ks_243, ks_255, ks_729, ks_1000, ks_2000, ks_2187, ks_6561, ks_9840, ks_9841, kl_0, kl_1, kS, k00, nI_add]
  refine ⟨vp_in_nI (by omega) (by omega), ?_⟩
  refine c_x_parsePolynomial hg (by omega) hI.1 hI.2.1 (by omega) (by omega) (by omega) (fun w1 N1 c1 s1 hX1 hB1 hm1 hn1 hn2 hc1 hs1 => ?_)
  have hY1 := hI.2.2.1.t hm1
  have zS1 : w1 1000000 = _ := (hm1 _ (by omega)).trans kS
  obtain ⟨fs1, k471⟩ := hY1.cl47
  simp only [hrun, hx, hnth, hput, hok, hcat2, hldI, hldL, hldR, hpI, hpL, hpA, hpR, hp1, hpV, hrtI, hrtL, hrtR, hrtV, hpN, hck, hrI, hrB, hrL, hrA, hwI, hwA, hwB, hrN, hfk, hfs, hrF, hwF, hcl, hfty, tyX1, tyX3, tyX6, tyX9, tyX10, tyJ0, tyJ4, hfit, hcmp, hnar, hres, hst, hacp, kz, kof, kn0, kn1, Bool.not_true, Bool.not_false, true_and, and_true, Nat.zero_add, Nat.reduceAdd, List.length_cons, List.length_nil, true_or, or_true, false_or, or_false, decide_true, decide_false, ne_eq, not_true_eq_false, not_false_eq_true, ki_0, ki_1, ki_2, ki_3, ki_4, ki_5, kb_m100, kb_m10, kb_m9, kb_m8, kb_m7, kb_m6, kb_m5, kb_m4, kb_m3, kb_m2, kb_6, kb_7, kb_8, kb_9, kb_10, kb_12, kb_13, kb_16, kb_27, kb_31, kb_32, kb_43, kb_45, kb_48, kb_57, kb_60, kb_63, kb_81, kb_97, kb_99, kb_100, kb_120, kb_126, ks_m1000, ks_243, ks_255, ks_729, ks_1000, ks_2000, ks_2187, ks_6561, ks_9840, ks_9841, kl_0, kl_1, kS, k00, nI_add, zS1, k471]
  refine ⟨vp_in_nI (by omega) (by omega), ?_⟩
  refine c_m_parsePolynomial hg (by omega) hY1 (fun w2 hY2 hm2 => ?_)
  simp only [hrun, hx, hnth, hput, hok, hcat2, hldI, hldL, hldR, hpI, hpL, hpA, hpR, hp1, hpV, hrtI, hrtL, hrtR, hrtV, hpN, hck, hrI, hrB, hrL, hrA, hwI, hwA, hwB, hrN, hfk, hfs, hrF, hwF, hcl, hfty, tyX1, tyX3, tyX6, tyX9, tyX10, tyJ0, tyJ4, hfit, hcmp, hnar, hres, hst, hacp, kz, kof, kn0, kn1, Bool.not_true, Bool.not_false, true_and, and_true, Nat.zero_add, Nat.reduceAdd, List.length_cons, List.length_nil, true_or, or_true, false_or, or_false, decide_true, decide_false, ne_eq, not_true_eq_false, not_false_eq_true, ki_0, ki_1, ki_2, ki_3, ki_4, ki_5, kb_m100, kb_m10, kb_m9, kb_m8, kb_m7, kb_m6, kb_m5, kb_m4, kb_m3, kb_m2, kb_6, kb_7, kb_8, kb_9, kb_10, kb_12, kb_13, kb_16, kb_27, kb_31, kb_32, kb_43, kb_45, kb_48, kb_57, kb_60, kb_63, kb_81, kb_97, kb_99, kb_100, kb_120, kb_126, ks_m1000, ks_243, ks_255, ks_729, ks_1000, ks_2000, ks_2187, ks_6561, ks_9840, ks_9841, kl_0, kl_1, kS, k00, nI_add]
  refine ⟨fun b1297 => ?_, fun b1297 => ?_⟩
  · skip
    exact h w2 _ _ _ _ (hI.tx hX1 hB1 hm1 hY2 hm2) (by omega) (by omega) (by omega)
  · skip
    first | exact b1297.elim | exact absurd rfl b1297 | exact absurd ((lcmp_eq _ _).mpr rfl) b1297
set_option maxRecDepth 100000 in
set_option maxHeartbeats 4000000 in
theorem law_33 (hg : hgo g) (hd : 40 ≤ d) {P : hPt} (hP : hCl (Γ g d) (some .boolean) tLaw lR P) {L : Nat} {xs : Nat → Int32} (hL : L ≤ 2560) {w0 : hWd} (k0 : w0 1000000 = .inl (10, L, .inl xs)) (hD0 : hDg w0) (hT0 : hTx2 w0) {i N c s : Nat} {w : hWd} {S : cS} (hI : lIv w0 w N S) (hi : i + 5 ≤ L) (hN : N ≤ 800000) (hc : 20 ≤ c) (hs : 8000 ≤ s) (h : ∀ w' N' c' s' S', lIv w0 w' N' S' → N' ≤ N + 20 → c ≤ c' + 20 → s ≤ s' + 8000 → P N' c' s' w' 1407 [some (.ref 1000000), some (.ref 0), some (.ref 47), some (.int (nI i))] []) : P N c s w 1302 [some (.ref 1000000), some (.ref 0), some (.ref 47), some (.int (nI i))] [] := by
  have kS : w 1000000 = _ := (hI.2.2.2 1000000 (by omega)).trans k0
  obtain ⟨fs0, k00⟩ := hI.1.cl0
  refine hP 69 _ rfl _ _ _ _ _ _ ?_
  simp only [bLaw_69, hrun, hx, hnth, hput, hok, hcat2, hldI, hldL, hldR, hpI, hpL, hpA, hpR, hp1, hpV, hrtI, hrtL, hrtR, hrtV, hpN, hck, hrI, hrB, hrL, hrA, hwI, hwA, hwB, hrN, hfk, hfs, hrF, hwF, hcl, hfty, tyX1, tyX3, tyX6, tyX9, tyX10, tyJ0, tyJ4, hfit, hcmp, hnar, hres, hst, hacp, kz, kof, kn0, kn1, Bool.not_true, Bool.not_false, true_and, and_true, Nat.zero_add, Nat.reduceAdd, List.length_cons, List.length_nil, true_or, or_true, false_or, or_false, decide_true, decide_false, ne_eq, not_true_eq_false, not_false_eq_true, ki_0, ki_1, ki_2, ki_3, ki_4, ki_5, kb_m100, kb_m10, kb_m9, kb_m8, kb_m7, kb_m6, kb_m5, kb_m4, kb_m3, kb_m2, kb_6, kb_7, kb_8, kb_9, kb_10, kb_12, kb_13, kb_16, kb_27, kb_31, kb_32, kb_43, kb_45, kb_48, kb_57, kb_60, kb_63, kb_81, kb_97, kb_99, kb_100, kb_120, kb_126, ks_m1000, ks_243, ks_255, ks_729, ks_1000, ks_2000, ks_2187, ks_6561, ks_9840, ks_9841, kl_0, kl_1, kS, k00, nI_add]
  refine ⟨vp_in_nI (by omega) (by omega), ?_⟩
  refine c_x_write hg (by omega) hI.1 hI.2.1 (by omega) (by omega) (by omega) (hD0.fr hI.2.2.2) (fun w1 N1 c1 s1 hX1 hB1 hm1 hn1 hn2 hc1 hs1 => ?_)
  have hY1 := hI.2.2.1.t hm1
  have zS1 : w1 1000000 = _ := (hm1 _ (by omega)).trans kS
  obtain ⟨fs1, k471⟩ := hY1.cl47
  simp only [hrun, hx, hnth, hput, hok, hcat2, hldI, hldL, hldR, hpI, hpL, hpA, hpR, hp1, hpV, hrtI, hrtL, hrtR, hrtV, hpN, hck, hrI, hrB, hrL, hrA, hwI, hwA, hwB, hrN, hfk, hfs, hrF, hwF, hcl, hfty, tyX1, tyX3, tyX6, tyX9, tyX10, tyJ0, tyJ4, hfit, hcmp, hnar, hres, hst, hacp, kz, kof, kn0, kn1, Bool.not_true, Bool.not_false, true_and, and_true, Nat.zero_add, Nat.reduceAdd, List.length_cons, List.length_nil, true_or, or_true, false_or, or_false, decide_true, decide_false, ne_eq, not_true_eq_false, not_false_eq_true, ki_0, ki_1, ki_2, ki_3, ki_4, ki_5, kb_m100, kb_m10, kb_m9, kb_m8, kb_m7, kb_m6, kb_m5, kb_m4, kb_m3, kb_m2, kb_6, kb_7, kb_8, kb_9, kb_10, kb_12, kb_13, kb_16, kb_27, kb_31, kb_32, kb_43, kb_45, kb_48, kb_57, kb_60, kb_63, kb_81, kb_97, kb_99, kb_100, kb_120, kb_126, ks_m1000, ks_243, ks_255, ks_729, ks_1000, ks_2000, ks_2187, ks_6561, ks_9840, ks_9841, kl_0, kl_1, kS, k00, nI_add, zS1, k471]
  refine ⟨vp_in_nI (by omega) (by omega), ?_⟩
  refine c_m_write hg (by omega) hY1 (fun w2 hY2 hm2 => ?_)
  simp only [hrun, hx, hnth, hput, hok, hcat2, hldI, hldL, hldR, hpI, hpL, hpA, hpR, hp1, hpV, hrtI, hrtL, hrtR, hrtV, hpN, hck, hrI, hrB, hrL, hrA, hwI, hwA, hwB, hrN, hfk, hfs, hrF, hwF, hcl, hfty, tyX1, tyX3, tyX6, tyX9, tyX10, tyJ0, tyJ4, hfit, hcmp, hnar, hres, hst, hacp, kz, kof, kn0, kn1, Bool.not_true, Bool.not_false, true_and, and_true, Nat.zero_add, Nat.reduceAdd, List.length_cons, List.length_nil, true_or, or_true, false_or, or_false, decide_true, decide_false, ne_eq, not_true_eq_false, not_false_eq_true, ki_0, ki_1, ki_2, ki_3, ki_4, ki_5, kb_m100, kb_m10, kb_m9, kb_m8, kb_m7, kb_m6, kb_m5, kb_m4, kb_m3, kb_m2, kb_6, kb_7, kb_8, kb_9, kb_10, kb_12, kb_13, kb_16, kb_27, kb_31, kb_32, kb_43, kb_45, kb_48, kb_57, kb_60, kb_63, kb_81, kb_97, kb_99, kb_100, kb_120, kb_126, ks_m1000, ks_243, ks_255, ks_729, ks_1000, ks_2000, ks_2187, ks_6561, ks_9840, ks_9841, kl_0, kl_1, kS, k00, nI_add]
  refine ⟨fun b1320 => ?_, fun b1320 => ?_⟩
  · skip
    exact h w2 _ _ _ _ (hI.tx hX1 hB1 hm1 hY2 hm2) (by omega) (by omega) (by omega)
  · skip
    first | exact b1320.elim | exact absurd rfl b1320 | exact absurd ((lcmp_eq _ _).mpr rfl) b1320
set_option maxRecDepth 100000 in
set_option maxHeartbeats 4000000 in
theorem law_34 (hg : hgo g) (hd : 40 ≤ d) {P : hPt} (hP : hCl (Γ g d) (some .boolean) tLaw lR P) {L : Nat} {xs : Nat → Int32} (hL : L ≤ 2560) {w0 : hWd} (k0 : w0 1000000 = .inl (10, L, .inl xs)) (hD0 : hDg w0) (hT0 : hTx2 w0) {i N c s : Nat} {w : hWd} {S : cS} (hI : lIv w0 w N S) (hi : i + 5 ≤ L) (hN : N ≤ 800000) (hc : 20 ≤ c) (hs : 8000 ≤ s) (h : ∀ w' N' c' s' S', lIv w0 w' N' S' → N' ≤ N + 20 → c ≤ c' + 20 → s ≤ s' + 8000 → P N' c' s' w' 1407 [some (.ref 1000000), some (.ref 0), some (.ref 47), some (.int (nI i))] []) : P N c s w 1325 [some (.ref 1000000), some (.ref 0), some (.ref 47), some (.int (nI i))] [] := by
  have kS : w 1000000 = _ := (hI.2.2.2 1000000 (by omega)).trans k0
  obtain ⟨fs0, k00⟩ := hI.1.cl0
  refine hP 71 _ rfl _ _ _ _ _ _ ?_
  simp only [bLaw_71, hrun, hx, hnth, hput, hok, hcat2, hldI, hldL, hldR, hpI, hpL, hpA, hpR, hp1, hpV, hrtI, hrtL, hrtR, hrtV, hpN, hck, hrI, hrB, hrL, hrA, hwI, hwA, hwB, hrN, hfk, hfs, hrF, hwF, hcl, hfty, tyX1, tyX3, tyX6, tyX9, tyX10, tyJ0, tyJ4, hfit, hcmp, hnar, hres, hst, hacp, kz, kof, kn0, kn1, Bool.not_true, Bool.not_false, true_and, and_true, Nat.zero_add, Nat.reduceAdd, List.length_cons, List.length_nil, true_or, or_true, false_or, or_false, decide_true, decide_false, ne_eq, not_true_eq_false, not_false_eq_true, ki_0, ki_1, ki_2, ki_3, ki_4, ki_5, kb_m100, kb_m10, kb_m9, kb_m8, kb_m7, kb_m6, kb_m5, kb_m4, kb_m3, kb_m2, kb_6, kb_7, kb_8, kb_9, kb_10, kb_12, kb_13, kb_16, kb_27, kb_31, kb_32, kb_43, kb_45, kb_48, kb_57, kb_60, kb_63, kb_81, kb_97, kb_99, kb_100, kb_120, kb_126, ks_m1000, ks_243, ks_255, ks_729, ks_1000, ks_2000, ks_2187, ks_6561, ks_9840, ks_9841, kl_0, kl_1, kS, k00, nI_add]
  refine ⟨vp_in_nI (by omega) (by omega), ?_⟩
  obtain ⟨_, _, _, _, v5, m5, v7, m7, _, hB7, _⟩ := id hI.2.1
  refine c_outputCharacter hg (by omega) hI.1 hB7 ?_
  obtain ⟨fs1, k471⟩ := hI.2.2.1.cl47
  simp only [hrun, hx, hnth, hput, hok, hcat2, hldI, hldL, hldR, hpI, hpL, hpA, hpR, hp1, hpV, hrtI, hrtL, hrtR, hrtV, hpN, hck, hrI, hrB, hrL, hrA, hwI, hwA, hwB, hrN, hfk, hfs, hrF, hwF, hcl, hfty, tyX1, tyX3, tyX6, tyX9, tyX10, tyJ0, tyJ4, hfit, hcmp, hnar, hres, hst, hacp, kz, kof, kn0, kn1, Bool.not_true, Bool.not_false, true_and, and_true, Nat.zero_add, Nat.reduceAdd, List.length_cons, List.length_nil, true_or, or_true, false_or, or_false, decide_true, decide_false, ne_eq, not_true_eq_false, not_false_eq_true, ki_0, ki_1, ki_2, ki_3, ki_4, ki_5, kb_m100, kb_m10, kb_m9, kb_m8, kb_m7, kb_m6, kb_m5, kb_m4, kb_m3, kb_m2, kb_6, kb_7, kb_8, kb_9, kb_10, kb_12, kb_13, kb_16, kb_27, kb_31, kb_32, kb_43, kb_45, kb_48, kb_57, kb_60, kb_63, kb_81, kb_97, kb_99, kb_100, kb_120, kb_126, ks_m1000, ks_243, ks_255, ks_729, ks_1000, ks_2000, ks_2187, ks_6561, ks_9840, ks_9841, kl_0, kl_1, kS, k00, nI_add, kS, k471]
  refine ⟨vp_in_nI (by omega) (by omega), ?_⟩
  refine c_m_outputCharacter hg (by omega) hI.2.2.1 (fun w2 hY2 hm2 => ?_)
  simp only [hrun, hx, hnth, hput, hok, hcat2, hldI, hldL, hldR, hpI, hpL, hpA, hpR, hp1, hpV, hrtI, hrtL, hrtR, hrtV, hpN, hck, hrI, hrB, hrL, hrA, hwI, hwA, hwB, hrN, hfk, hfs, hrF, hwF, hcl, hfty, tyX1, tyX3, tyX6, tyX9, tyX10, tyJ0, tyJ4, hfit, hcmp, hnar, hres, hst, hacp, kz, kof, kn0, kn1, Bool.not_true, Bool.not_false, true_and, and_true, Nat.zero_add, Nat.reduceAdd, List.length_cons, List.length_nil, true_or, or_true, false_or, or_false, decide_true, decide_false, ne_eq, not_true_eq_false, not_false_eq_true, ki_0, ki_1, ki_2, ki_3, ki_4, ki_5, kb_m100, kb_m10, kb_m9, kb_m8, kb_m7, kb_m6, kb_m5, kb_m4, kb_m3, kb_m2, kb_6, kb_7, kb_8, kb_9, kb_10, kb_12, kb_13, kb_16, kb_27, kb_31, kb_32, kb_43, kb_45, kb_48, kb_57, kb_60, kb_63, kb_81, kb_97, kb_99, kb_100, kb_120, kb_126, ks_m1000, ks_243, ks_255, ks_729, ks_1000, ks_2000, ks_2187, ks_6561, ks_9840, ks_9841, kl_0, kl_1, kS, k00, nI_add]
  refine ⟨fun b1343 => ?_, fun b1343 => ?_⟩
  · skip
    exact h w2 _ _ _ _ (hI.nt hY2 hm2 sp_outputCharacter_s) (by omega) (by omega) (by omega)
  · skip
    first | exact b1343.elim | exact absurd rfl b1343 | exact absurd ((lcmp_eq _ _).mpr rfl) b1343
set_option maxRecDepth 100000 in
set_option maxHeartbeats 4000000 in
theorem law_35 (hg : hgo g) (hd : 40 ≤ d) {P : hPt} (hP : hCl (Γ g d) (some .boolean) tLaw lR P) {L : Nat} {xs : Nat → Int32} (hL : L ≤ 2560) {w0 : hWd} (k0 : w0 1000000 = .inl (10, L, .inl xs)) (hD0 : hDg w0) (hT0 : hTx2 w0) {i N c s : Nat} {w : hWd} {S : cS} (hI : lIv w0 w N S) (hi : i + 5 ≤ L) (hN : N ≤ 800000) (hc : 20 ≤ c) (hs : 8000 ≤ s) (h : ∀ w' N' c' s' S', lIv w0 w' N' S' → N' ≤ N + 20 → c ≤ c' + 20 → s ≤ s' + 8000 → P N' c' s' w' 1407 [some (.ref 1000000), some (.ref 0), some (.ref 47), some (.int (nI i))] []) : P N c s w 1348 [some (.ref 1000000), some (.ref 0), some (.ref 47), some (.int (nI i))] [] := by
  have kS : w 1000000 = _ := (hI.2.2.2 1000000 (by omega)).trans k0
  obtain ⟨fs0, k00⟩ := hI.1.cl0
  refine hP 73 _ rfl _ _ _ _ _ _ ?_
  simp only [bLaw_73, hrun, hx, hnth, hput, hok, hcat2, hldI, hldL, hldR, hpI, hpL, hpA, hpR, hp1, hpV, hrtI, hrtL, hrtR, hrtV, hpN, hck, hrI, hrB, hrL, hrA, hwI, hwA, hwB, hrN, hfk, hfs, hrF, hwF, hcl, hfty, tyX1, tyX3, tyX6, tyX9, tyX10, tyJ0, tyJ4, hfit, hcmp, hnar, hres, hst, hacp, kz, kof, kn0, kn1, Bool.not_true, Bool.not_false, true_and, and_true, Nat.zero_add, Nat.reduceAdd, List.length_cons, List.length_nil, true_or, or_true, false_or, or_false, decide_true, decide_false, ne_eq, not_true_eq_false, not_false_eq_true, ki_0, ki_1, ki_2, ki_3, ki_4, ki_5, kb_m100, kb_m10, kb_m9, kb_m8, kb_m7, kb_m6, kb_m5, kb_m4, kb_m3, kb_m2, kb_6, kb_7, kb_8, kb_9, kb_10, kb_12, kb_13, kb_16, kb_27, kb_31, kb_32, kb_43, kb_45, kb_48, kb_57, kb_60, kb_63, kb_81, kb_97, kb_99, kb_100, kb_120, kb_126, ks_m1000, ks_243, ks_255, ks_729, ks_1000, ks_2000, ks_2187, ks_6561, ks_9840, ks_9841, kl_0, kl_1, kS, k00, nI_add]
  refine ⟨vp_in_nI (by omega) (by omega), ?_⟩
  refine ⟨vp_in_nI (by omega) (by omega), ?_⟩
  refine c_x_transform hg (by omega) hI.1 hI.2.1 (by omega) (by omega) (by omega) (hT0.fr hI.2.2.2) (fun w1 N1 c1 s1 hX1 hB1 hm1 hn1 hn2 hc1 hs1 => ?_)
  have hY1 := hI.2.2.1.t hm1
  have zS1 : w1 1000000 = _ := (hm1 _ (by omega)).trans kS
  obtain ⟨fs1, k471⟩ := hY1.cl47
  simp only [hrun, hx, hnth, hput, hok, hcat2, hldI, hldL, hldR, hpI, hpL, hpA, hpR, hp1, hpV, hrtI, hrtL, hrtR, hrtV, hpN, hck, hrI, hrB, hrL, hrA, hwI, hwA, hwB, hrN, hfk, hfs, hrF, hwF, hcl, hfty, tyX1, tyX3, tyX6, tyX9, tyX10, tyJ0, tyJ4, hfit, hcmp, hnar, hres, hst, hacp, kz, kof, kn0, kn1, Bool.not_true, Bool.not_false, true_and, and_true, Nat.zero_add, Nat.reduceAdd, List.length_cons, List.length_nil, true_or, or_true, false_or, or_false, decide_true, decide_false, ne_eq, not_true_eq_false, not_false_eq_true, ki_0, ki_1, ki_2, ki_3, ki_4, ki_5, kb_m100, kb_m10, kb_m9, kb_m8, kb_m7, kb_m6, kb_m5, kb_m4, kb_m3, kb_m2, kb_6, kb_7, kb_8, kb_9, kb_10, kb_12, kb_13, kb_16, kb_27, kb_31, kb_32, kb_43, kb_45, kb_48, kb_57, kb_60, kb_63, kb_81, kb_97, kb_99, kb_100, kb_120, kb_126, ks_m1000, ks_243, ks_255, ks_729, ks_1000, ks_2000, ks_2187, ks_6561, ks_9840, ks_9841, kl_0, kl_1, kS, k00, nI_add, zS1, k471]
  refine ⟨vp_in_nI (by omega) (by omega), ?_⟩
  refine ⟨vp_in_nI (by omega) (by omega), ?_⟩
  refine c_m_transform hg (by omega) hY1 ((hT0.fr (fun j hj => (hm1 j (by omega)).trans (hI.2.2.2 j hj))).s) (fun w2 hY2 hm2 => ?_)
  simp only [hrun, hx, hnth, hput, hok, hcat2, hldI, hldL, hldR, hpI, hpL, hpA, hpR, hp1, hpV, hrtI, hrtL, hrtR, hrtV, hpN, hck, hrI, hrB, hrL, hrA, hwI, hwA, hwB, hrN, hfk, hfs, hrF, hwF, hcl, hfty, tyX1, tyX3, tyX6, tyX9, tyX10, tyJ0, tyJ4, hfit, hcmp, hnar, hres, hst, hacp, kz, kof, kn0, kn1, Bool.not_true, Bool.not_false, true_and, and_true, Nat.zero_add, Nat.reduceAdd, List.length_cons, List.length_nil, true_or, or_true, false_or, or_false, decide_true, decide_false, ne_eq, not_true_eq_false, not_false_eq_true, ki_0, ki_1, ki_2, ki_3, ki_4, ki_5, kb_m100, kb_m10, kb_m9, kb_m8, kb_m7, kb_m6, kb_m5, kb_m4, kb_m3, kb_m2, kb_6, kb_7, kb_8, kb_9, kb_10, kb_12, kb_13, kb_16, kb_27, kb_31, kb_32, kb_43, kb_45, kb_48, kb_57, kb_60, kb_63, kb_81, kb_97, kb_99, kb_100, kb_120, kb_126, ks_m1000, ks_243, ks_255, ks_729, ks_1000, ks_2000, ks_2187, ks_6561, ks_9840, ks_9841, kl_0, kl_1, kS, k00, nI_add]
  refine ⟨fun b1376 => ?_, fun b1376 => ?_⟩
  · skip
    exact h w2 _ _ _ _ (hI.tx hX1 hB1 hm1 hY2 hm2) (by omega) (by omega) (by omega)
  · skip
    first | exact b1376.elim | exact absurd rfl b1376 | exact absurd ((lcmp_eq _ _).mpr rfl) b1376
set_option maxRecDepth 100000 in
set_option maxHeartbeats 4000000 in
theorem law_36 (hg : hgo g) (hd : 40 ≤ d) {P : hPt} (hP : hCl (Γ g d) (some .boolean) tLaw lR P) {L : Nat} {xs : Nat → Int32} (hL : L ≤ 2560) {w0 : hWd} (k0 : w0 1000000 = .inl (10, L, .inl xs)) (hD0 : hDg w0) (hT0 : hTx2 w0) {i N c s : Nat} {w : hWd} {S : cS} (hI : lIv w0 w N S) (hi : i + 5 ≤ L) (hN : N ≤ 800000) (hc : 20 ≤ c) (hs : 8000 ≤ s) (h : ∀ w' N' c' s' S', lIv w0 w' N' S' → N' ≤ N + 20 → c ≤ c' + 20 → s ≤ s' + 8000 → P N' c' s' w' 1407 [some (.ref 1000000), some (.ref 0), some (.ref 47), some (.int (nI i))] []) : P N c s w 1381 [some (.ref 1000000), some (.ref 0), some (.ref 47), some (.int (nI i))] [] := by
  have kS : w 1000000 = _ := (hI.2.2.2 1000000 (by omega)).trans k0
  obtain ⟨fs0, k00⟩ := hI.1.cl0
  refine hP 75 _ rfl _ _ _ _ _ _ ?_
  simp only [bLaw_75, hrun, hx, hnth, hput, hok, hcat2, hldI, hldL, hldR, hpI, hpL, hpA, hpR, hp1, hpV, hrtI, hrtL, hrtR, hrtV, hpN, hck, hrI, hrB, hrL, hrA, hwI, hwA, hwB, hrN, hfk, hfs, hrF, hwF, hcl, hfty, tyX1, tyX3, tyX6, tyX9, tyX10, tyJ0, tyJ4, hfit, hcmp, hnar, hres, hst, hacp, kz, kof, kn0, kn1, Bool.not_true, Bool.not_false, true_and, and_true, Nat.zero_add, Nat.reduceAdd, List.length_cons, List.length_nil, true_or, or_true, false_or, or_false, decide_true, decide_false, ne_eq, not_true_eq_false, not_false_eq_true, ki_0, ki_1, ki_2, ki_3, ki_4, ki_5, kb_m100, kb_m10, kb_m9, kb_m8, kb_m7, kb_m6, kb_m5, kb_m4, kb_m3, kb_m2, kb_6, kb_7, kb_8, kb_9, kb_10, kb_12, kb_13, kb_16, kb_27, kb_31, kb_32, kb_43, kb_45, kb_48, kb_57, kb_60, kb_63, kb_81, kb_97, kb_99, kb_100, kb_120, kb_126, ks_m1000, ks_243, ks_255, ks_729, ks_1000, ks_2000, ks_2187, ks_6561, ks_9840, ks_9841, kl_0, kl_1, kS, k00, nI_add]
  refine c_saveSnapshot hg (by omega) hI.1 (fun w1 hX1 hm1 => ?_)
  have hY1 := hI.2.2.1.t hm1.t
  have zS1 : w1 1000000 = _ := (hm1 _ (by omega)).trans kS
  obtain ⟨fs1, k471⟩ := hY1.cl47
  simp only [hrun, hx, hnth, hput, hok, hcat2, hldI, hldL, hldR, hpI, hpL, hpA, hpR, hp1, hpV, hrtI, hrtL, hrtR, hrtV, hpN, hck, hrI, hrB, hrL, hrA, hwI, hwA, hwB, hrN, hfk, hfs, hrF, hwF, hcl, hfty, tyX1, tyX3, tyX6, tyX9, tyX10, tyJ0, tyJ4, hfit, hcmp, hnar, hres, hst, hacp, kz, kof, kn0, kn1, Bool.not_true, Bool.not_false, true_and, and_true, Nat.zero_add, Nat.reduceAdd, List.length_cons, List.length_nil, true_or, or_true, false_or, or_false, decide_true, decide_false, ne_eq, not_true_eq_false, not_false_eq_true, ki_0, ki_1, ki_2, ki_3, ki_4, ki_5, kb_m100, kb_m10, kb_m9, kb_m8, kb_m7, kb_m6, kb_m5, kb_m4, kb_m3, kb_m2, kb_6, kb_7, kb_8, kb_9, kb_10, kb_12, kb_13, kb_16, kb_27, kb_31, kb_32, kb_43, kb_45, kb_48, kb_57, kb_60, kb_63, kb_81, kb_97, kb_99, kb_100, kb_120, kb_126, ks_m1000, ks_243, ks_255, ks_729, ks_1000, ks_2000, ks_2187, ks_6561, ks_9840, ks_9841, kl_0, kl_1, kS, k00, nI_add, zS1, k471]
  refine c_m_saveSnapshot hg (by omega) hY1 (fun w2 hY2 hm2 => ?_)
  simp only [hrun, hx, hnth, hput, hok, hcat2, hldI, hldL, hldR, hpI, hpL, hpA, hpR, hp1, hpV, hrtI, hrtL, hrtR, hrtV, hpN, hck, hrI, hrB, hrL, hrA, hwI, hwA, hwB, hrN, hfk, hfs, hrF, hwF, hcl, hfty, tyX1, tyX3, tyX6, tyX9, tyX10, tyJ0, tyJ4, hfit, hcmp, hnar, hres, hst, hacp, kz, kof, kn0, kn1, Bool.not_true, Bool.not_false, true_and, and_true, Nat.zero_add, Nat.reduceAdd, List.length_cons, List.length_nil, true_or, or_true, false_or, or_false, decide_true, decide_false, ne_eq, not_true_eq_false, not_false_eq_true, ki_0, ki_1, ki_2, ki_3, ki_4, ki_5, kb_m100, kb_m10, kb_m9, kb_m8, kb_m7, kb_m6, kb_m5, kb_m4, kb_m3, kb_m2, kb_6, kb_7, kb_8, kb_9, kb_10, kb_12, kb_13, kb_16, kb_27, kb_31, kb_32, kb_43, kb_45, kb_48, kb_57, kb_60, kb_63, kb_81, kb_97, kb_99, kb_100, kb_120, kb_126, ks_m1000, ks_243, ks_255, ks_729, ks_1000, ks_2000, ks_2187, ks_6561, ks_9840, ks_9841, kl_0, kl_1, kS, k00, nI_add]
  refine ⟨fun b1389 => ?_, fun b1389 => ?_⟩
  · skip
    exact h w2 _ _ _ _ (hI.st hX1 hm1 hY2 hm2 sp_save_t) (by omega) (by omega) (by omega)
  · skip
    first | exact b1389.elim | exact absurd rfl b1389 | exact absurd ((lcmp_eq _ _).mpr rfl) b1389
set_option maxRecDepth 100000 in
set_option maxHeartbeats 4000000 in
theorem law_37 (hg : hgo g) (hd : 40 ≤ d) {P : hPt} (hP : hCl (Γ g d) (some .boolean) tLaw lR P) {L : Nat} {xs : Nat → Int32} (hL : L ≤ 2560) {w0 : hWd} (k0 : w0 1000000 = .inl (10, L, .inl xs)) (hD0 : hDg w0) (hT0 : hTx2 w0) {i N c s : Nat} {w : hWd} {S : cS} (hI : lIv w0 w N S) (hi : i + 5 ≤ L) (hN : N ≤ 800000) (hc : 20 ≤ c) (hs : 8000 ≤ s) (h : ∀ w' N' c' s' S', lIv w0 w' N' S' → N' ≤ N + 20 → c ≤ c' + 20 → s ≤ s' + 8000 → P N' c' s' w' 1407 [some (.ref 1000000), some (.ref 0), some (.ref 47), some (.int (nI i))] []) : P N c s w 1394 [some (.ref 1000000), some (.ref 0), some (.ref 47), some (.int (nI i))] [] := by
  have kS : w 1000000 = _ := (hI.2.2.2 1000000 (by omega)).trans k0
  obtain ⟨fs0, k00⟩ := hI.1.cl0
  refine hP 77 _ rfl _ _ _ _ _ _ ?_
  simp only [bLaw_77, hrun, hx, hnth, hput, hok, hcat2, hldI, hldL, hldR, hpI, hpL, hpA, hpR, hp1, hpV, hrtI, hrtL, hrtR, hrtV, hpN, hck, hrI, hrB, hrL, hrA, hwI, hwA, hwB, hrN, hfk, hfs, hrF, hwF, hcl, hfty, tyX1, tyX3, tyX6, tyX9, tyX10, tyJ0, tyJ4, hfit, hcmp, hnar, hres, hst, hacp, kz, kof, kn0, kn1, Bool.not_true, Bool.not_false, true_and, and_true, Nat.zero_add, Nat.reduceAdd, List.length_cons, List.length_nil, true_or, or_true, false_or, or_false, decide_true, decide_false, ne_eq, not_true_eq_false, not_false_eq_true, ki_0, ki_1, ki_2, ki_3, ki_4, ki_5, kb_m100, kb_m10, kb_m9, kb_m8, kb_m7, kb_m6, kb_m5, kb_m4, kb_m3, kb_m2, kb_6, kb_7, kb_8, kb_9, kb_10, kb_12, kb_13, kb_16, kb_27, kb_31, kb_32, kb_43, kb_45, kb_48, kb_57, kb_60, kb_63, kb_81, kb_97, kb_99, kb_100, kb_120, kb_126, ks_m1000, ks_243, ks_255, ks_729, ks_1000, ks_2000, ks_2187, ks_6561, ks_9840, ks_9841, kl_0, kl_1, kS, k00, nI_add]
  refine c_restoreSnapshot hg (by omega) hI.1 (fun w1 hX1 hm1 => ?_)
  have hY1 := hI.2.2.1.t hm1.t
  have zS1 : w1 1000000 = _ := (hm1 _ (by omega)).trans kS
  obtain ⟨fs1, k471⟩ := hY1.cl47
  simp only [hrun, hx, hnth, hput, hok, hcat2, hldI, hldL, hldR, hpI, hpL, hpA, hpR, hp1, hpV, hrtI, hrtL, hrtR, hrtV, hpN, hck, hrI, hrB, hrL, hrA, hwI, hwA, hwB, hrN, hfk, hfs, hrF, hwF, hcl, hfty, tyX1, tyX3, tyX6, tyX9, tyX10, tyJ0, tyJ4, hfit, hcmp, hnar, hres, hst, hacp, kz, kof, kn0, kn1, Bool.not_true, Bool.not_false, true_and, and_true, Nat.zero_add, Nat.reduceAdd, List.length_cons, List.length_nil, true_or, or_true, false_or, or_false, decide_true, decide_false, ne_eq, not_true_eq_false, not_false_eq_true, ki_0, ki_1, ki_2, ki_3, ki_4, ki_5, kb_m100, kb_m10, kb_m9, kb_m8, kb_m7, kb_m6, kb_m5, kb_m4, kb_m3, kb_m2, kb_6, kb_7, kb_8, kb_9, kb_10, kb_12, kb_13, kb_16, kb_27, kb_31, kb_32, kb_43, kb_45, kb_48, kb_57, kb_60, kb_63, kb_81, kb_97, kb_99, kb_100, kb_120, kb_126, ks_m1000, ks_243, ks_255, ks_729, ks_1000, ks_2000, ks_2187, ks_6561, ks_9840, ks_9841, kl_0, kl_1, kS, k00, nI_add, zS1, k471]
  refine c_m_restoreSnapshot hg (by omega) hY1 (fun w2 hY2 hm2 => ?_)
  simp only [hrun, hx, hnth, hput, hok, hcat2, hldI, hldL, hldR, hpI, hpL, hpA, hpR, hp1, hpV, hrtI, hrtL, hrtR, hrtV, hpN, hck, hrI, hrB, hrL, hrA, hwI, hwA, hwB, hrN, hfk, hfs, hrF, hwF, hcl, hfty, tyX1, tyX3, tyX6, tyX9, tyX10, tyJ0, tyJ4, hfit, hcmp, hnar, hres, hst, hacp, kz, kof, kn0, kn1, Bool.not_true, Bool.not_false, true_and, and_true, Nat.zero_add, Nat.reduceAdd, List.length_cons, List.length_nil, true_or, or_true, false_or, or_false, decide_true, decide_false, ne_eq, not_true_eq_false, not_false_eq_true, ki_0, ki_1, ki_2, ki_3, ki_4, ki_5, kb_m100, kb_m10, kb_m9, kb_m8, kb_m7, kb_m6, kb_m5, kb_m4, kb_m3, kb_m2, kb_6, kb_7, kb_8, kb_9, kb_10, kb_12, kb_13, kb_16, kb_27, kb_31, kb_32, kb_43, kb_45, kb_48, kb_57, kb_60, kb_63, kb_81, kb_97, kb_99, kb_100, kb_120, kb_126, ks_m1000, ks_243, ks_255, ks_729, ks_1000, ks_2000, ks_2187, ks_6561, ks_9840, ks_9841, kl_0, kl_1, kS, k00, nI_add]
  refine ⟨fun b1402 => ?_, fun b1402 => ?_⟩
  · skip
    exact h w2 _ _ _ _ (hI.st hX1 hm1 hY2 hm2 sp_restore_t) (by omega) (by omega) (by omega)
  · skip
    first | exact b1402.elim | exact absurd rfl b1402 | exact absurd ((lcmp_eq _ _).mpr rfl) b1402
end M45
