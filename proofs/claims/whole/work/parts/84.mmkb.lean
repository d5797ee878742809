/-! the reference makes a basis polynomial -/
section M35
variable {g : hG} {d N c s : Nat} {w : hWd} {Q : hRt}
theorem mcmp_0 {u v : Nat → Nat} {a n b : Nat} : ∀ (r k : Nat), mcmp u v a n b n r k = 0 ↔ ∀ j, j < r → u (a + k + j) = v (b + k + j)
  | 0, k => ⟨fun _ j hj => by omega, fun _ => by show (n : Int) - (n : Int) = 0; omega⟩
  | r + 1, k => by
    rw [mcmp]
    by_cases q : u (a + k) = v (b + k)
    · rw [if_pos q, mcmp_0 r (k + 1)]
      constructor
      · intro h j hj
        cases j with
        | zero => exact q
        | succ j =>
          have := h j (by omega)
          rwa [show a + (k + 1) + j = a + k + (j + 1) by omega, show b + (k + 1) + j = b + k + (j + 1) by omega] at this
      · intro h j hj
        have := h (j + 1) (by omega)
        rwa [show a + (k + 1) + j = a + k + (j + 1) by omega, show b + (k + 1) + j = b + k + (j + 1) by omega]
    · rw [if_neg q]
      refine ⟨fun h => absurd (by omega) q, fun h => absurd (h 0 (by omega)) q⟩
theorem mcp_0 {u v : Nat → Nat} {a n b : Nat} : mcp u v a n b n = 0 ↔ ∀ j, j < n → u (a + j) = v (b + j) := by
  unfold mcp
  rw [Nat.min_self, mcmp_0]
  simp only [Nat.add_zero]
theorem mfac_step {u : List Nat} (hu : mW u) : ∀ (n s i : Nat), s ≤ u.length → u.length - s ≤ n → i < (mfac u n s).length → (mfac u n s).getD (i + 1) u.length = (mfac u n s).getD i u.length + mfl (mat u) ((mfac u n s).getD i u.length) (u.length - (mfac u n s).getD i u.length)
  | 0, s, i, _, _, hi => by cases hi
  | n + 1, s, i, hs, hn, hi => by
    by_cases q : s < u.length
    · have hb := mfl_bd (mat u) s (u.length - s) (by omega)
      rw [mfac_s hu q] at hi ⊢
      cases i with
      | zero =>
        show (mfac u n (s + mfl (mat u) s (u.length - s))).getD 0 u.length = s + mfl (mat u) s (u.length - s)
        by_cases q2 : s + mfl (mat u) s (u.length - s) < u.length
        · obtain ⟨m, rfl⟩ : ∃ m, n = m + 1 := ⟨n - 1, by omega⟩
          rw [mfac_s hu q2]; rfl
        · rw [mfac_e q2]
          show u.length = _
          omega
      | succ i => exact mfac_step hu n _ i (by omega) (by omega) (by simpa using hi)
    · rw [mfac_e q] at hi; cases hi
theorem mfb_step {u : List Nat} (hu : mW u) {i : Nat} (hi : i < mfn u) : mfl (mat u) (mfb u i) (u.length - mfb u i) = mfb u (i + 1) - mfb u i := by
  have := mfac_step hu 8 0 i (Nat.zero_le _) (by have := hu.1; omega) hi
  have e : mfb u (i + 1) = mfb u i + mfl (mat u) (mfb u i) (u.length - mfb u i) := this
  omega
theorem mfb_end (u : List Nat) {i : Nat} (h : mfn u ≤ i) : mfb u i = u.length := by
  unfold mfb
  rw [List.getD_eq_getElem?_getD, List.getElem?_eq_none h]; rfl
theorem mfb_0 {u : List Nat} : mfb u 0 = 0 := by
  by_cases q : 0 < u.length
  · unfold mfb mfacs
    rw [mfac, if_pos q]; rfl
  · have : u = [] := List.eq_nil_of_length_eq_zero (by omega)
    subst this; rfl
theorem mfb_le (u : List Nat) (i : Nat) : mfb u i ≤ u.length := by
  by_cases q : i < mfn u
  · have := mfb_bd q; omega
  · rw [mfb_end u (by omega)]; exact Nat.le_refl _
/-- the list of a basis polynomial while it is made -/
def hBs (w : hWd) (ml ns il at9 ol sv : Int32) (st : nST) : Prop := w 47 = .inr (6, mFl ml (nI st.1.length) ns il at9 ol sv) ∧ (∃ L, w 72 = .inl (0, 9841, .inl L) ∧ ∀ k, k < st.1.length → L k = nI (st.1.getD k 0)) ∧ (∃ L2, w 73 = .inl (0, 9841, .inl L2)) ∧ (∃ T, w 74 = .inl (1, 9841, .inr (.inl T)) ∧ ∀ c, c < 9841 → T c = lN (st.2 c)) ∧ ∃ T2, w 75 = .inl (1, 9841, .inr (.inl T2)) ∧ ∀ c, c < 9841 → T2 c = 0
theorem getD_mem {l : List Nat} {k : Nat} (h : k < l.length) : l.getD k 0 ∈ l := by
  rw [List.getD_eq_getElem?_getD, List.getElem?_eq_getElem h]; exact List.getElem_mem h
theorem take_mem {l : List Nat} {k : Nat} (h : k < l.length) (c : Nat) : c ∈ l.take (k + 1) ↔ c ∈ l.take k ∨ c = l.getD k 0 := by
  rw [List.take_succ, List.getElem?_eq_getElem h, List.getD_eq_getElem?_getD, List.getElem?_eq_getElem h, List.mem_append]
  simp
theorem nodup_take {l : List Nat} (hn : l.Nodup) {k : Nat} (h : k < l.length) : l.getD k 0 ∉ l.take k := fun hm => by
  have e : l.take (k + 1) = l.take k ++ [l.getD k 0] := by
    rw [List.take_succ, List.getElem?_eq_getElem h, List.getD_eq_getElem?_getD, List.getElem?_eq_getElem h]; rfl
  have h1 : (l.take (k + 1)).Nodup := List.Nodup.sublist (List.take_sublist _ _) hn
  rw [e, List.nodup_append] at h1
  exact h1.2.2 _ hm _ (List.mem_singleton.mpr rfl) rfl
theorem rDv_le : ∀ (ls : List (List Nat)) (w : List Nat) (r : Nat), rDv w r ls ≤ (r + ls.length) ^ ls.length
  | [], w, r => by show 1 ≤ (r + 0) ^ 0; rw [Nat.pow_zero]; exact Nat.le_refl _
  | l :: ls, w, r => by
    show (if l = w then r + 1 else 1) * rDv l (if l = w then r + 1 else 1) ls ≤ _
    have h1 : (if l = w then r + 1 else 1) ≤ r + 1 := by split <;> omega
    have h2 := rDv_le ls l (if l = w then r + 1 else 1)
    have h3 : ((if l = w then r + 1 else 1) + ls.length) ^ ls.length ≤ (r + (ls.length + 1)) ^ ls.length := Nat.pow_le_pow_left (by omega) _
    rw [List.length_cons, Nat.pow_succ, Nat.mul_comm]
    exact Nat.mul_le_mul (Nat.le_trans h2 h3) (by omega)
theorem rwt_le {fs : List (List Nat)} (h : fs.length ≤ 8) : rwt (grp fs) < 2 ^ 31 := by
  cases fs with
  | nil => decide
  | cons l ls =>
    have h1 := rwt_rD ls l 0
    have e : List.replicate (0 + 1) l ++ ls = l :: ls := rfl
    rw [e] at h1
    have h2 := rDv_le ls l (0 + 1)
    have h4 : ls.length ≤ 7 := by simp at h; omega
    have h3 : (0 + 1 + ls.length) ^ ls.length ≤ 8 ^ 7 := Nat.le_trans (Nat.pow_le_pow_left (show 0 + 1 + ls.length ≤ 8 by omega) _) (Nat.pow_le_pow_right (by omega) h4)
    have h5 : (8 : Nat) ^ 7 < 2 ^ 31 := by decide
    rw [h1, show fct (0 + 1) = 1 from rfl, Nat.one_mul]
    omega
theorem bIv_0 : bIv 0 [] ([0], fun c => if c = 0 then 1 else 0) := by
  refine ⟨⟨by simp, fun c hc => by rw [List.mem_singleton] at hc; omega, fun c _ => ?_⟩, fun c hc => by rw [List.mem_singleton] at hc; rw [hc]; rfl, fun y hy => ?_, rfl, Nat.zero_le _, fun r hr => by cases hr⟩
  · show (if c = 0 then 1 else 0) ≠ 0 ↔ c ∈ [0]
    rw [List.mem_singleton]
    by_cases q : c = 0
    · rw [if_pos q]; exact iff_of_true (by omega) q
    · rw [if_neg q]; exact iff_of_false (fun z => z rfl) q
  · show (if menc y = 0 then 1 else 0) = mM y []
    cases y with
    | nil => rw [mM_nil, if_pos (fun r hr => by cases hr)]; rfl
    | cons a y =>
      rw [if_neg (by have := menc_pos (l := a :: y) (by simp); omega), mM_cons]; rfl
theorem mfw_i {u : List Nat} {i : Nat} (hi : i < mfn u) : (mfw u).take (i + 1) = (mfw u).take i ++ [mrs u (fun _ => 0) i] := by
  rw [List.take_succ, mfw_at hi]; rfl
theorem mfw_d {u : List Nat} {i : Nat} (hi : i < mfn u) : (mfw u).drop i = mrs u (fun _ => 0) i :: (mfw u).drop (i + 1) := by
  rw [List.drop_eq_getElem_cons (by rw [mfw_len]; exact hi)]
  congr 1
  have := mfw_at hi
  rw [List.getElem?_eq_getElem (by rw [mfw_len]; exact hi)] at this
  injection this
theorem lN_0 : lN 0 = 0 := rfl
theorem shL_W {u : List Nat} (hu : mW u) : ∀ x ∈ mshL u 9 [] (fun _ => 0), mW x := by
  have key : ∀ (n : Nat) (p : List Nat) (us : Nat → Nat), p.length + mrem u us ≤ 8 → (∀ a ∈ p, a < 3) → ∀ x ∈ mshL u n p us, mW x := by
    intro n
    induction n with
    | zero => intro p us _ _ x h; cases h
    | succ n ih =>
      intro p us hl9 hp x h
      rw [mshL] at h
      split at h
      · obtain ⟨i, h1, h2⟩ := List.mem_flatMap.mp h
        have hi := List.mem_range.mp h1
        split at h2
        · rename_i hc
          have hr := mrem_tk hi hc
          have hlt := mcan_lt hc
          have hb := mfb_bd hi
          refine ih _ _ (by rw [List.length_append]; simp; omega) (fun a ha => ?_) x h2
          rcases List.mem_append.mp ha with e | e
          · exact hp a e
          · rw [List.mem_singleton.mp e]; exact mat_3 hu _ (by omega)
        · cases h2
      · rw [List.mem_singleton] at h
        rw [h]; exact ⟨by omega, hp⟩
  exact key 9 [] _ (by have := mrem_0 u hu; simp; omega) (fun a ha => by cases ha)
set_option maxRecDepth 100000 in
set_option maxHeartbeats 4000000 in
theorem c_makeBasis (hg : hgo g) (hd : 14 ≤ d) {u : List Nat} (hu : mW u) {y : Nat} {ry : Nat → Nat} (hry : hrow w y ry) (hrye : ∀ j, j < u.length → ry j = mat u j) (hy : y ≠ 47 ∧ y ≠ 67 ∧ y ≠ 72 ∧ y ≠ 73 ∧ y ≠ 74 ∧ y ≠ 75) (hM : hMb w) {ls : Nat} (hLm9 : hLm w ls) {ml ns il at9 ol sv : Int32} (k0 : w 47 = .inr (6, mFl ml (nI ls) ns il at9 ol sv)) (h67 : ∃ r, hrow w 67 r)  (h : ∀ w' (l : List Nat) (ns' : Int32), l.Nodup → (∀ c ∈ l, c < 9841) → (∀ c, c < 9841 → cwL (mshL u 9 [] (fun _ => 0)) c ≠ 0 → c ∈ l) → w' 47 = .inr (6, mFl ml (nI l.length) ns' il at9 ol sv) → (∃ L, w' 72 = .inl (0, 9841, .inl L) ∧ ∀ k, k < l.length → L k = nI (l.getD k 0)) → (∃ L2, w' 73 = .inl (0, 9841, .inl L2)) → (∃ T, w' 74 = .inl (1, 9841, .inr (.inl T)) ∧ ∀ c, c < 9841 → T c = lN (cwL (mshL u 9 [] (fun _ => 0)) c)) → (∃ T2, w' 75 = .inl (1, 9841, .inr (.inl T2)) ∧ ∀ c, c < 9841 → T2 c = 0) → (∃ r, hrow w' 67 r) → mfr [47, 67, 72, 73, 74, 75] w w' → Q none N c s w') : Γ g d yX10_makeBasis [.ref 47, .ref y, .int (nI u.length)] N c s w Q := by
  refine Γ.intro0 hg kX10_makeBasis (by omega) (Nat.le_of_ble_eq_true rfl) (fun P hP => ?_)
  show P N 0 0 w 0 [some (.ref 47), some (.ref y), some (.int (nI u.length)), none, none, none, none, none, none, none, none, none] []
  have hu8 := hu.1
  have hn8 := mfn_le u
  have hfl8 : (mfw u).length ≤ 8 := by rw [mfw_len]; exact hn8
  obtain ⟨A, kA, hA⟩ := id hry
  have hlen := hLm9.1
  obtain ⟨_, L0, L20, T0, T20, k72, k73, k74, k75, hl1, hl2, hl3⟩ := id hLm9
  have ry3 : ∀ j, j < 8 → ry j < 3 := fun j hj => (hA j hj).2
  -- the division
  have last : ∀ (st : nST) (w1 : hWd) (ns1 : Int32) (D : Nat) (x9 x10 x11 : Option Value) (rep bef : Nat), bIv u.length (mfw u) st → rwt (grp (mfw u)) = D → (∀ c, c < 9841 → st.2 c < 2 ^ 31) → ∀ (n k : Nat) (w2 : hWd) (T : Nat → Int64), st.1.length - k = n → k ≤ st.1.length → w2 47 = .inr (6, mFl ml (nI st.1.length) ns1 il at9 ol sv) → (∃ L, w2 72 = .inl (0, 9841, .inl L) ∧ ∀ k, k < st.1.length → L k = nI (st.1.getD k 0)) → (∃ L2, w2 73 = .inl (0, 9841, .inl L2)) → w2 74 = .inl (1, 9841, .inr (.inl T)) → (∀ c, c < 9841 → T c = if c ∈ st.1.take k then lN (st.2 c / D) else lN (st.2 c)) → (∃ T2, w2 75 = .inl (1, 9841, .inr (.inl T2)) ∧ ∀ c, c < 9841 → T2 c = 0) → (∃ r, hrow w2 67 r) → mfr [47, 67, 72, 73, 74, 75] w w2 → P N 0 0 w2 299 [some (.ref 47), some (.ref y), some (.int (nI u.length)), some (.int (nI u.length)), some (.long (lN D)), none, some (.int (nI rep)), some (.int (nI bef)), some (.int (nI k)), x9, x10, x11] [] := by
    intro st w1 ns1 D x9 x10 x11 rep bef hiv hD hlt31 n
    have hDp : 0 < D := by rw [← hD]; exact rwt_pos _
    have hDl : D < 2 ^ 31 := by rw [← hD]; exact rwt_le hfl8
    have hok1 := hiv.1
    have hNl := nOK_len hok1
    induction n with
    | zero =>
      intro k w2 T hn hk m47 m72 m73 m74 hT m75 m67 hm
      obtain rfl : k = st.1.length := by omega
      rw [List.take_length] at hT
      refine hP 21 _ rfl _ _ _ _ _ _ ?_
      simp only [bX10_makeBasis_21, hrun, hx, hnth, hput, hok, hcat2, hldI, hldL, hldR, hpI, hpL, hpA, hpR, hp1, hpV, hrtI, hrtL, hrtR, hrtV, hpN, hck, hrI, hrB, hrL, hrA, hwI, hwA, hwB, hrN, mf_0, mf_1, mf_2, mf_3, mf_4, mf_5, mf_6, mf_7, mf_8, mf_9, mf_10, mf_11, mf_12, mf_13, mf_14, mf_15, mf_16, mf_17, mf_18, mf_19, mf_20, mf_21, mf_22, mf_23, mf_24, mf_25, mf_26, mf_27, mf_28, mf_29, ms_11, ms_16, ms_17, ms_20, ms_21, ms_23, ms_24, hwF, hcl, hfty, tyX1, tyX3, tyX6, tyX9, tyX10, tyJ0, tyJ4, hfit, hcmp, hnar, hres, hst, hacp, kz, kof, kn0, kn1, Bool.not_true, Bool.not_false, true_and, and_true, Nat.zero_add, Nat.reduceAdd, List.length_cons, List.length_nil, true_or, or_true, false_or, or_false, decide_true, decide_false, ne_eq, not_true_eq_false, not_false_eq_true, ki_0, ki_1, ki_2, ki_3, ki_4, ki_5, kb_m100, kb_m10, kb_m9, kb_m8, kb_m7, kb_m6, kb_m5, kb_m4, kb_m3, kb_m2, kb_6, kb_7, kb_8, kb_9, kb_10, kb_12, kb_13, kb_16, kb_27, kb_31, kb_32, kb_43, kb_45, kb_48, kb_57, kb_60, kb_63, kb_81, kb_97, kb_99, kb_100, kb_120, kb_126, ks_m1000, ks_243, ks_255, ks_729, ks_1000, ks_2000, ks_2187, ks_6561, ks_9840, ks_9841, kl_0, kl_1, m47]
      refine ⟨fun b305 => ?_, fun b305 => ?_⟩
      · try simp (disch := omega) only [nI_ltI, nI_leI, nI_eq, Nat.not_lt, Nat.not_le] at b305
        refine hP 23 _ rfl _ _ _ _ _ _ ?_
        simp only [bX10_makeBasis_23, hrun, hx, hnth, hput, hok, hcat2, hldI, hldL, hldR, hpI, hpL, hpA, hpR, hp1, hpV, hrtI, hrtL, hrtR, hrtV, hpN, hck, hrI, hrB, hrL, hrA, hwI, hwA, hwB, hrN, mf_0, mf_1, mf_2, mf_3, mf_4, mf_5, mf_6, mf_7, mf_8, mf_9, mf_10, mf_11, mf_12, mf_13, mf_14, mf_15, mf_16, mf_17, mf_18, mf_19, mf_20, mf_21, mf_22, mf_23, mf_24, mf_25, mf_26, mf_27, mf_28, mf_29, ms_11, ms_16, ms_17, ms_20, ms_21, ms_23, ms_24, hwF, hcl, hfty, tyX1, tyX3, tyX6, tyX9, tyX10, tyJ0, tyJ4, hfit, hcmp, hnar, hres, hst, hacp, kz, kof, kn0, kn1, Bool.not_true, Bool.not_false, true_and, and_true, Nat.zero_add, Nat.reduceAdd, List.length_cons, List.length_nil, true_or, or_true, false_or, or_false, decide_true, decide_false, ne_eq, not_true_eq_false, not_false_eq_true, ki_0, ki_1, ki_2, ki_3, ki_4, ki_5, kb_m100, kb_m10, kb_m9, kb_m8, kb_m7, kb_m6, kb_m5, kb_m4, kb_m3, kb_m2, kb_6, kb_7, kb_8, kb_9, kb_10, kb_12, kb_13, kb_16, kb_27, kb_31, kb_32, kb_43, kb_45, kb_48, kb_57, kb_60, kb_63, kb_81, kb_97, kb_99, kb_100, kb_120, kb_126, ks_m1000, ks_243, ks_255, ks_729, ks_1000, ks_2000, ks_2187, ks_6561, ks_9840, ks_9841, kl_0, kl_1, m47]
        refine h w2 st.1 ns1 hok1.1 hok1.2.1 (fun c hc hne => ?_) m47 m72 m73 ⟨T, m74, fun c hc => ?_⟩ m75 m67 hm
        · refine (hok1.2.2 c hc).mp (fun z => hne ?_)
          obtain ⟨x, hx9, e⟩ := mword hc
          have hz9 := hiv.2.2.1 x hx9
          rw [e, z] at hz9
          rw [← e, cwL_o (shL_W hu) hx9, mshL_cnt hu, ← hz9, Nat.zero_div]
        · obtain ⟨x, hx9, e⟩ := mword hc
          have hz9 := hiv.2.2.1 x hx9
          have e2 : cwL (mshL u 9 [] (fun _ => 0)) c = st.2 c / D := by rw [← e, cwL_o (shL_W hu) hx9, mshL_cnt hu, ← hz9, hD]
          rw [e2, hT c hc]
          by_cases q : c ∈ st.1
          · rw [if_pos q]
          · rw [if_neg q]
            have : st.2 c = 0 := Decidable.byContradiction (fun z => q ((hok1.2.2 c hc).mp z))
            rw [this, Nat.zero_div]
      · (try simp (disch := omega) only [nI_ltI, nI_leI, nI_eq, Nat.not_lt, Nat.not_le] at b305) <;> (exfalso; omega)
    | succ n ih =>
      intro k w2 T hn hk m47 ⟨L, m72, hL9⟩ m73 m74 hT m75 m67 hm
      have hkl : k < st.1.length := by omega
      have hcm := getD_mem hkl
      have hc9 := hok1.2.1 _ hcm
      have e_k := nI_clamp (n := k) (by omega)
      have e_c := nI_clamp (n := st.1.getD k 0) (by omega)
      have l_k := hL9 k hkl
      have hTc := hT _ hc9
      rw [if_neg (nodup_take hok1.1 hkl)] at hTc
      have hdv : lN (st.2 (st.1.getD k 0)) / lN D = lN (st.2 (st.1.getD k 0) / D) := pk_lDiv (by have := hlt31 _ hc9; omega) hDp (by omega)
      have hDz : ¬ lN D = 0 := fun q => by
        have := (pk_lEQ (a := D) (b := 0) (by omega) (by omega)).mp q
        omega
      refine hP 21 _ rfl _ _ _ _ _ _ ?_
      simp only [bX10_makeBasis_21, hrun, hx, hnth, hput, hok, hcat2, hldI, hldL, hldR, hpI, hpL, hpA, hpR, hp1, hpV, hrtI, hrtL, hrtR, hrtV, hpN, hck, hrI, hrB, hrL, hrA, hwI, hwA, hwB, hrN, mf_0, mf_1, mf_2, mf_3, mf_4, mf_5, mf_6, mf_7, mf_8, mf_9, mf_10, mf_11, mf_12, mf_13, mf_14, mf_15, mf_16, mf_17, mf_18, mf_19, mf_20, mf_21, mf_22, mf_23, mf_24, mf_25, mf_26, mf_27, mf_28, mf_29, ms_11, ms_16, ms_17, ms_20, ms_21, ms_23, ms_24, hwF, hcl, hfty, tyX1, tyX3, tyX6, tyX9, tyX10, tyJ0, tyJ4, hfit, hcmp, hnar, hres, hst, hacp, kz, kof, kn0, kn1, Bool.not_true, Bool.not_false, true_and, and_true, Nat.zero_add, Nat.reduceAdd, List.length_cons, List.length_nil, true_or, or_true, false_or, or_false, decide_true, decide_false, ne_eq, not_true_eq_false, not_false_eq_true, ki_0, ki_1, ki_2, ki_3, ki_4, ki_5, kb_m100, kb_m10, kb_m9, kb_m8, kb_m7, kb_m6, kb_m5, kb_m4, kb_m3, kb_m2, kb_6, kb_7, kb_8, kb_9, kb_10, kb_12, kb_13, kb_16, kb_27, kb_31, kb_32, kb_43, kb_45, kb_48, kb_57, kb_60, kb_63, kb_81, kb_97, kb_99, kb_100, kb_120, kb_126, ks_m1000, ks_243, ks_255, ks_729, ks_1000, ks_2000, ks_2187, ks_6561, ks_9840, ks_9841, kl_0, kl_1, m47, m72, m74, e_k, l_k, e_c, hTc, hdv]
      refine ⟨fun b305 => ?_, fun b305 => ?_⟩
      · (try simp (disch := omega) only [nI_ltI, nI_leI, nI_eq, Nat.not_lt, Nat.not_le] at b305) <;> (exfalso; omega)
      · try simp (disch := omega) only [nI_ltI, nI_leI, nI_eq, Nat.not_lt, Nat.not_le] at b305
        refine hP 22 _ rfl _ _ _ _ _ _ ?_
        simp only [bX10_makeBasis_22, hrun, hx, hnth, hput, hok, hcat2, hldI, hldL, hldR, hpI, hpL, hpA, hpR, hp1, hpV, hrtI, hrtL, hrtR, hrtV, hpN, hck, hrI, hrB, hrL, hrA, hwI, hwA, hwB, hrN, mf_0, mf_1, mf_2, mf_3, mf_4, mf_5, mf_6, mf_7, mf_8, mf_9, mf_10, mf_11, mf_12, mf_13, mf_14, mf_15, mf_16, mf_17, mf_18, mf_19, mf_20, mf_21, mf_22, mf_23, mf_24, mf_25, mf_26, mf_27, mf_28, mf_29, ms_11, ms_16, ms_17, ms_20, ms_21, ms_23, ms_24, hwF, hcl, hfty, tyX1, tyX3, tyX6, tyX9, tyX10, tyJ0, tyJ4, hfit, hcmp, hnar, hres, hst, hacp, kz, kof, kn0, kn1, Bool.not_true, Bool.not_false, true_and, and_true, Nat.zero_add, Nat.reduceAdd, List.length_cons, List.length_nil, true_or, or_true, false_or, or_false, decide_true, decide_false, ne_eq, not_true_eq_false, not_false_eq_true, ki_0, ki_1, ki_2, ki_3, ki_4, ki_5, kb_m100, kb_m10, kb_m9, kb_m8, kb_m7, kb_m6, kb_m5, kb_m4, kb_m3, kb_m2, kb_6, kb_7, kb_8, kb_9, kb_10, kb_12, kb_13, kb_16, kb_27, kb_31, kb_32, kb_43, kb_45, kb_48, kb_57, kb_60, kb_63, kb_81, kb_97, kb_99, kb_100, kb_120, kb_126, ks_m1000, ks_243, ks_255, ks_729, ks_1000, ks_2000, ks_2187, ks_6561, ks_9840, ks_9841, kl_0, kl_1, m47, m72, m74, e_k, l_k, e_c, hTc, hdv]
        refine ⟨vp_in_nI (by omega) (by omega), ?_⟩
        refine ⟨vp_in_nI (by omega) (by omega), ?_⟩
        refine ⟨hDz, ?_⟩
        refine ⟨vp_in_nI (by omega) (by omega), ?_⟩
        rw [nI_add]
        refine ih (k + 1) _ _ (by omega) (by omega) ((va_up_ne _ _ (by decide)).trans m47) ⟨L, (va_up_ne _ _ (by decide)).trans m72, hL9⟩ (by obtain ⟨L2, z⟩ := m73; exact ⟨L2, (va_up_ne _ _ (by decide)).trans z⟩) (va_up_self ..) (fun c hc => ?_) (by obtain ⟨T2, z, z2⟩ := m75; exact ⟨T2, (va_up_ne _ _ (by decide)).trans z, z2⟩) (by obtain ⟨r, z⟩ := m67; exact ⟨r, z.keep (va_up_ne _ _ (by decide))⟩) (hm.tr (mfr.up (by simp)))
        unfold vp_updL
        by_cases q : c = st.1.getD k 0
        · rw [if_pos q, if_pos ((take_mem hkl c).mpr (Or.inr q)), q]
        · rw [if_neg q, hT c hc]
          by_cases q2 : c ∈ st.1.take k
          · rw [if_pos q2, if_pos ((take_mem hkl c).mpr (Or.inl q2))]
          · rw [if_neg q2, if_neg (fun z => ((take_mem hkl c).mp z).elim q2 q)]
  -- one factor after the other
  have outer : ∀ (r i : Nat) (w1 : hWd) (st : nST) (ns1 : Int32) (D rep bef : Nat) (x8 x9 x10 x11 : Option Value), mfn u - i = r → i ≤ mfn u → bIv (mfb u i) ((mfw u).take i) st → hBs w1 ml ns1 il at9 ol sv st → (∃ r, hrow w1 67 r) → mfr [47, 67, 72, 73, 74, 75] w w1 → rep ≤ i → (i = 0 → D = 1 ∧ rep = 0) → (∀ j, i = j + 1 → rwt (grp (mfw u)) = D * rDv (mrs u (fun _ => 0) j) rep ((mfw u).drop i) ∧ bef = mfb u (j + 1) - mfb u j) → D < 2 ^ 31 → P N 0 0 w1 58 [some (.ref 47), some (.ref y), some (.int (nI u.length)), some (.int (nI (mfb u i))), some (.long (lN D)), none, some (.int (nI rep)), some (.int (nI bef)), x8, x9, x10, x11] [] := by
    intro r
    induction r with
    | zero =>
      intro i w1 st ns1 D rep bef x8 x9 x10 x11 hr hi hiv ⟨m47, m72, m73, ⟨T, m74, hT⟩, m75⟩ m67 hm hrp hi0 hij hD31
      obtain rfl : i = mfn u := by omega
      have eL := mfb_end u (Nat.le_refl (mfn u))
      rw [eL] at hiv ⊢
      rw [← mfw_len, List.take_length] at hiv
      have hD : rwt (grp (mfw u)) = D := by
        by_cases q : mfn u = 0
        · have : mfw u = [] := List.eq_nil_of_length_eq_zero (by rw [mfw_len]; exact q)
          rw [this, (hi0 q).1]; rfl
        · have := (hij (mfn u - 1) (by omega)).1
          rw [← mfw_len, List.drop_length] at this
          rw [this]; show D * 1 = D; omega
      refine hP 4 _ rfl _ _ _ _ _ _ ?_
      simp only [bX10_makeBasis_4, hrun, hx, hnth, hput, hok, hcat2, hldI, hldL, hldR, hpI, hpL, hpA, hpR, hp1, hpV, hrtI, hrtL, hrtR, hrtV, hpN, hck, hrI, hrB, hrL, hrA, hwI, hwA, hwB, hrN, mf_0, mf_1, mf_2, mf_3, mf_4, mf_5, mf_6, mf_7, mf_8, mf_9, mf_10, mf_11, mf_12, mf_13, mf_14, mf_15, mf_16, mf_17, mf_18, mf_19, mf_20, mf_21, mf_22, mf_23, mf_24, mf_25, mf_26, mf_27, mf_28, mf_29, ms_11, ms_16, ms_17, ms_20, ms_21, ms_23, ms_24, hwF, hcl, hfty, tyX1, tyX3, tyX6, tyX9, tyX10, tyJ0, tyJ4, hfit, hcmp, hnar, hres, hst, hacp, kz, kof, kn0, kn1, Bool.not_true, Bool.not_false, true_and, and_true, Nat.zero_add, Nat.reduceAdd, List.length_cons, List.length_nil, true_or, or_true, false_or, or_false, decide_true, decide_false, ne_eq, not_true_eq_false, not_false_eq_true, ki_0, ki_1, ki_2, ki_3, ki_4, ki_5, kb_m100, kb_m10, kb_m9, kb_m8, kb_m7, kb_m6, kb_m5, kb_m4, kb_m3, kb_m2, kb_6, kb_7, kb_8, kb_9, kb_10, kb_12, kb_13, kb_16, kb_27, kb_31, kb_32, kb_43, kb_45, kb_48, kb_57, kb_60, kb_63, kb_81, kb_97, kb_99, kb_100, kb_120, kb_126, ks_m1000, ks_243, ks_255, ks_729, ks_1000, ks_2000, ks_2187, ks_6561, ks_9840, ks_9841, kl_0, kl_1]
      refine ⟨fun b60 => ?_, fun b60 => ?_⟩
      · try simp (disch := omega) only [nI_ltI, nI_leI, nI_eq, Nat.not_lt, Nat.not_le] at b60
        refine hP 20 _ rfl _ _ _ _ _ _ ?_
        simp only [bX10_makeBasis_20, hrun, hx, hnth, hput, hok, hcat2, hldI, hldL, hldR, hpI, hpL, hpA, hpR, hp1, hpV, hrtI, hrtL, hrtR, hrtV, hpN, hck, hrI, hrB, hrL, hrA, hwI, hwA, hwB, hrN, mf_0, mf_1, mf_2, mf_3, mf_4, mf_5, mf_6, mf_7, mf_8, mf_9, mf_10, mf_11, mf_12, mf_13, mf_14, mf_15, mf_16, mf_17, mf_18, mf_19, mf_20, mf_21, mf_22, mf_23, mf_24, mf_25, mf_26, mf_27, mf_28, mf_29, ms_11, ms_16, ms_17, ms_20, ms_21, ms_23, ms_24, hwF, hcl, hfty, tyX1, tyX3, tyX6, tyX9, tyX10, tyJ0, tyJ4, hfit, hcmp, hnar, hres, hst, hacp, kz, kof, kn0, kn1, Bool.not_true, Bool.not_false, true_and, and_true, Nat.zero_add, Nat.reduceAdd, List.length_cons, List.length_nil, true_or, or_true, false_or, or_false, decide_true, decide_false, ne_eq, not_true_eq_false, not_false_eq_true, ki_0, ki_1, ki_2, ki_3, ki_4, ki_5, kb_m100, kb_m10, kb_m9, kb_m8, kb_m7, kb_m6, kb_m5, kb_m4, kb_m3, kb_m2, kb_6, kb_7, kb_8, kb_9, kb_10, kb_12, kb_13, kb_16, kb_27, kb_31, kb_32, kb_43, kb_45, kb_48, kb_57, kb_60, kb_63, kb_81, kb_97, kb_99, kb_100, kb_120, kb_126, ks_m1000, ks_243, ks_255, ks_729, ks_1000, ks_2000, ks_2187, ks_6561, ks_9840, ks_9841, kl_0, kl_1]
        exact last st w1 ns1 D _ _ _ rep bef hiv hD (bIv_le hiv hfl8) _ 0 w1 T rfl (Nat.zero_le _) m47 m72 m73 m74 (fun c hc => by rw [List.take_zero, if_neg (by simp)]; exact hT c hc) m75 m67 hm
      · (try simp (disch := omega) only [nI_ltI, nI_leI, nI_eq, Nat.not_lt, Nat.not_le] at b60) <;> (exfalso; omega)
    | succ r ih =>
      intro i w1 st ns1 D rep bef x8 x9 x10 x11 hr hi hiv hbs m67 hm hrp hi0 hij hD31
      have hi9 : i < mfn u := by omega
      have hb := mfb_bd hi9
      have hstp := mfb_step hu hi9
      have hvl : (mrs u (fun _ => 0) i).length = (mfb u (i + 1) - mfb u i) := mrs0_len hi9
      have hv3 : ∀ a ∈ (mrs u (fun _ => 0) i), a < 3 := fun a ha => hu.2 a (List.mem_of_mem_drop (List.mem_of_mem_take ha))
      have hiv2 := bst_iv hiv (v := (mrs u (fun _ => 0) i)) hv3 (by omega)
      rw [← mfw_i hi9, hvl, show mfb u i + (mfb u (i + 1) - mfb u i) = mfb u (i + 1) by omega] at hiv2
      have hlt2 := bIv_le hiv2 (by rw [List.length_take]; omega)
      have hlt31 := bIv_le hiv (by rw [List.length_take]; omega)
      have hok1 := hiv.1
      have hNl := nOK_len hok1
      have hok2 := hiv2.1
      have hNl2 := nOK_len hok2
      obtain ⟨m47, ⟨L, m72, hL9⟩, ⟨L2, m73⟩, ⟨T, m74, hT⟩, T2, m75, hT2⟩ := id hbs
      have hryw : ∃ r9, hrow w1 y r9 ∧ ∀ k, k < (mrs u (fun _ => 0) i).length → r9 (mfb u i + k) = mat (mrs u (fun _ => 0) i) k := ⟨ry, hry.keep (hm _ (by simp [hy.1, hy.2.1, hy.2.2.1, hy.2.2.2.1, hy.2.2.2.2.1, hy.2.2.2.2.2])), fun k hk => by
        rw [hvl] at hk
        rw [hrye _ (by omega)]
        have := mrs0_at hi9 hk
        unfold mat at this ⊢
        rw [List.getD_eq_getElem?_getD (l := (mrs u (fun _ => 0) i)), this]; rfl⟩
      -- the copy back
      have copy : ∀ (D9 rep9 : Nat) (x9 : Int32) (x11 : Option Value) (n k : Nat) (w2 : hWd) (La : Nat → Int32) (Ta T2a : Nat → Int64), D9 < 2 ^ 31 → rep9 ≤ i + 1 → (rwt (grp (mfw u)) = D9 * rDv (mrs u (fun _ => 0) i) rep9 ((mfw u).drop (i + 1))) → (bst st (mrs u (fun _ => 0) i)).1.length - k = n → k ≤ (bst st (mrs u (fun _ => 0) i)).1.length → w2 47 = .inr (6, mFl ml (nI (bst st (mrs u (fun _ => 0) i)).1.length) (nI (bst st (mrs u (fun _ => 0) i)).1.length) il at9 ol sv) → w2 72 = .inl (0, 9841, .inl La) → (∀ j, j < k → La j = nI ((bst st (mrs u (fun _ => 0) i)).1.getD j 0)) → (∃ L2, w2 73 = .inl (0, 9841, .inl L2) ∧ ∀ j, j < (bst st (mrs u (fun _ => 0) i)).1.length → L2 j = nI ((bst st (mrs u (fun _ => 0) i)).1.getD j 0)) → w2 74 = .inl (1, 9841, .inr (.inl Ta)) → (∀ c, c < 9841 → Ta c = if c ∈ (bst st (mrs u (fun _ => 0) i)).1.take k then lN ((bst st (mrs u (fun _ => 0) i)).2 c) else 0) → w2 75 = .inl (1, 9841, .inr (.inl T2a)) → (∀ c, c < 9841 → T2a c = if c ∈ (bst st (mrs u (fun _ => 0) i)).1.take k then 0 else lN ((bst st (mrs u (fun _ => 0) i)).2 c)) → (∃ r, hrow w2 67 r) → mfr [47, 67, 72, 73, 74, 75] w w2 → P N 0 0 w2 218 [some (.ref 47), some (.ref y), some (.int (nI u.length)), some (.int (nI (mfb u i))), some (.long (lN D9)), none, some (.int (nI rep9)), some (.int (nI bef)), some (.int (nI (mfb u (i + 1) - mfb u i))), some (.int x9), some (.int (nI k)), x11] [] := by
        intro D9 rep9 x9 x11 n
        generalize bst st (mrs u (fun _ => 0) i) = sn at hiv2 hlt2 hok2 hNl2
        induction n with
        | zero =>
          intro k w2 La Ta T2a hD9 hrp9 hDD hn hk q47 q72 qL q73 q74 qT q75 qT2 q67 hm2
          obtain rfl : k = sn.1.length := by omega
          rw [List.take_length] at qT qT2
          have hz9 : ∀ c, c < 9841 → c ∉ sn.1 → sn.2 c = 0 := fun c hc hn => Decidable.byContradiction (fun z => hn ((hok2.2.2 c hc).mp z))
          have e1 : nI (mfb u i) + nI (mfb u (i + 1) - mfb u i) = nI (mfb u (i + 1)) := by rw [nI_add]; congr 1; omega
          refine hP 17 _ rfl _ _ _ _ _ _ ?_
          simp only [bX10_makeBasis_17, hrun, hx, hnth, hput, hok, hcat2, hldI, hldL, hldR, hpI, hpL, hpA, hpR, hp1, hpV, hrtI, hrtL, hrtR, hrtV, hpN, hck, hrI, hrB, hrL, hrA, hwI, hwA, hwB, hrN, mf_0, mf_1, mf_2, mf_3, mf_4, mf_5, mf_6, mf_7, mf_8, mf_9, mf_10, mf_11, mf_12, mf_13, mf_14, mf_15, mf_16, mf_17, mf_18, mf_19, mf_20, mf_21, mf_22, mf_23, mf_24, mf_25, mf_26, mf_27, mf_28, mf_29, ms_11, ms_16, ms_17, ms_20, ms_21, ms_23, ms_24, hwF, hcl, hfty, tyX1, tyX3, tyX6, tyX9, tyX10, tyJ0, tyJ4, hfit, hcmp, hnar, hres, hst, hacp, kz, kof, kn0, kn1, Bool.not_true, Bool.not_false, true_and, and_true, Nat.zero_add, Nat.reduceAdd, List.length_cons, List.length_nil, true_or, or_true, false_or, or_false, decide_true, decide_false, ne_eq, not_true_eq_false, not_false_eq_true, ki_0, ki_1, ki_2, ki_3, ki_4, ki_5, kb_m100, kb_m10, kb_m9, kb_m8, kb_m7, kb_m6, kb_m5, kb_m4, kb_m3, kb_m2, kb_6, kb_7, kb_8, kb_9, kb_10, kb_12, kb_13, kb_16, kb_27, kb_31, kb_32, kb_43, kb_45, kb_48, kb_57, kb_60, kb_63, kb_81, kb_97, kb_99, kb_100, kb_120, kb_126, ks_m1000, ks_243, ks_255, ks_729, ks_1000, ks_2000, ks_2187, ks_6561, ks_9840, ks_9841, kl_0, kl_1, q47, e1]
          refine ⟨fun b224 => ?_, fun b224 => ?_⟩
          · try simp (disch := omega) only [nI_ltI, nI_leI, nI_eq, Nat.not_lt, Nat.not_le] at b224
            refine hP 19 _ rfl _ _ _ _ _ _ ?_
            simp only [bX10_makeBasis_19, hrun, hx, hnth, hput, hok, hcat2, hldI, hldL, hldR, hpI, hpL, hpA, hpR, hp1, hpV, hrtI, hrtL, hrtR, hrtV, hpN, hck, hrI, hrB, hrL, hrA, hwI, hwA, hwB, hrN, mf_0, mf_1, mf_2, mf_3, mf_4, mf_5, mf_6, mf_7, mf_8, mf_9, mf_10, mf_11, mf_12, mf_13, mf_14, mf_15, mf_16, mf_17, mf_18, mf_19, mf_20, mf_21, mf_22, mf_23, mf_24, mf_25, mf_26, mf_27, mf_28, mf_29, ms_11, ms_16, ms_17, ms_20, ms_21, ms_23, ms_24, hwF, hcl, hfty, tyX1, tyX3, tyX6, tyX9, tyX10, tyJ0, tyJ4, hfit, hcmp, hnar, hres, hst, hacp, kz, kof, kn0, kn1, Bool.not_true, Bool.not_false, true_and, and_true, Nat.zero_add, Nat.reduceAdd, List.length_cons, List.length_nil, true_or, or_true, false_or, or_false, decide_true, decide_false, ne_eq, not_true_eq_false, not_false_eq_true, ki_0, ki_1, ki_2, ki_3, ki_4, ki_5, kb_m100, kb_m10, kb_m9, kb_m8, kb_m7, kb_m6, kb_m5, kb_m4, kb_m3, kb_m2, kb_6, kb_7, kb_8, kb_9, kb_10, kb_12, kb_13, kb_16, kb_27, kb_31, kb_32, kb_43, kb_45, kb_48, kb_57, kb_60, kb_63, kb_81, kb_97, kb_99, kb_100, kb_120, kb_126, ks_m1000, ks_243, ks_255, ks_729, ks_1000, ks_2000, ks_2187, ks_6561, ks_9840, ks_9841, kl_0, kl_1, q47, e1]
            obtain ⟨L2, q73, _⟩ := q73
            exact ih (i + 1) w2 sn _ D9 rep9 _ _ _ _ _ (by omega) (by omega) hiv2 ⟨q47, ⟨La, q72, qL⟩, ⟨L2, q73⟩, ⟨Ta, q74, fun c hc => by
              rw [qT c hc]
              by_cases q : c ∈ sn.1
              · rw [if_pos q]
              · rw [if_neg q, hz9 c hc q]; rfl⟩, T2a, q75, fun c hc => by
              rw [qT2 c hc]
              by_cases q : c ∈ sn.1
              · rw [if_pos q]
              · rw [if_neg q, hz9 c hc q]; rfl⟩ q67 hm2 hrp9 (fun z => by omega) (fun j hj => by
                obtain rfl : j = i := by omega
                exact ⟨hDD, rfl⟩) hD9
          · (try simp (disch := omega) only [nI_ltI, nI_leI, nI_eq, Nat.not_lt, Nat.not_le] at b224) <;> (exfalso; omega)
        | succ n ihn =>
          intro k w2 La Ta T2a hD9 hrp9 hDD hn hk q47 q72 qL q73 q74 qT q75 qT2 q67 hm2
          have hkl : k < sn.1.length := by omega
          have hcm := getD_mem hkl
          have hc9 := hok2.2.1 _ hcm
          have e_k := nI_clamp (n := k) (by omega)
          have e_c := nI_clamp (n := sn.1.getD k 0) (by omega)
          obtain ⟨L3, q73, q73L⟩ := q73
          have l_k := q73L k hkl
          have hT2c := qT2 _ hc9
          rw [if_neg (nodup_take hok2.1 hkl)] at hT2c
          have eu0 : upd La k (nI (sn.1.getD k 0)) k = nI (sn.1.getD k 0) := by unfold upd; rw [if_pos rfl]
          refine hP 17 _ rfl _ _ _ _ _ _ ?_
          simp only [bX10_makeBasis_17, hrun, hx, hnth, hput, hok, hcat2, hldI, hldL, hldR, hpI, hpL, hpA, hpR, hp1, hpV, hrtI, hrtL, hrtR, hrtV, hpN, hck, hrI, hrB, hrL, hrA, hwI, hwA, hwB, hrN, mf_0, mf_1, mf_2, mf_3, mf_4, mf_5, mf_6, mf_7, mf_8, mf_9, mf_10, mf_11, mf_12, mf_13, mf_14, mf_15, mf_16, mf_17, mf_18, mf_19, mf_20, mf_21, mf_22, mf_23, mf_24, mf_25, mf_26, mf_27, mf_28, mf_29, ms_11, ms_16, ms_17, ms_20, ms_21, ms_23, ms_24, hwF, hcl, hfty, tyX1, tyX3, tyX6, tyX9, tyX10, tyJ0, tyJ4, hfit, hcmp, hnar, hres, hst, hacp, kz, kof, kn0, kn1, Bool.not_true, Bool.not_false, true_and, and_true, Nat.zero_add, Nat.reduceAdd, List.length_cons, List.length_nil, true_or, or_true, false_or, or_false, decide_true, decide_false, ne_eq, not_true_eq_false, not_false_eq_true, ki_0, ki_1, ki_2, ki_3, ki_4, ki_5, kb_m100, kb_m10, kb_m9, kb_m8, kb_m7, kb_m6, kb_m5, kb_m4, kb_m3, kb_m2, kb_6, kb_7, kb_8, kb_9, kb_10, kb_12, kb_13, kb_16, kb_27, kb_31, kb_32, kb_43, kb_45, kb_48, kb_57, kb_60, kb_63, kb_81, kb_97, kb_99, kb_100, kb_120, kb_126, ks_m1000, ks_243, ks_255, ks_729, ks_1000, ks_2000, ks_2187, ks_6561, ks_9840, ks_9841, kl_0, kl_1, q47, q72, q73, q74, q75, e_k, l_k, e_c, hT2c, eu0, va_up_self, va_up_ne _ _ (show (47 : Nat) ≠ 72 by decide), va_up_ne _ _ (show (73 : Nat) ≠ 72 by decide), va_up_ne _ _ (show (74 : Nat) ≠ 72 by decide), va_up_ne _ _ (show (75 : Nat) ≠ 72 by decide), va_up_ne _ _ (show (47 : Nat) ≠ 74 by decide), va_up_ne _ _ (show (72 : Nat) ≠ 74 by decide), va_up_ne _ _ (show (75 : Nat) ≠ 74 by decide)]
          refine ⟨fun b224 => ?_, fun b224 => ?_⟩
          · (try simp (disch := omega) only [nI_ltI, nI_leI, nI_eq, Nat.not_lt, Nat.not_le] at b224) <;> (exfalso; omega)
          · try simp (disch := omega) only [nI_ltI, nI_leI, nI_eq, Nat.not_lt, Nat.not_le] at b224
            refine hP 18 _ rfl _ _ _ _ _ _ ?_
            simp only [bX10_makeBasis_18, hrun, hx, hnth, hput, hok, hcat2, hldI, hldL, hldR, hpI, hpL, hpA, hpR, hp1, hpV, hrtI, hrtL, hrtR, hrtV, hpN, hck, hrI, hrB, hrL, hrA, hwI, hwA, hwB, hrN, mf_0, mf_1, mf_2, mf_3, mf_4, mf_5, mf_6, mf_7, mf_8, mf_9, mf_10, mf_11, mf_12, mf_13, mf_14, mf_15, mf_16, mf_17, mf_18, mf_19, mf_20, mf_21, mf_22, mf_23, mf_24, mf_25, mf_26, mf_27, mf_28, mf_29, ms_11, ms_16, ms_17, ms_20, ms_21, ms_23, ms_24, hwF, hcl, hfty, tyX1, tyX3, tyX6, tyX9, tyX10, tyJ0, tyJ4, hfit, hcmp, hnar, hres, hst, hacp, kz, kof, kn0, kn1, Bool.not_true, Bool.not_false, true_and, and_true, Nat.zero_add, Nat.reduceAdd, List.length_cons, List.length_nil, true_or, or_true, false_or, or_false, decide_true, decide_false, ne_eq, not_true_eq_false, not_false_eq_true, ki_0, ki_1, ki_2, ki_3, ki_4, ki_5, kb_m100, kb_m10, kb_m9, kb_m8, kb_m7, kb_m6, kb_m5, kb_m4, kb_m3, kb_m2, kb_6, kb_7, kb_8, kb_9, kb_10, kb_12, kb_13, kb_16, kb_27, kb_31, kb_32, kb_43, kb_45, kb_48, kb_57, kb_60, kb_63, kb_81, kb_97, kb_99, kb_100, kb_120, kb_126, ks_m1000, ks_243, ks_255, ks_729, ks_1000, ks_2000, ks_2187, ks_6561, ks_9840, ks_9841, kl_0, kl_1, q47, q72, q73, q74, q75, e_k, l_k, e_c, hT2c, eu0, va_up_self, va_up_ne _ _ (show (47 : Nat) ≠ 72 by decide), va_up_ne _ _ (show (73 : Nat) ≠ 72 by decide), va_up_ne _ _ (show (74 : Nat) ≠ 72 by decide), va_up_ne _ _ (show (75 : Nat) ≠ 72 by decide), va_up_ne _ _ (show (47 : Nat) ≠ 74 by decide), va_up_ne _ _ (show (72 : Nat) ≠ 74 by decide), va_up_ne _ _ (show (75 : Nat) ≠ 74 by decide)]
            refine ⟨vp_in_nI (by omega) (by omega), ?_⟩
            refine ⟨vp_in_nI (by omega) (by omega), ?_⟩
            refine ⟨vp_in_nI (by omega) (by omega), ?_⟩
            refine ⟨vp_in_nI (by omega) (by omega), ?_⟩
            refine ⟨vp_in_nI (by omega) (by omega), ?_⟩
            refine ⟨vp_in_nI (by omega) (by omega), ?_⟩
            refine ⟨vp_in_nI (by omega) (by omega), ?_⟩
            refine ⟨vp_in_nI (by omega) (by omega), ?_⟩
            try rw [nI_add]
            refine ihn (k + 1) _ _ _ _ hD9 hrp9 hDD (by omega) (by omega) ((va_up_ne _ _ (by decide)).trans ((va_up_ne _ _ (by decide)).trans ((va_up_ne _ _ (by decide)).trans q47))) ((va_up_ne _ _ (by decide)).trans ((va_up_ne _ _ (by decide)).trans (va_up_self ..))) (fun j hj => ?_) ⟨L3, (va_up_ne _ _ (by decide)).trans ((va_up_ne _ _ (by decide)).trans ((va_up_ne _ _ (by decide)).trans q73)), q73L⟩ ((va_up_ne _ _ (by decide)).trans (va_up_self ..)) (fun c hc => ?_) (va_up_self ..) (fun c hc => ?_) (by obtain ⟨r, z⟩ := q67; exact ⟨r, ((z.keep (va_up_ne _ _ (by decide))).keep (va_up_ne _ _ (by decide))).keep (va_up_ne _ _ (by decide))⟩) (((hm2.tr (mfr.up (by simp))).tr (mfr.up (by simp))).tr (mfr.up (by simp)))
            · unfold upd
              by_cases q : j = k
              · rw [if_pos q, q]
              · rw [if_neg q]; exact qL j (by omega)
            · unfold vp_updL
              by_cases q : c = sn.1.getD k 0
              · rw [if_pos q, if_pos ((take_mem hkl c).mpr (Or.inr q)), q]
              · rw [if_neg q, qT c hc]
                by_cases q2 : c ∈ sn.1.take k
                · rw [if_pos q2, if_pos ((take_mem hkl c).mpr (Or.inl q2))]
                · rw [if_neg q2, if_neg (fun z => ((take_mem hkl c).mp z).elim q2 q)]
            · unfold vp_updL
              by_cases q : c = sn.1.getD k 0
              · rw [if_pos q, if_pos ((take_mem hkl c).mpr (Or.inr q))]; rfl
              · rw [if_neg q, qT2 c hc]
                by_cases q2 : c ∈ sn.1.take k
                · rw [if_pos q2, if_pos ((take_mem hkl c).mpr (Or.inl q2))]
                · rw [if_neg q2, if_neg (fun z => ((take_mem hkl c).mp z).elim q2 q)]
      -- the mixing
      have mix : ∀ (D9 rep9 : Nat) (x9 : Int32) (n k : Nat) (w2 : hWd) (Ta : Nat → Int64) (x11 : Option Value), D9 < 2 ^ 31 → rep9 ≤ i + 1 → (rwt (grp (mfw u)) = D9 * rDv (mrs u (fun _ => 0) i) rep9 ((mfw u).drop (i + 1))) → st.1.length - k = n → k ≤ st.1.length → hNx w2 ml (nI st.1.length) il at9 ol sv (bst1 st (mrs u (fun _ => 0) i) k) → w2 72 = .inl (0, 9841, .inl L) → w2 74 = .inl (1, 9841, .inr (.inl Ta)) → (∀ c, c < 9841 → Ta c = if c ∈ st.1.take k then 0 else lN (st.2 c)) → (∃ r, hrow w2 67 r) → mfr [47, 67, 72, 73, 74, 75] w w2 → P N 0 0 w2 137 [some (.ref 47), some (.ref y), some (.int (nI u.length)), some (.int (nI (mfb u i))), some (.long (lN D9)), none, some (.int (nI rep9)), some (.int (nI bef)), some (.int (nI (mfb u (i + 1) - mfb u i))), some (.int x9), some (.int (nI k)), x11] [] := by
        intro D9 rep9 x9 n
        induction n with
        | zero =>
          intro k w2 Ta x11 hD9 hrp9 hDD hn hk hnx q72 q74 qT q67 hm2
          obtain rfl : k = st.1.length := by omega
          obtain ⟨q47, ⟨L3, q73, q73L⟩, T3, q75, q75T⟩ := id hnx
          have eb : bst1 st (mrs u (fun _ => 0) i) st.1.length = bst st (mrs u (fun _ => 0) i) := rfl
          rw [eb] at q47 q73L q75T
          have hz9 : ∀ c, c < 9841 → Ta c = 0 := fun c hc => by
            rw [qT c hc, List.take_length]
            by_cases q : c ∈ st.1
            · rw [if_pos q]
            · rw [if_neg q, show st.2 c = 0 from Decidable.byContradiction (fun z => q ((hok1.2.2 c hc).mp z))]; rfl
          refine hP 14 _ rfl _ _ _ _ _ _ ?_
          simp only [bX10_makeBasis_14, hrun, hx, hnth, hput, hok, hcat2, hldI, hldL, hldR, hpI, hpL, hpA, hpR, hp1, hpV, hrtI, hrtL, hrtR, hrtV, hpN, hck, hrI, hrB, hrL, hrA, hwI, hwA, hwB, hrN, mf_0, mf_1, mf_2, mf_3, mf_4, mf_5, mf_6, mf_7, mf_8, mf_9, mf_10, mf_11, mf_12, mf_13, mf_14, mf_15, mf_16, mf_17, mf_18, mf_19, mf_20, mf_21, mf_22, mf_23, mf_24, mf_25, mf_26, mf_27, mf_28, mf_29, ms_11, ms_16, ms_17, ms_20, ms_21, ms_23, ms_24, hwF, hcl, hfty, tyX1, tyX3, tyX6, tyX9, tyX10, tyJ0, tyJ4, hfit, hcmp, hnar, hres, hst, hacp, kz, kof, kn0, kn1, Bool.not_true, Bool.not_false, true_and, and_true, Nat.zero_add, Nat.reduceAdd, List.length_cons, List.length_nil, true_or, or_true, false_or, or_false, decide_true, decide_false, ne_eq, not_true_eq_false, not_false_eq_true, ki_0, ki_1, ki_2, ki_3, ki_4, ki_5, kb_m100, kb_m10, kb_m9, kb_m8, kb_m7, kb_m6, kb_m5, kb_m4, kb_m3, kb_m2, kb_6, kb_7, kb_8, kb_9, kb_10, kb_12, kb_13, kb_16, kb_27, kb_31, kb_32, kb_43, kb_45, kb_48, kb_57, kb_60, kb_63, kb_81, kb_97, kb_99, kb_100, kb_120, kb_126, ks_m1000, ks_243, ks_255, ks_729, ks_1000, ks_2000, ks_2187, ks_6561, ks_9840, ks_9841, kl_0, kl_1, q47, ms_16, va_up_self]
          refine ⟨fun b143 => ?_, fun b143 => ?_⟩
          · try simp (disch := omega) only [nI_ltI, nI_leI, nI_eq, Nat.not_lt, Nat.not_le] at b143
            refine hP 16 _ rfl _ _ _ _ _ _ ?_
            simp only [bX10_makeBasis_16, hrun, hx, hnth, hput, hok, hcat2, hldI, hldL, hldR, hpI, hpL, hpA, hpR, hp1, hpV, hrtI, hrtL, hrtR, hrtV, hpN, hck, hrI, hrB, hrL, hrA, hwI, hwA, hwB, hrN, mf_0, mf_1, mf_2, mf_3, mf_4, mf_5, mf_6, mf_7, mf_8, mf_9, mf_10, mf_11, mf_12, mf_13, mf_14, mf_15, mf_16, mf_17, mf_18, mf_19, mf_20, mf_21, mf_22, mf_23, mf_24, mf_25, mf_26, mf_27, mf_28, mf_29, ms_11, ms_16, ms_17, ms_20, ms_21, ms_23, ms_24, hwF, hcl, hfty, tyX1, tyX3, tyX6, tyX9, tyX10, tyJ0, tyJ4, hfit, hcmp, hnar, hres, hst, hacp, kz, kof, kn0, kn1, Bool.not_true, Bool.not_false, true_and, and_true, Nat.zero_add, Nat.reduceAdd, List.length_cons, List.length_nil, true_or, or_true, false_or, or_false, decide_true, decide_false, ne_eq, not_true_eq_false, not_false_eq_true, ki_0, ki_1, ki_2, ki_3, ki_4, ki_5, kb_m100, kb_m10, kb_m9, kb_m8, kb_m7, kb_m6, kb_m5, kb_m4, kb_m3, kb_m2, kb_6, kb_7, kb_8, kb_9, kb_10, kb_12, kb_13, kb_16, kb_27, kb_31, kb_32, kb_43, kb_45, kb_48, kb_57, kb_60, kb_63, kb_81, kb_97, kb_99, kb_100, kb_120, kb_126, ks_m1000, ks_243, ks_255, ks_729, ks_1000, ks_2000, ks_2187, ks_6561, ks_9840, ks_9841, kl_0, kl_1, q47, ms_16, va_up_self]
            exact copy D9 rep9 x9 x11 _ 0 _ L Ta T3 hD9 hrp9 hDD rfl (Nat.zero_le _) (va_up_self ..) ((va_up_ne _ _ (by decide)).trans q72) (fun j hj => by omega) ⟨L3, (va_up_ne _ _ (by decide)).trans q73, q73L⟩ ((va_up_ne _ _ (by decide)).trans q74) (fun c hc => by rw [List.take_zero, if_neg (by simp)]; exact hz9 c hc) ((va_up_ne _ _ (by decide)).trans q75) (fun c hc => by rw [List.take_zero, if_neg (by simp)]; exact q75T c hc) (by obtain ⟨r, z⟩ := q67; exact ⟨r, z.keep (va_up_ne _ _ (by decide))⟩) (hm2.tr (mfr.up (by simp)))
          · (try simp (disch := omega) only [nI_ltI, nI_leI, nI_eq, Nat.not_lt, Nat.not_le] at b143) <;> (exfalso; omega)
        | succ n ihn =>
          intro k w2 Ta x11 hD9 hrp9 hDD hn hk hnx q72 q74 qT q67 hm2
          have hkl : k < st.1.length := by omega
          have hcm := getD_mem hkl
          have hc9 := hok1.2.1 _ hcm
          have hWc := mdec_W hc9
          have hlc := hiv.2.1 _ hcm
          have hpos : 0 < st.2 (st.1.getD k 0) := Nat.pos_of_ne_zero ((hok1.2.2 _ hc9).mpr hcm)
          have h31 := hlt31 _ hc9
          have e_k := nI_clamp (n := k) (by omega)
          have e_c := nI_clamp (n := st.1.getD k 0) (by omega)
          have l_k := hL9 k hkl
          have hTc := qT _ hc9
          rw [if_neg (nodup_take hok1.1 hkl)] at hTc
          obtain ⟨q47, _, _⟩ := id hnx
          obtain ⟨r0, hr0⟩ := q67
          have hM2 : hMb w2 := ⟨⟨_, _, _, _, _, _, _, q47⟩, by rw [hm2 48 (by decide)]; exact hM.2⟩
          have hb1 := (bst1_ok hiv (v := (mrs u (fun _ => 0) i)) hv3 (by omega) k (by omega)).1
          have hstep := bst1_s st (mrs u (fun _ => 0) i) hkl
          have hmono : ∀ c, (bst1 st (mrs u (fun _ => 0) i) (k + 1)).2 c ≤ (bst st (mrs u (fun _ => 0) i)).2 c := fun c => by
            have := bst1_mono st (mrs u (fun _ => 0) i) c (st.1.length - (k + 1)) (k + 1) (by omega)
            rwa [show k + 1 + (st.1.length - (k + 1)) = st.1.length by omega] at this
          have hbig : ∀ c, (bst st (mrs u (fun _ => 0) i)).2 c < 2 ^ 31 := fun c => by
            by_cases q : c < 9841
            · exact hlt2 c q
            · rw [bst_c, lsm_z (fun c' hc' => by
                have h3 := hok1.2.1 c' hc'
                have h4 := hiv.2.1 c' hc'
                have : cwL (shw 9 [] (mdec c') (mrs u (fun _ => 0) i)) c = 0 := lsm_z (fun x hx9 => by
                  have := (shw_W (mdec_W h3).1 hv3 (by omega) x hx9).lt
                  rw [if_neg (by omega)])
                rw [this, Nat.mul_zero])]
              decide
          refine hP 14 _ rfl _ _ _ _ _ _ ?_
          simp only [bX10_makeBasis_14, hrun, hx, hnth, hput, hok, hcat2, hldI, hldL, hldR, hpI, hpL, hpA, hpR, hp1, hpV, hrtI, hrtL, hrtR, hrtV, hpN, hck, hrI, hrB, hrL, hrA, hwI, hwA, hwB, hrN, mf_0, mf_1, mf_2, mf_3, mf_4, mf_5, mf_6, mf_7, mf_8, mf_9, mf_10, mf_11, mf_12, mf_13, mf_14, mf_15, mf_16, mf_17, mf_18, mf_19, mf_20, mf_21, mf_22, mf_23, mf_24, mf_25, mf_26, mf_27, mf_28, mf_29, ms_11, ms_16, ms_17, ms_20, ms_21, ms_23, ms_24, hwF, hcl, hfty, tyX1, tyX3, tyX6, tyX9, tyX10, tyJ0, tyJ4, hfit, hcmp, hnar, hres, hst, hacp, kz, kof, kn0, kn1, Bool.not_true, Bool.not_false, true_and, and_true, Nat.zero_add, Nat.reduceAdd, List.length_cons, List.length_nil, true_or, or_true, false_or, or_false, decide_true, decide_false, ne_eq, not_true_eq_false, not_false_eq_true, ki_0, ki_1, ki_2, ki_3, ki_4, ki_5, kb_m100, kb_m10, kb_m9, kb_m8, kb_m7, kb_m6, kb_m5, kb_m4, kb_m3, kb_m2, kb_6, kb_7, kb_8, kb_9, kb_10, kb_12, kb_13, kb_16, kb_27, kb_31, kb_32, kb_43, kb_45, kb_48, kb_57, kb_60, kb_63, kb_81, kb_97, kb_99, kb_100, kb_120, kb_126, ks_m1000, ks_243, ks_255, ks_729, ks_1000, ks_2000, ks_2187, ks_6561, ks_9840, ks_9841, kl_0, kl_1, q47, q72, e_k, l_k]
          refine ⟨fun b143 => ?_, fun b143 => ?_⟩
          · (try simp (disch := omega) only [nI_ltI, nI_leI, nI_eq, Nat.not_lt, Nat.not_le] at b143) <;> (exfalso; omega)
          · try simp (disch := omega) only [nI_ltI, nI_leI, nI_eq, Nat.not_lt, Nat.not_le] at b143
            refine hP 15 _ rfl _ _ _ _ _ _ ?_
            simp only [bX10_makeBasis_15, hrun, hx, hnth, hput, hok, hcat2, hldI, hldL, hldR, hpI, hpL, hpA, hpR, hp1, hpV, hrtI, hrtL, hrtR, hrtV, hpN, hck, hrI, hrB, hrL, hrA, hwI, hwA, hwB, hrN, mf_0, mf_1, mf_2, mf_3, mf_4, mf_5, mf_6, mf_7, mf_8, mf_9, mf_10, mf_11, mf_12, mf_13, mf_14, mf_15, mf_16, mf_17, mf_18, mf_19, mf_20, mf_21, mf_22, mf_23, mf_24, mf_25, mf_26, mf_27, mf_28, mf_29, ms_11, ms_16, ms_17, ms_20, ms_21, ms_23, ms_24, hwF, hcl, hfty, tyX1, tyX3, tyX6, tyX9, tyX10, tyJ0, tyJ4, hfit, hcmp, hnar, hres, hst, hacp, kz, kof, kn0, kn1, Bool.not_true, Bool.not_false, true_and, and_true, Nat.zero_add, Nat.reduceAdd, List.length_cons, List.length_nil, true_or, or_true, false_or, or_false, decide_true, decide_false, ne_eq, not_true_eq_false, not_false_eq_true, ki_0, ki_1, ki_2, ki_3, ki_4, ki_5, kb_m100, kb_m10, kb_m9, kb_m8, kb_m7, kb_m6, kb_m5, kb_m4, kb_m3, kb_m2, kb_6, kb_7, kb_8, kb_9, kb_10, kb_12, kb_13, kb_16, kb_27, kb_31, kb_32, kb_43, kb_45, kb_48, kb_57, kb_60, kb_63, kb_81, kb_97, kb_99, kb_100, kb_120, kb_126, ks_m1000, ks_243, ks_255, ks_729, ks_1000, ks_2000, ks_2187, ks_6561, ks_9840, ks_9841, kl_0, kl_1, q47, q72, e_k, l_k]
            refine ⟨vp_in_nI (by omega) (by omega), ?_⟩
            rw [← hWc.2]
            refine c_decode hg (by omega) hM2 hWc.1 hr0 (by decide) (fun w3 v3 hv3' hv3e hv3o hm3 => ?_)
            try rw [hWc.2]
            have p47 : w3 47 = _ := (hm3 47 (by decide)).trans q47
            have p72 : w3 72 = _ := (hm3 72 (by decide)).trans q72
            have p74 : w3 74 = _ := (hm3 74 (by decide)).trans q74
            have hM3 : hMb w3 := ⟨⟨_, _, _, _, _, _, _, p47⟩, by rw [hm3 48 (by decide)]; exact hM2.2⟩
            have hnx3 : hNx w3 ml (nI st.1.length) il at9 ol sv (bst1 st (mrs u (fun _ => 0) i) k) := by
              obtain ⟨z1, ⟨La, z2, z3⟩, Tb, z4, z5⟩ := hnx
              exact ⟨(hm3 47 (by decide)).trans z1, ⟨La, (hm3 73 (by decide)).trans z2, z3⟩, Tb, (hm3 75 (by decide)).trans z4, z5⟩
            simp only [hrun, hx, hnth, hput, hok, hcat2, hldI, hldL, hldR, hpI, hpL, hpA, hpR, hp1, hpV, hrtI, hrtL, hrtR, hrtV, hpN, hck, hrI, hrB, hrL, hrA, hwI, hwA, hwB, hrN, mf_0, mf_1, mf_2, mf_3, mf_4, mf_5, mf_6, mf_7, mf_8, mf_9, mf_10, mf_11, mf_12, mf_13, mf_14, mf_15, mf_16, mf_17, mf_18, mf_19, mf_20, mf_21, mf_22, mf_23, mf_24, mf_25, mf_26, mf_27, mf_28, mf_29, ms_11, ms_16, ms_17, ms_20, ms_21, ms_23, ms_24, hwF, hcl, hfty, tyX1, tyX3, tyX6, tyX9, tyX10, tyJ0, tyJ4, hfit, hcmp, hnar, hres, hst, hacp, kz, kof, kn0, kn1, Bool.not_true, Bool.not_false, true_and, and_true, Nat.zero_add, Nat.reduceAdd, List.length_cons, List.length_nil, true_or, or_true, false_or, or_false, decide_true, decide_false, ne_eq, not_true_eq_false, not_false_eq_true, ki_0, ki_1, ki_2, ki_3, ki_4, ki_5, kb_m100, kb_m10, kb_m9, kb_m8, kb_m7, kb_m6, kb_m5, kb_m4, kb_m3, kb_m2, kb_6, kb_7, kb_8, kb_9, kb_10, kb_12, kb_13, kb_16, kb_27, kb_31, kb_32, kb_43, kb_45, kb_48, kb_57, kb_60, kb_63, kb_81, kb_97, kb_99, kb_100, kb_120, kb_126, ks_m1000, ks_243, ks_255, ks_729, ks_1000, ks_2000, ks_2187, ks_6561, ks_9840, ks_9841, kl_0, kl_1, p47, p72, p74, e_k, l_k, e_c, hTc]
            refine ⟨vp_in_nI (by omega) (by omega), ?_⟩
            refine ⟨vp_in_nI (by omega) (by omega), ?_⟩
            try rw [hWc.2]
            rw [← hvl]
            refine c_shuffleInto hg (u := mdec (st.1.getD k 0)) (v := (mrs u (fun _ => 0) i)) hpos h31 hWc.1.1 (by omega) ⟨hy.1, hy.2.2.2.1, hy.2.2.2.2.2⟩ 9 0 0 [] w3 (d - 1) _ _ _ _ _ (by omega) (Nat.zero_le _) (Nat.zero_le _) rfl (by omega) mW.nil (by omega) hM3 ⟨v3, hv3', hv3e⟩ (by obtain ⟨r9, z1, z2⟩ := hryw; exact ⟨ry, hry.keep ((hm3 y (by simp [hy.2.1])).trans (hm2 y (by simp [hy.1, hy.2.1, hy.2.2.1, hy.2.2.2.1, hy.2.2.2.2.1, hy.2.2.2.2.2]))), fun k hk => by
              rw [hvl] at hk
              rw [hrye _ (by omega)]
              have := mrs0_at hi9 hk
              unfold mat at this ⊢
              rw [List.getD_eq_getElem?_getD (l := (mrs u (fun _ => 0) i)), this]; rfl⟩) hnx3 hb1 (fun c => by rw [List.drop_zero, List.drop_zero, ← hstep]; exact Nat.lt_of_le_of_lt (hmono c) (hbig c)) (fun w4 hs4 ok4 hm4 => ?_)
            rw [List.drop_zero, List.drop_zero, ← hstep] at hs4 ok4
            try rw [hvl]
            have t47 := hs4.1
            have t72 : w4 72 = _ := (hm4 72 (by decide)).trans p72
            have t74 : w4 74 = _ := (hm4 74 (by decide)).trans p74
            simp only [hrun, hx, hnth, hput, hok, hcat2, hldI, hldL, hldR, hpI, hpL, hpA, hpR, hp1, hpV, hrtI, hrtL, hrtR, hrtV, hpN, hck, hrI, hrB, hrL, hrA, hwI, hwA, hwB, hrN, mf_0, mf_1, mf_2, mf_3, mf_4, mf_5, mf_6, mf_7, mf_8, mf_9, mf_10, mf_11, mf_12, mf_13, mf_14, mf_15, mf_16, mf_17, mf_18, mf_19, mf_20, mf_21, mf_22, mf_23, mf_24, mf_25, mf_26, mf_27, mf_28, mf_29, ms_11, ms_16, ms_17, ms_20, ms_21, ms_23, ms_24, hwF, hcl, hfty, tyX1, tyX3, tyX6, tyX9, tyX10, tyJ0, tyJ4, hfit, hcmp, hnar, hres, hst, hacp, kz, kof, kn0, kn1, Bool.not_true, Bool.not_false, true_and, and_true, Nat.zero_add, Nat.reduceAdd, List.length_cons, List.length_nil, true_or, or_true, false_or, or_false, decide_true, decide_false, ne_eq, not_true_eq_false, not_false_eq_true, ki_0, ki_1, ki_2, ki_3, ki_4, ki_5, kb_m100, kb_m10, kb_m9, kb_m8, kb_m7, kb_m6, kb_m5, kb_m4, kb_m3, kb_m2, kb_6, kb_7, kb_8, kb_9, kb_10, kb_12, kb_13, kb_16, kb_27, kb_31, kb_32, kb_43, kb_45, kb_48, kb_57, kb_60, kb_63, kb_81, kb_97, kb_99, kb_100, kb_120, kb_126, ks_m1000, ks_243, ks_255, ks_729, ks_1000, ks_2000, ks_2187, ks_6561, ks_9840, ks_9841, kl_0, kl_1, t47, t72, t74, e_k, l_k, e_c]
            refine ⟨vp_in_nI (by omega) (by omega), ?_⟩
            refine ⟨vp_in_nI (by omega) (by omega), ?_⟩
            rw [nI_add]
            refine ihn (k + 1) _ _ _ hD9 hrp9 hDD (by omega) (by omega) ?_ ((va_up_ne _ _ (by decide)).trans t72) (va_up_self ..) (fun c hc => ?_) ⟨v3, (hv3'.keep (hm4 67 (by decide))).keep (va_up_ne _ _ (by decide))⟩ ((((hm2.tr (hm3.mono (by simp))).tr (hm4.mono (by simp <;> omega)))).tr (mfr.up (by simp)))
            · obtain ⟨z1, ⟨La, z2, z3⟩, Tb, z4, z5⟩ := hs4
              exact ⟨(va_up_ne _ _ (by decide)).trans z1, ⟨La, (va_up_ne _ _ (by decide)).trans z2, z3⟩, Tb, (va_up_ne _ _ (by decide)).trans z4, z5⟩
            · unfold vp_updL
              by_cases q : c = st.1.getD k 0
              · rw [if_pos q, if_pos ((take_mem hkl c).mpr (Or.inr q))]; rfl
              · rw [if_neg q, qT c hc]
                by_cases q2 : c ∈ st.1.take k
                · rw [if_pos q2, if_pos ((take_mem hkl c).mpr (Or.inl q2))]
                · rw [if_neg q2, if_neg (fun z => ((take_mem hkl c).mp z).elim q2 q)]
      -- which number of repetition
      have go : ∀ (rep9 : Nat) (x9 : Int32), rep9 ≤ i + 1 → D * rep9 < 2 ^ 31 → rwt (grp (mfw u)) = (D * rep9) * rDv (mrs u (fun _ => 0) i) rep9 ((mfw u).drop (i + 1)) → P N 0 0 w1 119 [some (.ref 47), some (.ref y), some (.int (nI u.length)), some (.int (nI (mfb u i))), some (.long (lN D)), none, some (.int (nI rep)), some (.int (nI bef)), some (.int (nI (mfb u (i + 1) - mfb u i))), some (.int x9), x10, x11] [.int (nI rep9)] := by
        intro rep9 x9 hr9 hDr hDD
        have e1 : lN D * (nI rep9).toInt64 = lN (D * rep9) := by rw [nI_l (by omega), lN_mul]
        refine hP 13 _ rfl _ _ _ _ _ _ ?_
        simp only [bX10_makeBasis_13, hrun, hx, hnth, hput, hok, hcat2, hldI, hldL, hldR, hpI, hpL, hpA, hpR, hp1, hpV, hrtI, hrtL, hrtR, hrtV, hpN, hck, hrI, hrB, hrL, hrA, hwI, hwA, hwB, hrN, mf_0, mf_1, mf_2, mf_3, mf_4, mf_5, mf_6, mf_7, mf_8, mf_9, mf_10, mf_11, mf_12, mf_13, mf_14, mf_15, mf_16, mf_17, mf_18, mf_19, mf_20, mf_21, mf_22, mf_23, mf_24, mf_25, mf_26, mf_27, mf_28, mf_29, ms_11, ms_16, ms_17, ms_20, ms_21, ms_23, ms_24, hwF, hcl, hfty, tyX1, tyX3, tyX6, tyX9, tyX10, tyJ0, tyJ4, hfit, hcmp, hnar, hres, hst, hacp, kz, kof, kn0, kn1, Bool.not_true, Bool.not_false, true_and, and_true, Nat.zero_add, Nat.reduceAdd, List.length_cons, List.length_nil, true_or, or_true, false_or, or_false, decide_true, decide_false, ne_eq, not_true_eq_false, not_false_eq_true, ki_0, ki_1, ki_2, ki_3, ki_4, ki_5, kb_m100, kb_m10, kb_m9, kb_m8, kb_m7, kb_m6, kb_m5, kb_m4, kb_m3, kb_m2, kb_6, kb_7, kb_8, kb_9, kb_10, kb_12, kb_13, kb_16, kb_27, kb_31, kb_32, kb_43, kb_45, kb_48, kb_57, kb_60, kb_63, kb_81, kb_97, kb_99, kb_100, kb_120, kb_126, ks_m1000, ks_243, ks_255, ks_729, ks_1000, ks_2000, ks_2187, ks_6561, ks_9840, ks_9841, kl_0, kl_1, m47, e1, ms_17, va_up_self, Nat.reduceLT]
        exact mix (D * rep9) rep9 x9 _ 0 _ T x11 hDr hr9 hDD rfl (Nat.zero_le _) ⟨va_up_self .., ⟨L2, (va_up_ne _ _ (by decide)).trans m73, fun k hk => by cases hk⟩, T2, (va_up_ne _ _ (by decide)).trans m75, fun c hc => hT2 c hc⟩ ((va_up_ne _ _ (by decide)).trans m72) ((va_up_ne _ _ (by decide)).trans m74) (fun c hc => by rw [List.take_zero, if_neg (by simp)]; exact hT c hc) (by obtain ⟨r, z⟩ := m67; exact ⟨r, z.keep (va_up_ne _ _ (by decide))⟩) (hm.tr (mfr.up (by simp)))
      have hdi := mfw_d hi9
      have hDle : ∀ r9 l9, rwt (grp (mfw u)) = r9 * l9 → 0 < l9 → r9 < 2 ^ 31 := fun r9 l9 e p => by
        have h1 := rwt_le hfl8
        rw [e] at h1
        exact Nat.lt_of_le_of_lt (Nat.le_mul_of_pos_right _ p) h1
      have hpp : ∀ r9 l9, rwt (grp (mfw u)) = r9 * l9 → 0 < l9 := fun r9 l9 e => by
        have := rwt_pos (grp (mfw u))
        rw [e] at this
        exact Nat.pos_of_mul_pos_left this
      have esz : nI (mfl ry (mfb u i) (u.length - mfb u i)) = nI (mfb u (i + 1) - mfb u i) := by
        rw [← hstp, mfl_cg (u := ry) (v := mat u) (fun j _ h2 => hrye j (by omega))]
      have hryA : hrow w1 y ry := hry.keep (hm _ (by simp [hy.1, hy.2.1, hy.2.2.1, hy.2.2.2.1, hy.2.2.2.2.1, hy.2.2.2.2.2]))
      have FLN : ∀ d9 (N9 c9 s9 : Nat) (Q9 : hRt), 4 ≤ d9 → Q9 (some (.int (nI (mfb u (i + 1) - mfb u i)))) N9 c9 s9 w1 → Γ g d9 yX10_factorLength [.ref y, .int (nI (mfb u i)), .int (nI u.length)] N9 c9 s9 w1 Q9 := fun d9 N9 c9 s9 Q9 hd9 h9 => c_facLen hg (by omega) hryA (by omega) hu8 (by rw [esz]; exact h9)
      by_cases q0 : i = 0
      · have e0 := hi0 q0
        have hDD : rwt (grp (mfw u)) = (D * 1) * rDv (mrs u (fun _ => 0) i) 1 ((mfw u).drop (i + 1)) := by
          have h1 := rwt_rD ((mfw u).drop (i + 1)) (mrs u (fun _ => 0) i) 0
          have e : List.replicate (0 + 1) (mrs u (fun _ => 0) i) ++ (mfw u).drop (i + 1) = mfw u := by
            have h0 : (mfw u).drop i = mfw u := by rw [q0, List.drop_zero]
            rw [h0] at hdi
            exact hdi.symm
          rw [e] at h1
          rw [h1, e0.1]; rfl
        have g1 := go 1 (nI 0) (by omega) (by rw [e0.1]; decide) hDD
        have em0 : mfb u i = 0 := by rw [q0]; exact mfb_0
        refine hP 4 _ rfl _ _ _ _ _ _ ?_
        simp only [bX10_makeBasis_4, hrun, hx, hnth, hput, hok, hcat2, hldI, hldL, hldR, hpI, hpL, hpA, hpR, hp1, hpV, hrtI, hrtL, hrtR, hrtV, hpN, hck, hrI, hrB, hrL, hrA, hwI, hwA, hwB, hrN, mf_0, mf_1, mf_2, mf_3, mf_4, mf_5, mf_6, mf_7, mf_8, mf_9, mf_10, mf_11, mf_12, mf_13, mf_14, mf_15, mf_16, mf_17, mf_18, mf_19, mf_20, mf_21, mf_22, mf_23, mf_24, mf_25, mf_26, mf_27, mf_28, mf_29, ms_11, ms_16, ms_17, ms_20, ms_21, ms_23, ms_24, hwF, hcl, hfty, tyX1, tyX3, tyX6, tyX9, tyX10, tyJ0, tyJ4, hfit, hcmp, hnar, hres, hst, hacp, kz, kof, kn0, kn1, Bool.not_true, Bool.not_false, true_and, and_true, Nat.zero_add, Nat.reduceAdd, List.length_cons, List.length_nil, true_or, or_true, false_or, or_false, decide_true, decide_false, ne_eq, not_true_eq_false, not_false_eq_true, ki_0, ki_1, ki_2, ki_3, ki_4, ki_5, kb_m100, kb_m10, kb_m9, kb_m8, kb_m7, kb_m6, kb_m5, kb_m4, kb_m3, kb_m2, kb_6, kb_7, kb_8, kb_9, kb_10, kb_12, kb_13, kb_16, kb_27, kb_31, kb_32, kb_43, kb_45, kb_48, kb_57, kb_60, kb_63, kb_81, kb_97, kb_99, kb_100, kb_120, kb_126, ks_m1000, ks_243, ks_255, ks_729, ks_1000, ks_2000, ks_2187, ks_6561, ks_9840, ks_9841, kl_0, kl_1]
        refine ⟨fun b60 => ?_, fun b60 => ?_⟩
        · (try simp (disch := omega) only [nI_ltI, nI_leI, nI_eq, Nat.not_lt, Nat.not_le] at b60) <;> (exfalso; omega)
        · try simp (disch := omega) only [nI_ltI, nI_leI, nI_eq, Nat.not_lt, Nat.not_le] at b60
          refine hP 5 _ rfl _ _ _ _ _ _ ?_
          simp only [bX10_makeBasis_5, hrun, hx, hnth, hput, hok, hcat2, hldI, hldL, hldR, hpI, hpL, hpA, hpR, hp1, hpV, hrtI, hrtL, hrtR, hrtV, hpN, hck, hrI, hrB, hrL, hrA, hwI, hwA, hwB, hrN, mf_0, mf_1, mf_2, mf_3, mf_4, mf_5, mf_6, mf_7, mf_8, mf_9, mf_10, mf_11, mf_12, mf_13, mf_14, mf_15, mf_16, mf_17, mf_18, mf_19, mf_20, mf_21, mf_22, mf_23, mf_24, mf_25, mf_26, mf_27, mf_28, mf_29, ms_11, ms_16, ms_17, ms_20, ms_21, ms_23, ms_24, hwF, hcl, hfty, tyX1, tyX3, tyX6, tyX9, tyX10, tyJ0, tyJ4, hfit, hcmp, hnar, hres, hst, hacp, kz, kof, kn0, kn1, Bool.not_true, Bool.not_false, true_and, and_true, Nat.zero_add, Nat.reduceAdd, List.length_cons, List.length_nil, true_or, or_true, false_or, or_false, decide_true, decide_false, ne_eq, not_true_eq_false, not_false_eq_true, ki_0, ki_1, ki_2, ki_3, ki_4, ki_5, kb_m100, kb_m10, kb_m9, kb_m8, kb_m7, kb_m6, kb_m5, kb_m4, kb_m3, kb_m2, kb_6, kb_7, kb_8, kb_9, kb_10, kb_12, kb_13, kb_16, kb_27, kb_31, kb_32, kb_43, kb_45, kb_48, kb_57, kb_60, kb_63, kb_81, kb_97, kb_99, kb_100, kb_120, kb_126, ks_m1000, ks_243, ks_255, ks_729, ks_1000, ks_2000, ks_2187, ks_6561, ks_9840, ks_9841, kl_0, kl_1]
          refine FLN _ _ _ _ _ (by omega) ?_
          simp only [hrun, hx, hnth, hput, hok, hcat2, hldI, hldL, hldR, hpI, hpL, hpA, hpR, hp1, hpV, hrtI, hrtL, hrtR, hrtV, hpN, hck, hrI, hrB, hrL, hrA, hwI, hwA, hwB, hrN, mf_0, mf_1, mf_2, mf_3, mf_4, mf_5, mf_6, mf_7, mf_8, mf_9, mf_10, mf_11, mf_12, mf_13, mf_14, mf_15, mf_16, mf_17, mf_18, mf_19, mf_20, mf_21, mf_22, mf_23, mf_24, mf_25, mf_26, mf_27, mf_28, mf_29, ms_11, ms_16, ms_17, ms_20, ms_21, ms_23, ms_24, hwF, hcl, hfty, tyX1, tyX3, tyX6, tyX9, tyX10, tyJ0, tyJ4, hfit, hcmp, hnar, hres, hst, hacp, kz, kof, kn0, kn1, Bool.not_true, Bool.not_false, true_and, and_true, Nat.zero_add, Nat.reduceAdd, List.length_cons, List.length_nil, true_or, or_true, false_or, or_false, decide_true, decide_false, ne_eq, not_true_eq_false, not_false_eq_true, ki_0, ki_1, ki_2, ki_3, ki_4, ki_5, kb_m100, kb_m10, kb_m9, kb_m8, kb_m7, kb_m6, kb_m5, kb_m4, kb_m3, kb_m2, kb_6, kb_7, kb_8, kb_9, kb_10, kb_12, kb_13, kb_16, kb_27, kb_31, kb_32, kb_43, kb_45, kb_48, kb_57, kb_60, kb_63, kb_81, kb_97, kb_99, kb_100, kb_120, kb_126, ks_m1000, ks_243, ks_255, ks_729, ks_1000, ks_2000, ks_2187, ks_6561, ks_9840, ks_9841, kl_0, kl_1]
          refine ⟨fun b72 => ?_, fun b72 => ?_⟩
          · try simp (disch := omega) only [nI_ltI, nI_leI, nI_eq, Nat.not_lt, Nat.not_le] at b72
            refine hP 9 _ rfl _ _ _ _ _ _ ?_
            simp only [bX10_makeBasis_9, hrun, hx, hnth, hput, hok, hcat2, hldI, hldL, hldR, hpI, hpL, hpA, hpR, hp1, hpV, hrtI, hrtL, hrtR, hrtV, hpN, hck, hrI, hrB, hrL, hrA, hwI, hwA, hwB, hrN, mf_0, mf_1, mf_2, mf_3, mf_4, mf_5, mf_6, mf_7, mf_8, mf_9, mf_10, mf_11, mf_12, mf_13, mf_14, mf_15, mf_16, mf_17, mf_18, mf_19, mf_20, mf_21, mf_22, mf_23, mf_24, mf_25, mf_26, mf_27, mf_28, mf_29, ms_11, ms_16, ms_17, ms_20, ms_21, ms_23, ms_24, hwF, hcl, hfty, tyX1, tyX3, tyX6, tyX9, tyX10, tyJ0, tyJ4, hfit, hcmp, hnar, hres, hst, hacp, kz, kof, kn0, kn1, Bool.not_true, Bool.not_false, true_and, and_true, Nat.zero_add, Nat.reduceAdd, List.length_cons, List.length_nil, true_or, or_true, false_or, or_false, decide_true, decide_false, ne_eq, not_true_eq_false, not_false_eq_true, ki_0, ki_1, ki_2, ki_3, ki_4, ki_5, kb_m100, kb_m10, kb_m9, kb_m8, kb_m7, kb_m6, kb_m5, kb_m4, kb_m3, kb_m2, kb_6, kb_7, kb_8, kb_9, kb_10, kb_12, kb_13, kb_16, kb_27, kb_31, kb_32, kb_43, kb_45, kb_48, kb_57, kb_60, kb_63, kb_81, kb_97, kb_99, kb_100, kb_120, kb_126, ks_m1000, ks_243, ks_255, ks_729, ks_1000, ks_2000, ks_2187, ks_6561, ks_9840, ks_9841, kl_0, kl_1]
            refine hP 10 _ rfl _ _ _ _ _ _ ?_
            simp only [bX10_makeBasis_10, hrun, hx, hnth, hput, hok, hcat2, hldI, hldL, hldR, hpI, hpL, hpA, hpR, hp1, hpV, hrtI, hrtL, hrtR, hrtV, hpN, hck, hrI, hrB, hrL, hrA, hwI, hwA, hwB, hrN, mf_0, mf_1, mf_2, mf_3, mf_4, mf_5, mf_6, mf_7, mf_8, mf_9, mf_10, mf_11, mf_12, mf_13, mf_14, mf_15, mf_16, mf_17, mf_18, mf_19, mf_20, mf_21, mf_22, mf_23, mf_24, mf_25, mf_26, mf_27, mf_28, mf_29, ms_11, ms_16, ms_17, ms_20, ms_21, ms_23, ms_24, hwF, hcl, hfty, tyX1, tyX3, tyX6, tyX9, tyX10, tyJ0, tyJ4, hfit, hcmp, hnar, hres, hst, hacp, kz, kof, kn0, kn1, Bool.not_true, Bool.not_false, true_and, and_true, Nat.zero_add, Nat.reduceAdd, List.length_cons, List.length_nil, true_or, or_true, false_or, or_false, decide_true, decide_false, ne_eq, not_true_eq_false, not_false_eq_true, ki_0, ki_1, ki_2, ki_3, ki_4, ki_5, kb_m100, kb_m10, kb_m9, kb_m8, kb_m7, kb_m6, kb_m5, kb_m4, kb_m3, kb_m2, kb_6, kb_7, kb_8, kb_9, kb_10, kb_12, kb_13, kb_16, kb_27, kb_31, kb_32, kb_43, kb_45, kb_48, kb_57, kb_60, kb_63, kb_81, kb_97, kb_99, kb_100, kb_120, kb_126, ks_m1000, ks_243, ks_255, ks_729, ks_1000, ks_2000, ks_2187, ks_6561, ks_9840, ks_9841, kl_0, kl_1]
            refine ⟨fun b108 => ?_, fun b108 => ?_⟩
            · try simp (disch := omega) only [nI_ltI, nI_leI, nI_eq, Nat.not_lt, Nat.not_le] at b108
              refine hP 12 _ rfl _ _ _ _ _ _ ?_
              simp only [bX10_makeBasis_12, hrun, hx, hnth, hput, hok, hcat2, hldI, hldL, hldR, hpI, hpL, hpA, hpR, hp1, hpV, hrtI, hrtL, hrtR, hrtV, hpN, hck, hrI, hrB, hrL, hrA, hwI, hwA, hwB, hrN, mf_0, mf_1, mf_2, mf_3, mf_4, mf_5, mf_6, mf_7, mf_8, mf_9, mf_10, mf_11, mf_12, mf_13, mf_14, mf_15, mf_16, mf_17, mf_18, mf_19, mf_20, mf_21, mf_22, mf_23, mf_24, mf_25, mf_26, mf_27, mf_28, mf_29, ms_11, ms_16, ms_17, ms_20, ms_21, ms_23, ms_24, hwF, hcl, hfty, tyX1, tyX3, tyX6, tyX9, tyX10, tyJ0, tyJ4, hfit, hcmp, hnar, hres, hst, hacp, kz, kof, kn0, kn1, Bool.not_true, Bool.not_false, true_and, and_true, Nat.zero_add, Nat.reduceAdd, List.length_cons, List.length_nil, true_or, or_true, false_or, or_false, decide_true, decide_false, ne_eq, not_true_eq_false, not_false_eq_true, ki_0, ki_1, ki_2, ki_3, ki_4, ki_5, kb_m100, kb_m10, kb_m9, kb_m8, kb_m7, kb_m6, kb_m5, kb_m4, kb_m3, kb_m2, kb_6, kb_7, kb_8, kb_9, kb_10, kb_12, kb_13, kb_16, kb_27, kb_31, kb_32, kb_43, kb_45, kb_48, kb_57, kb_60, kb_63, kb_81, kb_97, kb_99, kb_100, kb_120, kb_126, ks_m1000, ks_243, ks_255, ks_729, ks_1000, ks_2000, ks_2187, ks_6561, ks_9840, ks_9841, kl_0, kl_1]
              exact g1
            · (try simp (disch := omega) only [nI_ltI, nI_leI, nI_eq, Nat.not_lt, Nat.not_le] at b108) <;> (exfalso; omega)
          · (try simp (disch := omega) only [nI_ltI, nI_leI, nI_eq, Nat.not_lt, Nat.not_le] at b72) <;> (exfalso; omega)
      · obtain ⟨j, rfl⟩ : ∃ j, i = j + 1 := ⟨i - 1, by omega⟩
        obtain ⟨hDj, hbf⟩ := hij j rfl
        have hj9 : j < mfn u := by omega
        have hbj := mfb_bd hj9
        have hsame : mrs u (fun _ => 0) (j + 1) = mrs u (fun _ => 0) j ↔ ((mfb u (j + 1 + 1) - mfb u (j + 1)) = bef ∧ mcp ry ry (mfb u (j + 1)) (mfb u (j + 1 + 1) - mfb u (j + 1)) (mfb u (j + 1) - (mfb u (j + 1 + 1) - mfb u (j + 1))) (mfb u (j + 1 + 1) - mfb u (j + 1)) = 0) := by
          rw [mcp_0]
          constructor
          · intro e
            have h1 := mrs0_len hi9
            have h2 := mrs0_len hj9
            rw [e] at h1
            refine ⟨by omega, fun k hk => ?_⟩
            have h3 := mrs0_at hi9 hk
            have h4 := mrs0_at hj9 (k := k) (by omega)
            rw [e, h4] at h3
            injection h3 with h3
            rw [hrye _ (by omega), hrye _ (by omega), ← h3]
            congr 1; omega
          · intro ⟨e1, e2⟩
            refine List.ext_getElem? (fun k => ?_)
            by_cases q : k < mfb u (j + 1 + 1) - mfb u (j + 1)
            · rw [mrs0_at hi9 q, mrs0_at hj9 (by omega)]
              have h5 := e2 k q
              rw [hrye _ (by omega), hrye _ (by omega)] at h5
              rw [h5]; congr 2; omega
            · rw [List.getElem?_eq_none (by rw [mrs0_len hi9]; omega), List.getElem?_eq_none (by rw [mrs0_len hj9]; omega)]
        rw [hdi] at hDj
        have hun : rDv (mrs u (fun _ => 0) j) rep (mrs u (fun _ => 0) (j + 1) :: (mfw u).drop (j + 1 + 1)) = (if mrs u (fun _ => 0) (j + 1) = mrs u (fun _ => 0) j then rep + 1 else 1) * rDv (mrs u (fun _ => 0) (j + 1)) (if mrs u (fun _ => 0) (j + 1) = mrs u (fun _ => 0) j then rep + 1 else 1) ((mfw u).drop (j + 1 + 1)) := rfl
        rw [hun, ← Nat.mul_assoc] at hDj
        have cmpb := mcmp_b (u := ry) (v := ry) (a := mfb u (j + 1)) (n := mfb u (j + 1 + 1) - mfb u (j + 1)) (b := mfb u (j + 1) - (mfb u (j + 1 + 1) - mfb u (j + 1))) (m := mfb u (j + 1 + 1) - mfb u (j + 1)) (by omega) (by omega) ry3 ry3 (min (mfb u (j + 1 + 1) - mfb u (j + 1)) (mfb u (j + 1 + 1) - mfb u (j + 1))) 0 (by omega) (by omega)
        by_cases qs : mrs u (fun _ => 0) (j + 1) = mrs u (fun _ => 0) j
        · rw [if_pos qs] at hDj
          have g1 := go (rep + 1) (nI 1) (by omega) (hDle _ _ hDj (hpp _ _ hDj)) hDj
          have hs9 := hsame.mp qs
          have hz0 : Int32.ofInt (mcp ry ry (mfb u (j + 1)) (mfb u (j + 1 + 1) - mfb u (j + 1)) (mfb u (j + 1) - (mfb u (j + 1 + 1) - mfb u (j + 1))) (mfb u (j + 1 + 1) - mfb u (j + 1))) = nI 0 := by rw [hs9.2]; rfl
          have es1 : nI (mfb u (j + 1)) - nI (mfb u (j + 1 + 1) - mfb u (j + 1)) = nI (mfb u (j + 1) - (mfb u (j + 1 + 1) - mfb u (j + 1))) := pk_sub (by omega)
          refine hP 4 _ rfl _ _ _ _ _ _ ?_
          simp only [bX10_makeBasis_4, hrun, hx, hnth, hput, hok, hcat2, hldI, hldL, hldR, hpI, hpL, hpA, hpR, hp1, hpV, hrtI, hrtL, hrtR, hrtV, hpN, hck, hrI, hrB, hrL, hrA, hwI, hwA, hwB, hrN, mf_0, mf_1, mf_2, mf_3, mf_4, mf_5, mf_6, mf_7, mf_8, mf_9, mf_10, mf_11, mf_12, mf_13, mf_14, mf_15, mf_16, mf_17, mf_18, mf_19, mf_20, mf_21, mf_22, mf_23, mf_24, mf_25, mf_26, mf_27, mf_28, mf_29, ms_11, ms_16, ms_17, ms_20, ms_21, ms_23, ms_24, hwF, hcl, hfty, tyX1, tyX3, tyX6, tyX9, tyX10, tyJ0, tyJ4, hfit, hcmp, hnar, hres, hst, hacp, kz, kof, kn0, kn1, Bool.not_true, Bool.not_false, true_and, and_true, Nat.zero_add, Nat.reduceAdd, List.length_cons, List.length_nil, true_or, or_true, false_or, or_false, decide_true, decide_false, ne_eq, not_true_eq_false, not_false_eq_true, ki_0, ki_1, ki_2, ki_3, ki_4, ki_5, kb_m100, kb_m10, kb_m9, kb_m8, kb_m7, kb_m6, kb_m5, kb_m4, kb_m3, kb_m2, kb_6, kb_7, kb_8, kb_9, kb_10, kb_12, kb_13, kb_16, kb_27, kb_31, kb_32, kb_43, kb_45, kb_48, kb_57, kb_60, kb_63, kb_81, kb_97, kb_99, kb_100, kb_120, kb_126, ks_m1000, ks_243, ks_255, ks_729, ks_1000, ks_2000, ks_2187, ks_6561, ks_9840, ks_9841, kl_0, kl_1, es1]
          refine ⟨fun b60 => ?_, fun b60 => ?_⟩
          · (try simp (disch := omega) only [nI_ltI, nI_leI, nI_eq, Nat.not_lt, Nat.not_le] at b60) <;> (exfalso; omega)
          · try simp (disch := omega) only [nI_ltI, nI_leI, nI_eq, Nat.not_lt, Nat.not_le] at b60
            refine hP 5 _ rfl _ _ _ _ _ _ ?_
            simp only [bX10_makeBasis_5, hrun, hx, hnth, hput, hok, hcat2, hldI, hldL, hldR, hpI, hpL, hpA, hpR, hp1, hpV, hrtI, hrtL, hrtR, hrtV, hpN, hck, hrI, hrB, hrL, hrA, hwI, hwA, hwB, hrN, mf_0, mf_1, mf_2, mf_3, mf_4, mf_5, mf_6, mf_7, mf_8, mf_9, mf_10, mf_11, mf_12, mf_13, mf_14, mf_15, mf_16, mf_17, mf_18, mf_19, mf_20, mf_21, mf_22, mf_23, mf_24, mf_25, mf_26, mf_27, mf_28, mf_29, ms_11, ms_16, ms_17, ms_20, ms_21, ms_23, ms_24, hwF, hcl, hfty, tyX1, tyX3, tyX6, tyX9, tyX10, tyJ0, tyJ4, hfit, hcmp, hnar, hres, hst, hacp, kz, kof, kn0, kn1, Bool.not_true, Bool.not_false, true_and, and_true, Nat.zero_add, Nat.reduceAdd, List.length_cons, List.length_nil, true_or, or_true, false_or, or_false, decide_true, decide_false, ne_eq, not_true_eq_false, not_false_eq_true, ki_0, ki_1, ki_2, ki_3, ki_4, ki_5, kb_m100, kb_m10, kb_m9, kb_m8, kb_m7, kb_m6, kb_m5, kb_m4, kb_m3, kb_m2, kb_6, kb_7, kb_8, kb_9, kb_10, kb_12, kb_13, kb_16, kb_27, kb_31, kb_32, kb_43, kb_45, kb_48, kb_57, kb_60, kb_63, kb_81, kb_97, kb_99, kb_100, kb_120, kb_126, ks_m1000, ks_243, ks_255, ks_729, ks_1000, ks_2000, ks_2187, ks_6561, ks_9840, ks_9841, kl_0, kl_1, es1]
            refine FLN _ _ _ _ _ (by omega) ?_
            simp only [hrun, hx, hnth, hput, hok, hcat2, hldI, hldL, hldR, hpI, hpL, hpA, hpR, hp1, hpV, hrtI, hrtL, hrtR, hrtV, hpN, hck, hrI, hrB, hrL, hrA, hwI, hwA, hwB, hrN, mf_0, mf_1, mf_2, mf_3, mf_4, mf_5, mf_6, mf_7, mf_8, mf_9, mf_10, mf_11, mf_12, mf_13, mf_14, mf_15, mf_16, mf_17, mf_18, mf_19, mf_20, mf_21, mf_22, mf_23, mf_24, mf_25, mf_26, mf_27, mf_28, mf_29, ms_11, ms_16, ms_17, ms_20, ms_21, ms_23, ms_24, hwF, hcl, hfty, tyX1, tyX3, tyX6, tyX9, tyX10, tyJ0, tyJ4, hfit, hcmp, hnar, hres, hst, hacp, kz, kof, kn0, kn1, Bool.not_true, Bool.not_false, true_and, and_true, Nat.zero_add, Nat.reduceAdd, List.length_cons, List.length_nil, true_or, or_true, false_or, or_false, decide_true, decide_false, ne_eq, not_true_eq_false, not_false_eq_true, ki_0, ki_1, ki_2, ki_3, ki_4, ki_5, kb_m100, kb_m10, kb_m9, kb_m8, kb_m7, kb_m6, kb_m5, kb_m4, kb_m3, kb_m2, kb_6, kb_7, kb_8, kb_9, kb_10, kb_12, kb_13, kb_16, kb_27, kb_31, kb_32, kb_43, kb_45, kb_48, kb_57, kb_60, kb_63, kb_81, kb_97, kb_99, kb_100, kb_120, kb_126, ks_m1000, ks_243, ks_255, ks_729, ks_1000, ks_2000, ks_2187, ks_6561, ks_9840, ks_9841, kl_0, kl_1, es1]
            refine ⟨fun b72 => ?_, fun b72 => ?_⟩
            · (try simp (disch := omega) only [nI_ltI, nI_leI, nI_eq, Nat.not_lt, Nat.not_le] at b72) <;> (exfalso; omega)
            · try simp (disch := omega) only [nI_ltI, nI_leI, nI_eq, Nat.not_lt, Nat.not_le] at b72
              refine hP 6 _ rfl _ _ _ _ _ _ ?_
              simp only [bX10_makeBasis_6, hrun, hx, hnth, hput, hok, hcat2, hldI, hldL, hldR, hpI, hpL, hpA, hpR, hp1, hpV, hrtI, hrtL, hrtR, hrtV, hpN, hck, hrI, hrB, hrL, hrA, hwI, hwA, hwB, hrN, mf_0, mf_1, mf_2, mf_3, mf_4, mf_5, mf_6, mf_7, mf_8, mf_9, mf_10, mf_11, mf_12, mf_13, mf_14, mf_15, mf_16, mf_17, mf_18, mf_19, mf_20, mf_21, mf_22, mf_23, mf_24, mf_25, mf_26, mf_27, mf_28, mf_29, ms_11, ms_16, ms_17, ms_20, ms_21, ms_23, ms_24, hwF, hcl, hfty, tyX1, tyX3, tyX6, tyX9, tyX10, tyJ0, tyJ4, hfit, hcmp, hnar, hres, hst, hacp, kz, kof, kn0, kn1, Bool.not_true, Bool.not_false, true_and, and_true, Nat.zero_add, Nat.reduceAdd, List.length_cons, List.length_nil, true_or, or_true, false_or, or_false, decide_true, decide_false, ne_eq, not_true_eq_false, not_false_eq_true, ki_0, ki_1, ki_2, ki_3, ki_4, ki_5, kb_m100, kb_m10, kb_m9, kb_m8, kb_m7, kb_m6, kb_m5, kb_m4, kb_m3, kb_m2, kb_6, kb_7, kb_8, kb_9, kb_10, kb_12, kb_13, kb_16, kb_27, kb_31, kb_32, kb_43, kb_45, kb_48, kb_57, kb_60, kb_63, kb_81, kb_97, kb_99, kb_100, kb_120, kb_126, ks_m1000, ks_243, ks_255, ks_729, ks_1000, ks_2000, ks_2187, ks_6561, ks_9840, ks_9841, kl_0, kl_1, es1]
              refine ⟨fun b79 => ?_, fun b79 => ?_⟩
              · (try simp (disch := omega) only [nI_ltI, nI_leI, nI_eq, Nat.not_lt, Nat.not_le] at b79) <;> (exfalso; omega)
              · try simp (disch := omega) only [nI_ltI, nI_leI, nI_eq, Nat.not_lt, Nat.not_le] at b79
                refine hP 7 _ rfl _ _ _ _ _ _ ?_
                simp only [bX10_makeBasis_7, hrun, hx, hnth, hput, hok, hcat2, hldI, hldL, hldR, hpI, hpL, hpA, hpR, hp1, hpV, hrtI, hrtL, hrtR, hrtV, hpN, hck, hrI, hrB, hrL, hrA, hwI, hwA, hwB, hrN, mf_0, mf_1, mf_2, mf_3, mf_4, mf_5, mf_6, mf_7, mf_8, mf_9, mf_10, mf_11, mf_12, mf_13, mf_14, mf_15, mf_16, mf_17, mf_18, mf_19, mf_20, mf_21, mf_22, mf_23, mf_24, mf_25, mf_26, mf_27, mf_28, mf_29, ms_11, ms_16, ms_17, ms_20, ms_21, ms_23, ms_24, hwF, hcl, hfty, tyX1, tyX3, tyX6, tyX9, tyX10, tyJ0, tyJ4, hfit, hcmp, hnar, hres, hst, hacp, kz, kof, kn0, kn1, Bool.not_true, Bool.not_false, true_and, and_true, Nat.zero_add, Nat.reduceAdd, List.length_cons, List.length_nil, true_or, or_true, false_or, or_false, decide_true, decide_false, ne_eq, not_true_eq_false, not_false_eq_true, ki_0, ki_1, ki_2, ki_3, ki_4, ki_5, kb_m100, kb_m10, kb_m9, kb_m8, kb_m7, kb_m6, kb_m5, kb_m4, kb_m3, kb_m2, kb_6, kb_7, kb_8, kb_9, kb_10, kb_12, kb_13, kb_16, kb_27, kb_31, kb_32, kb_43, kb_45, kb_48, kb_57, kb_60, kb_63, kb_81, kb_97, kb_99, kb_100, kb_120, kb_126, ks_m1000, ks_243, ks_255, ks_729, ks_1000, ks_2000, ks_2187, ks_6561, ks_9840, ks_9841, kl_0, kl_1, es1]
                refine c_compare hg (by omega) hryA hryA (by omega) (by omega) ?_
                rw [hz0]
                simp only [hrun, hx, hnth, hput, hok, hcat2, hldI, hldL, hldR, hpI, hpL, hpA, hpR, hp1, hpV, hrtI, hrtL, hrtR, hrtV, hpN, hck, hrI, hrB, hrL, hrA, hwI, hwA, hwB, hrN, mf_0, mf_1, mf_2, mf_3, mf_4, mf_5, mf_6, mf_7, mf_8, mf_9, mf_10, mf_11, mf_12, mf_13, mf_14, mf_15, mf_16, mf_17, mf_18, mf_19, mf_20, mf_21, mf_22, mf_23, mf_24, mf_25, mf_26, mf_27, mf_28, mf_29, ms_11, ms_16, ms_17, ms_20, ms_21, ms_23, ms_24, hwF, hcl, hfty, tyX1, tyX3, tyX6, tyX9, tyX10, tyJ0, tyJ4, hfit, hcmp, hnar, hres, hst, hacp, kz, kof, kn0, kn1, Bool.not_true, Bool.not_false, true_and, and_true, Nat.zero_add, Nat.reduceAdd, List.length_cons, List.length_nil, true_or, or_true, false_or, or_false, decide_true, decide_false, ne_eq, not_true_eq_false, not_false_eq_true, ki_0, ki_1, ki_2, ki_3, ki_4, ki_5, kb_m100, kb_m10, kb_m9, kb_m8, kb_m7, kb_m6, kb_m5, kb_m4, kb_m3, kb_m2, kb_6, kb_7, kb_8, kb_9, kb_10, kb_12, kb_13, kb_16, kb_27, kb_31, kb_32, kb_43, kb_45, kb_48, kb_57, kb_60, kb_63, kb_81, kb_97, kb_99, kb_100, kb_120, kb_126, ks_m1000, ks_243, ks_255, ks_729, ks_1000, ks_2000, ks_2187, ks_6561, ks_9840, ks_9841, kl_0, kl_1, es1]
                refine ⟨fun b96 => ?_, fun b96 => ?_⟩
                · skip
                  first | exact b96.elim | exact (b96 rfl).elim | exact absurd rfl b96
                · skip
                  refine hP 8 _ rfl _ _ _ _ _ _ ?_
                  simp only [bX10_makeBasis_8, hrun, hx, hnth, hput, hok, hcat2, hldI, hldL, hldR, hpI, hpL, hpA, hpR, hp1, hpV, hrtI, hrtL, hrtR, hrtV, hpN, hck, hrI, hrB, hrL, hrA, hwI, hwA, hwB, hrN, mf_0, mf_1, mf_2, mf_3, mf_4, mf_5, mf_6, mf_7, mf_8, mf_9, mf_10, mf_11, mf_12, mf_13, mf_14, mf_15, mf_16, mf_17, mf_18, mf_19, mf_20, mf_21, mf_22, mf_23, mf_24, mf_25, mf_26, mf_27, mf_28, mf_29, ms_11, ms_16, ms_17, ms_20, ms_21, ms_23, ms_24, hwF, hcl, hfty, tyX1, tyX3, tyX6, tyX9, tyX10, tyJ0, tyJ4, hfit, hcmp, hnar, hres, hst, hacp, kz, kof, kn0, kn1, Bool.not_true, Bool.not_false, true_and, and_true, Nat.zero_add, Nat.reduceAdd, List.length_cons, List.length_nil, true_or, or_true, false_or, or_false, decide_true, decide_false, ne_eq, not_true_eq_false, not_false_eq_true, ki_0, ki_1, ki_2, ki_3, ki_4, ki_5, kb_m100, kb_m10, kb_m9, kb_m8, kb_m7, kb_m6, kb_m5, kb_m4, kb_m3, kb_m2, kb_6, kb_7, kb_8, kb_9, kb_10, kb_12, kb_13, kb_16, kb_27, kb_31, kb_32, kb_43, kb_45, kb_48, kb_57, kb_60, kb_63, kb_81, kb_97, kb_99, kb_100, kb_120, kb_126, ks_m1000, ks_243, ks_255, ks_729, ks_1000, ks_2000, ks_2187, ks_6561, ks_9840, ks_9841, kl_0, kl_1, es1]
                  refine hP 10 _ rfl _ _ _ _ _ _ ?_
                  simp only [bX10_makeBasis_10, hrun, hx, hnth, hput, hok, hcat2, hldI, hldL, hldR, hpI, hpL, hpA, hpR, hp1, hpV, hrtI, hrtL, hrtR, hrtV, hpN, hck, hrI, hrB, hrL, hrA, hwI, hwA, hwB, hrN, mf_0, mf_1, mf_2, mf_3, mf_4, mf_5, mf_6, mf_7, mf_8, mf_9, mf_10, mf_11, mf_12, mf_13, mf_14, mf_15, mf_16, mf_17, mf_18, mf_19, mf_20, mf_21, mf_22, mf_23, mf_24, mf_25, mf_26, mf_27, mf_28, mf_29, ms_11, ms_16, ms_17, ms_20, ms_21, ms_23, ms_24, hwF, hcl, hfty, tyX1, tyX3, tyX6, tyX9, tyX10, tyJ0, tyJ4, hfit, hcmp, hnar, hres, hst, hacp, kz, kof, kn0, kn1, Bool.not_true, Bool.not_false, true_and, and_true, Nat.zero_add, Nat.reduceAdd, List.length_cons, List.length_nil, true_or, or_true, false_or, or_false, decide_true, decide_false, ne_eq, not_true_eq_false, not_false_eq_true, ki_0, ki_1, ki_2, ki_3, ki_4, ki_5, kb_m100, kb_m10, kb_m9, kb_m8, kb_m7, kb_m6, kb_m5, kb_m4, kb_m3, kb_m2, kb_6, kb_7, kb_8, kb_9, kb_10, kb_12, kb_13, kb_16, kb_27, kb_31, kb_32, kb_43, kb_45, kb_48, kb_57, kb_60, kb_63, kb_81, kb_97, kb_99, kb_100, kb_120, kb_126, ks_m1000, ks_243, ks_255, ks_729, ks_1000, ks_2000, ks_2187, ks_6561, ks_9840, ks_9841, kl_0, kl_1, es1]
                  refine ⟨fun b108 => ?_, fun b108 => ?_⟩
                  · (try simp (disch := omega) only [nI_ltI, nI_leI, nI_eq, Nat.not_lt, Nat.not_le] at b108) <;> (exfalso; omega)
                  · try simp (disch := omega) only [nI_ltI, nI_leI, nI_eq, Nat.not_lt, Nat.not_le] at b108
                    refine hP 11 _ rfl _ _ _ _ _ _ ?_
                    simp only [bX10_makeBasis_11, hrun, hx, hnth, hput, hok, hcat2, hldI, hldL, hldR, hpI, hpL, hpA, hpR, hp1, hpV, hrtI, hrtL, hrtR, hrtV, hpN, hck, hrI, hrB, hrL, hrA, hwI, hwA, hwB, hrN, mf_0, mf_1, mf_2, mf_3, mf_4, mf_5, mf_6, mf_7, mf_8, mf_9, mf_10, mf_11, mf_12, mf_13, mf_14, mf_15, mf_16, mf_17, mf_18, mf_19, mf_20, mf_21, mf_22, mf_23, mf_24, mf_25, mf_26, mf_27, mf_28, mf_29, ms_11, ms_16, ms_17, ms_20, ms_21, ms_23, ms_24, hwF, hcl, hfty, tyX1, tyX3, tyX6, tyX9, tyX10, tyJ0, tyJ4, hfit, hcmp, hnar, hres, hst, hacp, kz, kof, kn0, kn1, Bool.not_true, Bool.not_false, true_and, and_true, Nat.zero_add, Nat.reduceAdd, List.length_cons, List.length_nil, true_or, or_true, false_or, or_false, decide_true, decide_false, ne_eq, not_true_eq_false, not_false_eq_true, ki_0, ki_1, ki_2, ki_3, ki_4, ki_5, kb_m100, kb_m10, kb_m9, kb_m8, kb_m7, kb_m6, kb_m5, kb_m4, kb_m3, kb_m2, kb_6, kb_7, kb_8, kb_9, kb_10, kb_12, kb_13, kb_16, kb_27, kb_31, kb_32, kb_43, kb_45, kb_48, kb_57, kb_60, kb_63, kb_81, kb_97, kb_99, kb_100, kb_120, kb_126, ks_m1000, ks_243, ks_255, ks_729, ks_1000, ks_2000, ks_2187, ks_6561, ks_9840, ks_9841, kl_0, kl_1, es1]
                    rw [nI_add]
                    exact g1
        · rw [if_neg qs] at hDj
          have g1 := go 1 (nI 0) (by omega) (hDle _ _ hDj (hpp _ _ hDj)) hDj
          have es1 : (mfb u (j + 1 + 1) - mfb u (j + 1)) = bef → nI (mfb u (j + 1)) - nI (mfb u (j + 1 + 1) - mfb u (j + 1)) = nI (mfb u (j + 1) - (mfb u (j + 1 + 1) - mfb u (j + 1))) := fun _ => pk_sub (by omega)
          by_cases qb : (mfb u (j + 1 + 1) - mfb u (j + 1)) = bef
          · have es2 := es1 qb
            have hz0 : ¬ Int32.ofInt (mcp ry ry (mfb u (j + 1)) (mfb u (j + 1 + 1) - mfb u (j + 1)) (mfb u (j + 1) - (mfb u (j + 1 + 1) - mfb u (j + 1))) (mfb u (j + 1 + 1) - mfb u (j + 1))) = nI 0 := fun e => qs (hsame.mpr ⟨qb, by
              have h7 := congrArg Int32.toInt e
              rw [Int32.toInt_ofInt_of_le (by unfold mcp; omega) (by unfold mcp; omega), nI_toInt (by omega)] at h7
              exact h7⟩)
            refine hP 4 _ rfl _ _ _ _ _ _ ?_
            simp only [bX10_makeBasis_4, hrun, hx, hnth, hput, hok, hcat2, hldI, hldL, hldR, hpI, hpL, hpA, hpR, hp1, hpV, hrtI, hrtL, hrtR, hrtV, hpN, hck, hrI, hrB, hrL, hrA, hwI, hwA, hwB, hrN, mf_0, mf_1, mf_2, mf_3, mf_4, mf_5, mf_6, mf_7, mf_8, mf_9, mf_10, mf_11, mf_12, mf_13, mf_14, mf_15, mf_16, mf_17, mf_18, mf_19, mf_20, mf_21, mf_22, mf_23, mf_24, mf_25, mf_26, mf_27, mf_28, mf_29, ms_11, ms_16, ms_17, ms_20, ms_21, ms_23, ms_24, hwF, hcl, hfty, tyX1, tyX3, tyX6, tyX9, tyX10, tyJ0, tyJ4, hfit, hcmp, hnar, hres, hst, hacp, kz, kof, kn0, kn1, Bool.not_true, Bool.not_false, true_and, and_true, Nat.zero_add, Nat.reduceAdd, List.length_cons, List.length_nil, true_or, or_true, false_or, or_false, decide_true, decide_false, ne_eq, not_true_eq_false, not_false_eq_true, ki_0, ki_1, ki_2, ki_3, ki_4, ki_5, kb_m100, kb_m10, kb_m9, kb_m8, kb_m7, kb_m6, kb_m5, kb_m4, kb_m3, kb_m2, kb_6, kb_7, kb_8, kb_9, kb_10, kb_12, kb_13, kb_16, kb_27, kb_31, kb_32, kb_43, kb_45, kb_48, kb_57, kb_60, kb_63, kb_81, kb_97, kb_99, kb_100, kb_120, kb_126, ks_m1000, ks_243, ks_255, ks_729, ks_1000, ks_2000, ks_2187, ks_6561, ks_9840, ks_9841, kl_0, kl_1, es2]
            refine ⟨fun b60 => ?_, fun b60 => ?_⟩
            · (try simp (disch := omega) only [nI_ltI, nI_leI, nI_eq, Nat.not_lt, Nat.not_le] at b60) <;> (exfalso; omega)
            · try simp (disch := omega) only [nI_ltI, nI_leI, nI_eq, Nat.not_lt, Nat.not_le] at b60
              refine hP 5 _ rfl _ _ _ _ _ _ ?_
              simp only [bX10_makeBasis_5, hrun, hx, hnth, hput, hok, hcat2, hldI, hldL, hldR, hpI, hpL, hpA, hpR, hp1, hpV, hrtI, hrtL, hrtR, hrtV, hpN, hck, hrI, hrB, hrL, hrA, hwI, hwA, hwB, hrN, mf_0, mf_1, mf_2, mf_3, mf_4, mf_5, mf_6, mf_7, mf_8, mf_9, mf_10, mf_11, mf_12, mf_13, mf_14, mf_15, mf_16, mf_17, mf_18, mf_19, mf_20, mf_21, mf_22, mf_23, mf_24, mf_25, mf_26, mf_27, mf_28, mf_29, ms_11, ms_16, ms_17, ms_20, ms_21, ms_23, ms_24, hwF, hcl, hfty, tyX1, tyX3, tyX6, tyX9, tyX10, tyJ0, tyJ4, hfit, hcmp, hnar, hres, hst, hacp, kz, kof, kn0, kn1, Bool.not_true, Bool.not_false, true_and, and_true, Nat.zero_add, Nat.reduceAdd, List.length_cons, List.length_nil, true_or, or_true, false_or, or_false, decide_true, decide_false, ne_eq, not_true_eq_false, not_false_eq_true, ki_0, ki_1, ki_2, ki_3, ki_4, ki_5, kb_m100, kb_m10, kb_m9, kb_m8, kb_m7, kb_m6, kb_m5, kb_m4, kb_m3, kb_m2, kb_6, kb_7, kb_8, kb_9, kb_10, kb_12, kb_13, kb_16, kb_27, kb_31, kb_32, kb_43, kb_45, kb_48, kb_57, kb_60, kb_63, kb_81, kb_97, kb_99, kb_100, kb_120, kb_126, ks_m1000, ks_243, ks_255, ks_729, ks_1000, ks_2000, ks_2187, ks_6561, ks_9840, ks_9841, kl_0, kl_1, es2]
              refine FLN _ _ _ _ _ (by omega) ?_
              simp only [hrun, hx, hnth, hput, hok, hcat2, hldI, hldL, hldR, hpI, hpL, hpA, hpR, hp1, hpV, hrtI, hrtL, hrtR, hrtV, hpN, hck, hrI, hrB, hrL, hrA, hwI, hwA, hwB, hrN, mf_0, mf_1, mf_2, mf_3, mf_4, mf_5, mf_6, mf_7, mf_8, mf_9, mf_10, mf_11, mf_12, mf_13, mf_14, mf_15, mf_16, mf_17, mf_18, mf_19, mf_20, mf_21, mf_22, mf_23, mf_24, mf_25, mf_26, mf_27, mf_28, mf_29, ms_11, ms_16, ms_17, ms_20, ms_21, ms_23, ms_24, hwF, hcl, hfty, tyX1, tyX3, tyX6, tyX9, tyX10, tyJ0, tyJ4, hfit, hcmp, hnar, hres, hst, hacp, kz, kof, kn0, kn1, Bool.not_true, Bool.not_false, true_and, and_true, Nat.zero_add, Nat.reduceAdd, List.length_cons, List.length_nil, true_or, or_true, false_or, or_false, decide_true, decide_false, ne_eq, not_true_eq_false, not_false_eq_true, ki_0, ki_1, ki_2, ki_3, ki_4, ki_5, kb_m100, kb_m10, kb_m9, kb_m8, kb_m7, kb_m6, kb_m5, kb_m4, kb_m3, kb_m2, kb_6, kb_7, kb_8, kb_9, kb_10, kb_12, kb_13, kb_16, kb_27, kb_31, kb_32, kb_43, kb_45, kb_48, kb_57, kb_60, kb_63, kb_81, kb_97, kb_99, kb_100, kb_120, kb_126, ks_m1000, ks_243, ks_255, ks_729, ks_1000, ks_2000, ks_2187, ks_6561, ks_9840, ks_9841, kl_0, kl_1, es2]
              refine ⟨fun b72 => ?_, fun b72 => ?_⟩
              · (try simp (disch := omega) only [nI_ltI, nI_leI, nI_eq, Nat.not_lt, Nat.not_le] at b72) <;> (exfalso; omega)
              · try simp (disch := omega) only [nI_ltI, nI_leI, nI_eq, Nat.not_lt, Nat.not_le] at b72
                refine hP 6 _ rfl _ _ _ _ _ _ ?_
                simp only [bX10_makeBasis_6, hrun, hx, hnth, hput, hok, hcat2, hldI, hldL, hldR, hpI, hpL, hpA, hpR, hp1, hpV, hrtI, hrtL, hrtR, hrtV, hpN, hck, hrI, hrB, hrL, hrA, hwI, hwA, hwB, hrN, mf_0, mf_1, mf_2, mf_3, mf_4, mf_5, mf_6, mf_7, mf_8, mf_9, mf_10, mf_11, mf_12, mf_13, mf_14, mf_15, mf_16, mf_17, mf_18, mf_19, mf_20, mf_21, mf_22, mf_23, mf_24, mf_25, mf_26, mf_27, mf_28, mf_29, ms_11, ms_16, ms_17, ms_20, ms_21, ms_23, ms_24, hwF, hcl, hfty, tyX1, tyX3, tyX6, tyX9, tyX10, tyJ0, tyJ4, hfit, hcmp, hnar, hres, hst, hacp, kz, kof, kn0, kn1, Bool.not_true, Bool.not_false, true_and, and_true, Nat.zero_add, Nat.reduceAdd, List.length_cons, List.length_nil, true_or, or_true, false_or, or_false, decide_true, decide_false, ne_eq, not_true_eq_false, not_false_eq_true, ki_0, ki_1, ki_2, ki_3, ki_4, ki_5, kb_m100, kb_m10, kb_m9, kb_m8, kb_m7, kb_m6, kb_m5, kb_m4, kb_m3, kb_m2, kb_6, kb_7, kb_8, kb_9, kb_10, kb_12, kb_13, kb_16, kb_27, kb_31, kb_32, kb_43, kb_45, kb_48, kb_57, kb_60, kb_63, kb_81, kb_97, kb_99, kb_100, kb_120, kb_126, ks_m1000, ks_243, ks_255, ks_729, ks_1000, ks_2000, ks_2187, ks_6561, ks_9840, ks_9841, kl_0, kl_1, es2]
                refine ⟨fun b79 => ?_, fun b79 => ?_⟩
                · (try simp (disch := omega) only [nI_ltI, nI_leI, nI_eq, Nat.not_lt, Nat.not_le] at b79) <;> (exfalso; omega)
                · try simp (disch := omega) only [nI_ltI, nI_leI, nI_eq, Nat.not_lt, Nat.not_le] at b79
                  refine hP 7 _ rfl _ _ _ _ _ _ ?_
                  simp only [bX10_makeBasis_7, hrun, hx, hnth, hput, hok, hcat2, hldI, hldL, hldR, hpI, hpL, hpA, hpR, hp1, hpV, hrtI, hrtL, hrtR, hrtV, hpN, hck, hrI, hrB, hrL, hrA, hwI, hwA, hwB, hrN, mf_0, mf_1, mf_2, mf_3, mf_4, mf_5, mf_6, mf_7, mf_8, mf_9, mf_10, mf_11, mf_12, mf_13, mf_14, mf_15, mf_16, mf_17, mf_18, mf_19, mf_20, mf_21, mf_22, mf_23, mf_24, mf_25, mf_26, mf_27, mf_28, mf_29, ms_11, ms_16, ms_17, ms_20, ms_21, ms_23, ms_24, hwF, hcl, hfty, tyX1, tyX3, tyX6, tyX9, tyX10, tyJ0, tyJ4, hfit, hcmp, hnar, hres, hst, hacp, kz, kof, kn0, kn1, Bool.not_true, Bool.not_false, true_and, and_true, Nat.zero_add, Nat.reduceAdd, List.length_cons, List.length_nil, true_or, or_true, false_or, or_false, decide_true, decide_false, ne_eq, not_true_eq_false, not_false_eq_true, ki_0, ki_1, ki_2, ki_3, ki_4, ki_5, kb_m100, kb_m10, kb_m9, kb_m8, kb_m7, kb_m6, kb_m5, kb_m4, kb_m3, kb_m2, kb_6, kb_7, kb_8, kb_9, kb_10, kb_12, kb_13, kb_16, kb_27, kb_31, kb_32, kb_43, kb_45, kb_48, kb_57, kb_60, kb_63, kb_81, kb_97, kb_99, kb_100, kb_120, kb_126, ks_m1000, ks_243, ks_255, ks_729, ks_1000, ks_2000, ks_2187, ks_6561, ks_9840, ks_9841, kl_0, kl_1, es2]
                  refine c_compare hg (by omega) hryA hryA (by omega) (by omega) ?_
                  simp only [hrun, hx, hnth, hput, hok, hcat2, hldI, hldL, hldR, hpI, hpL, hpA, hpR, hp1, hpV, hrtI, hrtL, hrtR, hrtV, hpN, hck, hrI, hrB, hrL, hrA, hwI, hwA, hwB, hrN, mf_0, mf_1, mf_2, mf_3, mf_4, mf_5, mf_6, mf_7, mf_8, mf_9, mf_10, mf_11, mf_12, mf_13, mf_14, mf_15, mf_16, mf_17, mf_18, mf_19, mf_20, mf_21, mf_22, mf_23, mf_24, mf_25, mf_26, mf_27, mf_28, mf_29, ms_11, ms_16, ms_17, ms_20, ms_21, ms_23, ms_24, hwF, hcl, hfty, tyX1, tyX3, tyX6, tyX9, tyX10, tyJ0, tyJ4, hfit, hcmp, hnar, hres, hst, hacp, kz, kof, kn0, kn1, Bool.not_true, Bool.not_false, true_and, and_true, Nat.zero_add, Nat.reduceAdd, List.length_cons, List.length_nil, true_or, or_true, false_or, or_false, decide_true, decide_false, ne_eq, not_true_eq_false, not_false_eq_true, ki_0, ki_1, ki_2, ki_3, ki_4, ki_5, kb_m100, kb_m10, kb_m9, kb_m8, kb_m7, kb_m6, kb_m5, kb_m4, kb_m3, kb_m2, kb_6, kb_7, kb_8, kb_9, kb_10, kb_12, kb_13, kb_16, kb_27, kb_31, kb_32, kb_43, kb_45, kb_48, kb_57, kb_60, kb_63, kb_81, kb_97, kb_99, kb_100, kb_120, kb_126, ks_m1000, ks_243, ks_255, ks_729, ks_1000, ks_2000, ks_2187, ks_6561, ks_9840, ks_9841, kl_0, kl_1, es2]
                  refine ⟨fun b96 => ?_, fun b96 => ?_⟩
                  · skip
                    refine hP 9 _ rfl _ _ _ _ _ _ ?_
                    simp only [bX10_makeBasis_9, hrun, hx, hnth, hput, hok, hcat2, hldI, hldL, hldR, hpI, hpL, hpA, hpR, hp1, hpV, hrtI, hrtL, hrtR, hrtV, hpN, hck, hrI, hrB, hrL, hrA, hwI, hwA, hwB, hrN, mf_0, mf_1, mf_2, mf_3, mf_4, mf_5, mf_6, mf_7, mf_8, mf_9, mf_10, mf_11, mf_12, mf_13, mf_14, mf_15, mf_16, mf_17, mf_18, mf_19, mf_20, mf_21, mf_22, mf_23, mf_24, mf_25, mf_26, mf_27, mf_28, mf_29, ms_11, ms_16, ms_17, ms_20, ms_21, ms_23, ms_24, hwF, hcl, hfty, tyX1, tyX3, tyX6, tyX9, tyX10, tyJ0, tyJ4, hfit, hcmp, hnar, hres, hst, hacp, kz, kof, kn0, kn1, Bool.not_true, Bool.not_false, true_and, and_true, Nat.zero_add, Nat.reduceAdd, List.length_cons, List.length_nil, true_or, or_true, false_or, or_false, decide_true, decide_false, ne_eq, not_true_eq_false, not_false_eq_true, ki_0, ki_1, ki_2, ki_3, ki_4, ki_5, kb_m100, kb_m10, kb_m9, kb_m8, kb_m7, kb_m6, kb_m5, kb_m4, kb_m3, kb_m2, kb_6, kb_7, kb_8, kb_9, kb_10, kb_12, kb_13, kb_16, kb_27, kb_31, kb_32, kb_43, kb_45, kb_48, kb_57, kb_60, kb_63, kb_81, kb_97, kb_99, kb_100, kb_120, kb_126, ks_m1000, ks_243, ks_255, ks_729, ks_1000, ks_2000, ks_2187, ks_6561, ks_9840, ks_9841, kl_0, kl_1, es2]
                    refine hP 10 _ rfl _ _ _ _ _ _ ?_
                    simp only [bX10_makeBasis_10, hrun, hx, hnth, hput, hok, hcat2, hldI, hldL, hldR, hpI, hpL, hpA, hpR, hp1, hpV, hrtI, hrtL, hrtR, hrtV, hpN, hck, hrI, hrB, hrL, hrA, hwI, hwA, hwB, hrN, mf_0, mf_1, mf_2, mf_3, mf_4, mf_5, mf_6, mf_7, mf_8, mf_9, mf_10, mf_11, mf_12, mf_13, mf_14, mf_15, mf_16, mf_17, mf_18, mf_19, mf_20, mf_21, mf_22, mf_23, mf_24, mf_25, mf_26, mf_27, mf_28, mf_29, ms_11, ms_16, ms_17, ms_20, ms_21, ms_23, ms_24, hwF, hcl, hfty, tyX1, tyX3, tyX6, tyX9, tyX10, tyJ0, tyJ4, hfit, hcmp, hnar, hres, hst, hacp, kz, kof, kn0, kn1, Bool.not_true, Bool.not_false, true_and, and_true, Nat.zero_add, Nat.reduceAdd, List.length_cons, List.length_nil, true_or, or_true, false_or, or_false, decide_true, decide_false, ne_eq, not_true_eq_false, not_false_eq_true, ki_0, ki_1, ki_2, ki_3, ki_4, ki_5, kb_m100, kb_m10, kb_m9, kb_m8, kb_m7, kb_m6, kb_m5, kb_m4, kb_m3, kb_m2, kb_6, kb_7, kb_8, kb_9, kb_10, kb_12, kb_13, kb_16, kb_27, kb_31, kb_32, kb_43, kb_45, kb_48, kb_57, kb_60, kb_63, kb_81, kb_97, kb_99, kb_100, kb_120, kb_126, ks_m1000, ks_243, ks_255, ks_729, ks_1000, ks_2000, ks_2187, ks_6561, ks_9840, ks_9841, kl_0, kl_1, es2]
                    refine ⟨fun b108 => ?_, fun b108 => ?_⟩
                    · try simp (disch := omega) only [nI_ltI, nI_leI, nI_eq, Nat.not_lt, Nat.not_le] at b108
                      refine hP 12 _ rfl _ _ _ _ _ _ ?_
                      simp only [bX10_makeBasis_12, hrun, hx, hnth, hput, hok, hcat2, hldI, hldL, hldR, hpI, hpL, hpA, hpR, hp1, hpV, hrtI, hrtL, hrtR, hrtV, hpN, hck, hrI, hrB, hrL, hrA, hwI, hwA, hwB, hrN, mf_0, mf_1, mf_2, mf_3, mf_4, mf_5, mf_6, mf_7, mf_8, mf_9, mf_10, mf_11, mf_12, mf_13, mf_14, mf_15, mf_16, mf_17, mf_18, mf_19, mf_20, mf_21, mf_22, mf_23, mf_24, mf_25, mf_26, mf_27, mf_28, mf_29, ms_11, ms_16, ms_17, ms_20, ms_21, ms_23, ms_24, hwF, hcl, hfty, tyX1, tyX3, tyX6, tyX9, tyX10, tyJ0, tyJ4, hfit, hcmp, hnar, hres, hst, hacp, kz, kof, kn0, kn1, Bool.not_true, Bool.not_false, true_and, and_true, Nat.zero_add, Nat.reduceAdd, List.length_cons, List.length_nil, true_or, or_true, false_or, or_false, decide_true, decide_false, ne_eq, not_true_eq_false, not_false_eq_true, ki_0, ki_1, ki_2, ki_3, ki_4, ki_5, kb_m100, kb_m10, kb_m9, kb_m8, kb_m7, kb_m6, kb_m5, kb_m4, kb_m3, kb_m2, kb_6, kb_7, kb_8, kb_9, kb_10, kb_12, kb_13, kb_16, kb_27, kb_31, kb_32, kb_43, kb_45, kb_48, kb_57, kb_60, kb_63, kb_81, kb_97, kb_99, kb_100, kb_120, kb_126, ks_m1000, ks_243, ks_255, ks_729, ks_1000, ks_2000, ks_2187, ks_6561, ks_9840, ks_9841, kl_0, kl_1, es2]
                      exact g1
                    · (try simp (disch := omega) only [nI_ltI, nI_leI, nI_eq, Nat.not_lt, Nat.not_le] at b108) <;> (exfalso; omega)
                  · skip
                    exact (hz0 b96).elim
          · skip
            refine hP 4 _ rfl _ _ _ _ _ _ ?_
            simp only [bX10_makeBasis_4, hrun, hx, hnth, hput, hok, hcat2, hldI, hldL, hldR, hpI, hpL, hpA, hpR, hp1, hpV, hrtI, hrtL, hrtR, hrtV, hpN, hck, hrI, hrB, hrL, hrA, hwI, hwA, hwB, hrN, mf_0, mf_1, mf_2, mf_3, mf_4, mf_5, mf_6, mf_7, mf_8, mf_9, mf_10, mf_11, mf_12, mf_13, mf_14, mf_15, mf_16, mf_17, mf_18, mf_19, mf_20, mf_21, mf_22, mf_23, mf_24, mf_25, mf_26, mf_27, mf_28, mf_29, ms_11, ms_16, ms_17, ms_20, ms_21, ms_23, ms_24, hwF, hcl, hfty, tyX1, tyX3, tyX6, tyX9, tyX10, tyJ0, tyJ4, hfit, hcmp, hnar, hres, hst, hacp, kz, kof, kn0, kn1, Bool.not_true, Bool.not_false, true_and, and_true, Nat.zero_add, Nat.reduceAdd, List.length_cons, List.length_nil, true_or, or_true, false_or, or_false, decide_true, decide_false, ne_eq, not_true_eq_false, not_false_eq_true, ki_0, ki_1, ki_2, ki_3, ki_4, ki_5, kb_m100, kb_m10, kb_m9, kb_m8, kb_m7, kb_m6, kb_m5, kb_m4, kb_m3, kb_m2, kb_6, kb_7, kb_8, kb_9, kb_10, kb_12, kb_13, kb_16, kb_27, kb_31, kb_32, kb_43, kb_45, kb_48, kb_57, kb_60, kb_63, kb_81, kb_97, kb_99, kb_100, kb_120, kb_126, ks_m1000, ks_243, ks_255, ks_729, ks_1000, ks_2000, ks_2187, ks_6561, ks_9840, ks_9841, kl_0, kl_1]
            refine ⟨fun b60 => ?_, fun b60 => ?_⟩
            · (try simp (disch := omega) only [nI_ltI, nI_leI, nI_eq, Nat.not_lt, Nat.not_le] at b60) <;> (exfalso; omega)
            · try simp (disch := omega) only [nI_ltI, nI_leI, nI_eq, Nat.not_lt, Nat.not_le] at b60
              refine hP 5 _ rfl _ _ _ _ _ _ ?_
              simp only [bX10_makeBasis_5, hrun, hx, hnth, hput, hok, hcat2, hldI, hldL, hldR, hpI, hpL, hpA, hpR, hp1, hpV, hrtI, hrtL, hrtR, hrtV, hpN, hck, hrI, hrB, hrL, hrA, hwI, hwA, hwB, hrN, mf_0, mf_1, mf_2, mf_3, mf_4, mf_5, mf_6, mf_7, mf_8, mf_9, mf_10, mf_11, mf_12, mf_13, mf_14, mf_15, mf_16, mf_17, mf_18, mf_19, mf_20, mf_21, mf_22, mf_23, mf_24, mf_25, mf_26, mf_27, mf_28, mf_29, ms_11, ms_16, ms_17, ms_20, ms_21, ms_23, ms_24, hwF, hcl, hfty, tyX1, tyX3, tyX6, tyX9, tyX10, tyJ0, tyJ4, hfit, hcmp, hnar, hres, hst, hacp, kz, kof, kn0, kn1, Bool.not_true, Bool.not_false, true_and, and_true, Nat.zero_add, Nat.reduceAdd, List.length_cons, List.length_nil, true_or, or_true, false_or, or_false, decide_true, decide_false, ne_eq, not_true_eq_false, not_false_eq_true, ki_0, ki_1, ki_2, ki_3, ki_4, ki_5, kb_m100, kb_m10, kb_m9, kb_m8, kb_m7, kb_m6, kb_m5, kb_m4, kb_m3, kb_m2, kb_6, kb_7, kb_8, kb_9, kb_10, kb_12, kb_13, kb_16, kb_27, kb_31, kb_32, kb_43, kb_45, kb_48, kb_57, kb_60, kb_63, kb_81, kb_97, kb_99, kb_100, kb_120, kb_126, ks_m1000, ks_243, ks_255, ks_729, ks_1000, ks_2000, ks_2187, ks_6561, ks_9840, ks_9841, kl_0, kl_1]
              refine FLN _ _ _ _ _ (by omega) ?_
              simp only [hrun, hx, hnth, hput, hok, hcat2, hldI, hldL, hldR, hpI, hpL, hpA, hpR, hp1, hpV, hrtI, hrtL, hrtR, hrtV, hpN, hck, hrI, hrB, hrL, hrA, hwI, hwA, hwB, hrN, mf_0, mf_1, mf_2, mf_3, mf_4, mf_5, mf_6, mf_7, mf_8, mf_9, mf_10, mf_11, mf_12, mf_13, mf_14, mf_15, mf_16, mf_17, mf_18, mf_19, mf_20, mf_21, mf_22, mf_23, mf_24, mf_25, mf_26, mf_27, mf_28, mf_29, ms_11, ms_16, ms_17, ms_20, ms_21, ms_23, ms_24, hwF, hcl, hfty, tyX1, tyX3, tyX6, tyX9, tyX10, tyJ0, tyJ4, hfit, hcmp, hnar, hres, hst, hacp, kz, kof, kn0, kn1, Bool.not_true, Bool.not_false, true_and, and_true, Nat.zero_add, Nat.reduceAdd, List.length_cons, List.length_nil, true_or, or_true, false_or, or_false, decide_true, decide_false, ne_eq, not_true_eq_false, not_false_eq_true, ki_0, ki_1, ki_2, ki_3, ki_4, ki_5, kb_m100, kb_m10, kb_m9, kb_m8, kb_m7, kb_m6, kb_m5, kb_m4, kb_m3, kb_m2, kb_6, kb_7, kb_8, kb_9, kb_10, kb_12, kb_13, kb_16, kb_27, kb_31, kb_32, kb_43, kb_45, kb_48, kb_57, kb_60, kb_63, kb_81, kb_97, kb_99, kb_100, kb_120, kb_126, ks_m1000, ks_243, ks_255, ks_729, ks_1000, ks_2000, ks_2187, ks_6561, ks_9840, ks_9841, kl_0, kl_1]
              refine ⟨fun b72 => ?_, fun b72 => ?_⟩
              · (try simp (disch := omega) only [nI_ltI, nI_leI, nI_eq, Nat.not_lt, Nat.not_le] at b72) <;> (exfalso; omega)
              · try simp (disch := omega) only [nI_ltI, nI_leI, nI_eq, Nat.not_lt, Nat.not_le] at b72
                refine hP 6 _ rfl _ _ _ _ _ _ ?_
                simp only [bX10_makeBasis_6, hrun, hx, hnth, hput, hok, hcat2, hldI, hldL, hldR, hpI, hpL, hpA, hpR, hp1, hpV, hrtI, hrtL, hrtR, hrtV, hpN, hck, hrI, hrB, hrL, hrA, hwI, hwA, hwB, hrN, mf_0, mf_1, mf_2, mf_3, mf_4, mf_5, mf_6, mf_7, mf_8, mf_9, mf_10, mf_11, mf_12, mf_13, mf_14, mf_15, mf_16, mf_17, mf_18, mf_19, mf_20, mf_21, mf_22, mf_23, mf_24, mf_25, mf_26, mf_27, mf_28, mf_29, ms_11, ms_16, ms_17, ms_20, ms_21, ms_23, ms_24, hwF, hcl, hfty, tyX1, tyX3, tyX6, tyX9, tyX10, tyJ0, tyJ4, hfit, hcmp, hnar, hres, hst, hacp, kz, kof, kn0, kn1, Bool.not_true, Bool.not_false, true_and, and_true, Nat.zero_add, Nat.reduceAdd, List.length_cons, List.length_nil, true_or, or_true, false_or, or_false, decide_true, decide_false, ne_eq, not_true_eq_false, not_false_eq_true, ki_0, ki_1, ki_2, ki_3, ki_4, ki_5, kb_m100, kb_m10, kb_m9, kb_m8, kb_m7, kb_m6, kb_m5, kb_m4, kb_m3, kb_m2, kb_6, kb_7, kb_8, kb_9, kb_10, kb_12, kb_13, kb_16, kb_27, kb_31, kb_32, kb_43, kb_45, kb_48, kb_57, kb_60, kb_63, kb_81, kb_97, kb_99, kb_100, kb_120, kb_126, ks_m1000, ks_243, ks_255, ks_729, ks_1000, ks_2000, ks_2187, ks_6561, ks_9840, ks_9841, kl_0, kl_1]
                refine ⟨fun b79 => ?_, fun b79 => ?_⟩
                · try simp (disch := omega) only [nI_ltI, nI_leI, nI_eq, Nat.not_lt, Nat.not_le] at b79
                  refine hP 9 _ rfl _ _ _ _ _ _ ?_
                  simp only [bX10_makeBasis_9, hrun, hx, hnth, hput, hok, hcat2, hldI, hldL, hldR, hpI, hpL, hpA, hpR, hp1, hpV, hrtI, hrtL, hrtR, hrtV, hpN, hck, hrI, hrB, hrL, hrA, hwI, hwA, hwB, hrN, mf_0, mf_1, mf_2, mf_3, mf_4, mf_5, mf_6, mf_7, mf_8, mf_9, mf_10, mf_11, mf_12, mf_13, mf_14, mf_15, mf_16, mf_17, mf_18, mf_19, mf_20, mf_21, mf_22, mf_23, mf_24, mf_25, mf_26, mf_27, mf_28, mf_29, ms_11, ms_16, ms_17, ms_20, ms_21, ms_23, ms_24, hwF, hcl, hfty, tyX1, tyX3, tyX6, tyX9, tyX10, tyJ0, tyJ4, hfit, hcmp, hnar, hres, hst, hacp, kz, kof, kn0, kn1, Bool.not_true, Bool.not_false, true_and, and_true, Nat.zero_add, Nat.reduceAdd, List.length_cons, List.length_nil, true_or, or_true, false_or, or_false, decide_true, decide_false, ne_eq, not_true_eq_false, not_false_eq_true, ki_0, ki_1, ki_2, ki_3, ki_4, ki_5, kb_m100, kb_m10, kb_m9, kb_m8, kb_m7, kb_m6, kb_m5, kb_m4, kb_m3, kb_m2, kb_6, kb_7, kb_8, kb_9, kb_10, kb_12, kb_13, kb_16, kb_27, kb_31, kb_32, kb_43, kb_45, kb_48, kb_57, kb_60, kb_63, kb_81, kb_97, kb_99, kb_100, kb_120, kb_126, ks_m1000, ks_243, ks_255, ks_729, ks_1000, ks_2000, ks_2187, ks_6561, ks_9840, ks_9841, kl_0, kl_1]
                  refine hP 10 _ rfl _ _ _ _ _ _ ?_
                  simp only [bX10_makeBasis_10, hrun, hx, hnth, hput, hok, hcat2, hldI, hldL, hldR, hpI, hpL, hpA, hpR, hp1, hpV, hrtI, hrtL, hrtR, hrtV, hpN, hck, hrI, hrB, hrL, hrA, hwI, hwA, hwB, hrN, mf_0, mf_1, mf_2, mf_3, mf_4, mf_5, mf_6, mf_7, mf_8, mf_9, mf_10, mf_11, mf_12, mf_13, mf_14, mf_15, mf_16, mf_17, mf_18, mf_19, mf_20, mf_21, mf_22, mf_23, mf_24, mf_25, mf_26, mf_27, mf_28, mf_29, ms_11, ms_16, ms_17, ms_20, ms_21, ms_23, ms_24, hwF, hcl, hfty, tyX1, tyX3, tyX6, tyX9, tyX10, tyJ0, tyJ4, hfit, hcmp, hnar, hres, hst, hacp, kz, kof, kn0, kn1, Bool.not_true, Bool.not_false, true_and, and_true, Nat.zero_add, Nat.reduceAdd, List.length_cons, List.length_nil, true_or, or_true, false_or, or_false, decide_true, decide_false, ne_eq, not_true_eq_false, not_false_eq_true, ki_0, ki_1, ki_2, ki_3, ki_4, ki_5, kb_m100, kb_m10, kb_m9, kb_m8, kb_m7, kb_m6, kb_m5, kb_m4, kb_m3, kb_m2, kb_6, kb_7, kb_8, kb_9, kb_10, kb_12, kb_13, kb_16, kb_27, kb_31, kb_32, kb_43, kb_45, kb_48, kb_57, kb_60, kb_63, kb_81, kb_97, kb_99, kb_100, kb_120, kb_126, ks_m1000, ks_243, ks_255, ks_729, ks_1000, ks_2000, ks_2187, ks_6561, ks_9840, ks_9841, kl_0, kl_1]
                  refine ⟨fun b108 => ?_, fun b108 => ?_⟩
                  · try simp (disch := omega) only [nI_ltI, nI_leI, nI_eq, Nat.not_lt, Nat.not_le] at b108
                    refine hP 12 _ rfl _ _ _ _ _ _ ?_
                    simp only [bX10_makeBasis_12, hrun, hx, hnth, hput, hok, hcat2, hldI, hldL, hldR, hpI, hpL, hpA, hpR, hp1, hpV, hrtI, hrtL, hrtR, hrtV, hpN, hck, hrI, hrB, hrL, hrA, hwI, hwA, hwB, hrN, mf_0, mf_1, mf_2, mf_3, mf_4, mf_5, mf_6, mf_7, mf_8, mf_9, mf_10, mf_11, mf_12, mf_13, mf_14, mf_15, mf_16, mf_17, mf_18, mf_19, mf_20, mf_21, mf_22, mf_23, mf_24, mf_25, mf_26, mf_27, mf_28, mf_29, ms_11, ms_16, ms_17, ms_20, ms_21, ms_23, ms_24, hwF, hcl, hfty, tyX1, tyX3, tyX6, tyX9, tyX10, tyJ0, tyJ4, hfit, hcmp, hnar, hres, hst, hacp, kz, kof, kn0, kn1, Bool.not_true, Bool.not_false, true_and, and_true, Nat.zero_add, Nat.reduceAdd, List.length_cons, List.length_nil, true_or, or_true, false_or, or_false, decide_true, decide_false, ne_eq, not_true_eq_false, not_false_eq_true, ki_0, ki_1, ki_2, ki_3, ki_4, ki_5, kb_m100, kb_m10, kb_m9, kb_m8, kb_m7, kb_m6, kb_m5, kb_m4, kb_m3, kb_m2, kb_6, kb_7, kb_8, kb_9, kb_10, kb_12, kb_13, kb_16, kb_27, kb_31, kb_32, kb_43, kb_45, kb_48, kb_57, kb_60, kb_63, kb_81, kb_97, kb_99, kb_100, kb_120, kb_126, ks_m1000, ks_243, ks_255, ks_729, ks_1000, ks_2000, ks_2187, ks_6561, ks_9840, ks_9841, kl_0, kl_1]
                    exact g1
                  · (try simp (disch := omega) only [nI_ltI, nI_leI, nI_eq, Nat.not_lt, Nat.not_le] at b108) <;> (exfalso; omega)
                · (try simp (disch := omega) only [nI_ltI, nI_leI, nI_eq, Nat.not_lt, Nat.not_le] at b79) <;> (exfalso; omega)
  -- the old list
  have clr : ∀ (n k : Nat) (w1 : hWd) (T : Nat → Int64), ls - k = n → k ≤ ls → w1 74 = .inl (1, 9841, .inr (.inl T)) → (∀ c, c < 9841 → T c ≠ 0 → ∃ k', k ≤ k' ∧ k' < ls ∧ L0 k' = nI c) → mfr [74] w w1 → P N 0 0 w1 2 [some (.ref 47), some (.ref y), some (.int (nI u.length)), some (.int (nI k)), none, none, none, none, none, none, none, none] [] := by
    intro n
    induction n with
    | zero =>
      intro k w1 T hn hk m74 hT hm
      obtain rfl : k = ls := by omega
      have z0 : w1 47 = _ := (hm 47 (by decide)).trans k0
      have z72 : w1 72 = _ := (hm 72 (by decide)).trans k72
      have hz9 : ∀ c, c < 9841 → T c = 0 := fun c hc => Decidable.byContradiction (fun z => by
        obtain ⟨k', h1, h2, _⟩ := hT c hc z
        omega)
      have c_0 : (nI 0).toNatClampNeg = 0 := by decide +kernel
      refine hP 1 _ rfl _ _ _ _ _ _ ?_
      simp only [bX10_makeBasis_1, hrun, hx, hnth, hput, hok, hcat2, hldI, hldL, hldR, hpI, hpL, hpA, hpR, hp1, hpV, hrtI, hrtL, hrtR, hrtV, hpN, hck, hrI, hrB, hrL, hrA, hwI, hwA, hwB, hrN, mf_0, mf_1, mf_2, mf_3, mf_4, mf_5, mf_6, mf_7, mf_8, mf_9, mf_10, mf_11, mf_12, mf_13, mf_14, mf_15, mf_16, mf_17, mf_18, mf_19, mf_20, mf_21, mf_22, mf_23, mf_24, mf_25, mf_26, mf_27, mf_28, mf_29, ms_11, ms_16, ms_17, ms_20, ms_21, ms_23, ms_24, hwF, hcl, hfty, tyX1, tyX3, tyX6, tyX9, tyX10, tyJ0, tyJ4, hfit, hcmp, hnar, hres, hst, hacp, kz, kof, kn0, kn1, Bool.not_true, Bool.not_false, true_and, and_true, Nat.zero_add, Nat.reduceAdd, List.length_cons, List.length_nil, true_or, or_true, false_or, or_false, decide_true, decide_false, ne_eq, not_true_eq_false, not_false_eq_true, ki_0, ki_1, ki_2, ki_3, ki_4, ki_5, kb_m100, kb_m10, kb_m9, kb_m8, kb_m7, kb_m6, kb_m5, kb_m4, kb_m3, kb_m2, kb_6, kb_7, kb_8, kb_9, kb_10, kb_12, kb_13, kb_16, kb_27, kb_31, kb_32, kb_43, kb_45, kb_48, kb_57, kb_60, kb_63, kb_81, kb_97, kb_99, kb_100, kb_120, kb_126, ks_m1000, ks_243, ks_255, ks_729, ks_1000, ks_2000, ks_2187, ks_6561, ks_9840, ks_9841, kl_0, kl_1, z0, z72, m74, c_0, ms_16, Nat.reduceLT, va_up_self, va_up_ne _ _ (show (47 : Nat) ≠ 72 by decide), va_up_ne _ _ (show (74 : Nat) ≠ 72 by decide), va_up_ne _ _ (show (47 : Nat) ≠ 74 by decide)]
      refine ⟨fun b7 => ?_, fun b7 => ?_⟩
      · try simp (disch := omega) only [nI_ltI, nI_leI, nI_eq, Nat.not_lt, Nat.not_le] at b7
        refine hP 3 _ rfl _ _ _ _ _ _ ?_
        simp only [bX10_makeBasis_3, hrun, hx, hnth, hput, hok, hcat2, hldI, hldL, hldR, hpI, hpL, hpA, hpR, hp1, hpV, hrtI, hrtL, hrtR, hrtV, hpN, hck, hrI, hrB, hrL, hrA, hwI, hwA, hwB, hrN, mf_0, mf_1, mf_2, mf_3, mf_4, mf_5, mf_6, mf_7, mf_8, mf_9, mf_10, mf_11, mf_12, mf_13, mf_14, mf_15, mf_16, mf_17, mf_18, mf_19, mf_20, mf_21, mf_22, mf_23, mf_24, mf_25, mf_26, mf_27, mf_28, mf_29, ms_11, ms_16, ms_17, ms_20, ms_21, ms_23, ms_24, hwF, hcl, hfty, tyX1, tyX3, tyX6, tyX9, tyX10, tyJ0, tyJ4, hfit, hcmp, hnar, hres, hst, hacp, kz, kof, kn0, kn1, Bool.not_true, Bool.not_false, true_and, and_true, Nat.zero_add, Nat.reduceAdd, List.length_cons, List.length_nil, true_or, or_true, false_or, or_false, decide_true, decide_false, ne_eq, not_true_eq_false, not_false_eq_true, ki_0, ki_1, ki_2, ki_3, ki_4, ki_5, kb_m100, kb_m10, kb_m9, kb_m8, kb_m7, kb_m6, kb_m5, kb_m4, kb_m3, kb_m2, kb_6, kb_7, kb_8, kb_9, kb_10, kb_12, kb_13, kb_16, kb_27, kb_31, kb_32, kb_43, kb_45, kb_48, kb_57, kb_60, kb_63, kb_81, kb_97, kb_99, kb_100, kb_120, kb_126, ks_m1000, ks_243, ks_255, ks_729, ks_1000, ks_2000, ks_2187, ks_6561, ks_9840, ks_9841, kl_0, kl_1, z0, z72, m74, c_0, ms_16, Nat.reduceLT, va_up_self, va_up_ne _ _ (show (47 : Nat) ≠ 72 by decide), va_up_ne _ _ (show (74 : Nat) ≠ 72 by decide), va_up_ne _ _ (show (47 : Nat) ≠ 74 by decide)]
        refine ⟨vp_in_nI (by omega) (by omega), ?_⟩
        refine ⟨vp_in_nI (by omega) (by omega), ?_⟩
        have g9 := fun w9 h1 h2 h3 => outer _ 0 w9 ([0], fun c => if c = 0 then 1 else 0) ns 1 0 0 none none none none rfl (Nat.zero_le _) (by rw [mfb_0, List.take_zero]; exact bIv_0) h1 h2 h3 (Nat.le_refl _) (fun _ => ⟨rfl, rfl⟩) (fun j hj => by omega) (by decide)
        simp only [mfb_0] at g9
        refine g9 _ ⟨va_up_self .., ⟨_, (va_up_ne _ _ (by decide)).trans ((va_up_ne _ _ (by decide)).trans (va_up_self ..)), fun j hj => by
          have hj0 : j = 0 := by simpa using hj
          subst hj0
          unfold upd; rw [if_pos rfl]; rfl⟩, ⟨L20, (va_up_ne _ _ (by decide)).trans ((va_up_ne _ _ (by decide)).trans ((va_up_ne _ _ (by decide)).trans ((hm 73 (by decide)).trans k73)))⟩, ⟨_, (va_up_ne _ _ (by decide)).trans (va_up_self ..), fun c hc => by
          unfold vp_updL
          show (if c = 0 then lN 1 else T c) = lN (if c = 0 then 1 else 0)
          by_cases q : c = 0
          · rw [if_pos q, if_pos q]
          · rw [if_neg q, if_neg q, hz9 c hc]; rfl⟩, T20, (va_up_ne _ _ (by decide)).trans ((va_up_ne _ _ (by decide)).trans ((va_up_ne _ _ (by decide)).trans ((hm 75 (by decide)).trans k75))), hl3⟩ (by obtain ⟨r, z⟩ := h67; exact ⟨r, (((z.keep (hm 67 (by decide))).keep (va_up_ne _ _ (by decide))).keep (va_up_ne _ _ (by decide))).keep (va_up_ne _ _ (by decide))⟩) ((((hm.mono (by simp)).tr (mfr.up (by simp))).tr (mfr.up (by simp))).tr (mfr.up (by simp)))
      · (try simp (disch := omega) only [nI_ltI, nI_leI, nI_eq, Nat.not_lt, Nat.not_le] at b7) <;> (exfalso; omega)
    | succ n ih =>
      intro k w1 T hn hk m74 hT hm
      have z0 : w1 47 = _ := (hm 47 (by decide)).trans k0
      have z72 : w1 72 = _ := (hm 72 (by decide)).trans k72
      obtain ⟨c, hc9, hlk⟩ := hl1 k (by omega)
      have e_k := nI_clamp (n := k) (by omega)
      have e_c := nI_clamp (n := c) (by omega)
      refine hP 1 _ rfl _ _ _ _ _ _ ?_
      simp only [bX10_makeBasis_1, hrun, hx, hnth, hput, hok, hcat2, hldI, hldL, hldR, hpI, hpL, hpA, hpR, hp1, hpV, hrtI, hrtL, hrtR, hrtV, hpN, hck, hrI, hrB, hrL, hrA, hwI, hwA, hwB, hrN, mf_0, mf_1, mf_2, mf_3, mf_4, mf_5, mf_6, mf_7, mf_8, mf_9, mf_10, mf_11, mf_12, mf_13, mf_14, mf_15, mf_16, mf_17, mf_18, mf_19, mf_20, mf_21, mf_22, mf_23, mf_24, mf_25, mf_26, mf_27, mf_28, mf_29, ms_11, ms_16, ms_17, ms_20, ms_21, ms_23, ms_24, hwF, hcl, hfty, tyX1, tyX3, tyX6, tyX9, tyX10, tyJ0, tyJ4, hfit, hcmp, hnar, hres, hst, hacp, kz, kof, kn0, kn1, Bool.not_true, Bool.not_false, true_and, and_true, Nat.zero_add, Nat.reduceAdd, List.length_cons, List.length_nil, true_or, or_true, false_or, or_false, decide_true, decide_false, ne_eq, not_true_eq_false, not_false_eq_true, ki_0, ki_1, ki_2, ki_3, ki_4, ki_5, kb_m100, kb_m10, kb_m9, kb_m8, kb_m7, kb_m6, kb_m5, kb_m4, kb_m3, kb_m2, kb_6, kb_7, kb_8, kb_9, kb_10, kb_12, kb_13, kb_16, kb_27, kb_31, kb_32, kb_43, kb_45, kb_48, kb_57, kb_60, kb_63, kb_81, kb_97, kb_99, kb_100, kb_120, kb_126, ks_m1000, ks_243, ks_255, ks_729, ks_1000, ks_2000, ks_2187, ks_6561, ks_9840, ks_9841, kl_0, kl_1, z0, z72, m74, e_k, hlk, e_c]
      refine ⟨fun b7 => ?_, fun b7 => ?_⟩
      · (try simp (disch := omega) only [nI_ltI, nI_leI, nI_eq, Nat.not_lt, Nat.not_le] at b7) <;> (exfalso; omega)
      · try simp (disch := omega) only [nI_ltI, nI_leI, nI_eq, Nat.not_lt, Nat.not_le] at b7
        refine hP 2 _ rfl _ _ _ _ _ _ ?_
        simp only [bX10_makeBasis_2, hrun, hx, hnth, hput, hok, hcat2, hldI, hldL, hldR, hpI, hpL, hpA, hpR, hp1, hpV, hrtI, hrtL, hrtR, hrtV, hpN, hck, hrI, hrB, hrL, hrA, hwI, hwA, hwB, hrN, mf_0, mf_1, mf_2, mf_3, mf_4, mf_5, mf_6, mf_7, mf_8, mf_9, mf_10, mf_11, mf_12, mf_13, mf_14, mf_15, mf_16, mf_17, mf_18, mf_19, mf_20, mf_21, mf_22, mf_23, mf_24, mf_25, mf_26, mf_27, mf_28, mf_29, ms_11, ms_16, ms_17, ms_20, ms_21, ms_23, ms_24, hwF, hcl, hfty, tyX1, tyX3, tyX6, tyX9, tyX10, tyJ0, tyJ4, hfit, hcmp, hnar, hres, hst, hacp, kz, kof, kn0, kn1, Bool.not_true, Bool.not_false, true_and, and_true, Nat.zero_add, Nat.reduceAdd, List.length_cons, List.length_nil, true_or, or_true, false_or, or_false, decide_true, decide_false, ne_eq, not_true_eq_false, not_false_eq_true, ki_0, ki_1, ki_2, ki_3, ki_4, ki_5, kb_m100, kb_m10, kb_m9, kb_m8, kb_m7, kb_m6, kb_m5, kb_m4, kb_m3, kb_m2, kb_6, kb_7, kb_8, kb_9, kb_10, kb_12, kb_13, kb_16, kb_27, kb_31, kb_32, kb_43, kb_45, kb_48, kb_57, kb_60, kb_63, kb_81, kb_97, kb_99, kb_100, kb_120, kb_126, ks_m1000, ks_243, ks_255, ks_729, ks_1000, ks_2000, ks_2187, ks_6561, ks_9840, ks_9841, kl_0, kl_1, z0, z72, m74, e_k, hlk, e_c]
        refine ⟨vp_in_nI (by omega) (by omega), ?_⟩
        refine ⟨vp_in_nI (by omega) (by omega), ?_⟩
        rw [nI_add]
        refine ih (k + 1) _ _ (by omega) (by omega) (va_up_self ..) (fun c' hc' hne => ?_) (hm.tr (mfr.up (by simp)))
        unfold vp_updL at hne
        by_cases q : c' = c
        · rw [if_pos q] at hne; exact absurd rfl hne
        · rw [if_neg q] at hne
          obtain ⟨k', h1, h2, h3⟩ := hT c' hc' hne
          refine ⟨k', ?_, h2, h3⟩
          by_cases q2 : k' = k
          · rw [q2, hlk, nI_eq (by omega) (by omega)] at h3; exact absurd h3.symm q
          · omega
  refine hP 0 _ rfl _ _ _ _ _ _ ?_
  simp only [bX10_makeBasis_0, hrun, hx, hnth, hput, hok, hcat2, hldI, hldL, hldR, hpI, hpL, hpA, hpR, hp1, hpV, hrtI, hrtL, hrtR, hrtV, hpN, hck, hrI, hrB, hrL, hrA, hwI, hwA, hwB, hrN, mf_0, mf_1, mf_2, mf_3, mf_4, mf_5, mf_6, mf_7, mf_8, mf_9, mf_10, mf_11, mf_12, mf_13, mf_14, mf_15, mf_16, mf_17, mf_18, mf_19, mf_20, mf_21, mf_22, mf_23, mf_24, mf_25, mf_26, mf_27, mf_28, mf_29, ms_11, ms_16, ms_17, ms_20, ms_21, ms_23, ms_24, hwF, hcl, hfty, tyX1, tyX3, tyX6, tyX9, tyX10, tyJ0, tyJ4, hfit, hcmp, hnar, hres, hst, hacp, kz, kof, kn0, kn1, Bool.not_true, Bool.not_false, true_and, and_true, Nat.zero_add, Nat.reduceAdd, List.length_cons, List.length_nil, true_or, or_true, false_or, or_false, decide_true, decide_false, ne_eq, not_true_eq_false, not_false_eq_true, ki_0, ki_1, ki_2, ki_3, ki_4, ki_5, kb_m100, kb_m10, kb_m9, kb_m8, kb_m7, kb_m6, kb_m5, kb_m4, kb_m3, kb_m2, kb_6, kb_7, kb_8, kb_9, kb_10, kb_12, kb_13, kb_16, kb_27, kb_31, kb_32, kb_43, kb_45, kb_48, kb_57, kb_60, kb_63, kb_81, kb_97, kb_99, kb_100, kb_120, kb_126, ks_m1000, ks_243, ks_255, ks_729, ks_1000, ks_2000, ks_2187, ks_6561, ks_9840, ks_9841, kl_0, kl_1]
  exact clr _ 0 w T0 rfl (Nat.zero_le _) k74 (fun c hc hne => by obtain ⟨k, h1, h2⟩ := hl2 c hc hne; exact ⟨k, Nat.zero_le _, h1, h2⟩) mfr.rf
end M35
