/-! the reference writes characters -/
section M26
variable {g : hG} {d N c s : Nat} {w : hWd} {Q : hRt}
/-- the digits of a number from a place downwards -/
def dfr (n : Nat) : Nat → List Nat
  | 0 => [48 + n % 10]
  | j + 1 => (48 + n / 10 ^ (j + 1) % 10) :: dfr n j
def ndg (n : Nat) : Nat := if n < 10 then 0 else if n < 100 then 1 else if n < 1000 then 2 else if n < 10000 then 3 else if n < 100000 then 4 else if n < 1000000 then 5 else 6
/-- a number as characters -/
def mdg (n : Nat) : List Nat := dfr n (ndg n)
/-- a term as characters -/
def mtm (first : Bool) (q : Nat × Int) : List Nat := ((if q.2 < 0 then [45] else if first then [] else [43]) ++ (if q.2.natAbs ≠ 1 ∨ q.1 = 0 then mdg q.2.natAbs else [])) ++ (mdec q.1).map (fun x => 97 + x)
def mtk9 (L : List (Nat × Int)) : Nat → List Nat
  | 0 => []
  | m + 1 => mtk9 L m ++ mtm (decide (m = 0)) (L.getD m (0, 0))
/-- a polynomial as characters -/
def mtxt (L : List (Nat × Int)) : List Nat := if L.length = 0 then [48] else mtk9 L L.length
def sp_write (S : cS) (x : Int32) : cA := match ixn 5 x with
  | none => (Int32.ofInt (-1), S)
  | some i => (nI (mtxt (S.rg i)).length, sOut S (mtxt (S.rg i)))
theorem dfr_len (n : Nat) : ∀ j, (dfr n j).length = j + 1
  | 0 => rfl
  | j + 1 => by rw [dfr, List.length_cons, dfr_len n j]
theorem ndg_6 (n : Nat) : ndg n ≤ 6 := by unfold ndg; (repeat' split) <;> omega
theorem mdg_len (n : Nat) : (mdg n).length ≤ 7 := by unfold mdg; rw [dfr_len]; have := ndg_6 n; omega
theorem mtm_len {f : Bool} {q : Nat × Int} (hq : q.1 < 9841) : (mtm f q).length ≤ 16 := by
  have h8 := (mdec_W hq).1.1
  have h7 := mdg_len q.2.natAbs
  unfold mtm
  rw [List.length_append, List.length_append, List.length_map]
  have h1 : (if q.2 < 0 then [45] else if f then ([] : List Nat) else [43]).length ≤ 1 := by split <;> (try split) <;> simp
  have h2 : (if q.2.natAbs ≠ 1 ∨ q.1 = 0 then mdg q.2.natAbs else []).length ≤ 7 := by
    split
    · exact h7
    · exact Nat.zero_le _
  omega
theorem mtk9_len {L : List (Nat × Int)} (hL : mP L) : ∀ m, m ≤ L.length → (mtk9 L m).length ≤ 16 * m
  | 0, _ => Nat.le_refl _
  | m + 1, h => by
    have hq : L[m]? = some L[m] := List.getElem?_eq_getElem (by omega)
    have hg9 : L.getD m (0, 0) = L[m] := by rw [List.getD_eq_getElem?_getD, hq]; rfl
    have := mtk9_len hL m (by omega)
    have h2 := mtm_len (f := decide (m = 0)) (q := L.getD m (0, 0)) (by rw [hg9]; exact (hL.at hq).2.2.1)
    rw [mtk9, List.length_append]; omega
theorem fin_0 : ((0 : Fin 4) : Nat) = 0 := rfl
theorem fin_1 : ((1 : Fin 4) : Nat) = 1 := rfl
theorem fin_2 : ((2 : Fin 4) : Nat) = 2 := rfl
theorem fin_3 : ((3 : Fin 4) : Nat) = 3 := rfl
/-- the output row while it is written -/
def hOt (w : hWd) (ml ls ns il at9 sv : Int32) (o : List Nat) : Prop := w 47 = .inr (6, mFl ml ls ns il at9 (nI o.length) sv) ∧ ∃ O, w 78 = .inl (0, 2000, .inl O) ∧ ∀ j, j < o.length → O j = nI (o.getD j 0) ∧ o.getD j 0 < 128
theorem l10 : Int64.ofInt 10 = lN 10 := by decide +kernel
set_option maxRecDepth 100000 in
set_option maxHeartbeats 4000000 in
theorem c_wch (hg : hgo g) (hd : 1 ≤ d) {ml ls ns il at9 sv : Int32} {o : List Nat} (ho : hOt w ml ls ns il at9 sv o) (hlo : o.length < 2000) {ch : Nat} (hch : ch < 128) {b : Bool}  (h : ∀ w', hOt w' ml ls ns il at9 sv (if b then o ++ [ch] else o) → mfr [47, 78] w w' → Q none N c s w') : Γ g d yX10_write [.ref 47, .int (nI ch), .int (mbI b)] N c s w Q := by
  refine Γ.intro0 hg kX10_write (by omega) (Nat.le_of_ble_eq_true rfl) (fun P hP => ?_)
  show P N 0 0 w 0 [some (.ref 47), some (.int (nI ch)), some (.int (mbI b))] []
  obtain ⟨k0, O, kO, hO⟩ := id ho
  have e_o := nI_clamp (n := o.length) (by omega)
  have key : ∀ (w' : hWd) (O' : Nat → Int32), w' 78 = .inl (0, 2000, .inl O') → (∀ j, j < o.length → O' j = O j) → w' 47 = .inr (6, mFl ml ls ns il at9 (nI o.length) sv) → hOt w' ml ls ns il at9 sv o := fun w' O' h1 h2 h3 => ⟨h3, O', h1, fun j hj => ⟨by rw [h2 j hj]; exact (hO j hj).1, (hO j hj).2⟩⟩
  cases b with
  | true =>
    rw [mbIt]
    refine hP 0 _ rfl _ _ _ _ _ _ ?_
    simp only [bX10_write_0, hrun, hx, hnth, hput, hok, hcat2, hldI, hldL, hldR, hpI, hpL, hpA, hpR, hp1, hpV, hrtI, hrtL, hrtR, hrtV, hpN, hck, hrI, hrB, hrL, hrA, hwI, hwA, hwB, hrN, mf_0, mf_1, mf_2, mf_3, mf_4, mf_5, mf_6, mf_7, mf_8, mf_9, mf_10, mf_11, mf_12, mf_13, mf_14, mf_15, mf_16, mf_17, mf_18, mf_19, mf_20, mf_21, mf_22, mf_23, mf_24, mf_25, mf_26, mf_27, mf_28, mf_29, ms_11, ms_16, ms_17, ms_20, ms_21, ms_23, ms_24, hwF, hcl, hfty, tyX1, tyX3, tyX6, tyX9, tyX10, tyJ0, tyJ4, hfit, hcmp, hnar, hres, hst, hacp, kz, kof, kn0, kn1, Bool.not_true, Bool.not_false, true_and, and_true, Nat.zero_add, Nat.reduceAdd, List.length_cons, List.length_nil, true_or, or_true, false_or, or_false, decide_true, decide_false, ne_eq, not_true_eq_false, not_false_eq_true, ki_0, ki_1, ki_2, ki_3, ki_4, ki_5, kb_m100, kb_m10, kb_m9, kb_m8, kb_m7, kb_m6, kb_m5, kb_m4, kb_m3, kb_m2, kb_6, kb_7, kb_8, kb_9, kb_10, kb_12, kb_13, kb_16, kb_27, kb_31, kb_32, kb_43, kb_45, kb_48, kb_57, kb_60, kb_63, kb_81, kb_97, kb_99, kb_100, kb_120, kb_126, ks_m1000, ks_243, ks_255, ks_729, ks_1000, ks_2000, ks_2187, ks_6561, ks_9840, ks_9841, kl_0, kl_1, k0, kO, e_o, ms_23, nI_add, va_up_ne _ _ (show (47 : Nat) ≠ 78 by decide)]
    refine ⟨vp_in_nI (by omega) (by omega), ?_⟩
    refine ⟨fun b16 => ?_, fun b16 => ?_⟩
    · (try simp (disch := omega) only [nI_ltI, nI_leI, nI_eq, Nat.not_lt, Nat.not_le] at b16) <;> (exfalso; omega)
    · try simp (disch := omega) only [nI_ltI, nI_leI, nI_eq, Nat.not_lt, Nat.not_le] at b16
      refine hP 1 _ rfl _ _ _ _ _ _ ?_
      simp only [bX10_write_1, hrun, hx, hnth, hput, hok, hcat2, hldI, hldL, hldR, hpI, hpL, hpA, hpR, hp1, hpV, hrtI, hrtL, hrtR, hrtV, hpN, hck, hrI, hrB, hrL, hrA, hwI, hwA, hwB, hrN, mf_0, mf_1, mf_2, mf_3, mf_4, mf_5, mf_6, mf_7, mf_8, mf_9, mf_10, mf_11, mf_12, mf_13, mf_14, mf_15, mf_16, mf_17, mf_18, mf_19, mf_20, mf_21, mf_22, mf_23, mf_24, mf_25, mf_26, mf_27, mf_28, mf_29, ms_11, ms_16, ms_17, ms_20, ms_21, ms_23, ms_24, hwF, hcl, hfty, tyX1, tyX3, tyX6, tyX9, tyX10, tyJ0, tyJ4, hfit, hcmp, hnar, hres, hst, hacp, kz, kof, kn0, kn1, Bool.not_true, Bool.not_false, true_and, and_true, Nat.zero_add, Nat.reduceAdd, List.length_cons, List.length_nil, true_or, or_true, false_or, or_false, decide_true, decide_false, ne_eq, not_true_eq_false, not_false_eq_true, ki_0, ki_1, ki_2, ki_3, ki_4, ki_5, kb_m100, kb_m10, kb_m9, kb_m8, kb_m7, kb_m6, kb_m5, kb_m4, kb_m3, kb_m2, kb_6, kb_7, kb_8, kb_9, kb_10, kb_12, kb_13, kb_16, kb_27, kb_31, kb_32, kb_43, kb_45, kb_48, kb_57, kb_60, kb_63, kb_81, kb_97, kb_99, kb_100, kb_120, kb_126, ks_m1000, ks_243, ks_255, ks_729, ks_1000, ks_2000, ks_2187, ks_6561, ks_9840, ks_9841, kl_0, kl_1, k0, kO, e_o, ms_23, nI_add, va_up_ne _ _ (show (47 : Nat) ≠ 78 by decide)]
      refine hP 3 _ rfl _ _ _ _ _ _ ?_
      simp only [bX10_write_3, hrun, hx, hnth, hput, hok, hcat2, hldI, hldL, hldR, hpI, hpL, hpA, hpR, hp1, hpV, hrtI, hrtL, hrtR, hrtV, hpN, hck, hrI, hrB, hrL, hrA, hwI, hwA, hwB, hrN, mf_0, mf_1, mf_2, mf_3, mf_4, mf_5, mf_6, mf_7, mf_8, mf_9, mf_10, mf_11, mf_12, mf_13, mf_14, mf_15, mf_16, mf_17, mf_18, mf_19, mf_20, mf_21, mf_22, mf_23, mf_24, mf_25, mf_26, mf_27, mf_28, mf_29, ms_11, ms_16, ms_17, ms_20, ms_21, ms_23, ms_24, hwF, hcl, hfty, tyX1, tyX3, tyX6, tyX9, tyX10, tyJ0, tyJ4, hfit, hcmp, hnar, hres, hst, hacp, kz, kof, kn0, kn1, Bool.not_true, Bool.not_false, true_and, and_true, Nat.zero_add, Nat.reduceAdd, List.length_cons, List.length_nil, true_or, or_true, false_or, or_false, decide_true, decide_false, ne_eq, not_true_eq_false, not_false_eq_true, ki_0, ki_1, ki_2, ki_3, ki_4, ki_5, kb_m100, kb_m10, kb_m9, kb_m8, kb_m7, kb_m6, kb_m5, kb_m4, kb_m3, kb_m2, kb_6, kb_7, kb_8, kb_9, kb_10, kb_12, kb_13, kb_16, kb_27, kb_31, kb_32, kb_43, kb_45, kb_48, kb_57, kb_60, kb_63, kb_81, kb_97, kb_99, kb_100, kb_120, kb_126, ks_m1000, ks_243, ks_255, ks_729, ks_1000, ks_2000, ks_2187, ks_6561, ks_9840, ks_9841, kl_0, kl_1, k0, kO, e_o, ms_23, nI_add, va_up_ne _ _ (show (47 : Nat) ≠ 78 by decide)]
      refine h _ ⟨by rw [if_pos rfl, List.length_append]; exact va_up_self .., _, by rw [va_up_ne _ _ (by decide)]; exact va_up_self .., fun j hj => ?_⟩ ((mfr.up (by simp)).tr (mfr.up (by simp)))
      rw [if_pos rfl] at hj ⊢
      unfold upd
      rw [List.getD_eq_getElem?_getD]
      by_cases q : j = o.length
      · rw [if_pos q, q, List.getElem?_append_right (Nat.le_refl _), Nat.sub_self]; exact ⟨rfl, hch⟩
      · have hj2 : j < o.length := by simp at hj; omega
        rw [if_neg q, List.getElem?_append_left hj2, ← List.getD_eq_getElem?_getD]; exact hO j hj2
  | false =>
    rw [mbIf]
    refine hP 0 _ rfl _ _ _ _ _ _ ?_
    simp only [bX10_write_0, hrun, hx, hnth, hput, hok, hcat2, hldI, hldL, hldR, hpI, hpL, hpA, hpR, hp1, hpV, hrtI, hrtL, hrtR, hrtV, hpN, hck, hrI, hrB, hrL, hrA, hwI, hwA, hwB, hrN, mf_0, mf_1, mf_2, mf_3, mf_4, mf_5, mf_6, mf_7, mf_8, mf_9, mf_10, mf_11, mf_12, mf_13, mf_14, mf_15, mf_16, mf_17, mf_18, mf_19, mf_20, mf_21, mf_22, mf_23, mf_24, mf_25, mf_26, mf_27, mf_28, mf_29, ms_11, ms_16, ms_17, ms_20, ms_21, ms_23, ms_24, hwF, hcl, hfty, tyX1, tyX3, tyX6, tyX9, tyX10, tyJ0, tyJ4, hfit, hcmp, hnar, hres, hst, hacp, kz, kof, kn0, kn1, Bool.not_true, Bool.not_false, true_and, and_true, Nat.zero_add, Nat.reduceAdd, List.length_cons, List.length_nil, true_or, or_true, false_or, or_false, decide_true, decide_false, ne_eq, not_true_eq_false, not_false_eq_true, ki_0, ki_1, ki_2, ki_3, ki_4, ki_5, kb_m100, kb_m10, kb_m9, kb_m8, kb_m7, kb_m6, kb_m5, kb_m4, kb_m3, kb_m2, kb_6, kb_7, kb_8, kb_9, kb_10, kb_12, kb_13, kb_16, kb_27, kb_31, kb_32, kb_43, kb_45, kb_48, kb_57, kb_60, kb_63, kb_81, kb_97, kb_99, kb_100, kb_120, kb_126, ks_m1000, ks_243, ks_255, ks_729, ks_1000, ks_2000, ks_2187, ks_6561, ks_9840, ks_9841, kl_0, kl_1, k0, kO, e_o, ms_23, nI_add, Nat.add_zero, va_up_ne _ _ (show (47 : Nat) ≠ 78 by decide)]
    refine ⟨vp_in_nI (by omega) (by omega), ?_⟩
    refine ⟨fun b16 => ?_, fun b16 => ?_⟩
    · try simp (disch := omega) only [nI_ltI, nI_leI, nI_eq, Nat.not_lt, Nat.not_le] at b16
      refine hP 2 _ rfl _ _ _ _ _ _ ?_
      simp only [bX10_write_2, hrun, hx, hnth, hput, hok, hcat2, hldI, hldL, hldR, hpI, hpL, hpA, hpR, hp1, hpV, hrtI, hrtL, hrtR, hrtV, hpN, hck, hrI, hrB, hrL, hrA, hwI, hwA, hwB, hrN, mf_0, mf_1, mf_2, mf_3, mf_4, mf_5, mf_6, mf_7, mf_8, mf_9, mf_10, mf_11, mf_12, mf_13, mf_14, mf_15, mf_16, mf_17, mf_18, mf_19, mf_20, mf_21, mf_22, mf_23, mf_24, mf_25, mf_26, mf_27, mf_28, mf_29, ms_11, ms_16, ms_17, ms_20, ms_21, ms_23, ms_24, hwF, hcl, hfty, tyX1, tyX3, tyX6, tyX9, tyX10, tyJ0, tyJ4, hfit, hcmp, hnar, hres, hst, hacp, kz, kof, kn0, kn1, Bool.not_true, Bool.not_false, true_and, and_true, Nat.zero_add, Nat.reduceAdd, List.length_cons, List.length_nil, true_or, or_true, false_or, or_false, decide_true, decide_false, ne_eq, not_true_eq_false, not_false_eq_true, ki_0, ki_1, ki_2, ki_3, ki_4, ki_5, kb_m100, kb_m10, kb_m9, kb_m8, kb_m7, kb_m6, kb_m5, kb_m4, kb_m3, kb_m2, kb_6, kb_7, kb_8, kb_9, kb_10, kb_12, kb_13, kb_16, kb_27, kb_31, kb_32, kb_43, kb_45, kb_48, kb_57, kb_60, kb_63, kb_81, kb_97, kb_99, kb_100, kb_120, kb_126, ks_m1000, ks_243, ks_255, ks_729, ks_1000, ks_2000, ks_2187, ks_6561, ks_9840, ks_9841, kl_0, kl_1, k0, kO, e_o, ms_23, nI_add, Nat.add_zero, va_up_ne _ _ (show (47 : Nat) ≠ 78 by decide)]
      refine hP 3 _ rfl _ _ _ _ _ _ ?_
      simp only [bX10_write_3, hrun, hx, hnth, hput, hok, hcat2, hldI, hldL, hldR, hpI, hpL, hpA, hpR, hp1, hpV, hrtI, hrtL, hrtR, hrtV, hpN, hck, hrI, hrB, hrL, hrA, hwI, hwA, hwB, hrN, mf_0, mf_1, mf_2, mf_3, mf_4, mf_5, mf_6, mf_7, mf_8, mf_9, mf_10, mf_11, mf_12, mf_13, mf_14, mf_15, mf_16, mf_17, mf_18, mf_19, mf_20, mf_21, mf_22, mf_23, mf_24, mf_25, mf_26, mf_27, mf_28, mf_29, ms_11, ms_16, ms_17, ms_20, ms_21, ms_23, ms_24, hwF, hcl, hfty, tyX1, tyX3, tyX6, tyX9, tyX10, tyJ0, tyJ4, hfit, hcmp, hnar, hres, hst, hacp, kz, kof, kn0, kn1, Bool.not_true, Bool.not_false, true_and, and_true, Nat.zero_add, Nat.reduceAdd, List.length_cons, List.length_nil, true_or, or_true, false_or, or_false, decide_true, decide_false, ne_eq, not_true_eq_false, not_false_eq_true, ki_0, ki_1, ki_2, ki_3, ki_4, ki_5, kb_m100, kb_m10, kb_m9, kb_m8, kb_m7, kb_m6, kb_m5, kb_m4, kb_m3, kb_m2, kb_6, kb_7, kb_8, kb_9, kb_10, kb_12, kb_13, kb_16, kb_27, kb_31, kb_32, kb_43, kb_45, kb_48, kb_57, kb_60, kb_63, kb_81, kb_97, kb_99, kb_100, kb_120, kb_126, ks_m1000, ks_243, ks_255, ks_729, ks_1000, ks_2000, ks_2187, ks_6561, ks_9840, ks_9841, kl_0, kl_1, k0, kO, e_o, ms_23, nI_add, Nat.add_zero, va_up_ne _ _ (show (47 : Nat) ≠ 78 by decide)]
      refine h _ (key _ _ (by rw [va_up_ne _ _ (by decide)]; exact va_up_self ..) (fun j hj => by unfold upd; rw [if_neg (by omega)]) (va_up_self ..)) ((mfr.up (by simp)).tr (mfr.up (by simp)))
    · (try simp (disch := omega) only [nI_ltI, nI_leI, nI_eq, Nat.not_lt, Nat.not_le] at b16) <;> (exfalso; omega)
theorem hOt.keep {w w' : hWd} {ml ls ns il at9 sv : Int32} {o : List Nat} (h : hOt w ml ls ns il at9 sv o) (h1 : w' 47 = w 47) (h2 : w' 78 = w 78) : hOt w' ml ls ns il at9 sv o := by
  obtain ⟨a, O, b, c⟩ := h
  exact ⟨by rw [h1, a], O, by rw [h2, b], c⟩
theorem ndg_pow {n : Nat} (h1 : 1 ≤ n) (h2 : n ≤ 1000000) {j : Nat} (hj : 10 ^ j ≤ n) (hj2 : n < 10 ^ (j + 1)) (hj6 : j ≤ 6) : ndg n = j := by
  have : j = 0 ∨ j = 1 ∨ j = 2 ∨ j = 3 ∨ j = 4 ∨ j = 5 ∨ j = 6 := by omega
  unfold ndg
  rcases this with rfl | rfl | rfl | rfl | rfl | rfl | rfl <;> simp at hj hj2 <;> (repeat (first | rw [if_pos (by omega)] | rw [if_neg (by omega)]))
set_option maxRecDepth 100000 in
set_option maxHeartbeats 4000000 in
theorem c_wnum (hg : hgo g) (hd : 3 ≤ d) {ml ls ns il at9 sv : Int32} {o : List Nat} (ho : hOt w ml ls ns il at9 sv o) {n : Nat} (hn1 : 1 ≤ n) (hn2 : n ≤ 1000000) (hlo : o.length + 8 ≤ 2000)  (h : ∀ w', hOt w' ml ls ns il at9 sv (o ++ mdg n) → mfr [47, 78] w w' → Q none N c s w') : Γ g d yX10_writeNumber [.ref 47, .long (lN n)] N c s w Q := by
  refine Γ.intro0 hg kX10_writeNumber (by omega) (Nat.le_of_ble_eq_true rfl) (fun P hP => ?_)
  show P N 0 0 w 0 [some (.ref 47), some (.long (lN n)), none, none, none, none, none] []
  have ln : (lN n).toInt = (n : Int) := pk_lT (by omega)
  have loop2 : ∀ (j : Nat) (w1 : hWd) (z : Int64) (o1 : List Nat), j ≤ 6 → hOt w1 ml ls ns il at9 sv o1 → o1.length + j + 2 ≤ 2000 → o ++ mdg n = o1 ++ dfr n j → mfr [47, 78] w w1 → P N 0 0 w1 24 [some (.ref 47), some (.long (lN n)), none, some (.long z), none, some (.long (lN (10 ^ j))), none] [] := by
    have done : ∀ (w1 : hWd) (z : Int64), hOt w1 ml ls ns il at9 sv (o ++ mdg n) → mfr [47, 78] w w1 → P N 0 0 w1 24 [some (.ref 47), some (.long (lN n)), none, some (.long z), none, some (.long (lN 0)), none] [] := by
      intro w1 z h1 hm1
      have l0 : (lN 0).toInt = 0 := by decide +kernel
      refine hP 4 _ rfl _ _ _ _ _ _ ?_
      simp only [bX10_writeNumber_4, hrun, hx, hnth, hput, hok, hcat2, hldI, hldL, hldR, hpI, hpL, hpA, hpR, hp1, hpV, hrtI, hrtL, hrtR, hrtV, hpN, hck, hrI, hrB, hrL, hrA, hwI, hwA, hwB, hrN, mf_0, mf_1, mf_2, mf_3, mf_4, mf_5, mf_6, mf_7, mf_8, mf_9, mf_10, mf_11, mf_12, mf_13, mf_14, mf_15, mf_16, mf_17, mf_18, mf_19, mf_20, mf_21, mf_22, mf_23, mf_24, mf_25, mf_26, mf_27, mf_28, mf_29, ms_11, ms_16, ms_17, ms_20, ms_21, ms_23, ms_24, hwF, hcl, hfty, tyX1, tyX3, tyX6, tyX9, tyX10, tyJ0, tyJ4, hfit, hcmp, hnar, hres, hst, hacp, kz, kof, kn0, kn1, Bool.not_true, Bool.not_false, true_and, and_true, Nat.zero_add, Nat.reduceAdd, List.length_cons, List.length_nil, true_or, or_true, false_or, or_false, decide_true, decide_false, ne_eq, not_true_eq_false, not_false_eq_true, ki_0, ki_1, ki_2, ki_3, ki_4, ki_5, kb_m100, kb_m10, kb_m9, kb_m8, kb_m7, kb_m6, kb_m5, kb_m4, kb_m3, kb_m2, kb_6, kb_7, kb_8, kb_9, kb_10, kb_12, kb_13, kb_16, kb_27, kb_31, kb_32, kb_43, kb_45, kb_48, kb_57, kb_60, kb_63, kb_81, kb_97, kb_99, kb_100, kb_120, kb_126, ks_m1000, ks_243, ks_255, ks_729, ks_1000, ks_2000, ks_2187, ks_6561, ks_9840, ks_9841, kl_0, kl_1]
      refine ⟨fun b28 => ?_, fun b28 => ?_⟩
      · skip
        refine hP 6 _ rfl _ _ _ _ _ _ ?_
        simp only [bX10_writeNumber_6, hrun, hx, hnth, hput, hok, hcat2, hldI, hldL, hldR, hpI, hpL, hpA, hpR, hp1, hpV, hrtI, hrtL, hrtR, hrtV, hpN, hck, hrI, hrB, hrL, hrA, hwI, hwA, hwB, hrN, mf_0, mf_1, mf_2, mf_3, mf_4, mf_5, mf_6, mf_7, mf_8, mf_9, mf_10, mf_11, mf_12, mf_13, mf_14, mf_15, mf_16, mf_17, mf_18, mf_19, mf_20, mf_21, mf_22, mf_23, mf_24, mf_25, mf_26, mf_27, mf_28, mf_29, ms_11, ms_16, ms_17, ms_20, ms_21, ms_23, ms_24, hwF, hcl, hfty, tyX1, tyX3, tyX6, tyX9, tyX10, tyJ0, tyJ4, hfit, hcmp, hnar, hres, hst, hacp, kz, kof, kn0, kn1, Bool.not_true, Bool.not_false, true_and, and_true, Nat.zero_add, Nat.reduceAdd, List.length_cons, List.length_nil, true_or, or_true, false_or, or_false, decide_true, decide_false, ne_eq, not_true_eq_false, not_false_eq_true, ki_0, ki_1, ki_2, ki_3, ki_4, ki_5, kb_m100, kb_m10, kb_m9, kb_m8, kb_m7, kb_m6, kb_m5, kb_m4, kb_m3, kb_m2, kb_6, kb_7, kb_8, kb_9, kb_10, kb_12, kb_13, kb_16, kb_27, kb_31, kb_32, kb_43, kb_45, kb_48, kb_57, kb_60, kb_63, kb_81, kb_97, kb_99, kb_100, kb_120, kb_126, ks_m1000, ks_243, ks_255, ks_729, ks_1000, ks_2000, ks_2187, ks_6561, ks_9840, ks_9841, kl_0, kl_1]
        exact h w1 h1 hm1
      · skip
        exact absurd b28 (by decide +kernel)
    intro j
    induction j with
    | zero =>
      intro w1 z o1 hj ho1 hl1 hE hm1
      obtain ⟨k1, _⟩ := id ho1
      have l1 : (lN (10 ^ 0)).toInt = 1 := by decide +kernel
      have d1 : lN n / lN (10 ^ 0) = lN n := by rw [Nat.pow_zero, pk_lDiv (by omega) (by omega) (by omega), Nat.div_one]
      have d2 : lN n - lN n / lN 10 * lN 10 = lN (n % 10) := pk_lRem (by omega) (by omega) (by omega)
      have d3 : lN (10 ^ 0) / lN 10 = lN 0 := by decide +kernel
      have dz : ¬ lN (10 ^ 0) = 0 := by decide +kernel
      have dz2 : ¬ lN 10 = 0 := by decide +kernel
      have hb9 : ¬ lg_cmp (lN (10 ^ 0)) (lN 0) ≤ nI 0 := by decide +kernel
      rw [dfr] at hE
      refine hP 4 _ rfl _ _ _ _ _ _ ?_
      simp only [bX10_writeNumber_4, hrun, hx, hnth, hput, hok, hcat2, hldI, hldL, hldR, hpI, hpL, hpA, hpR, hp1, hpV, hrtI, hrtL, hrtR, hrtV, hpN, hck, hrI, hrB, hrL, hrA, hwI, hwA, hwB, hrN, mf_0, mf_1, mf_2, mf_3, mf_4, mf_5, mf_6, mf_7, mf_8, mf_9, mf_10, mf_11, mf_12, mf_13, mf_14, mf_15, mf_16, mf_17, mf_18, mf_19, mf_20, mf_21, mf_22, mf_23, mf_24, mf_25, mf_26, mf_27, mf_28, mf_29, ms_11, ms_16, ms_17, ms_20, ms_21, ms_23, ms_24, hwF, hcl, hfty, tyX1, tyX3, tyX6, tyX9, tyX10, tyJ0, tyJ4, hfit, hcmp, hnar, hres, hst, hacp, kz, kof, kn0, kn1, Bool.not_true, Bool.not_false, true_and, and_true, Nat.zero_add, Nat.reduceAdd, List.length_cons, List.length_nil, true_or, or_true, false_or, or_false, decide_true, decide_false, ne_eq, not_true_eq_false, not_false_eq_true, ki_0, ki_1, ki_2, ki_3, ki_4, ki_5, kb_m100, kb_m10, kb_m9, kb_m8, kb_m7, kb_m6, kb_m5, kb_m4, kb_m3, kb_m2, kb_6, kb_7, kb_8, kb_9, kb_10, kb_12, kb_13, kb_16, kb_27, kb_31, kb_32, kb_43, kb_45, kb_48, kb_57, kb_60, kb_63, kb_81, kb_97, kb_99, kb_100, kb_120, kb_126, ks_m1000, ks_243, ks_255, ks_729, ks_1000, ks_2000, ks_2187, ks_6561, ks_9840, ks_9841, kl_0, kl_1, k1, l10, d1, d2, d3, lN_i, nI_add, Nat.reduceLT]
      refine ⟨fun b28 => ?_, fun b28 => ?_⟩
      · skip
        exact (hb9 b28).elim
      · skip
        refine hP 5 _ rfl _ _ _ _ _ _ ?_
        simp only [bX10_writeNumber_5, hrun, hx, hnth, hput, hok, hcat2, hldI, hldL, hldR, hpI, hpL, hpA, hpR, hp1, hpV, hrtI, hrtL, hrtR, hrtV, hpN, hck, hrI, hrB, hrL, hrA, hwI, hwA, hwB, hrN, mf_0, mf_1, mf_2, mf_3, mf_4, mf_5, mf_6, mf_7, mf_8, mf_9, mf_10, mf_11, mf_12, mf_13, mf_14, mf_15, mf_16, mf_17, mf_18, mf_19, mf_20, mf_21, mf_22, mf_23, mf_24, mf_25, mf_26, mf_27, mf_28, mf_29, ms_11, ms_16, ms_17, ms_20, ms_21, ms_23, ms_24, hwF, hcl, hfty, tyX1, tyX3, tyX6, tyX9, tyX10, tyJ0, tyJ4, hfit, hcmp, hnar, hres, hst, hacp, kz, kof, kn0, kn1, Bool.not_true, Bool.not_false, true_and, and_true, Nat.zero_add, Nat.reduceAdd, List.length_cons, List.length_nil, true_or, or_true, false_or, or_false, decide_true, decide_false, ne_eq, not_true_eq_false, not_false_eq_true, ki_0, ki_1, ki_2, ki_3, ki_4, ki_5, kb_m100, kb_m10, kb_m9, kb_m8, kb_m7, kb_m6, kb_m5, kb_m4, kb_m3, kb_m2, kb_6, kb_7, kb_8, kb_9, kb_10, kb_12, kb_13, kb_16, kb_27, kb_31, kb_32, kb_43, kb_45, kb_48, kb_57, kb_60, kb_63, kb_81, kb_97, kb_99, kb_100, kb_120, kb_126, ks_m1000, ks_243, ks_255, ks_729, ks_1000, ks_2000, ks_2187, ks_6561, ks_9840, ks_9841, kl_0, kl_1, k1, l10, d1, d2, d3, lN_i, nI_add, Nat.reduceLT]
        refine ⟨dz, ?_⟩
        refine ⟨dz2, ?_⟩
        rw [← mbIt]
        refine c_wch hg (by omega) ho1 (by omega) (by omega) (fun w2 ho2 hm2 => ?_)
        rw [if_pos rfl, ← hE] at ho2
        simp only [hrun, hx, hnth, hput, hok, hcat2, hldI, hldL, hldR, hpI, hpL, hpA, hpR, hp1, hpV, hrtI, hrtL, hrtR, hrtV, hpN, hck, hrI, hrB, hrL, hrA, hwI, hwA, hwB, hrN, mf_0, mf_1, mf_2, mf_3, mf_4, mf_5, mf_6, mf_7, mf_8, mf_9, mf_10, mf_11, mf_12, mf_13, mf_14, mf_15, mf_16, mf_17, mf_18, mf_19, mf_20, mf_21, mf_22, mf_23, mf_24, mf_25, mf_26, mf_27, mf_28, mf_29, ms_11, ms_16, ms_17, ms_20, ms_21, ms_23, ms_24, hwF, hcl, hfty, tyX1, tyX3, tyX6, tyX9, tyX10, tyJ0, tyJ4, hfit, hcmp, hnar, hres, hst, hacp, kz, kof, kn0, kn1, Bool.not_true, Bool.not_false, true_and, and_true, Nat.zero_add, Nat.reduceAdd, List.length_cons, List.length_nil, true_or, or_true, false_or, or_false, decide_true, decide_false, ne_eq, not_true_eq_false, not_false_eq_true, ki_0, ki_1, ki_2, ki_3, ki_4, ki_5, kb_m100, kb_m10, kb_m9, kb_m8, kb_m7, kb_m6, kb_m5, kb_m4, kb_m3, kb_m2, kb_6, kb_7, kb_8, kb_9, kb_10, kb_12, kb_13, kb_16, kb_27, kb_31, kb_32, kb_43, kb_45, kb_48, kb_57, kb_60, kb_63, kb_81, kb_97, kb_99, kb_100, kb_120, kb_126, ks_m1000, ks_243, ks_255, ks_729, ks_1000, ks_2000, ks_2187, ks_6561, ks_9840, ks_9841, kl_0, kl_1, k1, l10, d1, d2, d3, lN_i, nI_add, Nat.reduceLT, l10, d3]
        refine ⟨dz2, ?_⟩
        exact done w2 z ho2 (hm1.tr hm2)
    | succ j ih =>
      intro w1 z o1 hj ho1 hl1 hE hm1
      obtain ⟨k1, _⟩ := id ho1
      have hp91 : 10 ^ (j + 1) ≤ 1000000 := Nat.pow_le_pow_right (n := 10) (by omega) (show j + 1 ≤ 6 by omega)
      have hp0 : 0 < 10 ^ (j + 1) := Nat.pow_pos (by omega)
      have d1 : lN n / lN (10 ^ (j + 1)) = lN (n / 10 ^ (j + 1)) := pk_lDiv (by omega) hp0 (by omega)
      have hdl : n / 10 ^ (j + 1) ≤ n := Nat.div_le_self _ _
      have d2 : lN (n / 10 ^ (j + 1)) - lN (n / 10 ^ (j + 1)) / lN 10 * lN 10 = lN (n / 10 ^ (j + 1) % 10) := pk_lRem (by omega) (by omega) (by omega)
      have d3 : lN (10 ^ (j + 1)) / lN 10 = lN (10 ^ j) := by rw [pk_lDiv (by omega) (by omega) (by omega), Nat.pow_succ, Nat.mul_div_cancel _ (by omega)]
      have lp : (lN (10 ^ (j + 1))).toInt = ((10 ^ (j + 1) : Nat) : Int) := pk_lT (by omega)
      have dz : ¬ lN (10 ^ (j + 1)) = 0 := fun q => by
        rw [q] at lp
        have : (0 : Int64).toInt = 0 := by decide +kernel
        omega
      have dz2 : ¬ lN 10 = 0 := by decide +kernel
      have hb9 : ¬ lg_cmp (lN (10 ^ (j + 1))) (lN 0) ≤ nI 0 := fun q => by
        rw [lcmp_le, lp] at q
        have : (lN 0).toInt = 0 := by decide +kernel
        omega
      have hm10 : n / 10 ^ (j + 1) % 10 < 10 := Nat.mod_lt _ (by omega)
      rw [dfr] at hE
      generalize n / 10 ^ (j + 1) % 10 = dd at hE hm10 d2
      refine hP 4 _ rfl _ _ _ _ _ _ ?_
      simp only [bX10_writeNumber_4, hrun, hx, hnth, hput, hok, hcat2, hldI, hldL, hldR, hpI, hpL, hpA, hpR, hp1, hpV, hrtI, hrtL, hrtR, hrtV, hpN, hck, hrI, hrB, hrL, hrA, hwI, hwA, hwB, hrN, mf_0, mf_1, mf_2, mf_3, mf_4, mf_5, mf_6, mf_7, mf_8, mf_9, mf_10, mf_11, mf_12, mf_13, mf_14, mf_15, mf_16, mf_17, mf_18, mf_19, mf_20, mf_21, mf_22, mf_23, mf_24, mf_25, mf_26, mf_27, mf_28, mf_29, ms_11, ms_16, ms_17, ms_20, ms_21, ms_23, ms_24, hwF, hcl, hfty, tyX1, tyX3, tyX6, tyX9, tyX10, tyJ0, tyJ4, hfit, hcmp, hnar, hres, hst, hacp, kz, kof, kn0, kn1, Bool.not_true, Bool.not_false, true_and, and_true, Nat.zero_add, Nat.reduceAdd, List.length_cons, List.length_nil, true_or, or_true, false_or, or_false, decide_true, decide_false, ne_eq, not_true_eq_false, not_false_eq_true, ki_0, ki_1, ki_2, ki_3, ki_4, ki_5, kb_m100, kb_m10, kb_m9, kb_m8, kb_m7, kb_m6, kb_m5, kb_m4, kb_m3, kb_m2, kb_6, kb_7, kb_8, kb_9, kb_10, kb_12, kb_13, kb_16, kb_27, kb_31, kb_32, kb_43, kb_45, kb_48, kb_57, kb_60, kb_63, kb_81, kb_97, kb_99, kb_100, kb_120, kb_126, ks_m1000, ks_243, ks_255, ks_729, ks_1000, ks_2000, ks_2187, ks_6561, ks_9840, ks_9841, kl_0, kl_1, k1, l10, d1, d2, d3, lN_i, nI_add, Nat.reduceLT]
      refine ⟨fun b28 => ?_, fun b28 => ?_⟩
      · skip
        exact (hb9 b28).elim
      · skip
        refine hP 5 _ rfl _ _ _ _ _ _ ?_
        simp only [bX10_writeNumber_5, hrun, hx, hnth, hput, hok, hcat2, hldI, hldL, hldR, hpI, hpL, hpA, hpR, hp1, hpV, hrtI, hrtL, hrtR, hrtV, hpN, hck, hrI, hrB, hrL, hrA, hwI, hwA, hwB, hrN, mf_0, mf_1, mf_2, mf_3, mf_4, mf_5, mf_6, mf_7, mf_8, mf_9, mf_10, mf_11, mf_12, mf_13, mf_14, mf_15, mf_16, mf_17, mf_18, mf_19, mf_20, mf_21, mf_22, mf_23, mf_24, mf_25, mf_26, mf_27, mf_28, mf_29, ms_11, ms_16, ms_17, ms_20, ms_21, ms_23, ms_24, hwF, hcl, hfty, tyX1, tyX3, tyX6, tyX9, tyX10, tyJ0, tyJ4, hfit, hcmp, hnar, hres, hst, hacp, kz, kof, kn0, kn1, Bool.not_true, Bool.not_false, true_and, and_true, Nat.zero_add, Nat.reduceAdd, List.length_cons, List.length_nil, true_or, or_true, false_or, or_false, decide_true, decide_false, ne_eq, not_true_eq_false, not_false_eq_true, ki_0, ki_1, ki_2, ki_3, ki_4, ki_5, kb_m100, kb_m10, kb_m9, kb_m8, kb_m7, kb_m6, kb_m5, kb_m4, kb_m3, kb_m2, kb_6, kb_7, kb_8, kb_9, kb_10, kb_12, kb_13, kb_16, kb_27, kb_31, kb_32, kb_43, kb_45, kb_48, kb_57, kb_60, kb_63, kb_81, kb_97, kb_99, kb_100, kb_120, kb_126, ks_m1000, ks_243, ks_255, ks_729, ks_1000, ks_2000, ks_2187, ks_6561, ks_9840, ks_9841, kl_0, kl_1, k1, l10, d1, d2, d3, lN_i, nI_add, Nat.reduceLT]
        refine ⟨dz, ?_⟩
        refine ⟨dz2, ?_⟩
        rw [← mbIt]
        refine c_wch hg (by omega) ho1 (by omega) (by omega) (fun w2 ho2 hm2 => ?_)
        rw [if_pos rfl] at ho2
        simp only [hrun, hx, hnth, hput, hok, hcat2, hldI, hldL, hldR, hpI, hpL, hpA, hpR, hp1, hpV, hrtI, hrtL, hrtR, hrtV, hpN, hck, hrI, hrB, hrL, hrA, hwI, hwA, hwB, hrN, mf_0, mf_1, mf_2, mf_3, mf_4, mf_5, mf_6, mf_7, mf_8, mf_9, mf_10, mf_11, mf_12, mf_13, mf_14, mf_15, mf_16, mf_17, mf_18, mf_19, mf_20, mf_21, mf_22, mf_23, mf_24, mf_25, mf_26, mf_27, mf_28, mf_29, ms_11, ms_16, ms_17, ms_20, ms_21, ms_23, ms_24, hwF, hcl, hfty, tyX1, tyX3, tyX6, tyX9, tyX10, tyJ0, tyJ4, hfit, hcmp, hnar, hres, hst, hacp, kz, kof, kn0, kn1, Bool.not_true, Bool.not_false, true_and, and_true, Nat.zero_add, Nat.reduceAdd, List.length_cons, List.length_nil, true_or, or_true, false_or, or_false, decide_true, decide_false, ne_eq, not_true_eq_false, not_false_eq_true, ki_0, ki_1, ki_2, ki_3, ki_4, ki_5, kb_m100, kb_m10, kb_m9, kb_m8, kb_m7, kb_m6, kb_m5, kb_m4, kb_m3, kb_m2, kb_6, kb_7, kb_8, kb_9, kb_10, kb_12, kb_13, kb_16, kb_27, kb_31, kb_32, kb_43, kb_45, kb_48, kb_57, kb_60, kb_63, kb_81, kb_97, kb_99, kb_100, kb_120, kb_126, ks_m1000, ks_243, ks_255, ks_729, ks_1000, ks_2000, ks_2187, ks_6561, ks_9840, ks_9841, kl_0, kl_1, k1, l10, d1, d2, d3, lN_i, nI_add, Nat.reduceLT, l10, d3]
        refine ⟨dz2, ?_⟩
        exact ih w2 z _ (by omega) ho2 (by rw [List.length_append]; simp; omega) (by rw [hE, List.append_assoc]; rfl) (hm1.tr hm2)
  have loop1 : ∀ (r j : Nat), 6 - j = r → j ≤ 6 → 10 ^ j ≤ n → P N 0 0 w 2 [some (.ref 47), some (.long (lN n)), none, some (.long (lN (10 ^ j))), none, none, none] [] := by
    intro r
    induction r with
    | zero =>
      intro j hr hj hjn
      obtain rfl : j = 6 := by omega
      have em : lN (10 ^ 6) * lN 10 = lN 10000000 := by decide +kernel
      have le9 : (lN 10000000).toInt = 10000000 := by decide +kernel
      have eg : mdg n = dfr n 6 := by unfold mdg; rw [ndg_pow hn1 hn2 hjn (by omega) (by omega)]
      refine hP 1 _ rfl _ _ _ _ _ _ ?_
      simp only [bX10_writeNumber_1, hrun, hx, hnth, hput, hok, hcat2, hldI, hldL, hldR, hpI, hpL, hpA, hpR, hp1, hpV, hrtI, hrtL, hrtR, hrtV, hpN, hck, hrI, hrB, hrL, hrA, hwI, hwA, hwB, hrN, mf_0, mf_1, mf_2, mf_3, mf_4, mf_5, mf_6, mf_7, mf_8, mf_9, mf_10, mf_11, mf_12, mf_13, mf_14, mf_15, mf_16, mf_17, mf_18, mf_19, mf_20, mf_21, mf_22, mf_23, mf_24, mf_25, mf_26, mf_27, mf_28, mf_29, ms_11, ms_16, ms_17, ms_20, ms_21, ms_23, ms_24, hwF, hcl, hfty, tyX1, tyX3, tyX6, tyX9, tyX10, tyJ0, tyJ4, hfit, hcmp, hnar, hres, hst, hacp, kz, kof, kn0, kn1, Bool.not_true, Bool.not_false, true_and, and_true, Nat.zero_add, Nat.reduceAdd, List.length_cons, List.length_nil, true_or, or_true, false_or, or_false, decide_true, decide_false, ne_eq, not_true_eq_false, not_false_eq_true, ki_0, ki_1, ki_2, ki_3, ki_4, ki_5, kb_m100, kb_m10, kb_m9, kb_m8, kb_m7, kb_m6, kb_m5, kb_m4, kb_m3, kb_m2, kb_6, kb_7, kb_8, kb_9, kb_10, kb_12, kb_13, kb_16, kb_27, kb_31, kb_32, kb_43, kb_45, kb_48, kb_57, kb_60, kb_63, kb_81, kb_97, kb_99, kb_100, kb_120, kb_126, ks_m1000, ks_243, ks_255, ks_729, ks_1000, ks_2000, ks_2187, ks_6561, ks_9840, ks_9841, kl_0, kl_1, l10, em, Nat.reduceLT, fin_1, fin_3, Nat.reduceAdd]
      refine ⟨fun b9 => ?_, fun b9 => ?_⟩
      · try simp (disch := omega) only [nI_ltI, nI_leI, nI_eq, Nat.not_lt, Nat.not_le, lcmp_gt, lcmp_le, ln, le9] at b9
        refine hP 3 _ rfl _ _ _ _ _ _ ?_
        simp only [bX10_writeNumber_3, hrun, hx, hnth, hput, hok, hcat2, hldI, hldL, hldR, hpI, hpL, hpA, hpR, hp1, hpV, hrtI, hrtL, hrtR, hrtV, hpN, hck, hrI, hrB, hrL, hrA, hwI, hwA, hwB, hrN, mf_0, mf_1, mf_2, mf_3, mf_4, mf_5, mf_6, mf_7, mf_8, mf_9, mf_10, mf_11, mf_12, mf_13, mf_14, mf_15, mf_16, mf_17, mf_18, mf_19, mf_20, mf_21, mf_22, mf_23, mf_24, mf_25, mf_26, mf_27, mf_28, mf_29, ms_11, ms_16, ms_17, ms_20, ms_21, ms_23, ms_24, hwF, hcl, hfty, tyX1, tyX3, tyX6, tyX9, tyX10, tyJ0, tyJ4, hfit, hcmp, hnar, hres, hst, hacp, kz, kof, kn0, kn1, Bool.not_true, Bool.not_false, true_and, and_true, Nat.zero_add, Nat.reduceAdd, List.length_cons, List.length_nil, true_or, or_true, false_or, or_false, decide_true, decide_false, ne_eq, not_true_eq_false, not_false_eq_true, ki_0, ki_1, ki_2, ki_3, ki_4, ki_5, kb_m100, kb_m10, kb_m9, kb_m8, kb_m7, kb_m6, kb_m5, kb_m4, kb_m3, kb_m2, kb_6, kb_7, kb_8, kb_9, kb_10, kb_12, kb_13, kb_16, kb_27, kb_31, kb_32, kb_43, kb_45, kb_48, kb_57, kb_60, kb_63, kb_81, kb_97, kb_99, kb_100, kb_120, kb_126, ks_m1000, ks_243, ks_255, ks_729, ks_1000, ks_2000, ks_2187, ks_6561, ks_9840, ks_9841, kl_0, kl_1, l10, em, Nat.reduceLT, fin_1, fin_3, Nat.reduceAdd]
        exact loop2 6 w _ o (by omega) ho (by omega) (by rw [eg]) mfr.rf
      · (try simp (disch := omega) only [nI_ltI, nI_leI, nI_eq, Nat.not_lt, Nat.not_le, lcmp_gt, lcmp_le, ln, le9] at b9) <;> (exfalso; omega)
    | succ r ih =>
      intro j hr hj hjn
      have hp91 : 10 ^ (j + 1) ≤ 1000000 := Nat.pow_le_pow_right (n := 10) (by omega) (show j + 1 ≤ 6 by omega)
      have em : lN (10 ^ j) * lN 10 = lN (10 ^ (j + 1)) := by rw [lN_mul, ← Nat.pow_succ]
      have lp : (lN (10 ^ (j + 1))).toInt = ((10 ^ (j + 1) : Nat) : Int) := pk_lT (by omega)
      refine hP 1 _ rfl _ _ _ _ _ _ ?_
      simp only [bX10_writeNumber_1, hrun, hx, hnth, hput, hok, hcat2, hldI, hldL, hldR, hpI, hpL, hpA, hpR, hp1, hpV, hrtI, hrtL, hrtR, hrtV, hpN, hck, hrI, hrB, hrL, hrA, hwI, hwA, hwB, hrN, mf_0, mf_1, mf_2, mf_3, mf_4, mf_5, mf_6, mf_7, mf_8, mf_9, mf_10, mf_11, mf_12, mf_13, mf_14, mf_15, mf_16, mf_17, mf_18, mf_19, mf_20, mf_21, mf_22, mf_23, mf_24, mf_25, mf_26, mf_27, mf_28, mf_29, ms_11, ms_16, ms_17, ms_20, ms_21, ms_23, ms_24, hwF, hcl, hfty, tyX1, tyX3, tyX6, tyX9, tyX10, tyJ0, tyJ4, hfit, hcmp, hnar, hres, hst, hacp, kz, kof, kn0, kn1, Bool.not_true, Bool.not_false, true_and, and_true, Nat.zero_add, Nat.reduceAdd, List.length_cons, List.length_nil, true_or, or_true, false_or, or_false, decide_true, decide_false, ne_eq, not_true_eq_false, not_false_eq_true, ki_0, ki_1, ki_2, ki_3, ki_4, ki_5, kb_m100, kb_m10, kb_m9, kb_m8, kb_m7, kb_m6, kb_m5, kb_m4, kb_m3, kb_m2, kb_6, kb_7, kb_8, kb_9, kb_10, kb_12, kb_13, kb_16, kb_27, kb_31, kb_32, kb_43, kb_45, kb_48, kb_57, kb_60, kb_63, kb_81, kb_97, kb_99, kb_100, kb_120, kb_126, ks_m1000, ks_243, ks_255, ks_729, ks_1000, ks_2000, ks_2187, ks_6561, ks_9840, ks_9841, kl_0, kl_1, l10, em, Nat.reduceLT, fin_1, fin_3, Nat.reduceAdd]
      refine ⟨fun b9 => ?_, fun b9 => ?_⟩
      · try simp (disch := omega) only [nI_ltI, nI_leI, nI_eq, Nat.not_lt, Nat.not_le, lcmp_gt, lcmp_le, ln, lp] at b9
        refine hP 3 _ rfl _ _ _ _ _ _ ?_
        simp only [bX10_writeNumber_3, hrun, hx, hnth, hput, hok, hcat2, hldI, hldL, hldR, hpI, hpL, hpA, hpR, hp1, hpV, hrtI, hrtL, hrtR, hrtV, hpN, hck, hrI, hrB, hrL, hrA, hwI, hwA, hwB, hrN, mf_0, mf_1, mf_2, mf_3, mf_4, mf_5, mf_6, mf_7, mf_8, mf_9, mf_10, mf_11, mf_12, mf_13, mf_14, mf_15, mf_16, mf_17, mf_18, mf_19, mf_20, mf_21, mf_22, mf_23, mf_24, mf_25, mf_26, mf_27, mf_28, mf_29, ms_11, ms_16, ms_17, ms_20, ms_21, ms_23, ms_24, hwF, hcl, hfty, tyX1, tyX3, tyX6, tyX9, tyX10, tyJ0, tyJ4, hfit, hcmp, hnar, hres, hst, hacp, kz, kof, kn0, kn1, Bool.not_true, Bool.not_false, true_and, and_true, Nat.zero_add, Nat.reduceAdd, List.length_cons, List.length_nil, true_or, or_true, false_or, or_false, decide_true, decide_false, ne_eq, not_true_eq_false, not_false_eq_true, ki_0, ki_1, ki_2, ki_3, ki_4, ki_5, kb_m100, kb_m10, kb_m9, kb_m8, kb_m7, kb_m6, kb_m5, kb_m4, kb_m3, kb_m2, kb_6, kb_7, kb_8, kb_9, kb_10, kb_12, kb_13, kb_16, kb_27, kb_31, kb_32, kb_43, kb_45, kb_48, kb_57, kb_60, kb_63, kb_81, kb_97, kb_99, kb_100, kb_120, kb_126, ks_m1000, ks_243, ks_255, ks_729, ks_1000, ks_2000, ks_2187, ks_6561, ks_9840, ks_9841, kl_0, kl_1, l10, em, Nat.reduceLT, fin_1, fin_3, Nat.reduceAdd]
        have eg : mdg n = dfr n j := by unfold mdg; rw [ndg_pow hn1 hn2 hjn (by omega) (by omega)]
        exact loop2 j w _ o (by omega) ho (by omega) (by rw [eg]) mfr.rf
      · try simp (disch := omega) only [nI_ltI, nI_leI, nI_eq, Nat.not_lt, Nat.not_le, lcmp_gt, lcmp_le, ln, lp] at b9
        refine hP 2 _ rfl _ _ _ _ _ _ ?_
        simp only [bX10_writeNumber_2, hrun, hx, hnth, hput, hok, hcat2, hldI, hldL, hldR, hpI, hpL, hpA, hpR, hp1, hpV, hrtI, hrtL, hrtR, hrtV, hpN, hck, hrI, hrB, hrL, hrA, hwI, hwA, hwB, hrN, mf_0, mf_1, mf_2, mf_3, mf_4, mf_5, mf_6, mf_7, mf_8, mf_9, mf_10, mf_11, mf_12, mf_13, mf_14, mf_15, mf_16, mf_17, mf_18, mf_19, mf_20, mf_21, mf_22, mf_23, mf_24, mf_25, mf_26, mf_27, mf_28, mf_29, ms_11, ms_16, ms_17, ms_20, ms_21, ms_23, ms_24, hwF, hcl, hfty, tyX1, tyX3, tyX6, tyX9, tyX10, tyJ0, tyJ4, hfit, hcmp, hnar, hres, hst, hacp, kz, kof, kn0, kn1, Bool.not_true, Bool.not_false, true_and, and_true, Nat.zero_add, Nat.reduceAdd, List.length_cons, List.length_nil, true_or, or_true, false_or, or_false, decide_true, decide_false, ne_eq, not_true_eq_false, not_false_eq_true, ki_0, ki_1, ki_2, ki_3, ki_4, ki_5, kb_m100, kb_m10, kb_m9, kb_m8, kb_m7, kb_m6, kb_m5, kb_m4, kb_m3, kb_m2, kb_6, kb_7, kb_8, kb_9, kb_10, kb_12, kb_13, kb_16, kb_27, kb_31, kb_32, kb_43, kb_45, kb_48, kb_57, kb_60, kb_63, kb_81, kb_97, kb_99, kb_100, kb_120, kb_126, ks_m1000, ks_243, ks_255, ks_729, ks_1000, ks_2000, ks_2187, ks_6561, ks_9840, ks_9841, kl_0, kl_1, l10, em, Nat.reduceLT, fin_1, fin_3, Nat.reduceAdd]
        exact ih (j + 1) (by omega) (by omega) (by omega)
  refine hP 0 _ rfl _ _ _ _ _ _ ?_
  simp only [bX10_writeNumber_0, hrun, hx, hnth, hput, hok, hcat2, hldI, hldL, hldR, hpI, hpL, hpA, hpR, hp1, hpV, hrtI, hrtL, hrtR, hrtV, hpN, hck, hrI, hrB, hrL, hrA, hwI, hwA, hwB, hrN, mf_0, mf_1, mf_2, mf_3, mf_4, mf_5, mf_6, mf_7, mf_8, mf_9, mf_10, mf_11, mf_12, mf_13, mf_14, mf_15, mf_16, mf_17, mf_18, mf_19, mf_20, mf_21, mf_22, mf_23, mf_24, mf_25, mf_26, mf_27, mf_28, mf_29, ms_11, ms_16, ms_17, ms_20, ms_21, ms_23, ms_24, hwF, hcl, hfty, tyX1, tyX3, tyX6, tyX9, tyX10, tyJ0, tyJ4, hfit, hcmp, hnar, hres, hst, hacp, kz, kof, kn0, kn1, Bool.not_true, Bool.not_false, true_and, and_true, Nat.zero_add, Nat.reduceAdd, List.length_cons, List.length_nil, true_or, or_true, false_or, or_false, decide_true, decide_false, ne_eq, not_true_eq_false, not_false_eq_true, ki_0, ki_1, ki_2, ki_3, ki_4, ki_5, kb_m100, kb_m10, kb_m9, kb_m8, kb_m7, kb_m6, kb_m5, kb_m4, kb_m3, kb_m2, kb_6, kb_7, kb_8, kb_9, kb_10, kb_12, kb_13, kb_16, kb_27, kb_31, kb_32, kb_43, kb_45, kb_48, kb_57, kb_60, kb_63, kb_81, kb_97, kb_99, kb_100, kb_120, kb_126, ks_m1000, ks_243, ks_255, ks_729, ks_1000, ks_2000, ks_2187, ks_6561, ks_9840, ks_9841, kl_0, kl_1, Nat.reduceLT, fin_1, fin_3, Nat.reduceAdd]
  exact loop1 _ 0 rfl (by omega) (by rw [Nat.pow_zero]; omega)
end M26
