/-! the reference's isLie -/
section M18
variable {g : hG} {d N c s : Nat} {w : hWd} {Q : hRt}
/-- the words of a left bracket -/
def mlw (u : Nat → Nat) (m : Nat) : Nat → List Nat
  | 0 => [u 0]
  | k + 1 => if m / 2 ^ k % 2 = 0 then mlw u m k ++ [u (k + 1)] else [u (k + 1)] ++ mlw u m k
theorem mlw_len (u : Nat → Nat) (m : Nat) : ∀ k, (mlw u m k).length = k + 1
  | 0 => rfl
  | k + 1 => by rw [mlw]; split <;> rw [List.length_append, mlw_len u m k] <;> simp <;> omega
theorem mlw_W {u : Nat → Nat} {m : Nat} : ∀ k, k < 8 → (∀ j, j < 8 → u j < 3) → mW (mlw u m k)
  | 0, _, h => ⟨by simp [mlw], fun x hx => by simp [mlw] at hx; rw [hx]; exact h 0 (by omega)⟩
  | k + 1, hk, h => by
    have ih := mlw_W (m := m) k (by omega) h
    refine ⟨by rw [mlw_len]; omega, fun x hx => ?_⟩
    rw [mlw] at hx
    split at hx
    · rcases List.mem_append.mp hx with q | q
      · exact ih.2 x q
      · rw [List.mem_singleton] at q; rw [q]; exact h _ hk
    · rcases List.mem_append.mp hx with q | q
      · rw [List.mem_singleton] at q; rw [q]; exact h _ hk
      · exact ih.2 x q
theorem mswp_1 (u : Nat → Nat) (o m : Nat) {n a : Nat} (h : 1 ≤ n) : mswp u o m n a (a + 1) = [u a] := by
  obtain ⟨k, rfl⟩ : ∃ k, n = k + 1 := ⟨n - 1, by omega⟩
  rw [mswp, if_pos (by omega)]
theorem mswp_mlw (u : Nat → Nat) (m : Nat) : ∀ (k n : Nat), k + 1 ≤ n → mswp u 0 m n 0 (k + 1) = mlw u m k
  | 0, n, h => mswp_1 u 0 m h
  | k + 1, n, h => by
    obtain ⟨n, rfl⟩ : ∃ j, n = j + 1 := ⟨n - 1, by omega⟩
    have hg : mgapB u 0 0 (k + 1 + 1) = k + 1 := rfl
    rw [mswp, if_neg (by omega), hg, mlw, mswp_mlw u m k n (by omega), mswp_1 u 0 m (by omega), Nat.add_sub_cancel]
theorem mlw_c {u v : Nat → Nat} {m : Nat} : ∀ k, (∀ j, j ≤ k → u j = v j) → mlw u m k = mlw v m k
  | 0, h => by rw [mlw, mlw, h 0 (by omega)]
  | k + 1, h => by rw [mlw, mlw, mlw_c k (fun j hj => h j (by omega)), h (k + 1) (by omega)]
/-- the left bracket as the reference adds it -/
def mlbr (u : Nat → Nat) (len : Nat) (z : Int64) (f : Nat → Int64) : Nat → Nat → Int64
  | 0 => f
  | k + 1 => padd (mlbr u len z f k) (menc (mlw u k (len - 1))) ((if mpop k % 2 = 0 then nI 1 else Int32.ofInt (-1)).toInt64 * z)
theorem mlbr_eq (u : Nat → Nat) {len : Nat} (hl : 1 ≤ len) (hl8 : len ≤ 8) (z : Int64) (f : Nat → Int64) : ∀ k, mlbr u len z f k = mbrk u 0 len z f k
  | 0 => rfl
  | k + 1 => by
    have e := mswp_mlw u k (len - 1) 8 (by omega)
    rw [show len - 1 + 1 = len by omega] at e
    rw [mlbr, mbrk, mlbr_eq u hl hl8 z f k, e]
    congr 1
    split
    · exact mone1 z
    · exact mneg1 z
set_option maxRecDepth 100000 in
set_option maxHeartbeats 4000000 in
theorem c_encodeLeft (hg : hgo g) (hd : 2 ≤ d) (hM : hMb w) {u : Nat → Nat} (hr : hrow w 67 u) {len m : Nat} (hl1 : 1 ≤ len) (hl8 : len ≤ 8) (hm : m < 128)  (h : Q (some (.int (nI (menc (mlw u m (len - 1)))))) N c s w) : Γ g d yX10_encodeLeft [.ref 47, .int (nI len), .int (nI m)] N c s w Q := by
  refine Γ.intro0 hg kX10_encodeLeft (by omega) (Nat.le_of_ble_eq_true rfl) (fun P hP => ?_)
  show P N 0 0 w 0 [some (.ref 47), some (.int (nI len)), some (.int (nI m)), none, none] []
  obtain ⟨⟨ml, ls, ns, il, at9, ol, sv, k0⟩, kp⟩ := id hM
  obtain ⟨F, kF, hF⟩ := id hr
  have h3 : ∀ j, j < 8 → u j < 3 := fun j hj => (hF j hj).2
  have c_0 : (nI 0).toNatClampNeg = 0 := by decide +kernel
  have f_0 := (hF 0 (by omega)).1
  have loop : ∀ (n k : Nat), len - (k + 1) = n → k + 1 ≤ len → P N 0 0 w 10 [some (.ref 47), some (.int (nI len)), some (.int (nI m)), some (.int (nI (mvl (mlw u m k)))), some (.int (nI (k + 1)))] [] := by
    intro n
    induction n with
    | zero =>
      intro k hn hk
      obtain rfl : len = k + 1 := by omega
      have em := menc_vl _ _ (mlw_len u m k)
      rw [Nat.add_sub_cancel, em] at h
      refine hP 1 _ rfl _ _ _ _ _ _ ?_
      simp only [bX10_encodeLeft_1, hrun, hx, hnth, hput, hok, hcat2, hldI, hldL, hldR, hpI, hpL, hpA, hpR, hp1, hpV, hrtI, hrtL, hrtR, hrtV, hpN, hck, hrI, hrB, hrL, hrA, hwI, hwA, hwB, hrN, mf_0, mf_1, mf_2, mf_3, mf_4, mf_5, mf_6, mf_7, mf_8, mf_9, mf_10, mf_11, mf_12, mf_13, mf_14, mf_15, mf_16, mf_17, mf_18, mf_19, mf_20, mf_21, mf_22, mf_23, mf_24, mf_25, mf_26, mf_27, mf_28, mf_29, ms_11, ms_16, ms_17, ms_20, ms_21, ms_23, ms_24, hwF, hcl, hfty, tyX1, tyX3, tyX6, tyX9, tyX10, tyJ0, tyJ4, hfit, hcmp, hnar, hres, hst, hacp, kz, kof, kn0, kn1, Bool.not_true, Bool.not_false, true_and, and_true, Nat.zero_add, Nat.reduceAdd, List.length_cons, List.length_nil, true_or, or_true, false_or, or_false, decide_true, decide_false, ne_eq, not_true_eq_false, not_false_eq_true, ki_0, ki_1, ki_2, ki_3, ki_4, ki_5, kb_m100, kb_m10, kb_m9, kb_m8, kb_m7, kb_m6, kb_m5, kb_m4, kb_m3, kb_m2, kb_6, kb_7, kb_8, kb_9, kb_10, kb_12, kb_13, kb_16, kb_27, kb_31, kb_32, kb_43, kb_45, kb_48, kb_57, kb_60, kb_63, kb_81, kb_97, kb_99, kb_100, kb_120, kb_126, ks_m1000, ks_243, ks_255, ks_729, ks_1000, ks_2000, ks_2187, ks_6561, ks_9840, ks_9841, kl_0, kl_1, k0]
      refine ⟨fun b13 => ?_, fun b13 => ?_⟩
      · try simp (disch := omega) only [nI_ltI, nI_leI, nI_eq, Nat.not_lt, Nat.not_le] at b13
        refine hP 6 _ rfl _ _ _ _ _ _ ?_
        simp only [bX10_encodeLeft_6, hrun, hx, hnth, hput, hok, hcat2, hldI, hldL, hldR, hpI, hpL, hpA, hpR, hp1, hpV, hrtI, hrtL, hrtR, hrtV, hpN, hck, hrI, hrB, hrL, hrA, hwI, hwA, hwB, hrN, mf_0, mf_1, mf_2, mf_3, mf_4, mf_5, mf_6, mf_7, mf_8, mf_9, mf_10, mf_11, mf_12, mf_13, mf_14, mf_15, mf_16, mf_17, mf_18, mf_19, mf_20, mf_21, mf_22, mf_23, mf_24, mf_25, mf_26, mf_27, mf_28, mf_29, ms_11, ms_16, ms_17, ms_20, ms_21, ms_23, ms_24, hwF, hcl, hfty, tyX1, tyX3, tyX6, tyX9, tyX10, tyJ0, tyJ4, hfit, hcmp, hnar, hres, hst, hacp, kz, kof, kn0, kn1, Bool.not_true, Bool.not_false, true_and, and_true, Nat.zero_add, Nat.reduceAdd, List.length_cons, List.length_nil, true_or, or_true, false_or, or_false, decide_true, decide_false, ne_eq, not_true_eq_false, not_false_eq_true, ki_0, ki_1, ki_2, ki_3, ki_4, ki_5, kb_m100, kb_m10, kb_m9, kb_m8, kb_m7, kb_m6, kb_m5, kb_m4, kb_m3, kb_m2, kb_6, kb_7, kb_8, kb_9, kb_10, kb_12, kb_13, kb_16, kb_27, kb_31, kb_32, kb_43, kb_45, kb_48, kb_57, kb_60, kb_63, kb_81, kb_97, kb_99, kb_100, kb_120, kb_126, ks_m1000, ks_243, ks_255, ks_729, ks_1000, ks_2000, ks_2187, ks_6561, ks_9840, ks_9841, kl_0, kl_1, k0]
        refine c_offset hg (by omega) hM (by omega) ?_
        simp only [hrun, hx, hnth, hput, hok, hcat2, hldI, hldL, hldR, hpI, hpL, hpA, hpR, hp1, hpV, hrtI, hrtL, hrtR, hrtV, hpN, hck, hrI, hrB, hrL, hrA, hwI, hwA, hwB, hrN, mf_0, mf_1, mf_2, mf_3, mf_4, mf_5, mf_6, mf_7, mf_8, mf_9, mf_10, mf_11, mf_12, mf_13, mf_14, mf_15, mf_16, mf_17, mf_18, mf_19, mf_20, mf_21, mf_22, mf_23, mf_24, mf_25, mf_26, mf_27, mf_28, mf_29, ms_11, ms_16, ms_17, ms_20, ms_21, ms_23, ms_24, hwF, hcl, hfty, tyX1, tyX3, tyX6, tyX9, tyX10, tyJ0, tyJ4, hfit, hcmp, hnar, hres, hst, hacp, kz, kof, kn0, kn1, Bool.not_true, Bool.not_false, true_and, and_true, Nat.zero_add, Nat.reduceAdd, List.length_cons, List.length_nil, true_or, or_true, false_or, or_false, decide_true, decide_false, ne_eq, not_true_eq_false, not_false_eq_true, ki_0, ki_1, ki_2, ki_3, ki_4, ki_5, kb_m100, kb_m10, kb_m9, kb_m8, kb_m7, kb_m6, kb_m5, kb_m4, kb_m3, kb_m2, kb_6, kb_7, kb_8, kb_9, kb_10, kb_12, kb_13, kb_16, kb_27, kb_31, kb_32, kb_43, kb_45, kb_48, kb_57, kb_60, kb_63, kb_81, kb_97, kb_99, kb_100, kb_120, kb_126, ks_m1000, ks_243, ks_255, ks_729, ks_1000, ks_2000, ks_2187, ks_6561, ks_9840, ks_9841, kl_0, kl_1, k0]
        rw [nI_add]
        exact h
      · (try simp (disch := omega) only [nI_ltI, nI_leI, nI_eq, Nat.not_lt, Nat.not_le] at b13) <;> (exfalso; omega)
    | succ n ih =>
      intro k hn hk
      have hE := ih (k + 1) (by omega) (by omega)
      have c_k := nI_clamp (n := k + 1) (by omega)
      have f_k := (hF (k + 1) (by omega)).1
      have pw := mpow_eq (k + 1) (by omega)
      have s_k : nI (k + 1) - nI 1 = nI k := by rw [pk_sub (by omega), Nat.add_sub_cancel]
      have hks := ksh m hm k (by omega)
      have hbl : m / 2 ^ k % 2 < 2 := Nat.mod_lt _ (by omega)
      have hv1 : mvl (mlw u m k ++ [u (k + 1)]) = 3 * mvl (mlw u m k) + u (k + 1) := mvl_snoc _ _
      have hv2 : mvl ([u (k + 1)] ++ mlw u m k) = u (k + 1) * 3 ^ (k + 1) + mvl (mlw u m k) := by
        rw [mvl_catN _ _ _ (mlw_len u m k)]
        congr 2
        show 3 * 0 + u (k + 1) = u (k + 1)
        omega
      rw [mlw] at hE
      refine hP 1 _ rfl _ _ _ _ _ _ ?_
      simp only [bX10_encodeLeft_1, hrun, hx, hnth, hput, hok, hcat2, hldI, hldL, hldR, hpI, hpL, hpA, hpR, hp1, hpV, hrtI, hrtL, hrtR, hrtV, hpN, hck, hrI, hrB, hrL, hrA, hwI, hwA, hwB, hrN, mf_0, mf_1, mf_2, mf_3, mf_4, mf_5, mf_6, mf_7, mf_8, mf_9, mf_10, mf_11, mf_12, mf_13, mf_14, mf_15, mf_16, mf_17, mf_18, mf_19, mf_20, mf_21, mf_22, mf_23, mf_24, mf_25, mf_26, mf_27, mf_28, mf_29, ms_11, ms_16, ms_17, ms_20, ms_21, ms_23, ms_24, hwF, hcl, hfty, tyX1, tyX3, tyX6, tyX9, tyX10, tyJ0, tyJ4, hfit, hcmp, hnar, hres, hst, hacp, kz, kof, kn0, kn1, Bool.not_true, Bool.not_false, true_and, and_true, Nat.zero_add, Nat.reduceAdd, List.length_cons, List.length_nil, true_or, or_true, false_or, or_false, decide_true, decide_false, ne_eq, not_true_eq_false, not_false_eq_true, ki_0, ki_1, ki_2, ki_3, ki_4, ki_5, kb_m100, kb_m10, kb_m9, kb_m8, kb_m7, kb_m6, kb_m5, kb_m4, kb_m3, kb_m2, kb_6, kb_7, kb_8, kb_9, kb_10, kb_12, kb_13, kb_16, kb_27, kb_31, kb_32, kb_43, kb_45, kb_48, kb_57, kb_60, kb_63, kb_81, kb_97, kb_99, kb_100, kb_120, kb_126, ks_m1000, ks_243, ks_255, ks_729, ks_1000, ks_2000, ks_2187, ks_6561, ks_9840, ks_9841, kl_0, kl_1, k0, kp, kF, c_k, f_k, pw, s_k, hks, nI_add, pk_mul]
      refine ⟨fun b13 => ?_, fun b13 => ?_⟩
      · (try simp (disch := omega) only [nI_ltI, nI_leI, nI_eq, Nat.not_lt, Nat.not_le] at b13) <;> (exfalso; omega)
      · try simp (disch := omega) only [nI_ltI, nI_leI, nI_eq, Nat.not_lt, Nat.not_le] at b13
        refine hP 2 _ rfl _ _ _ _ _ _ ?_
        simp only [bX10_encodeLeft_2, hrun, hx, hnth, hput, hok, hcat2, hldI, hldL, hldR, hpI, hpL, hpA, hpR, hp1, hpV, hrtI, hrtL, hrtR, hrtV, hpN, hck, hrI, hrB, hrL, hrA, hwI, hwA, hwB, hrN, mf_0, mf_1, mf_2, mf_3, mf_4, mf_5, mf_6, mf_7, mf_8, mf_9, mf_10, mf_11, mf_12, mf_13, mf_14, mf_15, mf_16, mf_17, mf_18, mf_19, mf_20, mf_21, mf_22, mf_23, mf_24, mf_25, mf_26, mf_27, mf_28, mf_29, ms_11, ms_16, ms_17, ms_20, ms_21, ms_23, ms_24, hwF, hcl, hfty, tyX1, tyX3, tyX6, tyX9, tyX10, tyJ0, tyJ4, hfit, hcmp, hnar, hres, hst, hacp, kz, kof, kn0, kn1, Bool.not_true, Bool.not_false, true_and, and_true, Nat.zero_add, Nat.reduceAdd, List.length_cons, List.length_nil, true_or, or_true, false_or, or_false, decide_true, decide_false, ne_eq, not_true_eq_false, not_false_eq_true, ki_0, ki_1, ki_2, ki_3, ki_4, ki_5, kb_m100, kb_m10, kb_m9, kb_m8, kb_m7, kb_m6, kb_m5, kb_m4, kb_m3, kb_m2, kb_6, kb_7, kb_8, kb_9, kb_10, kb_12, kb_13, kb_16, kb_27, kb_31, kb_32, kb_43, kb_45, kb_48, kb_57, kb_60, kb_63, kb_81, kb_97, kb_99, kb_100, kb_120, kb_126, ks_m1000, ks_243, ks_255, ks_729, ks_1000, ks_2000, ks_2187, ks_6561, ks_9840, ks_9841, kl_0, kl_1, k0, kp, kF, c_k, f_k, pw, s_k, hks, nI_add, pk_mul]
        refine ⟨fun b25 => ?_, fun b25 => ?_⟩
        · try simp (disch := omega) only [nI_ltI, nI_leI, nI_eq, Nat.not_lt, Nat.not_le] at b25
          refine hP 4 _ rfl _ _ _ _ _ _ ?_
          simp only [bX10_encodeLeft_4, hrun, hx, hnth, hput, hok, hcat2, hldI, hldL, hldR, hpI, hpL, hpA, hpR, hp1, hpV, hrtI, hrtL, hrtR, hrtV, hpN, hck, hrI, hrB, hrL, hrA, hwI, hwA, hwB, hrN, mf_0, mf_1, mf_2, mf_3, mf_4, mf_5, mf_6, mf_7, mf_8, mf_9, mf_10, mf_11, mf_12, mf_13, mf_14, mf_15, mf_16, mf_17, mf_18, mf_19, mf_20, mf_21, mf_22, mf_23, mf_24, mf_25, mf_26, mf_27, mf_28, mf_29, ms_11, ms_16, ms_17, ms_20, ms_21, ms_23, ms_24, hwF, hcl, hfty, tyX1, tyX3, tyX6, tyX9, tyX10, tyJ0, tyJ4, hfit, hcmp, hnar, hres, hst, hacp, kz, kof, kn0, kn1, Bool.not_true, Bool.not_false, true_and, and_true, Nat.zero_add, Nat.reduceAdd, List.length_cons, List.length_nil, true_or, or_true, false_or, or_false, decide_true, decide_false, ne_eq, not_true_eq_false, not_false_eq_true, ki_0, ki_1, ki_2, ki_3, ki_4, ki_5, kb_m100, kb_m10, kb_m9, kb_m8, kb_m7, kb_m6, kb_m5, kb_m4, kb_m3, kb_m2, kb_6, kb_7, kb_8, kb_9, kb_10, kb_12, kb_13, kb_16, kb_27, kb_31, kb_32, kb_43, kb_45, kb_48, kb_57, kb_60, kb_63, kb_81, kb_97, kb_99, kb_100, kb_120, kb_126, ks_m1000, ks_243, ks_255, ks_729, ks_1000, ks_2000, ks_2187, ks_6561, ks_9840, ks_9841, kl_0, kl_1, k0, kp, kF, c_k, f_k, pw, s_k, hks, nI_add, pk_mul]
          refine ⟨vp_in_nI (by omega) (by omega), ?_⟩
          refine hP 5 _ rfl _ _ _ _ _ _ ?_
          simp only [bX10_encodeLeft_5, hrun, hx, hnth, hput, hok, hcat2, hldI, hldL, hldR, hpI, hpL, hpA, hpR, hp1, hpV, hrtI, hrtL, hrtR, hrtV, hpN, hck, hrI, hrB, hrL, hrA, hwI, hwA, hwB, hrN, mf_0, mf_1, mf_2, mf_3, mf_4, mf_5, mf_6, mf_7, mf_8, mf_9, mf_10, mf_11, mf_12, mf_13, mf_14, mf_15, mf_16, mf_17, mf_18, mf_19, mf_20, mf_21, mf_22, mf_23, mf_24, mf_25, mf_26, mf_27, mf_28, mf_29, ms_11, ms_16, ms_17, ms_20, ms_21, ms_23, ms_24, hwF, hcl, hfty, tyX1, tyX3, tyX6, tyX9, tyX10, tyJ0, tyJ4, hfit, hcmp, hnar, hres, hst, hacp, kz, kof, kn0, kn1, Bool.not_true, Bool.not_false, true_and, and_true, Nat.zero_add, Nat.reduceAdd, List.length_cons, List.length_nil, true_or, or_true, false_or, or_false, decide_true, decide_false, ne_eq, not_true_eq_false, not_false_eq_true, ki_0, ki_1, ki_2, ki_3, ki_4, ki_5, kb_m100, kb_m10, kb_m9, kb_m8, kb_m7, kb_m6, kb_m5, kb_m4, kb_m3, kb_m2, kb_6, kb_7, kb_8, kb_9, kb_10, kb_12, kb_13, kb_16, kb_27, kb_31, kb_32, kb_43, kb_45, kb_48, kb_57, kb_60, kb_63, kb_81, kb_97, kb_99, kb_100, kb_120, kb_126, ks_m1000, ks_243, ks_255, ks_729, ks_1000, ks_2000, ks_2187, ks_6561, ks_9840, ks_9841, kl_0, kl_1, k0, kp, kF, c_k, f_k, pw, s_k, hks, nI_add, pk_mul]
          rw [if_pos (by omega), hv1] at hE
          exact hE
        · try simp (disch := omega) only [nI_ltI, nI_leI, nI_eq, Nat.not_lt, Nat.not_le] at b25
          refine hP 3 _ rfl _ _ _ _ _ _ ?_
          simp only [bX10_encodeLeft_3, hrun, hx, hnth, hput, hok, hcat2, hldI, hldL, hldR, hpI, hpL, hpA, hpR, hp1, hpV, hrtI, hrtL, hrtR, hrtV, hpN, hck, hrI, hrB, hrL, hrA, hwI, hwA, hwB, hrN, mf_0, mf_1, mf_2, mf_3, mf_4, mf_5, mf_6, mf_7, mf_8, mf_9, mf_10, mf_11, mf_12, mf_13, mf_14, mf_15, mf_16, mf_17, mf_18, mf_19, mf_20, mf_21, mf_22, mf_23, mf_24, mf_25, mf_26, mf_27, mf_28, mf_29, ms_11, ms_16, ms_17, ms_20, ms_21, ms_23, ms_24, hwF, hcl, hfty, tyX1, tyX3, tyX6, tyX9, tyX10, tyJ0, tyJ4, hfit, hcmp, hnar, hres, hst, hacp, kz, kof, kn0, kn1, Bool.not_true, Bool.not_false, true_and, and_true, Nat.zero_add, Nat.reduceAdd, List.length_cons, List.length_nil, true_or, or_true, false_or, or_false, decide_true, decide_false, ne_eq, not_true_eq_false, not_false_eq_true, ki_0, ki_1, ki_2, ki_3, ki_4, ki_5, kb_m100, kb_m10, kb_m9, kb_m8, kb_m7, kb_m6, kb_m5, kb_m4, kb_m3, kb_m2, kb_6, kb_7, kb_8, kb_9, kb_10, kb_12, kb_13, kb_16, kb_27, kb_31, kb_32, kb_43, kb_45, kb_48, kb_57, kb_60, kb_63, kb_81, kb_97, kb_99, kb_100, kb_120, kb_126, ks_m1000, ks_243, ks_255, ks_729, ks_1000, ks_2000, ks_2187, ks_6561, ks_9840, ks_9841, kl_0, kl_1, k0, kp, kF, c_k, f_k, pw, s_k, hks, nI_add, pk_mul]
          refine ⟨vp_in_nI (by omega) (by omega), ?_⟩
          refine ⟨vp_in_nI (by omega) (by omega), ?_⟩
          refine hP 5 _ rfl _ _ _ _ _ _ ?_
          simp only [bX10_encodeLeft_5, hrun, hx, hnth, hput, hok, hcat2, hldI, hldL, hldR, hpI, hpL, hpA, hpR, hp1, hpV, hrtI, hrtL, hrtR, hrtV, hpN, hck, hrI, hrB, hrL, hrA, hwI, hwA, hwB, hrN, mf_0, mf_1, mf_2, mf_3, mf_4, mf_5, mf_6, mf_7, mf_8, mf_9, mf_10, mf_11, mf_12, mf_13, mf_14, mf_15, mf_16, mf_17, mf_18, mf_19, mf_20, mf_21, mf_22, mf_23, mf_24, mf_25, mf_26, mf_27, mf_28, mf_29, ms_11, ms_16, ms_17, ms_20, ms_21, ms_23, ms_24, hwF, hcl, hfty, tyX1, tyX3, tyX6, tyX9, tyX10, tyJ0, tyJ4, hfit, hcmp, hnar, hres, hst, hacp, kz, kof, kn0, kn1, Bool.not_true, Bool.not_false, true_and, and_true, Nat.zero_add, Nat.reduceAdd, List.length_cons, List.length_nil, true_or, or_true, false_or, or_false, decide_true, decide_false, ne_eq, not_true_eq_false, not_false_eq_true, ki_0, ki_1, ki_2, ki_3, ki_4, ki_5, kb_m100, kb_m10, kb_m9, kb_m8, kb_m7, kb_m6, kb_m5, kb_m4, kb_m3, kb_m2, kb_6, kb_7, kb_8, kb_9, kb_10, kb_12, kb_13, kb_16, kb_27, kb_31, kb_32, kb_43, kb_45, kb_48, kb_57, kb_60, kb_63, kb_81, kb_97, kb_99, kb_100, kb_120, kb_126, ks_m1000, ks_243, ks_255, ks_729, ks_1000, ks_2000, ks_2187, ks_6561, ks_9840, ks_9841, kl_0, kl_1, k0, kp, kF, c_k, f_k, pw, s_k, hks, nI_add, pk_mul]
          rw [if_neg (by omega), hv2] at hE
          exact hE
  have ev0 : mvl (mlw u m 0) = u 0 := by show 3 * 0 + u 0 = u 0; omega
  refine hP 0 _ rfl _ _ _ _ _ _ ?_
  simp only [bX10_encodeLeft_0, hrun, hx, hnth, hput, hok, hcat2, hldI, hldL, hldR, hpI, hpL, hpA, hpR, hp1, hpV, hrtI, hrtL, hrtR, hrtV, hpN, hck, hrI, hrB, hrL, hrA, hwI, hwA, hwB, hrN, mf_0, mf_1, mf_2, mf_3, mf_4, mf_5, mf_6, mf_7, mf_8, mf_9, mf_10, mf_11, mf_12, mf_13, mf_14, mf_15, mf_16, mf_17, mf_18, mf_19, mf_20, mf_21, mf_22, mf_23, mf_24, mf_25, mf_26, mf_27, mf_28, mf_29, ms_11, ms_16, ms_17, ms_20, ms_21, ms_23, ms_24, hwF, hcl, hfty, tyX1, tyX3, tyX6, tyX9, tyX10, tyJ0, tyJ4, hfit, hcmp, hnar, hres, hst, hacp, kz, kof, kn0, kn1, Bool.not_true, Bool.not_false, true_and, and_true, Nat.zero_add, Nat.reduceAdd, List.length_cons, List.length_nil, true_or, or_true, false_or, or_false, decide_true, decide_false, ne_eq, not_true_eq_false, not_false_eq_true, ki_0, ki_1, ki_2, ki_3, ki_4, ki_5, kb_m100, kb_m10, kb_m9, kb_m8, kb_m7, kb_m6, kb_m5, kb_m4, kb_m3, kb_m2, kb_6, kb_7, kb_8, kb_9, kb_10, kb_12, kb_13, kb_16, kb_27, kb_31, kb_32, kb_43, kb_45, kb_48, kb_57, kb_60, kb_63, kb_81, kb_97, kb_99, kb_100, kb_120, kb_126, ks_m1000, ks_243, ks_255, ks_729, ks_1000, ks_2000, ks_2187, ks_6561, ks_9840, ks_9841, kl_0, kl_1, k0, kF, c_0, f_0]
  refine ⟨vp_in_nI (by omega) (by omega), ?_⟩
  have := loop _ 0 rfl (by omega)
  rw [ev0] at this
  exact this
theorem mfo_add {st : Nat × Int → (Nat → Int64) → Nat → Int64} {γ : Nat × Int → Nat → Int64} (hst : ∀ q f c, st q f c = f c + γ q c) (c : Nat) : ∀ (L : List (Nat × Int)) (f : Nat → Int64), mfo st L f c = f c + smL L (fun q => γ q c)
  | [], f => (Int64.add_zero _).symm
  | q :: L, f => by
    show mfo st L (st q f) c = _
    rw [mfo_add hst c L, hst, smL_cons, Int64.add_assoc]
def stB (q : Nat × Int) (f : Nat → Int64) : Nat → Int64 := mlbr (mat (mdec q.1)) (mdec q.1).length (Int64.ofInt q.2) f (2 ^ ((mdec q.1).length - 1))
def stN (q : Nat × Int) (f : Nat → Int64) : Nat → Int64 := padd f q.1 (-((nI (mdec q.1).length).toInt64 * Int64.ofInt q.2))
theorem stL_BN {L : List (Nat × Int)} (hL : ∀ q ∈ L, 1 ≤ (mdec q.1).length ∧ (mdec q.1).length ≤ 8) (c : Nat) : mfo stL L (fun _ => 0) c = mfo stN L (mfo stB L (fun _ => 0)) c := by
  have e : ∀ k, k < 9 → (-(nI k)).toInt64 = -((nI k).toInt64) := by decide +kernel
  have h1 : ∀ (L : List (Nat × Int)) (f : Nat → Int64), (∀ q ∈ L, 1 ≤ (mdec q.1).length ∧ (mdec q.1).length ≤ 8) → mfo stL L f c = f c + (smL L (fun q => sN (2 ^ ((mdec q.1).length - 1)) (fun m => if c = menc (mswp (mat (mdec q.1)) 0 m 8 0 (mdec q.1).length) then (if mpop m % 2 = 0 then Int64.ofInt q.2 else -(Int64.ofInt q.2)) else 0)) + smL L (fun q => if c = q.1 then -((nI (mdec q.1).length).toInt64 * Int64.ofInt q.2) else 0)) := by
    intro L
    induction L with
    | nil => intro f _; show f c = f c + ((0 : Int64) + 0); rw [Int64.add_zero, Int64.add_zero]
    | cons q L ih =>
      intro f hq
      have hq1 := hq q List.mem_cons_self
      show mfo stL L (stL q f) c = _
      rw [ih _ (fun r hr => hq r (List.mem_cons_of_mem _ hr)), smL_cons, smL_cons]
      unfold stL
      rw [paddc, mbrk_c, e _ (by omega), Int64.neg_mul]
      simp only [Int64.add_assoc]
      congr 2
      rw [← Int64.add_assoc, ← Int64.add_assoc, Int64.add_comm (if c = q.1 then _ else _)]
  rw [h1 L _ hL]
  rw [mfo_add (st := stN) (γ := fun q c => if c = q.1 then -((nI (mdec q.1).length).toInt64 * Int64.ofInt q.2) else 0) (fun q f c => paddc f c q.1 _) c L, ← Int64.add_assoc]
  congr 1
  have h2 : ∀ (L : List (Nat × Int)) (f : Nat → Int64), (∀ q ∈ L, 1 ≤ (mdec q.1).length ∧ (mdec q.1).length ≤ 8) → mfo stB L f c = f c + smL L (fun q => sN (2 ^ ((mdec q.1).length - 1)) (fun m => if c = menc (mswp (mat (mdec q.1)) 0 m 8 0 (mdec q.1).length) then (if mpop m % 2 = 0 then Int64.ofInt q.2 else -(Int64.ofInt q.2)) else 0)) := by
    intro L
    induction L with
    | nil => intro f _; exact (Int64.add_zero _).symm
    | cons q L ih =>
      intro f hq
      have hq1 := hq q List.mem_cons_self
      show mfo stB L (stB q f) c = _
      rw [ih _ (fun r hr => hq r (List.mem_cons_of_mem _ hr)), smL_cons]
      unfold stB
      rw [mlbr_eq _ hq1.1 hq1.2, mbrk_c, Int64.add_assoc]
  exact (h2 L (fun _ => 0) hL).symm
set_option maxRecDepth 100000 in
set_option maxHeartbeats 4000000 in
theorem c_m_isLie (hg : hgo g) (hd : 30 ≤ d) {S : cS} (hS : hY w S) {x : Int32} (h : ∀ w', hY w' (sp_isLie S x).2 → mfy w w' → Q (some (.int (sp_isLie S x).1)) N c s w') : Γ g d yX10_isLie [.ref 47, .int x] N c s w Q := by
  refine Γ.intro0 hg kX10_isLie (by omega) (Nat.le_of_ble_eq_true rfl) (fun P hP => ?_)
  show P N 0 0 w 0 [some (.ref 47), some (.int x), none, none, none] []
  cases hq_x : ixn 5 x with
  | none =>
    have hr_x := ixn_none hq_x
    simp only [sp_isLie, hq_x] at h
    refine hP 0 _ rfl _ _ _ _ _ _ ?_
    simp only [bX10_isLie_0, hrun, hx, hnth, hput, hok, hcat2, hldI, hldL, hldR, hpI, hpL, hpA, hpR, hp1, hpV, hrtI, hrtL, hrtR, hrtV, hpN, hck, hrI, hrB, hrL, hrA, hwI, hwA, hwB, hrN, mf_0, mf_1, mf_2, mf_3, mf_4, mf_5, mf_6, mf_7, mf_8, mf_9, mf_10, mf_11, mf_12, mf_13, mf_14, mf_15, mf_16, mf_17, mf_18, mf_19, mf_20, mf_21, mf_22, mf_23, mf_24, mf_25, mf_26, mf_27, mf_28, mf_29, ms_11, ms_16, ms_17, ms_20, ms_21, ms_23, ms_24, hwF, hcl, hfty, tyX1, tyX3, tyX6, tyX9, tyX10, tyJ0, tyJ4, hfit, hcmp, hnar, hres, hst, hacp, kz, kof, kn0, kn1, Bool.not_true, Bool.not_false, true_and, and_true, Nat.zero_add, Nat.reduceAdd, List.length_cons, List.length_nil, true_or, or_true, false_or, or_false, decide_true, decide_false, ne_eq, not_true_eq_false, not_false_eq_true, ki_0, ki_1, ki_2, ki_3, ki_4, ki_5, kb_m100, kb_m10, kb_m9, kb_m8, kb_m7, kb_m6, kb_m5, kb_m4, kb_m3, kb_m2, kb_6, kb_7, kb_8, kb_9, kb_10, kb_12, kb_13, kb_16, kb_27, kb_31, kb_32, kb_43, kb_45, kb_48, kb_57, kb_60, kb_63, kb_81, kb_97, kb_99, kb_100, kb_120, kb_126, ks_m1000, ks_243, ks_255, ks_729, ks_1000, ks_2000, ks_2187, ks_6561, ks_9840, ks_9841, kl_0, kl_1]
    refine c_m_isRegisterN hg (by omega) hr_x ?_
    simp only [hrun, hx, hnth, hput, hok, hcat2, hldI, hldL, hldR, hpI, hpL, hpA, hpR, hp1, hpV, hrtI, hrtL, hrtR, hrtV, hpN, hck, hrI, hrB, hrL, hrA, hwI, hwA, hwB, hrN, mf_0, mf_1, mf_2, mf_3, mf_4, mf_5, mf_6, mf_7, mf_8, mf_9, mf_10, mf_11, mf_12, mf_13, mf_14, mf_15, mf_16, mf_17, mf_18, mf_19, mf_20, mf_21, mf_22, mf_23, mf_24, mf_25, mf_26, mf_27, mf_28, mf_29, ms_11, ms_16, ms_17, ms_20, ms_21, ms_23, ms_24, hwF, hcl, hfty, tyX1, tyX3, tyX6, tyX9, tyX10, tyJ0, tyJ4, hfit, hcmp, hnar, hres, hst, hacp, kz, kof, kn0, kn1, Bool.not_true, Bool.not_false, true_and, and_true, Nat.zero_add, Nat.reduceAdd, List.length_cons, List.length_nil, true_or, or_true, false_or, or_false, decide_true, decide_false, ne_eq, not_true_eq_false, not_false_eq_true, ki_0, ki_1, ki_2, ki_3, ki_4, ki_5, kb_m100, kb_m10, kb_m9, kb_m8, kb_m7, kb_m6, kb_m5, kb_m4, kb_m3, kb_m2, kb_6, kb_7, kb_8, kb_9, kb_10, kb_12, kb_13, kb_16, kb_27, kb_31, kb_32, kb_43, kb_45, kb_48, kb_57, kb_60, kb_63, kb_81, kb_97, kb_99, kb_100, kb_120, kb_126, ks_m1000, ks_243, ks_255, ks_729, ks_1000, ks_2000, ks_2187, ks_6561, ks_9840, ks_9841, kl_0, kl_1]
    refine ⟨fun b4 => ?_, fun b4 => ?_⟩
    · (try simp (disch := omega) only [nI_ltI, nI_leI, nI_eq, Nat.not_lt, Nat.not_le] at b4) <;> (exfalso; omega)
    · try simp (disch := omega) only [nI_ltI, nI_leI, nI_eq, Nat.not_lt, Nat.not_le] at b4
      refine hP 1 _ rfl _ _ _ _ _ _ ?_
      simp only [bX10_isLie_1, hrun, hx, hnth, hput, hok, hcat2, hldI, hldL, hldR, hpI, hpL, hpA, hpR, hp1, hpV, hrtI, hrtL, hrtR, hrtV, hpN, hck, hrI, hrB, hrL, hrA, hwI, hwA, hwB, hrN, mf_0, mf_1, mf_2, mf_3, mf_4, mf_5, mf_6, mf_7, mf_8, mf_9, mf_10, mf_11, mf_12, mf_13, mf_14, mf_15, mf_16, mf_17, mf_18, mf_19, mf_20, mf_21, mf_22, mf_23, mf_24, mf_25, mf_26, mf_27, mf_28, mf_29, ms_11, ms_16, ms_17, ms_20, ms_21, ms_23, ms_24, hwF, hcl, hfty, tyX1, tyX3, tyX6, tyX9, tyX10, tyJ0, tyJ4, hfit, hcmp, hnar, hres, hst, hacp, kz, kof, kn0, kn1, Bool.not_true, Bool.not_false, true_and, and_true, Nat.zero_add, Nat.reduceAdd, List.length_cons, List.length_nil, true_or, or_true, false_or, or_false, decide_true, decide_false, ne_eq, not_true_eq_false, not_false_eq_true, ki_0, ki_1, ki_2, ki_3, ki_4, ki_5, kb_m100, kb_m10, kb_m9, kb_m8, kb_m7, kb_m6, kb_m5, kb_m4, kb_m3, kb_m2, kb_6, kb_7, kb_8, kb_9, kb_10, kb_12, kb_13, kb_16, kb_27, kb_31, kb_32, kb_43, kb_45, kb_48, kb_57, kb_60, kb_63, kb_81, kb_97, kb_99, kb_100, kb_120, kb_126, ks_m1000, ks_243, ks_255, ks_729, ks_1000, ks_2000, ks_2187, ks_6561, ks_9840, ks_9841, kl_0, kl_1]
      exact h w hS mfy.rf
  | some i =>
    obtain ⟨h_i, hrfl_i⟩ := ixn_some (by omega) hq_x
    subst hrfl_i
    obtain ⟨hr, f9, hf9⟩ := id hS
    obtain ⟨⟨ls, ⟨ml, ns, at9, k0⟩, kp, hLm9, hW1, hW2, hR1, hR2, hI9, hO9⟩, hz⟩ := id hr
    obtain ⟨⟨F, k1, hF⟩, k2, hFr⟩ := id hW1
    obtain ⟨⟨FC, kC, hFC⟩, kW, kK, hRr⟩ := id hR1
    have e_i := nI_clamp (n := i) (by omega)
    obtain ⟨hP_i, cf_i, nf_i, kw_i, kk_i, hc_i⟩ := hRr i h_i
    have f_i := hFC i h_i
    simp only [sp_isLie, hq_x] at h
    have hL120 := hP_i.1
    have loop3 : ∀ (R : Nat → Int64), (∀ z : Int32, (z = nI 1 ↔ ∀ c, c < 9841 → R c = 0) → (z = nI 1 ∨ z = nI 0) → ∀ w', hY w' S → mfy w w' → Q (some (.int z)) N c s w') → ∀ (n m : Nat) (w1 : hWd) (x3 x4 : Option Value), 9841 - m = n → m ≤ 9841 → hYr w1 S → hMs w1 R → mfy w w1 → (∀ c, c < m → R c = 0) → P N 0 0 w1 161 [some (.ref 47), some (.int (nI i)), some (.int (nI m)), x3, x4] [] := by
      intro R hh n
      induction n with
      | zero =>
        intro m w1 x3 x4 hn hm hr1 hs1 hm1 hz0
        obtain rfl : m = 9841 := by omega
        have h9 := hh (nI 1) (iff_of_true rfl hz0) (Or.inl rfl) w1 ⟨hr1, R, hs1⟩ hm1
        refine hP 14 _ rfl _ _ _ _ _ _ ?_
        simp only [bX10_isLie_14, hrun, hx, hnth, hput, hok, hcat2, hldI, hldL, hldR, hpI, hpL, hpA, hpR, hp1, hpV, hrtI, hrtL, hrtR, hrtV, hpN, hck, hrI, hrB, hrL, hrA, hwI, hwA, hwB, hrN, mf_0, mf_1, mf_2, mf_3, mf_4, mf_5, mf_6, mf_7, mf_8, mf_9, mf_10, mf_11, mf_12, mf_13, mf_14, mf_15, mf_16, mf_17, mf_18, mf_19, mf_20, mf_21, mf_22, mf_23, mf_24, mf_25, mf_26, mf_27, mf_28, mf_29, ms_11, ms_16, ms_17, ms_20, ms_21, ms_23, ms_24, hwF, hcl, hfty, tyX1, tyX3, tyX6, tyX9, tyX10, tyJ0, tyJ4, hfit, hcmp, hnar, hres, hst, hacp, kz, kof, kn0, kn1, Bool.not_true, Bool.not_false, true_and, and_true, Nat.zero_add, Nat.reduceAdd, List.length_cons, List.length_nil, true_or, or_true, false_or, or_false, decide_true, decide_false, ne_eq, not_true_eq_false, not_false_eq_true, ki_0, ki_1, ki_2, ki_3, ki_4, ki_5, kb_m100, kb_m10, kb_m9, kb_m8, kb_m7, kb_m6, kb_m5, kb_m4, kb_m3, kb_m2, kb_6, kb_7, kb_8, kb_9, kb_10, kb_12, kb_13, kb_16, kb_27, kb_31, kb_32, kb_43, kb_45, kb_48, kb_57, kb_60, kb_63, kb_81, kb_97, kb_99, kb_100, kb_120, kb_126, ks_m1000, ks_243, ks_255, ks_729, ks_1000, ks_2000, ks_2187, ks_6561, ks_9840, ks_9841, kl_0, kl_1]
        refine ⟨fun b165 => ?_, fun b165 => ?_⟩
        · try simp (disch := omega) only [nI_ltI, nI_leI, nI_eq, Nat.not_lt, Nat.not_le] at b165
          refine hP 18 _ rfl _ _ _ _ _ _ ?_
          simp only [bX10_isLie_18, hrun, hx, hnth, hput, hok, hcat2, hldI, hldL, hldR, hpI, hpL, hpA, hpR, hp1, hpV, hrtI, hrtL, hrtR, hrtV, hpN, hck, hrI, hrB, hrL, hrA, hwI, hwA, hwB, hrN, mf_0, mf_1, mf_2, mf_3, mf_4, mf_5, mf_6, mf_7, mf_8, mf_9, mf_10, mf_11, mf_12, mf_13, mf_14, mf_15, mf_16, mf_17, mf_18, mf_19, mf_20, mf_21, mf_22, mf_23, mf_24, mf_25, mf_26, mf_27, mf_28, mf_29, ms_11, ms_16, ms_17, ms_20, ms_21, ms_23, ms_24, hwF, hcl, hfty, tyX1, tyX3, tyX6, tyX9, tyX10, tyJ0, tyJ4, hfit, hcmp, hnar, hres, hst, hacp, kz, kof, kn0, kn1, Bool.not_true, Bool.not_false, true_and, and_true, Nat.zero_add, Nat.reduceAdd, List.length_cons, List.length_nil, true_or, or_true, false_or, or_false, decide_true, decide_false, ne_eq, not_true_eq_false, not_false_eq_true, ki_0, ki_1, ki_2, ki_3, ki_4, ki_5, kb_m100, kb_m10, kb_m9, kb_m8, kb_m7, kb_m6, kb_m5, kb_m4, kb_m3, kb_m2, kb_6, kb_7, kb_8, kb_9, kb_10, kb_12, kb_13, kb_16, kb_27, kb_31, kb_32, kb_43, kb_45, kb_48, kb_57, kb_60, kb_63, kb_81, kb_97, kb_99, kb_100, kb_120, kb_126, ks_m1000, ks_243, ks_255, ks_729, ks_1000, ks_2000, ks_2187, ks_6561, ks_9840, ks_9841, kl_0, kl_1]
          exact h9
        · (try simp (disch := omega) only [nI_ltI, nI_leI, nI_eq, Nat.not_lt, Nat.not_le] at b165) <;> (exfalso; omega)
      | succ n ih =>
        intro m w1 x3 x4 hn hm hr1 hs1 hm1 hz0
        obtain ⟨⟨ml2, ls2, ns2, il2, at2, ol2, sv2, k02⟩, kp2⟩ := hr1.M
        obtain ⟨G, kG, hG9⟩ := id hs1
        have e_m := nI_clamp (n := m) (by omega)
        have hGm := hG9 m (by omega)
        by_cases q : R m = 0
        · have hz0' : R m = lN 0 := q
          refine hP 14 _ rfl _ _ _ _ _ _ ?_
          simp only [bX10_isLie_14, hrun, hx, hnth, hput, hok, hcat2, hldI, hldL, hldR, hpI, hpL, hpA, hpR, hp1, hpV, hrtI, hrtL, hrtR, hrtV, hpN, hck, hrI, hrB, hrL, hrA, hwI, hwA, hwB, hrN, mf_0, mf_1, mf_2, mf_3, mf_4, mf_5, mf_6, mf_7, mf_8, mf_9, mf_10, mf_11, mf_12, mf_13, mf_14, mf_15, mf_16, mf_17, mf_18, mf_19, mf_20, mf_21, mf_22, mf_23, mf_24, mf_25, mf_26, mf_27, mf_28, mf_29, ms_11, ms_16, ms_17, ms_20, ms_21, ms_23, ms_24, hwF, hcl, hfty, tyX1, tyX3, tyX6, tyX9, tyX10, tyJ0, tyJ4, hfit, hcmp, hnar, hres, hst, hacp, kz, kof, kn0, kn1, Bool.not_true, Bool.not_false, true_and, and_true, Nat.zero_add, Nat.reduceAdd, List.length_cons, List.length_nil, true_or, or_true, false_or, or_false, decide_true, decide_false, ne_eq, not_true_eq_false, not_false_eq_true, ki_0, ki_1, ki_2, ki_3, ki_4, ki_5, kb_m100, kb_m10, kb_m9, kb_m8, kb_m7, kb_m6, kb_m5, kb_m4, kb_m3, kb_m2, kb_6, kb_7, kb_8, kb_9, kb_10, kb_12, kb_13, kb_16, kb_27, kb_31, kb_32, kb_43, kb_45, kb_48, kb_57, kb_60, kb_63, kb_81, kb_97, kb_99, kb_100, kb_120, kb_126, ks_m1000, ks_243, ks_255, ks_729, ks_1000, ks_2000, ks_2187, ks_6561, ks_9840, ks_9841, kl_0, kl_1, k02, kG, e_m, hGm]
          refine ⟨fun b165 => ?_, fun b165 => ?_⟩
          · (try simp (disch := omega) only [nI_ltI, nI_leI, nI_eq, Nat.not_lt, Nat.not_le, lcmp_eq] at b165) <;> (exfalso; omega)
          · try simp (disch := omega) only [nI_ltI, nI_leI, nI_eq, Nat.not_lt, Nat.not_le, lcmp_eq] at b165
            refine hP 15 _ rfl _ _ _ _ _ _ ?_
            simp only [bX10_isLie_15, hrun, hx, hnth, hput, hok, hcat2, hldI, hldL, hldR, hpI, hpL, hpA, hpR, hp1, hpV, hrtI, hrtL, hrtR, hrtV, hpN, hck, hrI, hrB, hrL, hrA, hwI, hwA, hwB, hrN, mf_0, mf_1, mf_2, mf_3, mf_4, mf_5, mf_6, mf_7, mf_8, mf_9, mf_10, mf_11, mf_12, mf_13, mf_14, mf_15, mf_16, mf_17, mf_18, mf_19, mf_20, mf_21, mf_22, mf_23, mf_24, mf_25, mf_26, mf_27, mf_28, mf_29, ms_11, ms_16, ms_17, ms_20, ms_21, ms_23, ms_24, hwF, hcl, hfty, tyX1, tyX3, tyX6, tyX9, tyX10, tyJ0, tyJ4, hfit, hcmp, hnar, hres, hst, hacp, kz, kof, kn0, kn1, Bool.not_true, Bool.not_false, true_and, and_true, Nat.zero_add, Nat.reduceAdd, List.length_cons, List.length_nil, true_or, or_true, false_or, or_false, decide_true, decide_false, ne_eq, not_true_eq_false, not_false_eq_true, ki_0, ki_1, ki_2, ki_3, ki_4, ki_5, kb_m100, kb_m10, kb_m9, kb_m8, kb_m7, kb_m6, kb_m5, kb_m4, kb_m3, kb_m2, kb_6, kb_7, kb_8, kb_9, kb_10, kb_12, kb_13, kb_16, kb_27, kb_31, kb_32, kb_43, kb_45, kb_48, kb_57, kb_60, kb_63, kb_81, kb_97, kb_99, kb_100, kb_120, kb_126, ks_m1000, ks_243, ks_255, ks_729, ks_1000, ks_2000, ks_2187, ks_6561, ks_9840, ks_9841, kl_0, kl_1, k02, kG, e_m, hGm]
            refine ⟨vp_in_nI (by omega) (by omega), ?_⟩
            refine ⟨fun b176 => ?_, fun b176 => ?_⟩
            · try simp (disch := omega) only [nI_ltI, nI_leI, nI_eq, Nat.not_lt, Nat.not_le, lcmp_eq] at b176
              refine hP 17 _ rfl _ _ _ _ _ _ ?_
              simp only [bX10_isLie_17, hrun, hx, hnth, hput, hok, hcat2, hldI, hldL, hldR, hpI, hpL, hpA, hpR, hp1, hpV, hrtI, hrtL, hrtR, hrtV, hpN, hck, hrI, hrB, hrL, hrA, hwI, hwA, hwB, hrN, mf_0, mf_1, mf_2, mf_3, mf_4, mf_5, mf_6, mf_7, mf_8, mf_9, mf_10, mf_11, mf_12, mf_13, mf_14, mf_15, mf_16, mf_17, mf_18, mf_19, mf_20, mf_21, mf_22, mf_23, mf_24, mf_25, mf_26, mf_27, mf_28, mf_29, ms_11, ms_16, ms_17, ms_20, ms_21, ms_23, ms_24, hwF, hcl, hfty, tyX1, tyX3, tyX6, tyX9, tyX10, tyJ0, tyJ4, hfit, hcmp, hnar, hres, hst, hacp, kz, kof, kn0, kn1, Bool.not_true, Bool.not_false, true_and, and_true, Nat.zero_add, Nat.reduceAdd, List.length_cons, List.length_nil, true_or, or_true, false_or, or_false, decide_true, decide_false, ne_eq, not_true_eq_false, not_false_eq_true, ki_0, ki_1, ki_2, ki_3, ki_4, ki_5, kb_m100, kb_m10, kb_m9, kb_m8, kb_m7, kb_m6, kb_m5, kb_m4, kb_m3, kb_m2, kb_6, kb_7, kb_8, kb_9, kb_10, kb_12, kb_13, kb_16, kb_27, kb_31, kb_32, kb_43, kb_45, kb_48, kb_57, kb_60, kb_63, kb_81, kb_97, kb_99, kb_100, kb_120, kb_126, ks_m1000, ks_243, ks_255, ks_729, ks_1000, ks_2000, ks_2187, ks_6561, ks_9840, ks_9841, kl_0, kl_1, k02, kG, e_m, hGm]
              rw [nI_add]
              refine ih (m + 1) w1 _ _ (by omega) (by omega) hr1 hs1 hm1 (fun c hc => ?_)
              by_cases q9 : c = m
              · rw [q9]; exact q
              · exact hz0 c (by omega)
            · try simp (disch := omega) only [nI_ltI, nI_leI, nI_eq, Nat.not_lt, Nat.not_le, lcmp_eq] at b176
              exact (b176 hz0').elim
        · have h9 := hh (nI 0) (iff_of_false (by decide +kernel) (fun z => q (z m (by omega)))) (Or.inr rfl) w1 ⟨hr1, R, hs1⟩ hm1
          refine hP 14 _ rfl _ _ _ _ _ _ ?_
          simp only [bX10_isLie_14, hrun, hx, hnth, hput, hok, hcat2, hldI, hldL, hldR, hpI, hpL, hpA, hpR, hp1, hpV, hrtI, hrtL, hrtR, hrtV, hpN, hck, hrI, hrB, hrL, hrA, hwI, hwA, hwB, hrN, mf_0, mf_1, mf_2, mf_3, mf_4, mf_5, mf_6, mf_7, mf_8, mf_9, mf_10, mf_11, mf_12, mf_13, mf_14, mf_15, mf_16, mf_17, mf_18, mf_19, mf_20, mf_21, mf_22, mf_23, mf_24, mf_25, mf_26, mf_27, mf_28, mf_29, ms_11, ms_16, ms_17, ms_20, ms_21, ms_23, ms_24, hwF, hcl, hfty, tyX1, tyX3, tyX6, tyX9, tyX10, tyJ0, tyJ4, hfit, hcmp, hnar, hres, hst, hacp, kz, kof, kn0, kn1, Bool.not_true, Bool.not_false, true_and, and_true, Nat.zero_add, Nat.reduceAdd, List.length_cons, List.length_nil, true_or, or_true, false_or, or_false, decide_true, decide_false, ne_eq, not_true_eq_false, not_false_eq_true, ki_0, ki_1, ki_2, ki_3, ki_4, ki_5, kb_m100, kb_m10, kb_m9, kb_m8, kb_m7, kb_m6, kb_m5, kb_m4, kb_m3, kb_m2, kb_6, kb_7, kb_8, kb_9, kb_10, kb_12, kb_13, kb_16, kb_27, kb_31, kb_32, kb_43, kb_45, kb_48, kb_57, kb_60, kb_63, kb_81, kb_97, kb_99, kb_100, kb_120, kb_126, ks_m1000, ks_243, ks_255, ks_729, ks_1000, ks_2000, ks_2187, ks_6561, ks_9840, ks_9841, kl_0, kl_1, k02, kG, e_m, hGm]
          refine ⟨fun b165 => ?_, fun b165 => ?_⟩
          · (try simp (disch := omega) only [nI_ltI, nI_leI, nI_eq, Nat.not_lt, Nat.not_le, lcmp_eq] at b165) <;> (exfalso; omega)
          · try simp (disch := omega) only [nI_ltI, nI_leI, nI_eq, Nat.not_lt, Nat.not_le, lcmp_eq] at b165
            refine hP 15 _ rfl _ _ _ _ _ _ ?_
            simp only [bX10_isLie_15, hrun, hx, hnth, hput, hok, hcat2, hldI, hldL, hldR, hpI, hpL, hpA, hpR, hp1, hpV, hrtI, hrtL, hrtR, hrtV, hpN, hck, hrI, hrB, hrL, hrA, hwI, hwA, hwB, hrN, mf_0, mf_1, mf_2, mf_3, mf_4, mf_5, mf_6, mf_7, mf_8, mf_9, mf_10, mf_11, mf_12, mf_13, mf_14, mf_15, mf_16, mf_17, mf_18, mf_19, mf_20, mf_21, mf_22, mf_23, mf_24, mf_25, mf_26, mf_27, mf_28, mf_29, ms_11, ms_16, ms_17, ms_20, ms_21, ms_23, ms_24, hwF, hcl, hfty, tyX1, tyX3, tyX6, tyX9, tyX10, tyJ0, tyJ4, hfit, hcmp, hnar, hres, hst, hacp, kz, kof, kn0, kn1, Bool.not_true, Bool.not_false, true_and, and_true, Nat.zero_add, Nat.reduceAdd, List.length_cons, List.length_nil, true_or, or_true, false_or, or_false, decide_true, decide_false, ne_eq, not_true_eq_false, not_false_eq_true, ki_0, ki_1, ki_2, ki_3, ki_4, ki_5, kb_m100, kb_m10, kb_m9, kb_m8, kb_m7, kb_m6, kb_m5, kb_m4, kb_m3, kb_m2, kb_6, kb_7, kb_8, kb_9, kb_10, kb_12, kb_13, kb_16, kb_27, kb_31, kb_32, kb_43, kb_45, kb_48, kb_57, kb_60, kb_63, kb_81, kb_97, kb_99, kb_100, kb_120, kb_126, ks_m1000, ks_243, ks_255, ks_729, ks_1000, ks_2000, ks_2187, ks_6561, ks_9840, ks_9841, kl_0, kl_1, k02, kG, e_m, hGm]
            refine ⟨vp_in_nI (by omega) (by omega), ?_⟩
            refine ⟨fun b176 => ?_, fun b176 => ?_⟩
            · try simp (disch := omega) only [nI_ltI, nI_leI, nI_eq, Nat.not_lt, Nat.not_le, lcmp_eq] at b176
              exact (q b176).elim
            · try simp (disch := omega) only [nI_ltI, nI_leI, nI_eq, Nat.not_lt, Nat.not_le, lcmp_eq] at b176
              refine hP 16 _ rfl _ _ _ _ _ _ ?_
              simp only [bX10_isLie_16, hrun, hx, hnth, hput, hok, hcat2, hldI, hldL, hldR, hpI, hpL, hpA, hpR, hp1, hpV, hrtI, hrtL, hrtR, hrtV, hpN, hck, hrI, hrB, hrL, hrA, hwI, hwA, hwB, hrN, mf_0, mf_1, mf_2, mf_3, mf_4, mf_5, mf_6, mf_7, mf_8, mf_9, mf_10, mf_11, mf_12, mf_13, mf_14, mf_15, mf_16, mf_17, mf_18, mf_19, mf_20, mf_21, mf_22, mf_23, mf_24, mf_25, mf_26, mf_27, mf_28, mf_29, ms_11, ms_16, ms_17, ms_20, ms_21, ms_23, ms_24, hwF, hcl, hfty, tyX1, tyX3, tyX6, tyX9, tyX10, tyJ0, tyJ4, hfit, hcmp, hnar, hres, hst, hacp, kz, kof, kn0, kn1, Bool.not_true, Bool.not_false, true_and, and_true, Nat.zero_add, Nat.reduceAdd, List.length_cons, List.length_nil, true_or, or_true, false_or, or_false, decide_true, decide_false, ne_eq, not_true_eq_false, not_false_eq_true, ki_0, ki_1, ki_2, ki_3, ki_4, ki_5, kb_m100, kb_m10, kb_m9, kb_m8, kb_m7, kb_m6, kb_m5, kb_m4, kb_m3, kb_m2, kb_6, kb_7, kb_8, kb_9, kb_10, kb_12, kb_13, kb_16, kb_27, kb_31, kb_32, kb_43, kb_45, kb_48, kb_57, kb_60, kb_63, kb_81, kb_97, kb_99, kb_100, kb_120, kb_126, ks_m1000, ks_243, ks_255, ks_729, ks_1000, ks_2000, ks_2187, ks_6561, ks_9840, ks_9841, kl_0, kl_1, k02, kG, e_m, hGm]
              exact h9
    by_cases h00 : Int64.ofInt (mcoef (S.rg i) 0) = lN 0
    · rw [if_pos h00] at h
      have hne := mcoef_0 hP_i h00
      have hlen : ∀ q ∈ S.rg i, 1 ≤ (mdec q.1).length ∧ (mdec q.1).length ≤ 8 := fun q hq => ⟨mdec_pos (hP_i.2.1 q hq).1 (hne q hq), (mdec_W (hP_i.2.1 q hq).1).1.1⟩
      have hBN := stL_BN hlen
      have loop2 : ∀ (n m : Nat) (w1 : hWd) (x3 x4 : Option Value), (S.rg i).length - m = n → m ≤ (S.rg i).length → hYr w1 S → hMs w1 (mfo stN ((S.rg i).take m) (mfo stB (S.rg i) (fun _ => 0))) → mfy w w1 → P N 0 0 w1 105 [some (.ref 47), some (.int (nI i)), some (.int (nI m)), x3, x4] [] := by
        intro n
        induction n with
        | zero =>
          intro m w1 x3 x4 hn hmm hr1 hs1 hm1
          obtain rfl : m = (S.rg i).length := by omega
          rw [List.take_length] at hs1
          obtain ⟨⟨ls1, ⟨ml1, ns1, at91, k01⟩, kp1, hLm91, hW11, hW21, hR11, hR21, hI91, hO91⟩, hz1⟩ := id hr1
          obtain ⟨⟨F1, k11, hF1⟩, k21, hFr1⟩ := id hW11
          obtain ⟨⟨FC1, kC1, hFC1⟩, kW1, kK1, hRr1⟩ := id hR11
          obtain ⟨hP_i1, cf_i1, nf_i1, kw_i1, kk_i1, hc_i1⟩ := hRr1 i h_i
          have f_i1 := hFC1 i h_i
          refine hP 11 _ rfl _ _ _ _ _ _ ?_
          simp only [bX10_isLie_11, hrun, hx, hnth, hput, hok, hcat2, hldI, hldL, hldR, hpI, hpL, hpA, hpR, hp1, hpV, hrtI, hrtL, hrtR, hrtV, hpN, hck, hrI, hrB, hrL, hrA, hwI, hwA, hwB, hrN, mf_0, mf_1, mf_2, mf_3, mf_4, mf_5, mf_6, mf_7, mf_8, mf_9, mf_10, mf_11, mf_12, mf_13, mf_14, mf_15, mf_16, mf_17, mf_18, mf_19, mf_20, mf_21, mf_22, mf_23, mf_24, mf_25, mf_26, mf_27, mf_28, mf_29, ms_11, ms_16, ms_17, ms_20, ms_21, ms_23, ms_24, hwF, hcl, hfty, tyX1, tyX3, tyX6, tyX9, tyX10, tyJ0, tyJ4, hfit, hcmp, hnar, hres, hst, hacp, kz, kof, kn0, kn1, Bool.not_true, Bool.not_false, true_and, and_true, Nat.zero_add, Nat.reduceAdd, List.length_cons, List.length_nil, true_or, or_true, false_or, or_false, decide_true, decide_false, ne_eq, not_true_eq_false, not_false_eq_true, ki_0, ki_1, ki_2, ki_3, ki_4, ki_5, kb_m100, kb_m10, kb_m9, kb_m8, kb_m7, kb_m6, kb_m5, kb_m4, kb_m3, kb_m2, kb_6, kb_7, kb_8, kb_9, kb_10, kb_12, kb_13, kb_16, kb_27, kb_31, kb_32, kb_43, kb_45, kb_48, kb_57, kb_60, kb_63, kb_81, kb_97, kb_99, kb_100, kb_120, kb_126, ks_m1000, ks_243, ks_255, ks_729, ks_1000, ks_2000, ks_2187, ks_6561, ks_9840, ks_9841, kl_0, kl_1, k01, kp1, kC1, kW1, kK1, va_rf, e_i, f_i1, kw_i1, kk_i1]
          refine ⟨vp_in_nI (by omega) (by omega), ?_⟩
          refine ⟨fun b112 => ?_, fun b112 => ?_⟩
          · try simp (disch := omega) only [nI_ltI, nI_leI, nI_eq, Nat.not_lt, Nat.not_le] at b112
            refine hP 13 _ rfl _ _ _ _ _ _ ?_
            simp only [bX10_isLie_13, hrun, hx, hnth, hput, hok, hcat2, hldI, hldL, hldR, hpI, hpL, hpA, hpR, hp1, hpV, hrtI, hrtL, hrtR, hrtV, hpN, hck, hrI, hrB, hrL, hrA, hwI, hwA, hwB, hrN, mf_0, mf_1, mf_2, mf_3, mf_4, mf_5, mf_6, mf_7, mf_8, mf_9, mf_10, mf_11, mf_12, mf_13, mf_14, mf_15, mf_16, mf_17, mf_18, mf_19, mf_20, mf_21, mf_22, mf_23, mf_24, mf_25, mf_26, mf_27, mf_28, mf_29, ms_11, ms_16, ms_17, ms_20, ms_21, ms_23, ms_24, hwF, hcl, hfty, tyX1, tyX3, tyX6, tyX9, tyX10, tyJ0, tyJ4, hfit, hcmp, hnar, hres, hst, hacp, kz, kof, kn0, kn1, Bool.not_true, Bool.not_false, true_and, and_true, Nat.zero_add, Nat.reduceAdd, List.length_cons, List.length_nil, true_or, or_true, false_or, or_false, decide_true, decide_false, ne_eq, not_true_eq_false, not_false_eq_true, ki_0, ki_1, ki_2, ki_3, ki_4, ki_5, kb_m100, kb_m10, kb_m9, kb_m8, kb_m7, kb_m6, kb_m5, kb_m4, kb_m3, kb_m2, kb_6, kb_7, kb_8, kb_9, kb_10, kb_12, kb_13, kb_16, kb_27, kb_31, kb_32, kb_43, kb_45, kb_48, kb_57, kb_60, kb_63, kb_81, kb_97, kb_99, kb_100, kb_120, kb_126, ks_m1000, ks_243, ks_255, ks_729, ks_1000, ks_2000, ks_2187, ks_6561, ks_9840, ks_9841, kl_0, kl_1, k01, kp1, kC1, kW1, kK1, va_rf, e_i, f_i1, kw_i1, kk_i1]
            refine loop3 _ (fun z hz1 hz2 w' hS' hm' => ?_) _ 0 w1 _ _ rfl (Nat.zero_le _) hr1 hs1 hm1 (fun c hc => by omega)
            have hz3 : (∀ c, c < 9841 → mfo stL (S.rg i) (fun _ => 0) c = 0) ↔ z = nI 1 := by
              rw [hz1]
              exact ⟨fun q c hc => (hBN c).symm.trans (q c hc), fun q c hc => (hBN c).trans (q c hc)⟩
            have h9 := h w' hS' hm'
            by_cases q : z = nI 1
            · rw [if_pos (hz3.mpr q)] at h9; rw [q]; exact h9
            · rw [if_neg (fun y => q (hz3.mp y))] at h9; rw [hz2.resolve_left q]; exact h9
          · (try simp (disch := omega) only [nI_ltI, nI_leI, nI_eq, Nat.not_lt, Nat.not_le] at b112) <;> (exfalso; omega)
        | succ n ih =>
          intro m w1 x3 x4 hn hmm hr1 hs1 hm1
          have hmo := mfo_s stN (S.rg i) (mfo stB (S.rg i) (fun _ => 0)) (m := m) (by omega)
          obtain ⟨⟨ls1, ⟨ml1, ns1, at91, k01⟩, kp1, hLm91, hW11, hW21, hR11, hR21, hI91, hO91⟩, hz1⟩ := id hr1
          obtain ⟨⟨F1, k11, hF1⟩, k21, hFr1⟩ := id hW11
          obtain ⟨⟨FC1, kC1, hFC1⟩, kW1, kK1, hRr1⟩ := id hR11
          obtain ⟨hP_i1, cf_i1, nf_i1, kw_i1, kk_i1, hc_i1⟩ := hRr1 i h_i
          have f_i1 := hFC1 i h_i
          obtain ⟨G, kG, hG9⟩ := id hs1
          have hq1 : (S.rg i)[m]? = some (S.rg i)[m] := List.getElem?_eq_getElem (by omega)
          have hqb := hP_i1.at hq1
          have hqW := mdec_W hqb.2.2.1
          have hq8 := hqW.1.1
          have hc1 := (hc_i1 m _ hq1).1
          have hc2 := (hc_i1 m _ hq1).2
          have e_m := nI_clamp (n := m) (by omega)
          have e_q := nI_clamp (n := (S.rg i)[m].1) (by omega)
          have hGq := hG9 _ hqb.2.2.1
          refine hP 11 _ rfl _ _ _ _ _ _ ?_
          simp only [bX10_isLie_11, hrun, hx, hnth, hput, hok, hcat2, hldI, hldL, hldR, hpI, hpL, hpA, hpR, hp1, hpV, hrtI, hrtL, hrtR, hrtV, hpN, hck, hrI, hrB, hrL, hrA, hwI, hwA, hwB, hrN, mf_0, mf_1, mf_2, mf_3, mf_4, mf_5, mf_6, mf_7, mf_8, mf_9, mf_10, mf_11, mf_12, mf_13, mf_14, mf_15, mf_16, mf_17, mf_18, mf_19, mf_20, mf_21, mf_22, mf_23, mf_24, mf_25, mf_26, mf_27, mf_28, mf_29, ms_11, ms_16, ms_17, ms_20, ms_21, ms_23, ms_24, hwF, hcl, hfty, tyX1, tyX3, tyX6, tyX9, tyX10, tyJ0, tyJ4, hfit, hcmp, hnar, hres, hst, hacp, kz, kof, kn0, kn1, Bool.not_true, Bool.not_false, true_and, and_true, Nat.zero_add, Nat.reduceAdd, List.length_cons, List.length_nil, true_or, or_true, false_or, or_false, decide_true, decide_false, ne_eq, not_true_eq_false, not_false_eq_true, ki_0, ki_1, ki_2, ki_3, ki_4, ki_5, kb_m100, kb_m10, kb_m9, kb_m8, kb_m7, kb_m6, kb_m5, kb_m4, kb_m3, kb_m2, kb_6, kb_7, kb_8, kb_9, kb_10, kb_12, kb_13, kb_16, kb_27, kb_31, kb_32, kb_43, kb_45, kb_48, kb_57, kb_60, kb_63, kb_81, kb_97, kb_99, kb_100, kb_120, kb_126, ks_m1000, ks_243, ks_255, ks_729, ks_1000, ks_2000, ks_2187, ks_6561, ks_9840, ks_9841, kl_0, kl_1, k01, kp1, kC1, kW1, kK1, va_rf, e_i, f_i1, kw_i1, kk_i1, e_m, hc1, hc2, kG, e_q, hGq, Int64.sub_eq_add_neg]
          refine ⟨vp_in_nI (by omega) (by omega), ?_⟩
          refine ⟨fun b112 => ?_, fun b112 => ?_⟩
          · (try simp (disch := omega) only [nI_ltI, nI_leI, nI_eq, Nat.not_lt, Nat.not_le] at b112) <;> (exfalso; omega)
          · try simp (disch := omega) only [nI_ltI, nI_leI, nI_eq, Nat.not_lt, Nat.not_le] at b112
            refine hP 12 _ rfl _ _ _ _ _ _ ?_
            simp only [bX10_isLie_12, hrun, hx, hnth, hput, hok, hcat2, hldI, hldL, hldR, hpI, hpL, hpA, hpR, hp1, hpV, hrtI, hrtL, hrtR, hrtV, hpN, hck, hrI, hrB, hrL, hrA, hwI, hwA, hwB, hrN, mf_0, mf_1, mf_2, mf_3, mf_4, mf_5, mf_6, mf_7, mf_8, mf_9, mf_10, mf_11, mf_12, mf_13, mf_14, mf_15, mf_16, mf_17, mf_18, mf_19, mf_20, mf_21, mf_22, mf_23, mf_24, mf_25, mf_26, mf_27, mf_28, mf_29, ms_11, ms_16, ms_17, ms_20, ms_21, ms_23, ms_24, hwF, hcl, hfty, tyX1, tyX3, tyX6, tyX9, tyX10, tyJ0, tyJ4, hfit, hcmp, hnar, hres, hst, hacp, kz, kof, kn0, kn1, Bool.not_true, Bool.not_false, true_and, and_true, Nat.zero_add, Nat.reduceAdd, List.length_cons, List.length_nil, true_or, or_true, false_or, or_false, decide_true, decide_false, ne_eq, not_true_eq_false, not_false_eq_true, ki_0, ki_1, ki_2, ki_3, ki_4, ki_5, kb_m100, kb_m10, kb_m9, kb_m8, kb_m7, kb_m6, kb_m5, kb_m4, kb_m3, kb_m2, kb_6, kb_7, kb_8, kb_9, kb_10, kb_12, kb_13, kb_16, kb_27, kb_31, kb_32, kb_43, kb_45, kb_48, kb_57, kb_60, kb_63, kb_81, kb_97, kb_99, kb_100, kb_120, kb_126, ks_m1000, ks_243, ks_255, ks_729, ks_1000, ks_2000, ks_2187, ks_6561, ks_9840, ks_9841, kl_0, kl_1, k01, kp1, kC1, kW1, kK1, va_rf, e_i, f_i1, kw_i1, kk_i1, e_m, hc1, hc2, kG, e_q, hGq, Int64.sub_eq_add_neg]
            refine ⟨vp_in_nI (by omega) (by omega), ?_⟩
            refine ⟨vp_in_nI (by omega) (by omega), ?_⟩
            refine ⟨vp_in_nI (by omega) (by omega), ?_⟩
            refine ⟨vp_in_nI (by omega) (by omega), ?_⟩
            refine ⟨vp_in_nI (by omega) (by omega), ?_⟩
            rw [← hqW.2]
            refine c_m_lengthOf hg (by omega) hr1.M hqW.1 ?_
            rw [hqW.2]
            simp only [hrun, hx, hnth, hput, hok, hcat2, hldI, hldL, hldR, hpI, hpL, hpA, hpR, hp1, hpV, hrtI, hrtL, hrtR, hrtV, hpN, hck, hrI, hrB, hrL, hrA, hwI, hwA, hwB, hrN, mf_0, mf_1, mf_2, mf_3, mf_4, mf_5, mf_6, mf_7, mf_8, mf_9, mf_10, mf_11, mf_12, mf_13, mf_14, mf_15, mf_16, mf_17, mf_18, mf_19, mf_20, mf_21, mf_22, mf_23, mf_24, mf_25, mf_26, mf_27, mf_28, mf_29, ms_11, ms_16, ms_17, ms_20, ms_21, ms_23, ms_24, hwF, hcl, hfty, tyX1, tyX3, tyX6, tyX9, tyX10, tyJ0, tyJ4, hfit, hcmp, hnar, hres, hst, hacp, kz, kof, kn0, kn1, Bool.not_true, Bool.not_false, true_and, and_true, Nat.zero_add, Nat.reduceAdd, List.length_cons, List.length_nil, true_or, or_true, false_or, or_false, decide_true, decide_false, ne_eq, not_true_eq_false, not_false_eq_true, ki_0, ki_1, ki_2, ki_3, ki_4, ki_5, kb_m100, kb_m10, kb_m9, kb_m8, kb_m7, kb_m6, kb_m5, kb_m4, kb_m3, kb_m2, kb_6, kb_7, kb_8, kb_9, kb_10, kb_12, kb_13, kb_16, kb_27, kb_31, kb_32, kb_43, kb_45, kb_48, kb_57, kb_60, kb_63, kb_81, kb_97, kb_99, kb_100, kb_120, kb_126, ks_m1000, ks_243, ks_255, ks_729, ks_1000, ks_2000, ks_2187, ks_6561, ks_9840, ks_9841, kl_0, kl_1, k01, kp1, kC1, kW1, kK1, va_rf, e_i, f_i1, kw_i1, kk_i1, e_m, hc1, hc2, kG, e_q, hGq, Int64.sub_eq_add_neg]
            refine ⟨vp_in_nI (by omega) (by omega), ?_⟩
            refine ⟨vp_in_nI (by omega) (by omega), ?_⟩
            refine ⟨vp_in_nI (by omega) (by omega), ?_⟩
            rw [nI_add]
            refine ih (m + 1) _ _ _ (by omega) (by omega) (hr1.sm (mfr.up (by simp))) ?_ (hm1.tr ((mfr.up (by simp) : mfr [71] _ _).y (by decide)))
            rw [hmo]
            exact hMs.add kG hG9 hqb.2.2.1
      have loop1 : ∀ (n m : Nat) (w1 : hWd) (x3 x4 : Option Value), (S.rg i).length - m = n → m ≤ (S.rg i).length → hYr w1 S → hMs w1 (mfo stB ((S.rg i).take m) (fun _ => 0)) → mfy w w1 → P N 0 0 w1 15 [some (.ref 47), some (.int (nI i)), some (.int (nI m)), x3, x4] [] := by
        intro n
        induction n with
        | zero =>
          intro m w1 x3 x4 hn hmm hr1 hs1 hm1
          obtain rfl : m = (S.rg i).length := by omega
          rw [List.take_length] at hs1
          obtain ⟨⟨ls1, ⟨ml1, ns1, at91, k01⟩, kp1, hLm91, hW11, hW21, hR11, hR21, hI91, hO91⟩, hz1⟩ := id hr1
          obtain ⟨⟨F1, k11, hF1⟩, k21, hFr1⟩ := id hW11
          obtain ⟨⟨FC1, kC1, hFC1⟩, kW1, kK1, hRr1⟩ := id hR11
          obtain ⟨hP_i1, cf_i1, nf_i1, kw_i1, kk_i1, hc_i1⟩ := hRr1 i h_i
          have f_i1 := hFC1 i h_i
          refine hP 3 _ rfl _ _ _ _ _ _ ?_
          simp only [bX10_isLie_3, hrun, hx, hnth, hput, hok, hcat2, hldI, hldL, hldR, hpI, hpL, hpA, hpR, hp1, hpV, hrtI, hrtL, hrtR, hrtV, hpN, hck, hrI, hrB, hrL, hrA, hwI, hwA, hwB, hrN, mf_0, mf_1, mf_2, mf_3, mf_4, mf_5, mf_6, mf_7, mf_8, mf_9, mf_10, mf_11, mf_12, mf_13, mf_14, mf_15, mf_16, mf_17, mf_18, mf_19, mf_20, mf_21, mf_22, mf_23, mf_24, mf_25, mf_26, mf_27, mf_28, mf_29, ms_11, ms_16, ms_17, ms_20, ms_21, ms_23, ms_24, hwF, hcl, hfty, tyX1, tyX3, tyX6, tyX9, tyX10, tyJ0, tyJ4, hfit, hcmp, hnar, hres, hst, hacp, kz, kof, kn0, kn1, Bool.not_true, Bool.not_false, true_and, and_true, Nat.zero_add, Nat.reduceAdd, List.length_cons, List.length_nil, true_or, or_true, false_or, or_false, decide_true, decide_false, ne_eq, not_true_eq_false, not_false_eq_true, ki_0, ki_1, ki_2, ki_3, ki_4, ki_5, kb_m100, kb_m10, kb_m9, kb_m8, kb_m7, kb_m6, kb_m5, kb_m4, kb_m3, kb_m2, kb_6, kb_7, kb_8, kb_9, kb_10, kb_12, kb_13, kb_16, kb_27, kb_31, kb_32, kb_43, kb_45, kb_48, kb_57, kb_60, kb_63, kb_81, kb_97, kb_99, kb_100, kb_120, kb_126, ks_m1000, ks_243, ks_255, ks_729, ks_1000, ks_2000, ks_2187, ks_6561, ks_9840, ks_9841, kl_0, kl_1, k01, kp1, kC1, kW1, kK1, va_rf, e_i, f_i1, kw_i1, kk_i1]
          refine ⟨vp_in_nI (by omega) (by omega), ?_⟩
          refine ⟨fun b22 => ?_, fun b22 => ?_⟩
          · try simp (disch := omega) only [nI_ltI, nI_leI, nI_eq, Nat.not_lt, Nat.not_le] at b22
            refine hP 10 _ rfl _ _ _ _ _ _ ?_
            simp only [bX10_isLie_10, hrun, hx, hnth, hput, hok, hcat2, hldI, hldL, hldR, hpI, hpL, hpA, hpR, hp1, hpV, hrtI, hrtL, hrtR, hrtV, hpN, hck, hrI, hrB, hrL, hrA, hwI, hwA, hwB, hrN, mf_0, mf_1, mf_2, mf_3, mf_4, mf_5, mf_6, mf_7, mf_8, mf_9, mf_10, mf_11, mf_12, mf_13, mf_14, mf_15, mf_16, mf_17, mf_18, mf_19, mf_20, mf_21, mf_22, mf_23, mf_24, mf_25, mf_26, mf_27, mf_28, mf_29, ms_11, ms_16, ms_17, ms_20, ms_21, ms_23, ms_24, hwF, hcl, hfty, tyX1, tyX3, tyX6, tyX9, tyX10, tyJ0, tyJ4, hfit, hcmp, hnar, hres, hst, hacp, kz, kof, kn0, kn1, Bool.not_true, Bool.not_false, true_and, and_true, Nat.zero_add, Nat.reduceAdd, List.length_cons, List.length_nil, true_or, or_true, false_or, or_false, decide_true, decide_false, ne_eq, not_true_eq_false, not_false_eq_true, ki_0, ki_1, ki_2, ki_3, ki_4, ki_5, kb_m100, kb_m10, kb_m9, kb_m8, kb_m7, kb_m6, kb_m5, kb_m4, kb_m3, kb_m2, kb_6, kb_7, kb_8, kb_9, kb_10, kb_12, kb_13, kb_16, kb_27, kb_31, kb_32, kb_43, kb_45, kb_48, kb_57, kb_60, kb_63, kb_81, kb_97, kb_99, kb_100, kb_120, kb_126, ks_m1000, ks_243, ks_255, ks_729, ks_1000, ks_2000, ks_2187, ks_6561, ks_9840, ks_9841, kl_0, kl_1, k01, kp1, kC1, kW1, kK1, va_rf, e_i, f_i1, kw_i1, kk_i1]
            exact loop2 _ 0 w1 _ _ rfl (Nat.zero_le _) hr1 (by rw [List.take_zero]; exact hs1) hm1
          · (try simp (disch := omega) only [nI_ltI, nI_leI, nI_eq, Nat.not_lt, Nat.not_le] at b22) <;> (exfalso; omega)
        | succ n ih =>
          intro m w1 x3 x4 hn hmm hr1 hs1 hm1
          have hmo := mfo_s stB (S.rg i) (fun _ => 0) (m := m) (by omega)
          obtain ⟨⟨ls1, ⟨ml1, ns1, at91, k01⟩, kp1, hLm91, hW11, hW21, hR11, hR21, hI91, hO91⟩, hz1⟩ := id hr1
          obtain ⟨⟨F1, k11, hF1⟩, k21, hFr1⟩ := id hW11
          obtain ⟨⟨FC1, kC1, hFC1⟩, kW1, kK1, hRr1⟩ := id hR11
          obtain ⟨hP_i1, cf_i1, nf_i1, kw_i1, kk_i1, hc_i1⟩ := hRr1 i h_i
          have f_i1 := hFC1 i h_i
          obtain ⟨G, kG, hG9⟩ := id hs1
          have hq1 : (S.rg i)[m]? = some (S.rg i)[m] := List.getElem?_eq_getElem (by omega)
          have hqb := hP_i1.at hq1
          have hqW := mdec_W hqb.2.2.1
          have hq8 := hqW.1.1
          have hc1 := (hc_i1 m _ hq1).1
          have hc2 := (hc_i1 m _ hq1).2
          have e_m := nI_clamp (n := m) (by omega)
          have hln := (hlen _ (List.getElem_mem (show m < (S.rg i).length by omega))).1
          obtain ⟨u67, h67⟩ := id hr1.2.1
          have hp2 : 2 ^ ((mdec (S.rg i)[m].1).length - 1) ≤ 128 := Nat.pow_le_pow_right (n := 2) (by omega) (show (mdec (S.rg i)[m].1).length - 1 ≤ 7 by omega)
          have esh := kshl ((mdec (S.rg i)[m].1).length - 1) (by omega)
          have es1 : nI (mdec (S.rg i)[m].1).length - nI 1 = nI ((mdec (S.rg i)[m].1).length - 1) := pk_sub (by omega)
          have hsb : stB (S.rg i)[m] (mfo stB ((S.rg i).take m) (fun _ => 0)) = mlbr (mat (mdec (S.rg i)[m].1)) (mdec (S.rg i)[m].1).length (Int64.ofInt (S.rg i)[m].2) (mfo stB ((S.rg i).take m) (fun _ => 0)) (2 ^ ((mdec (S.rg i)[m].1).length - 1)) := rfl
          rw [hsb] at hmo
          generalize hK9 : 2 ^ ((mdec (S.rg i)[m].1).length - 1) = K at hmo hp2 esh
          have inn : ∀ (r k : Nat) (w2 : hWd) (v2 : Nat → Nat), K - k = r → k ≤ K → hYr w2 S → hrow w2 67 v2 → (∀ j, j < (mdec (S.rg i)[m].1).length → v2 j = mat (mdec (S.rg i)[m].1) j) → hMs w2 (mlbr (mat (mdec (S.rg i)[m].1)) (mdec (S.rg i)[m].1).length (Int64.ofInt (S.rg i)[m].2) (mfo stB ((S.rg i).take m) (fun _ => 0)) k) → mfy w w2 → P N 0 0 w2 51 [some (.ref 47), some (.int (nI i)), some (.int (nI m)), some (.int (nI (mdec (S.rg i)[m].1).length)), some (.int (nI k))] [] := by
            intro r
            induction r with
            | zero =>
              intro k w2 v2 hrk hk hr2 hv2 hv2e hs2 hm2
              have ek : k = K := by omega
              subst ek
              refine hP 7 _ rfl _ _ _ _ _ _ ?_
              simp only [bX10_isLie_7, hrun, hx, hnth, hput, hok, hcat2, hldI, hldL, hldR, hpI, hpL, hpA, hpR, hp1, hpV, hrtI, hrtL, hrtR, hrtV, hpN, hck, hrI, hrB, hrL, hrA, hwI, hwA, hwB, hrN, mf_0, mf_1, mf_2, mf_3, mf_4, mf_5, mf_6, mf_7, mf_8, mf_9, mf_10, mf_11, mf_12, mf_13, mf_14, mf_15, mf_16, mf_17, mf_18, mf_19, mf_20, mf_21, mf_22, mf_23, mf_24, mf_25, mf_26, mf_27, mf_28, mf_29, ms_11, ms_16, ms_17, ms_20, ms_21, ms_23, ms_24, hwF, hcl, hfty, tyX1, tyX3, tyX6, tyX9, tyX10, tyJ0, tyJ4, hfit, hcmp, hnar, hres, hst, hacp, kz, kof, kn0, kn1, Bool.not_true, Bool.not_false, true_and, and_true, Nat.zero_add, Nat.reduceAdd, List.length_cons, List.length_nil, true_or, or_true, false_or, or_false, decide_true, decide_false, ne_eq, not_true_eq_false, not_false_eq_true, ki_0, ki_1, ki_2, ki_3, ki_4, ki_5, kb_m100, kb_m10, kb_m9, kb_m8, kb_m7, kb_m6, kb_m5, kb_m4, kb_m3, kb_m2, kb_6, kb_7, kb_8, kb_9, kb_10, kb_12, kb_13, kb_16, kb_27, kb_31, kb_32, kb_43, kb_45, kb_48, kb_57, kb_60, kb_63, kb_81, kb_97, kb_99, kb_100, kb_120, kb_126, ks_m1000, ks_243, ks_255, ks_729, ks_1000, ks_2000, ks_2187, ks_6561, ks_9840, ks_9841, kl_0, kl_1, esh, es1]
              refine ⟨fun b58 => ?_, fun b58 => ?_⟩
              · try simp (disch := omega) only [nI_ltI, nI_leI, nI_eq, Nat.not_lt, Nat.not_le] at b58
                refine hP 9 _ rfl _ _ _ _ _ _ ?_
                simp only [bX10_isLie_9, hrun, hx, hnth, hput, hok, hcat2, hldI, hldL, hldR, hpI, hpL, hpA, hpR, hp1, hpV, hrtI, hrtL, hrtR, hrtV, hpN, hck, hrI, hrB, hrL, hrA, hwI, hwA, hwB, hrN, mf_0, mf_1, mf_2, mf_3, mf_4, mf_5, mf_6, mf_7, mf_8, mf_9, mf_10, mf_11, mf_12, mf_13, mf_14, mf_15, mf_16, mf_17, mf_18, mf_19, mf_20, mf_21, mf_22, mf_23, mf_24, mf_25, mf_26, mf_27, mf_28, mf_29, ms_11, ms_16, ms_17, ms_20, ms_21, ms_23, ms_24, hwF, hcl, hfty, tyX1, tyX3, tyX6, tyX9, tyX10, tyJ0, tyJ4, hfit, hcmp, hnar, hres, hst, hacp, kz, kof, kn0, kn1, Bool.not_true, Bool.not_false, true_and, and_true, Nat.zero_add, Nat.reduceAdd, List.length_cons, List.length_nil, true_or, or_true, false_or, or_false, decide_true, decide_false, ne_eq, not_true_eq_false, not_false_eq_true, ki_0, ki_1, ki_2, ki_3, ki_4, ki_5, kb_m100, kb_m10, kb_m9, kb_m8, kb_m7, kb_m6, kb_m5, kb_m4, kb_m3, kb_m2, kb_6, kb_7, kb_8, kb_9, kb_10, kb_12, kb_13, kb_16, kb_27, kb_31, kb_32, kb_43, kb_45, kb_48, kb_57, kb_60, kb_63, kb_81, kb_97, kb_99, kb_100, kb_120, kb_126, ks_m1000, ks_243, ks_255, ks_729, ks_1000, ks_2000, ks_2187, ks_6561, ks_9840, ks_9841, kl_0, kl_1, esh, es1]
                rw [nI_add]
                exact ih (m + 1) w2 _ _ (by omega) (by omega) hr2 (by rw [hmo]; exact hs2) hm2
              · (try simp (disch := omega) only [nI_ltI, nI_leI, nI_eq, Nat.not_lt, Nat.not_le] at b58) <;> (exfalso; omega)
            | succ r ihr =>
              intro k w2 v2 hrk hk hr2 hv2 hv2e hs2 hm2
              obtain ⟨H, kH, hH9⟩ := id hs2
              obtain ⟨⟨ls2, ⟨ml2, ns2, at92, k02⟩, kp2, hLm92, hW12, hW22, hR12, hR22, hI92, hO92⟩, hz2⟩ := id hr2
              obtain ⟨⟨F2, k12, hF2⟩, k22, hFr2⟩ := id hW12
              obtain ⟨⟨FC2, kC2, hFC2⟩, kW2, kK2, hRr2⟩ := id hR12
              obtain ⟨hP_i2, cf_i2, nf_i2, kw_i2, kk_i2, hc_i2⟩ := hRr2 i h_i
              have f_i2 := hFC2 i h_i
              have hc3 := (hc_i2 m _ hq1).2
              have ecw : mlw v2 k ((mdec (S.rg i)[m].1).length - 1) = mlw (mat (mdec (S.rg i)[m].1)) k ((mdec (S.rg i)[m].1).length - 1) := mlw_c _ (fun j hj => hv2e j (by omega))
              have hWw : mW (mlw (mat (mdec (S.rg i)[m].1)) k ((mdec (S.rg i)[m].1).length - 1)) := by
                rw [← ecw]
                obtain ⟨X2, _, hX2⟩ := id hv2
                exact mlw_W _ (by omega) (fun j hj => (hX2 j hj).2)
              have hlw := hWw.lt
              have e_r := nI_clamp (n := menc (mlw (mat (mdec (S.rg i)[m].1)) k ((mdec (S.rg i)[m].1).length - 1))) (by omega)
              have hHr := hH9 _ hlw
              refine hP 7 _ rfl _ _ _ _ _ _ ?_
              simp only [bX10_isLie_7, hrun, hx, hnth, hput, hok, hcat2, hldI, hldL, hldR, hpI, hpL, hpA, hpR, hp1, hpV, hrtI, hrtL, hrtR, hrtV, hpN, hck, hrI, hrB, hrL, hrA, hwI, hwA, hwB, hrN, mf_0, mf_1, mf_2, mf_3, mf_4, mf_5, mf_6, mf_7, mf_8, mf_9, mf_10, mf_11, mf_12, mf_13, mf_14, mf_15, mf_16, mf_17, mf_18, mf_19, mf_20, mf_21, mf_22, mf_23, mf_24, mf_25, mf_26, mf_27, mf_28, mf_29, ms_11, ms_16, ms_17, ms_20, ms_21, ms_23, ms_24, hwF, hcl, hfty, tyX1, tyX3, tyX6, tyX9, tyX10, tyJ0, tyJ4, hfit, hcmp, hnar, hres, hst, hacp, kz, kof, kn0, kn1, Bool.not_true, Bool.not_false, true_and, and_true, Nat.zero_add, Nat.reduceAdd, List.length_cons, List.length_nil, true_or, or_true, false_or, or_false, decide_true, decide_false, ne_eq, not_true_eq_false, not_false_eq_true, ki_0, ki_1, ki_2, ki_3, ki_4, ki_5, kb_m100, kb_m10, kb_m9, kb_m8, kb_m7, kb_m6, kb_m5, kb_m4, kb_m3, kb_m2, kb_6, kb_7, kb_8, kb_9, kb_10, kb_12, kb_13, kb_16, kb_27, kb_31, kb_32, kb_43, kb_45, kb_48, kb_57, kb_60, kb_63, kb_81, kb_97, kb_99, kb_100, kb_120, kb_126, ks_m1000, ks_243, ks_255, ks_729, ks_1000, ks_2000, ks_2187, ks_6561, ks_9840, ks_9841, kl_0, kl_1, k02, kp2, kC2, kW2, kK2, va_rf, e_i, kk_i2, e_m, hc3, kH, e_r, hHr, esh, es1]
              refine ⟨fun b58 => ?_, fun b58 => ?_⟩
              · (try simp (disch := omega) only [nI_ltI, nI_leI, nI_eq, Nat.not_lt, Nat.not_le] at b58) <;> (exfalso; omega)
              · try simp (disch := omega) only [nI_ltI, nI_leI, nI_eq, Nat.not_lt, Nat.not_le] at b58
                refine hP 8 _ rfl _ _ _ _ _ _ ?_
                simp only [bX10_isLie_8, hrun, hx, hnth, hput, hok, hcat2, hldI, hldL, hldR, hpI, hpL, hpA, hpR, hp1, hpV, hrtI, hrtL, hrtR, hrtV, hpN, hck, hrI, hrB, hrL, hrA, hwI, hwA, hwB, hrN, mf_0, mf_1, mf_2, mf_3, mf_4, mf_5, mf_6, mf_7, mf_8, mf_9, mf_10, mf_11, mf_12, mf_13, mf_14, mf_15, mf_16, mf_17, mf_18, mf_19, mf_20, mf_21, mf_22, mf_23, mf_24, mf_25, mf_26, mf_27, mf_28, mf_29, ms_11, ms_16, ms_17, ms_20, ms_21, ms_23, ms_24, hwF, hcl, hfty, tyX1, tyX3, tyX6, tyX9, tyX10, tyJ0, tyJ4, hfit, hcmp, hnar, hres, hst, hacp, kz, kof, kn0, kn1, Bool.not_true, Bool.not_false, true_and, and_true, Nat.zero_add, Nat.reduceAdd, List.length_cons, List.length_nil, true_or, or_true, false_or, or_false, decide_true, decide_false, ne_eq, not_true_eq_false, not_false_eq_true, ki_0, ki_1, ki_2, ki_3, ki_4, ki_5, kb_m100, kb_m10, kb_m9, kb_m8, kb_m7, kb_m6, kb_m5, kb_m4, kb_m3, kb_m2, kb_6, kb_7, kb_8, kb_9, kb_10, kb_12, kb_13, kb_16, kb_27, kb_31, kb_32, kb_43, kb_45, kb_48, kb_57, kb_60, kb_63, kb_81, kb_97, kb_99, kb_100, kb_120, kb_126, ks_m1000, ks_243, ks_255, ks_729, ks_1000, ks_2000, ks_2187, ks_6561, ks_9840, ks_9841, kl_0, kl_1, k02, kp2, kC2, kW2, kK2, va_rf, e_i, kk_i2, e_m, hc3, kH, e_r, hHr, esh, es1]
                refine c_encodeLeft hg (by omega) hr2.M hv2 hln (by omega) (by omega) ?_
                rw [ecw]
                simp only [hrun, hx, hnth, hput, hok, hcat2, hldI, hldL, hldR, hpI, hpL, hpA, hpR, hp1, hpV, hrtI, hrtL, hrtR, hrtV, hpN, hck, hrI, hrB, hrL, hrA, hwI, hwA, hwB, hrN, mf_0, mf_1, mf_2, mf_3, mf_4, mf_5, mf_6, mf_7, mf_8, mf_9, mf_10, mf_11, mf_12, mf_13, mf_14, mf_15, mf_16, mf_17, mf_18, mf_19, mf_20, mf_21, mf_22, mf_23, mf_24, mf_25, mf_26, mf_27, mf_28, mf_29, ms_11, ms_16, ms_17, ms_20, ms_21, ms_23, ms_24, hwF, hcl, hfty, tyX1, tyX3, tyX6, tyX9, tyX10, tyJ0, tyJ4, hfit, hcmp, hnar, hres, hst, hacp, kz, kof, kn0, kn1, Bool.not_true, Bool.not_false, true_and, and_true, Nat.zero_add, Nat.reduceAdd, List.length_cons, List.length_nil, true_or, or_true, false_or, or_false, decide_true, decide_false, ne_eq, not_true_eq_false, not_false_eq_true, ki_0, ki_1, ki_2, ki_3, ki_4, ki_5, kb_m100, kb_m10, kb_m9, kb_m8, kb_m7, kb_m6, kb_m5, kb_m4, kb_m3, kb_m2, kb_6, kb_7, kb_8, kb_9, kb_10, kb_12, kb_13, kb_16, kb_27, kb_31, kb_32, kb_43, kb_45, kb_48, kb_57, kb_60, kb_63, kb_81, kb_97, kb_99, kb_100, kb_120, kb_126, ks_m1000, ks_243, ks_255, ks_729, ks_1000, ks_2000, ks_2187, ks_6561, ks_9840, ks_9841, kl_0, kl_1, k02, kp2, kC2, kW2, kK2, va_rf, e_i, kk_i2, e_m, hc3, kH, e_r, hHr, esh, es1]
                refine ⟨vp_in_nI (by omega) (by omega), ?_⟩
                refine c_signOf hg (by omega) (by omega) ?_
                simp only [hrun, hx, hnth, hput, hok, hcat2, hldI, hldL, hldR, hpI, hpL, hpA, hpR, hp1, hpV, hrtI, hrtL, hrtR, hrtV, hpN, hck, hrI, hrB, hrL, hrA, hwI, hwA, hwB, hrN, mf_0, mf_1, mf_2, mf_3, mf_4, mf_5, mf_6, mf_7, mf_8, mf_9, mf_10, mf_11, mf_12, mf_13, mf_14, mf_15, mf_16, mf_17, mf_18, mf_19, mf_20, mf_21, mf_22, mf_23, mf_24, mf_25, mf_26, mf_27, mf_28, mf_29, ms_11, ms_16, ms_17, ms_20, ms_21, ms_23, ms_24, hwF, hcl, hfty, tyX1, tyX3, tyX6, tyX9, tyX10, tyJ0, tyJ4, hfit, hcmp, hnar, hres, hst, hacp, kz, kof, kn0, kn1, Bool.not_true, Bool.not_false, true_and, and_true, Nat.zero_add, Nat.reduceAdd, List.length_cons, List.length_nil, true_or, or_true, false_or, or_false, decide_true, decide_false, ne_eq, not_true_eq_false, not_false_eq_true, ki_0, ki_1, ki_2, ki_3, ki_4, ki_5, kb_m100, kb_m10, kb_m9, kb_m8, kb_m7, kb_m6, kb_m5, kb_m4, kb_m3, kb_m2, kb_6, kb_7, kb_8, kb_9, kb_10, kb_12, kb_13, kb_16, kb_27, kb_31, kb_32, kb_43, kb_45, kb_48, kb_57, kb_60, kb_63, kb_81, kb_97, kb_99, kb_100, kb_120, kb_126, ks_m1000, ks_243, ks_255, ks_729, ks_1000, ks_2000, ks_2187, ks_6561, ks_9840, ks_9841, kl_0, kl_1, k02, kp2, kC2, kW2, kK2, va_rf, e_i, kk_i2, e_m, hc3, kH, e_r, hHr, esh, es1]
                refine ⟨vp_in_nI (by omega) (by omega), ?_⟩
                refine ⟨vp_in_nI (by omega) (by omega), ?_⟩
                refine ⟨vp_in_nI (by omega) (by omega), ?_⟩
                rw [nI_add]
                refine ihr (k + 1) _ v2 (by omega) (by omega) (hr2.sm (mfr.up (by simp))) (hv2.keep (va_up_ne _ _ (by decide))) hv2e (hMs.add kH hH9 hlw) (hm2.tr ((mfr.up (by simp) : mfr [71] _ _).y (by decide)))
          refine hP 3 _ rfl _ _ _ _ _ _ ?_
          simp only [bX10_isLie_3, hrun, hx, hnth, hput, hok, hcat2, hldI, hldL, hldR, hpI, hpL, hpA, hpR, hp1, hpV, hrtI, hrtL, hrtR, hrtV, hpN, hck, hrI, hrB, hrL, hrA, hwI, hwA, hwB, hrN, mf_0, mf_1, mf_2, mf_3, mf_4, mf_5, mf_6, mf_7, mf_8, mf_9, mf_10, mf_11, mf_12, mf_13, mf_14, mf_15, mf_16, mf_17, mf_18, mf_19, mf_20, mf_21, mf_22, mf_23, mf_24, mf_25, mf_26, mf_27, mf_28, mf_29, ms_11, ms_16, ms_17, ms_20, ms_21, ms_23, ms_24, hwF, hcl, hfty, tyX1, tyX3, tyX6, tyX9, tyX10, tyJ0, tyJ4, hfit, hcmp, hnar, hres, hst, hacp, kz, kof, kn0, kn1, Bool.not_true, Bool.not_false, true_and, and_true, Nat.zero_add, Nat.reduceAdd, List.length_cons, List.length_nil, true_or, or_true, false_or, or_false, decide_true, decide_false, ne_eq, not_true_eq_false, not_false_eq_true, ki_0, ki_1, ki_2, ki_3, ki_4, ki_5, kb_m100, kb_m10, kb_m9, kb_m8, kb_m7, kb_m6, kb_m5, kb_m4, kb_m3, kb_m2, kb_6, kb_7, kb_8, kb_9, kb_10, kb_12, kb_13, kb_16, kb_27, kb_31, kb_32, kb_43, kb_45, kb_48, kb_57, kb_60, kb_63, kb_81, kb_97, kb_99, kb_100, kb_120, kb_126, ks_m1000, ks_243, ks_255, ks_729, ks_1000, ks_2000, ks_2187, ks_6561, ks_9840, ks_9841, kl_0, kl_1, k01, kp1, kC1, kW1, kK1, va_rf, e_i, f_i1, kw_i1, kk_i1, e_m, hc1]
          refine ⟨vp_in_nI (by omega) (by omega), ?_⟩
          refine ⟨fun b22 => ?_, fun b22 => ?_⟩
          · (try simp (disch := omega) only [nI_ltI, nI_leI, nI_eq, Nat.not_lt, Nat.not_le] at b22) <;> (exfalso; omega)
          · try simp (disch := omega) only [nI_ltI, nI_leI, nI_eq, Nat.not_lt, Nat.not_le] at b22
            refine hP 4 _ rfl _ _ _ _ _ _ ?_
            simp only [bX10_isLie_4, hrun, hx, hnth, hput, hok, hcat2, hldI, hldL, hldR, hpI, hpL, hpA, hpR, hp1, hpV, hrtI, hrtL, hrtR, hrtV, hpN, hck, hrI, hrB, hrL, hrA, hwI, hwA, hwB, hrN, mf_0, mf_1, mf_2, mf_3, mf_4, mf_5, mf_6, mf_7, mf_8, mf_9, mf_10, mf_11, mf_12, mf_13, mf_14, mf_15, mf_16, mf_17, mf_18, mf_19, mf_20, mf_21, mf_22, mf_23, mf_24, mf_25, mf_26, mf_27, mf_28, mf_29, ms_11, ms_16, ms_17, ms_20, ms_21, ms_23, ms_24, hwF, hcl, hfty, tyX1, tyX3, tyX6, tyX9, tyX10, tyJ0, tyJ4, hfit, hcmp, hnar, hres, hst, hacp, kz, kof, kn0, kn1, Bool.not_true, Bool.not_false, true_and, and_true, Nat.zero_add, Nat.reduceAdd, List.length_cons, List.length_nil, true_or, or_true, false_or, or_false, decide_true, decide_false, ne_eq, not_true_eq_false, not_false_eq_true, ki_0, ki_1, ki_2, ki_3, ki_4, ki_5, kb_m100, kb_m10, kb_m9, kb_m8, kb_m7, kb_m6, kb_m5, kb_m4, kb_m3, kb_m2, kb_6, kb_7, kb_8, kb_9, kb_10, kb_12, kb_13, kb_16, kb_27, kb_31, kb_32, kb_43, kb_45, kb_48, kb_57, kb_60, kb_63, kb_81, kb_97, kb_99, kb_100, kb_120, kb_126, ks_m1000, ks_243, ks_255, ks_729, ks_1000, ks_2000, ks_2187, ks_6561, ks_9840, ks_9841, kl_0, kl_1, k01, kp1, kC1, kW1, kK1, va_rf, e_i, f_i1, kw_i1, kk_i1, e_m, hc1]
            refine ⟨vp_in_nI (by omega) (by omega), ?_⟩
            refine ⟨vp_in_nI (by omega) (by omega), ?_⟩
            rw [← hqW.2]
            refine c_decode hg (by omega) hr1.M hqW.1 h67 (by decide) (fun w2 v2 hv2 hv2e hv2o hm2 => ?_)
            simp only [hrun, hx, hnth, hput, hok, hcat2, hldI, hldL, hldR, hpI, hpL, hpA, hpR, hp1, hpV, hrtI, hrtL, hrtR, hrtV, hpN, hck, hrI, hrB, hrL, hrA, hwI, hwA, hwB, hrN, mf_0, mf_1, mf_2, mf_3, mf_4, mf_5, mf_6, mf_7, mf_8, mf_9, mf_10, mf_11, mf_12, mf_13, mf_14, mf_15, mf_16, mf_17, mf_18, mf_19, mf_20, mf_21, mf_22, mf_23, mf_24, mf_25, mf_26, mf_27, mf_28, mf_29, ms_11, ms_16, ms_17, ms_20, ms_21, ms_23, ms_24, hwF, hcl, hfty, tyX1, tyX3, tyX6, tyX9, tyX10, tyJ0, tyJ4, hfit, hcmp, hnar, hres, hst, hacp, kz, kof, kn0, kn1, Bool.not_true, Bool.not_false, true_and, and_true, Nat.zero_add, Nat.reduceAdd, List.length_cons, List.length_nil, true_or, or_true, false_or, or_false, decide_true, decide_false, ne_eq, not_true_eq_false, not_false_eq_true, ki_0, ki_1, ki_2, ki_3, ki_4, ki_5, kb_m100, kb_m10, kb_m9, kb_m8, kb_m7, kb_m6, kb_m5, kb_m4, kb_m3, kb_m2, kb_6, kb_7, kb_8, kb_9, kb_10, kb_12, kb_13, kb_16, kb_27, kb_31, kb_32, kb_43, kb_45, kb_48, kb_57, kb_60, kb_63, kb_81, kb_97, kb_99, kb_100, kb_120, kb_126, ks_m1000, ks_243, ks_255, ks_729, ks_1000, ks_2000, ks_2187, ks_6561, ks_9840, ks_9841, kl_0, kl_1, k01, kp1, kC1, kW1, kK1, va_rf, e_i, f_i1, kw_i1, kk_i1, e_m, hc1]
            refine ⟨fun b43 => ?_, fun b43 => ?_⟩
            · try simp (disch := omega) only [nI_ltI, nI_leI, nI_eq, Nat.not_lt, Nat.not_le] at b43
              refine hP 6 _ rfl _ _ _ _ _ _ ?_
              simp only [bX10_isLie_6, hrun, hx, hnth, hput, hok, hcat2, hldI, hldL, hldR, hpI, hpL, hpA, hpR, hp1, hpV, hrtI, hrtL, hrtR, hrtV, hpN, hck, hrI, hrB, hrL, hrA, hwI, hwA, hwB, hrN, mf_0, mf_1, mf_2, mf_3, mf_4, mf_5, mf_6, mf_7, mf_8, mf_9, mf_10, mf_11, mf_12, mf_13, mf_14, mf_15, mf_16, mf_17, mf_18, mf_19, mf_20, mf_21, mf_22, mf_23, mf_24, mf_25, mf_26, mf_27, mf_28, mf_29, ms_11, ms_16, ms_17, ms_20, ms_21, ms_23, ms_24, hwF, hcl, hfty, tyX1, tyX3, tyX6, tyX9, tyX10, tyJ0, tyJ4, hfit, hcmp, hnar, hres, hst, hacp, kz, kof, kn0, kn1, Bool.not_true, Bool.not_false, true_and, and_true, Nat.zero_add, Nat.reduceAdd, List.length_cons, List.length_nil, true_or, or_true, false_or, or_false, decide_true, decide_false, ne_eq, not_true_eq_false, not_false_eq_true, ki_0, ki_1, ki_2, ki_3, ki_4, ki_5, kb_m100, kb_m10, kb_m9, kb_m8, kb_m7, kb_m6, kb_m5, kb_m4, kb_m3, kb_m2, kb_6, kb_7, kb_8, kb_9, kb_10, kb_12, kb_13, kb_16, kb_27, kb_31, kb_32, kb_43, kb_45, kb_48, kb_57, kb_60, kb_63, kb_81, kb_97, kb_99, kb_100, kb_120, kb_126, ks_m1000, ks_243, ks_255, ks_729, ks_1000, ks_2000, ks_2187, ks_6561, ks_9840, ks_9841, kl_0, kl_1, k01, kp1, kC1, kW1, kK1, va_rf, e_i, f_i1, kw_i1, kk_i1, e_m, hc1]
              exact inn _ 0 w2 v2 rfl (Nat.zero_le _) (hr1.r67 hv2 hm2) hv2 hv2e (hs1.keep (hm2 71 (by decide))) (hm1.tr (hm2.y (by decide)))
            · (try simp (disch := omega) only [nI_ltI, nI_leI, nI_eq, Nat.not_lt, Nat.not_le] at b43) <;> (exfalso; omega)
      refine hP 0 _ rfl _ _ _ _ _ _ ?_
      simp only [bX10_isLie_0, hrun, hx, hnth, hput, hok, hcat2, hldI, hldL, hldR, hpI, hpL, hpA, hpR, hp1, hpV, hrtI, hrtL, hrtR, hrtV, hpN, hck, hrI, hrB, hrL, hrA, hwI, hwA, hwB, hrN, mf_0, mf_1, mf_2, mf_3, mf_4, mf_5, mf_6, mf_7, mf_8, mf_9, mf_10, mf_11, mf_12, mf_13, mf_14, mf_15, mf_16, mf_17, mf_18, mf_19, mf_20, mf_21, mf_22, mf_23, mf_24, mf_25, mf_26, mf_27, mf_28, mf_29, ms_11, ms_16, ms_17, ms_20, ms_21, ms_23, ms_24, hwF, hcl, hfty, tyX1, tyX3, tyX6, tyX9, tyX10, tyJ0, tyJ4, hfit, hcmp, hnar, hres, hst, hacp, kz, kof, kn0, kn1, Bool.not_true, Bool.not_false, true_and, and_true, Nat.zero_add, Nat.reduceAdd, List.length_cons, List.length_nil, true_or, or_true, false_or, or_false, decide_true, decide_false, ne_eq, not_true_eq_false, not_false_eq_true, ki_0, ki_1, ki_2, ki_3, ki_4, ki_5, kb_m100, kb_m10, kb_m9, kb_m8, kb_m7, kb_m6, kb_m5, kb_m4, kb_m3, kb_m2, kb_6, kb_7, kb_8, kb_9, kb_10, kb_12, kb_13, kb_16, kb_27, kb_31, kb_32, kb_43, kb_45, kb_48, kb_57, kb_60, kb_63, kb_81, kb_97, kb_99, kb_100, kb_120, kb_126, ks_m1000, ks_243, ks_255, ks_729, ks_1000, ks_2000, ks_2187, ks_6561, ks_9840, ks_9841, kl_0, kl_1, k0]
      refine c_m_isRegister hg (by omega) h_i ?_
      simp only [hrun, hx, hnth, hput, hok, hcat2, hldI, hldL, hldR, hpI, hpL, hpA, hpR, hp1, hpV, hrtI, hrtL, hrtR, hrtV, hpN, hck, hrI, hrB, hrL, hrA, hwI, hwA, hwB, hrN, mf_0, mf_1, mf_2, mf_3, mf_4, mf_5, mf_6, mf_7, mf_8, mf_9, mf_10, mf_11, mf_12, mf_13, mf_14, mf_15, mf_16, mf_17, mf_18, mf_19, mf_20, mf_21, mf_22, mf_23, mf_24, mf_25, mf_26, mf_27, mf_28, mf_29, ms_11, ms_16, ms_17, ms_20, ms_21, ms_23, ms_24, hwF, hcl, hfty, tyX1, tyX3, tyX6, tyX9, tyX10, tyJ0, tyJ4, hfit, hcmp, hnar, hres, hst, hacp, kz, kof, kn0, kn1, Bool.not_true, Bool.not_false, true_and, and_true, Nat.zero_add, Nat.reduceAdd, List.length_cons, List.length_nil, true_or, or_true, false_or, or_false, decide_true, decide_false, ne_eq, not_true_eq_false, not_false_eq_true, ki_0, ki_1, ki_2, ki_3, ki_4, ki_5, kb_m100, kb_m10, kb_m9, kb_m8, kb_m7, kb_m6, kb_m5, kb_m4, kb_m3, kb_m2, kb_6, kb_7, kb_8, kb_9, kb_10, kb_12, kb_13, kb_16, kb_27, kb_31, kb_32, kb_43, kb_45, kb_48, kb_57, kb_60, kb_63, kb_81, kb_97, kb_99, kb_100, kb_120, kb_126, ks_m1000, ks_243, ks_255, ks_729, ks_1000, ks_2000, ks_2187, ks_6561, ks_9840, ks_9841, kl_0, kl_1, k0]
      refine ⟨fun b4 => ?_, fun b4 => ?_⟩
      · try simp (disch := omega) only [nI_ltI, nI_leI, nI_eq, Nat.not_lt, Nat.not_le] at b4
        refine hP 2 _ rfl _ _ _ _ _ _ ?_
        simp only [bX10_isLie_2, hrun, hx, hnth, hput, hok, hcat2, hldI, hldL, hldR, hpI, hpL, hpA, hpR, hp1, hpV, hrtI, hrtL, hrtR, hrtV, hpN, hck, hrI, hrB, hrL, hrA, hwI, hwA, hwB, hrN, mf_0, mf_1, mf_2, mf_3, mf_4, mf_5, mf_6, mf_7, mf_8, mf_9, mf_10, mf_11, mf_12, mf_13, mf_14, mf_15, mf_16, mf_17, mf_18, mf_19, mf_20, mf_21, mf_22, mf_23, mf_24, mf_25, mf_26, mf_27, mf_28, mf_29, ms_11, ms_16, ms_17, ms_20, ms_21, ms_23, ms_24, hwF, hcl, hfty, tyX1, tyX3, tyX6, tyX9, tyX10, tyJ0, tyJ4, hfit, hcmp, hnar, hres, hst, hacp, kz, kof, kn0, kn1, Bool.not_true, Bool.not_false, true_and, and_true, Nat.zero_add, Nat.reduceAdd, List.length_cons, List.length_nil, true_or, or_true, false_or, or_false, decide_true, decide_false, ne_eq, not_true_eq_false, not_false_eq_true, ki_0, ki_1, ki_2, ki_3, ki_4, ki_5, kb_m100, kb_m10, kb_m9, kb_m8, kb_m7, kb_m6, kb_m5, kb_m4, kb_m3, kb_m2, kb_6, kb_7, kb_8, kb_9, kb_10, kb_12, kb_13, kb_16, kb_27, kb_31, kb_32, kb_43, kb_45, kb_48, kb_57, kb_60, kb_63, kb_81, kb_97, kb_99, kb_100, kb_120, kb_126, ks_m1000, ks_243, ks_255, ks_729, ks_1000, ks_2000, ks_2187, ks_6561, ks_9840, ks_9841, kl_0, kl_1, k0]
        refine c_clearSum hg (by omega) hr.M hf9 (fun w1 hs1 hm1 => ?_)
        have hr1 := hr.sm hm1
        have z0 : w1 47 = _ := (hm1 47 (by decide)).trans k0
        simp only [hrun, hx, hnth, hput, hok, hcat2, hldI, hldL, hldR, hpI, hpL, hpA, hpR, hp1, hpV, hrtI, hrtL, hrtR, hrtV, hpN, hck, hrI, hrB, hrL, hrA, hwI, hwA, hwB, hrN, mf_0, mf_1, mf_2, mf_3, mf_4, mf_5, mf_6, mf_7, mf_8, mf_9, mf_10, mf_11, mf_12, mf_13, mf_14, mf_15, mf_16, mf_17, mf_18, mf_19, mf_20, mf_21, mf_22, mf_23, mf_24, mf_25, mf_26, mf_27, mf_28, mf_29, ms_11, ms_16, ms_17, ms_20, ms_21, ms_23, ms_24, hwF, hcl, hfty, tyX1, tyX3, tyX6, tyX9, tyX10, tyJ0, tyJ4, hfit, hcmp, hnar, hres, hst, hacp, kz, kof, kn0, kn1, Bool.not_true, Bool.not_false, true_and, and_true, Nat.zero_add, Nat.reduceAdd, List.length_cons, List.length_nil, true_or, or_true, false_or, or_false, decide_true, decide_false, ne_eq, not_true_eq_false, not_false_eq_true, ki_0, ki_1, ki_2, ki_3, ki_4, ki_5, kb_m100, kb_m10, kb_m9, kb_m8, kb_m7, kb_m6, kb_m5, kb_m4, kb_m3, kb_m2, kb_6, kb_7, kb_8, kb_9, kb_10, kb_12, kb_13, kb_16, kb_27, kb_31, kb_32, kb_43, kb_45, kb_48, kb_57, kb_60, kb_63, kb_81, kb_97, kb_99, kb_100, kb_120, kb_126, ks_m1000, ks_243, ks_255, ks_729, ks_1000, ks_2000, ks_2187, ks_6561, ks_9840, ks_9841, kl_0, kl_1, k0, z0]
        exact loop1 _ 0 w1 none none rfl (Nat.zero_le _) hr1 hs1 (hm1.y (by decide))
      · (try simp (disch := omega) only [nI_ltI, nI_leI, nI_eq, Nat.not_lt, Nat.not_le] at b4) <;> (exfalso; omega)
    · rw [if_neg h00] at h
      have hex : ∃ q ∈ S.rg i, q.1 = 0 := Classical.byContradiction (fun z => h00 (by rw [mcoef_no (fun q hq e => z ⟨q, hq, e⟩)]; rfl))
      obtain ⟨q0, hq0, hq00⟩ := hex
      obtain ⟨j, hj, hje⟩ := List.mem_iff_getElem.mp hq0
      have hj0 : j = 0 := Nat.eq_zero_of_not_pos (fun z => by
        have := hP_i.lt (j := 0) (m := j) z hj
        rw [hje, hq00] at this
        omega)
      subst hj0
      have hqq : (S.rg i)[0]? = some (S.rg i)[0] := List.getElem?_eq_getElem hj
      have hd0 : mdec (S.rg i)[0].1 = [] := by rw [hje, hq00]; rfl
      have c_0 : (nI 0).toNatClampNeg = 0 := by decide +kernel
      refine hP 0 _ rfl _ _ _ _ _ _ ?_
      simp only [bX10_isLie_0, hrun, hx, hnth, hput, hok, hcat2, hldI, hldL, hldR, hpI, hpL, hpA, hpR, hp1, hpV, hrtI, hrtL, hrtR, hrtV, hpN, hck, hrI, hrB, hrL, hrA, hwI, hwA, hwB, hrN, mf_0, mf_1, mf_2, mf_3, mf_4, mf_5, mf_6, mf_7, mf_8, mf_9, mf_10, mf_11, mf_12, mf_13, mf_14, mf_15, mf_16, mf_17, mf_18, mf_19, mf_20, mf_21, mf_22, mf_23, mf_24, mf_25, mf_26, mf_27, mf_28, mf_29, ms_11, ms_16, ms_17, ms_20, ms_21, ms_23, ms_24, hwF, hcl, hfty, tyX1, tyX3, tyX6, tyX9, tyX10, tyJ0, tyJ4, hfit, hcmp, hnar, hres, hst, hacp, kz, kof, kn0, kn1, Bool.not_true, Bool.not_false, true_and, and_true, Nat.zero_add, Nat.reduceAdd, List.length_cons, List.length_nil, true_or, or_true, false_or, or_false, decide_true, decide_false, ne_eq, not_true_eq_false, not_false_eq_true, ki_0, ki_1, ki_2, ki_3, ki_4, ki_5, kb_m100, kb_m10, kb_m9, kb_m8, kb_m7, kb_m6, kb_m5, kb_m4, kb_m3, kb_m2, kb_6, kb_7, kb_8, kb_9, kb_10, kb_12, kb_13, kb_16, kb_27, kb_31, kb_32, kb_43, kb_45, kb_48, kb_57, kb_60, kb_63, kb_81, kb_97, kb_99, kb_100, kb_120, kb_126, ks_m1000, ks_243, ks_255, ks_729, ks_1000, ks_2000, ks_2187, ks_6561, ks_9840, ks_9841, kl_0, kl_1, k0]
      refine c_m_isRegister hg (by omega) h_i ?_
      simp only [hrun, hx, hnth, hput, hok, hcat2, hldI, hldL, hldR, hpI, hpL, hpA, hpR, hp1, hpV, hrtI, hrtL, hrtR, hrtV, hpN, hck, hrI, hrB, hrL, hrA, hwI, hwA, hwB, hrN, mf_0, mf_1, mf_2, mf_3, mf_4, mf_5, mf_6, mf_7, mf_8, mf_9, mf_10, mf_11, mf_12, mf_13, mf_14, mf_15, mf_16, mf_17, mf_18, mf_19, mf_20, mf_21, mf_22, mf_23, mf_24, mf_25, mf_26, mf_27, mf_28, mf_29, ms_11, ms_16, ms_17, ms_20, ms_21, ms_23, ms_24, hwF, hcl, hfty, tyX1, tyX3, tyX6, tyX9, tyX10, tyJ0, tyJ4, hfit, hcmp, hnar, hres, hst, hacp, kz, kof, kn0, kn1, Bool.not_true, Bool.not_false, true_and, and_true, Nat.zero_add, Nat.reduceAdd, List.length_cons, List.length_nil, true_or, or_true, false_or, or_false, decide_true, decide_false, ne_eq, not_true_eq_false, not_false_eq_true, ki_0, ki_1, ki_2, ki_3, ki_4, ki_5, kb_m100, kb_m10, kb_m9, kb_m8, kb_m7, kb_m6, kb_m5, kb_m4, kb_m3, kb_m2, kb_6, kb_7, kb_8, kb_9, kb_10, kb_12, kb_13, kb_16, kb_27, kb_31, kb_32, kb_43, kb_45, kb_48, kb_57, kb_60, kb_63, kb_81, kb_97, kb_99, kb_100, kb_120, kb_126, ks_m1000, ks_243, ks_255, ks_729, ks_1000, ks_2000, ks_2187, ks_6561, ks_9840, ks_9841, kl_0, kl_1, k0]
      refine ⟨fun b4 => ?_, fun b4 => ?_⟩
      · try simp (disch := omega) only [nI_ltI, nI_leI, nI_eq, Nat.not_lt, Nat.not_le] at b4
        refine hP 2 _ rfl _ _ _ _ _ _ ?_
        simp only [bX10_isLie_2, hrun, hx, hnth, hput, hok, hcat2, hldI, hldL, hldR, hpI, hpL, hpA, hpR, hp1, hpV, hrtI, hrtL, hrtR, hrtV, hpN, hck, hrI, hrB, hrL, hrA, hwI, hwA, hwB, hrN, mf_0, mf_1, mf_2, mf_3, mf_4, mf_5, mf_6, mf_7, mf_8, mf_9, mf_10, mf_11, mf_12, mf_13, mf_14, mf_15, mf_16, mf_17, mf_18, mf_19, mf_20, mf_21, mf_22, mf_23, mf_24, mf_25, mf_26, mf_27, mf_28, mf_29, ms_11, ms_16, ms_17, ms_20, ms_21, ms_23, ms_24, hwF, hcl, hfty, tyX1, tyX3, tyX6, tyX9, tyX10, tyJ0, tyJ4, hfit, hcmp, hnar, hres, hst, hacp, kz, kof, kn0, kn1, Bool.not_true, Bool.not_false, true_and, and_true, Nat.zero_add, Nat.reduceAdd, List.length_cons, List.length_nil, true_or, or_true, false_or, or_false, decide_true, decide_false, ne_eq, not_true_eq_false, not_false_eq_true, ki_0, ki_1, ki_2, ki_3, ki_4, ki_5, kb_m100, kb_m10, kb_m9, kb_m8, kb_m7, kb_m6, kb_m5, kb_m4, kb_m3, kb_m2, kb_6, kb_7, kb_8, kb_9, kb_10, kb_12, kb_13, kb_16, kb_27, kb_31, kb_32, kb_43, kb_45, kb_48, kb_57, kb_60, kb_63, kb_81, kb_97, kb_99, kb_100, kb_120, kb_126, ks_m1000, ks_243, ks_255, ks_729, ks_1000, ks_2000, ks_2187, ks_6561, ks_9840, ks_9841, kl_0, kl_1, k0]
        refine c_clearSum hg (by omega) hr.M hf9 (fun w1 hs1 hm1 => ?_)
        have hr1 := hr.sm hm1
        have z0 : w1 47 = _ := (hm1 47 (by decide)).trans k0
        simp only [hrun, hx, hnth, hput, hok, hcat2, hldI, hldL, hldR, hpI, hpL, hpA, hpR, hp1, hpV, hrtI, hrtL, hrtR, hrtV, hpN, hck, hrI, hrB, hrL, hrA, hwI, hwA, hwB, hrN, mf_0, mf_1, mf_2, mf_3, mf_4, mf_5, mf_6, mf_7, mf_8, mf_9, mf_10, mf_11, mf_12, mf_13, mf_14, mf_15, mf_16, mf_17, mf_18, mf_19, mf_20, mf_21, mf_22, mf_23, mf_24, mf_25, mf_26, mf_27, mf_28, mf_29, ms_11, ms_16, ms_17, ms_20, ms_21, ms_23, ms_24, hwF, hcl, hfty, tyX1, tyX3, tyX6, tyX9, tyX10, tyJ0, tyJ4, hfit, hcmp, hnar, hres, hst, hacp, kz, kof, kn0, kn1, Bool.not_true, Bool.not_false, true_and, and_true, Nat.zero_add, Nat.reduceAdd, List.length_cons, List.length_nil, true_or, or_true, false_or, or_false, decide_true, decide_false, ne_eq, not_true_eq_false, not_false_eq_true, ki_0, ki_1, ki_2, ki_3, ki_4, ki_5, kb_m100, kb_m10, kb_m9, kb_m8, kb_m7, kb_m6, kb_m5, kb_m4, kb_m3, kb_m2, kb_6, kb_7, kb_8, kb_9, kb_10, kb_12, kb_13, kb_16, kb_27, kb_31, kb_32, kb_43, kb_45, kb_48, kb_57, kb_60, kb_63, kb_81, kb_97, kb_99, kb_100, kb_120, kb_126, ks_m1000, ks_243, ks_255, ks_729, ks_1000, ks_2000, ks_2187, ks_6561, ks_9840, ks_9841, kl_0, kl_1, k0, z0]
        obtain ⟨⟨ls1, ⟨ml1, ns1, at91, k01⟩, kp1, hLm91, hW11, hW21, hR11, hR21, hI91, hO91⟩, hz1⟩ := id hr1
        obtain ⟨⟨F1, k11, hF1⟩, k21, hFr1⟩ := id hW11
        obtain ⟨⟨FC1, kC1, hFC1⟩, kW1, kK1, hRr1⟩ := id hR11
        obtain ⟨hP_i1, cf_i1, nf_i1, kw_i1, kk_i1, hc_i1⟩ := hRr1 i h_i
        have f_i1 := hFC1 i h_i
        have hc1 := (hc_i1 0 _ hqq).1
        rw [hje, hq00] at hc1
        obtain ⟨u67, h67⟩ := id hr1.2.1
        refine hP 3 _ rfl _ _ _ _ _ _ ?_
        simp only [bX10_isLie_3, hrun, hx, hnth, hput, hok, hcat2, hldI, hldL, hldR, hpI, hpL, hpA, hpR, hp1, hpV, hrtI, hrtL, hrtR, hrtV, hpN, hck, hrI, hrB, hrL, hrA, hwI, hwA, hwB, hrN, mf_0, mf_1, mf_2, mf_3, mf_4, mf_5, mf_6, mf_7, mf_8, mf_9, mf_10, mf_11, mf_12, mf_13, mf_14, mf_15, mf_16, mf_17, mf_18, mf_19, mf_20, mf_21, mf_22, mf_23, mf_24, mf_25, mf_26, mf_27, mf_28, mf_29, ms_11, ms_16, ms_17, ms_20, ms_21, ms_23, ms_24, hwF, hcl, hfty, tyX1, tyX3, tyX6, tyX9, tyX10, tyJ0, tyJ4, hfit, hcmp, hnar, hres, hst, hacp, kz, kof, kn0, kn1, Bool.not_true, Bool.not_false, true_and, and_true, Nat.zero_add, Nat.reduceAdd, List.length_cons, List.length_nil, true_or, or_true, false_or, or_false, decide_true, decide_false, ne_eq, not_true_eq_false, not_false_eq_true, ki_0, ki_1, ki_2, ki_3, ki_4, ki_5, kb_m100, kb_m10, kb_m9, kb_m8, kb_m7, kb_m6, kb_m5, kb_m4, kb_m3, kb_m2, kb_6, kb_7, kb_8, kb_9, kb_10, kb_12, kb_13, kb_16, kb_27, kb_31, kb_32, kb_43, kb_45, kb_48, kb_57, kb_60, kb_63, kb_81, kb_97, kb_99, kb_100, kb_120, kb_126, ks_m1000, ks_243, ks_255, ks_729, ks_1000, ks_2000, ks_2187, ks_6561, ks_9840, ks_9841, kl_0, kl_1, k01, kp1, kC1, kW1, kK1, va_rf, e_i, f_i1, kw_i1, kk_i1, hc1, c_0]
        refine ⟨vp_in_nI (by omega) (by omega), ?_⟩
        refine ⟨fun b22 => ?_, fun b22 => ?_⟩
        · (try simp (disch := omega) only [nI_ltI, nI_leI, nI_eq, Nat.not_lt, Nat.not_le] at b22) <;> (exfalso; omega)
        · try simp (disch := omega) only [nI_ltI, nI_leI, nI_eq, Nat.not_lt, Nat.not_le] at b22
          refine hP 4 _ rfl _ _ _ _ _ _ ?_
          simp only [bX10_isLie_4, hrun, hx, hnth, hput, hok, hcat2, hldI, hldL, hldR, hpI, hpL, hpA, hpR, hp1, hpV, hrtI, hrtL, hrtR, hrtV, hpN, hck, hrI, hrB, hrL, hrA, hwI, hwA, hwB, hrN, mf_0, mf_1, mf_2, mf_3, mf_4, mf_5, mf_6, mf_7, mf_8, mf_9, mf_10, mf_11, mf_12, mf_13, mf_14, mf_15, mf_16, mf_17, mf_18, mf_19, mf_20, mf_21, mf_22, mf_23, mf_24, mf_25, mf_26, mf_27, mf_28, mf_29, ms_11, ms_16, ms_17, ms_20, ms_21, ms_23, ms_24, hwF, hcl, hfty, tyX1, tyX3, tyX6, tyX9, tyX10, tyJ0, tyJ4, hfit, hcmp, hnar, hres, hst, hacp, kz, kof, kn0, kn1, Bool.not_true, Bool.not_false, true_and, and_true, Nat.zero_add, Nat.reduceAdd, List.length_cons, List.length_nil, true_or, or_true, false_or, or_false, decide_true, decide_false, ne_eq, not_true_eq_false, not_false_eq_true, ki_0, ki_1, ki_2, ki_3, ki_4, ki_5, kb_m100, kb_m10, kb_m9, kb_m8, kb_m7, kb_m6, kb_m5, kb_m4, kb_m3, kb_m2, kb_6, kb_7, kb_8, kb_9, kb_10, kb_12, kb_13, kb_16, kb_27, kb_31, kb_32, kb_43, kb_45, kb_48, kb_57, kb_60, kb_63, kb_81, kb_97, kb_99, kb_100, kb_120, kb_126, ks_m1000, ks_243, ks_255, ks_729, ks_1000, ks_2000, ks_2187, ks_6561, ks_9840, ks_9841, kl_0, kl_1, k01, kp1, kC1, kW1, kK1, va_rf, e_i, f_i1, kw_i1, kk_i1, hc1, c_0]
          refine ⟨vp_in_nI (by omega) (by omega), ?_⟩
          refine ⟨vp_in_nI (by omega) (by omega), ?_⟩
          refine c_decode hg (by omega) hr1.M (u := []) mW.nil h67 (by decide) (fun w2 v2 hv2 hv2e hv2o hm2 => ?_)
          simp only [hrun, hx, hnth, hput, hok, hcat2, hldI, hldL, hldR, hpI, hpL, hpA, hpR, hp1, hpV, hrtI, hrtL, hrtR, hrtV, hpN, hck, hrI, hrB, hrL, hrA, hwI, hwA, hwB, hrN, mf_0, mf_1, mf_2, mf_3, mf_4, mf_5, mf_6, mf_7, mf_8, mf_9, mf_10, mf_11, mf_12, mf_13, mf_14, mf_15, mf_16, mf_17, mf_18, mf_19, mf_20, mf_21, mf_22, mf_23, mf_24, mf_25, mf_26, mf_27, mf_28, mf_29, ms_11, ms_16, ms_17, ms_20, ms_21, ms_23, ms_24, hwF, hcl, hfty, tyX1, tyX3, tyX6, tyX9, tyX10, tyJ0, tyJ4, hfit, hcmp, hnar, hres, hst, hacp, kz, kof, kn0, kn1, Bool.not_true, Bool.not_false, true_and, and_true, Nat.zero_add, Nat.reduceAdd, List.length_cons, List.length_nil, true_or, or_true, false_or, or_false, decide_true, decide_false, ne_eq, not_true_eq_false, not_false_eq_true, ki_0, ki_1, ki_2, ki_3, ki_4, ki_5, kb_m100, kb_m10, kb_m9, kb_m8, kb_m7, kb_m6, kb_m5, kb_m4, kb_m3, kb_m2, kb_6, kb_7, kb_8, kb_9, kb_10, kb_12, kb_13, kb_16, kb_27, kb_31, kb_32, kb_43, kb_45, kb_48, kb_57, kb_60, kb_63, kb_81, kb_97, kb_99, kb_100, kb_120, kb_126, ks_m1000, ks_243, ks_255, ks_729, ks_1000, ks_2000, ks_2187, ks_6561, ks_9840, ks_9841, kl_0, kl_1, k01, kp1, kC1, kW1, kK1, va_rf, e_i, f_i1, kw_i1, kk_i1, hc1, c_0]
          refine ⟨fun b43 => ?_, fun b43 => ?_⟩
          · (try simp (disch := omega) only [nI_ltI, nI_leI, nI_eq, Nat.not_lt, Nat.not_le] at b43) <;> (exfalso; omega)
          · try simp (disch := omega) only [nI_ltI, nI_leI, nI_eq, Nat.not_lt, Nat.not_le] at b43
            refine hP 5 _ rfl _ _ _ _ _ _ ?_
            simp only [bX10_isLie_5, hrun, hx, hnth, hput, hok, hcat2, hldI, hldL, hldR, hpI, hpL, hpA, hpR, hp1, hpV, hrtI, hrtL, hrtR, hrtV, hpN, hck, hrI, hrB, hrL, hrA, hwI, hwA, hwB, hrN, mf_0, mf_1, mf_2, mf_3, mf_4, mf_5, mf_6, mf_7, mf_8, mf_9, mf_10, mf_11, mf_12, mf_13, mf_14, mf_15, mf_16, mf_17, mf_18, mf_19, mf_20, mf_21, mf_22, mf_23, mf_24, mf_25, mf_26, mf_27, mf_28, mf_29, ms_11, ms_16, ms_17, ms_20, ms_21, ms_23, ms_24, hwF, hcl, hfty, tyX1, tyX3, tyX6, tyX9, tyX10, tyJ0, tyJ4, hfit, hcmp, hnar, hres, hst, hacp, kz, kof, kn0, kn1, Bool.not_true, Bool.not_false, true_and, and_true, Nat.zero_add, Nat.reduceAdd, List.length_cons, List.length_nil, true_or, or_true, false_or, or_false, decide_true, decide_false, ne_eq, not_true_eq_false, not_false_eq_true, ki_0, ki_1, ki_2, ki_3, ki_4, ki_5, kb_m100, kb_m10, kb_m9, kb_m8, kb_m7, kb_m6, kb_m5, kb_m4, kb_m3, kb_m2, kb_6, kb_7, kb_8, kb_9, kb_10, kb_12, kb_13, kb_16, kb_27, kb_31, kb_32, kb_43, kb_45, kb_48, kb_57, kb_60, kb_63, kb_81, kb_97, kb_99, kb_100, kb_120, kb_126, ks_m1000, ks_243, ks_255, ks_729, ks_1000, ks_2000, ks_2187, ks_6561, ks_9840, ks_9841, kl_0, kl_1, k01, kp1, kC1, kW1, kK1, va_rf, e_i, f_i1, kw_i1, kk_i1, hc1, c_0]
            exact h w2 ⟨hr1.r67 hv2 hm2, _, hs1.keep (hm2 71 (by decide))⟩ ((hm1.y (by decide)).tr (hm2.y (by decide)))
      · (try simp (disch := omega) only [nI_ltI, nI_leI, nI_eq, Nat.not_lt, Nat.not_le] at b4) <;> (exfalso; omega)
end M18
