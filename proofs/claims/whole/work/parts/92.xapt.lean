/-! the class writes a term -/
section W9r
variable {g : hG} {d N c s : Nat} {w : hWd} {Q : hRt}
theorem g_cap {m K K2 : Nat} (h : K ≤ K2) (h2 : K2 ≤ 2 * m + 2) : gcap (gcap m K) K2 = gcap m K2 := by
  unfold gcap
  by_cases q : K ≤ m
  · rw [if_pos q]
  · rw [if_neg q, if_pos h2, if_neg (by omega)]
theorem g_cu {m K K2 : Nat} (h : K ≤ K2) (h2 : K2 ≤ 2 * m + 2) : gcu m K + gcu (gcap m K) K2 = gcu m K2 := by
  unfold gcu gcap
  by_cases q : K ≤ m
  · rw [if_pos q, if_pos q, Nat.zero_add]
  · rw [if_neg q, if_neg q, if_pos h2, if_neg (by omega)]
theorem g_su {m K K2 : Nat} (h : K ≤ K2) (h2 : K2 ≤ 2 * m + 2) : gsu m K + gsu (gcap m K) K2 = gsu m K2 := by
  unfold gsu gcap
  by_cases q : K ≤ m
  · rw [if_pos q, if_pos q, Nat.zero_add]
  · rw [if_neg q, if_neg q, if_pos h2, if_neg (by omega)]
theorem g_vv {v N m K K2 : Nat} (h : K ≤ K2) (h2 : K2 ≤ 2 * m + 2) : gvv (gvv v N m K) (N + gcu m K) (gcap m K) K2 = gvv v N m K2 := by
  unfold gvv gcu gcap
  by_cases q : K ≤ m
  · rw [if_pos q, if_pos q, if_pos q, Nat.add_zero]
  · rw [if_neg q, if_neg q, if_neg q, if_pos h2, if_neg (by omega)]
theorem g_cuM {m K K2 : Nat} (h : K ≤ K2) : gcu m K ≤ gcu m K2 := by
  unfold gcu; split <;> split <;> omega
theorem g_suM {m K K2 : Nat} (h : K ≤ K2) : gsu m K ≤ gsu m K2 := by
  unfold gsu; split <;> split <;> omega
theorem g_v2 (v N m K : Nat) : gvv v N m K = v ∨ gvv v N m K = N := by unfold gvv; split <;> simp
theorem g_vlt {v N m K : Nat} (h : v < N) : gvv v N m K < N + gcu m K := by unfold gvv gcu; split <;> omega
theorem g_ge (m K : Nat) : m ≤ gcap m K := by unfold gcap; split <;> omega
theorem g_le (m K : Nat) : gcap m K ≤ 2 * m + 2 := by unfold gcap; split <;> omega
/-- a builder on its way: from the world w with room m at v, C and D left in all, to the text t -/
def hTS (w w1 : hWd) (b v N m C D : Nat) (t : List Nat) (N1 c1 s1 : Nat) : Prop := hSB w1 b (gvv v N m t.length) (gcap m t.length) t ∧ N1 = N + gcu m t.length ∧ c1 + gcu m t.length = C ∧ s1 + gsu m t.length = D ∧ mfr [b, v, N] w w1
theorem hTS.cl {w w1 : hWd} {b v N m C D : Nat} {t : List Nat} {N1 c1 s1 : Nat} (h : hTS w w1 b v N m C D t N1 c1 s1) : ∃ fs, w1 b = .inr (1, fs) := by
  obtain ⟨⟨_, _, _, ml, F, kb, _⟩, _⟩ := h
  exact ⟨_, kb⟩
theorem hTS.dg {w w1 : hWd} {b v N m C D : Nat} {t : List Nat} {N1 c1 s1 : Nat} (h : hTS w w1 b v N m C D t N1 c1 s1) (hD9 : hDg w) (h1 : b < 1000000 ∧ v < 1000000 ∧ N < 1000000) : hDg w1 := ⟨(h.2.2.2.2 _ (by simp; omega)).trans hD9.1, (h.2.2.2.2 _ (by simp; omega)).trans hD9.2⟩
theorem hTS.nil {w : hWd} {b v N m C D : Nat} {t : List Nat} (h : hSB w b v m t) : hTS w w b v N m C D t N C D := by
  have e1 : gvv v N m t.length = v := if_pos h.2.1
  have e2 : gcap m t.length = m := if_pos h.2.1
  have e3 : gcu m t.length = 0 := if_pos h.2.1
  have e4 : gsu m t.length = 0 := if_pos h.2.1
  refine ⟨by rw [e1, e2]; exact h, by rw [e3]; rfl, by rw [e3]; rfl, by rw [e4]; rfl, mfr.rf⟩
theorem T_app (hg : hgo g) (hd : 5 ≤ d) {w1 : hWd} {b v m N0 C D : Nat} {t : List Nat} (hT9 : hTS w w1 b v N0 m C D t N c s) (hbN : b < N0) (hvN : v < N0) {Kf : Nat} (hC9 : C = gcu m Kf) (hD9 : D = gsu m Kf) (hKm : Kf ≤ 2 * m + 2) (hm4 : m ≤ 4000) {x : Nat} (hx9 : x < 128) (hKf : t.length + 1 ≤ Kf)
    (h : ∀ w2 N2 c2 s2, hTS w w2 b v N0 m C D (t ++ [x]) N2 c2 s2 → Q (some (.ref b)) N2 c2 s2 w2) : Γ g d yJ4_append_cf468 [.ref b, .int (nI x)] N c s w1 Q := by
  obtain ⟨hsb, e1, e2, e3, hm⟩ := id hT9
  subst e1
  have a1 := g_cu (m := m) (K := t.length) (K2 := t.length + 1) (by omega) (by omega)
  have a2 := g_su (m := m) (K := t.length) (K2 := t.length + 1) (by omega) (by omega)
  have a3 := g_cap (m := m) (K := t.length) (K2 := t.length + 1) (by omega) (by omega)
  have a4 := g_vv (v := v) (N := N0) (m := m) (K := t.length) (K2 := t.length + 1) (by omega) (by omega)
  have a5 := g_cuM (m := m) hKf
  have a6 := g_suM (m := m) hKf
  have hge := g_ge m t.length
  have hle := g_le m t.length
  have hvl := g_vlt (m := m) (K := t.length) hvN
  have hg1 : gcu m t.length ≤ 1 := by unfold gcu; split <;> omega
  refine c_bApp hg hd hsb (by omega) (by omega) (by omega) hvl (by omega) (by omega) hx9 (fun w2 h2 hm2 => ?_)
  rw [a4] at hm2
  rw [a3, a4] at h2
  have hl9 : (t ++ [x]).length = t.length + 1 := by simp
  refine h w2 _ _ _ ⟨by rw [hl9]; exact h2, by rw [hl9]; omega, by rw [hl9]; omega, by rw [hl9]; omega, hm.tr (hm2.mono (fun i hi => ?_))⟩
  have := g_v2 v N0 m (t.length + 1)
  simp at hi ⊢
  omega
theorem T_appI (hg : hgo g) (hd : 5 ≤ d) {w1 : hWd} {b v m N0 C D : Nat} {t : List Nat} (hT9 : hTS w w1 b v N0 m C D t N c s) (hbN : b < N0) (hvN : v < N0) {Kf : Nat} (hC9 : C = gcu m Kf) (hD9 : D = gsu m Kf) (hKm : Kf ≤ 2 * m + 2) (hm4 : m ≤ 4000) {n : Nat} (hn : n ≤ 1000000) (hDg9 : hDg w) (hN9 : N0 ≤ 900000) (hKf : t.length + (ndg n + 1) ≤ Kf)
    (h : ∀ w2 N2 c2 s2, hTS w w2 b v N0 m C D (t ++ mdg n) N2 c2 s2 → Q (some (.ref b)) N2 c2 s2 w2) : Γ g d yJ4_append_bf812 [.ref b, .int (nI n)] N c s w1 Q := by
  obtain ⟨hsb, e1, e2, e3, hm⟩ := id hT9
  subst e1
  have a1 := g_cu (m := m) (K := t.length) (K2 := t.length + (ndg n + 1)) (by omega) (by omega)
  have a2 := g_su (m := m) (K := t.length) (K2 := t.length + (ndg n + 1)) (by omega) (by omega)
  have a3 := g_cap (m := m) (K := t.length) (K2 := t.length + (ndg n + 1)) (by omega) (by omega)
  have a4 := g_vv (v := v) (N := N0) (m := m) (K := t.length) (K2 := t.length + (ndg n + 1)) (by omega) (by omega)
  have a5 := g_cuM (m := m) hKf
  have a6 := g_suM (m := m) hKf
  have hge := g_ge m t.length
  have hle := g_le m t.length
  have hvl := g_vlt (m := m) (K := t.length) hvN
  have hg1 : gcu m t.length ≤ 1 := by unfold gcu; split <;> omega
  refine c_bAppI hg hd hsb hn (hT9.dg hDg9 ⟨by omega, by omega, by omega⟩) (by omega) (by omega) (by omega) hvl (by omega) (by omega) (by omega) (fun w2 h2 hm2 => ?_)
  rw [a4] at hm2
  rw [a3, a4] at h2
  have hl9 : (t ++ mdg n).length = t.length + (ndg n + 1) := by rw [List.length_append]; have : (mdg n).length = ndg n + 1 := dfr_len n _; omega
  refine h w2 _ _ _ ⟨by rw [hl9]; exact h2, by rw [hl9]; omega, by rw [hl9]; omega, by rw [hl9]; omega, hm.tr (hm2.mono (fun i hi => ?_))⟩
  have := g_v2 v N0 m (t.length + (ndg n + 1))
  simp at hi ⊢
  omega
theorem abs64 {z : Int} (h1 : -1000000 ≤ z) (h2 : z ≤ 1000000) : (if (0 : Int64) < Int64.ofInt z then Int64.ofInt z else -Int64.ofInt z).toInt32 = nI z.natAbs := by
  have hz9 : (Int64.ofInt z).toInt = z := Int64.toInt_ofInt_of_le (by omega) (by omega)
  have key : ∀ k : Int, 0 ≤ k → k ≤ 1000000 → (Int64.ofInt k).toInt32 = nI k.natAbs := fun k a b => by
    rw [ofI32 k (by omega) b]
    refine Int32.toInt_inj.mp ?_
    rw [nI_toInt (by omega), Int32.toInt_ofInt_of_le (by omega) (by omega)]
    omega
  by_cases q : 0 ≤ z
  · by_cases q0 : z = 0
    · subst q0; decide +kernel
    · rw [if_pos (Int64.lt_iff_toInt_lt.mpr (by rw [hz9]; show (0 : Int) < z; omega))]
      exact key z q h2
  · rw [if_neg (fun y => by
      have := Int64.lt_iff_toInt_lt.mp y
      rw [hz9] at this
      have e : (0 : Int64).toInt = 0 := by decide
      omega), ← Int64.ofInt_neg, key (-z) (by omega) (by omega)]
    congr 1
    omega
theorem i2c97 {x : Nat} (h : x < 3) : ((nI (97 + x)).toUInt32 % 65536).toInt32 = nI (97 + x) := ki2c (97 + x) (by omega)
set_option maxRecDepth 100000 in
set_option maxHeartbeats 4000000 in
theorem c_appendTerm (hg : hgo g) (hd : 8 ≤ d) {b v m : Nat} {t u : List Nat} {z : Int} (ht : hSB w b v m t) (hu : mW u) (hz1 : -1000000 ≤ z) (hz2 : z ≤ 1000000) (hDg9 : hDg w) (hm16 : 16 ≤ m) (hm4 : m ≤ 4000) (hbN : b < N) (hvN : v < N) (hN9 : N ≤ 900000) (hc1 : gcu m (t ++ mtm (decide (t.length = 0)) (menc u, z)).length ≤ c) (hs1 : gsu m (t ++ mtm (decide (t.length = 0)) (menc u, z)).length ≤ s)
    (h : ∀ w', hSB w' b (gvv v N m (t ++ mtm (decide (t.length = 0)) (menc u, z)).length) (gcap m (t ++ mtm (decide (t.length = 0)) (menc u, z)).length) (t ++ mtm (decide (t.length = 0)) (menc u, z)) → mfr [b, v, N] w w' → Q none (N + gcu m (t ++ mtm (decide (t.length = 0)) (menc u, z)).length) (c - gcu m (t ++ mtm (decide (t.length = 0)) (menc u, z)).length) (s - gsu m (t ++ mtm (decide (t.length = 0)) (menc u, z)).length) w') : Γ g d yX7_appendTerm [.ref b, .int (nI (menc u)), .long (Int64.ofInt z)] N c s w Q := by
  have hbv := ht.1
  obtain ⟨kfs, kb⟩ : ∃ fs, w b = .inr (1, fs) := by
    obtain ⟨_, _, _, ml, F, kb, _⟩ := ht
    exact ⟨_, kb⟩
  have hlt9 := hu.lt
  have h8 := hu.1
  have hm9 := mtm_len (f := decide (t.length = 0)) (q := (menc u, z)) hlt9
  have hK9 : (t ++ mtm (decide (t.length = 0)) (menc u, z)).length = t.length + (mtm (decide (t.length = 0)) (menc u, z)).length := List.length_append
  have htl := ht.2.1
  generalize hKf : (t ++ mtm (decide (t.length = 0)) (menc u, z)).length = Kf at *
  obtain ⟨sg, hsg⟩ : ∃ sg, sg = (if z < 0 then [45] else if t.length = 0 then [] else [43]) := ⟨_, rfl⟩
  obtain ⟨pre, hpr⟩ : ∃ pre, pre = sg ++ (if z.natAbs ≠ 1 ∨ menc u = 0 then mdg z.natAbs else []) := ⟨_, rfl⟩
  have hmt : mtm (decide (t.length = 0)) (menc u, z) = pre ++ u.map (fun x => 97 + x) := by
    unfold mtm
    rw [hpr, hsg]
    simp only [mdec_enc hu]
    by_cases q : t.length = 0
    · simp [q]
    · simp [q]
  have hfull : t ++ pre ++ u.map (fun x => 97 + x) = t ++ mtm (decide (t.length = 0)) (menc u, z) := by rw [hmt, List.append_assoc]
  have hKp : t.length + pre.length + u.length = Kf := by rw [hK9, hmt, List.length_append, List.length_map]; omega
  have hKs : t.length + sg.length ≤ Kf := by
    have : sg.length ≤ pre.length := by rw [hpr, List.length_append]; omega
    omega
  have hKm : Kf ≤ 2 * m + 2 := by omega
  have eA := abs64 hz1 hz2
  have eT : (Int64.ofInt z).toInt = z := Int64.toInt_ofInt_of_le (by omega) (by omega)
  refine Γ.intro hg kX7_appendTerm (by omega) (gcu m Kf) (gsu m Kf) (by omega) (by omega) (Nat.le_of_ble_eq_true rfl) (fun P hP => ?_)
  show P N (gcu m Kf) (gsu m Kf) w 0 [some (.ref b), some (.int (nI (menc u))), some (.long (Int64.ofInt z)), none, none, none] []
  have let9 : ∀ (r k : Nat) (w1 : hWd) (N1 c1 s1 : Nat), u.length - k = r → k ≤ u.length → hTS w w1 b v N m (gcu m Kf) (gsu m Kf) (t ++ pre ++ (u.take k).map (fun x => 97 + x)) N1 c1 s1 → P N1 c1 s1 w1 57 [some (.ref b), some (.int (nI (menc u))), some (.long (Int64.ofInt z)), none, some (.int (nI z.natAbs)), some (.int (nI k))] [] := by
    intro r
    induction r with
    | zero =>
      intro k w1 N1 c1 s1 hr hk9 hT9
      obtain rfl : k = u.length := by omega
      obtain ⟨fs1, k1⟩ := hT9.cl
      rw [List.take_length, hfull] at hT9
      refine hP 8 _ rfl _ _ _ _ _ _ ?_
      simp only [bX7_appendTerm_8, hrun, hx, hnth, hput, hok, hcat2, hldI, hldL, hldR, hpI, hpL, hpA, hpR, hp1, hpV, hrtI, hrtL, hrtR, hrtV, hpN, hck, hrI, hrB, hrL, hrA, hwI, hwA, hwB, hrN, hfk, hfs, hrF, hwF, hcl, hfty, tyX1, tyX3, tyX6, tyX9, tyX10, tyJ0, tyJ4, hfit, hcmp, hnar, hres, hst, hacp, kz, kof, kn0, kn1, Bool.not_true, Bool.not_false, true_and, and_true, Nat.zero_add, Nat.reduceAdd, List.length_cons, List.length_nil, true_or, or_true, false_or, or_false, decide_true, decide_false, ne_eq, not_true_eq_false, not_false_eq_true, ki_0, ki_1, ki_2, ki_3, ki_4, ki_5, kb_m100, kb_m10, kb_m9, kb_m8, kb_m7, kb_m6, kb_m5, kb_m4, kb_m3, kb_m2, kb_6, kb_7, kb_8, kb_9, kb_10, kb_12, kb_13, kb_16, kb_27, kb_31, kb_32, kb_43, kb_45, kb_48, kb_57, kb_60, kb_63, kb_81, kb_97, kb_99, kb_100, kb_120, kb_126, ks_m1000, ks_243, ks_255, ks_729, ks_1000, ks_2000, ks_2187, ks_6561, ks_9840, ks_9841, kl_0, kl_1, k1]
      refine c_lengthOf hg (by omega) hu ?_
      simp only [hrun, hx, hnth, hput, hok, hcat2, hldI, hldL, hldR, hpI, hpL, hpA, hpR, hp1, hpV, hrtI, hrtL, hrtR, hrtV, hpN, hck, hrI, hrB, hrL, hrA, hwI, hwA, hwB, hrN, hfk, hfs, hrF, hwF, hcl, hfty, tyX1, tyX3, tyX6, tyX9, tyX10, tyJ0, tyJ4, hfit, hcmp, hnar, hres, hst, hacp, kz, kof, kn0, kn1, Bool.not_true, Bool.not_false, true_and, and_true, Nat.zero_add, Nat.reduceAdd, List.length_cons, List.length_nil, true_or, or_true, false_or, or_false, decide_true, decide_false, ne_eq, not_true_eq_false, not_false_eq_true, ki_0, ki_1, ki_2, ki_3, ki_4, ki_5, kb_m100, kb_m10, kb_m9, kb_m8, kb_m7, kb_m6, kb_m5, kb_m4, kb_m3, kb_m2, kb_6, kb_7, kb_8, kb_9, kb_10, kb_12, kb_13, kb_16, kb_27, kb_31, kb_32, kb_43, kb_45, kb_48, kb_57, kb_60, kb_63, kb_81, kb_97, kb_99, kb_100, kb_120, kb_126, ks_m1000, ks_243, ks_255, ks_729, ks_1000, ks_2000, ks_2187, ks_6561, ks_9840, ks_9841, kl_0, kl_1, k1]
      refine ⟨fun b63 => ?_, fun b63 => ?_⟩
      · try simp (disch := omega) only [nI_ltI, nI_leI, nI_eq, Nat.not_lt, Nat.not_le] at b63
        refine hP 10 _ rfl _ _ _ _ _ _ ?_
        simp only [bX7_appendTerm_10, hrun, hx, hnth, hput, hok, hcat2, hldI, hldL, hldR, hpI, hpL, hpA, hpR, hp1, hpV, hrtI, hrtL, hrtR, hrtV, hpN, hck, hrI, hrB, hrL, hrA, hwI, hwA, hwB, hrN, hfk, hfs, hrF, hwF, hcl, hfty, tyX1, tyX3, tyX6, tyX9, tyX10, tyJ0, tyJ4, hfit, hcmp, hnar, hres, hst, hacp, kz, kof, kn0, kn1, Bool.not_true, Bool.not_false, true_and, and_true, Nat.zero_add, Nat.reduceAdd, List.length_cons, List.length_nil, true_or, or_true, false_or, or_false, decide_true, decide_false, ne_eq, not_true_eq_false, not_false_eq_true, ki_0, ki_1, ki_2, ki_3, ki_4, ki_5, kb_m100, kb_m10, kb_m9, kb_m8, kb_m7, kb_m6, kb_m5, kb_m4, kb_m3, kb_m2, kb_6, kb_7, kb_8, kb_9, kb_10, kb_12, kb_13, kb_16, kb_27, kb_31, kb_32, kb_43, kb_45, kb_48, kb_57, kb_60, kb_63, kb_81, kb_97, kb_99, kb_100, kb_120, kb_126, ks_m1000, ks_243, ks_255, ks_729, ks_1000, ks_2000, ks_2187, ks_6561, ks_9840, ks_9841, kl_0, kl_1, k1]
        obtain ⟨q1, q2, q3, q4, q5⟩ := hT9
        subst q2
        rw [hKf] at q1 ⊢
        exact h w1 q1 q5
      · (try simp (disch := omega) only [nI_ltI, nI_leI, nI_eq, Nat.not_lt, Nat.not_le] at b63) <;> (exfalso; omega)
    | succ r ih =>
      intro k w1 N1 c1 s1 hr hk9 hT9
      obtain ⟨fs1, k1⟩ := hT9.cl
      have hx3 : u.getD k 0 < 3 := mat_3 hu k (by omega)
      have ex := i2c97 hx3
      have elen : ((u.take k).map (fun x => 97 + x)).length = k := by rw [List.length_map, List.length_take]; omega
      have etk : (u.take (k + 1)).map (fun x => 97 + x) = (u.take k).map (fun x => 97 + x) ++ [97 + u.getD k 0] := by
        rw [List.take_succ, List.map_append, List.getElem?_eq_getElem (by omega)]
        simp [List.getD_eq_getElem?_getD, List.getElem?_eq_getElem (show k < u.length by omega)]
      refine hP 8 _ rfl _ _ _ _ _ _ ?_
      simp only [bX7_appendTerm_8, hrun, hx, hnth, hput, hok, hcat2, hldI, hldL, hldR, hpI, hpL, hpA, hpR, hp1, hpV, hrtI, hrtL, hrtR, hrtV, hpN, hck, hrI, hrB, hrL, hrA, hwI, hwA, hwB, hrN, hfk, hfs, hrF, hwF, hcl, hfty, tyX1, tyX3, tyX6, tyX9, tyX10, tyJ0, tyJ4, hfit, hcmp, hnar, hres, hst, hacp, kz, kof, kn0, kn1, Bool.not_true, Bool.not_false, true_and, and_true, Nat.zero_add, Nat.reduceAdd, List.length_cons, List.length_nil, true_or, or_true, false_or, or_false, decide_true, decide_false, ne_eq, not_true_eq_false, not_false_eq_true, ki_0, ki_1, ki_2, ki_3, ki_4, ki_5, kb_m100, kb_m10, kb_m9, kb_m8, kb_m7, kb_m6, kb_m5, kb_m4, kb_m3, kb_m2, kb_6, kb_7, kb_8, kb_9, kb_10, kb_12, kb_13, kb_16, kb_27, kb_31, kb_32, kb_43, kb_45, kb_48, kb_57, kb_60, kb_63, kb_81, kb_97, kb_99, kb_100, kb_120, kb_126, ks_m1000, ks_243, ks_255, ks_729, ks_1000, ks_2000, ks_2187, ks_6561, ks_9840, ks_9841, kl_0, kl_1, k1, nI_add, ex]
      refine c_lengthOf hg (by omega) hu ?_
      simp only [hrun, hx, hnth, hput, hok, hcat2, hldI, hldL, hldR, hpI, hpL, hpA, hpR, hp1, hpV, hrtI, hrtL, hrtR, hrtV, hpN, hck, hrI, hrB, hrL, hrA, hwI, hwA, hwB, hrN, hfk, hfs, hrF, hwF, hcl, hfty, tyX1, tyX3, tyX6, tyX9, tyX10, tyJ0, tyJ4, hfit, hcmp, hnar, hres, hst, hacp, kz, kof, kn0, kn1, Bool.not_true, Bool.not_false, true_and, and_true, Nat.zero_add, Nat.reduceAdd, List.length_cons, List.length_nil, true_or, or_true, false_or, or_false, decide_true, decide_false, ne_eq, not_true_eq_false, not_false_eq_true, ki_0, ki_1, ki_2, ki_3, ki_4, ki_5, kb_m100, kb_m10, kb_m9, kb_m8, kb_m7, kb_m6, kb_m5, kb_m4, kb_m3, kb_m2, kb_6, kb_7, kb_8, kb_9, kb_10, kb_12, kb_13, kb_16, kb_27, kb_31, kb_32, kb_43, kb_45, kb_48, kb_57, kb_60, kb_63, kb_81, kb_97, kb_99, kb_100, kb_120, kb_126, ks_m1000, ks_243, ks_255, ks_729, ks_1000, ks_2000, ks_2187, ks_6561, ks_9840, ks_9841, kl_0, kl_1, k1, nI_add, ex]
      refine ⟨fun b63 => ?_, fun b63 => ?_⟩
      · (try simp (disch := omega) only [nI_ltI, nI_leI, nI_eq, Nat.not_lt, Nat.not_le] at b63) <;> (exfalso; omega)
      · try simp (disch := omega) only [nI_ltI, nI_leI, nI_eq, Nat.not_lt, Nat.not_le] at b63
        refine hP 9 _ rfl _ _ _ _ _ _ ?_
        simp only [bX7_appendTerm_9, hrun, hx, hnth, hput, hok, hcat2, hldI, hldL, hldR, hpI, hpL, hpA, hpR, hp1, hpV, hrtI, hrtL, hrtR, hrtV, hpN, hck, hrI, hrB, hrL, hrA, hwI, hwA, hwB, hrN, hfk, hfs, hrF, hwF, hcl, hfty, tyX1, tyX3, tyX6, tyX9, tyX10, tyJ0, tyJ4, hfit, hcmp, hnar, hres, hst, hacp, kz, kof, kn0, kn1, Bool.not_true, Bool.not_false, true_and, and_true, Nat.zero_add, Nat.reduceAdd, List.length_cons, List.length_nil, true_or, or_true, false_or, or_false, decide_true, decide_false, ne_eq, not_true_eq_false, not_false_eq_true, ki_0, ki_1, ki_2, ki_3, ki_4, ki_5, kb_m100, kb_m10, kb_m9, kb_m8, kb_m7, kb_m6, kb_m5, kb_m4, kb_m3, kb_m2, kb_6, kb_7, kb_8, kb_9, kb_10, kb_12, kb_13, kb_16, kb_27, kb_31, kb_32, kb_43, kb_45, kb_48, kb_57, kb_60, kb_63, kb_81, kb_97, kb_99, kb_100, kb_120, kb_126, ks_m1000, ks_243, ks_255, ks_729, ks_1000, ks_2000, ks_2187, ks_6561, ks_9840, ks_9841, kl_0, kl_1, k1, nI_add, ex]
        refine c_letterAt hg (by omega) hu (by omega) ?_
        simp only [hrun, hx, hnth, hput, hok, hcat2, hldI, hldL, hldR, hpI, hpL, hpA, hpR, hp1, hpV, hrtI, hrtL, hrtR, hrtV, hpN, hck, hrI, hrB, hrL, hrA, hwI, hwA, hwB, hrN, hfk, hfs, hrF, hwF, hcl, hfty, tyX1, tyX3, tyX6, tyX9, tyX10, tyJ0, tyJ4, hfit, hcmp, hnar, hres, hst, hacp, kz, kof, kn0, kn1, Bool.not_true, Bool.not_false, true_and, and_true, Nat.zero_add, Nat.reduceAdd, List.length_cons, List.length_nil, true_or, or_true, false_or, or_false, decide_true, decide_false, ne_eq, not_true_eq_false, not_false_eq_true, ki_0, ki_1, ki_2, ki_3, ki_4, ki_5, kb_m100, kb_m10, kb_m9, kb_m8, kb_m7, kb_m6, kb_m5, kb_m4, kb_m3, kb_m2, kb_6, kb_7, kb_8, kb_9, kb_10, kb_12, kb_13, kb_16, kb_27, kb_31, kb_32, kb_43, kb_45, kb_48, kb_57, kb_60, kb_63, kb_81, kb_97, kb_99, kb_100, kb_120, kb_126, ks_m1000, ks_243, ks_255, ks_729, ks_1000, ks_2000, ks_2187, ks_6561, ks_9840, ks_9841, kl_0, kl_1, k1, nI_add, ex]
        refine T_app hg (by omega) hT9 hbN hvN rfl rfl hKm hm4 (by omega) (by simp only [List.length_append, elen]; omega) (fun w2 N2 c2 s2 hT2 => ?_)
        simp only [hrun, hx, hnth, hput, hok, hcat2, hldI, hldL, hldR, hpI, hpL, hpA, hpR, hp1, hpV, hrtI, hrtL, hrtR, hrtV, hpN, hck, hrI, hrB, hrL, hrA, hwI, hwA, hwB, hrN, hfk, hfs, hrF, hwF, hcl, hfty, tyX1, tyX3, tyX6, tyX9, tyX10, tyJ0, tyJ4, hfit, hcmp, hnar, hres, hst, hacp, kz, kof, kn0, kn1, Bool.not_true, Bool.not_false, true_and, and_true, Nat.zero_add, Nat.reduceAdd, List.length_cons, List.length_nil, true_or, or_true, false_or, or_false, decide_true, decide_false, ne_eq, not_true_eq_false, not_false_eq_true, ki_0, ki_1, ki_2, ki_3, ki_4, ki_5, kb_m100, kb_m10, kb_m9, kb_m8, kb_m7, kb_m6, kb_m5, kb_m4, kb_m3, kb_m2, kb_6, kb_7, kb_8, kb_9, kb_10, kb_12, kb_13, kb_16, kb_27, kb_31, kb_32, kb_43, kb_45, kb_48, kb_57, kb_60, kb_63, kb_81, kb_97, kb_99, kb_100, kb_120, kb_126, ks_m1000, ks_243, ks_255, ks_729, ks_1000, ks_2000, ks_2187, ks_6561, ks_9840, ks_9841, kl_0, kl_1, k1, nI_add, ex]
        rw [List.append_assoc, ← etk] at hT2
        exact ih (k + 1) w2 N2 c2 s2 (by omega) (by omega) hT2
  have dig9 : ∀ (w1 : hWd) (N1 c1 s1 : Nat), hTS w w1 b v N m (gcu m Kf) (gsu m Kf) (t ++ sg) N1 c1 s1 → P N1 c1 s1 w1 30 [some (.ref b), some (.int (nI (menc u))), some (.long (Int64.ofInt z)), none, none, none] [] := by
    intro w1 N1 c1 s1 hT9
    obtain ⟨fs1, k1⟩ := hT9.cl
    by_cases q9 : z.natAbs ≠ 1 ∨ menc u = 0
    · have hpre : pre = sg ++ mdg z.natAbs := by rw [hpr, if_pos q9]
      have hml : (mdg z.natAbs).length = ndg z.natAbs + 1 := dfr_len _ _
      have hkl : (t ++ sg).length + (ndg z.natAbs + 1) ≤ Kf := by
        have := hKp
        rw [hpre, List.length_append, hml] at this
        rw [List.length_append]; omega
      have go : P N1 c1 s1 w1 47 [some (.ref b), some (.int (nI (menc u))), some (.long (Int64.ofInt z)), none, some (.int (nI z.natAbs)), none] [] := by
        refine hP 6 _ rfl _ _ _ _ _ _ ?_
        simp only [bX7_appendTerm_6, hrun, hx, hnth, hput, hok, hcat2, hldI, hldL, hldR, hpI, hpL, hpA, hpR, hp1, hpV, hrtI, hrtL, hrtR, hrtV, hpN, hck, hrI, hrB, hrL, hrA, hwI, hwA, hwB, hrN, hfk, hfs, hrF, hwF, hcl, hfty, tyX1, tyX3, tyX6, tyX9, tyX10, tyJ0, tyJ4, hfit, hcmp, hnar, hres, hst, hacp, kz, kof, kn0, kn1, Bool.not_true, Bool.not_false, true_and, and_true, Nat.zero_add, Nat.reduceAdd, List.length_cons, List.length_nil, true_or, or_true, false_or, or_false, decide_true, decide_false, ne_eq, not_true_eq_false, not_false_eq_true, ki_0, ki_1, ki_2, ki_3, ki_4, ki_5, kb_m100, kb_m10, kb_m9, kb_m8, kb_m7, kb_m6, kb_m5, kb_m4, kb_m3, kb_m2, kb_6, kb_7, kb_8, kb_9, kb_10, kb_12, kb_13, kb_16, kb_27, kb_31, kb_32, kb_43, kb_45, kb_48, kb_57, kb_60, kb_63, kb_81, kb_97, kb_99, kb_100, kb_120, kb_126, ks_m1000, ks_243, ks_255, ks_729, ks_1000, ks_2000, ks_2187, ks_6561, ks_9840, ks_9841, kl_0, kl_1, k1]
        refine T_appI hg (by omega) hT9 hbN hvN rfl rfl hKm hm4 (by omega) hDg9 hN9 hkl (fun w2 N2 c2 s2 hT2 => ?_)
        obtain ⟨fs2, k2⟩ := hT2.cl
        simp only [hrun, hx, hnth, hput, hok, hcat2, hldI, hldL, hldR, hpI, hpL, hpA, hpR, hp1, hpV, hrtI, hrtL, hrtR, hrtV, hpN, hck, hrI, hrB, hrL, hrA, hwI, hwA, hwB, hrN, hfk, hfs, hrF, hwF, hcl, hfty, tyX1, tyX3, tyX6, tyX9, tyX10, tyJ0, tyJ4, hfit, hcmp, hnar, hres, hst, hacp, kz, kof, kn0, kn1, Bool.not_true, Bool.not_false, true_and, and_true, Nat.zero_add, Nat.reduceAdd, List.length_cons, List.length_nil, true_or, or_true, false_or, or_false, decide_true, decide_false, ne_eq, not_true_eq_false, not_false_eq_true, ki_0, ki_1, ki_2, ki_3, ki_4, ki_5, kb_m100, kb_m10, kb_m9, kb_m8, kb_m7, kb_m6, kb_m5, kb_m4, kb_m3, kb_m2, kb_6, kb_7, kb_8, kb_9, kb_10, kb_12, kb_13, kb_16, kb_27, kb_31, kb_32, kb_43, kb_45, kb_48, kb_57, kb_60, kb_63, kb_81, kb_97, kb_99, kb_100, kb_120, kb_126, ks_m1000, ks_243, ks_255, ks_729, ks_1000, ks_2000, ks_2187, ks_6561, ks_9840, ks_9841, kl_0, kl_1, k1, k2]
        refine hP 7 _ rfl _ _ _ _ _ _ ?_
        simp only [bX7_appendTerm_7, hrun, hx, hnth, hput, hok, hcat2, hldI, hldL, hldR, hpI, hpL, hpA, hpR, hp1, hpV, hrtI, hrtL, hrtR, hrtV, hpN, hck, hrI, hrB, hrL, hrA, hwI, hwA, hwB, hrN, hfk, hfs, hrF, hwF, hcl, hfty, tyX1, tyX3, tyX6, tyX9, tyX10, tyJ0, tyJ4, hfit, hcmp, hnar, hres, hst, hacp, kz, kof, kn0, kn1, Bool.not_true, Bool.not_false, true_and, and_true, Nat.zero_add, Nat.reduceAdd, List.length_cons, List.length_nil, true_or, or_true, false_or, or_false, decide_true, decide_false, ne_eq, not_true_eq_false, not_false_eq_true, ki_0, ki_1, ki_2, ki_3, ki_4, ki_5, kb_m100, kb_m10, kb_m9, kb_m8, kb_m7, kb_m6, kb_m5, kb_m4, kb_m3, kb_m2, kb_6, kb_7, kb_8, kb_9, kb_10, kb_12, kb_13, kb_16, kb_27, kb_31, kb_32, kb_43, kb_45, kb_48, kb_57, kb_60, kb_63, kb_81, kb_97, kb_99, kb_100, kb_120, kb_126, ks_m1000, ks_243, ks_255, ks_729, ks_1000, ks_2000, ks_2187, ks_6561, ks_9840, ks_9841, kl_0, kl_1, k1]
        refine let9 u.length 0 w2 N2 c2 s2 (Nat.sub_zero _) (Nat.zero_le _) ?_
        rw [List.take_zero, List.map_nil, List.append_nil, hpre, ← List.append_assoc]
        exact hT2
      refine hP 4 _ rfl _ _ _ _ _ _ ?_
      simp only [bX7_appendTerm_4, hrun, hx, hnth, hput, hok, hcat2, hldI, hldL, hldR, hpI, hpL, hpA, hpR, hp1, hpV, hrtI, hrtL, hrtR, hrtV, hpN, hck, hrI, hrB, hrL, hrA, hwI, hwA, hwB, hrN, hfk, hfs, hrF, hwF, hcl, hfty, tyX1, tyX3, tyX6, tyX9, tyX10, tyJ0, tyJ4, hfit, hcmp, hnar, hres, hst, hacp, kz, kof, kn0, kn1, Bool.not_true, Bool.not_false, true_and, and_true, Nat.zero_add, Nat.reduceAdd, List.length_cons, List.length_nil, true_or, or_true, false_or, or_false, decide_true, decide_false, ne_eq, not_true_eq_false, not_false_eq_true, ki_0, ki_1, ki_2, ki_3, ki_4, ki_5, kb_m100, kb_m10, kb_m9, kb_m8, kb_m7, kb_m6, kb_m5, kb_m4, kb_m3, kb_m2, kb_6, kb_7, kb_8, kb_9, kb_10, kb_12, kb_13, kb_16, kb_27, kb_31, kb_32, kb_43, kb_45, kb_48, kb_57, kb_60, kb_63, kb_81, kb_97, kb_99, kb_100, kb_120, kb_126, ks_m1000, ks_243, ks_255, ks_729, ks_1000, ks_2000, ks_2187, ks_6561, ks_9840, ks_9841, kl_0, kl_1, eA]
      refine ⟨fun b40 => ?_, fun b40 => ?_⟩
      · try simp (disch := omega) only [nI_ltI, nI_leI, nI_eq, Nat.not_lt, Nat.not_le] at b40
        exact go
      · try simp (disch := omega) only [nI_ltI, nI_leI, nI_eq, Nat.not_lt, Nat.not_le] at b40
        refine hP 5 _ rfl _ _ _ _ _ _ ?_
        simp only [bX7_appendTerm_5, hrun, hx, hnth, hput, hok, hcat2, hldI, hldL, hldR, hpI, hpL, hpA, hpR, hp1, hpV, hrtI, hrtL, hrtR, hrtV, hpN, hck, hrI, hrB, hrL, hrA, hwI, hwA, hwB, hrN, hfk, hfs, hrF, hwF, hcl, hfty, tyX1, tyX3, tyX6, tyX9, tyX10, tyJ0, tyJ4, hfit, hcmp, hnar, hres, hst, hacp, kz, kof, kn0, kn1, Bool.not_true, Bool.not_false, true_and, and_true, Nat.zero_add, Nat.reduceAdd, List.length_cons, List.length_nil, true_or, or_true, false_or, or_false, decide_true, decide_false, ne_eq, not_true_eq_false, not_false_eq_true, ki_0, ki_1, ki_2, ki_3, ki_4, ki_5, kb_m100, kb_m10, kb_m9, kb_m8, kb_m7, kb_m6, kb_m5, kb_m4, kb_m3, kb_m2, kb_6, kb_7, kb_8, kb_9, kb_10, kb_12, kb_13, kb_16, kb_27, kb_31, kb_32, kb_43, kb_45, kb_48, kb_57, kb_60, kb_63, kb_81, kb_97, kb_99, kb_100, kb_120, kb_126, ks_m1000, ks_243, ks_255, ks_729, ks_1000, ks_2000, ks_2187, ks_6561, ks_9840, ks_9841, kl_0, kl_1, eA]
        refine ⟨fun b44 => ?_, fun b44 => ?_⟩
        · try simp (disch := omega) only [nI_ltI, nI_leI, nI_eq, Nat.not_lt, Nat.not_le] at b44
          exfalso; omega
        · try simp (disch := omega) only [nI_ltI, nI_leI, nI_eq, Nat.not_lt, Nat.not_le] at b44
          exact go
    · have hpre : pre = sg := by rw [hpr, if_neg q9, List.append_nil]
      refine hP 4 _ rfl _ _ _ _ _ _ ?_
      simp only [bX7_appendTerm_4, hrun, hx, hnth, hput, hok, hcat2, hldI, hldL, hldR, hpI, hpL, hpA, hpR, hp1, hpV, hrtI, hrtL, hrtR, hrtV, hpN, hck, hrI, hrB, hrL, hrA, hwI, hwA, hwB, hrN, hfk, hfs, hrF, hwF, hcl, hfty, tyX1, tyX3, tyX6, tyX9, tyX10, tyJ0, tyJ4, hfit, hcmp, hnar, hres, hst, hacp, kz, kof, kn0, kn1, Bool.not_true, Bool.not_false, true_and, and_true, Nat.zero_add, Nat.reduceAdd, List.length_cons, List.length_nil, true_or, or_true, false_or, or_false, decide_true, decide_false, ne_eq, not_true_eq_false, not_false_eq_true, ki_0, ki_1, ki_2, ki_3, ki_4, ki_5, kb_m100, kb_m10, kb_m9, kb_m8, kb_m7, kb_m6, kb_m5, kb_m4, kb_m3, kb_m2, kb_6, kb_7, kb_8, kb_9, kb_10, kb_12, kb_13, kb_16, kb_27, kb_31, kb_32, kb_43, kb_45, kb_48, kb_57, kb_60, kb_63, kb_81, kb_97, kb_99, kb_100, kb_120, kb_126, ks_m1000, ks_243, ks_255, ks_729, ks_1000, ks_2000, ks_2187, ks_6561, ks_9840, ks_9841, kl_0, kl_1, eA, k1]
      refine ⟨fun b40 => ?_, fun b40 => ?_⟩
      · (try simp (disch := omega) only [nI_ltI, nI_leI, nI_eq, Nat.not_lt, Nat.not_le] at b40) <;> (exfalso; omega)
      · try simp (disch := omega) only [nI_ltI, nI_leI, nI_eq, Nat.not_lt, Nat.not_le] at b40
        refine hP 5 _ rfl _ _ _ _ _ _ ?_
        simp only [bX7_appendTerm_5, hrun, hx, hnth, hput, hok, hcat2, hldI, hldL, hldR, hpI, hpL, hpA, hpR, hp1, hpV, hrtI, hrtL, hrtR, hrtV, hpN, hck, hrI, hrB, hrL, hrA, hwI, hwA, hwB, hrN, hfk, hfs, hrF, hwF, hcl, hfty, tyX1, tyX3, tyX6, tyX9, tyX10, tyJ0, tyJ4, hfit, hcmp, hnar, hres, hst, hacp, kz, kof, kn0, kn1, Bool.not_true, Bool.not_false, true_and, and_true, Nat.zero_add, Nat.reduceAdd, List.length_cons, List.length_nil, true_or, or_true, false_or, or_false, decide_true, decide_false, ne_eq, not_true_eq_false, not_false_eq_true, ki_0, ki_1, ki_2, ki_3, ki_4, ki_5, kb_m100, kb_m10, kb_m9, kb_m8, kb_m7, kb_m6, kb_m5, kb_m4, kb_m3, kb_m2, kb_6, kb_7, kb_8, kb_9, kb_10, kb_12, kb_13, kb_16, kb_27, kb_31, kb_32, kb_43, kb_45, kb_48, kb_57, kb_60, kb_63, kb_81, kb_97, kb_99, kb_100, kb_120, kb_126, ks_m1000, ks_243, ks_255, ks_729, ks_1000, ks_2000, ks_2187, ks_6561, ks_9840, ks_9841, kl_0, kl_1, eA, k1]
        refine ⟨fun b44 => ?_, fun b44 => ?_⟩
        · try simp (disch := omega) only [nI_ltI, nI_leI, nI_eq, Nat.not_lt, Nat.not_le] at b44
          refine hP 7 _ rfl _ _ _ _ _ _ ?_
          simp only [bX7_appendTerm_7, hrun, hx, hnth, hput, hok, hcat2, hldI, hldL, hldR, hpI, hpL, hpA, hpR, hp1, hpV, hrtI, hrtL, hrtR, hrtV, hpN, hck, hrI, hrB, hrL, hrA, hwI, hwA, hwB, hrN, hfk, hfs, hrF, hwF, hcl, hfty, tyX1, tyX3, tyX6, tyX9, tyX10, tyJ0, tyJ4, hfit, hcmp, hnar, hres, hst, hacp, kz, kof, kn0, kn1, Bool.not_true, Bool.not_false, true_and, and_true, Nat.zero_add, Nat.reduceAdd, List.length_cons, List.length_nil, true_or, or_true, false_or, or_false, decide_true, decide_false, ne_eq, not_true_eq_false, not_false_eq_true, ki_0, ki_1, ki_2, ki_3, ki_4, ki_5, kb_m100, kb_m10, kb_m9, kb_m8, kb_m7, kb_m6, kb_m5, kb_m4, kb_m3, kb_m2, kb_6, kb_7, kb_8, kb_9, kb_10, kb_12, kb_13, kb_16, kb_27, kb_31, kb_32, kb_43, kb_45, kb_48, kb_57, kb_60, kb_63, kb_81, kb_97, kb_99, kb_100, kb_120, kb_126, ks_m1000, ks_243, ks_255, ks_729, ks_1000, ks_2000, ks_2187, ks_6561, ks_9840, ks_9841, kl_0, kl_1, eA, k1]
          refine let9 u.length 0 w1 N1 c1 s1 (Nat.sub_zero _) (Nat.zero_le _) ?_
          rw [List.take_zero, List.map_nil, List.append_nil, hpre]
          exact hT9
        · (try simp (disch := omega) only [nI_ltI, nI_leI, nI_eq, Nat.not_lt, Nat.not_le] at b44) <;> (exfalso; omega)
  by_cases qz : z < 0
  · have hs1 : sg = [45] := by rw [hsg, if_pos qz]
    refine hP 0 _ rfl _ _ _ _ _ _ ?_
    simp only [bX7_appendTerm_0, hrun, hx, hnth, hput, hok, hcat2, hldI, hldL, hldR, hpI, hpL, hpA, hpR, hp1, hpV, hrtI, hrtL, hrtR, hrtV, hpN, hck, hrI, hrB, hrL, hrA, hwI, hwA, hwB, hrN, hfk, hfs, hrF, hwF, hcl, hfty, tyX1, tyX3, tyX6, tyX9, tyX10, tyJ0, tyJ4, hfit, hcmp, hnar, hres, hst, hacp, kz, kof, kn0, kn1, Bool.not_true, Bool.not_false, true_and, and_true, Nat.zero_add, Nat.reduceAdd, List.length_cons, List.length_nil, true_or, or_true, false_or, or_false, decide_true, decide_false, ne_eq, not_true_eq_false, not_false_eq_true, ki_0, ki_1, ki_2, ki_3, ki_4, ki_5, kb_m100, kb_m10, kb_m9, kb_m8, kb_m7, kb_m6, kb_m5, kb_m4, kb_m3, kb_m2, kb_6, kb_7, kb_8, kb_9, kb_10, kb_12, kb_13, kb_16, kb_27, kb_31, kb_32, kb_43, kb_45, kb_48, kb_57, kb_60, kb_63, kb_81, kb_97, kb_99, kb_100, kb_120, kb_126, ks_m1000, ks_243, ks_255, ks_729, ks_1000, ks_2000, ks_2187, ks_6561, ks_9840, ks_9841, kl_0, kl_1, kb]
    refine ⟨fun b3 => ?_, fun b3 => ?_⟩
    · (try simp (disch := omega) only [nI_ltI, nI_leI, nI_eq, Nat.not_lt, Nat.not_le, lcmp_ge, eT, lN_t0] at b3) <;> (exfalso; omega)
    · try simp (disch := omega) only [nI_ltI, nI_leI, nI_eq, Nat.not_lt, Nat.not_le, lcmp_ge, eT, lN_t0] at b3
      refine hP 1 _ rfl _ _ _ _ _ _ ?_
      simp only [bX7_appendTerm_1, hrun, hx, hnth, hput, hok, hcat2, hldI, hldL, hldR, hpI, hpL, hpA, hpR, hp1, hpV, hrtI, hrtL, hrtR, hrtV, hpN, hck, hrI, hrB, hrL, hrA, hwI, hwA, hwB, hrN, hfk, hfs, hrF, hwF, hcl, hfty, tyX1, tyX3, tyX6, tyX9, tyX10, tyJ0, tyJ4, hfit, hcmp, hnar, hres, hst, hacp, kz, kof, kn0, kn1, Bool.not_true, Bool.not_false, true_and, and_true, Nat.zero_add, Nat.reduceAdd, List.length_cons, List.length_nil, true_or, or_true, false_or, or_false, decide_true, decide_false, ne_eq, not_true_eq_false, not_false_eq_true, ki_0, ki_1, ki_2, ki_3, ki_4, ki_5, kb_m100, kb_m10, kb_m9, kb_m8, kb_m7, kb_m6, kb_m5, kb_m4, kb_m3, kb_m2, kb_6, kb_7, kb_8, kb_9, kb_10, kb_12, kb_13, kb_16, kb_27, kb_31, kb_32, kb_43, kb_45, kb_48, kb_57, kb_60, kb_63, kb_81, kb_97, kb_99, kb_100, kb_120, kb_126, ks_m1000, ks_243, ks_255, ks_729, ks_1000, ks_2000, ks_2187, ks_6561, ks_9840, ks_9841, kl_0, kl_1, kb]
      refine T_app hg (by omega) (hTS.nil ht) hbN hvN rfl rfl hKm hm4 (by omega) (by rw [hs1] at hKs; exact hKs) (fun w2 N2 c2 s2 hT2 => ?_)
      obtain ⟨fs2, k2⟩ := hT2.cl
      simp only [hrun, hx, hnth, hput, hok, hcat2, hldI, hldL, hldR, hpI, hpL, hpA, hpR, hp1, hpV, hrtI, hrtL, hrtR, hrtV, hpN, hck, hrI, hrB, hrL, hrA, hwI, hwA, hwB, hrN, hfk, hfs, hrF, hwF, hcl, hfty, tyX1, tyX3, tyX6, tyX9, tyX10, tyJ0, tyJ4, hfit, hcmp, hnar, hres, hst, hacp, kz, kof, kn0, kn1, Bool.not_true, Bool.not_false, true_and, and_true, Nat.zero_add, Nat.reduceAdd, List.length_cons, List.length_nil, true_or, or_true, false_or, or_false, decide_true, decide_false, ne_eq, not_true_eq_false, not_false_eq_true, ki_0, ki_1, ki_2, ki_3, ki_4, ki_5, kb_m100, kb_m10, kb_m9, kb_m8, kb_m7, kb_m6, kb_m5, kb_m4, kb_m3, kb_m2, kb_6, kb_7, kb_8, kb_9, kb_10, kb_12, kb_13, kb_16, kb_27, kb_31, kb_32, kb_43, kb_45, kb_48, kb_57, kb_60, kb_63, kb_81, kb_97, kb_99, kb_100, kb_120, kb_126, ks_m1000, ks_243, ks_255, ks_729, ks_1000, ks_2000, ks_2187, ks_6561, ks_9840, ks_9841, kl_0, kl_1, kb]
      rw [← hs1] at hT2
      exact dig9 w2 N2 c2 s2 hT2
  · by_cases qt : t.length = 0
    · have hs1 : sg = [] := by rw [hsg, if_neg qz, if_pos qt]
      refine hP 0 _ rfl _ _ _ _ _ _ ?_
      simp only [bX7_appendTerm_0, hrun, hx, hnth, hput, hok, hcat2, hldI, hldL, hldR, hpI, hpL, hpA, hpR, hp1, hpV, hrtI, hrtL, hrtR, hrtV, hpN, hck, hrI, hrB, hrL, hrA, hwI, hwA, hwB, hrN, hfk, hfs, hrF, hwF, hcl, hfty, tyX1, tyX3, tyX6, tyX9, tyX10, tyJ0, tyJ4, hfit, hcmp, hnar, hres, hst, hacp, kz, kof, kn0, kn1, Bool.not_true, Bool.not_false, true_and, and_true, Nat.zero_add, Nat.reduceAdd, List.length_cons, List.length_nil, true_or, or_true, false_or, or_false, decide_true, decide_false, ne_eq, not_true_eq_false, not_false_eq_true, ki_0, ki_1, ki_2, ki_3, ki_4, ki_5, kb_m100, kb_m10, kb_m9, kb_m8, kb_m7, kb_m6, kb_m5, kb_m4, kb_m3, kb_m2, kb_6, kb_7, kb_8, kb_9, kb_10, kb_12, kb_13, kb_16, kb_27, kb_31, kb_32, kb_43, kb_45, kb_48, kb_57, kb_60, kb_63, kb_81, kb_97, kb_99, kb_100, kb_120, kb_126, ks_m1000, ks_243, ks_255, ks_729, ks_1000, ks_2000, ks_2187, ks_6561, ks_9840, ks_9841, kl_0, kl_1, kb]
      refine ⟨fun b3 => ?_, fun b3 => ?_⟩
      · try simp (disch := omega) only [nI_ltI, nI_leI, nI_eq, Nat.not_lt, Nat.not_le, lcmp_ge, eT, lN_t0] at b3
        refine hP 2 _ rfl _ _ _ _ _ _ ?_
        simp only [bX7_appendTerm_2, hrun, hx, hnth, hput, hok, hcat2, hldI, hldL, hldR, hpI, hpL, hpA, hpR, hp1, hpV, hrtI, hrtL, hrtR, hrtV, hpN, hck, hrI, hrB, hrL, hrA, hwI, hwA, hwB, hrN, hfk, hfs, hrF, hwF, hcl, hfty, tyX1, tyX3, tyX6, tyX9, tyX10, tyJ0, tyJ4, hfit, hcmp, hnar, hres, hst, hacp, kz, kof, kn0, kn1, Bool.not_true, Bool.not_false, true_and, and_true, Nat.zero_add, Nat.reduceAdd, List.length_cons, List.length_nil, true_or, or_true, false_or, or_false, decide_true, decide_false, ne_eq, not_true_eq_false, not_false_eq_true, ki_0, ki_1, ki_2, ki_3, ki_4, ki_5, kb_m100, kb_m10, kb_m9, kb_m8, kb_m7, kb_m6, kb_m5, kb_m4, kb_m3, kb_m2, kb_6, kb_7, kb_8, kb_9, kb_10, kb_12, kb_13, kb_16, kb_27, kb_31, kb_32, kb_43, kb_45, kb_48, kb_57, kb_60, kb_63, kb_81, kb_97, kb_99, kb_100, kb_120, kb_126, ks_m1000, ks_243, ks_255, ks_729, ks_1000, ks_2000, ks_2187, ks_6561, ks_9840, ks_9841, kl_0, kl_1, kb]
        refine c_bLength hg (by omega) ht ?_
        simp only [hrun, hx, hnth, hput, hok, hcat2, hldI, hldL, hldR, hpI, hpL, hpA, hpR, hp1, hpV, hrtI, hrtL, hrtR, hrtV, hpN, hck, hrI, hrB, hrL, hrA, hwI, hwA, hwB, hrN, hfk, hfs, hrF, hwF, hcl, hfty, tyX1, tyX3, tyX6, tyX9, tyX10, tyJ0, tyJ4, hfit, hcmp, hnar, hres, hst, hacp, kz, kof, kn0, kn1, Bool.not_true, Bool.not_false, true_and, and_true, Nat.zero_add, Nat.reduceAdd, List.length_cons, List.length_nil, true_or, or_true, false_or, or_false, decide_true, decide_false, ne_eq, not_true_eq_false, not_false_eq_true, ki_0, ki_1, ki_2, ki_3, ki_4, ki_5, kb_m100, kb_m10, kb_m9, kb_m8, kb_m7, kb_m6, kb_m5, kb_m4, kb_m3, kb_m2, kb_6, kb_7, kb_8, kb_9, kb_10, kb_12, kb_13, kb_16, kb_27, kb_31, kb_32, kb_43, kb_45, kb_48, kb_57, kb_60, kb_63, kb_81, kb_97, kb_99, kb_100, kb_120, kb_126, ks_m1000, ks_243, ks_255, ks_729, ks_1000, ks_2000, ks_2187, ks_6561, ks_9840, ks_9841, kl_0, kl_1, kb]
        refine ⟨fun b20 => ?_, fun b20 => ?_⟩
        · try simp (disch := omega) only [nI_ltI, nI_leI, nI_eq, Nat.not_lt, Nat.not_le, lcmp_ge, eT, lN_t0] at b20
          refine dig9 w _ _ _ ?_
          rw [hs1, List.append_nil]
          exact hTS.nil ht
        · (try simp (disch := omega) only [nI_ltI, nI_leI, nI_eq, Nat.not_lt, Nat.not_le, lcmp_ge, eT, lN_t0] at b20) <;> (exfalso; omega)
      · (try simp (disch := omega) only [nI_ltI, nI_leI, nI_eq, Nat.not_lt, Nat.not_le, lcmp_ge, eT, lN_t0] at b3) <;> (exfalso; omega)
    · have hs1 : sg = [43] := by rw [hsg, if_neg qz, if_neg qt]
      refine hP 0 _ rfl _ _ _ _ _ _ ?_
      simp only [bX7_appendTerm_0, hrun, hx, hnth, hput, hok, hcat2, hldI, hldL, hldR, hpI, hpL, hpA, hpR, hp1, hpV, hrtI, hrtL, hrtR, hrtV, hpN, hck, hrI, hrB, hrL, hrA, hwI, hwA, hwB, hrN, hfk, hfs, hrF, hwF, hcl, hfty, tyX1, tyX3, tyX6, tyX9, tyX10, tyJ0, tyJ4, hfit, hcmp, hnar, hres, hst, hacp, kz, kof, kn0, kn1, Bool.not_true, Bool.not_false, true_and, and_true, Nat.zero_add, Nat.reduceAdd, List.length_cons, List.length_nil, true_or, or_true, false_or, or_false, decide_true, decide_false, ne_eq, not_true_eq_false, not_false_eq_true, ki_0, ki_1, ki_2, ki_3, ki_4, ki_5, kb_m100, kb_m10, kb_m9, kb_m8, kb_m7, kb_m6, kb_m5, kb_m4, kb_m3, kb_m2, kb_6, kb_7, kb_8, kb_9, kb_10, kb_12, kb_13, kb_16, kb_27, kb_31, kb_32, kb_43, kb_45, kb_48, kb_57, kb_60, kb_63, kb_81, kb_97, kb_99, kb_100, kb_120, kb_126, ks_m1000, ks_243, ks_255, ks_729, ks_1000, ks_2000, ks_2187, ks_6561, ks_9840, ks_9841, kl_0, kl_1, kb]
      refine ⟨fun b3 => ?_, fun b3 => ?_⟩
      · try simp (disch := omega) only [nI_ltI, nI_leI, nI_eq, Nat.not_lt, Nat.not_le, lcmp_ge, eT, lN_t0] at b3
        refine hP 2 _ rfl _ _ _ _ _ _ ?_
        simp only [bX7_appendTerm_2, hrun, hx, hnth, hput, hok, hcat2, hldI, hldL, hldR, hpI, hpL, hpA, hpR, hp1, hpV, hrtI, hrtL, hrtR, hrtV, hpN, hck, hrI, hrB, hrL, hrA, hwI, hwA, hwB, hrN, hfk, hfs, hrF, hwF, hcl, hfty, tyX1, tyX3, tyX6, tyX9, tyX10, tyJ0, tyJ4, hfit, hcmp, hnar, hres, hst, hacp, kz, kof, kn0, kn1, Bool.not_true, Bool.not_false, true_and, and_true, Nat.zero_add, Nat.reduceAdd, List.length_cons, List.length_nil, true_or, or_true, false_or, or_false, decide_true, decide_false, ne_eq, not_true_eq_false, not_false_eq_true, ki_0, ki_1, ki_2, ki_3, ki_4, ki_5, kb_m100, kb_m10, kb_m9, kb_m8, kb_m7, kb_m6, kb_m5, kb_m4, kb_m3, kb_m2, kb_6, kb_7, kb_8, kb_9, kb_10, kb_12, kb_13, kb_16, kb_27, kb_31, kb_32, kb_43, kb_45, kb_48, kb_57, kb_60, kb_63, kb_81, kb_97, kb_99, kb_100, kb_120, kb_126, ks_m1000, ks_243, ks_255, ks_729, ks_1000, ks_2000, ks_2187, ks_6561, ks_9840, ks_9841, kl_0, kl_1, kb]
        refine c_bLength hg (by omega) ht ?_
        simp only [hrun, hx, hnth, hput, hok, hcat2, hldI, hldL, hldR, hpI, hpL, hpA, hpR, hp1, hpV, hrtI, hrtL, hrtR, hrtV, hpN, hck, hrI, hrB, hrL, hrA, hwI, hwA, hwB, hrN, hfk, hfs, hrF, hwF, hcl, hfty, tyX1, tyX3, tyX6, tyX9, tyX10, tyJ0, tyJ4, hfit, hcmp, hnar, hres, hst, hacp, kz, kof, kn0, kn1, Bool.not_true, Bool.not_false, true_and, and_true, Nat.zero_add, Nat.reduceAdd, List.length_cons, List.length_nil, true_or, or_true, false_or, or_false, decide_true, decide_false, ne_eq, not_true_eq_false, not_false_eq_true, ki_0, ki_1, ki_2, ki_3, ki_4, ki_5, kb_m100, kb_m10, kb_m9, kb_m8, kb_m7, kb_m6, kb_m5, kb_m4, kb_m3, kb_m2, kb_6, kb_7, kb_8, kb_9, kb_10, kb_12, kb_13, kb_16, kb_27, kb_31, kb_32, kb_43, kb_45, kb_48, kb_57, kb_60, kb_63, kb_81, kb_97, kb_99, kb_100, kb_120, kb_126, ks_m1000, ks_243, ks_255, ks_729, ks_1000, ks_2000, ks_2187, ks_6561, ks_9840, ks_9841, kl_0, kl_1, kb]
        refine ⟨fun b20 => ?_, fun b20 => ?_⟩
        · (try simp (disch := omega) only [nI_ltI, nI_leI, nI_eq, Nat.not_lt, Nat.not_le, lcmp_ge, eT, lN_t0] at b20) <;> (exfalso; omega)
        · try simp (disch := omega) only [nI_ltI, nI_leI, nI_eq, Nat.not_lt, Nat.not_le, lcmp_ge, eT, lN_t0] at b20
          refine hP 3 _ rfl _ _ _ _ _ _ ?_
          simp only [bX7_appendTerm_3, hrun, hx, hnth, hput, hok, hcat2, hldI, hldL, hldR, hpI, hpL, hpA, hpR, hp1, hpV, hrtI, hrtL, hrtR, hrtV, hpN, hck, hrI, hrB, hrL, hrA, hwI, hwA, hwB, hrN, hfk, hfs, hrF, hwF, hcl, hfty, tyX1, tyX3, tyX6, tyX9, tyX10, tyJ0, tyJ4, hfit, hcmp, hnar, hres, hst, hacp, kz, kof, kn0, kn1, Bool.not_true, Bool.not_false, true_and, and_true, Nat.zero_add, Nat.reduceAdd, List.length_cons, List.length_nil, true_or, or_true, false_or, or_false, decide_true, decide_false, ne_eq, not_true_eq_false, not_false_eq_true, ki_0, ki_1, ki_2, ki_3, ki_4, ki_5, kb_m100, kb_m10, kb_m9, kb_m8, kb_m7, kb_m6, kb_m5, kb_m4, kb_m3, kb_m2, kb_6, kb_7, kb_8, kb_9, kb_10, kb_12, kb_13, kb_16, kb_27, kb_31, kb_32, kb_43, kb_45, kb_48, kb_57, kb_60, kb_63, kb_81, kb_97, kb_99, kb_100, kb_120, kb_126, ks_m1000, ks_243, ks_255, ks_729, ks_1000, ks_2000, ks_2187, ks_6561, ks_9840, ks_9841, kl_0, kl_1, kb]
          refine T_app hg (by omega) (hTS.nil ht) hbN hvN rfl rfl hKm hm4 (by omega) (by rw [hs1] at hKs; exact hKs) (fun w2 N2 c2 s2 hT2 => ?_)
          obtain ⟨fs2, k2⟩ := hT2.cl
          simp only [hrun, hx, hnth, hput, hok, hcat2, hldI, hldL, hldR, hpI, hpL, hpA, hpR, hp1, hpV, hrtI, hrtL, hrtR, hrtV, hpN, hck, hrI, hrB, hrL, hrA, hwI, hwA, hwB, hrN, hfk, hfs, hrF, hwF, hcl, hfty, tyX1, tyX3, tyX6, tyX9, tyX10, tyJ0, tyJ4, hfit, hcmp, hnar, hres, hst, hacp, kz, kof, kn0, kn1, Bool.not_true, Bool.not_false, true_and, and_true, Nat.zero_add, Nat.reduceAdd, List.length_cons, List.length_nil, true_or, or_true, false_or, or_false, decide_true, decide_false, ne_eq, not_true_eq_false, not_false_eq_true, ki_0, ki_1, ki_2, ki_3, ki_4, ki_5, kb_m100, kb_m10, kb_m9, kb_m8, kb_m7, kb_m6, kb_m5, kb_m4, kb_m3, kb_m2, kb_6, kb_7, kb_8, kb_9, kb_10, kb_12, kb_13, kb_16, kb_27, kb_31, kb_32, kb_43, kb_45, kb_48, kb_57, kb_60, kb_63, kb_81, kb_97, kb_99, kb_100, kb_120, kb_126, ks_m1000, ks_243, ks_255, ks_729, ks_1000, ks_2000, ks_2187, ks_6561, ks_9840, ks_9841, kl_0, kl_1, kb]
          rw [← hs1] at hT2
          exact dig9 w2 N2 c2 s2 hT2
      · (try simp (disch := omega) only [nI_ltI, nI_leI, nI_eq, Nat.not_lt, Nat.not_le, lcmp_ge, eT, lN_t0] at b3) <;> (exfalso; omega)
end W9r
