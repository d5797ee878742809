/-! the class's nextLyndon -/
section W9d
variable {g : hG} {d N c s : Nat} {w : hWd} {Q : hRt}
theorem mgo_cg (m : Nat) : ∀ (n : Nat) (u v : Nat → Nat) (p k i : Nat), (∀ j, j < i ∨ j < k → u j = v j) → 1 ≤ i → 1 ≤ p → ∀ j, j < i + n → mgo n u p k i j = mgo n v p k i j
  | 0, u, v, p, k, i, h, _, _, j, hj => h j (Or.inl hj)
  | n + 1, u, v, p, k, i, h, hi, hp, j, hj => by
    have e1 : u (i - p) = v (i - p) := h _ (Or.inl (by omega))
    rw [mgo, mgo]
    by_cases q : k ≤ i
    · rw [if_pos (Or.inl q), if_pos (Or.inl q)]
      refine mgo_cg m n _ _ p i (i + 1) (fun t ht => ?_) (by omega) hp j (by omega)
      by_cases z : t = i
      · simp only [if_pos z, e1]
      · simp only [if_neg z]; exact h t (by omega)
    · have e2 : u i = v i := h i (by omega)
      rw [e1, e2]
      by_cases q2 : v i < v (i - p)
      · rw [if_pos (Or.inr q2), if_pos (Or.inr q2)]
        refine mgo_cg m n _ _ p i (i + 1) (fun t ht => ?_) (by omega) hp j (by omega)
        by_cases z : t = i
        · simp only [if_pos z]
        · simp only [if_neg z]; exact h t (by omega)
      · have q3 : ¬ (k ≤ i ∨ v i < v (i - p)) := by omega
        rw [if_neg q3, if_neg q3]
        by_cases q4 : v (i - p) < v i
        · rw [if_pos q4, if_pos q4]
          exact mgo_cg m n u v (i + 1) k (i + 1) (fun t ht => h t (by omega)) (by omega) (by omega) j (by omega)
        · rw [if_neg q4, if_neg q4]
          exact mgo_cg m n u v p k (i + 1) (fun t ht => h t (by omega)) (by omega) hp j (by omega)
theorem mlast_cg {u v : Nat → Nat} : ∀ (m : Nat), (∀ j, j < m → u j = v j) → mlast u m = mlast v m
  | 0, _ => rfl
  | m + 1, h => by rw [mlast, mlast, h m (by omega), mlast_cg m (fun j hj => h j (by omega))]
theorem mlast_le (u : Nat → Nat) : ∀ m, mlast u m ≤ m
  | 0 => Nat.le_refl _
  | m + 1 => by
    rw [mlast]
    split
    · omega
    · have := mlast_le u m; omega
theorem mlast_lt (u : Nat → Nat) : ∀ (m : Nat) {k : Nat}, mlast u m = k + 1 → u k < 2
  | 0, k, h => by cases h
  | m + 1, k, h => by
    rw [mlast] at h
    by_cases q : u m < 2
    · rw [if_pos q] at h; injection h with h; rw [← h]; exact q
    · rw [if_neg q] at h; exact mlast_lt u m h
theorem mafter_cg {u v : Nat → Nat} {a m : Nat} (hm : 1 ≤ m) (h : ∀ j, j < a → u j = v j) : mafter u a m = mafter v a m := by
  unfold mafter
  by_cases q : a = 0
  · rw [if_pos q, if_pos q]
  · rw [if_neg q, if_neg q]
    have e : ∀ j, j < m → mgo (m - 1) u 1 a 1 j = mgo (m - 1) v 1 a 1 j := fun j hj => mgo_cg m (m - 1) u v 1 a 1 (fun t ht => h t (by omega)) (by omega) (by omega) j (by omega)
    rw [mlast_cg m e]
    have hl := mlast_le (mgo (m - 1) v 1 a 1) m
    cases hk : mlast (mgo (m - 1) v 1 a 1) m with
    | zero => rfl
    | succ k =>
      show menc (_ ++ [_]) = menc (_ ++ [_])
      rw [e k (by omega), List.map_congr_left (fun j hj => e j (by have := List.mem_range.mp hj; omega))]
theorem mgo_lt : ∀ (n : Nat) (u : Nat → Nat) (p k i : Nat), (∀ j, j < 8 → u j < 3) → 1 ≤ i → 1 ≤ p → i + n ≤ 8 → ∀ j, j < 8 → mgo n u p k i j < 3
  | 0, u, p, k, i, h, _, _, _, j, hj => h j hj
  | n + 1, u, p, k, i, h, hi, hp, hn, j, hj => by
    rw [mgo]
    split
    · refine mgo_lt n _ p i (i + 1) (fun t ht => ?_) (by omega) hp (by omega) j hj
      by_cases z : t = i
      · simp only [if_pos z]; exact h _ (by omega)
      · simp only [if_neg z]; exact h t ht
    · split
      · exact mgo_lt n u _ k (i + 1) h (by omega) (by omega) (by omega) j hj
      · exact mgo_lt n u p k (i + 1) h (by omega) hp (by omega) j hj
theorem mafter_W {u : Nat → Nat} {a m : Nat} (h : ∀ j, j < 8 → u j < 3) (hm1 : 1 ≤ m) (hm8 : m ≤ 8) : mafter u a m < 9841 := by
  unfold mafter
  by_cases q : a = 0
  · rw [if_pos q]; omega
  · rw [if_neg q]
    have hl := mlast_le (mgo (m - 1) u 1 a 1) m
    have ht := mgo_lt (m - 1) u 1 a 1 h (by omega) (by omega) (by omega)
    cases hk : mlast (mgo (m - 1) u 1 a 1) m with
    | zero => show 0 < 9841; omega
    | succ k =>
      refine mW.lt ⟨?_, fun x hx => ?_⟩
      · rw [List.length_append, List.length_map, List.length_range, List.length_singleton]; omega
      · rcases List.mem_append.mp hx with hx | hx
        · obtain ⟨j, hj, e⟩ := List.mem_map.mp hx
          rw [← e]
          exact ht j (by have := List.mem_range.mp hj; omega)
        · rw [List.mem_singleton.mp hx]
          have := mlast_lt _ m hk
          omega
def sp_nextLyndon (S : cS) (x y : Int32) : cA := match ixn 3 x with
  | none => (Int32.ofInt (-2), S)
  | some i => if ¬ y < nI 1 ∧ ¬ nI 8 < y then
      (if mafter (mat (S.wd i)) (S.wd i).length y.toNatClampNeg = 0 then (Int32.ofInt (-8), S) else (nI (mdec (mafter (mat (S.wd i)) (S.wd i).length y.toNatClampNeg)).length, sWd S i (mdec (mafter (mat (S.wd i)) (S.wd i).length y.toNatClampNeg))))
    else (Int32.ofInt (-4), S)
set_option maxRecDepth 100000 in
set_option maxHeartbeats 4000000 in
theorem c_nextLyndon (hg : hgo g) (hd : 20 ≤ d) {S : cS} (hS : hX w S) {x y : Int32} (h : ∀ w', hX w' (sp_nextLyndon S x y).2 → nfr w w' → Q (some (.int (sp_nextLyndon S x y).1)) N c s w') : Γ g d yX9_nextLyndon [.ref 0, .int x, .int y] N c s w Q := by
  refine Γ.intro0 hg kX9_nextLyndon (by omega) (Nat.le_of_ble_eq_true rfl) (fun P hP => ?_)
  show P N 0 0 w 0 [some (.ref 0), some (.int x), some (.int y), none, none] []
  cases hq_x : ixn 3 x with
  | none =>
    have hr_x := ixn_none hq_x
    simp only [sp_nextLyndon, hq_x] at h
    refine hP 0 _ rfl _ _ _ _ _ _ ?_
    simp only [bX9_nextLyndon_0, hrun, hx, hnth, hput, hok, hcat2, hldI, hldL, hldR, hpI, hpL, hpA, hpR, hp1, hpV, hrtI, hrtL, hrtR, hrtV, hpN, hck, hrI, hrB, hrL, hrA, hwI, hwA, hwB, hrN, hfk, hfs, hrF, hwF, hcl, hfty, tyX1, tyX3, tyX6, tyX9, tyX10, tyJ0, tyJ4, hfit, hcmp, hnar, hres, hst, hacp, kz, kof, kn0, kn1, Bool.not_true, Bool.not_false, true_and, and_true, Nat.zero_add, Nat.reduceAdd, List.length_cons, List.length_nil, true_or, or_true, false_or, or_false, decide_true, decide_false, ne_eq, not_true_eq_false, not_false_eq_true, ki_0, ki_1, ki_2, ki_3, ki_4, ki_5, kb_m100, kb_m10, kb_m9, kb_m8, kb_m7, kb_m6, kb_m5, kb_m4, kb_m3, kb_m2, kb_6, kb_7, kb_8, kb_9, kb_10, kb_12, kb_13, kb_16, kb_27, kb_31, kb_32, kb_43, kb_45, kb_48, kb_57, kb_60, kb_63, kb_81, kb_97, kb_99, kb_100, kb_120, kb_126, ks_m1000, ks_243, ks_255, ks_729, ks_1000, ks_2000, ks_2187, ks_6561, ks_9840, ks_9841, kl_0, kl_1]
    refine c_hasWordN hg (by omega) hr_x ?_
    simp only [hrun, hx, hnth, hput, hok, hcat2, hldI, hldL, hldR, hpI, hpL, hpA, hpR, hp1, hpV, hrtI, hrtL, hrtR, hrtV, hpN, hck, hrI, hrB, hrL, hrA, hwI, hwA, hwB, hrN, hfk, hfs, hrF, hwF, hcl, hfty, tyX1, tyX3, tyX6, tyX9, tyX10, tyJ0, tyJ4, hfit, hcmp, hnar, hres, hst, hacp, kz, kof, kn0, kn1, Bool.not_true, Bool.not_false, true_and, and_true, Nat.zero_add, Nat.reduceAdd, List.length_cons, List.length_nil, true_or, or_true, false_or, or_false, decide_true, decide_false, ne_eq, not_true_eq_false, not_false_eq_true, ki_0, ki_1, ki_2, ki_3, ki_4, ki_5, kb_m100, kb_m10, kb_m9, kb_m8, kb_m7, kb_m6, kb_m5, kb_m4, kb_m3, kb_m2, kb_6, kb_7, kb_8, kb_9, kb_10, kb_12, kb_13, kb_16, kb_27, kb_31, kb_32, kb_43, kb_45, kb_48, kb_57, kb_60, kb_63, kb_81, kb_97, kb_99, kb_100, kb_120, kb_126, ks_m1000, ks_243, ks_255, ks_729, ks_1000, ks_2000, ks_2187, ks_6561, ks_9840, ks_9841, kl_0, kl_1]
    refine ⟨fun b4 => ?_, fun b4 => ?_⟩
    · (try simp (disch := omega) only [nI_ltI, nI_leI, nI_eq, Nat.not_lt, Nat.not_le] at b4) <;> (exfalso; omega)
    · try simp (disch := omega) only [nI_ltI, nI_leI, nI_eq, Nat.not_lt, Nat.not_le] at b4
      refine hP 1 _ rfl _ _ _ _ _ _ ?_
      simp only [bX9_nextLyndon_1, hrun, hx, hnth, hput, hok, hcat2, hldI, hldL, hldR, hpI, hpL, hpA, hpR, hp1, hpV, hrtI, hrtL, hrtR, hrtV, hpN, hck, hrI, hrB, hrL, hrA, hwI, hwA, hwB, hrN, hfk, hfs, hrF, hwF, hcl, hfty, tyX1, tyX3, tyX6, tyX9, tyX10, tyJ0, tyJ4, hfit, hcmp, hnar, hres, hst, hacp, kz, kof, kn0, kn1, Bool.not_true, Bool.not_false, true_and, and_true, Nat.zero_add, Nat.reduceAdd, List.length_cons, List.length_nil, true_or, or_true, false_or, or_false, decide_true, decide_false, ne_eq, not_true_eq_false, not_false_eq_true, ki_0, ki_1, ki_2, ki_3, ki_4, ki_5, kb_m100, kb_m10, kb_m9, kb_m8, kb_m7, kb_m6, kb_m5, kb_m4, kb_m3, kb_m2, kb_6, kb_7, kb_8, kb_9, kb_10, kb_12, kb_13, kb_16, kb_27, kb_31, kb_32, kb_43, kb_45, kb_48, kb_57, kb_60, kb_63, kb_81, kb_97, kb_99, kb_100, kb_120, kb_126, ks_m1000, ks_243, ks_255, ks_729, ks_1000, ks_2000, ks_2187, ks_6561, ks_9840, ks_9841, kl_0, kl_1]
      exact h w hS nfr.rf
  | some i =>
    obtain ⟨h_i, hrfl_i⟩ := ixn_some (by omega) hq_x
    subst hrfl_i
    have k0 := hS.1
    obtain ⟨F, k1, hF⟩ := id hS.2.1
    have e_i := nI_clamp (n := i) (by omega)
    have f_i := (hF i h_i).1
    have hu_i := (hF i h_i).2
    have h8_i := hu_i.1
    have hlt_i := hu_i.lt
    simp only [sp_nextLyndon, hq_x] at h
    obtain ⟨u9, hr9⟩ := hS.2.2.2.2.2.2.2.2.2.1
    refine hP 0 _ rfl _ _ _ _ _ _ ?_
    simp only [bX9_nextLyndon_0, hrun, hx, hnth, hput, hok, hcat2, hldI, hldL, hldR, hpI, hpL, hpA, hpR, hp1, hpV, hrtI, hrtL, hrtR, hrtV, hpN, hck, hrI, hrB, hrL, hrA, hwI, hwA, hwB, hrN, hfk, hfs, hrF, hwF, hcl, hfty, tyX1, tyX3, tyX6, tyX9, tyX10, tyJ0, tyJ4, hfit, hcmp, hnar, hres, hst, hacp, kz, kof, kn0, kn1, Bool.not_true, Bool.not_false, true_and, and_true, Nat.zero_add, Nat.reduceAdd, List.length_cons, List.length_nil, true_or, or_true, false_or, or_false, decide_true, decide_false, ne_eq, not_true_eq_false, not_false_eq_true, ki_0, ki_1, ki_2, ki_3, ki_4, ki_5, kb_m100, kb_m10, kb_m9, kb_m8, kb_m7, kb_m6, kb_m5, kb_m4, kb_m3, kb_m2, kb_6, kb_7, kb_8, kb_9, kb_10, kb_12, kb_13, kb_16, kb_27, kb_31, kb_32, kb_43, kb_45, kb_48, kb_57, kb_60, kb_63, kb_81, kb_97, kb_99, kb_100, kb_120, kb_126, ks_m1000, ks_243, ks_255, ks_729, ks_1000, ks_2000, ks_2187, ks_6561, ks_9840, ks_9841, kl_0, kl_1, k0, k1, e_i, f_i]
    refine c_hasWord hg (by omega) h_i ?_
    simp only [hrun, hx, hnth, hput, hok, hcat2, hldI, hldL, hldR, hpI, hpL, hpA, hpR, hp1, hpV, hrtI, hrtL, hrtR, hrtV, hpN, hck, hrI, hrB, hrL, hrA, hwI, hwA, hwB, hrN, hfk, hfs, hrF, hwF, hcl, hfty, tyX1, tyX3, tyX6, tyX9, tyX10, tyJ0, tyJ4, hfit, hcmp, hnar, hres, hst, hacp, kz, kof, kn0, kn1, Bool.not_true, Bool.not_false, true_and, and_true, Nat.zero_add, Nat.reduceAdd, List.length_cons, List.length_nil, true_or, or_true, false_or, or_false, decide_true, decide_false, ne_eq, not_true_eq_false, not_false_eq_true, ki_0, ki_1, ki_2, ki_3, ki_4, ki_5, kb_m100, kb_m10, kb_m9, kb_m8, kb_m7, kb_m6, kb_m5, kb_m4, kb_m3, kb_m2, kb_6, kb_7, kb_8, kb_9, kb_10, kb_12, kb_13, kb_16, kb_27, kb_31, kb_32, kb_43, kb_45, kb_48, kb_57, kb_60, kb_63, kb_81, kb_97, kb_99, kb_100, kb_120, kb_126, ks_m1000, ks_243, ks_255, ks_729, ks_1000, ks_2000, ks_2187, ks_6561, ks_9840, ks_9841, kl_0, kl_1, k0, k1, e_i, f_i]
    refine ⟨fun b4 => ?_, fun b4 => ?_⟩
    · try simp (disch := omega) only [nI_ltI, nI_leI, nI_eq, Nat.not_lt, Nat.not_le] at b4
      refine hP 2 _ rfl _ _ _ _ _ _ ?_
      simp only [bX9_nextLyndon_2, hrun, hx, hnth, hput, hok, hcat2, hldI, hldL, hldR, hpI, hpL, hpA, hpR, hp1, hpV, hrtI, hrtL, hrtR, hrtV, hpN, hck, hrI, hrB, hrL, hrA, hwI, hwA, hwB, hrN, hfk, hfs, hrF, hwF, hcl, hfty, tyX1, tyX3, tyX6, tyX9, tyX10, tyJ0, tyJ4, hfit, hcmp, hnar, hres, hst, hacp, kz, kof, kn0, kn1, Bool.not_true, Bool.not_false, true_and, and_true, Nat.zero_add, Nat.reduceAdd, List.length_cons, List.length_nil, true_or, or_true, false_or, or_false, decide_true, decide_false, ne_eq, not_true_eq_false, not_false_eq_true, ki_0, ki_1, ki_2, ki_3, ki_4, ki_5, kb_m100, kb_m10, kb_m9, kb_m8, kb_m7, kb_m6, kb_m5, kb_m4, kb_m3, kb_m2, kb_6, kb_7, kb_8, kb_9, kb_10, kb_12, kb_13, kb_16, kb_27, kb_31, kb_32, kb_43, kb_45, kb_48, kb_57, kb_60, kb_63, kb_81, kb_97, kb_99, kb_100, kb_120, kb_126, ks_m1000, ks_243, ks_255, ks_729, ks_1000, ks_2000, ks_2187, ks_6561, ks_9840, ks_9841, kl_0, kl_1, k0, k1, e_i, f_i]
      refine ⟨fun b12 => ?_, fun b12 => ?_⟩
      · skip
        refine hP 4 _ rfl _ _ _ _ _ _ ?_
        simp only [bX9_nextLyndon_4, hrun, hx, hnth, hput, hok, hcat2, hldI, hldL, hldR, hpI, hpL, hpA, hpR, hp1, hpV, hrtI, hrtL, hrtR, hrtV, hpN, hck, hrI, hrB, hrL, hrA, hwI, hwA, hwB, hrN, hfk, hfs, hrF, hwF, hcl, hfty, tyX1, tyX3, tyX6, tyX9, tyX10, tyJ0, tyJ4, hfit, hcmp, hnar, hres, hst, hacp, kz, kof, kn0, kn1, Bool.not_true, Bool.not_false, true_and, and_true, Nat.zero_add, Nat.reduceAdd, List.length_cons, List.length_nil, true_or, or_true, false_or, or_false, decide_true, decide_false, ne_eq, not_true_eq_false, not_false_eq_true, ki_0, ki_1, ki_2, ki_3, ki_4, ki_5, kb_m100, kb_m10, kb_m9, kb_m8, kb_m7, kb_m6, kb_m5, kb_m4, kb_m3, kb_m2, kb_6, kb_7, kb_8, kb_9, kb_10, kb_12, kb_13, kb_16, kb_27, kb_31, kb_32, kb_43, kb_45, kb_48, kb_57, kb_60, kb_63, kb_81, kb_97, kb_99, kb_100, kb_120, kb_126, ks_m1000, ks_243, ks_255, ks_729, ks_1000, ks_2000, ks_2187, ks_6561, ks_9840, ks_9841, kl_0, kl_1, k0, k1, e_i, f_i]
        rw [if_neg (fun q => q.1 b12)] at h
        exact h w hS nfr.rf
      · skip
        refine hP 3 _ rfl _ _ _ _ _ _ ?_
        simp only [bX9_nextLyndon_3, hrun, hx, hnth, hput, hok, hcat2, hldI, hldL, hldR, hpI, hpL, hpA, hpR, hp1, hpV, hrtI, hrtL, hrtR, hrtV, hpN, hck, hrI, hrB, hrL, hrA, hwI, hwA, hwB, hrN, hfk, hfs, hrF, hwF, hcl, hfty, tyX1, tyX3, tyX6, tyX9, tyX10, tyJ0, tyJ4, hfit, hcmp, hnar, hres, hst, hacp, kz, kof, kn0, kn1, Bool.not_true, Bool.not_false, true_and, and_true, Nat.zero_add, Nat.reduceAdd, List.length_cons, List.length_nil, true_or, or_true, false_or, or_false, decide_true, decide_false, ne_eq, not_true_eq_false, not_false_eq_true, ki_0, ki_1, ki_2, ki_3, ki_4, ki_5, kb_m100, kb_m10, kb_m9, kb_m8, kb_m7, kb_m6, kb_m5, kb_m4, kb_m3, kb_m2, kb_6, kb_7, kb_8, kb_9, kb_10, kb_12, kb_13, kb_16, kb_27, kb_31, kb_32, kb_43, kb_45, kb_48, kb_57, kb_60, kb_63, kb_81, kb_97, kb_99, kb_100, kb_120, kb_126, ks_m1000, ks_243, ks_255, ks_729, ks_1000, ks_2000, ks_2187, ks_6561, ks_9840, ks_9841, kl_0, kl_1, k0, k1, e_i, f_i]
        refine ⟨fun b18 => ?_, fun b18 => ?_⟩
        · skip
          refine hP 5 _ rfl _ _ _ _ _ _ ?_
          simp only [bX9_nextLyndon_5, hrun, hx, hnth, hput, hok, hcat2, hldI, hldL, hldR, hpI, hpL, hpA, hpR, hp1, hpV, hrtI, hrtL, hrtR, hrtV, hpN, hck, hrI, hrB, hrL, hrA, hwI, hwA, hwB, hrN, hfk, hfs, hrF, hwF, hcl, hfty, tyX1, tyX3, tyX6, tyX9, tyX10, tyJ0, tyJ4, hfit, hcmp, hnar, hres, hst, hacp, kz, kof, kn0, kn1, Bool.not_true, Bool.not_false, true_and, and_true, Nat.zero_add, Nat.reduceAdd, List.length_cons, List.length_nil, true_or, or_true, false_or, or_false, decide_true, decide_false, ne_eq, not_true_eq_false, not_false_eq_true, ki_0, ki_1, ki_2, ki_3, ki_4, ki_5, kb_m100, kb_m10, kb_m9, kb_m8, kb_m7, kb_m6, kb_m5, kb_m4, kb_m3, kb_m2, kb_6, kb_7, kb_8, kb_9, kb_10, kb_12, kb_13, kb_16, kb_27, kb_31, kb_32, kb_43, kb_45, kb_48, kb_57, kb_60, kb_63, kb_81, kb_97, kb_99, kb_100, kb_120, kb_126, ks_m1000, ks_243, ks_255, ks_729, ks_1000, ks_2000, ks_2187, ks_6561, ks_9840, ks_9841, kl_0, kl_1, k0, k1, e_i, f_i]
          refine ⟨vp_in_nI (by omega) (by omega), ?_⟩
          rw [if_pos ⟨b12, Int32.not_lt.mpr b18⟩] at h
          have q1 : ¬ y < nI 0 := fun q => b12 (by rw [Int32.lt_iff_toInt_lt, nI_toInt (by omega)] at q ⊢; omega)
          have q3 := hnn (z := y) q1
          have q4 := Int32.le_iff_toInt_le.mp b18
          have q6 : ¬ y.toInt < (nI 1).toInt := fun q => b12 (Int32.lt_iff_toInt_lt.mpr q)
          rw [nI_toInt (by omega)] at q4 q6
          have q5 : y = nI y.toNatClampNeg := Int32.toInt_inj.mp (by rw [nI_toInt (by omega), q3])
          generalize y.toNatClampNeg = m at *
          subst q5
          refine c_unpackR hg (by omega) hu_i hr9 (fun w1 v1 hr1 hv1 hm1 => ?_)
          have k1 : w1 1 = _ := (hm1 1 (by decide)).trans k1
          have k0 : w1 0 = _ := (hm1 0 (by decide)).trans k0
          simp only [hrun, hx, hnth, hput, hok, hcat2, hldI, hldL, hldR, hpI, hpL, hpA, hpR, hp1, hpV, hrtI, hrtL, hrtR, hrtV, hpN, hck, hrI, hrB, hrL, hrA, hwI, hwA, hwB, hrN, hfk, hfs, hrF, hwF, hcl, hfty, tyX1, tyX3, tyX6, tyX9, tyX10, tyJ0, tyJ4, hfit, hcmp, hnar, hres, hst, hacp, kz, kof, kn0, kn1, Bool.not_true, Bool.not_false, true_and, and_true, Nat.zero_add, Nat.reduceAdd, List.length_cons, List.length_nil, true_or, or_true, false_or, or_false, decide_true, decide_false, ne_eq, not_true_eq_false, not_false_eq_true, ki_0, ki_1, ki_2, ki_3, ki_4, ki_5, kb_m100, kb_m10, kb_m9, kb_m8, kb_m7, kb_m6, kb_m5, kb_m4, kb_m3, kb_m2, kb_6, kb_7, kb_8, kb_9, kb_10, kb_12, kb_13, kb_16, kb_27, kb_31, kb_32, kb_43, kb_45, kb_48, kb_57, kb_60, kb_63, kb_81, kb_97, kb_99, kb_100, kb_120, kb_126, ks_m1000, ks_243, ks_255, ks_729, ks_1000, ks_2000, ks_2187, ks_6561, ks_9840, ks_9841, kl_0, kl_1, k0, k1, e_i, f_i, k0]
          refine c_codeAfter hg (by omega) hr1 h8_i (by omega) (by omega) (fun w2 v2 hr2 hm2 => ?_)
          have hS2 : hX w2 S := hS.row (hm1.tr hm2) hr2
          have k0 : w2 0 = _ := (hm2 0 (by decide)).trans k0
          have k1 : w2 1 = _ := (hm2 1 (by decide)).trans k1
          rw [mafter_cg (v := mat (S.wd i)) (by omega) hv1]
          have hlt9 : mafter (mat (S.wd i)) (S.wd i).length m < 9841 := by rw [← mafter_cg (by omega) hv1]; exact mafter_W (fun j hj => by obtain ⟨F1, _, hF1⟩ := hr1; exact (hF1 j hj).2) (by omega) (by omega)
          generalize mafter (mat (S.wd i)) (S.wd i).length m = cc at *
          have hcc := mdec_W hlt9
          simp only [hrun, hx, hnth, hput, hok, hcat2, hldI, hldL, hldR, hpI, hpL, hpA, hpR, hp1, hpV, hrtI, hrtL, hrtR, hrtV, hpN, hck, hrI, hrB, hrL, hrA, hwI, hwA, hwB, hrN, hfk, hfs, hrF, hwF, hcl, hfty, tyX1, tyX3, tyX6, tyX9, tyX10, tyJ0, tyJ4, hfit, hcmp, hnar, hres, hst, hacp, kz, kof, kn0, kn1, Bool.not_true, Bool.not_false, true_and, and_true, Nat.zero_add, Nat.reduceAdd, List.length_cons, List.length_nil, true_or, or_true, false_or, or_false, decide_true, decide_false, ne_eq, not_true_eq_false, not_false_eq_true, ki_0, ki_1, ki_2, ki_3, ki_4, ki_5, kb_m100, kb_m10, kb_m9, kb_m8, kb_m7, kb_m6, kb_m5, kb_m4, kb_m3, kb_m2, kb_6, kb_7, kb_8, kb_9, kb_10, kb_12, kb_13, kb_16, kb_27, kb_31, kb_32, kb_43, kb_45, kb_48, kb_57, kb_60, kb_63, kb_81, kb_97, kb_99, kb_100, kb_120, kb_126, ks_m1000, ks_243, ks_255, ks_729, ks_1000, ks_2000, ks_2187, ks_6561, ks_9840, ks_9841, kl_0, kl_1, k0, k1, e_i, f_i, k0]
          refine ⟨fun b51 => ?_, fun b51 => ?_⟩
          · try simp (disch := omega) only [nI_ltI, nI_leI, nI_eq, Nat.not_lt, Nat.not_le] at b51
            refine hP 7 _ rfl _ _ _ _ _ _ ?_
            simp only [bX9_nextLyndon_7, hrun, hx, hnth, hput, hok, hcat2, hldI, hldL, hldR, hpI, hpL, hpA, hpR, hp1, hpV, hrtI, hrtL, hrtR, hrtV, hpN, hck, hrI, hrB, hrL, hrA, hwI, hwA, hwB, hrN, hfk, hfs, hrF, hwF, hcl, hfty, tyX1, tyX3, tyX6, tyX9, tyX10, tyJ0, tyJ4, hfit, hcmp, hnar, hres, hst, hacp, kz, kof, kn0, kn1, Bool.not_true, Bool.not_false, true_and, and_true, Nat.zero_add, Nat.reduceAdd, List.length_cons, List.length_nil, true_or, or_true, false_or, or_false, decide_true, decide_false, ne_eq, not_true_eq_false, not_false_eq_true, ki_0, ki_1, ki_2, ki_3, ki_4, ki_5, kb_m100, kb_m10, kb_m9, kb_m8, kb_m7, kb_m6, kb_m5, kb_m4, kb_m3, kb_m2, kb_6, kb_7, kb_8, kb_9, kb_10, kb_12, kb_13, kb_16, kb_27, kb_31, kb_32, kb_43, kb_45, kb_48, kb_57, kb_60, kb_63, kb_81, kb_97, kb_99, kb_100, kb_120, kb_126, ks_m1000, ks_243, ks_255, ks_729, ks_1000, ks_2000, ks_2187, ks_6561, ks_9840, ks_9841, kl_0, kl_1, k0, k1, e_i, f_i]
            refine ⟨vp_in_nI (by omega) (by omega), ?_⟩
            have hcq := hcc.2
            generalize mdec cc = uu at *
            subst hcq
            refine c_lengthOf hg (by omega) hcc.1 ?_
            simp only [hrun, hx, hnth, hput, hok, hcat2, hldI, hldL, hldR, hpI, hpL, hpA, hpR, hp1, hpV, hrtI, hrtL, hrtR, hrtV, hpN, hck, hrI, hrB, hrL, hrA, hwI, hwA, hwB, hrN, hfk, hfs, hrF, hwF, hcl, hfty, tyX1, tyX3, tyX6, tyX9, tyX10, tyJ0, tyJ4, hfit, hcmp, hnar, hres, hst, hacp, kz, kof, kn0, kn1, Bool.not_true, Bool.not_false, true_and, and_true, Nat.zero_add, Nat.reduceAdd, List.length_cons, List.length_nil, true_or, or_true, false_or, or_false, decide_true, decide_false, ne_eq, not_true_eq_false, not_false_eq_true, ki_0, ki_1, ki_2, ki_3, ki_4, ki_5, kb_m100, kb_m10, kb_m9, kb_m8, kb_m7, kb_m6, kb_m5, kb_m4, kb_m3, kb_m2, kb_6, kb_7, kb_8, kb_9, kb_10, kb_12, kb_13, kb_16, kb_27, kb_31, kb_32, kb_43, kb_45, kb_48, kb_57, kb_60, kb_63, kb_81, kb_97, kb_99, kb_100, kb_120, kb_126, ks_m1000, ks_243, ks_255, ks_729, ks_1000, ks_2000, ks_2187, ks_6561, ks_9840, ks_9841, kl_0, kl_1, k0, k1, e_i, f_i]
            rw [if_neg (by omega)] at h
            exact h _ (hS2.word (i := i) hcc.1 k1 hF rfl) (((hm1.tr hm2).nf (by decide)).tr (mfr.nf (T := [1]) (mfr.up (by simp)) (by decide)))
          · try simp (disch := omega) only [nI_ltI, nI_leI, nI_eq, Nat.not_lt, Nat.not_le] at b51
            refine hP 6 _ rfl _ _ _ _ _ _ ?_
            simp only [bX9_nextLyndon_6, hrun, hx, hnth, hput, hok, hcat2, hldI, hldL, hldR, hpI, hpL, hpA, hpR, hp1, hpV, hrtI, hrtL, hrtR, hrtV, hpN, hck, hrI, hrB, hrL, hrA, hwI, hwA, hwB, hrN, hfk, hfs, hrF, hwF, hcl, hfty, tyX1, tyX3, tyX6, tyX9, tyX10, tyJ0, tyJ4, hfit, hcmp, hnar, hres, hst, hacp, kz, kof, kn0, kn1, Bool.not_true, Bool.not_false, true_and, and_true, Nat.zero_add, Nat.reduceAdd, List.length_cons, List.length_nil, true_or, or_true, false_or, or_false, decide_true, decide_false, ne_eq, not_true_eq_false, not_false_eq_true, ki_0, ki_1, ki_2, ki_3, ki_4, ki_5, kb_m100, kb_m10, kb_m9, kb_m8, kb_m7, kb_m6, kb_m5, kb_m4, kb_m3, kb_m2, kb_6, kb_7, kb_8, kb_9, kb_10, kb_12, kb_13, kb_16, kb_27, kb_31, kb_32, kb_43, kb_45, kb_48, kb_57, kb_60, kb_63, kb_81, kb_97, kb_99, kb_100, kb_120, kb_126, ks_m1000, ks_243, ks_255, ks_729, ks_1000, ks_2000, ks_2187, ks_6561, ks_9840, ks_9841, kl_0, kl_1, k0, k1, e_i, f_i]
            rw [if_pos b51] at h
            exact h w2 hS2 ((hm1.tr hm2).nf (by decide))
        · skip
          refine hP 4 _ rfl _ _ _ _ _ _ ?_
          simp only [bX9_nextLyndon_4, hrun, hx, hnth, hput, hok, hcat2, hldI, hldL, hldR, hpI, hpL, hpA, hpR, hp1, hpV, hrtI, hrtL, hrtR, hrtV, hpN, hck, hrI, hrB, hrL, hrA, hwI, hwA, hwB, hrN, hfk, hfs, hrF, hwF, hcl, hfty, tyX1, tyX3, tyX6, tyX9, tyX10, tyJ0, tyJ4, hfit, hcmp, hnar, hres, hst, hacp, kz, kof, kn0, kn1, Bool.not_true, Bool.not_false, true_and, and_true, Nat.zero_add, Nat.reduceAdd, List.length_cons, List.length_nil, true_or, or_true, false_or, or_false, decide_true, decide_false, ne_eq, not_true_eq_false, not_false_eq_true, ki_0, ki_1, ki_2, ki_3, ki_4, ki_5, kb_m100, kb_m10, kb_m9, kb_m8, kb_m7, kb_m6, kb_m5, kb_m4, kb_m3, kb_m2, kb_6, kb_7, kb_8, kb_9, kb_10, kb_12, kb_13, kb_16, kb_27, kb_31, kb_32, kb_43, kb_45, kb_48, kb_57, kb_60, kb_63, kb_81, kb_97, kb_99, kb_100, kb_120, kb_126, ks_m1000, ks_243, ks_255, ks_729, ks_1000, ks_2000, ks_2187, ks_6561, ks_9840, ks_9841, kl_0, kl_1, k0, k1, e_i, f_i]
          rw [if_neg (fun q => q.2 (Int32.not_le.mp b18))] at h
          exact h w hS nfr.rf
    · (try simp (disch := omega) only [nI_ltI, nI_leI, nI_eq, Nat.not_lt, Nat.not_le] at b4) <;> (exfalso; omega)
end W9d
