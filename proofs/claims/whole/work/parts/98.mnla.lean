/-! the next Lyndon word: what the class finds is the least one -/
section M39
theorem dlt_rf : ∀ a : List Nat, dlt a a = false
  | [] => rfl
  | x :: a => by rw [dlt_cons, if_pos rfl]; exact dlt_rf a
theorem dlt_tri : ∀ a b : List Nat, dlt a b = true ∨ a = b ∨ dlt b a = true
  | [], [] => Or.inr (Or.inl rfl)
  | [], _ :: _ => Or.inl rfl
  | _ :: _, [] => Or.inr (Or.inr rfl)
  | x :: a, y :: b => by
    rw [dlt_cons, dlt_cons]
    by_cases q : x = y
    · subst q
      rw [if_pos rfl, if_pos rfl]
      rcases dlt_tri a b with h | h | h
      · exact Or.inl h
      · exact Or.inr (Or.inl (by rw [h]))
      · exact Or.inr (Or.inr h)
    · rw [if_neg q, if_neg (Ne.symm q), decide_eq_true_eq, decide_eq_true_eq]
      rcases Nat.lt_or_gt_of_ne q with h | h
      · exact Or.inl h
      · exact Or.inr (Or.inr h)
theorem dlt_asy : ∀ {a b : List Nat}, dlt a b = true → dlt b a = false
  | [], [], h => rfl
  | [], _ :: _, h => rfl
  | _ :: _, [], h => by cases h
  | x :: a, y :: b, h => by
    rw [dlt_cons] at h ⊢
    by_cases q : x = y
    · subst q
      rw [if_pos rfl] at h ⊢
      exact dlt_asy h
    · rw [if_neg q, decide_eq_true_eq] at h
      rw [if_neg (Ne.symm q), decide_eq_false_iff_not]
      omega
theorem dlt_take : ∀ (m : Nat) (u w : List Nat), w.length ≤ m → dlt u w = dlt (u.take m) w
  | m, u, [], _ => by rw [dlt_nil, dlt_nil]
  | 0, u, _ :: _, h => by simp at h
  | m + 1, [], _ :: _, _ => rfl
  | m + 1, x :: u, y :: w, h => by
    rw [List.take_succ_cons, dlt_cons, dlt_cons, dlt_take m u w (by simpa using h)]
theorem ixW_inj {m : Nat} {a b : List Nat} (ha : a.length ≤ m) (hb : b.length ≤ m) (h3 : ∀ x ∈ a, x < 3) (h4 : ∀ x ∈ b, x < 3) (h : ixW m a = ixW m b) : a = b := by
  rcases dlt_tri a b with q | q | q
  · have := (ixW_lt m a b ha hb h3 h4).mp q; omega
  · exact q
  · have := (ixW_lt m b a hb ha h4 h3).mp q; omega
theorem afA {m : Nat} (h1 : 1 ≤ m) (h8 : m ≤ 8) {l : List Nat} (hl : l.length ≤ m) (h3 : ∀ x ∈ l, x < 3) : afC m l = true := by
  have go : ∀ {k : Nat} {r : List Nat}, allW (afC m) k r = true → ∀ t : List Nat, t.length ≤ k → (∀ x ∈ t, x < 3) → afC m (t ++ r) = true := fun hq t a b => allW_d _ _ hq t a b
  have hm : m = 1 ∨ m = 2 ∨ m = 3 ∨ m = 4 ∨ m = 5 ∨ m = 6 ∨ m = 7 ∨ m = 8 := by omega
  rcases hm with rfl | rfl | rfl | rfl | rfl | rfl | rfl | rfl
  · have := go afC_1 l hl h3; rwa [List.append_nil] at this
  · have := go afC_2 l hl h3; rwa [List.append_nil] at this
  · have := go afC_3 l hl h3; rwa [List.append_nil] at this
  · have := go afC_4 l hl h3; rwa [List.append_nil] at this
  · have := go afC_5 l hl h3; rwa [List.append_nil] at this
  · have := go afC_6 l hl h3; rwa [List.append_nil] at this
  · rcases mlist_snoc l with rfl | ⟨t, x, rfl⟩
    · decide +kernel
    · have hx3 := h3 x (by simp)
      have ht3 : ∀ y ∈ t, y < 3 := fun y hy => h3 y (List.mem_append_left _ hy)
      have htl : t.length ≤ 6 := by simp at hl; omega
      have hxc : x = 0 ∨ x = 1 ∨ x = 2 := by omega
      rcases hxc with rfl | rfl | rfl
      · exact go afC_70 t htl ht3
      · exact go afC_71 t htl ht3
      · exact go afC_72 t htl ht3
  · rcases mlist_snoc l with rfl | ⟨t, x, rfl⟩
    · decide +kernel
    · have hx3 := h3 x (by simp)
      have ht3 : ∀ y ∈ t, y < 3 := fun y hy => h3 y (List.mem_append_left _ hy)
      have hxc : x = 0 ∨ x = 1 ∨ x = 2 := by omega
      rcases mlist_snoc t with rfl | ⟨t', z, rfl⟩
      · rcases hxc with rfl | rfl | rfl <;> decide +kernel
      · have hz3 := ht3 z (by simp)
        have hzc : z = 0 ∨ z = 1 ∨ z = 2 := by omega
        have ht4 : ∀ y ∈ t', y < 3 := fun y hy => ht3 y (List.mem_append_left _ hy)
        have htl : t'.length ≤ 6 := by simp at hl; omega
        rw [List.append_assoc]
        rcases hzc with rfl | rfl | rfl
        · rcases hxc with rfl | rfl | rfl
          · exact go afC_800 t' htl ht4
          · exact go afC_801 t' htl ht4
          · exact go afC_802 t' htl ht4
        · rcases hxc with rfl | rfl | rfl
          · exact go afC_810 t' htl ht4
          · exact go afC_811 t' htl ht4
          · exact go afC_812 t' htl ht4
        · rcases hxc with rfl | rfl | rfl
          · exact go afC_820 t' htl ht4
          · exact go afC_821 t' htl ht4
          · exact go afC_822 t' htl ht4
/-- what laf finds -/
def lafP (m : Nat) (l : List Nat) : Prop := (laf m l = [] → ∀ x : List Nat, x.length ≤ m → (∀ y ∈ x, y < 3) → lyn x = true → dlt l x = false) ∧ (laf m l ≠ [] → lyn (laf m l) = true ∧ (laf m l).length ≤ m ∧ (∀ y ∈ laf m l, y < 3) ∧ dlt l (laf m l) = true ∧ ∀ x : List Nat, x.length ≤ m → (∀ y ∈ x, y < 3) → lyn x = true → dlt l x = true → dlt x (laf m l) = false)
theorem laf_P {m : Nat} (h1 : 1 ≤ m) (h8 : m ≤ 8) : ∀ (r : Nat) (l : List Nat), tW m - ixW m l ≤ r → l.length ≤ m → (∀ x ∈ l, x < 3) → lafP m l
  | 0, l, hr, hl, h3 => by
    have := ixW_b m l hl h3
    omega
  | r + 1, l, hr, hl, h3 => by
    have hA := afA h1 h8 hl h3
    have hb := ixW_b m l hl h3
    unfold afC at hA
    cases hn : (nxW m l).isEmpty with
    | true =>
      rw [hn] at hA
      have hA : cond (Nat.beq (ixW m l + 1) (tW m)) (laf m l).isEmpty false = true := hA
      rw [cond_t] at hA
      have e1 := Nat.eq_of_beq_eq_true hA.1
      have e2 : laf m l = [] := List.isEmpty_iff.mp hA.2
      refine ⟨fun _ x hx9 hx3 _ => ?_, fun q => absurd e2 q⟩
      refine Bool.eq_false_iff.mpr (fun q => ?_)
      have h4 := (ixW_lt m l x hl hx9 h3 hx3).mp q
      have h5 := ixW_b m x hx9 hx3
      omega
    | false =>
      rw [hn] at hA
      have hA : afD m l (nxW m l) = true := hA
      unfold afD at hA
      rw [cond_t, cond_t, cond_t] at hA
      obtain ⟨e1, e2, e3, e4⟩ := hA
      generalize nxW m l = v at *
      have e1 := Nat.eq_of_beq_eq_true e1
      have e2 := l3_all e2
      have e3 : v.length ≤ m := Nat.le_of_ble_eq_true e3
      have e4 := lsame_eq e4
      have hlv : dlt l v = true := (ixW_lt m l v hl e3 h3 e2).mpr (by omega)
      have nxt : ∀ x : List Nat, x.length ≤ m → (∀ y ∈ x, y < 3) → dlt l x = true → x = v ∨ dlt v x = true := fun x hx9 hx3 q => by
        have h4 := (ixW_lt m l x hl hx9 h3 hx3).mp q
        by_cases z : ixW m x = ixW m v
        · exact Or.inl (ixW_inj hx9 e3 hx3 e2 z)
        · exact Or.inr ((ixW_lt m v x e3 hx9 e2 hx3).mpr (by omega))
      cases hv : lyn v with
      | true =>
        rw [hv] at e4
        have e4 : laf m l = v := e4
        have hvn : v ≠ [] := fun q => by rw [q] at hv; cases hv
        refine ⟨fun q => absurd (e4.symm.trans q) hvn, fun _ => ?_⟩
        rw [e4]
        refine ⟨hv, e3, e2, hlv, fun x hx9 hx3 _ q => ?_⟩
        rcases nxt x hx9 hx3 q with z | z
        · rw [z]; exact dlt_rf v
        · exact dlt_asy z
      | false =>
        rw [hv] at e4
        have e4 : laf m l = laf m v := e4
        have ih := laf_P h1 h8 r v (by omega) e3 e2
        unfold lafP
        rw [e4]
        refine ⟨fun q x hx9 hx3 hx1 => Bool.eq_false_iff.mpr (fun z => ?_), fun q => ?_⟩
        · rcases nxt x hx9 hx3 z with y | y
          · rw [y, hv] at hx1; cases hx1
          · rw [ih.1 q x hx9 hx3 hx1] at y; cases y
        · obtain ⟨a1, a2, a3, a4, a5⟩ := ih.2 q
          refine ⟨a1, a2, a3, ?_, fun x hx9 hx3 hx1 z => ?_⟩
          · have b1 := (ixW_lt m v _ e3 a2 e2 a3).mp a4
            exact (ixW_lt m l _ hl a2 h3 a3).mpr (by omega)
          · rcases nxt x hx9 hx3 z with y | y
            · rw [y, hv] at hx1; cases hx1
            · exact a5 x hx9 hx3 hx1 y
/-! the class's row of letters -/
theorem getD_set (l : List Nat) (i z j : Nat) (hi : i < l.length) : (l.set i z).getD j 0 = if j = i then z else l.getD j 0 := by
  rw [List.getD_eq_getElem?_getD, List.getElem?_set, List.getD_eq_getElem?_getD]
  by_cases q : i = j
  · subst q; rw [if_pos rfl, if_pos hi, if_pos rfl]; rfl
  · rw [if_neg q, if_neg (Ne.symm q)]
theorem blt_dec (a b : Nat) : Nat.blt a b = decide (a < b) := by
  rw [Bool.eq_iff_iff, Nat.blt_eq, decide_eq_true_eq]
theorem ble_dec (a b : Nat) : Nat.ble a b = decide (a ≤ b) := by
  rw [Bool.eq_iff_iff, Nat.ble_eq, decide_eq_true_eq]
theorem llast_m {l : List Nat} {v : Nat → Nat} {m : Nat} (h : ∀ j, j < m → l.getD j 0 = v j) : ∀ k, k ≤ m → llast l k = mlast v k
  | 0, _ => rfl
  | k + 1, hk => by
    rw [llast, mlast, h k (by omega), blt_dec, llast_m h k (by omega)]
    by_cases q : v k < 2
    · rw [decide_eq_true q, if_pos q]; rfl
    · rw [decide_eq_false q, if_neg q]; rfl
def mres9 (v : Nat → Nat) : Nat → List Nat
  | 0 => []
  | k + 1 => (List.range k).map v ++ [v k + 1]
theorem lafk_m {l : List Nat} {v : Nat → Nat} {m : Nat} (hl : l.length = m) (h : ∀ j, j < m → l.getD j 0 = v j) : ∀ k, k ≤ m → lafk l k = mres9 v k
  | 0, _ => rfl
  | k + 1, hk => by
    rw [lafk, mres9, h k (by omega)]
    congr 1
    refine List.ext_getElem? (fun j => ?_)
    rw [List.getElem?_take, List.getElem?_map]
    by_cases q : j < k
    · rw [if_pos q, List.getElem?_range q]
      have e := h j (by omega)
      rw [List.getD_eq_getElem?_getD, List.getElem?_eq_getElem (by omega)] at e
      rw [List.getElem?_eq_getElem (by omega)]
      exact congrArg some e
    · rw [if_neg q, List.getElem?_eq_none (by simpa using Nat.not_lt.mp q)]; rfl
theorem lgo_m {m : Nat} : ∀ (n : Nat) (l : List Nat) (v : Nat → Nat) (p kl kv i : Nat), l.length = m → i + n = m → (∀ j, j < m → l.getD j 0 = v j) → (kl = kv ∨ (m ≤ kl ∧ m ≤ kv)) → lgo m n l p kl i = mres9 (mgo n v p kv i) (mlast (mgo n v p kv i) m)
  | 0, l, v, p, kl, kv, i, hl, hi, h, _ => by
    rw [lgo, mgo, llast_m h m (Nat.le_refl _)]
    exact lafk_m hl h _ (mlast_le v m)
  | n + 1, l, v, p, kl, kv, i, hl, hi, h, hk => by
    rw [lgo, mgo, h i (by omega), h (i - p) (by omega), ble_dec, blt_dec, blt_dec]
    by_cases q : kv ≤ i ∨ v i < v (i - p)
    · rw [if_pos q]
      have ec : cond (decide (kl ≤ i)) true (decide (v i < v (i - p))) = true := by
        rcases q with q | q
        · rw [decide_eq_true (show kl ≤ i by omega)]; rfl
        · rw [decide_eq_true q]; cases decide (kl ≤ i) <;> rfl
      rw [ec]
      show lgo m n (l.set i (v (i - p))) p i (i + 1) = _
      refine lgo_m n _ _ p i i (i + 1) (by rw [List.length_set]; exact hl) (by omega) (fun j hj => ?_) (Or.inl rfl)
      rw [getD_set _ _ _ _ (by omega)]
      by_cases z : j = i
      · rw [if_pos z, if_pos z]
      · rw [if_neg z, if_neg z]; exact h j hj
    · rw [if_neg q]
      have ec : cond (decide (kl ≤ i)) true (decide (v i < v (i - p))) = false := by
        rw [decide_eq_false (show ¬ kl ≤ i by omega), decide_eq_false (fun z => q (Or.inr z))]; rfl
      rw [ec]
      show cond (decide (v (i - p) < v i)) (lgo m n l (i + 1) kl (i + 1)) (lgo m n l p kl (i + 1)) = _
      by_cases z : v (i - p) < v i
      · rw [if_pos z, decide_eq_true z]
        exact lgo_m n l v (i + 1) kl kv (i + 1) hl (by omega) h hk
      · rw [if_neg z, decide_eq_false z]
        exact lgo_m n l v p kl kv (i + 1) hl (by omega) h hk
theorem laf_m {m : Nat} (h1 : 1 ≤ m) (u : List Nat) : mafter (mat u) u.length m = menc (laf m (u.take m)) := by
  unfold mafter
  by_cases q : u.length = 0
  · rw [if_pos q, List.eq_nil_of_length_eq_zero q, List.take_nil]
    rfl
  · rw [if_neg q]
    have hne : (u.take m).isEmpty = false := by
      cases hu : u.take m with
      | nil =>
        have := congrArg List.length hu
        rw [List.length_take] at this
        have e0 : ([] : List Nat).length = 0 := rfl
        omega
      | cons a t => rfl
    unfold laf
    rw [hne]
    show _ = menc (lgo m (m - 1) (u.take m ++ List.replicate (m - (u.take m).length) 0) 1 (u.take m).length 1)
    have hlen : (u.take m ++ List.replicate (m - (u.take m).length) 0).length = m := by
      rw [List.length_append, List.length_replicate, List.length_take]; omega
    rw [lgo_m (m - 1) _ (mat u) 1 _ u.length 1 hlen (by omega) (fun j hj => ?_) (by rw [List.length_take]; omega)]
    · cases mlast (mgo (m - 1) (mat u) 1 u.length 1) m <;> rfl
    · unfold mat
      rw [List.getD_eq_getElem?_getD, List.getD_eq_getElem?_getD]
      by_cases z : j < (u.take m).length
      · rw [List.getElem?_append_left z, List.getElem?_take, if_pos hj]
      · rw [List.getElem?_append_right (by omega)]
        rw [List.length_take] at z
        rw [List.getElem?_eq_none (show u.length ≤ j by omega)]
        rw [List.getElem?_replicate]
        split <;> rfl
/-! the reference's search -/
/-- the best of a word so far and another word -/
def nbst (u B x : List Nat) : List Nat := if dlt u x = true ∧ lyn x = true then (if B = [] then x else if dlt x B = true then x else B) else B
def hBst (m : Nat) (u : List Nat) (W : Nat) (B : List Nat) : Prop := (B = [] → ∀ x : List Nat, x.length ≤ m → (∀ y ∈ x, y < 3) → menc x < W → lyn x = true → dlt u x = false) ∧ (B ≠ [] → lyn B = true ∧ B.length ≤ m ∧ (∀ y ∈ B, y < 3) ∧ dlt u B = true ∧ ∀ x : List Nat, x.length ≤ m → (∀ y ∈ x, y < 3) → menc x < W → lyn x = true → dlt u x = true → dlt x B = false)
theorem hBst.one (m : Nat) (u : List Nat) : hBst m u 1 [] := ⟨fun _ x hx9 hx3 hx1 hx2 => by
  by_cases q : x = []
  · rw [q] at hx2; cases hx2
  · have := menc_pos q; omega, fun q => absurd rfl q⟩
theorem dlt_tr : ∀ {a b c : List Nat}, dlt a b = true → dlt b c = true → dlt a c = true
  | _, _, [], _, h => by rw [dlt_nil] at h; cases h
  | _, [], _ :: _, h, _ => by rw [dlt_nil] at h; cases h
  | [], _ :: _, _ :: _, _, _ => rfl
  | x :: a, y :: b, z :: c, h1, h2 => by
    rw [dlt_cons] at h1 h2 ⊢
    by_cases q : x = y
    · subst q
      rw [if_pos rfl] at h1
      by_cases q2 : x = z
      · subst q2
        rw [if_pos rfl] at h2 ⊢
        exact dlt_tr h1 h2
      · rw [if_neg q2] at h2 ⊢; exact h2
    · rw [if_neg q, decide_eq_true_eq] at h1
      by_cases q2 : y = z
      · subst q2; rw [if_neg q]; exact decide_eq_true h1
      · rw [if_neg q2, decide_eq_true_eq] at h2
        rw [if_neg (by omega)]; exact decide_eq_true (by omega)
theorem hBst.step {m : Nat} {u B x : List Nat} (hx9 : x.length ≤ m) (hx3 : ∀ y ∈ x, y < 3) (h : hBst m u (menc x) B) : hBst m u (menc x + 1) (nbst u B x) := by
  have old : ∀ z : List Nat, (∀ y ∈ z, y < 3) → menc z < menc x + 1 → z = x ∨ menc z < menc x := fun z hz3 hz => by
    by_cases q : menc z = menc x
    · exact Or.inl (menc_inj _ rfl hz3 hx3 q)
    · exact Or.inr (by omega)
  unfold nbst
  by_cases q : dlt u x = true ∧ lyn x = true
  · rw [if_pos q]
    have hxn : x ≠ [] := fun z => by rw [z] at q; cases q.2
    by_cases qB : B = []
    · rw [if_pos qB]
      refine ⟨fun z => absurd z hxn, fun _ => ⟨q.2, hx9, hx3, q.1, fun z a b c1 d1 e1 => ?_⟩⟩
      rcases old z b c1 with y | y
      · rw [y]; exact dlt_rf x
      · rw [h.1 qB z a b y d1] at e1; cases e1
    · rw [if_neg qB]
      obtain ⟨a1, a2, a3, a4, a5⟩ := h.2 qB
      by_cases qx : dlt x B = true
      · rw [if_pos qx]
        refine ⟨fun z => absurd z hxn, fun _ => ⟨q.2, hx9, hx3, q.1, fun z a b c1 d1 e1 => ?_⟩⟩
        rcases old z b c1 with y | y
        · rw [y]; exact dlt_rf x
        · have := a5 z a b y d1 e1
          refine Bool.eq_false_iff.mpr (fun t => ?_)
          rw [dlt_tr t qx] at this; cases this
      · rw [if_neg qx]
        refine ⟨fun z => absurd z qB, fun _ => ⟨a1, a2, a3, a4, fun z a b c1 d1 e1 => ?_⟩⟩
        rcases old z b c1 with y | y
        · rw [y]; exact Bool.eq_false_iff.mpr qx
        · exact a5 z a b y d1 e1
  · rw [if_neg q]
    refine ⟨fun z y a b c1 d1 => ?_, fun z => ?_⟩
    · rcases old y b c1 with t | t
      · rw [t] at d1 ⊢
        exact Bool.eq_false_iff.mpr (fun r => q ⟨r, d1⟩)
      · exact h.1 z y a b t d1
    · obtain ⟨a1, a2, a3, a4, a5⟩ := h.2 z
      refine ⟨a1, a2, a3, a4, fun y a b c1 d1 e1 => ?_⟩
      rcases old y b c1 with t | t
      · rw [t] at d1 e1
        exact absurd ⟨e1, d1⟩ q
      · exact a5 y a b t d1 e1
theorem hBst.fin {m : Nat} (h1 : 1 ≤ m) (h8 : m ≤ 8) {u B : List Nat} (hu : mW u) (h : hBst m u (mtop m) B) : B = laf m (u.take m) := by
  have hL := laf_P h1 h8 _ (u.take m) (Nat.le_refl _) (by rw [List.length_take]; omega) (hu.take m).2
  have hlt : ∀ x : List Nat, x.length ≤ m → (∀ y ∈ x, y < 3) → menc x < mtop m := fun x a b => Nat.lt_of_lt_of_le (menc_lt _ x rfl b) (mtop_mono a)
  have hd : ∀ x : List Nat, x.length ≤ m → dlt u x = dlt (u.take m) x := fun x a => dlt_take m u x a
  by_cases qB : B = []
  · by_cases qL : laf m (u.take m) = []
    · rw [qB, qL]
    · obtain ⟨a1, a2, a3, a4, a5⟩ := hL.2 qL
      have := h.1 qB _ a2 a3 (hlt _ a2 a3) a1
      rw [hd _ a2, a4] at this; cases this
  · obtain ⟨b1, b2, b3, b4, b5⟩ := h.2 qB
    by_cases qL : laf m (u.take m) = []
    · have := hL.1 qL B b2 b3 b1
      rw [← hd B b2, b4] at this; cases this
    · obtain ⟨a1, a2, a3, a4, a5⟩ := hL.2 qL
      have c1 := b5 _ a2 a3 (hlt _ a2 a3) a1 (by rw [hd _ a2]; exact a4)
      have c2 := a5 B b2 b3 b1 (by rw [← hd B b2]; exact b4)
      rcases dlt_tri B (laf m (u.take m)) with t | t | t
      · rw [t] at c2; cases c2
      · exact t
      · rw [t] at c1; cases c1
theorem mcmp_neg (u v : Nat → Nat) (a n b m : Nat) : ∀ r k, mcmp u v a n b m r k = -mcmp v u b m a n r k
  | 0, k => by
    show (n : Int) - m = -((m : Int) - n)
    omega
  | r + 1, k => by
    rw [mcmp, mcmp]
    by_cases q : u (a + k) = v (b + k)
    · rw [if_pos q, if_pos q.symm, mcmp_neg u v a n b m r (k + 1)]
    · rw [if_neg q, if_neg (Ne.symm q)]
      omega
theorem mcp_gt (u v : Nat → Nat) (a n b m : Nat) : 0 < mcp u v a n b m ↔ dlt (mrn v b m) (mrn u a n) = true := by
  rw [← mcp_dlt v u b m a n]
  unfold mcp
  rw [mcmp_neg u v, Nat.min_comm m n]
  omega
theorem ofI_le {z : Int} (h1 : -8 ≤ z) (h2 : z ≤ 8) : Int32.ofInt z ≤ nI 0 ↔ z ≤ 0 := by
  rw [Int32.le_iff_toInt_le, Int32.toInt_ofInt_of_le (by omega) (by omega), nI_toInt (by omega)]
  omega
theorem ofI_ge {z : Int} (h1 : -8 ≤ z) (h2 : z ≤ 8) : nI 0 ≤ Int32.ofInt z ↔ 0 ≤ z := by
  rw [Int32.le_iff_toInt_le, Int32.toInt_ofInt_of_le (by omega) (by omega), nI_toInt (by omega)]
  omega
theorem mcp_bd {u v : Nat → Nat} {n m : Nat} (hn : n ≤ 8) (hm : m ≤ 8) (hu : ∀ j, j < 8 → u j < 3) (hv : ∀ j, j < 8 → v j < 3) : -8 ≤ mcp u v 0 n 0 m ∧ mcp u v 0 n 0 m ≤ 8 := mcmp_b (a := 0) (b := 0) hn hm hu hv (min n m) 0 (by omega) (by omega)
end M39
