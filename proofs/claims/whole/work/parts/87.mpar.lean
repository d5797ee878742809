/-! a text read by the class and by the reference -/
section M38
theorem sg_d {x : Nat} (h : x = 43 ∨ x = 45) : ¬ (48 ≤ x ∧ x ≤ 57) ∧ ¬ (97 ≤ x ∧ x ≤ 99) := by omega
theorem ep_end {t : List Nat} {k dg lt : Nat} (h : t.length ≤ k) : mEP (t.drop k) k dg lt = if 0 < dg + lt then none else some k := by
  rw [List.drop_eq_nil_of_le h]; rfl
theorem ep_s {t : List Nat} {k dg lt : Nat} (h : k < t.length) : mEP (t.drop k) k dg lt = if (97 ≤ t.getD k 0 ∧ t.getD k 0 ≤ 99) ∧ lt < 8 then mEP (t.drop (k + 1)) (k + 1) dg (lt + 1) else if (48 ≤ t.getD k 0 ∧ t.getD k 0 ≤ 57) ∧ lt = 0 ∧ dg < 7 then mEP (t.drop (k + 1)) (k + 1) (dg + 1) lt else if (t.getD k 0 = 43 ∧ 0 < dg + lt) ∨ (t.getD k 0 = 45 ∧ (0 < dg + lt ∨ k = 0)) then mEP (t.drop (k + 1)) (k + 1) 0 0 else some k := by
  have e : t.getD k 0 = t[k] := by rw [List.getD_eq_getElem?_getD, List.getElem?_eq_getElem h]; rfl
  rw [List.drop_eq_getElem_cons h, ← e]
  rfl
theorem ep_dig (t : List Nat) : ∀ n k dg, dg + n = 7 → mEP (t.drop k) k dg 0 = mEP (t.drop (rdg t n k)) (rdg t n k) (dg + (rdg t n k - k)) 0
  | 0, k, dg, _ => by rw [rdg, Nat.sub_self]; rfl
  | n + 1, k, dg, h => by
    rw [rdg_s]
    by_cases q : dgt (t.getD k 0) = true
    · rw [if_pos q, ep_s (dgt_lt q)]
      have q9 : 48 ≤ t.getD k 0 ∧ t.getD k 0 ≤ 57 := of_decide_eq_true q
      rw [if_neg (by omega), if_pos ⟨q9, rfl, by omega⟩, ep_dig t n (k + 1) (dg + 1) (by omega)]
      have := (rdg_ge t n (k + 1)).1
      rw [show dg + 1 + (rdg t n (k + 1) - (k + 1)) = dg + (rdg t n (k + 1) - k) by omega]
    · rw [if_neg q, Nat.sub_self]; rfl
theorem ep_let (t : List Nat) : ∀ n k dg lt, lt + n = 8 → mEP (t.drop k) k dg lt = mEP (t.drop (rlt t n k)) (rlt t n k) dg (lt + (rlt t n k - k))
  | 0, k, dg, lt, _ => by rw [rlt, Nat.sub_self]; rfl
  | n + 1, k, dg, lt, h => by
    rw [rlt_s]
    by_cases q : ltr (t.getD k 0) = true
    · rw [if_pos q, ep_s (ltr_lt q)]
      have q9 : 97 ≤ t.getD k 0 ∧ t.getD k 0 ≤ 99 := of_decide_eq_true q
      rw [if_pos ⟨q9, by omega⟩, ep_let t n (k + 1) dg (lt + 1) (by omega)]
      have := (rlt_ge t n (k + 1)).1
      rw [show lt + 1 + (rlt t n (k + 1) - (k + 1)) = lt + (rlt t n (k + 1) - k) by omega]
    · rw [if_neg q, Nat.sub_self]; rfl
theorem rdg_stop (t : List Nat) : ∀ n k, rdg t n k - k < n → dgt (t.getD (rdg t n k) 0) = false
  | 0, k, h => by omega
  | n + 1, k, h => by
    rw [rdg_s] at h ⊢
    by_cases q : dgt (t.getD k 0) = true
    · rw [if_pos q] at h ⊢
      have := (rdg_ge t n (k + 1)).1
      exact rdg_stop t n (k + 1) (by omega)
    · rw [if_neg q]; exact Bool.eq_false_iff.mpr q
theorem rlt_stop (t : List Nat) : ∀ n k, rlt t n k - k < n → ltr (t.getD (rlt t n k) 0) = false
  | 0, k, h => by omega
  | n + 1, k, h => by
    rw [rlt_s] at h ⊢
    by_cases q : ltr (t.getD k 0) = true
    · rw [if_pos q] at h ⊢
      have := (rlt_ge t n (k + 1)).1
      exact rlt_stop t n (k + 1) (by omega)
    · rw [if_neg q]; exact Bool.eq_false_iff.mpr q
theorem rdg_all (t : List Nat) : ∀ n k j, k ≤ j → j < rdg t n k → dgt (t.getD j 0) = true
  | 0, k, j, h1, h2 => by rw [rdg] at h2; omega
  | n + 1, k, j, h1, h2 => by
    rw [rdg_s] at h2
    by_cases q : dgt (t.getD k 0) = true
    · rw [if_pos q] at h2
      by_cases e : j = k
      · rw [e]; exact q
      · exact rdg_all t n (k + 1) j (by omega) h2
    · rw [if_neg q] at h2; omega
theorem rlt_all (t : List Nat) : ∀ n k j, k ≤ j → j < rlt t n k → ltr (t.getD j 0) = true
  | 0, k, j, h1, h2 => by rw [rlt] at h2; omega
  | n + 1, k, j, h1, h2 => by
    rw [rlt_s] at h2
    by_cases q : ltr (t.getD k 0) = true
    · rw [if_pos q] at h2
      by_cases e : j = k
      · rw [e]; exact q
      · exact rlt_all t n (k + 1) j (by omega) h2
    · rw [if_neg q] at h2; omega
theorem rtO_lt (t : List Nat) (k : Nat) : rtO t k = true ↔ k < rtE t k := by
  have h1 := rdg_ge t 7 k
  have h2 := rlt_ge t 8 (rdg t 7 k)
  have e : rtE t k = rlt t 8 (rdg t 7 k) := rfl
  unfold rtO
  rw [Bool.or_eq_true, decide_eq_true_eq]
  constructor
  · rintro (q | q)
    · have := (rdg_ge t 6 (k + 1)).1
      have h3 : rdg t 7 k = rdg t 6 (k + 1) := by rw [rdg_s, if_pos q]
      omega
    · omega
  · intro q
    by_cases z : dgt (t.getD k 0) = true
    · exact Or.inl z
    · right
      have h3 : rdg t 7 k = k := by rw [rdg_s, if_neg z]
      omega
theorem no_sg {t : List Nat} {k j : Nat} (h1 : k ≤ j) (h2 : j < rtE t k) : ¬ (t.getD j 0 = 43 ∨ t.getD j 0 = 45) := by
  by_cases q : j < rdg t 7 k
  · have := of_decide_eq_true (rdg_all t 7 k j h1 q)
    omega
  · have := of_decide_eq_true (rlt_all t 8 (rdg t 7 k) j (by omega) h2)
    omega
/-- the class's look at a term's end -/
theorem ep_term (t : List Nat) (k : Nat) : mEP (t.drop k) k 0 0 = if t.length ≤ rtE t k then (if k < rtE t k then none else some (rtE t k)) else if isSg (t.getD (rtE t k) 0) = true ∧ (k < rtE t k ∨ (t.getD k 0 = 45 ∧ k = 0)) then mEP (t.drop (rtE t k + 1)) (rtE t k + 1) 0 0 else some (rtE t k) := by
  have h1 := rdg_ge t 7 k
  have h2 := rlt_ge t 8 (rdg t 7 k)
  have e : rtE t k = rlt t 8 (rdg t 7 k) := rfl
  rw [ep_dig t 7 k 0 rfl, ep_let t 8 (rdg t 7 k) _ 0 rfl, ← e]
  have hs1 := rdg_stop t 7 k
  have hs2 := rlt_stop t 8 (rdg t 7 k)
  rw [← e] at hs2 h2
  by_cases q : t.length ≤ rtE t k
  · rw [if_pos q, ep_end q]
    by_cases z : k < rtE t k
    · rw [if_pos z, if_pos (by omega)]
    · rw [if_neg z, if_neg (by omega)]
  · rw [if_neg q, ep_s (by omega)]
    have n1 : ¬ ((97 ≤ t.getD (rtE t k) 0 ∧ t.getD (rtE t k) 0 ≤ 99) ∧ 0 + (rtE t k - rdg t 7 k) < 8) := by
      rintro ⟨z1, z2⟩
      have := of_decide_eq_false (hs2 (by omega))
      exact this z1
    have n2 : ¬ ((48 ≤ t.getD (rtE t k) 0 ∧ t.getD (rtE t k) 0 ≤ 57) ∧ 0 + (rtE t k - rdg t 7 k) = 0 ∧ 0 + (rdg t 7 k - k) < 7) := by
      rintro ⟨z1, z2, z3⟩
      have z4 : rtE t k = rdg t 7 k := by omega
      rw [z4] at z1
      have := of_decide_eq_false (hs1 (by omega))
      exact this z1
    rw [if_neg n1, if_neg n2]
    by_cases z : isSg (t.getD (rtE t k) 0) = true ∧ (k < rtE t k ∨ (t.getD k 0 = 45 ∧ k = 0))
    · rw [if_pos z]
      have zs := of_decide_eq_true z.1
      rcases z.2 with y | ⟨y1, y2⟩
      · rw [if_pos (by omega)]
      · by_cases y : k < rtE t k
        · rw [if_pos (by omega)]
        · have e9 : rtE t k = k := by omega
          rw [e9] at zs ⊢
          rw [if_pos (Or.inr ⟨y1, Or.inr y2⟩)]
    · rw [if_neg z]
      refine if_neg (fun y => z ?_)
      refine ⟨decide_eq_true (by omega), ?_⟩
      by_cases y9 : k < rtE t k
      · exact Or.inl y9
      · have e9 : rtE t k = k := by omega
        rw [e9] at y
        omega
/-- the reference from a term's start on -/
def rpK (t : List Nat) (n k : Nat) (neg : Bool) (f : Nat → Int64) : Bool × Nat × (Nat → Int64) := if rtO t k then rpT t n (rtE t k) (rtF t neg k f) else (false, rtE t k, rtF t neg k f)
theorem rpK_1 (t : List Nat) : ∀ (n k : Nat) (neg : Bool) (f : Nat → Int64), t.length - k < n → k ≤ t.length → (1 ≤ k ∨ t.getD 0 0 ≠ 45) → (mEP (t.drop k) k 0 0 = none → (rpK t n k neg f).1 = true) ∧ ∀ i, mEP (t.drop k) k 0 0 = some i → (rpK t n k neg f).1 = false ∧ (rpK t n k neg f).2.1 = i
  | 0, k, neg, f, h, _, _ => by omega
  | n + 1, k, neg, f, h, hk, h0 => by
    have hge := rtE_ge t k
    rw [ep_term]
    unfold rpK
    by_cases qo : rtO t k = true
    · have hlt := (rtO_lt t k).mp qo
      rw [if_pos qo, rpT_s]
      by_cases q : t.length ≤ rtE t k
      · rw [if_pos q, if_pos hlt, if_neg (show ¬ rtE t k < t.length by omega)]
        exact ⟨fun _ => rfl, (fun i z => by cases z)⟩
      · rw [if_neg q, if_pos (show rtE t k < t.length by omega)]
        by_cases z : isSg (t.getD (rtE t k) 0) = true
        · rw [if_pos ⟨z, Or.inl hlt⟩, if_pos z]
          exact rpK_1 t n (rtE t k + 1) (decide (t.getD (rtE t k) 0 = 45)) (rtF t neg k f) (by omega) (by omega) (Or.inl (by omega))
        · rw [if_neg (fun y => z y.1), if_neg z]
          exact ⟨(fun y => by cases y), fun i y => by cases y; exact ⟨rfl, rfl⟩⟩
    · have hlt : ¬ k < rtE t k := fun z => qo ((rtO_lt t k).mpr z)
      rw [if_neg qo]
      by_cases q : t.length ≤ rtE t k
      · rw [if_pos q, if_neg hlt]
        exact ⟨(fun y => by cases y), fun i y => by cases y; exact ⟨rfl, rfl⟩⟩
      · rw [if_neg q, if_neg (fun y => y.2.elim hlt (fun z => by
          obtain ⟨z1, z2⟩ := z
          subst z2
          omega))]
        exact ⟨(fun y => by cases y), fun i y => by cases y; exact ⟨rfl, rfl⟩⟩
/-! values -/
theorem dig64 : ∀ x, x < 128 → 48 ≤ x → (nI x - nI 48).toInt64 = (nI x).toInt64 - Int64.ofInt 48 := by decide +kernel
theorem addsub64 (a b c : Int64) : a + (b - c) = a + b - c := by rw [Int64.sub_eq_add_neg, Int64.sub_eq_add_neg, Int64.add_assoc]
theorem seg_dig (t : List Nat) (st : Nat) : ∀ (n k : Nat) (ng ct : Bool) (nb : Int64), st ≤ k → mseg (mcut t st k) = (ng, ct, nb, []) → mseg (mcut t st (rdg t n k)) = (ng, ct || decide (k < rdg t n k), rnm t n k nb, [])
  | 0, k, ng, ct, nb, _, h => by
    rw [rdg, rnm, h]
    simp
  | n + 1, k, ng, ct, nb, hst, h => by
    rw [rdg_s, rnm_s]
    by_cases q : dgt (t.getD k 0) = true
    · rw [if_pos q, if_pos q]
      have q9 : 48 ≤ t.getD k 0 ∧ t.getD k 0 ≤ 57 := of_decide_eq_true q
      have e1 : mseg (mcut t st (k + 1)) = (ng, true, Int64.ofInt 10 * nb + (nI (t.getD k 0)).toInt64 - Int64.ofInt 48, []) := by
        rw [mcut_s t hst (dgt_lt q), mseg_s, h]
        unfold mts
        rw [if_neg (by omega), if_pos q9, dig64 _ (by omega) q9.1, addsub64]
      rw [seg_dig t st n (k + 1) ng true _ (by omega) e1]
      have := (rdg_ge t n (k + 1)).1
      rw [decide_eq_true (show k < rdg t n (k + 1) by omega)]
      simp
    · rw [if_neg q, if_neg q, h]
      simp
theorem seg_let (t : List Nat) (st : Nat) : ∀ (n k : Nat) (ng ct : Bool) (nb : Int64) (u : List Nat), st ≤ k → mseg (mcut t st k) = (ng, ct, nb, u) → mseg (mcut t st (rlt t n k)) = (ng, ct, nb, u ++ rwd9 t k (rlt t n k))
  | 0, k, ng, ct, nb, u, _, h => by
    rw [rlt, h]
    unfold rwd9
    rw [Nat.sub_self]
    simp
  | n + 1, k, ng, ct, nb, u, hst, h => by
    rw [rlt_s]
    by_cases q : ltr (t.getD k 0) = true
    · rw [if_pos q]
      have q9 : 97 ≤ t.getD k 0 ∧ t.getD k 0 ≤ 99 := of_decide_eq_true q
      have e1 : mseg (mcut t st (k + 1)) = (ng, ct, nb, u ++ [t.getD k 0 - 97]) := by
        rw [mcut_s t hst (ltr_lt q), mseg_s, h]
        unfold mts
        rw [if_pos q9]
      rw [seg_let t st n (k + 1) ng ct nb _ (by omega) e1]
      have := (rlt_ge t n (k + 1)).1
      have e2 : rwd9 t k (rlt t n (k + 1)) = (t.getD k 0 - 97) :: rwd9 t (k + 1) (rlt t n (k + 1)) := by
        unfold rwd9
        rw [show rlt t n (k + 1) - k = (rlt t n (k + 1) - (k + 1)) + 1 by omega, List.range_succ_eq_map, List.map_cons, List.map_map]
        congr 1
        refine List.map_congr_left (fun j _ => ?_)
        show t.getD (k + (j + 1)) 0 - 97 = t.getD (k + 1 + j) 0 - 97
        rw [show k + (j + 1) = k + 1 + j by omega]
      rw [e2, List.append_assoc]
      rfl
    · rw [if_neg q, h]
      unfold rwd9
      rw [Nat.sub_self]
      simp
/-- a term read by both -/
theorem seg_rtF {t : List Nat} {st k : Nat} {neg : Bool} (hst : st ≤ k) (h : mseg (mcut t st k) = (neg, false, lN 0, [])) (f : Nat → Int64) : mst (mcut t st (rtE t k)) f = rtF t neg k f := by
  have h1 := rdg_ge t 7 k
  have e1 := seg_dig t st 7 k neg false (lN 0) hst h
  have e2 := seg_let t st 8 (rdg t 7 k) _ _ _ _ (by omega) e1
  have e : rtE t k = rlt t 8 (rdg t 7 k) := rfl
  unfold mst rtF rtN mamt
  rw [e, e2]
  simp only [Bool.false_or, List.nil_append]
  by_cases q : dgt (t.getD k 0) = true
  · have h3 : k < rdg t 7 k := by
      have := (rdg_ge t 6 (k + 1)).1
      have h4 : rdg t 7 k = rdg t 6 (k + 1) := by rw [rdg_s, if_pos q]
      omega
    rw [decide_eq_true h3, if_pos q]
    rfl
  · have h3 : ¬ k < rdg t 7 k := by
      have h4 : rdg t 7 k = k := by rw [rdg_s, if_neg q]
      omega
    have e9 : ∀ v, rnm t 7 k v = v := fun v => by rw [rnm_s, if_neg q]
    rw [decide_eq_false h3, if_neg q, e9, e9]
    rfl
theorem mat_run (t : List Nat) (st e : Nat) (f : Nat → Int64) (he : e ≤ t.length) (hs9 : e = t.length ∨ t.getD e 0 = 43 ∨ t.getD e 0 = 45) : ∀ (r i : Nat), i + r = e → (∀ j, i ≤ j → j < e → ¬ (t.getD j 0 = 43 ∨ t.getD j 0 = 45)) → mAT t (t.length + 1 - i) st i f = mAT t (t.length - e) e (e + 1) (mst (mcut t st e) f)
  | 0, i, h, _ => by
    obtain rfl : i = e := by omega
    rw [show t.length + 1 - i = (t.length - i) + 1 by omega, mAT, if_pos hs9]
  | r + 1, i, h, hn => by
    rw [show t.length + 1 - i = (t.length - i) + 1 by omega, mAT, if_neg (fun z => z.elim (fun z => by omega) (hn i (Nat.le_refl _) (by omega)))]
    have := mat_run t st e f he hs9 r (i + 1) (by omega) (fun j h1 h2 => hn j (by omega) h2)
    rw [show t.length + 1 - (i + 1) = t.length - i by omega] at this
    exact this
theorem rpK_2 (t : List Nat) : ∀ (n k st : Nat) (neg : Bool) (f : Nat → Int64), t.length - k < n → k ≤ t.length → (1 ≤ k ∨ t.getD 0 0 ≠ 45) → st ≤ k → k ≤ st + 1 → mseg (mcut t st k) = (neg, false, lN 0, []) → mEP (t.drop k) k 0 0 = none → (rpK t n k neg f).2.2 = mAT t (t.length - st) st (st + 1) f
  | 0, k, st, neg, f, h, _, _, _, _, _, _ => by omega
  | n + 1, k, st, neg, f, h, hk, h0, hs1, hs2, hsg, hE => by
    have hge := rtE_ge t k
    have hle := rtE_le t hk
    rw [ep_term] at hE
    have hlt : k < rtE t k := by
      refine Nat.lt_of_not_le (fun q => ?_)
      by_cases q1 : t.length ≤ rtE t k
      · rw [if_pos q1, if_neg (by omega)] at hE; cases hE
      · rw [if_neg q1, if_neg (fun y => y.2.elim (by omega) (fun z => by
          obtain ⟨z1, z2⟩ := z
          subst z2
          omega))] at hE
        cases hE
    have qo := (rtO_lt t k).mpr hlt
    unfold rpK
    rw [if_pos qo, rpT_s]
    have hseg := seg_rtF hs1 hsg f
    have hno : ∀ j, st + 1 ≤ j → j < rtE t k → ¬ (t.getD j 0 = 43 ∨ t.getD j 0 = 45) := fun j h1 h2 => no_sg (by omega) h2
    have hrun := fun hs9 => mat_run t st (rtE t k) f hle hs9 (rtE t k - (st + 1)) (st + 1) (by omega) hno
    rw [show t.length + 1 - (st + 1) = t.length - st by omega, hseg] at hrun
    by_cases q1 : t.length ≤ rtE t k
    · rw [if_neg (show ¬ rtE t k < t.length by omega), hrun (Or.inl (by omega)), show t.length - rtE t k = 0 by omega]
      rfl
    · rw [if_neg q1] at hE
      rw [if_pos (show rtE t k < t.length by omega)]
      by_cases z : isSg (t.getD (rtE t k) 0) = true
      · rw [if_pos ⟨z, Or.inl hlt⟩] at hE
        rw [if_pos z, hrun (Or.inr (of_decide_eq_true z))]
        refine rpK_2 t n (rtE t k + 1) (rtE t k) (decide (t.getD (rtE t k) 0 = 45)) _ (by omega) (by omega) (Or.inl (by omega)) (by omega) (Nat.le_refl _) ?_ hE
        rw [mcut_s t (Nat.le_refl _) (by omega), mcut_0, mseg_s]
        have z9 := sg_d (of_decide_eq_true z)
        show mts _ (false, false, lN 0, []) = _
        unfold mts
        rw [if_neg z9.2, if_neg z9.1]
      · rw [if_neg (fun y => z y.1)] at hE
        cases hE
theorem par_0 {t : List Nat} (h : t.getD 0 0 = 45) : 0 < t.length := Nat.lt_of_not_le (fun q => by rw [getD0 q] at h; omega)
/-- both read a text alike -/
theorem par_A {t : List Nat} (h60 : t.length ≤ 60) (f : Nat → Int64) : (mEP t 0 0 0 = none → (rpA t f).1 = true ∧ (rpA t f).2.2 = mAT t t.length 0 1 f) ∧ ∀ i, mEP t 0 0 0 = some i → (rpA t f).1 = false ∧ (rpA t f).2.1 = i := by
  have e0 : mEP t 0 0 0 = mEP (t.drop 0) 0 0 0 := by rw [List.drop_zero]
  have eA : rpA t f = rpK t 61 (rpB t) (decide (t.getD 0 0 = 45)) f := rfl
  rw [e0, eA]
  by_cases q : t.getD 0 0 = 45
  · have hl := par_0 q
    have eB : rpB t = 1 := if_pos q
    have e1 : mEP (t.drop 0) 0 0 0 = mEP (t.drop 1) 1 0 0 := by
      rw [ep_s hl, q, if_neg (by omega), if_neg (by omega), if_pos (by omega)]
    rw [e1, eB]
    have a := rpK_1 t 61 1 (decide (t.getD 0 0 = 45)) f (by omega) hl (Or.inl (Nat.le_refl _))
    refine ⟨fun z => ⟨a.1 z, ?_⟩, a.2⟩
    rw [rpK_2 t 61 1 0 (decide (t.getD 0 0 = 45)) f (by omega) hl (Or.inl (Nat.le_refl _)) (by omega) (Nat.le_refl _) ?_ z]
    · rfl
    · rw [mcut_s t (Nat.le_refl _) hl, mcut_0, mseg_s]
      show mts _ (false, false, lN 0, []) = _
      unfold mts
      rw [if_neg (by omega), if_neg (by omega)]
  · have eB : rpB t = 0 := if_neg q
    have eD : decide (t.getD 0 0 = 45) = false := decide_eq_false q
    rw [eB, eD]
    have a := rpK_1 t 61 0 false f (by omega) (Nat.zero_le _) (Or.inr q)
    refine ⟨fun z => ⟨a.1 z, ?_⟩, a.2⟩
    rw [rpK_2 t 61 0 0 false f (by omega) (Nat.zero_le _) (Or.inr q) (Nat.le_refl _) (by omega) ?_ z]
    · rfl
    · rw [mcut_0]; rfl
/-- no word of a text that is right is too long -/
theorem par_8 {t : List Nat} (h : mEP t 0 0 0 = none) : ∀ b, b ≤ t.length → ∃ dg lt, mEP (t.drop b) b dg lt = none ∧ lt ≤ 8 ∧ ∀ a, a ≤ b → (∀ j, a < j → j < b → ¬ (t.getD j 0 = 43 ∨ t.getD j 0 = 45)) → (mseg (mcut t a b)).2.2.2.length ≤ lt
  | 0, _ => ⟨0, 0, by rw [List.drop_zero]; exact h, Nat.zero_le _, fun a ha _ => by
      obtain rfl : a = 0 := by omega
      rw [mcut_0]
      exact Nat.le_refl _⟩
  | b + 1, hb => by
    obtain ⟨dg, lt, h1, h2, h3⟩ := par_8 h b (by omega)
    rw [ep_s (by omega)] at h1
    have self : ∀ lt', (mseg (mcut t (b + 1) (b + 1))).2.2.2.length ≤ lt' := fun lt' => by rw [mcut_0]; exact Nat.zero_le _
    by_cases q1 : (97 ≤ t.getD b 0 ∧ t.getD b 0 ≤ 99) ∧ lt < 8
    · rw [if_pos q1] at h1
      refine ⟨dg, lt + 1, h1, by omega, fun a ha hn => ?_⟩
      by_cases e : a = b + 1
      · rw [e]; exact self _
      · have := h3 a (by omega) (fun j j1 j2 => hn j j1 (by omega))
        rw [mcut_s t (by omega) (by omega), mseg_s]
        unfold mts
        rw [if_pos q1.1]
        simp only [List.length_append, List.length_cons, List.length_nil]
        omega
    · rw [if_neg q1] at h1
      by_cases q2 : (48 ≤ t.getD b 0 ∧ t.getD b 0 ≤ 57) ∧ lt = 0 ∧ dg < 7
      · rw [if_pos q2] at h1
        refine ⟨dg + 1, lt, h1, h2, fun a ha hn => ?_⟩
        by_cases e : a = b + 1
        · rw [e]; exact self _
        · have := h3 a (by omega) (fun j j1 j2 => hn j j1 (by omega))
          rw [mcut_s t (by omega) (by omega), mseg_s]
          unfold mts
          rw [if_neg (by omega), if_pos q2.1]
          exact this
      · rw [if_neg q2] at h1
        by_cases q3 : (t.getD b 0 = 43 ∧ 0 < dg + lt) ∨ (t.getD b 0 = 45 ∧ (0 < dg + lt ∨ b = 0))
        · rw [if_pos q3] at h1
          have hsg : t.getD b 0 = 43 ∨ t.getD b 0 = 45 := q3.elim (fun z => Or.inl z.1) (fun z => Or.inr z.1)
          refine ⟨0, 0, h1, Nat.zero_le _, fun a ha hn => ?_⟩
          by_cases e : a = b + 1
          · rw [e]; exact self _
          · by_cases e2 : a = b
            · subst e2
              rw [mcut_s t (Nat.le_refl _) (by omega), mcut_0, mseg_s]
              have z9 := sg_d hsg
              show (mts _ (false, false, lN 0, [])).2.2.2.length ≤ 0
              unfold mts
              rw [if_neg z9.2, if_neg z9.1]
              exact Nat.le_refl _
            · exact absurd hsg (hn b (by omega) (by omega))
        · rw [if_neg q3] at h1
          cases h1
theorem par_seg {t : List Nat} (h : mEP t 0 0 0 = none) : ∀ a b, a ≤ b → b ≤ t.length → (∀ j, a < j → j < b → ¬ (t.getD j 0 = 43 ∨ t.getD j 0 = 45)) → (mseg (mcut t a b)).2.2.2.length ≤ 8 := fun a b hab hb hn => by
  obtain ⟨dg, lt, _, h2, h3⟩ := par_8 h b hb
  exact Nat.le_trans (h3 a hab hn) h2
end M38
