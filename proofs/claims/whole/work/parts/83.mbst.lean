/-! the reference's list, counted -/
section M34
variable {g : hG}
theorem nputs_c (m : Nat) (c : Nat) : ∀ (L : List (List Nat)) (st : nST), (nputs m st L).2 c = st.2 c + m * cwL L c
  | [], st => by show st.2 c = st.2 c + m * 0; omega
  | x :: L, st => by
    show (nputs m (nput m st x) L).2 c = _
    rw [nputs_c m c L]
    unfold cwL
    rw [lsm_cons]
    show (if c = menc x then st.2 c + m else st.2 c) + _ = _
    by_cases q : menc x = c
    · rw [if_pos q.symm, if_pos q, Nat.mul_add]; omega
    · rw [if_neg (fun e => q e.symm), if_neg q, Nat.zero_add]
/-- the words of a mixture -/
theorem shw_mem : ∀ (n : Nat) (p x v : List Nat), ∀ w ∈ shw n p x v, ∃ t, w = p ++ t ∧ t.length = x.length + v.length ∧ ∀ a ∈ t, a ∈ x ∨ a ∈ v
  | 0, p, x, v, w, h => by rw [shw] at h; cases h
  | n + 1, p, [], [], w, h => by rw [shw_ne, List.mem_singleton] at h; exact ⟨[], by rw [h, List.append_nil], rfl, fun a ha => by cases ha⟩
  | n + 1, p, a :: x, [], w, h => by
    rw [shw_xn] at h
    obtain ⟨t, e1, e2, e3⟩ := shw_mem n _ _ _ w h
    exact ⟨a :: t, by rw [e1, List.append_assoc]; rfl, by simp at e2 ⊢; omega, fun b hb => (List.mem_cons.mp hb).elim (fun e => Or.inl (by rw [e]; exact List.mem_cons_self)) (fun z => (e3 b z).elim (fun y => Or.inl (List.mem_cons_of_mem _ y)) Or.inr)⟩
  | n + 1, p, [], b :: v, w, h => by
    rw [shw_nx] at h
    obtain ⟨t, e1, e2, e3⟩ := shw_mem n _ _ _ w h
    exact ⟨b :: t, by rw [e1, List.append_assoc]; rfl, by simp at e2 ⊢; omega, fun c hc => (List.mem_cons.mp hc).elim (fun e => Or.inr (by rw [e]; exact List.mem_cons_self)) (fun z => (e3 c z).elim Or.inl (fun y => Or.inr (List.mem_cons_of_mem _ y)))⟩
  | n + 1, p, a :: x, b :: v, w, h => by
    rw [shw_xx] at h
    rcases List.mem_append.mp h with h | h
    · obtain ⟨t, e1, e2, e3⟩ := shw_mem n _ _ _ w h
      exact ⟨a :: t, by rw [e1, List.append_assoc]; rfl, by simp at e2 ⊢; omega, fun c hc => (List.mem_cons.mp hc).elim (fun e => Or.inl (by rw [e]; exact List.mem_cons_self)) (fun z => (e3 c z).elim (fun y => Or.inl (List.mem_cons_of_mem _ y)) Or.inr)⟩
    · obtain ⟨t, e1, e2, e3⟩ := shw_mem n _ _ _ w h
      exact ⟨b :: t, by rw [e1, List.append_assoc]; rfl, by simp at e2 ⊢; omega, fun c hc => (List.mem_cons.mp hc).elim (fun e => Or.inr (by rw [e]; exact List.mem_cons_self)) (fun z => (e3 c z).elim Or.inl (fun y => Or.inr (List.mem_cons_of_mem _ y)))⟩
theorem cwo_app (A B : List (List Nat)) (y : List Nat) : cwo (A ++ B) y = cwo A y + cwo B y := lsm_app _ _ _
theorem cwo_pre {n : Nat} {p x v : List Nat} {a b : Nat} {y : List Nat} (h : a ≠ b) : cwo (shw n (p ++ [a]) x v) (p ++ b :: y) = 0 := cwo_no (fun hm => by
  obtain ⟨t, e, _⟩ := shw_mem n _ _ _ _ hm
  rw [List.append_assoc] at e
  have := List.append_cancel_left e
  exact h (List.cons.inj this).1.symm)
theorem cwo_emp {n : Nat} {p x v : List Nat} {a : Nat} : cwo (shw n (p ++ [a]) x v) p = 0 := cwo_no (fun hm => by
  obtain ⟨t, e, _⟩ := shw_mem n _ _ _ _ hm
  have := congrArg List.length e
  simp at this)
theorem shw_cnt : ∀ (n : Nat) (p x v y : List Nat), x.length + v.length < n → cwo (shw n p x v) (p ++ y) = mM y [x, v]
  | 0, p, x, v, y, h => by omega
  | n + 1, p, [], [], y, h => by
    rw [shw_ne]
    unfold cwo
    rw [lsm_cons, lsm_nil, Nat.add_zero]
    cases y with
    | nil => rw [if_pos (List.append_nil p).symm, mM_nil, if_pos (by simp)]
    | cons b y => rw [if_neg (fun e => by have := congrArg List.length e; simp at this), mM2_cons]; simp
  | n + 1, p, a :: x, [], y, h => by
    rw [shw_xn]
    cases y with
    | nil => rw [List.append_nil, cwo_emp, mM_nil, if_neg (fun z => by have := z (a :: x) (by simp); cases this)]
    | cons b y =>
      rw [mM2_cons]
      by_cases q : a = b
      · subst q
        have := shw_cnt n (p ++ [a]) x [] y (by simp at h ⊢; omega)
        rw [List.append_assoc] at this
        simp only [List.head?_cons, if_pos, List.head?_nil, List.tail_cons]
        simpa using this
      · rw [cwo_pre q]; simp [q]
  | n + 1, p, [], a :: v, y, h => by
    rw [shw_nx]
    cases y with
    | nil => rw [List.append_nil, cwo_emp, mM_nil, if_neg (fun z => by have := z (a :: v) (by simp); cases this)]
    | cons b y =>
      rw [mM2_cons]
      by_cases q : a = b
      · subst q
        have := shw_cnt n (p ++ [a]) [] v y (by simp at h ⊢; omega)
        rw [List.append_assoc] at this
        simpa using this
      · rw [cwo_pre q]; simp [q]
  | n + 1, p, a :: x, c :: v, y, h => by
    rw [shw_xx, cwo_app]
    cases y with
    | nil => rw [List.append_nil, cwo_emp, cwo_emp, mM_nil, if_neg (fun z => by have := z (a :: x) (by simp); cases this)]
    | cons b y =>
      rw [mM2_cons]
      congr 1
      · by_cases q : a = b
        · subst q
          have := shw_cnt n (p ++ [a]) x (c :: v) y (by simp at h ⊢; omega)
          rw [List.append_assoc] at this
          simpa using this
        · rw [cwo_pre q]; simp [q]
      · by_cases q : c = b
        · subst q
          have := shw_cnt n (p ++ [c]) (a :: x) v y (by simp at h ⊢; omega)
          rw [List.append_assoc] at this
          simpa using this
        · rw [cwo_pre q]; simp [q]
/-- one factor more: all words of the list mixed with it -/
def bst1 (st : nST) (v : List Nat) (k : Nat) : nST := (st.1.take k).foldl (fun sn c => nputs (st.2 c) sn (shw 9 [] (mdec c) v)) ([], fun _ => 0)
def bst (st : nST) (v : List Nat) : nST := bst1 st v st.1.length
theorem bst1_s (st : nST) (v : List Nat) {k : Nat} (hk : k < st.1.length) : bst1 st v (k + 1) = nputs (st.2 (st.1.getD k 0)) (bst1 st v k) (shw 9 [] (mdec (st.1.getD k 0)) v) := by
  unfold bst1
  have e : st.1.take (k + 1) = st.1.take k ++ [st.1.getD k 0] := by
    rw [List.take_succ, List.getElem?_eq_getElem hk, List.getD_eq_getElem?_getD, List.getElem?_eq_getElem hk]; rfl
  rw [e, List.foldl_append]; rfl
theorem bst1_mono (st : nST) (v : List Nat) (c : Nat) : ∀ (r k : Nat), k + r ≤ st.1.length → (bst1 st v k).2 c ≤ (bst1 st v (k + r)).2 c
  | 0, k, _ => Nat.le_refl _
  | r + 1, k, h => by
    rw [← Nat.add_assoc, bst1_s st v (by omega)]
    exact Nat.le_trans (bst1_mono st v c r k (by omega)) (nputs_mono _ _ _ _)
theorem bst_c (st : nST) (v : List Nat) (c : Nat) : (bst st v).2 c = lsm st.1 (fun c' => st.2 c' * cwL (shw 9 [] (mdec c') v) c) := by
  have key : ∀ (L : List Nat) (sn : nST), (L.foldl (fun sn c => nputs (st.2 c) sn (shw 9 [] (mdec c) v)) sn).2 c = sn.2 c + lsm L (fun c' => st.2 c' * cwL (shw 9 [] (mdec c') v) c) := by
    intro L
    induction L with
    | nil => intro sn; rfl
    | cons a L ih => intro sn; rw [List.foldl_cons, ih, nputs_c, lsm_cons, Nat.add_assoc]
  unfold bst bst1
  rw [List.take_length, key, Nat.zero_add]
/-- what the list holds when some factors were mixed -/
def bIv (s : Nat) (fs : List (List Nat)) (st : nST) : Prop := nOK st ∧ (∀ c ∈ st.1, (mdec c).length = s) ∧ (∀ y, mW y → st.2 (menc y) = mM y fs) ∧ mtl fs = s ∧ s ≤ 8 ∧ ∀ r ∈ fs, ∀ a ∈ r, a < 3
theorem mM_mem : ∀ (y : List Nat) (R : List (List Nat)), mM y R ≠ 0 → ∀ a ∈ y, ∃ r ∈ R, a ∈ r
  | [], R, _, a, h => by cases h
  | b :: y, R, h, a, ha => by
    rw [mM_cons] at h
    have : ∃ Q ∈ dvl b R, mM y Q ≠ 0 := Classical.byContradiction (fun z => h (lsm_z (fun Q hQ => Decidable.byContradiction (fun w => z ⟨Q, hQ, w⟩))))
    obtain ⟨Q, h1, h2⟩ := this
    have key : ∀ R Q, Q ∈ dvl b R → (∃ r ∈ R, b ∈ r) ∧ ∀ q ∈ Q, ∀ x ∈ q, ∃ r ∈ R, x ∈ r := by
      intro R
      induction R with
      | nil => intro Q h; cases h
      | cons r R ih =>
        intro Q hQ
        rw [dvl_cons] at hQ
        rcases List.mem_append.mp hQ with h | h
        · by_cases q : r.head? = some b
          · rw [if_pos q, List.mem_singleton] at h
            subst h
            cases r with
            | nil => cases q
            | cons d r =>
              have : d = b := by simpa using q
              subst this
              refine ⟨⟨d :: r, List.mem_cons_self, List.mem_cons_self⟩, fun z hz x hx9 => ?_⟩
              rcases List.mem_cons.mp hz with e | e
              · exact ⟨d :: r, List.mem_cons_self, List.mem_cons_of_mem _ (by rw [← show z = r from e]; exact hx9)⟩
              · exact ⟨z, List.mem_cons_of_mem _ e, hx9⟩
          · rw [if_neg q] at h; cases h
        · obtain ⟨Q', h3, h4⟩ := List.mem_map.mp h
          obtain ⟨⟨r1, i1, i2⟩, i3⟩ := ih Q' h3
          refine ⟨⟨r1, List.mem_cons_of_mem _ i1, i2⟩, fun z hz x hx9 => ?_⟩
          rw [← h4] at hz
          rcases List.mem_cons.mp hz with e | e
          · exact ⟨r, List.mem_cons_self, by rw [← show z = r from e]; exact hx9⟩
          · obtain ⟨r2, j1, j2⟩ := i3 z e x hx9
            exact ⟨r2, List.mem_cons_of_mem _ j1, j2⟩
    obtain ⟨k1, k2⟩ := key R Q h1
    rcases List.mem_cons.mp ha with e | e
    · rw [e]; exact k1
    · obtain ⟨q, h3, h4⟩ := mM_mem y Q h2 a e
      exact k2 q h3 a h4
theorem shw_W {x v : List Nat} (hx9 : mW x) (hv9 : ∀ a ∈ v, a < 3) (h : x.length + v.length ≤ 8) {n : Nat} : ∀ w ∈ shw n [] x v, mW w := fun w hw9 => by
  obtain ⟨t, e1, e2, e3⟩ := shw_mem n _ _ _ w hw9
  rw [List.nil_append] at e1
  rw [e1]
  exact ⟨by omega, fun a ha => (e3 a ha).elim (hx9.2 a) (hv9 a)⟩
theorem nputs_ok {m : Nat} (hm : 0 < m) : ∀ (L : List (List Nat)) (st : nST), nOK st → (∀ w ∈ L, mW w) → nOK (nputs m st L)
  | [], _, h, _ => h
  | x :: L, st, h, hL => nputs_ok hm L _ (nput_ok hm h (hL x List.mem_cons_self)) (fun w hw9 => hL w (List.mem_cons_of_mem _ hw9))
theorem nputs_all {m : Nat} {Pd : Nat → Prop} : ∀ (L : List (List Nat)) (st : nST), (∀ c ∈ st.1, Pd c) → (∀ w ∈ L, Pd (menc w)) → ∀ c ∈ (nputs m st L).1, Pd c
  | [], _, h, _ => h
  | x :: L, st, h, hL => nputs_all L _ (fun c hc => by
    have hc : c ∈ (if st.2 (menc x) = 0 then st.1 ++ [menc x] else st.1) := hc
    split at hc
    · rcases List.mem_append.mp hc with e | e
      · exact h c e
      · rw [List.mem_singleton.mp e]; exact hL x List.mem_cons_self
    · exact h c hc) (fun w hw9 => hL w (List.mem_cons_of_mem _ hw9))
theorem bst1_ok {s : Nat} {fs : List (List Nat)} {st : nST} (h : bIv s fs st) {v : List Nat} (hv9 : ∀ a ∈ v, a < 3) (hs : s + v.length ≤ 8) : ∀ k, k ≤ st.1.length → nOK (bst1 st v k) ∧ ∀ c ∈ (bst1 st v k).1, (mdec c).length = s + v.length
  | 0, _ => ⟨⟨List.nodup_nil, (fun c hc => by cases hc), fun c _ => ⟨fun z => absurd rfl z, fun z => by cases z⟩⟩, fun c hc => by cases hc⟩
  | k + 1, hk => by
    obtain ⟨h1, h2⟩ := bst1_ok h hv9 hs k (by omega)
    rw [bst1_s st v (by omega)]
    have hm : st.1.getD k 0 ∈ st.1 := by
      rw [List.getD_eq_getElem?_getD, List.getElem?_eq_getElem (by omega)]; exact List.getElem_mem _
    have hlt := h.1.2.1 _ hm
    have hl9 := h.2.1 _ hm
    have hpos : 0 < st.2 (st.1.getD k 0) := Nat.pos_of_ne_zero ((h.1.2.2 _ hlt).mpr hm)
    have hW9 := shw_W (n := 9) (mdec_W hlt).1 hv9 (by omega)
    refine ⟨nputs_ok hpos _ _ h1 hW9, nputs_all _ _ h2 (fun w hw9 => ?_)⟩
    rw [mdec_enc (hW9 w hw9)]
    obtain ⟨t, e1, e2, _⟩ := shw_mem 9 _ _ _ w hw9
    rw [e1, List.nil_append, e2, hl9]
theorem mtl_snoc (fs : List (List Nat)) (v : List Nat) : mtl (fs ++ [v]) = mtl fs + v.length := by unfold mtl; rw [lsm_app, lsm_cons, lsm_nil, Nat.add_zero]
/-- one factor more -/
theorem bst_iv {s : Nat} {fs : List (List Nat)} {st : nST} (h : bIv s fs st) {v : List Nat} (hv9 : ∀ a ∈ v, a < 3) (hs : s + v.length ≤ 8) : bIv (s + v.length) (fs ++ [v]) (bst st v) := by
  obtain ⟨h1, h2⟩ := bst1_ok h hv9 hs st.1.length (Nat.le_refl _)
  obtain ⟨i1, i2, i3, i4, i5, i6⟩ := h
  refine ⟨h1, h2, fun y hy => ?_, by rw [mtl_snoc, i4], hs, fun r hr a ha => ?_⟩
  · rw [bst_c]
    have e1 : lsm st.1 (fun c' => st.2 c' * cwL (shw 9 [] (mdec c') v) (menc y)) = lsm (st.1.map mdec) (fun x => mMM x [fs] * mM y [x, v]) := by
      rw [lsm_map]
      refine lsm_cg (fun c' hc' => ?_)
      have hlt := i1.2.1 c' hc'
      have hWc := mdec_W hlt
      have hl9 := i2 c' hc'
      rw [cwL_o (shw_W hWc.1 hv9 (by omega)) hy]
      have e2 := shw_cnt 9 [] (mdec c') v y (by omega)
      rw [List.nil_append] at e2
      rw [e2]
      congr 1
      have := i3 (mdec c') hWc.1
      rw [hWc.2] at this
      rw [this]
      unfold mMM
      rw [lsm_cons, lsm_nil, Nat.add_zero]
    have hnd : (st.1.map mdec).Nodup := by
      have key : ∀ L : List Nat, L.Nodup → (∀ c ∈ L, c < 9841) → (L.map mdec).Nodup := by
        intro L
        induction L with
        | nil => intro _ _; exact List.nodup_nil
        | cons c L ih =>
          intro hn hq
          obtain ⟨n1, n2⟩ := List.nodup_cons.mp hn
          rw [List.map_cons]
          refine List.nodup_cons.mpr ⟨fun hm => ?_, ih n2 (fun d hd => hq d (List.mem_cons_of_mem _ hd))⟩
          obtain ⟨d, h5, h6⟩ := List.mem_map.mp hm
          have h7 := (mdec_W (hq d (List.mem_cons_of_mem _ h5))).2
          have h8 := (mdec_W (hq c List.mem_cons_self)).2
          rw [h6, h8] at h7
          exact n1 (by rw [h7]; exact h5)
      exact key _ i1.1 i1.2.1
    rw [e1, mM_assoc y v [fs] (st.1.map mdec) hnd (fun x hx9 => ?_)]
    · unfold mMM
      rw [List.map_cons, List.map_nil, lsm_cons, lsm_nil, Nat.add_zero]
    · have hx8 : mM x fs ≠ 0 := by
        unfold mMM at hx9
        rwa [lsm_cons, lsm_nil, Nat.add_zero] at hx9
      have hxl := mM_tl x fs hx8
      have hxW : mW x := ⟨by omega, fun a ha => by
        obtain ⟨r, h5, h6⟩ := mM_mem x fs hx8 a ha
        exact i6 r h5 a h6⟩
      have h7 := (i1.2.2 (menc x) hxW.lt).mp (by rw [i3 x hxW]; exact hx8)
      exact List.mem_map.mpr ⟨menc x, h7, mdec_enc hxW⟩
  · rcases List.mem_append.mp hr with e | e
    · exact i6 r e a ha
    · rw [List.mem_singleton.mp e] at ha; exact hv9 a ha
theorem bIv_le {s : Nat} {fs : List (List Nat)} {st : nST} (h : bIv s fs st) (hf : fs.length ≤ 8) : ∀ c, c < 9841 → st.2 c < 2 ^ 31 := fun c hc => by
  obtain ⟨u, hu, e⟩ := mword hc
  rw [← e, h.2.2.1 u hu]
  have h1 := mM_le 8 u fs hf
  have h2 : 8 ^ u.length ≤ 8 ^ 8 := Nat.pow_le_pow_right (by omega) hu.1
  have h3 : 8 ^ 8 < 2 ^ 31 := by decide
  omega
end M34
