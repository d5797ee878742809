/-! a word is the last one of its own basis polynomial, and once -/
section M42
theorem coA {u : List Nat} (hu : mW u) : coC u = true := by
  have go : ∀ {k : Nat} {r : List Nat}, allW coC k r = true → ∀ t : List Nat, t.length ≤ k → (∀ x ∈ t, x < 3) → coC (t ++ r) = true := fun hq t a b => allW_d _ _ hq t a b
  obtain ⟨hl, h3⟩ := hu
  by_cases h6 : u.length ≤ 6
  · have := go coC_6 u h6 h3; rwa [List.append_nil] at this
  · rcases mlist_snoc u with rfl | ⟨t, x, rfl⟩
    · exact absurd (Nat.zero_le _) h6
    · have hx3 := h3 x (by simp)
      have ht3 : ∀ y ∈ t, y < 3 := fun y hy => h3 y (List.mem_append_left _ hy)
      have hxc : x = 0 ∨ x = 1 ∨ x = 2 := by omega
      rcases mlist_snoc t with rfl | ⟨t', z, rfl⟩
      · simp at h6
      · have hz3 := ht3 z (by simp)
        have hzc : z = 0 ∨ z = 1 ∨ z = 2 := by omega
        have ht4 : ∀ y ∈ t', y < 3 := fun y hy => ht3 y (List.mem_append_left _ hy)
        have htl : t'.length ≤ 6 := by simp at hl; omega
        rw [List.append_assoc]
        rcases hzc with rfl | rfl | rfl
        · rcases hxc with rfl | rfl | rfl
          · exact go coC_00 t' htl ht4
          · exact go coC_01 t' htl ht4
          · exact go coC_02 t' htl ht4
        · rcases hxc with rfl | rfl | rfl
          · exact go coC_10 t' htl ht4
          · exact go coC_11 t' htl ht4
          · exact go coC_12 t' htl ht4
        · rcases hxc with rfl | rfl | rfl
          · exact go coC_20 t' htl ht4
          · exact go coC_21 t' htl ht4
          · exact go coC_22 t' htl ht4
theorem beq_d (a b : Nat) : Nat.beq a b = decide (a = b) := by
  rw [Bool.eq_iff_iff, decide_eq_true_eq]
  exact ⟨Nat.eq_of_beq_eq_true, fun h => by rw [h, Nat.beq_refl]⟩
theorem fdk_d (a : Nat) : ∀ (E : List eT) (pv : Bool), fdk a pv E = dke a pv E
  | [], pv => by cases pv <;> rfl
  | (rp, b, []) :: E, pv => by
    rw [dke_c, if_neg (by simp), List.nil_append, ← fdk_d a E b, fdk]
  | (rp, b, h :: t) :: E, pv => by
    rw [dke_c, ← fdk_d a E b, fdk, beq_d]
    by_cases q : h = a
    · subst q
      rw [decide_eq_true rfl]
      cases rp <;> cases pv <;> simp
    · rw [decide_eq_false q, if_neg (fun z => q (by simpa using z.1))]; rfl
theorem fbig_n (a c : Nat) (hc : a < c) : ∀ (E : List eT) (pv : Bool), fbig a pv E = false → dke c pv E = []
  | [], pv, _ => by cases pv <;> rfl
  | (rp, b, []) :: E, pv, h => by
    rw [fbig] at h
    rw [dke_c, if_neg (by simp), fbig_n a c hc E b h]; rfl
  | (rp, b, x :: t) :: E, pv, h => by
    rw [fbig] at h
    have h2 : fbig a b E = false := by
      cases z : fbig a b E with
      | false => rfl
      | true => rw [z] at h; revert h; cases cond (Nat.blt a x) (cond rp pv true) false <;> exact id
    rw [h2] at h
    rw [dke_c, fbig_n a c hc E b h2, if_neg (fun z => ?_)]
    · rfl
    · have hx9 : x = c := by simpa using z.1
      subst hx9
      have : Nat.blt a x = true := Nat.blt_eq.mpr hc
      rw [this] at h
      rcases z.2 with y | y
      · rw [y] at h; cases h
      · rw [y] at h; cases rp <;> cases h
theorem fall_a : ∀ (E : List eT), fall E = true ↔ ∀ e ∈ E, e.2.2 = []
  | [] => ⟨fun _ e he => absurd he List.not_mem_nil, fun _ => rfl⟩
  | (rp, b, r) :: E => by
    rw [fall, cond_t, fall_a E, List.isEmpty_iff]
    exact ⟨fun h e he => (List.mem_cons.mp he).elim (fun z => by rw [z]; exact h.1) (h.2 e), fun h => ⟨h _ List.mem_cons_self, fun e he => h e (List.mem_cons_of_mem _ he)⟩⟩
theorem lsm_mem {α : Type} {L : List α} {F : α → Nat} {x : α} (h : x ∈ L) : F x ≤ lsm L F := by
  induction L with
  | nil => cases h
  | cons y L ih =>
    rw [lsm_cons]
    rcases List.mem_cons.mp h with e | e
    · rw [e]; omega
    · have := ih e; omega
theorem lsm_ex {α : Type} {L : List α} {F : α → Nat} (h : lsm L F ≠ 0) : ∃ x ∈ L, F x ≠ 0 := Classical.byContradiction (fun z => h (lsm_z (fun Q hQ => Decidable.byContradiction (fun w => z ⟨Q, hQ, w⟩))))
theorem fcE_k : ∀ (y : List Nat) (E : List eT), fcE y E ≤ 1 → kE y E = fcE y E ∧ ∀ y' : List Nat, y'.length = y.length → kE y' E ≠ 0 → dlt y y' = false
  | [], E, _ => by
    refine ⟨?_, fun y' hy _ => ?_⟩
    · rw [kE_nil, fcE]
      by_cases q : fall E = true
      · rw [if_pos ((fall_a E).mp q), q]; rfl
      · rw [if_neg (fun z => q ((fall_a E).mpr z)), Bool.eq_false_iff.mpr q]; rfl
    · rw [List.eq_nil_of_length_eq_zero hy]; rfl
  | a :: y, E, h => by
    rw [fcE] at h ⊢
    cases hb : fbig a false E with
    | true =>
      rw [hb] at h
      have h : (2 : Nat) ≤ 1 := h
      omega
    | false =>
      rw [hb] at h
      have h : lsm (fdk a false E) (fcE y) ≤ 1 := h
      show kE (a :: y) E = lsm (fdk a false E) (fcE y) ∧ _
      rw [fdk_d] at h ⊢
      have hm : ∀ Q ∈ dke a false E, fcE y Q ≤ 1 := fun Q hQ => Nat.le_trans (lsm_mem (F := fcE y) hQ) h
      refine ⟨?_, fun y' hy hk => ?_⟩
      · rw [kE_cons]
        exact lsm_cg (fun Q hQ => (fcE_k y Q (hm Q hQ)).1)
      · cases y' with
        | nil => cases hy
        | cons b t =>
          rw [kE_cons] at hk
          rw [dlt_cons]
          by_cases q : a = b
          · subst q
            rw [if_pos rfl]
            obtain ⟨Q, hQ, hq⟩ := lsm_ex hk
            exact (fcE_k y Q (hm Q hQ)).2 t (by simpa using hy) hq
          · rw [if_neg q, decide_eq_false_iff_not]
            intro z
            rw [fbig_n a b z E false hb] at hk
            exact hk rfl
theorem lsame_d (a b : List Nat) : lsame a b = decide (a = b) := by
  rw [Bool.eq_iff_iff, decide_eq_true_eq]
  refine ⟨lsame_eq, fun h => ?_⟩
  subst h
  induction a with
  | nil => rfl
  | cons x t ih => rw [lsame, Nat.beq_refl]; exact ih
theorem fefl_e : ∀ (fs : List (List Nat)) (pv : List Nat) (o : Option (List Nat)), (∀ l ∈ fs, l ≠ []) → (o = some pv ∨ o = none ∧ pv = []) → fefl pv fs = efl o fs
  | [], _, _, _, _ => rfl
  | l :: ls, pv, o, h, ho => by
    have h1 := h l List.mem_cons_self
    rw [fefl, fefl_e ls l (some l) (fun z hz => h z (List.mem_cons_of_mem _ hz)) (Or.inl rfl), lsame_d]
    show _ = (decide (o = some l), false, l) :: _
    congr 2
    rcases ho with rfl | ⟨rfl, rfl⟩
    · exact decide_eq_decide.mpr ⟨fun e => by rw [e], fun e => by injection e⟩
    · exact decide_eq_decide.mpr ⟨fun e => absurd e.symm h1, fun e => by cases e⟩
theorem mrn_drop {u : List Nat} : ∀ {n s : Nat}, s ≤ u.length → u.length - s = n → mrn (mat u) s n = u.drop s
  | 0, s, hs, hn => by rw [mrn_0, List.drop_eq_nil_of_le (by omega)]
  | n + 1, s, hs, hn => by rw [mrn_c, mdrop (by omega), mrn_drop (by omega) (by omega)]
theorem ffac_m {u : List Nat} : ∀ (n s : Nat), s ≤ u.length → u.length - s ≤ n → ffac n (u.drop s) = (List.range (mfac u n s).length).map (fun i => (u.drop ((mfac u n s).getD i u.length)).take ((mfac u n s).getD (i + 1) u.length - (mfac u n s).getD i u.length))
  | 0, s, hs, hn => rfl
  | n + 1, s, hs, hn => by
    by_cases q : s < u.length
    · have hm := mpre_bd (u := mat u) q
      have e : mfac u (n + 1) s = s :: mfac u n (s + mpre (mat u) s u.length) := by rw [mfac, if_pos q]
      have e1 : lpg (mat u s :: u.drop (s + 1)) (u.drop (s + 1)).length 1 1 = mpre (mat u) s u.length := by
        rw [← mdrop q, List.length_drop, mpre, mpg_lpg (b := u.length) _ _ _ (by omega) (by omega), mrn_drop hs rfl, show s + 1 - s = 1 by omega]
      rw [e, mdrop q, ffac, e1, ← mdrop q, List.drop_drop, ffac_m n _ (by omega) (by omega), List.length_cons, List.range_succ_eq_map, List.map_cons, List.map_map]
      congr 1
      show (u.drop s).take _ = (u.drop s).take ((mfac u n (s + mpre (mat u) s u.length)).getD 0 u.length - s)
      congr 1
      by_cases q2 : s + mpre (mat u) s u.length < u.length
      · obtain ⟨m, rfl⟩ : ∃ m, n = m + 1 := ⟨n - 1, by omega⟩
        rw [mfac, if_pos q2]
        show _ = s + mpre (mat u) s u.length - s
        omega
      · rw [mfac_e q2]
        show _ = u.length - s
        omega
    · have e : mfac u (n + 1) s = [] := by rw [mfac, if_neg q]
      rw [e, List.drop_eq_nil_of_le (by omega)]; rfl
theorem ffac_w {u : List Nat} (hu : mW u) : ffac 8 u = mfw u := by
  have := ffac_m (u := u) 8 0 (Nat.zero_le _) (by have := hu.1; omega)
  rw [List.drop_zero] at this
  rw [this]; rfl
/-- how often a word is in another's basis polynomial -/
def kB (u : List Nat) (c : Nat) : Nat := cwL (mshL u 9 [] (fun _ => 0)) c
theorem kB_0 {u : List Nat} (hu : mW u) {c : Nat} (hc : 9841 ≤ c) : kB u c = 0 := lsm_z (fun x hx9 => if_neg (fun e => by have := (shL_W hu x hx9).lt; omega))
theorem kB_E {u y : List Nat} (hu : mW u) (hy : mW y) : kB u (menc y) = kE y (eC u (fun _ => 0)) := by
  unfold kB
  rw [cwL_o (shL_W hu) hy]
  have h := mshL_kE u y 9 [] (fun _ => 0) (by have := mrem_0 u hu; omega) ⟨grp (mfw u), grp_ok mfw_ne, eC_grp u⟩
  rwa [List.nil_append] at h
theorem kB_f {u : List Nat} (hu : mW u) : fcE u (eC u (fun _ => 0)) = 1 := by
  have h := Nat.eq_of_beq_eq_true (coA hu)
  rw [ffac_w hu, fefl_e _ [] none mfw_ne (Or.inr ⟨rfl, rfl⟩), ← eA_grp, ← eC_grp] at h
  exact h
theorem kB_1 {u : List Nat} (hu : mW u) : kB u (menc u) = 1 := by
  have h := kB_f hu
  rw [kB_E hu hu, (fcE_k u _ (by omega)).1, h]
theorem dlt_menc : ∀ (n : Nat) {a b : List Nat}, a.length = n → b.length = n → (∀ x ∈ a, x < 3) → (∀ x ∈ b, x < 3) → dlt a b = false → menc b ≤ menc a
  | 0, a, b, h1, h2, _, _, _ => by rw [List.eq_nil_of_length_eq_zero h1, List.eq_nil_of_length_eq_zero h2]; exact Nat.le_refl _
  | n + 1, [], _, h1, _, _, _, _ => by cases h1
  | n + 1, _ :: _, [], _, h2, _, _, _ => by cases h2
  | n + 1, x :: s, y :: t, h1, h2, h3, h4, h => by
    have l1 : s.length = n := by simpa using h1
    have l2 : t.length = n := by simpa using h2
    have g3 : ∀ z ∈ s, z < 3 := fun z hz => h3 z (List.mem_cons_of_mem _ hz)
    have g4 : ∀ z ∈ t, z < 3 := fun z hz => h4 z (List.mem_cons_of_mem _ hz)
    have e1 := menc_app [x] s
    have e2 := menc_app [y] t
    have e3 : menc [x] = 1 + x := by show 3 * 0 + 1 + x = _; omega
    have e4 : menc [y] = 1 + y := by show 3 * 0 + 1 + y = _; omega
    rw [e3, l1] at e1
    rw [e4, l2] at e2
    show menc ([y] ++ t) ≤ menc ([x] ++ s)
    rw [e1, e2]
    rw [dlt_cons] at h
    by_cases q : x = y
    · rw [if_pos q] at h
      have := dlt_menc n l1 l2 g3 g4 h
      rw [q]; omega
    · rw [if_neg q, decide_eq_false_iff_not] at h
      have b1 := menc_ge n s l1 g3
      have b2 := menc_lt n t l2 g4
      have b3 : mtop n ≤ mbot n + 3 ^ n := by
        cases n with
        | zero => decide
        | succ m =>
          have := mtop_pow m
          show 3 * mtop m + 1 ≤ mtop m + 3 ^ (m + 1)
          omega
      have b4 : (1 + y + 1) * 3 ^ n ≤ (1 + x) * 3 ^ n := Nat.mul_le_mul_right _ (by omega)
      rw [Nat.succ_mul] at b4
      omega
theorem kB_le {u : List Nat} (hu : mW u) {c : Nat} (h : kB u c ≠ 0) : c ≤ menc u := by
  have hc : c < 9841 := Nat.lt_of_not_le (fun z => h (kB_0 hu z))
  obtain ⟨y, hy, rfl⟩ := mword hc
  have hf := kB_f hu
  rw [kB_E hu hy] at h
  have m1 := mfw_mM u y
  have m2 := mfw_mM u u
  have h1 := kB_1 hu
  rw [kB_E hu hu] at h1
  have p := rwt_pos (grp (mfw u))
  have n1 : mM y (mfw u) ≠ 0 := by
    rw [m1]; exact Nat.mul_ne_zero (by omega) h
  have n2 : mM u (mfw u) ≠ 0 := by
    rw [m2, h1]; omega
  have l1 := mM_tl _ _ n1
  have l2 := mM_tl _ _ n2
  exact dlt_menc u.length rfl (by omega) hu.2 hy.2 ((fcE_k u _ (by omega)).2 y (by omega) h)
/-- one step of the reference: a basis polynomial taken away -/
def rstep (k : Nat) (f : Nat → Int64) : Nat → Int64 := if f k = 0 then f else fun c => if c = k then f c else f c - f k * lN (kB (mdec k) c)
def rco : Nat → (Nat → Int64) → (Nat → Int64)
  | 0, f => f
  | k + 1, f => rco k (rstep (k + 1) f)
theorem rstep_hi {k : Nat} (hk : k < 9841) (f : Nat → Int64) {c : Nat} (hc : k ≤ c) : rstep k f c = f c := by
  unfold rstep
  by_cases q : f k = 0
  · rw [if_pos q]
  · rw [if_neg q]
    show (if c = k then f c else f c - f k * lN (kB (mdec k) c)) = f c
    by_cases e : c = k
    · rw [if_pos e]
    · rw [if_neg e]
      have h := mdec_W hk
      have : kB (mdec k) c = 0 := Decidable.byContradiction (fun z => by
        have := kB_le h.1 z
        rw [h.2] at this
        omega)
      rw [this]
      show f c - f k * 0 = f c
      rw [Int64.mul_zero, Int64.sub_zero]
theorem rco_hi : ∀ (k : Nat) (f : Nat → Int64) {c : Nat}, k < 9841 → k < c → rco k f c = f c
  | 0, _, _, _, _ => rfl
  | k + 1, f, c, hk, hc => by
    rw [rco, rco_hi k _ (by omega) (by omega), rstep_hi hk f (by omega)]
theorem rstep_0 (f : Nat → Int64) : rstep 0 f = f := funext (fun c => rstep_hi (by decide) f (Nat.zero_le c))
theorem rstep_m {k : Nat} (hk : k < 9841) (f : Nat → Int64) (h : f k ≠ 0) : padd (mshf (mdec k) (-(f k)) 9 [] (fun _ => 0) f) k (f k) = rstep k f := by
  have hW9 := mdec_W hk
  funext c
  unfold rstep
  rw [if_neg h, paddc, mshf_L, mpads_c]
  show f c + -(f k) * lN (kB (mdec k) c) + (if c = k then f k else 0) = if c = k then f c else f c - f k * lN (kB (mdec k) c)
  by_cases q : c = k
  · subst q
    have h1 := kB_1 hW9.1
    rw [hW9.2] at h1
    rw [if_pos rfl, if_pos rfl, h1]
    show f c + -(f c) * 1 + f c = f c
    rw [Int64.mul_one, Int64.add_right_neg, Int64.zero_add]
  · rw [if_neg q, if_neg q, Int64.add_zero, Int64.neg_mul, Int64.sub_eq_add_neg]
theorem mcoo_r : ∀ (k : Nat) (f : Nat → Int64), k < 9841 → match mcoo k f with | some f' => rco k f = f' | none => ∃ c, c < 9841 ∧ ¬ mfit (rco k f c)
  | 0, f, _ => rfl
  | k + 1, f, hk => by
    rw [mcoo_s]
    by_cases hft : mfit (f (k + 1))
    · rw [if_pos hft, rco]
      by_cases q : f (k + 1) = 0
      · have e : rstep (k + 1) f = f := by unfold rstep; rw [if_pos q]
        rw [if_pos q, e]
        exact mcoo_r k f (by omega)
      · rw [if_neg q, rstep_m hk f q]
        exact mcoo_r k _ (by omega)
    · rw [if_neg hft]
      refine ⟨k + 1, hk, ?_⟩
      rw [rco, rco_hi k _ (by omega) (by omega), rstep_hi hk f (Nat.le_refl _)]
      exact hft
theorem sp_coo (S : cS) (t : Nat) (f : Nat → Int64) : (match mcoo 9840 f with | none => ((Int32.ofInt (-7), S) : cA) | some f' => sSt S t f') = sSt S t (rco 9840 f) := by
  have h := mcoo_r 9840 f (by omega)
  cases hm : mcoo 9840 f with
  | some f' =>
    rw [hm] at h
    have h : rco 9840 f = f' := h
    rw [h]
  | none =>
    rw [hm] at h
    obtain ⟨c, hc, hn⟩ := h
    have hb : mbad (rco 9840 f) := ⟨c, hc, hn⟩
    show (Int32.ofInt (-7), S) = _
    unfold sSt mcount mnew
    rw [if_pos hb, if_pos (Or.inl hb)]
    congr 1
    obtain ⟨a, b, r, z⟩ := S
    show (a, b, r, z) = (a, b, (fun j => if j = t then r t else r j), z)
    congr 3
    funext j
    by_cases q : j = t
    · rw [if_pos q, q]
    · rw [if_neg q]
end M42
