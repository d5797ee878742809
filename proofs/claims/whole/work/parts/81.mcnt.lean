/-! the class's shuffles, counted -/
section M32
variable {g : hG}
/-- the shuffles of what is left of the factors, as a list -/
def mshL (u : List Nat) : Nat → List Nat → (Nat → Nat) → List (List Nat)
  | 0, _, _ => []
  | n + 1, p, us => if (List.range (mfn u)).any (mcan u us) then (List.range (mfn u)).flatMap (fun i => if mcan u us i then mshL u n (p ++ [mat u (mfb u i + us i)]) (mtk us i) else []) else [p]
def mpads (z : Int64) (L : List (List Nat)) (f : Nat → Int64) : Nat → Int64 := L.foldl (fun f x => padd f (menc x) z) f
theorem mpads_app (z : Int64) (A B : List (List Nat)) (f : Nat → Int64) : mpads z (A ++ B) f = mpads z B (mpads z A f) := List.foldl_append
theorem mpads_fm {α : Type} (z : Int64) (g : α → List (List Nat)) : ∀ (L : List α) (f : Nat → Int64), mpads z (L.flatMap g) f = L.foldl (fun f x => mpads z (g x) f) f
  | [], f => rfl
  | x :: L, f => by rw [List.flatMap_cons, mpads_app, mpads_fm z g L]; rfl
theorem mshf_L (u : List Nat) (z : Int64) : ∀ (n : Nat) (p : List Nat) (us : Nat → Nat) (f : Nat → Int64), mshf u z n p us f = mpads z (mshL u n p us) f
  | 0, _, _, _ => rfl
  | n + 1, p, us, f => by
    have e1 : (fun (f : Nat → Int64) (i : Nat) => if mcan u us i then mshf u z n (p ++ [mat u (mfb u i + us i)]) (mtk us i) f else f) = (fun f i => mpads z (if mcan u us i then mshL u n (p ++ [mat u (mfb u i + us i)]) (mtk us i) else []) f) := by
      funext f i
      by_cases q : mcan u us i = true
      · rw [if_pos q, if_pos q, mshf_L u z n]
      · rw [if_neg q, if_neg q]; rfl
    rw [mshf, mshL]
    simp only [e1]
    by_cases q : (List.range (mfn u)).any (mcan u us) = true
    · rw [if_pos q, if_pos q, mpads_fm]
    · rw [if_neg q, if_neg q]
      have h0 : ∀ (L : List Nat) (f : Nat → Int64), (∀ i ∈ L, mcan u us i = false) → L.foldl (fun f i => mpads z (if mcan u us i then mshL u n (p ++ [mat u (mfb u i + us i)]) (mtk us i) else []) f) f = f := by
        intro L
        induction L with
        | nil => intro f _; rfl
        | cons i L ih =>
          intro f hi
          rw [List.foldl_cons, hi i List.mem_cons_self]
          exact ih _ (fun j hj => hi j (List.mem_cons_of_mem _ hj))
      rw [h0 _ f (fun i hi => by
        cases hc : mcan u us i with
        | false => rfl
        | true => exact absurd (List.any_eq_true.mpr ⟨i, hi, hc⟩) q)]
      rfl
/-- how often a number is a word's in a list -/
def cwL (L : List (List Nat)) (c : Nat) : Nat := lsm L (fun x => if menc x = c then 1 else 0)
theorem mpads_c (z : Int64) (c : Nat) : ∀ (L : List (List Nat)) (f : Nat → Int64), mpads z L f c = f c + z * lN (cwL L c)
  | [], f => by show f c = f c + z * 0; rw [Int64.mul_zero, Int64.add_zero]
  | x :: L, f => by
    show mpads z L (padd f (menc x) z) c = _
    rw [mpads_c z c L, paddc]
    unfold cwL
    rw [lsm_cons]
    by_cases q : menc x = c
    · rw [if_pos q.symm, if_pos q, ← lN_add, Int64.mul_add, Int64.add_assoc]
      congr 2
      show z = z * 1
      rw [Int64.mul_one]
    · rw [if_neg (fun e => q e.symm), if_neg q, Nat.zero_add, Int64.add_zero]
/-- the number of occurrences -/
def cwo (L : List (List Nat)) (y : List Nat) : Nat := lsm L (fun x => if x = y then 1 else 0)
theorem cwL_o {L : List (List Nat)} (hL : ∀ x ∈ L, mW x) {y : List Nat} (hy : mW y) : cwL L (menc y) = cwo L y := by
  refine lsm_cg (fun x hx9 => ?_)
  by_cases q : x = y
  · rw [if_pos q, if_pos (by rw [q])]
  · rw [if_neg q, if_neg (fun e => q (by have := congrArg mdec e; rwa [mdec_enc (hL x hx9), mdec_enc hy] at this))]
/-- what is left of a factor -/
def mrs (u : List Nat) (us : Nat → Nat) (i : Nat) : List Nat := (u.drop (mfb u i + us i)).take (mfb u (i + 1) - mfb u i - us i)
def eC (u : List Nat) (us : Nat → Nat) : List eT := (List.range (mfn u)).map (fun i => (mrep u i, decide (0 < us i), mrs u us i))
theorem eC_len (u : List Nat) (us : Nat → Nat) : (eC u us).length = mfn u := by unfold eC; rw [List.length_map, List.length_range]
theorem eC_at {u : List Nat} {us : Nat → Nat} {i : Nat} (h : i < mfn u) : (eC u us)[i]? = some (mrep u i, decide (0 < us i), mrs u us i) := by
  unfold eC
  rw [List.getElem?_map, List.getElem?_range h]; rfl
theorem mrs_hd {u : List Nat} {us : Nat → Nat} {i : Nat} (hi : i < mfn u) : (mrs u us i).head? = if us i < mfb u (i + 1) - mfb u i then some (mat u (mfb u i + us i)) else none := by
  have hb := mfb_bd hi
  unfold mrs
  by_cases q : us i < mfb u (i + 1) - mfb u i
  · rw [if_pos q, mdrop (by omega), show mfb u (i + 1) - mfb u i - us i = (mfb u (i + 1) - mfb u i - us i - 1) + 1 by omega, List.take_succ_cons]; rfl
  · rw [if_neg q, show mfb u (i + 1) - mfb u i - us i = 0 by omega, List.take_zero]; rfl
theorem mrs_tl {u : List Nat} {us : Nat → Nat} {i : Nat} (hi : i < mfn u) (q : us i < mfb u (i + 1) - mfb u i) : (mrs u us i).tail = mrs u (mtk us i) i := by
  have hb := mfb_bd hi
  unfold mrs mtk
  rw [if_pos rfl, mdrop (by omega), show mfb u (i + 1) - mfb u i - us i = (mfb u (i + 1) - mfb u i - (us i + 1)) + 1 by omega, List.take_succ_cons, List.tail_cons, Nat.add_assoc]
theorem eC_st {u : List Nat} {us : Nat → Nat} {i : Nat} (hi : i < mfn u) (q : us i < mfb u (i + 1) - mfb u i) : stE (eC u us) i = eC u (mtk us i) := by
  unfold stE
  rw [eC_at hi]
  show (eC u us).set i (mrep u i, true, (mrs u us i).tail) = _
  refine List.ext_getElem? (fun j => ?_)
  rw [List.getElem?_set]
  by_cases hj : j < mfn u
  · by_cases e : i = j
    · subst e
      rw [if_pos rfl, if_pos (by rw [eC_len]; exact hj), eC_at hj, mrs_tl hi q]
      have : decide (0 < mtk us i i) = true := decide_eq_true (by unfold mtk; rw [if_pos rfl]; omega)
      rw [this]
    · rw [if_neg e, eC_at hj, eC_at hj]
      have e1 : mtk us i j = us j := by unfold mtk; rw [if_neg (fun z => e z.symm)]
      unfold mrs
      rw [e1]
  · have h1 : (eC u (mtk us i))[j]? = none := List.getElem?_eq_none (by rw [eC_len]; omega)
    rw [h1, if_neg (by omega)]
    exact List.getElem?_eq_none (by rw [eC_len]; omega)
theorem eC_cn {u : List Nat} {us : Nat → Nat} {i a : Nat} (hi : i < mfn u) : (hdE (eC u us) i = some a ∧ cnE false (eC u us) i = true) ↔ (mcan u us i = true ∧ mat u (mfb u i + us i) = a) := by
  have e1 : hdE (eC u us) i = (mrs u us i).head? := by unfold hdE; rw [eC_at hi]
  have e2 : cnE false (eC u us) i = (!mrep u i || decide (0 < us (i - 1))) := by
    unfold cnE
    rw [eC_at hi]
    cases i with
    | zero =>
      have : mrep u 0 = false := by unfold mrep; simp
      show (!mrep u 0 || false) = _
      rw [this]; rfl
    | succ j =>
      show (!mrep u (j + 1) || (match (eC u us)[j]? with | some (_, b, _) => b | none => false)) = _
      rw [eC_at (show j < mfn u by omega)]; rfl
  rw [e1, e2, mrs_hd hi]
  unfold mcan
  by_cases q : us i < mfb u (i + 1) - mfb u i
  · rw [if_pos q, decide_eq_true q]
    simp only [Option.some.injEq, Bool.true_and]
    exact ⟨fun h => ⟨h.2, h.1⟩, fun h => ⟨h.2, h.1⟩⟩
  · rw [if_neg q, decide_eq_false q]
    simp
theorem mshL_pre (u : List Nat) : ∀ (n : Nat) (p : List Nat) (us : Nat → Nat), ∀ x ∈ mshL u n p us, ∃ t, x = p ++ t
  | 0, _, _, x, h => by cases h
  | n + 1, p, us, x, h => by
    rw [mshL] at h
    split at h
    · obtain ⟨i, h1, h2⟩ := List.mem_flatMap.mp h
      split at h2
      · obtain ⟨t, e⟩ := mshL_pre u n _ _ x h2
        exact ⟨_ :: t, by rw [e, List.append_assoc]; rfl⟩
      · cases h2
    · rw [List.mem_singleton] at h; exact ⟨[], by rw [h, List.append_nil]⟩
theorem cwo_nil (y : List Nat) : cwo [] y = 0 := rfl
theorem cwo_no {L : List (List Nat)} {y : List Nat} (h : y ∉ L) : cwo L y = 0 := lsm_z (fun x hx9 => by rw [if_neg (fun e => h (by rw [← e]; exact hx9))])
/-- the class's shuffles, counted -/
theorem mshL_kE (u : List Nat) : ∀ (y : List Nat) (n : Nat) (p : List Nat) (us : Nat → Nat), mrem u us < n → (∃ A, rOK A ∧ eC u us = eA A) → cwo (mshL u n p us) (p ++ y) = kE y (eC u us)
  | y, 0, p, us, hn, _ => by omega
  | [], n + 1, p, us, hn, ⟨A, hA, hE9⟩ => by
    rw [kE_nil, mshL]
    by_cases q : (List.range (mfn u)).any (mcan u us) = true
    · rw [if_pos q]
      obtain ⟨i, h1, h2⟩ := List.any_eq_true.mp q
      have hi := List.mem_range.mp h1
      rw [if_neg (fun z => by
        have h3 : mrs u us i = [] := z _ (List.mem_of_getElem? (eC_at (us := us) hi))
        have h4 := mrs_hd (us := us) hi
        rw [h3, if_pos (mcan_lt h2)] at h4
        cases h4)]
      refine cwo_no (fun hm => ?_)
      obtain ⟨j, _, h6⟩ := List.mem_flatMap.mp hm
      split at h6
      · obtain ⟨t, e⟩ := mshL_pre u n _ _ _ h6
        have := congrArg List.length e
        simp at this
      · cases h6
    · rw [if_neg q, if_pos]
      · unfold cwo
        rw [lsm_cons, lsm_nil, if_pos (List.append_nil p).symm]
      · -- nothing can be taken: all is used up
        have hno : ∀ a, lsm (dke a false (eA A)) (fun _ => 1) = 0 := fun a => by
          rw [← hE9, dke_rng]
          refine lsm_z (fun i hi => ?_)
          rw [eC_len] at hi
          rw [if_neg (fun z => q (List.any_eq_true.mpr ⟨i, hi, ((eC_cn (List.mem_range.mp hi)).mp z).1⟩))]
        have hemp : ∀ a, rdA a A = [] := fun a => by
          have := hno a
          rw [dke_eA, lsm_map] at this
          cases h : rdA a A with
          | nil => rfl
          | cons x L => rw [h, lsm_cons] at this; omega
        rw [hE9]
        have key : ∀ A : List rRun, rOK A → (∀ a, rdA a A = []) → ∀ r ∈ rflA A, r = [] := by
          intro A
          induction A with
          | nil => intro _ _ r hr; cases hr
          | cons r0 A ih =>
            intro hA hq r hr
            have eQ : rflA (r0 :: A) = rfl9 r0 ++ rflA A := by unfold rflA; rw [List.flatMap_cons]
            rw [eQ] at hr
            have hq1 : ∀ a, rd1 a r0 = [] ∧ rdA a A = [] := fun a => by
              have := hq a
              rw [rdA] at this
              have h := List.append_eq_nil_iff.mp this
              exact ⟨List.map_eq_nil_iff.mp h.1, List.map_eq_nil_iff.mp h.2⟩
            rcases List.mem_append.mp hr with h | h
            · cases hrr : r with
              | nil => rfl
              | cons b t =>
                exfalso
                have h1 := (hq1 b).1
                unfold rd1 at h1
                have h2 := List.append_eq_nil_iff.mp h1
                unfold rfl9 at h
                rcases List.mem_append.mp h with h3 | h3
                · have hd9 : ∀ S : List (List Nat), r ∈ S → dvl b S ≠ [] := by
                    intro S
                    induction S with
                    | nil => intro h; cases h
                    | cons s S ihs =>
                      intro hm he
                      rw [dvl_cons] at he
                      have he2 := List.append_eq_nil_iff.mp he
                      rcases List.mem_cons.mp hm with e | e
                      · rw [← e, hrr] at he2
                        simp at he2
                      · exact ihs e (List.map_eq_nil_iff.mp he2.2)
                  exact hd9 _ h3 (List.map_eq_nil_iff.mp h2.1)
                · obtain ⟨h4, h5⟩ := List.mem_replicate.mp h3
                  rw [if_pos ⟨by omega, by rw [← h5, hrr]; rfl⟩] at h2
                  cases h2.2
            · exact ih (fun z hz => hA z (List.mem_cons_of_mem _ hz)) (fun a => (hq1 a).2) r h
        have h9 := key A hA hemp
        intro e he
        exact h9 _ (by rw [← eA_r A]; exact List.mem_map.mpr ⟨e, he, rfl⟩)
  | a :: y, n + 1, p, us, hn, ⟨A, hA, hE9⟩ => by
    rw [kE_cons, dke_rng, eC_len, mshL]
    by_cases q : (List.range (mfn u)).any (mcan u us) = true
    · rw [if_pos q]
      unfold cwo
      rw [lsm_fm]
      refine lsm_cg (fun i hi => ?_)
      have hi9 := List.mem_range.mp hi
      by_cases hc : mcan u us i = true
      · rw [if_pos hc]
        have hlt := mcan_lt hc
        have hr9 := mrem_tk hi9 hc
        by_cases hl9 : mat u (mfb u i + us i) = a
        · have hcn := (eC_cn (a := a) hi9).mpr ⟨hc, hl9⟩
          rw [if_pos hcn, eC_st hi9 hlt, hl9]
          have hA2 : ∃ A', rOK A' ∧ eC u (mtk us i) = eA A' := by
            have hm : eC u (mtk us i) ∈ dke a false (eC u us) := by
              have hone : lsm (dke a false (eC u us)) (fun Q => if Q = eC u (mtk us i) then 1 else 0) ≠ 0 := by
                rw [dke_rng, eC_len]
                intro z
                have hle : ∀ (L : List Nat) (F : Nat → Nat), i ∈ L → F i ≤ lsm L F := by
                  intro L F
                  induction L with
                  | nil => intro h; cases h
                  | cons x L ih =>
                    intro h
                    rw [lsm_cons]
                    rcases List.mem_cons.mp h with e | e
                    · rw [e]; omega
                    · have := ih e; omega
                have := hle (List.range (mfn u)) (fun j => if hdE (eC u us) j = some a ∧ cnE false (eC u us) j = true then (if stE (eC u us) j = eC u (mtk us i) then 1 else 0) else 0) hi
                rw [z] at this
                simp only [if_pos hcn, eC_st hi9 hlt] at this
                simp at this
              exact Decidable.byContradiction (fun z => hone (lsm_z (fun Q hQ => by rw [if_neg (fun e => z (by rw [← e]; exact hQ))])))
            rw [hE9, dke_eA] at hm
            obtain ⟨A', h1, h2⟩ := List.mem_map.mp hm
            exact ⟨A', rdA_ok hA h1, h2.symm⟩
          have := mshL_kE u y n (p ++ [a]) (mtk us i) (by omega) hA2
          rw [List.append_assoc] at this
          exact this
        · rw [if_neg (fun z => hl9 ((eC_cn (a := a) hi9).mp z).2)]
          refine lsm_z (fun x hx9 => ?_)
          obtain ⟨t, e⟩ := mshL_pre u n _ _ x hx9
          rw [if_neg (fun z => hl9 ?_)]
          rw [e, List.append_assoc] at z
          have := List.append_cancel_left z
          simpa using (List.cons.inj this).1
      · rw [if_neg hc, if_neg (fun z => hc ((eC_cn (a := a) hi9).mp z).1)]; rfl
    · rw [if_neg q]
      unfold cwo
      rw [lsm_cons, lsm_nil, if_neg (fun z => by have := congrArg List.length z; simp at this), Nat.zero_add]
      refine (lsm_z (fun i hi => ?_)).symm
      rw [if_neg (fun z => q (List.any_eq_true.mpr ⟨i, hi, ((eC_cn (List.mem_range.mp hi)).mp z).1⟩))]
end M32
