/-! the runs of a word's factors -/
section M33
variable {g : hG}
/-- factors with their flags -/
def efl : Option (List Nat) → List (List Nat) → List eT
  | _, [] => []
  | pv, l :: ls => (decide (pv = some l), false, l) :: efl (some l) ls
/-- runs of equal factors -/
def grp : List (List Nat) → List rRun
  | [] => []
  | l :: ls => match grp ls with
    | (S, l', m) :: A => if l = l' then ([], l, m + 1) :: A else ([], l, 1) :: (S, l', m) :: A
    | [] => [([], l, 1)]
theorem grp_c (l : List Nat) (ls : List (List Nat)) : grp (l :: ls) = match grp ls with
    | (S, l', m) :: A => if l = l' then ([], l, m + 1) :: A else ([], l, 1) :: (S, l', m) :: A
    | [] => [([], l, 1)] := rfl
theorem grp_cc (l : List Nat) {ls : List (List Nat)} {S : List (List Nat)} {l' : List Nat} {m : Nat} {A : List rRun} (h : grp ls = (S, l', m) :: A) : grp (l :: ls) = if l = l' then ([], l, m + 1) :: A else ([], l, 1) :: (S, l', m) :: A := by rw [grp_c, h]
theorem grp_hd (l : List Nat) : ∀ ls, ∃ m A, grp (l :: ls) = ([], l, m + 1) :: A
  | [] => ⟨0, [], rfl⟩
  | l2 :: ls => by
    obtain ⟨m, A, h⟩ := grp_hd l2 ls
    rw [grp_c, h]
    by_cases q : l = l2
    · exact ⟨m + 1, A, by simp [q]⟩
    · exact ⟨0, ([], l2, m + 1) :: A, by simp [q]⟩
theorem eA_grp : ∀ fs, eA (grp fs) = efl none fs
  | [] => rfl
  | [l] => rfl
  | l :: l2 :: ls => by
    have ih := eA_grp (l2 :: ls)
    obtain ⟨m, A, h⟩ := grp_hd l2 ls
    rw [h, eA_cons] at ih
    have e1 : eR ([], l2, m + 1) = (false, false, l2) :: eU l2 true m := rfl
    have e2 : efl none (l2 :: ls) = (false, false, l2) :: efl (some l2) ls := rfl
    rw [e1, e2] at ih
    have ih2 : eU l2 true m ++ eA A = efl (some l2) ls := by
      have := congrArg List.tail ih
      exact this
    have e3 : efl none (l :: l2 :: ls) = (false, false, l) :: (decide (some l = some l2), false, l2) :: efl (some l2) ls := rfl
    rw [grp_cc l h, e3]
    by_cases q : l = l2
    · subst q
      rw [if_pos rfl, eA_cons, decide_eq_true rfl, ← ih2]; rfl
    · rw [if_neg q, eA_cons, eA_cons, decide_eq_false (fun e => q (by simpa using e)), ← ih2]; rfl
theorem efl_r : ∀ (fs : List (List Nat)) (pv : Option (List Nat)), (efl pv fs).map (fun e => e.2.2) = fs
  | [], _ => rfl
  | l :: ls, pv => by show l :: (efl (some l) ls).map _ = _; rw [efl_r ls]
theorem grp_fl (fs : List (List Nat)) : rflA (grp fs) = fs := by rw [← eA_r, eA_grp, efl_r]
theorem grp_ok : ∀ {fs : List (List Nat)}, (∀ l ∈ fs, l ≠ []) → rOK (grp fs)
  | [], _ => fun r hr => by cases hr
  | l :: ls, h => by
    have ih := grp_ok (fs := ls) (fun z hz => h z (List.mem_cons_of_mem _ hz))
    have hl9 := h l List.mem_cons_self
    rw [grp_c]
    intro r hr
    cases hg : grp ls with
    | nil =>
      rw [hg] at hr
      have hr : r ∈ [(([] : List (List Nat)), l, 1)] := hr
      rw [List.mem_singleton] at hr; rw [hr]; exact hl9
    | cons r0 A =>
      rw [hg] at hr ih
      obtain ⟨S, l', m⟩ := r0
      have hr : r ∈ (if l = l' then (([] : List (List Nat)), l, m + 1) :: A else ([], l, 1) :: (S, l', m) :: A) := hr
      split at hr
      · rcases List.mem_cons.mp hr with e | e
        · rw [e]; exact hl9
        · exact ih r (List.mem_cons_of_mem _ e)
      · rcases List.mem_cons.mp hr with e | e
        · rw [e]; exact hl9
        · exact ih r e
/-- the product of the numbers of repetitions, as the reference multiplies them -/
def rDv : List Nat → Nat → List (List Nat) → Nat
  | _, _, [] => 1
  | w, r, l :: ls => (if l = w then r + 1 else 1) * rDv l (if l = w then r + 1 else 1) ls
theorem grp_rep0 (w : List Nat) : ∀ r, grp (List.replicate (r + 1) w) = [([], w, r + 1)]
  | 0 => rfl
  | r + 1 => by rw [List.replicate_succ, grp_c, grp_rep0 w r]; simp
theorem grp_rep (w l : List Nat) (ls : List (List Nat)) (h : l ≠ w) : ∀ r, grp (List.replicate (r + 1) w ++ l :: ls) = ([], w, r + 1) :: grp (l :: ls)
  | 0 => by
    obtain ⟨m, A, hg9⟩ := grp_hd l ls
    show grp (w :: l :: ls) = _
    rw [grp_cc w hg9, if_neg (fun e => h e.symm), hg9]
  | r + 1 => by
    rw [List.replicate_succ, List.cons_append, grp_c, grp_rep w l ls h r]; simp
theorem rwt_rD : ∀ (ls : List (List Nat)) (w : List Nat) (r : Nat), rwt (grp (List.replicate (r + 1) w ++ ls)) = fct (r + 1) * rDv w (r + 1) ls
  | [], w, r => by rw [List.append_nil, grp_rep0]; rfl
  | l :: ls, w, r => by
    by_cases q : l = w
    · subst q
      have e : List.replicate (r + 1) l ++ l :: ls = List.replicate (r + 1 + 1) l ++ ls := by
        rw [List.replicate_succ' (n := r + 1), List.append_assoc]; rfl
      rw [e, rwt_rD ls l (r + 1)]
      show (r + 1 + 1) * fct (r + 1) * rDv l (r + 1 + 1) ls = fct (r + 1) * ((if l = l then r + 1 + 1 else 1) * rDv l (if l = l then r + 1 + 1 else 1) ls)
      rw [if_pos rfl, Nat.mul_comm (r + 1 + 1), Nat.mul_assoc]
    · rw [grp_rep w l ls q r, rwt_cons]
      have := rwt_rD ls l 0
      have e : List.replicate (0 + 1) l ++ ls = l :: ls := rfl
      rw [e] at this
      rw [this]
      show fct (r + 1) * (fct (0 + 1) * rDv l (0 + 1) ls) = fct (r + 1) * ((if l = w then r + 1 + 1 else 1) * rDv l (if l = w then r + 1 + 1 else 1) ls)
      rw [if_neg q, Nat.one_mul]
      show fct (r + 1) * (1 * rDv l 1 ls) = _
      rw [Nat.one_mul]
/-- the factors of a word -/
def mfw (u : List Nat) : List (List Nat) := (List.range (mfn u)).map (fun i => mrs u (fun _ => 0) i)
theorem mfw_len (u : List Nat) : (mfw u).length = mfn u := by unfold mfw; rw [List.length_map, List.length_range]
theorem mfw_at {u : List Nat} {i : Nat} (h : i < mfn u) : (mfw u)[i]? = some (mrs u (fun _ => 0) i) := by unfold mfw; rw [List.getElem?_map, List.getElem?_range h]; rfl
theorem mrs0_len {u : List Nat} {i : Nat} (h : i < mfn u) : (mrs u (fun _ => 0) i).length = mfb u (i + 1) - mfb u i := by
  have hb := mfb_bd h
  show ((u.drop (mfb u i + 0)).take (mfb u (i + 1) - mfb u i - 0)).length = _
  rw [List.length_take, List.length_drop]; omega
theorem mrs0_at {u : List Nat} {i k : Nat} (h : i < mfn u) (hk : k < mfb u (i + 1) - mfb u i) : (mrs u (fun _ => 0) i)[k]? = some (mat u (mfb u i + k)) := by
  have hb := mfb_bd h
  unfold mrs mat
  rw [List.getElem?_take, if_pos (by omega), List.getElem?_drop, List.getD_eq_getElem?_getD, Nat.add_zero, List.getElem?_eq_getElem (by omega)]; rfl
theorem mfw_ne {u : List Nat} : ∀ l ∈ mfw u, l ≠ [] := fun l hl9 e => by
  obtain ⟨i, h1, h2⟩ := List.mem_map.mp hl9
  have hi := List.mem_range.mp h1
  have := mrs0_len hi
  rw [h2, e] at this
  have hb := mfb_bd hi
  simp at this
  omega
theorem msame_iff {u : List Nat} {i j : Nat} (hi : i < mfn u) (hj : j < mfn u) : msame u i j = true ↔ mrs u (fun _ => 0) i = mrs u (fun _ => 0) j := by
  unfold msame
  simp only [Bool.and_eq_true, beq_iff_eq, List.all_eq_true, List.mem_range]
  constructor
  · rintro ⟨h1, h2⟩
    refine List.ext_getElem? (fun k => ?_)
    by_cases q : k < mfb u (i + 1) - mfb u i
    · rw [mrs0_at hi q, mrs0_at hj (by omega), h2 k q]
    · rw [List.getElem?_eq_none (by rw [mrs0_len hi]; omega), List.getElem?_eq_none (by rw [mrs0_len hj]; omega)]
  · intro h
    have hl9 : mfb u (i + 1) - mfb u i = mfb u (j + 1) - mfb u j := by rw [← mrs0_len hi, ← mrs0_len hj, h]
    refine ⟨hl9, fun k hk => ?_⟩
    have h1 := mrs0_at hi hk
    have h2 := mrs0_at hj (k := k) (by omega)
    rw [h, h2] at h1
    injection h1 with h1
    exact h1.symm
theorem eC_grp (u : List Nat) : eC u (fun _ => 0) = eA (grp (mfw u)) := by
  rw [eA_grp]
  have key : ∀ (n : Nat) (k : Nat) (pv : Option (List Nat)), k + n = mfn u → (k = 0 ∧ pv = none ∨ ∃ j, k = j + 1 ∧ pv = some (mrs u (fun _ => 0) j)) → ((List.range' k n).map (fun i => (mrep u i, decide (0 < 0), mrs u (fun _ => 0) i)) : List eT) = efl pv ((List.range' k n).map (fun i => mrs u (fun _ => 0) i)) := by
    intro n
    induction n with
    | zero => intro k pv _ _; rfl
    | succ n ih =>
      intro k pv hk hp
      rw [List.range'_succ, List.map_cons, List.map_cons]
      show _ = (decide (pv = some (mrs u (fun _ => 0) k)), false, mrs u (fun _ => 0) k) :: efl (some (mrs u (fun _ => 0) k)) _
      rw [ih (k + 1) (some (mrs u (fun _ => 0) k)) (by omega) (Or.inr ⟨k, rfl, rfl⟩)]
      congr 2
      rcases hp with ⟨rfl, rfl⟩ | ⟨j, rfl, rfl⟩
      · unfold mrep; simp
      · unfold mrep
        rw [Nat.add_sub_cancel, decide_eq_true (by omega), Bool.true_and, Bool.eq_iff_iff, msame_iff (by omega) (by omega), decide_eq_true_eq, Option.some.injEq]
  have := key (mfn u) 0 none (by omega) (Or.inl ⟨rfl, rfl⟩)
  rw [← List.range_eq_range'] at this
  exact this
/-- the class's count is the count of interleavings, divided -/
theorem mfw_mM (u : List Nat) (y : List Nat) : mM y (mfw u) = rwt (grp (mfw u)) * kE y (eC u (fun _ => 0)) := by
  have h := mM_mK y (grp (mfw u)) (grp_ok mfw_ne)
  rw [grp_fl] at h
  rw [h, eC_grp, kE_mK]
theorem fct_pos : ∀ n, 0 < fct n
  | 0 => by decide
  | n + 1 => Nat.mul_pos (by omega) (fct_pos n)
theorem rwt_pos : ∀ A, 0 < rwt A
  | [] => by decide
  | r :: A => Nat.mul_pos (fct_pos _) (rwt_pos A)
theorem mrem_0 (u : List Nat) (hu : mW u) : mrem u (fun _ => 0) ≤ 8 := by
  have := mrem_le u
  have := hu.1
  omega
theorem mshL_cnt {u : List Nat} (hu : mW u) (y : List Nat) : cwo (mshL u 9 [] (fun _ => 0)) y = mM y (mfw u) / rwt (grp (mfw u)) := by
  have h := mshL_kE u y 9 [] (fun _ => 0) (by have := mrem_0 u hu; omega) ⟨grp (mfw u), grp_ok mfw_ne, eC_grp u⟩
  rw [List.nil_append] at h
  rw [h, mfw_mM, Nat.mul_div_cancel_left _ (rwt_pos _)]
end M33
