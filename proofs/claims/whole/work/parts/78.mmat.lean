/-! interleavings, counted -/
section M29
variable {g : hG}
/-- sums over lists -/
def lsm {α : Type} (L : List α) (F : α → Nat) : Nat := L.foldr (fun x t => F x + t) 0
theorem lsm_nil {α : Type} (F : α → Nat) : lsm [] F = 0 := rfl
theorem lsm_cons {α : Type} (x : α) (L : List α) (F : α → Nat) : lsm (x :: L) F = F x + lsm L F := rfl
theorem lsm_app {α : Type} (A B : List α) (F : α → Nat) : lsm (A ++ B) F = lsm A F + lsm B F := by
  induction A with
  | nil => rw [List.nil_append, lsm_nil, Nat.zero_add]
  | cons x A ih => rw [List.cons_append, lsm_cons, lsm_cons, ih, Nat.add_assoc]
theorem lsm_map {α β : Type} (g : α → β) (L : List α) (F : β → Nat) : lsm (L.map g) F = lsm L (fun x => F (g x)) := by
  induction L with
  | nil => rfl
  | cons x L ih => rw [List.map_cons, lsm_cons, lsm_cons, ih]
theorem lsm_fm {α β : Type} (g : α → List β) (L : List α) (F : β → Nat) : lsm (L.flatMap g) F = lsm L (fun x => lsm (g x) F) := by
  induction L with
  | nil => rfl
  | cons x L ih => rw [List.flatMap_cons, lsm_app, lsm_cons, ih]
theorem lsm_add {α : Type} (L : List α) (F G : α → Nat) : lsm L (fun x => F x + G x) = lsm L F + lsm L G := by
  induction L with
  | nil => rfl
  | cons x L ih => rw [lsm_cons, lsm_cons, lsm_cons, ih]; omega
theorem lsm_mul {α : Type} (L : List α) (k : Nat) (F : α → Nat) : lsm L (fun x => k * F x) = k * lsm L F := by
  induction L with
  | nil => rfl
  | cons x L ih => rw [lsm_cons, lsm_cons, ih, Nat.mul_add]
theorem lsm_cg {α : Type} {L : List α} {F G : α → Nat} (h : ∀ x ∈ L, F x = G x) : lsm L F = lsm L G := by
  induction L with
  | nil => rfl
  | cons x L ih => rw [lsm_cons, lsm_cons, h x List.mem_cons_self, ih (fun y hy => h y (List.mem_cons_of_mem _ hy))]
theorem lsm_z {α : Type} {L : List α} {F : α → Nat} (h : ∀ x ∈ L, F x = 0) : lsm L F = 0 := by
  induction L with
  | nil => rfl
  | cons x L ih => rw [lsm_cons, h x List.mem_cons_self, ih (fun y hy => h y (List.mem_cons_of_mem _ hy))]
/-- at most one of a list without repetition -/
theorem lsm_one {α : Type} {L : List α} (hn : L.Nodup) (F : α → Nat) (y : α) (h : ∀ x ∈ L, x ≠ y → F x = 0) (hy : y ∉ L → F y = 0) : lsm L F = F y := by
  induction L with
  | nil => exact (hy (by simp)).symm
  | cons x L ih =>
    obtain ⟨h1, h2⟩ := List.nodup_cons.mp hn
    rw [lsm_cons]
    by_cases q : x = y
    · subst q
      rw [lsm_z (fun z hz => h z (List.mem_cons_of_mem _ hz) (fun e => h1 (by rw [← e]; exact hz))), Nat.add_zero]
    · rw [h x List.mem_cons_self q, Nat.zero_add]
      exact ih h2 (fun z hz => h z (List.mem_cons_of_mem _ hz)) (fun hz => hy (fun hm => by
        rcases List.mem_cons.mp hm with e | e
        · exact q e.symm
        · exact hz e))
/-- the ways to take a letter from the front of one of several words -/
def dvl (a : Nat) : List (List Nat) → List (List (List Nat))
  | [] => []
  | r :: R => (if r.head? = some a then [r.tail :: R] else []) ++ (dvl a R).map (fun Q => r :: Q)
/-- in how many ways a word is an interleaving of several words -/
def mM : List Nat → List (List Nat) → Nat
  | [], R => if ∀ r ∈ R, r = [] then 1 else 0
  | a :: y, R => lsm (dvl a R) (mM y)
theorem mM_nil (R : List (List Nat)) : mM [] R = if ∀ r ∈ R, r = [] then 1 else 0 := by rw [mM]
theorem mM_cons (a : Nat) (y : List Nat) (R : List (List Nat)) : mM (a :: y) R = lsm (dvl a R) (mM y) := by rw [mM]
theorem dvl_cons (a : Nat) (r : List Nat) (R : List (List Nat)) : dvl a (r :: R) = (if r.head? = some a then [r.tail :: R] else []) ++ (dvl a R).map (fun Q => r :: Q) := rfl
theorem dvl_app (a : Nat) (B : List (List Nat)) : ∀ A, dvl a (A ++ B) = (dvl a A).map (fun Q => Q ++ B) ++ (dvl a B).map (fun Q => A ++ Q)
  | [] => by
    show dvl a B = [] ++ (dvl a B).map (fun Q => [] ++ Q)
    simp
  | r :: A => by
    rw [List.cons_append, dvl_cons, dvl_cons, dvl_app a B A]
    split <;> simp [List.map_append, List.map_map, Function.comp_def]
theorem dvl_1 (a : Nat) (v : List Nat) : dvl a [v] = if v.head? = some a then [[v.tail]] else [] := by
  rw [dvl_cons]; show _ ++ [] = _
  rw [List.append_nil]
/-- a sum over several starts -/
def mMM (y : List Nat) (Rs : List (List (List Nat))) : Nat := lsm Rs (mM y)
theorem mMM_cons (a : Nat) (y : List Nat) (Rs : List (List (List Nat))) : mMM (a :: y) Rs = mMM y (Rs.flatMap (dvl a)) := by
  unfold mMM
  rw [lsm_fm]
  exact lsm_cg (fun R _ => mM_cons a y R)
theorem mM2_cons (a : Nat) (y x v : List Nat) : mM (a :: y) [x, v] = (if x.head? = some a then mM y [x.tail, v] else 0) + (if v.head? = some a then mM y [x, v.tail] else 0) := by
  rw [mM_cons, dvl_cons, dvl_1, lsm_app]
  split <;> split <;> simp [lsm_cons, lsm_nil]
/-- the words of a list that begin with a letter, without it -/
def cutA (a : Nat) (X : List (List Nat)) : List (List Nat) := X.filterMap (fun x => if x.head? = some a then some x.tail else none)
theorem cutA_mem {a : Nat} {X : List (List Nat)} {x : List Nat} : x ∈ cutA a X ↔ (a :: x) ∈ X := by
  unfold cutA
  rw [List.mem_filterMap]
  constructor
  · rintro ⟨z, h1, h2⟩
    cases z with
    | nil => simp at h2
    | cons b z =>
      by_cases q : b = a
      · subst q
        simp at h2
        rw [← h2]; exact h1
      · simp [q] at h2
  · intro h
    exact ⟨a :: x, h, by simp⟩
theorem cutA_nodup {a : Nat} : ∀ {X : List (List Nat)}, X.Nodup → (cutA a X).Nodup
  | [], _ => by unfold cutA; exact List.nodup_nil
  | x :: X, h => by
    obtain ⟨h1, h2⟩ := List.nodup_cons.mp h
    have ih := cutA_nodup (a := a) h2
    by_cases q : x.head? = some a
    · have e : cutA a (x :: X) = x.tail :: cutA a X := by unfold cutA; rw [List.filterMap_cons, if_pos q]
      rw [e]
      refine List.nodup_cons.mpr ⟨fun z => ?_, ih⟩
      have := cutA_mem.mp z
      cases x with
      | nil => cases q
      | cons b x =>
        have : b = a := by simpa using q
        subst this
        exact h1 ‹_›
    · have e : cutA a (x :: X) = cutA a X := by unfold cutA; rw [List.filterMap_cons, if_neg q]
      rw [e]; exact ih
theorem cutA_sum (a : Nat) (X : List (List Nat)) (F : List Nat → Nat) (G : List Nat → Nat) : lsm X (fun x => F x * (if x.head? = some a then G x.tail else 0)) = lsm (cutA a X) (fun x => F (a :: x) * G x) := by
  induction X with
  | nil => rfl
  | cons x X ih =>
    rw [lsm_cons, ih]
    by_cases q : x.head? = some a
    · have e : cutA a (x :: X) = x.tail :: cutA a X := by unfold cutA; rw [List.filterMap_cons, if_pos q]
      rw [e, lsm_cons, if_pos q]
      cases x with
      | nil => cases q
      | cons b x =>
        have : b = a := by simpa using q
        subst this
        rfl
    · have e : cutA a (x :: X) = cutA a X := by unfold cutA; rw [List.filterMap_cons, if_neg q]
      rw [e, if_neg q, Nat.mul_zero, Nat.zero_add]
/-- one more word: interleave first the others -/
theorem mM_assoc : ∀ (y v : List Nat) (Rs : List (List (List Nat))) (X : List (List Nat)), X.Nodup → (∀ x, mMM x Rs ≠ 0 → x ∈ X) → lsm X (fun x => mMM x Rs * mM y [x, v]) = mMM y (Rs.map (fun R => R ++ [v]))
  | [], v, Rs, X, hn, hc => by
    have e : ∀ x, mM [] [x, v] = if x = [] ∧ v = [] then 1 else 0 := fun x => by rw [mM_nil]; simp
    rw [lsm_one hn _ [] (fun x _ hx9 => by rw [e, if_neg (fun z => hx9 z.1), Nat.mul_zero]) (fun hx9 => by
      have : mMM [] Rs = 0 := Decidable.byContradiction (fun z => hx9 (hc _ z))
      rw [this, Nat.zero_mul])]
    rw [e]
    unfold mMM
    rw [lsm_map]
    by_cases hv9 : v = []
    · rw [if_pos ⟨rfl, hv9⟩, Nat.mul_one]
      refine lsm_cg (fun R _ => ?_)
      rw [mM_nil, mM_nil]
      by_cases q : ∀ r ∈ R, r = []
      · rw [if_pos q, if_pos (fun r hr => (List.mem_append.mp hr).elim (q r) (fun z => by rw [List.mem_singleton.mp z, hv9]))]
      · rw [if_neg q, if_neg (fun z => q (fun r hr => z r (List.mem_append_left _ hr)))]
    · rw [if_neg (fun z => hv9 z.2), Nat.mul_zero]
      refine (lsm_z (fun R _ => ?_)).symm
      rw [mM_nil, if_neg (fun h => hv9 (h v (by simp)))]
  | a :: y, v, Rs, X, hn, hc => by
    have e1 : lsm X (fun x => mMM x Rs * mM (a :: y) [x, v]) = lsm X (fun x => mMM x Rs * (if x.head? = some a then mM y [x.tail, v] else 0)) + lsm X (fun x => mMM x Rs * (if v.head? = some a then mM y [x, v.tail] else 0)) := by
      rw [← lsm_add]
      exact lsm_cg (fun x _ => by rw [mM2_cons, Nat.mul_add])
    rw [e1, cutA_sum a X (fun x => mMM x Rs) (fun x => mM y [x, v])]
    have ih1 := mM_assoc y v (Rs.flatMap (dvl a)) (cutA a X) (cutA_nodup hn) (fun x hx9 => cutA_mem.mpr (hc _ (by rw [mMM_cons]; exact hx9)))
    rw [lsm_cg (G := fun x => mMM x (Rs.flatMap (dvl a)) * mM y [x, v]) (fun x _ => by rw [mMM_cons]), ih1, mMM_cons]
    have e2 : lsm X (fun x => mMM x Rs * (if v.head? = some a then mM y [x, v.tail] else 0)) = if v.head? = some a then mMM y (Rs.map (fun R => R ++ [v.tail])) else 0 := by
      by_cases q : v.head? = some a
      · rw [if_pos q, ← mM_assoc y v.tail Rs X hn hc]
        exact lsm_cg (fun x _ => by rw [if_pos q])
      · rw [if_neg q]
        exact lsm_z (fun x _ => by rw [if_neg q, Nat.mul_zero])
    rw [e2]
    unfold mMM
    rw [lsm_map, lsm_fm, lsm_fm, lsm_map]
    have e3 : ∀ R, lsm (dvl a (R ++ [v])) (mM y) = lsm (dvl a R) (fun Q => mM y (Q ++ [v])) + (if v.head? = some a then mM y (R ++ [v.tail]) else 0) := fun R => by
      rw [dvl_app, lsm_app, lsm_map, lsm_map, dvl_1]
      split <;> simp [lsm_cons, lsm_nil]
    rw [lsm_map (fun R => R ++ [v]) Rs]
    rw [lsm_cg (L := Rs) (F := fun x => lsm (dvl a (x ++ [v])) (mM y)) (fun R _ => e3 R), lsm_add]
    congr 1
    by_cases q : v.head? = some a
    · rw [if_pos q]
      exact lsm_cg (fun R _ => by rw [if_pos q])
    · rw [if_neg q]
      exact (lsm_z (fun R _ => by rw [if_neg q])).symm
/-- how many interleavings there can be -/
theorem dvl_len (a : Nat) : ∀ R, (dvl a R).length ≤ R.length ∧ ∀ Q ∈ dvl a R, Q.length = R.length
  | [] => ⟨Nat.le_refl _, fun Q h => by cases h⟩
  | r :: R => by
    have ih := dvl_len a R
    rw [dvl_cons]
    refine ⟨?_, fun Q hQ => ?_⟩
    · rw [List.length_append, List.length_map, List.length_cons]
      have : (if r.head? = some a then [r.tail :: R] else ([] : List (List (List Nat)))).length ≤ 1 := by split <;> simp
      omega
    · rcases List.mem_append.mp hQ with h | h
      · split at h
        · rw [List.mem_singleton] at h; rw [h]; rfl
        · cases h
      · obtain ⟨Q', h1, h2⟩ := List.mem_map.mp h
        rw [← h2, List.length_cons, List.length_cons, ih.2 Q' h1]
theorem lsm_le {α : Type} {L : List α} {F : α → Nat} {k : Nat} (h : ∀ x ∈ L, F x ≤ k) : lsm L F ≤ L.length * k := by
  induction L with
  | nil => exact Nat.zero_le _
  | cons x L ih =>
    rw [lsm_cons, List.length_cons, Nat.succ_mul]
    have := h x List.mem_cons_self
    have := ih (fun y hy => h y (List.mem_cons_of_mem _ hy))
    omega
theorem mM_le (k : Nat) : ∀ (y : List Nat) (R : List (List Nat)), R.length ≤ k → mM y R ≤ k ^ y.length
  | [], R, _ => by rw [mM_nil, List.length_nil, Nat.pow_zero]; split <;> omega
  | a :: y, R, h => by
    rw [mM_cons, List.length_cons, Nat.pow_succ, Nat.mul_comm]
    have h1 := dvl_len a R
    refine Nat.le_trans (lsm_le (k := k ^ y.length) (fun Q hQ => mM_le k y Q (by rw [h1.2 Q hQ]; exact h))) ?_
    exact Nat.mul_le_mul_right _ (Nat.le_trans h1.1 h)
/-- the length of an interleaving -/
def mtl (R : List (List Nat)) : Nat := lsm R List.length
theorem dvl_tl (a : Nat) : ∀ R, ∀ Q ∈ dvl a R, mtl Q + 1 = mtl R
  | [], Q, h => by cases h
  | r :: R, Q, hQ => by
    rw [dvl_cons] at hQ
    rcases List.mem_append.mp hQ with h | h
    · by_cases q : r.head? = some a
      · rw [if_pos q, List.mem_singleton] at h
        rw [h]
        cases r with
        | nil => cases q
        | cons b r => unfold mtl; rw [lsm_cons, lsm_cons, List.length_cons]; show r.length + _ + 1 = _; omega
      · rw [if_neg q] at h; cases h
    · obtain ⟨Q', h1, h2⟩ := List.mem_map.mp h
      have := dvl_tl a R Q' h1
      rw [← h2]
      unfold mtl at this ⊢
      rw [lsm_cons, lsm_cons]; omega
theorem mM_tl : ∀ (y : List Nat) (R : List (List Nat)), mM y R ≠ 0 → y.length = mtl R
  | [], R, h => by
    rw [mM_nil] at h
    by_cases q : ∀ r ∈ R, r = []
    · unfold mtl
      exact (lsm_z (fun r hr => by rw [q r hr]; rfl)).symm
    · rw [if_neg q] at h; exact absurd rfl h
  | a :: y, R, h => by
    rw [mM_cons] at h
    have : ∃ Q ∈ dvl a R, mM y Q ≠ 0 := Classical.byContradiction (fun z => h (lsm_z (fun Q hQ => Decidable.byContradiction (fun w => z ⟨Q, hQ, w⟩))))
    obtain ⟨Q, h1, h2⟩ := this
    have h3 := dvl_tl a R Q h1
    rw [List.length_cons, mM_tl y Q h2]; exact h3
end M29
