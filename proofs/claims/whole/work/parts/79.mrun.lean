/-! equal words: the factorials -/
section M30
variable {g : hG}
/-- the order of the words doesn't matter -/
theorem dvl_perm (a : Nat) {A B : List (List Nat)} (h : A.Perm B) : ∀ F : List (List Nat) → Nat, (∀ Q Q', Q.Perm Q' → F Q = F Q') → lsm (dvl a A) F = lsm (dvl a B) F := by
  induction h with
  | nil => intro F _; rfl
  | cons r h ih =>
    intro F hF
    rw [dvl_cons, dvl_cons, lsm_app, lsm_app, lsm_map, lsm_map, ih (fun Q => F (r :: Q)) (fun Q Q' hq => hF _ _ (hq.cons r))]
    congr 1
    by_cases q : r.head? = some a
    · rw [if_pos q, if_pos q, lsm_cons, lsm_cons, hF _ _ (h.cons _)]
    · rw [if_neg q, if_neg q]
  | swap x y R =>
    intro F hF
    simp only [dvl_cons, List.map_append, List.map_map, lsm_app, lsm_map]
    have e1 : lsm (dvl a R) (fun Q => F (((fun Q => y :: Q) ∘ (fun Q => x :: Q)) Q)) = lsm (dvl a R) (fun Q => F (((fun Q => x :: Q) ∘ (fun Q => y :: Q)) Q)) := lsm_cg (fun Q _ => hF _ _ (List.Perm.swap _ _ _))
    rw [e1]
    by_cases q1 : x.head? = some a
    · by_cases q2 : y.head? = some a
      · simp only [if_pos q1, if_pos q2, List.map_cons, List.map_nil, lsm_cons, lsm_nil]
        rw [hF (y.tail :: x :: R) (x :: y.tail :: R) (List.Perm.swap _ _ _), hF (y :: x.tail :: R) (x.tail :: y :: R) (List.Perm.swap _ _ _)]
        omega
      · simp only [if_pos q1, if_neg q2, List.map_cons, List.map_nil, lsm_cons, lsm_nil]
        rw [hF (y :: x.tail :: R) (x.tail :: y :: R) (List.Perm.swap _ _ _)]
        omega
    · by_cases q2 : y.head? = some a
      · simp only [if_neg q1, if_pos q2, List.map_cons, List.map_nil, lsm_cons, lsm_nil]
        rw [hF (y.tail :: x :: R) (x :: y.tail :: R) (List.Perm.swap _ _ _)]
        omega
      · simp only [if_neg q1, if_neg q2, List.map_nil, lsm_nil]
  | trans h1 h2 ih1 ih2 => intro F hF; rw [ih1 F hF, ih2 F hF]
theorem mM_perm : ∀ (y : List Nat) {A B : List (List Nat)}, A.Perm B → mM y A = mM y B
  | [], A, B, h => by
    rw [mM_nil, mM_nil]
    by_cases q : ∀ r ∈ A, r = []
    · rw [if_pos q, if_pos (fun r hr => q r (h.mem_iff.mpr hr))]
    · rw [if_neg q, if_neg (fun z => q (fun r hr => z r (h.mem_iff.mp hr)))]
  | a :: y, A, B, h => by
    rw [mM_cons, mM_cons]
    exact dvl_perm a h _ (fun Q Q' hq => mM_perm y hq)
/-- a run of equal words: what is left of those begun, the word, how many are not begun -/
abbrev rRun : Type := List (List Nat) × List Nat × Nat
def rfl9 (r : rRun) : List (List Nat) := r.1 ++ List.replicate r.2.2 r.2.1
def rflA (A : List rRun) : List (List Nat) := A.flatMap rfl9
def fct : Nat → Nat
  | 0 => 1
  | n + 1 => (n + 1) * fct n
def rwt (A : List rRun) : Nat := A.foldr (fun r t => fct r.2.2 * t) 1
/-- the ways to take a letter, of the words not begun the first only -/
def rd1 (a : Nat) (r : rRun) : List rRun := (dvl a r.1).map (fun S => (S, r.2)) ++ (if 0 < r.2.2 ∧ r.2.1.head? = some a then [(r.1 ++ [r.2.1.tail], r.2.1, r.2.2 - 1)] else [])
def rdA (a : Nat) : List rRun → List (List rRun)
  | [] => []
  | r :: A => (rd1 a r).map (fun r' => r' :: A) ++ (rdA a A).map (fun A' => r :: A')
def mK : List Nat → List rRun → Nat
  | [], A => if ∀ r ∈ rflA A, r = [] then 1 else 0
  | a :: y, A => lsm (rdA a A) (mK y)
theorem mK_nil (A : List rRun) : mK [] A = if ∀ r ∈ rflA A, r = [] then 1 else 0 := by rw [mK]
theorem mK_cons (a : Nat) (y : List Nat) (A : List rRun) : mK (a :: y) A = lsm (rdA a A) (mK y) := by rw [mK]
def rOK (A : List rRun) : Prop := ∀ r ∈ A, r.2.1 ≠ []
theorem rwt_cons (r : rRun) (A : List rRun) : rwt (r :: A) = fct r.2.2 * rwt A := rfl
theorem rd1_w {a : Nat} {r r' : rRun} (h : r' ∈ rd1 a r) : r'.2.1 = r.2.1 := by
  unfold rd1 at h
  rcases List.mem_append.mp h with h | h
  · obtain ⟨S, _, e⟩ := List.mem_map.mp h
    rw [← e]
  · split at h
    · rw [List.mem_singleton] at h; rw [h]
    · cases h
theorem rdA_ok {a : Nat} : ∀ {A A' : List rRun}, rOK A → A' ∈ rdA a A → rOK A'
  | [], A', _, h => by cases h
  | r :: A, A', hA, h => by
    rw [rdA] at h
    rcases List.mem_append.mp h with h | h
    · obtain ⟨r', h1, e⟩ := List.mem_map.mp h
      rw [← e]
      intro z hz
      rcases List.mem_cons.mp hz with e2 | e2
      · rw [e2, rd1_w h1]; exact hA r List.mem_cons_self
      · exact hA z (List.mem_cons_of_mem _ e2)
    · obtain ⟨A2, h1, e⟩ := List.mem_map.mp h
      have ih := rdA_ok (fun z hz => hA z (List.mem_cons_of_mem _ hz)) h1
      rw [← e]
      intro z hz
      rcases List.mem_cons.mp hz with e2 | e2
      · rw [e2]; exact hA r List.mem_cons_self
      · exact ih z e2
theorem dvl_rep (a : Nat) (l : List Nat) : ∀ (n : Nat) (F : List (List Nat) → Nat), (∀ Q Q', Q.Perm Q' → F Q = F Q') → lsm (dvl a (List.replicate n l)) F = if 0 < n ∧ l.head? = some a then n * F (l.tail :: List.replicate (n - 1) l) else 0
  | 0, F, _ => by rw [if_neg (fun h => by omega)]; rfl
  | n + 1, F, hF => by
    rw [List.replicate_succ, dvl_cons, lsm_app, lsm_map, dvl_rep a l n (fun Q => F (l :: Q)) (fun Q Q' hq => hF _ _ (hq.cons l))]
    by_cases q : l.head? = some a
    · rw [if_pos q, lsm_cons, lsm_nil, Nat.add_zero, if_pos (show 0 < n + 1 ∧ l.head? = some a from ⟨by omega, q⟩), Nat.add_sub_cancel, Nat.succ_mul]
      by_cases q2 : 0 < n
      · rw [if_pos ⟨q2, q⟩]
        have e : F (l :: l.tail :: List.replicate (n - 1) l) = F (l.tail :: List.replicate n l) := by
          refine hF _ _ ?_
          have : List.replicate n l = l :: List.replicate (n - 1) l := by
            obtain ⟨k, rfl⟩ : ∃ k, n = k + 1 := ⟨n - 1, by omega⟩
            rw [List.replicate_succ, Nat.add_sub_cancel]
          rw [this]
          exact List.Perm.swap _ _ _
        rw [e]; omega
      · have : n = 0 := by omega
        subst this
        rw [if_neg (fun z => q2 z.1)]; omega
    · rw [if_neg q, if_neg (fun z => q z.2), if_neg (fun z => q z.2)]; rfl
/-- taking a letter: all words against the first of each run -/
theorem rdA_sum (a : Nat) : ∀ (A : List rRun) (F : List (List Nat) → Nat) (k : List rRun → Nat), (∀ Q Q', Q.Perm Q' → F Q = F Q') → rOK A → (∀ A', A' ∈ rdA a A → F (rflA A') = rwt A' * k A') → lsm (dvl a (rflA A)) F = rwt A * lsm (rdA a A) k
  | [], F, k, _, _, _ => by show lsm [] F = rwt [] * lsm [] k; rw [lsm_nil, lsm_nil, Nat.mul_zero]
  | r :: A, F, k, hF, hA, hk => by
    have eA : rflA (r :: A) = rfl9 r ++ rflA A := by unfold rflA; rw [List.flatMap_cons]
    have eA' : ∀ r' A', rflA (r' :: A') = rfl9 r' ++ rflA A' := fun r' A' => by unfold rflA; rw [List.flatMap_cons]
    rw [eA, dvl_app, lsm_app, lsm_map, lsm_map, rdA, lsm_app, lsm_map, lsm_map, Nat.mul_add]
    have h2 := rdA_sum a A (fun Q => F (rfl9 r ++ Q)) (fun A' => fct r.2.2 * k (r :: A')) (fun Q Q' hq => hF _ _ (hq.append_left _)) (fun z hz => hA z (List.mem_cons_of_mem _ hz)) (fun A' hA' => by
      have := hk (r :: A') (by rw [rdA]; exact List.mem_append_right _ (List.mem_map.mpr ⟨A', hA', rfl⟩))
      rw [eA', rwt_cons] at this
      rw [this, Nat.mul_assoc, Nat.mul_left_comm])
    rw [h2, lsm_mul, rwt_cons, Nat.mul_left_comm (rwt A)]
    rw [show fct r.2.2 * rwt A * lsm (rdA a A) (fun x => k (r :: x)) = fct r.2.2 * (rwt A * lsm (rdA a A) fun x => k (r :: x)) from Nat.mul_assoc _ _ _]
    congr 1
    -- the first run
    obtain ⟨S, l, m⟩ := r
    show lsm (dvl a (S ++ List.replicate m l)) (fun x => F (x ++ rflA A)) = fct m * rwt A * lsm (rd1 a (S, l, m)) (fun x => k (x :: A))
    rw [dvl_app, lsm_app, lsm_map, lsm_map]
    unfold rd1
    rw [lsm_app, lsm_map, Nat.mul_add]
    congr 1
    · rw [← lsm_mul]
      refine lsm_cg (fun S' hS' => ?_)
      have := hk ((S', l, m) :: A) (by rw [rdA]; exact List.mem_append_left _ (List.mem_map.mpr ⟨(S', l, m), by unfold rd1; exact List.mem_append_left _ (List.mem_map.mpr ⟨S', hS', rfl⟩), rfl⟩))
      rw [eA', rwt_cons] at this
      exact this
    · rw [dvl_rep a l m (fun x => F (S ++ x ++ rflA A)) (fun Q Q' hq => hF _ _ ((hq.append_left S).append_right _))]
      show (if 0 < m ∧ l.head? = some a then m * F (S ++ (l.tail :: List.replicate (m - 1) l) ++ rflA A) else 0) = fct m * rwt A * lsm (if 0 < m ∧ l.head? = some a then [(S ++ [l.tail], l, m - 1)] else []) (fun x => k (x :: A))
      by_cases q : 0 < m ∧ l.head? = some a
      · rw [if_pos q, if_pos q, lsm_cons, lsm_nil, Nat.add_zero]
        have := hk ((S ++ [l.tail], l, m - 1) :: A) (by rw [rdA]; exact List.mem_append_left _ (List.mem_map.mpr ⟨(S ++ [l.tail], l, m - 1), by unfold rd1; exact List.mem_append_right _ (by rw [if_pos q]; exact List.mem_singleton.mpr rfl), rfl⟩))
        rw [eA', rwt_cons] at this
        have e : F (S ++ (l.tail :: List.replicate (m - 1) l) ++ rflA A) = F (rfl9 (S ++ [l.tail], l, m - 1) ++ rflA A) := by
          unfold rfl9
          show _ = F ((S ++ [l.tail]) ++ List.replicate (m - 1) l ++ rflA A)
          rw [List.append_assoc S [l.tail]]; rfl
        rw [e, this]
        obtain ⟨j, rfl⟩ : ∃ j, m = j + 1 := ⟨m - 1, by omega⟩
        show (j + 1) * (fct (j + 1 - 1) * rwt A * k ((S ++ [l.tail], l, j + 1 - 1) :: A)) = (j + 1) * fct j * rwt A * k ((S ++ [l.tail], l, j + 1 - 1) :: A)
        rw [Nat.add_sub_cancel, Nat.mul_assoc, Nat.mul_assoc, Nat.mul_assoc]
      · rw [if_neg q, if_neg q, lsm_nil, Nat.mul_zero]
/-- the division by the factorials is exact, and gives the words begun in their order -/
theorem mM_mK : ∀ (y : List Nat) (A : List rRun), rOK A → mM y (rflA A) = rwt A * mK y A
  | [], A, hA => by
    rw [mM_nil, mK_nil]
    by_cases q : ∀ r ∈ rflA A, r = []
    · rw [if_pos q, Nat.mul_one]
      have : ∀ (A : List rRun), rOK A → (∀ r ∈ rflA A, r = []) → rwt A = 1 := by
        intro A
        induction A with
        | nil => intro _ _; rfl
        | cons r A ih =>
          intro hA hq
          have eA : rflA (r :: A) = rfl9 r ++ rflA A := by unfold rflA; rw [List.flatMap_cons]
          rw [eA] at hq
          rw [rwt_cons, ih (fun z hz => hA z (List.mem_cons_of_mem _ hz)) (fun z hz => hq z (List.mem_append_right _ hz)), Nat.mul_one]
          have hm : r.2.2 = 0 := Nat.eq_zero_of_not_pos (fun z => hA r List.mem_cons_self (hq _ (List.mem_append_left _ (List.mem_append_right _ (List.mem_replicate.mpr ⟨by omega, rfl⟩)))))
          rw [hm]; rfl
      exact (this A hA q).symm
    · rw [if_neg q, Nat.mul_zero]
  | a :: y, A, hA => by
    rw [mM_cons, mK_cons]
    exact rdA_sum a A (mM y) (mK y) (fun Q Q' hq => mM_perm y hq) hA (fun A' hA' => mM_mK y A' (rdA_ok hA hA'))
end M30
