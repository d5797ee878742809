/-! the class's factors as runs -/
section M31
variable {g : hG}
/-- a factor while its letters are taken: whether it equals the one before, whether it is begun, what is left -/
abbrev eT : Type := Bool × Bool × List Nat
def dke (a : Nat) : Bool → List eT → List (List eT)
  | _, [] => []
  | pv, (rp, b, r) :: E => (if r.head? = some a ∧ (rp = false ∨ pv = true) then [(rp, true, r.tail) :: E] else []) ++ (dke a b E).map (fun Q => (rp, b, r) :: Q)
def kE : List Nat → List eT → Nat
  | [], E => if ∀ e ∈ E, e.2.2 = [] then 1 else 0
  | a :: y, E => lsm (dke a false E) (kE y)
theorem kE_nil (E : List eT) : kE [] E = if ∀ e ∈ E, e.2.2 = [] then 1 else 0 := by rw [kE]
theorem kE_cons (a : Nat) (y : List Nat) (E : List eT) : kE (a :: y) E = lsm (dke a false E) (kE y) := by rw [kE]
theorem dke_c (a : Nat) (pv rp b : Bool) (r : List Nat) (E : List eT) : dke a pv ((rp, b, r) :: E) = (if r.head? = some a ∧ (rp = false ∨ pv = true) then [(rp, true, r.tail) :: E] else []) ++ (dke a b E).map (fun Q => (rp, b, r) :: Q) := rfl
def eS : Bool → List (List Nat) → List eT
  | _, [] => []
  | b, s :: S => (b, true, s) :: eS true S
def eU (l : List Nat) : Bool → Nat → List eT
  | _, 0 => []
  | b, m + 1 => (b, false, l) :: eU l true m
def eR (r : rRun) : List eT := eS false r.1 ++ eU r.2.1 (decide (r.1 ≠ [])) r.2.2
def eA (A : List rRun) : List eT := A.flatMap eR
theorem eA_cons (r : rRun) (A : List rRun) : eA (r :: A) = eR r ++ eA A := by unfold eA; rw [List.flatMap_cons]
/-- whether what goes before matters -/
def eFr (E : List eT) : Prop := ∀ a pv, dke a pv E = dke a false E
theorem dke_eS (a : Nat) (X : List eT) : ∀ (S : List (List Nat)) (b pv : Bool), (b = true → pv = true) → dke a pv (eS b S ++ X) = (dvl a S).map (fun S' => eS b S' ++ X) ++ (dke a (if S = [] then pv else true) X).map (fun Q => eS b S ++ Q)
  | [], b, pv, _ => by
    show dke a pv X = [] ++ (dke a pv X).map (fun Q => [] ++ Q)
    simp
  | s :: S, b, pv, h => by
    show dke a pv ((b, true, s) :: (eS true S ++ X)) = _
    rw [dke_c, dke_eS a X S true true (fun h => h), dvl_cons]
    have e1 : (s.head? = some a ∧ (b = false ∨ pv = true)) ↔ s.head? = some a := by
      refine ⟨fun z => z.1, fun z => ⟨z, ?_⟩⟩
      cases b with
      | false => exact Or.inl rfl
      | true => exact Or.inr (h rfl)
    have e2 : (if S = [] then true else true) = true := by split <;> rfl
    rw [e2, if_neg (by simp : ¬ (s :: S) = [])]
    simp only [e1]
    by_cases q : s.head? = some a
    · simp [q, List.map_append, List.map_map, Function.comp_def, eS]
    · simp [q, List.map_append, List.map_map, Function.comp_def, eS]
theorem dke_eUt (a : Nat) (l : List Nat) (X : List eT) (hX9 : eFr X) : ∀ m : Nat, dke a false (eU l true m ++ X) = (dke a false X).map (fun Q => eU l true m ++ Q)
  | 0 => by
    show dke a false X = (dke a false X).map (fun Q => [] ++ Q)
    simp
  | m + 1 => by
    show dke a false ((true, false, l) :: (eU l true m ++ X)) = _
    rw [dke_c, if_neg (fun z => z.2.elim (fun y => by cases y) (fun y => by cases y)), dke_eUt a l X hX9 m, List.nil_append, List.map_map]
    rfl
theorem dke_eU (a : Nat) (l : List Nat) (X : List eT) (hX9 : eFr X) (b pv : Bool) (h : b = true → pv = true) (m : Nat) : dke a pv (eU l b m ++ X) = (if 0 < m ∧ l.head? = some a then [(b, true, l.tail) :: (eU l true (m - 1) ++ X)] else []) ++ (dke a false X).map (fun Q => eU l b m ++ Q) := by
  cases m with
  | zero =>
    rw [if_neg (fun z => by omega)]
    show dke a pv X = [] ++ (dke a false X).map (fun Q => [] ++ Q)
    rw [hX9 a pv]; simp
  | succ m =>
    show dke a pv ((b, false, l) :: (eU l true m ++ X)) = _
    rw [dke_c, dke_eUt a l X hX9 m, List.map_map, Nat.add_sub_cancel]
    have e1 : (l.head? = some a ∧ (b = false ∨ pv = true)) ↔ (0 < m + 1 ∧ l.head? = some a) := by
      refine ⟨fun z => ⟨by omega, z.1⟩, fun z => ⟨z.2, ?_⟩⟩
      cases b with
      | false => exact Or.inl rfl
      | true => exact Or.inr (h rfl)
    simp only [e1]
    rfl
theorem eS_snoc (t : List Nat) : ∀ (S : List (List Nat)) (b : Bool), eS b (S ++ [t]) = eS b S ++ [(if S = [] then b else true, true, t)]
  | [], b => rfl
  | s :: S, b => by
    rw [List.cons_append]
    show (b, true, s) :: eS true (S ++ [t]) = (b, true, s) :: (eS true S ++ _)
    rw [eS_snoc t S true]
    have : (if S = [] then true else true) = true := by split <;> rfl
    rw [this, if_neg (by simp : ¬ (s :: S) = [])]
theorem eR_take (S : List (List Nat)) (l : List Nat) {m : Nat} (hm : 0 < m) : eR (S ++ [l.tail], l, m - 1) = eS false S ++ ((decide (S ≠ []), true, l.tail) :: eU l true (m - 1)) := by
  unfold eR
  show eS false (S ++ [l.tail]) ++ eU l (decide (S ++ [l.tail] ≠ [])) (m - 1) = _
  rw [eS_snoc, List.append_assoc, decide_eq_true (show S ++ [l.tail] ≠ [] by simp)]
  have : (if S = [] then false else true) = decide (S ≠ []) := by
    by_cases q : S = []
    · rw [if_pos q, decide_eq_false (fun z => z q)]
    · rw [if_neg q, decide_eq_true q]
  rw [this]; rfl
theorem dke_eR (a : Nat) (r : rRun) (X : List eT) (hX9 : eFr X) (pv : Bool) : dke a pv (eR r ++ X) = (rd1 a r).map (fun r' => eR r' ++ X) ++ (dke a false X).map (fun Q => eR r ++ Q) := by
  obtain ⟨S, l, m⟩ := r
  have e0 : eR (S, l, m) = eS false S ++ eU l (decide (S ≠ [])) m := rfl
  rw [e0, List.append_assoc, dke_eS a _ S false pv (fun z => by cases z), dke_eU a l X hX9 (decide (S ≠ [])) _ (fun z => by
    have := of_decide_eq_true z
    rw [if_neg this]) m]
  unfold rd1
  simp only [List.map_append, List.map_map, List.append_assoc]
  congr 1
  · refine List.map_congr_left (fun S' hS' => ?_)
    show eS false S' ++ (eU l (decide (S ≠ [])) m ++ X) = eR (S', l, m) ++ X
    unfold eR
    have hl9 := (dvl_len a S).2 S' hS'
    have : decide (S ≠ []) = decide (S' ≠ []) := by
      refine decide_eq_decide.mpr ⟨fun h z => ?_, fun h z => ?_⟩
      · rw [z] at hl9; exact h (List.eq_nil_of_length_eq_zero hl9.symm)
      · rw [z] at hl9; exact h (List.eq_nil_of_length_eq_zero hl9)
    rw [this, List.append_assoc]
  · congr 1
    by_cases q : 0 < m ∧ l.head? = some a
    · rw [if_pos q, if_pos q, List.map_cons, List.map_nil, List.map_cons, List.map_nil, eR_take S l q.1]
      simp
    · rw [if_neg q, if_neg q]; rfl
theorem eA_fr : ∀ A, eFr (eA A)
  | [] => fun a pv => by show dke a pv [] = dke a false []; cases pv <;> rfl
  | r :: A => fun a pv => by rw [eA_cons, dke_eR a r _ (eA_fr A) pv, dke_eR a r _ (eA_fr A) false]
theorem dke_eA (a : Nat) : ∀ A, dke a false (eA A) = (rdA a A).map eA
  | [] => rfl
  | r :: A => by
    rw [eA_cons, dke_eR a r _ (eA_fr A) false, dke_eA a A, rdA, List.map_append, List.map_map, List.map_map, List.map_map]
    congr 1
theorem eS_r : ∀ (S : List (List Nat)) (b : Bool), (eS b S).map (fun e => e.2.2) = S
  | [], _ => rfl
  | s :: S, b => by show s :: (eS true S).map _ = _; rw [eS_r S true]
theorem eU_r (l : List Nat) : ∀ (m : Nat) (b : Bool), (eU l b m).map (fun e => e.2.2) = List.replicate m l
  | 0, _ => rfl
  | m + 1, b => by show l :: (eU l true m).map _ = _; rw [eU_r l m true]; rfl
theorem eA_r : ∀ A, (eA A).map (fun e => e.2.2) = rflA A
  | [] => rfl
  | r :: A => by
    rw [eA_cons, List.map_append, eA_r A]
    unfold rflA eR rfl9
    rw [List.flatMap_cons, List.map_append, eS_r, eU_r]
theorem kE_mK : ∀ (y : List Nat) (A : List rRun), kE y (eA A) = mK y A
  | [], A => by
    rw [kE_nil, mK_nil, ← eA_r A]
    by_cases q : ∀ e ∈ eA A, e.2.2 = []
    · rw [if_pos q, if_pos (fun r hr => by obtain ⟨e, h1, h2⟩ := List.mem_map.mp hr; rw [← h2]; exact q e h1)]
    · rw [if_neg q, if_neg (fun z => q (fun e he => z _ (List.mem_map.mpr ⟨e, he, rfl⟩)))]
  | a :: y, A => by
    rw [kE_cons, mK_cons, dke_eA, lsm_map]
    exact lsm_cg (fun A' _ => kE_mK y A')
/-- taking from the i-th factor -/
def cnE (pv : Bool) (E : List eT) (i : Nat) : Bool := match E[i]? with
  | none => false
  | some (rp, _, _) => !rp || (match i with | 0 => pv | j + 1 => (match E[j]? with | some (_, b, _) => b | none => false))
def hdE (E : List eT) (i : Nat) : Option Nat := match E[i]? with | some (_, _, r) => r.head? | none => none
def stE (E : List eT) (i : Nat) : List eT := match E[i]? with | some (rp, _, r) => E.set i (rp, true, r.tail) | none => E
theorem lsm_rng (n : Nat) (F : Nat → Nat) : lsm (List.range (n + 1)) F = F 0 + lsm (List.range n) (fun i => F (i + 1)) := by
  rw [List.range_succ_eq_map, lsm_cons, lsm_map]
theorem dke_rng (a : Nat) : ∀ (E : List eT) (pv : Bool) (G : List eT → Nat), lsm (dke a pv E) G = lsm (List.range E.length) (fun i => if hdE E i = some a ∧ cnE pv E i = true then G (stE E i) else 0)
  | [], pv, G => rfl
  | (rp, b, r) :: E, pv, G => by
    rw [dke_c, lsm_app, lsm_map, dke_rng a E b (fun Q => G ((rp, b, r) :: Q)), List.length_cons, lsm_rng]
    congr 1
    · have e1 : hdE ((rp, b, r) :: E) 0 = r.head? := rfl
      have e2 : cnE pv ((rp, b, r) :: E) 0 = (!rp || pv) := rfl
      have e3 : stE ((rp, b, r) :: E) 0 = (rp, true, r.tail) :: E := rfl
      rw [e1, e2, e3]
      have e4 : (r.head? = some a ∧ (rp = false ∨ pv = true)) ↔ (r.head? = some a ∧ (!rp || pv) = true) := by
        cases rp <;> cases pv <;> simp
      simp only [e4]
      split <;> simp [lsm_cons, lsm_nil]
    · refine lsm_cg (fun i _ => ?_)
      have e1 : hdE ((rp, b, r) :: E) (i + 1) = hdE E i := rfl
      have e2 : cnE pv ((rp, b, r) :: E) (i + 1) = cnE b E i := by
        unfold cnE
        rw [List.getElem?_cons_succ]
        cases E[i]? with
        | none => rfl
        | some e =>
          cases i with
          | zero => rfl
          | succ j => rfl
      have e3 : stE ((rp, b, r) :: E) (i + 1) = (rp, b, r) :: stE E i := by
        unfold stE
        rw [List.getElem?_cons_succ]
        cases E[i]? with
        | none => rfl
        | some e => rfl
      rw [e1, e2, e3]
end M31
