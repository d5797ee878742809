/-! what the statement gives of the start, as the fixed part of the world -/
section M48
variable {A : Array Value} {s : State}
theorem l_arr {ty : FieldType} (h : (Cond.arrayClass ty).before A s = true) : ∃ c, ArrOfT s c ty ∧ s.vm.findClass ("[" ++ ty.toString) = some c := by
  obtain ⟨c, k, comp, h1, h2, h3⟩ := Cond.arrayClass_spec h
  exact ⟨c, fun n z => ⟨(fun k h => by cases h), k, h2, comp, h3⟩, h1⟩
theorem l_arrA {ty : FieldType} (h : (Cond.arrayOver (.array ty)).before A s = true) : ∃ c, ArrOfT s c (.array ty) ∧ va_RA s c (.array ty) := by
  obtain ⟨comp, c, k, h0, h2, h3, h1⟩ := Cond.arrayOver_specA h
  exact ⟨c, fun n z => ⟨(fun k h => by cases h), k, h2, comp, h3⟩, h1⟩
theorem l_arrO {nm : String} (h : (Cond.arrayOver (.object nm)).before A s = true) : ∃ c, ArrOfT s c (.object nm) ∧ va_RA s c (.object nm) := by
  obtain ⟨comp, c, k, h0, _, h2, h3, h1⟩ := Cond.arrayOver_spec h
  exact ⟨c, fun n z => ⟨(fun k h => by cases h), k, h2, comp, h3⟩, k, comp, h2, h3, h0, h1⟩
theorem l_G (hts : ∀ w ∈ lw_tbl, w.before A s = true) : ∃ G : Nat → ClassId, ∀ (k : Nat) (q : ClassId × FieldType), (htys G)[k]? = some q → ArrOfT s q.1 q.2 ∧ va_RA s q.1 q.2 := by
  obtain ⟨c0, a0, b0⟩ := l_arr (hts (.arrayClass .int) (by decide +kernel))
  obtain ⟨c1, a1, b1⟩ := l_arr (hts (.arrayClass .long) (by decide +kernel))
  obtain ⟨c2, a2, b2⟩ := l_arr (hts (.arrayClass .byte) (by decide +kernel))
  obtain ⟨c3, a3, b3⟩ := l_arr (hts (.arrayClass .boolean) (by decide +kernel))
  obtain ⟨c4, a4, b4⟩ := l_arrO (hts (.arrayOver (.object "ShuffleAlgebra$Polynomial")) (by decide +kernel))
  obtain ⟨c5, a5, b5⟩ := l_arrA (hts (.arrayOver (.array .int)) (by decide +kernel))
  obtain ⟨c6, a6, b6⟩ := l_arrA (hts (.arrayOver (.array .long)) (by decide +kernel))
  refine ⟨fun k => [c0, c1, c2, c3, c4, c5, c6].getD k c0, fun k q hq => ?_⟩
  match k, hq with
  | 0, hq => cases hq; exact ⟨a0, b0⟩
  | 1, hq => cases hq; exact ⟨a1, b1⟩
  | 2, hq => cases hq; exact ⟨a2, b2⟩
  | 3, hq => cases hq; exact ⟨a3, b3⟩
  | 4, hq => cases hq; exact ⟨a4, b4⟩
  | 5, hq => cases hq; exact ⟨a5, b5⟩
  | 6, hq => cases hq; exact ⟨a6, b6⟩
  | k + 7, hq => cases hq
theorem l_D (hts : ∀ w ∈ lw_tbl, w.before A s = true) : ∃ D : va_G, ∀ (k : Nat) (q : vw_C), vwCl[k]? = some q → u_Kn s q.1 q.2.1 q.2.2 (D.1 k) (D.2 k) := by
  have hgw : ∀ w ∈ lw_g, w.before A s = true := fun w hw9 => hts w (List.mem_filter.mp hw9).1
  obtain ⟨c0, i0, h0⟩ := u_known hgw (lw_g_of inJ0) (hts (.instantiable RJ0 4) (by decide +kernel))
  obtain ⟨c1, i1, h1⟩ := u_known hgw (lw_g_of inJ4) (hts (.instantiable RJ4 4) (by decide +kernel))
  obtain ⟨c2, i2, h2⟩ := u_known hgw (lw_g_of inX1) (hts (.instantiable RX1 5) (by decide +kernel))
  obtain ⟨c3, i3, h3⟩ := u_known hgw (lw_g_of inX3) (hts (.instantiable RX3 3) (by decide +kernel))
  obtain ⟨c4, i4, h4⟩ := u_known hgw (lw_g_of inX6) (hts (.instantiable RX6 3) (by decide +kernel))
  obtain ⟨c5, i5, h5⟩ := u_known hgw (lw_g_of inX9) (hts (.instantiable RX9 10) (by decide +kernel))
  obtain ⟨c6, i6, h6⟩ := u_known hgw (lw_g_of inX10) (hts (.instantiable RX10 30) (by decide +kernel))
  refine ⟨(fun k => [c0, c1, c2, c3, c4, c5, c6].getD k c0, fun k => [i0, i1, i2, i3, i4, i5, i6].getD k i0), fun k q hq => ?_⟩
  match k, hq with
  | 0, hq => cases hq; exact h0
  | 1, hq => cases hq; exact h1
  | 2, hq => cases hq; exact h2
  | 3, hq => cases hq; exact h3
  | 4, hq => cases hq; exact h4
  | 5, hq => cases hq; exact h5
  | 6, hq => cases hq; exact h6
  | k + 7, hq => cases hq
/-- a private method of a class above -/
theorem l_sel {y z : MethodName} {C : String} {n : Nat} (hy : y.cls ≠ "java/lang/invoke/MethodHandle" ∧ y.cls ≠ "java/lang/invoke/VarHandle") (hC9 : (Cond.instantiable C n).before A s = true) (hpriv : (Cond.privateMethod y).before A s = true) (hinst : (Cond.instanceMethod y).before A s = true) (hz : (Cond.selects C z z).before A s = true) (hzc : z.cls = y.cls) : (Cond.selects C y y).before A s = true := by
  obtain ⟨c, k, hc, hk, -⟩ := Cond.instantiable_spec hC9
  obtain ⟨mk, methM, hnamed, hmethM, -, -⟩ := Cond.instanceMethod_spec hinst
  have hfound : s.methodFound? y.cls y.name y.desc = some mk := State.methodFound?_of_named hnamed hy
  have hsel : selectMethod {} s.vm c mk = .method mk := selectMethod_private hmethM (Cond.privateMethod_at hpriv mk methM hnamed hmethM)
  obtain ⟨c2, r2, m2, q1, q2, q3, q4, kP, hkP, hkPi⟩ := Cond.selects_spec hz
  have e1 := findClass_of_methodNamed q3
  have e2 := findClass_of_methodNamed hnamed
  rw [hzc, e2] at e1
  have e3 : mk.cls = m2.cls := Option.some.inj e1
  rw [← e3] at hkP
  simp only [Cond.before, Cond.holds, Cond.value, hc, hfound, hnamed, hsel, hkP]
  simp
  exact hkPi
theorem l_sels (hts : ∀ w ∈ lw_tbl, w.before A s = true) : ∀ w ∈ hsels, va_Nw w s := by
  have hC9 := hts (.instantiable RJ4 4) (by decide +kernel)
  have hz := hts (.selects "java/lang/StringBuilder" ⟨RJ5, "isLatin1", "()Z"⟩ ⟨RJ5, "isLatin1", "()Z"⟩) (by decide +kernel)
  have key : ∀ y : MethodName, y.cls = RJ5 → Cond.privateMethod y ∈ lw_tbl → Cond.instanceMethod y ∈ lw_tbl → va_Nw (.selects "java/lang/StringBuilder" y y) s := fun y e h1 h2 =>
    va_Nw.of rfl (l_sel (by rw [e]; exact ⟨by decide +kernel, by decide +kernel⟩) hC9 (hts _ h1) (hts _ h2) hz e.symm)
  unfold hsels
  simp only [List.forall_mem_cons]
  exact ⟨key _ rfl (by decide +kernel) (by decide +kernel), key _ rfl (by decide +kernel) (by decide +kernel), key _ rfl (by decide +kernel) (by decide +kernel), fun _ h => absurd h List.not_mem_nil⟩
/-- the start's conditions, flat -/
def lFl : List Cond := flatC (Jvm.Cond.and given_1 narrow_1)
theorem l_row {L2 : List Cond} {p n : Nat} {f : Nat → Cond} (h : (L2.drop p).take n = (List.range n).map f) {j : Nat} (hj : j < n) : f j ∈ L2 := by
  have h1 : f j ∈ (L2.drop p).take n := by rw [h]; exact List.mem_map.mpr ⟨j, List.mem_range.mpr hj, rfl⟩
  exact List.mem_of_mem_drop (List.mem_of_mem_take h1)
def lTm (k : Nat) : Term := .static (hstn k).1 (hstn k).2.1 (hstn k).2.2
theorem l_tab (hf : ∀ w ∈ lFl, w.before A s = true) {k p n : Nat} {ty : FieldType} {F : Nat → Int32} (hn : n < 2 ^ 31) (h1 : Cond.arrayOf (lTm k) ty ∈ lFl) (h2 : Cond.eq (.length (lTm k)) (.int (Int32.ofNat n)) ∈ lFl) (h3 : (lFl.drop p).take n = (List.range n).map (fun j => Cond.eq (.elem (lTm k) (.int (Int32.ofNat j))) (.int (F j)))) (hl9 : (Cond.laysStatic (hstn k).1 (hstn k).2.1 (hstn k).2.2).before A s = true) (hi9 : (Cond.initialized (hstn k).1).before A s = true) : ∃ t : Nat, t < s.heap.size ∧ va_Z (hstn k).1 (hstn k).2.1 (hstn k).2.2 (.ref t) (hAs s.heap.size) s s.heap ∧ va_T ty t n (fun j => .int (F j)) (hAs s.heap.size) s s.heap := by
  have hA : ∀ a : Nat, a < s.heap.size → ¬ hAs s.heap.size a := fun a h => Nat.not_le.mpr h
  obtain ⟨t, e, hT9⟩ := va_Tof (f := fun j => .int (F j)) (A := hAs s.heap.size) hn (hf _ h1) (va_eqt (hf _ h2)) (fun j hj => va_eqt (hf _ (l_row h3 hj))) hA
  exact ⟨t, Nat.not_le.mp hT9.out, va_Zof hl9 hi9 e hA, hT9⟩
theorem l_eqR {t1 t2 : Term} {a : Nat} (h : (Cond.eq t1 t2).before A s = true) (h1 : t1.eval A s none [] s = some (.ref a)) : t2.eval A s none [] s = some (.ref a) := by
  cases hv9 : t2.eval A s none [] s with
  | none => simp [Cond.before, Cond.holds, Cond.value, hv9, h1] at h
  | some v =>
    simp only [Cond.before, Cond.holds, Cond.value, hv9, h1] at h
    cases v <;> simp_all
def lKs : List Nat := [249, 257, 259, 261, 263]
def lKm : List Nat := [249, 255, 257, 259, 261]
def lBy : List (List Int32) := [(mtx 0).map nI, (mtx 1).map nI, (mtx 2).map nI, (mtx 3).map nI, (mtx 4).map nI]
def lLn : List Nat := [7, 6, 4, 3, 6]
def lVf (t : Term) : Term := .field t "java/lang/String" "value" "[B"
theorem l_str (hf : ∀ w ∈ lFl, w.before A s = true) : ∃ adK adV : Nat → Nat, vk_S 5 lLn lBy adK adV (hAs s.heap.size) s s.heap ∧ (∀ i, i < 5 → (Term.string "ShuffleAlgebra" (lKs.getD i 0)).eval A s none [] s = some (.ref (adK i))) ∧ ∀ i, i < 5 → (Term.string "ShuffleAlgebraModel" (lKm.getD i 0)).eval A s none [] s = some (.ref (adK i)) := by
  have hA : ∀ a : Nat, a < s.heap.size → ¬ hAs s.heap.size a := fun a h => Nat.not_le.mpr h
  have c1 : ((List.range 5).all fun i => decide (Cond.exactly (.string "ShuffleAlgebra" (lKs.getD i 0)) "java/lang/String" ∈ lFl) && decide (Cond.eq (.field (.string "ShuffleAlgebra" (lKs.getD i 0)) "java/lang/String" "coder" "B") (.int 0) ∈ lFl) && decide (Cond.arrayOf (lVf (.string "ShuffleAlgebra" (lKs.getD i 0))) .byte ∈ lFl) && decide (Cond.eq (.length (lVf (.string "ShuffleAlgebra" (lKs.getD i 0)))) (.int (Int32.ofNat (lLn.getD i 0))) ∈ lFl)) = true := by decide +kernel
  have c2 : ((List.range 5).all fun i => (List.range (lLn.getD i 0)).all fun j => decide (Cond.eq (.elem (lVf (.string "ShuffleAlgebra" (lKs.getD i 0))) (.int (Int32.ofNat j))) (.int ((lBy.getD i []).getD j 0)) ∈ lFl)) = true := by decide +kernel
  have c3 : ((List.range 5).all fun i => (List.range 5).all fun j => decide (i = j) || decide (Cond.not (.eq (.string "ShuffleAlgebra" (lKs.getD i 0)) (.string "ShuffleAlgebra" (lKs.getD j 0))) ∈ lFl) || decide (Cond.not (.eq (.string "ShuffleAlgebra" (lKs.getD j 0)) (.string "ShuffleAlgebra" (lKs.getD i 0))) ∈ lFl)) = true := by decide +kernel
  have c4 : ((List.range 5).all fun i => decide (Cond.eq (.string "ShuffleAlgebra" (lKs.getD i 0)) (.string "ShuffleAlgebraModel" (lKm.getD i 0)) ∈ lFl)) = true := by decide +kernel
  simp only [List.all_eq_true, List.mem_range, Bool.and_eq_true, Bool.or_eq_true, decide_eq_true_eq] at c1 c2 c3 c4
  obtain ⟨adK, adV, h1, h2⟩ := vk_Sof (args := A) (s := s) (N := 5) (tm := fun i => .string "ShuffleAlgebra" (lKs.getD i 0)) (len := lLn) (byt := lBy) (A := hAs s.heap.size) (by decide) (fun i hi => hf _ (c1 i hi).1.1.1) (fun i hi => hf _ (c1 i hi).1.1.2) (fun i hi => hf _ (c1 i hi).1.2) (fun i hi => hf _ (c1 i hi).2) (fun i hi j hj => hf _ (c2 i hi j hj)) (fun i j hi hj hij => by
    rcases c3 i hi j hj with (z | z) | z
    · exact absurd z hij
    · exact Or.inl (hf _ z)
    · exact Or.inr (hf _ z)) hA
  exact ⟨adK, adV, h1, h2, fun i hi => l_eqR (hf _ (c4 i hi)) (h2 i hi)⟩
end M48
