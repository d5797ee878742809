/-! the concrete side of the abstract worlds: addresses, the heap that holds a world, what is fixed for the whole run -/
def hAs (base : Nat) : Nat → Prop := fun q => base ≤ q
def hAd (base : Nat) (ad : Nat → Nat) : Prop := (∀ i, i < 1000000 → ad i = base + i) ∧ (∀ i, 1000000 ≤ i → ad i < base ∨ base + 1000000 ≤ ad i)
def htys (G : Nat → ClassId) : List (ClassId × FieldType) := [(G 0, .int), (G 1, .long), (G 2, .byte), (G 3, .boolean), (G 4, .object "ShuffleAlgebra$Polynomial"), (G 5, .array .int), (G 6, .array .long)]
def hv (ad : Nat → Nat) : Value → Value
  | .ref i => .ref (ad i)
  | v => v
def hAv (ad : Nat → Nat) : vp_A → vp_A
  | (n, .inr (.inr (.inr (.inr f)))) => (n, .inr (.inr (.inr (.inr fun i => (f i).map ad))))
  | x => x
def hEv (G : Nat → ClassId) (ad : Nat → Nat) : hE → va_E
  | .inl (t, x) => .inl (G t, hAv ad x)
  | .inr (ci, fs) => .inr (ci, fs.map (hv ad))
def hws (G : Nat → ClassId) (ad : Nat → Nat) (N : Nat) (w : hWd) : va_W := (List.range N).map fun i => (ad i, hEv G ad (w i))
def hmu : hE → Prop
  | .inl (t, _) => t < 7
  | .inr (c, fs) => c < 7 ∧ fs.length = hnum c
def hW (D : va_G) (G : Nat → ClassId) (ad : Nat → Nat) (base : Nat) (ρ : Nat → hE) (N : Nat) (w : hWd) (H : Heap) : Prop :=
  va_P D vwCl (hws G ad N w) H ∧ H.size = base + N ∧ (∀ i, N ≤ i → i < 1000000 → w i = .inr (99, [])) ∧ (∀ i, 1000000 ≤ i → w i = ρ (i - 1000000)) ∧ ∀ i, i < N → hmu (w i)
def hRa (ad : Nat → Nat) (A : Nat → Prop) (U : State) (H : Heap) (i : Nat) : hE → Prop
  | .inl (10, n, .inl f) => va_T .int (ad i) n (fun j => .int (f j)) A U H
  | .inl (12, n, .inl f) => va_T .byte (ad i) n (fun j => .int (f j)) A U H
  | .inr (10, [v, k]) => va_O "java/lang/String" (ad i) A U H ∧ va_OF "java/lang/String" "value" "[B" (hv ad v) (ad i) A U H ∧ va_OF "java/lang/String" "coder" "B" (hv ad k) (ad i) A U H
  | .inr (99, []) => True
  | _ => False
theorem hRa.moved {ad : Nat → Nat} {A : Nat → Prop} {u U : State} {H : Heap} {i : Nat} {e : hE} (hvm : u.vm.Alike U.vm) (h : hRa ad A u H i e) : hRa ad A U H i e := by
  unfold hRa at h ⊢
  split at h
  · exact h.moved hvm
  · exact h.moved hvm
  · exact ⟨h.1.moved hvm, h.2.1.moved hvm, h.2.2.moved hvm⟩
  · exact h
  · exact h
theorem hRa.kept {ad : Nat → Nat} {A : Nat → Prop} {U : State} {H H1 : Heap} {i : Nat} {e : hE} (h : hRa ad A U H i e) (hq : ∀ a : Nat, a < H.size → ¬ A a → H1[a]? = H[a]?) : hRa ad A U H1 i e := by
  unfold hRa at h ⊢
  split at h
  · exact h.kept hq
  · exact h.kept hq
  · exact ⟨h.1.kept hq, h.2.1.kept hq, h.2.2.kept hq⟩
  · exact h
  · exact h
/-- statics: class, name, descriptor -/
def hstn : Nat → String × String × String
  | 0 => ("java/lang/String", "COMPACT_STRINGS", "Z")
  | 1 => ("ShuffleAlgebra$Words", "POWERS", "[I")
  | 2 => ("ShuffleAlgebra$Lyndon", "COUNTS", "[I")
  | 3 => ("java/lang/Integer", "DigitTens", "[B")
  | 4 => ("java/lang/Integer", "DigitOnes", "[B")
  | _ => ("jdk/internal/util/Preconditions", "SIOOBE_FORMATTER", "Ljava/util/function/BiFunction;")
/-- text constants: class, place, text, number -/
def htxt : List (String × Nat × String × Nat) := [("ShuffleAlgebra", 249, "reverse", 0), ("ShuffleAlgebra", 257, "negate", 1), ("ShuffleAlgebra", 259, "even", 2), ("ShuffleAlgebra", 261, "odd", 3), ("ShuffleAlgebra", 263, "lyndon", 4), ("ShuffleAlgebraModel", 249, "reverse", 0), ("ShuffleAlgebraModel", 255, "negate", 1), ("ShuffleAlgebraModel", 257, "even", 2), ("ShuffleAlgebraModel", 259, "odd", 3), ("ShuffleAlgebraModel", 261, "lyndon", 4)]
/-- links to nest mates: own, place, method, host -/
def hnst : List (String × Nat × MethodName × String) := [("ShuffleAlgebra", 39, yX6_init, "ShuffleAlgebra"), ("ShuffleAlgebra", 46, yX1_init, "ShuffleAlgebra"), ("ShuffleAlgebra", 56, yX3_init, "ShuffleAlgebra"), ("ShuffleAlgebra", 78, yX5_occurrences, "ShuffleAlgebra"), ("ShuffleAlgebra", 83, yX5_covers, "ShuffleAlgebra"), ("ShuffleAlgebra$Sum", 64, yX9_fits, "ShuffleAlgebra"), ("ShuffleAlgebra", 128, yX4_addShuffles, "ShuffleAlgebra")]
/-- selects of an inherited private method -/
def hsels : List Cond := [.selects "java/lang/StringBuilder" yJ5_ensureCapacityInternal_d00df yJ5_ensureCapacityInternal_d00df, .selects "java/lang/StringBuilder" yJ5_newCapacity_0f7a4 yJ5_newCapacity_0f7a4, .selects "java/lang/StringBuilder" yJ5_inflate_da8c8 yJ5_inflate_da8c8]
theorem hsels_good : ∀ w ∈ hsels, (w.onTables && w.keeps) = true := by simp only [hsels, List.forall_mem_cons]; exact ⟨rfl, rfl, rfl, fun _ h => by cases h⟩
/-- arrays of arrays and of objects, bytes' clone -/
def htyo : List FieldType := [.object "ShuffleAlgebra$Polynomial", .array .int, .array .long]
def hXt (U : State) : Prop := (∀ ty ∈ htyo, (Cond.arrayOver ty).before #[] U = true) ∧ va_Nw (.castable "[B" "java/lang/Cloneable") U
theorem hXt.warm {u U : State} (hw : u.WarmedH U.vm) (h : hXt u) : hXt U := ⟨fun ty hty => by
    have h1 := Cond.arrayOver_setVmC (args := #[]) hw.alike ty
    rw [h.1 ty hty] at h1
    exact h1, va_Nw.warmC hw h.2⟩
theorem hXt.same {u U : State} (hvm : u.vm = U.vm) (h : hXt u) : hXt U := ⟨fun ty hty => by
    have h1 := Cond.arrayOver_setVmC (args := #[]) (s := u) (vm' := U.vm) (by rw [← hvm]; exact Vm.Alike.refl u.vm) ty
    rw [h.1 ty hty] at h1
    exact h1, va_Nw.same rfl hvm h.2⟩
theorem hXt.use {args : Array Value} {U : State} (h : hXt U) {ty : FieldType} (hty : ty ∈ htyo) : (Cond.arrayOver ty).before args U = true := h.1 ty hty
/-- what a static holds: the last one's object nobody asks for -/
def hsv (k : Nat) (v : Value) : Prop := if k = 5 then v = .null ∨ ∃ i, v = .ref i else v = hst k
def hFix (D : va_G) (G : Nat → ClassId) (ad : Nat → Nat) (base : Nat) (ρ : Nat → hE) (U : State) (H : Heap) : Prop :=
  va_K D vwCl (htys G) U ∧ (∀ i, 1000000 ≤ i → hRa ad (hAs base) U H i (ρ (i - 1000000))) ∧ (∀ k, k < 6 → ∃ v, hsv k v ∧ va_Z (hstn k).1 (hstn k).2.1 (hstn k).2.2 (hv ad v) (hAs base) U H) ∧
  (∀ q ∈ htxt, vk_R q.1 q.2.1 q.2.2.1 (ad (1000005 + q.2.2.2)) U) ∧ (∀ q ∈ hnst, va_Nw (.methodLinkNest q.1 q.2.1 q.2.2.1 q.2.2.2) U) ∧ hXt U ∧ base ≤ H.size ∧ ∀ w ∈ hsels, va_Nw w U
theorem hFix.to {D : va_G} {G : Nat → ClassId} {ad : Nat → Nat} {base : Nat} {ρ : Nat → hE} {s U : State} {H : Heap} {locs : List Loc} (h : hFix D G ad base ρ s s.heap) (hS : va_S (hAs base) s.heap H locs) (hU : U.heap = H) (hw : s.WarmedH U.vm) : hFix D G ad base ρ U U.heap := by
  obtain ⟨h1, h2, h3, h4, h5, h6, h7, h8⟩ := h
  subst hU
  have hvm := hw.alike
  exact ⟨va_K.moved hvm h1, fun i hi => ((h2 i hi).kept hS.2.1).moved hvm, fun k hk => (h3 k hk).imp (fun v z => ⟨z.1, (z.2.kept hS.2.1).moved hvm⟩), fun q hq => (h4 q hq).warm hw, fun q hq => (h5 q hq).warmM hw, h6.warm hw, Nat.le_trans h7 hS.1, fun w hw1 => word_at hw (Or.inl (hsels_good w hw1)) (h8 w hw1)⟩
theorem hFix.blind {D : va_G} {G : Nat → ClassId} {ad : Nat → Nat} {base : Nat} {ρ : Nat → hE} {U : State} {g : JFrame} {mk : MethodId} {a : Array Value} (h : hFix D G ad base ρ U U.heap) : hFix D G ad base ρ (U.calling g mk a) (U.calling g mk a).heap := by
  obtain ⟨h1, h2, h3, h4, h5, h6, h7, h8⟩ := h
  have hvm : U.vm.Alike (U.calling g mk a).vm := Vm.Alike.refl U.vm
  exact ⟨va_K.moved hvm h1, fun i hi => (h2 i hi).moved hvm, fun k hk => (h3 k hk).imp (fun v z => ⟨z.1, z.2.moved hvm⟩), fun q hq => vk_R.same rfl (h4 q hq), fun q hq => va_Nw.same rfl rfl (h5 q hq), h6.same rfl, h7, fun w hw1 => va_Nw.same (u := U) (by have := hsels_good w hw1; simp only [Bool.and_eq_true] at this; exact this.1) rfl (h8 w hw1)⟩
theorem hws_get {G : Nat → ClassId} {ad : Nat → Nat} {N : Nat} {w : hWd} {i : Nat} (h : i < N) : (hws G ad N w)[i]? = some (ad i, hEv G ad (w i)) := by
  unfold hws
  rw [List.getElem?_map, List.getElem?_range h]; rfl
theorem hws_in {G : Nat → ClassId} {ad : Nat → Nat} {N : Nat} {w : hWd} {k : Nat} {q : Nat × va_E} (h : (hws G ad N w)[k]? = some q) : k < N ∧ q = (ad k, hEv G ad (w k)) := by
  have hk : k < N := by
    have := (List.getElem?_eq_some_iff.mp h).1
    simpa [hws] using this
  rw [hws_get hk] at h
  exact ⟨hk, (Option.some.inj h).symm⟩
theorem hws_set {G : Nat → ClassId} {ad : Nat → Nat} {N : Nat} {w : hWd} {i : Nat} {e : hE} {x : Nat × va_E} (hx : x = (ad i, hEv G ad e)) : (hws G ad N w).set i x = hws G ad N (va_up w i e) := by
  subst hx
  apply List.ext_getElem?
  intro j
  rw [List.getElem?_set]
  by_cases hj : j < N
  · rw [hws_get hj, hws_get hj]
    by_cases h : i = j
    · subst h
      simp [hws, hj, va_up]
    · simp [h, va_up, Ne.symm h]
  · have h1 : (hws G ad N w)[j]? = none := List.getElem?_eq_none (by simp [hws]; omega)
    have h2 : (hws G ad N (va_up w i e))[j]? = none := List.getElem?_eq_none (by simp [hws]; omega)
    rw [h1, h2]
    by_cases h : i = j
    · subst h
      simp [hws, hj]
    · simp [h]
theorem hws_push {G : Nat → ClassId} {ad : Nat → Nat} {N : Nat} {w : hWd} {e : hE} : hws G ad (N + 1) (va_up w N e) = hws G ad N w ++ [(ad N, hEv G ad e)] := by
  unfold hws
  rw [List.range_succ, List.map_append]
  congr 1
  · apply List.map_congr_left
    intro j hj
    have : j ≠ N := by have := List.mem_range.mp hj; omega
    simp [va_up, this]
  · simp [va_up]
theorem hW.dis {D : va_G} {G : Nat → ClassId} {ad : Nat → Nat} {base : Nat} {ρ : Nat → hE} {N : Nat} {w : hWd} {H : Heap} (hA : hAd base ad) (hN : N ≤ 1000000) (_h : hW D G ad base ρ N w H) : va_D (hAs base) (hws G ad N w) := by
  refine ⟨fun i j p q hi hj e => ?_, fun k q hk => ?_⟩
  · obtain ⟨h1, rfl⟩ := hws_in hi
    obtain ⟨h2, rfl⟩ := hws_in hj
    have e : ad i = ad j := e
    rw [hA.1 i (by omega), hA.1 j (by omega)] at e
    omega
  · obtain ⟨h1, rfl⟩ := hws_in hk
    show base ≤ ad k
    rw [hA.1 k (by omega)]
    omega
theorem hW.lt {D : va_G} {G : Nat → ClassId} {ad : Nat → Nat} {base : Nat} {ρ : Nat → hE} {N : Nat} {w : hWd} {H : Heap} {i : Nat} (h : hW D G ad base ρ N w H) (h1 : w i ≠ .inr (99, [])) : i < N ∨ (1000000 ≤ i ∧ w i = ρ (i - 1000000)) := by
  by_cases hi : i < N
  · exact Or.inl hi
  · by_cases h2 : i < 1000000
    · exact absurd (h.2.2.1 i (by omega) h2) h1
    · exact Or.inr ⟨by omega, h.2.2.2.1 i (by omega)⟩
theorem hW.set {D : va_G} {G : Nat → ClassId} {ad : Nat → Nat} {base : Nat} {ρ : Nat → hE} {N : Nat} {w : hWd} {H H1 : Heap} {i : Nat} {e : hE} (h : hW D G ad base ρ N w H) (hi : i < N) (hN : N ≤ 1000000) (hm : hmu e) (hz : H1.size = H.size) (hP : va_P D vwCl (hws G ad N (va_up w i e)) H1) : hW D G ad base ρ N (va_up w i e) H1 := by
  refine ⟨hP, by rw [hz]; exact h.2.1, fun j h1 h2 => ?_, fun j h1 => ?_, fun j h1 => ?_⟩
  · have : j ≠ i := by omega
    rw [va_up_ne _ _ this]; exact h.2.2.1 j h1 h2
  · have : j ≠ i := by omega
    rw [va_up_ne _ _ this]; exact h.2.2.2.1 j h1
  · by_cases q : j = i
    · subst q; rw [va_up_self]; exact hm
    · rw [va_up_ne _ _ q]; exact h.2.2.2.2 j h1
theorem hW.push {D : va_G} {G : Nat → ClassId} {ad : Nat → Nat} {base : Nat} {ρ : Nat → hE} {N : Nat} {w : hWd} {H H1 : Heap} {e : hE} (h : hW D G ad base ρ N w H) (hN : N < 1000000) (hm : hmu e) (hz : H1.size = H.size + 1) (hP : va_P D vwCl (hws G ad N w ++ [(ad N, hEv G ad e)]) H1) : hW D G ad base ρ (N + 1) (va_up w N e) H1 := by
  refine ⟨by rw [hws_push]; exact hP, by rw [hz, h.2.1]; omega, fun j h1 h2 => ?_, fun j h1 => ?_, fun j h1 => ?_⟩
  · have : j ≠ N := by omega
    rw [va_up_ne _ _ this]; exact h.2.2.1 j (by omega) h2
  · have : j ≠ N := by omega
    rw [va_up_ne _ _ this]; exact h.2.2.2.1 j h1
  · by_cases q : j = N
    · subst q; rw [va_up_self]; exact hm
    · rw [va_up_ne _ _ q]; exact h.2.2.2.2 j (by omega)
/-- several cells are made -/
theorem hW.grows {D : va_G} {G : Nat → ClassId} {ad : Nat → Nat} {base : Nat} {ρ : Nat → hE} {N k : Nat} {w w' : hWd} {H H1 : Heap} (h : hW D G ad base ρ N w H) (hN : N + k ≤ 1000000) (z : H1.size = H.size + k) (oq : ∀ q : Nat, q < H.size → H1[q]? = H[q]?)
    (hold : ∀ i, (i < N ∨ N + k ≤ i) → w' i = w i) (hnew : ∀ i, N ≤ i → i < N + k → hmu (w' i) ∧ va_at D vwCl (ad i, hEv G ad (w' i)) H1) : hW D G ad base ρ (N + k) w' H1 := by
  refine ⟨fun j q hq => ?_, by rw [z, h.2.1]; omega, fun j h1 h2 => ?_, fun j h1 => ?_, fun j h1 => ?_⟩
  · obtain ⟨hj, rfl⟩ := hws_in hq
    by_cases hjN : j < N
    · rw [hold j (Or.inl hjN)]
      exact (h.1.kept fun k q hq => oq q.1 (h.1 k q hq).lt) j _ (hws_get hjN)
    · exact (hnew j (by omega) hj).2
  · rw [hold j (Or.inr (by omega))]; exact h.2.2.1 j (by omega) h2
  · rw [hold j (Or.inr (by omega))]; exact h.2.2.2.1 j h1
  · by_cases hjN : j < N
    · rw [hold j (Or.inl hjN)]; exact h.2.2.2.2 j hjN
    · exact (hnew j (by omega) h1).1
theorem hmulR_at (t k N : Nat) (w : hWd) : ∀ (n i : Nat), hmulR t k N w n i = if N + 1 ≤ i ∧ i < N + 1 + n then hzero t k else w i
  | 0, i => by
    show w i = _
    rw [if_neg (by omega)]
  | n + 1, i => by
    show va_up (hmulR t k N w n) (N + 1 + n) (hzero t k) i = _
    by_cases e : i = N + 1 + n
    · subst e
      rw [va_up_self, if_pos (by omega)]
    · rw [va_up_ne _ _ e, hmulR_at t k N w n i]
      by_cases h : N + 1 ≤ i ∧ i < N + 1 + n
      · rw [if_pos h, if_pos (by omega)]
      · rw [if_neg h, if_neg (by omega)]
theorem hmul_at (t n k N : Nat) (w : hWd) (i : Nat) : hmul t n k N w i = if i = N then .inl (5 + t, n, .inr (.inr (.inr (.inr fun i => if i < n then some (N + 1 + i) else none)))) else if N + 1 ≤ i ∧ i < N + 1 + n then hzero t k else w i := by
  unfold hmul
  rw [hmulR_at]
  by_cases e : i = N
  · subst e
    rw [if_neg (by omega), va_up_self, if_pos rfl]
  · rw [if_neg e, va_up_ne _ _ e]
/-! locals -/
def hl (ad : Nat → Nat) (la : Array Slot) (nL : Nat) (ls : hLs) : Prop := ls.length = nL ∧ ∃ l, lv_has la nL l ∧ ∀ k v, hnth ls k = some v → (k, hv ad v) ∈ l
theorem hnth_lt : ∀ {ls : hLs} {k : Nat} {v : Value}, hnth ls k = some v → k < ls.length
  | [], k, v, h => by cases k <;> cases h
  | _ :: _, 0, v, h => Nat.succ_pos _
  | _ :: l, k + 1, v, h => Nat.succ_lt_succ (hnth_lt (ls := l) (k := k) h)
theorem hput_len : ∀ (ls : hLs) (k : Nat) (v : Option Value), (hput ls k v).length = ls.length
  | [], _, _ => rfl
  | _ :: _, 0, _ => rfl
  | _ :: l, k + 1, v => congrArg Nat.succ (hput_len l k v)
theorem hnth_put : ∀ (ls : hLs) (k j : Nat) (v : Option Value) (x : Value), hnth (hput ls k v) j = some x → (j = k ∧ v = some x) ∨ (j ≠ k ∧ hnth ls j = some x)
  | [], k, j, v, x, h => by cases j <;> cases h
  | a :: l, 0, 0, v, x, h => Or.inl ⟨rfl, h⟩
  | a :: l, 0, j + 1, v, x, h => Or.inr ⟨by omega, h⟩
  | a :: l, k + 1, 0, v, x, h => Or.inr ⟨by omega, h⟩
  | a :: l, k + 1, j + 1, v, x, h => by
    rcases hnth_put l k j v x h with ⟨h1, h2⟩ | ⟨h1, h2⟩
    · exact Or.inl ⟨by omega, h2⟩
    · exact Or.inr ⟨by omega, h2⟩
theorem hl.at {ad : Nat → Nat} {la : Array Slot} {nL : Nat} {ls : hLs} (h : hl ad la nL ls) {k : Nat} {v : Value} (hk : hnth ls k = some v) : la[k]? = some (.val (hv ad v)) := by
  obtain ⟨h0, l, h1, h2⟩ := h
  exact h1.2.2 _ (h2 k v hk)
theorem hl.lt {ad : Nat → Nat} {la : Array Slot} {nL : Nat} {ls : hLs} (h : hl ad la nL ls) {k : Nat} {v : Value} (hk : hnth ls k = some v) : k < nL := by
  have := hnth_lt hk
  have := h.1
  omega
theorem hv_cat2 {ad : Nat → Nat} {v : Value} (h : (hv ad v).category = 2) : hcat2 (some v) = true := by
  cases v <;> first | rfl | (simp [hv, Value.category] at h)
/-- behind a store of one slot -/
theorem hl.put1 {ad : Nat → Nat} {la' : Array Slot} {nL : Nat} {ls : hLs} {l : List (Nat × Value)} {i : Nat} {v : Value} (h0 : ls.length = nL) (h2 : ∀ k v, hnth ls k = some v → (k, hv ad v) ∈ l) (ho : hok ls i = true)
    (h' : lv_has la' nL ((i, hv ad v) :: l.filter (fun q => !(q.1 == i) && !(q.1 + 1 == i && q.2.category == 2)))) : hl ad la' nL (hput ls i (some v)) := by
  refine ⟨by rw [hput_len]; exact h0, _, h', fun k x hk => ?_⟩
  rcases hnth_put _ _ _ _ _ hk with ⟨rfl, h⟩ | ⟨h1, h3⟩
  · cases h
    exact List.mem_cons_self
  · refine List.mem_cons_of_mem _ (List.mem_filter.mpr ⟨h2 k x h3, ?_⟩)
    have a1 : (k == i) = false := by simpa using h1
    simp only [a1, Bool.not_false, Bool.true_and, Bool.not_eq_true', Bool.and_eq_false_iff]
    by_cases e : k + 1 = i
    · right
      subst e
      have h9 : hcat2 (some x) = false := by
        have : hok ls (k + 1) = !hcat2 (hnth ls k) := rfl
        rw [this, h3] at ho
        simpa using ho
      cases hc : ((hv ad x).category == 2) with
      | false => rfl
      | true =>
        have := hv_cat2 (ad := ad) (v := x) (by simpa using hc)
        rw [this] at h9; cases h9
    · left
      simpa using e
theorem hl.put2 {ad : Nat → Nat} {la' : Array Slot} {nL : Nat} {ls : hLs} {l : List (Nat × Value)} {i : Nat} {v : Value} (h0 : ls.length = nL) (h2 : ∀ k v, hnth ls k = some v → (k, hv ad v) ∈ l) (ho : hok ls i = true)
    (h' : lv_has la' nL ((i, hv ad v) :: l.filter (fun q => !(q.1 == i) && (!(q.1 == i + 1) && !(q.1 + 1 == i && q.2.category == 2))))) : hl ad la' nL (hput (hput ls i (some v)) (i + 1) none) := by
  refine ⟨by rw [hput_len, hput_len]; exact h0, _, h', fun k x hk => ?_⟩
  rcases hnth_put _ _ _ _ _ hk with ⟨_, h⟩ | ⟨h5, h6⟩
  · cases h
  rcases hnth_put _ _ _ _ _ h6 with ⟨rfl, h⟩ | ⟨h1, h3⟩
  · cases h
    exact List.mem_cons_self
  · refine List.mem_cons_of_mem _ (List.mem_filter.mpr ⟨h2 k x h3, ?_⟩)
    have a1 : (k == i) = false := by simpa using h1
    have a2 : (k == i + 1) = false := by simpa using h5
    simp only [a1, a2, Bool.not_false, Bool.true_and, Bool.not_eq_true', Bool.and_eq_false_iff]
    by_cases e : k + 1 = i
    · right
      subst e
      have h9 : hcat2 (some x) = false := by
        have : hok ls (k + 1) = !hcat2 (hnth ls k) := rfl
        rw [this, h3] at ho
        simpa using ho
      cases hc : ((hv ad x).category == 2) with
      | false => rfl
      | true =>
        have := hv_cat2 (ad := ad) (v := x) (by simpa using hc)
        rw [this] at h9; cases h9
    · left
      simpa using e
/-- fewer locals are known -/
def hsub : hLs → hLs → Prop
  | [], [] => True
  | _ :: l, none :: l' => hsub l l'
  | a :: l, some v :: l' => a = some v ∧ hsub l l'
  | _, _ => False
theorem hsub_len : ∀ {a b : hLs}, hsub a b → b.length = a.length
  | [], [], _ => rfl
  | _ :: l, none :: l', h => congrArg Nat.succ (hsub_len (a := l) (b := l') h)
  | a :: l, some v :: l', h => congrArg Nat.succ (hsub_len (a := l) (b := l') h.2)
theorem hsub_nth : ∀ {a b : hLs}, hsub a b → ∀ k v, hnth b k = some v → hnth a k = some v
  | [], [], _, k, v, h => by cases k <;> cases h
  | _ :: l, none :: l', h, 0, v, hk => by cases hk
  | _ :: l, none :: l', h, k + 1, v, hk => hsub_nth (a := l) (b := l') h k v hk
  | a :: l, some x :: l', h, 0, v, hk => h.1.trans hk
  | a :: l, some x :: l', h, k + 1, v, hk => hsub_nth (a := l) (b := l') h.2 k v hk
theorem hl.sub {ad : Nat → Nat} {la : Array Slot} {nL : Nat} {a b : hLs} (h : hl ad la nL a) (hs : hsub a b) : hl ad la nL b := by
  obtain ⟨h0, l, h1, h2⟩ := h
  exact ⟨(hsub_len hs).trans h0, l, h1, fun k v hk => h2 k v (hsub_nth hs k v hk)⟩
/-- the locals with which a method begins -/
def hlarg : List Value → hLs
  | [] => []
  | .long x :: vs => some (.long x) :: none :: hlarg vs
  | .double x :: vs => some (.double x) :: none :: hlarg vs
  | v :: vs => some v :: hlarg vs
def hent (vs : List Value) (n : Nat) : hLs := hlarg vs ++ List.replicate (n - (hlarg vs).length) none
theorem hnth_rep : ∀ (n k : Nat) (v : Value), hnth (List.replicate n none) k = some v → False
  | 0, k, v, h => by cases k <;> cases h
  | n + 1, 0, v, h => by cases h
  | n + 1, k + 1, v, h => hnth_rep n k v h
theorem hlarg_in (ad : Nat → Nat) : ∀ (vs : List Value) (n i k : Nat) (v : Value), hnth (hlarg vs ++ List.replicate n none) k = some v → (i + k, hv ad v) ∈ lv_args i (vs.map (hv ad))
  | [], n, i, k, v, h => by
    exact (hnth_rep n k v h).elim
  | x :: vs, n, i, k, v, h => by
    have one : ∀ (_ : (hv ad x).category ≠ 2) (_ : hlarg (x :: vs) = some x :: hlarg vs), (i + k, hv ad v) ∈ lv_args i ((x :: vs).map (hv ad)) := by
      intro hc he
      rw [he] at h
      show (i + k, hv ad v) ∈ lv_args i (hv ad x :: vs.map (hv ad))
      simp only [lv_args, if_neg hc]
      cases k with
      | zero => cases h; exact List.mem_cons_self
      | succ k =>
        have := hlarg_in ad vs n (i + 1) k v h
        rw [show i + 1 + k = i + (k + 1) by omega] at this
        exact List.mem_cons_of_mem _ this
    have two : ∀ (_ : (hv ad x).category = 2) (_ : hlarg (x :: vs) = some x :: none :: hlarg vs), (i + k, hv ad v) ∈ lv_args i ((x :: vs).map (hv ad)) := by
      intro hc he
      rw [he] at h
      show (i + k, hv ad v) ∈ lv_args i (hv ad x :: vs.map (hv ad))
      simp only [lv_args, if_pos hc]
      cases k with
      | zero => cases h; exact List.mem_cons_self
      | succ k => cases k with
        | zero => cases h
        | succ k =>
          have := hlarg_in ad vs n (i + 2) k v h
          rw [show i + 2 + k = i + (k + 1 + 1) by omega] at this
          exact List.mem_cons_of_mem _ this
    cases x with
    | long x => exact two rfl rfl
    | double x => exact two rfl rfl
    | int x => exact one (fun h => by cases h) rfl
    | float x => exact one (fun h => by cases h) rfl
    | ref x => exact one (fun h => by cases h) rfl
    | null => exact one (fun h => by cases h) rfl
    | _ => exact one (fun h => by cases h) rfl
theorem hlarg_len (ad : Nat → Nat) : ∀ vs : List Value, (lg_sl (vs.map (hv ad))).length = (hlarg vs).length
  | [] => rfl
  | x :: vs => by
    have ih := hlarg_len ad vs
    have e : lg_sl ((x :: vs).map (hv ad)) = lg_sl [hv ad x] ++ lg_sl (vs.map (hv ad)) := by simp [lg_sl]
    rw [e, List.length_append, ih]
    cases x <;> simp [lg_sl, hv, Value.category, hlarg, Nat.add_comm] <;> omega
theorem hl.entry {ad : Nat → Nat} (vs : List Value) {n : Nat} (h : (hlarg vs).length ≤ n) : hl ad ((lg_sl (vs.map (hv ad)) ++ List.replicate (n - (lg_sl (vs.map (hv ad))).length) Slot.unset).toArray) n (hent vs n) := by
  have hlen := hlarg_len ad vs
  refine ⟨by simp [hent]; omega, _, lv_entry _ (by omega), fun k v hk => ?_⟩
  have := hlarg_in ad vs _ 0 k v hk
  rwa [Nat.zero_add] at this
