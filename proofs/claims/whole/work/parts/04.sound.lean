/-! soundness of hx, instruction by instruction -/
def lw_g : List Cond := lw_tbl.filter goodWord
theorem lw_g_in {i : Nat} {w : Cond} (h : lw_tbl[i]? = some w) (hg : goodWord w = true) : w ∈ lw_g := List.mem_filter.mpr ⟨List.mem_of_getElem? h, hg⟩
theorem lw_g_of {ws : List Cond} (h : GoodIn lw_tbl ws) : ∀ w ∈ ws, w ∈ lw_g := fun w hw => by
  obtain ⟨h1, h2⟩ := h w hw
  refine List.mem_filter.mpr ⟨h1, ?_⟩
  rcases h2 with h2 | ⟨ty, rfl⟩
  · cases w <;> first | exact h2 | rfl
  · rfl
theorem lw_g_good : ∀ w ∈ lw_g, ((w.onTables && w.keeps) = true ∨ ∃ ty, w = .arrayClass ty) := fun _ h => good_of_word (List.mem_filter.mp h).2
def hT : Nat → u_T
  | 0 => TJ0
  | 1 => TJ4
  | 2 => TX1
  | 3 => TX3
  | 4 => TX6
  | 5 => TX9
  | _ => TX10
def hC : Nat → String
  | 0 => RJ0
  | 1 => RJ4
  | 2 => RX1
  | 3 => RX3
  | 4 => RX6
  | 5 => RX9
  | _ => RX10
theorem hcls {ci : Nat} (h : ci < 7) : vwCl[ci]? = some (hC ci, hT ci, hnum ci) ∧ (∀ w ∈ u_ws (hC ci) (hT ci) (hnum ci), w ∈ lw_g) ∧ (∀ k, k < hnum ci → parseFieldDescriptor (hT ci k).2.2.1 = some (hfty ci k)) ∧ ∀ a, a < hnum ci → ∀ b, b < hnum ci → a ≠ b → (hT ci a).2.1 ≠ (hT ci b).2.1 := by
  match ci, h with
  | 0, _ => exact ⟨rfl, lw_g_of inJ0, tyJ0_ok, nmJ0⟩
  | 1, _ => exact ⟨rfl, lw_g_of inJ4, tyJ4_ok, nmJ4⟩
  | 2, _ => exact ⟨rfl, lw_g_of inX1, tyX1_ok, nmX1⟩
  | 3, _ => exact ⟨rfl, lw_g_of inX3, tyX3_ok, nmX3⟩
  | 4, _ => exact ⟨rfl, lw_g_of inX6, tyX6_ok, nmX6⟩
  | 5, _ => exact ⟨rfl, lw_g_of inX9, tyX9_ok, nmX9⟩
  | 6, _ => exact ⟨rfl, lw_g_of inX10, tyX10_ok, nmX10⟩
/-- what holds during a method's walk -/
def hCtx (p : Program) (R : Room) (s : State) (m : MethodId) (args : Array Value) (c : Code) (D : va_G) (G : Nat → ClassId) (ad : Nat → Nat) (base : Nat) (ρ : Nat → hE) (own : String) (cc : ByteArray) (nL mc ms B d : Nat) : Prop :=
  p.tables.exec = Jvm.exec ∧ c.code = cc ∧ c.maxLocals = nL ∧ s.vm.findClass own = some m.cls ∧ (∀ w ∈ lw_g, w.before args s = true) ∧ hFix D G ad base ρ s s.heap ∧ R.cells = mc ∧ R.slots = ms ∧ hAd base ad ∧ B ≤ 1000000 ∧ d + 1 ≤ R.frames ∧ 60 * (d + 1) ≤ R.locals
/-- the state of a walk -/
def hAW (p : Program) (l : Launch) (e : Env) (R : Room) (s : State) (m : MethodId) (args : Array Value) (below : List Frame) (meth : Method) (c : Code) (D : va_G) (G : Nat → ClassId) (ad : Nat → Nat) (base : Nat) (ρ : Nat → hE) (nL mc ms B : Nat) (Qf : State → Prop) : hPt := fun N c' s' w pc ls st =>
  c' ≤ mc → s' ≤ ms → N + c' ≤ B → ∀ (H : Heap) (locs : List Loc) (la : Array Slot), hW D G ad base ρ N w H → va_S (hAs base) s.heap H locs → hl ad la nL ls →
    W p l e R s m args below meth c H locs (mc - c') (ms - s') Qf (F0 m pc la (st.map (hv ad)))
theorem hldI_d {o : Option Value} {k : Int32 → Prop} (h : hldI o k) : ∃ x, o = some (.int x) ∧ k x := by
  unfold hldI at h; split at h
  · exact ⟨_, rfl, h⟩
  · exact h.elim
theorem hldL_d {o : Option Value} {k : Int64 → Prop} (h : hldL o k) : ∃ x, o = some (.long x) ∧ k x := by
  unfold hldL at h; split at h
  · exact ⟨_, rfl, h⟩
  · exact h.elim
theorem hldR_d {o : Option Value} {k : Value → Prop} (h : hldR o k) : (∃ a, o = some (.ref a) ∧ k (.ref a)) ∨ (o = some .null ∧ k .null) := by
  unfold hldR at h; split at h
  · exact Or.inl ⟨_, rfl, h⟩
  · exact Or.inr ⟨rfl, h⟩
  · exact h.elim
theorem hpI_d {o : List Value} {k : Int32 → List Value → Prop} (h : hpI o k) : ∃ x r, o = .int x :: r ∧ k x r := by
  unfold hpI at h; split at h
  · exact ⟨_, _, rfl, h⟩
  · exact h.elim
theorem hpL_d {o : List Value} {k : Int64 → List Value → Prop} (h : hpL o k) : ∃ x r, o = .long x :: r ∧ k x r := by
  unfold hpL at h; split at h
  · exact ⟨_, _, rfl, h⟩
  · exact h.elim
theorem hpA_d {o : List Value} {k : Nat → List Value → Prop} (h : hpA o k) : ∃ x r, o = .ref x :: r ∧ k x r := by
  unfold hpA at h; split at h
  · exact ⟨_, _, rfl, h⟩
  · exact h.elim
theorem hpR_d {o : List Value} {k : Value → List Value → Prop} (h : hpR o k) : (∃ x r, o = .ref x :: r ∧ k (.ref x) r) ∨ (∃ r, o = .null :: r ∧ k .null r) := by
  unfold hpR at h; split at h
  · exact Or.inl ⟨_, _, rfl, h⟩
  · exact Or.inr ⟨_, rfl, h⟩
  · exact h.elim
theorem hp1_d {o : List Value} {k : Value → List Value → Prop} (h : hp1 o k) : ∃ v r, o = v :: r ∧ k v r ∧ ∀ ad, (hv ad v).category = 1 := by
  unfold hp1 at h; split at h
  · exact ⟨_, _, rfl, h, fun _ => rfl⟩
  · exact ⟨_, _, rfl, h, fun _ => rfl⟩
  · exact ⟨_, _, rfl, h, fun _ => rfl⟩
  · exact h.elim
theorem hpV_d {o : List Value} {k : Value → List Value → Prop} (h : hpV o k) : ∃ v r, o = v :: r ∧ k v r := by
  unfold hpV at h; split at h
  · exact ⟨_, _, rfl, h⟩
  · exact h.elim
section HS
variable {p : Program} {l : Launch} {e : Env} {R : Room} {s : State} {m : MethodId} {args : Array Value} {below : List Frame} {meth : Method} {c : Code} {D : va_G} {G : Nat → ClassId} {ad : Nat → Nat} {base : Nat} {ρ : Nat → hE} {own : String} {cc : ByteArray} {nL mc ms B d : Nat} {Qf : State → Prop}
variable {Γ : hGm} {ret : Option FieldType} {pc a1 a2 : Nat} {z : Int} {y : MethodName} {wi : List Nat} {N c' s' : Nat} {w : hWd} {ls : hLs} {st : List Value} {K : hPt} {Rt : hRt}
variable {d0 : Nat}
theorem hs_iload {j : Nat} (C : hCtx p R s m args c D G ad base ρ own cc nL mc ms B d) (hd : decode cc pc = .ok (.iload j, 2))  (h : hx Γ ret (pc, .iload j, a1, a2, z, y, wi) N c' s' w ls st K Rt) (hK : ∀ N c' s' w pc ls st, K N c' s' w pc ls st → hAW p l e R s m args below meth c D G ad base ρ nL mc ms B Qf N c' s' w pc ls st) : hAW p l e R s m args below meth c D G ad base ρ nL mc ms B Qf N c' s' w pc ls st := by
  obtain ⟨x, h1, h⟩ := hldI_d h
  intro g1 g2 g3 H locs la hw hS hl
  exact lv_iload C.1 C.2.1 hd (hl.at h1) (hK _ _ _ _ _ _ _ h g1 g2 g3 H locs la hw hS hl)
theorem hs_iload_n {j : Fin 4} (C : hCtx p R s m args c D G ad base ρ own cc nL mc ms B d) (hd : decode cc pc = .ok (.iload_n j, 1))  (h : hx Γ ret (pc, .iload_n j, a1, a2, z, y, wi) N c' s' w ls st K Rt) (hK : ∀ N c' s' w pc ls st, K N c' s' w pc ls st → hAW p l e R s m args below meth c D G ad base ρ nL mc ms B Qf N c' s' w pc ls st) : hAW p l e R s m args below meth c D G ad base ρ nL mc ms B Qf N c' s' w pc ls st := by
  obtain ⟨x, h1, h⟩ := hldI_d h
  intro g1 g2 g3 H locs la hw hS hl
  exact lv_iload_n C.1 C.2.1 hd rfl (hl.at h1) (hK _ _ _ _ _ _ _ h g1 g2 g3 H locs la hw hS hl)
theorem hs_lload {j : Nat} (C : hCtx p R s m args c D G ad base ρ own cc nL mc ms B d) (hd : decode cc pc = .ok (.lload j, 2))  (h : hx Γ ret (pc, .lload j, a1, a2, z, y, wi) N c' s' w ls st K Rt) (hK : ∀ N c' s' w pc ls st, K N c' s' w pc ls st → hAW p l e R s m args below meth c D G ad base ρ nL mc ms B Qf N c' s' w pc ls st) : hAW p l e R s m args below meth c D G ad base ρ nL mc ms B Qf N c' s' w pc ls st := by
  obtain ⟨x, h1, h⟩ := hldL_d h
  intro g1 g2 g3 H locs la hw hS hl
  exact lv_lload C.1 C.2.1 hd (hl.at h1) (hK _ _ _ _ _ _ _ h g1 g2 g3 H locs la hw hS hl)
theorem hs_lload_n {j : Fin 4} (C : hCtx p R s m args c D G ad base ρ own cc nL mc ms B d) (hd : decode cc pc = .ok (.lload_n j, 1))  (h : hx Γ ret (pc, .lload_n j, a1, a2, z, y, wi) N c' s' w ls st K Rt) (hK : ∀ N c' s' w pc ls st, K N c' s' w pc ls st → hAW p l e R s m args below meth c D G ad base ρ nL mc ms B Qf N c' s' w pc ls st) : hAW p l e R s m args below meth c D G ad base ρ nL mc ms B Qf N c' s' w pc ls st := by
  obtain ⟨x, h1, h⟩ := hldL_d h
  intro g1 g2 g3 H locs la hw hS hl
  exact lv_lload_n C.1 C.2.1 hd rfl (hl.at h1) (hK _ _ _ _ _ _ _ h g1 g2 g3 H locs la hw hS hl)
theorem hs_aload {j : Nat} (C : hCtx p R s m args c D G ad base ρ own cc nL mc ms B d) (hd : decode cc pc = .ok (.aload j, 2))  (h : hx Γ ret (pc, .aload j, a1, a2, z, y, wi) N c' s' w ls st K Rt) (hK : ∀ N c' s' w pc ls st, K N c' s' w pc ls st → hAW p l e R s m args below meth c D G ad base ρ nL mc ms B Qf N c' s' w pc ls st) : hAW p l e R s m args below meth c D G ad base ρ nL mc ms B Qf N c' s' w pc ls st := by
  rcases hldR_d h with ⟨a, h1, h⟩ | ⟨h1, h⟩
  · intro g1 g2 g3 H locs la hw hS hl
    exact lv_aload C.1 C.2.1 hd (hl.at h1) (hK _ _ _ _ _ _ _ h g1 g2 g3 H locs la hw hS hl)
  · intro g1 g2 g3 H locs la hw hS hl
    exact lv_aloadN C.1 C.2.1 hd (hl.at h1) (hK _ _ _ _ _ _ _ h g1 g2 g3 H locs la hw hS hl)
theorem hs_aload_n {j : Fin 4} (C : hCtx p R s m args c D G ad base ρ own cc nL mc ms B d) (hd : decode cc pc = .ok (.aload_n j, 1))  (h : hx Γ ret (pc, .aload_n j, a1, a2, z, y, wi) N c' s' w ls st K Rt) (hK : ∀ N c' s' w pc ls st, K N c' s' w pc ls st → hAW p l e R s m args below meth c D G ad base ρ nL mc ms B Qf N c' s' w pc ls st) : hAW p l e R s m args below meth c D G ad base ρ nL mc ms B Qf N c' s' w pc ls st := by
  rcases hldR_d h with ⟨a, h1, h⟩ | ⟨h1, h⟩
  · intro g1 g2 g3 H locs la hw hS hl
    exact lv_aload_n C.1 C.2.1 hd rfl (hl.at h1) (hK _ _ _ _ _ _ _ h g1 g2 g3 H locs la hw hS hl)
  · intro g1 g2 g3 H locs la hw hS hl
    exact lv_aload_nN C.1 C.2.1 hd rfl (hl.at h1) (hK _ _ _ _ _ _ _ h g1 g2 g3 H locs la hw hS hl)
theorem hs_istore {j : Nat} (C : hCtx p R s m args c D G ad base ρ own cc nL mc ms B d) (hd : decode cc pc = .ok (.istore j, 2)) (hj : j < nL) (h : hx Γ ret (pc, .istore j, a1, a2, z, y, wi) N c' s' w ls st K Rt) (hK : ∀ N c' s' w pc ls st, K N c' s' w pc ls st → hAW p l e R s m args below meth c D G ad base ρ nL mc ms B Qf N c' s' w pc ls st) : hAW p l e R s m args below meth c D G ad base ρ nL mc ms B Qf N c' s' w pc ls st := by
  obtain ⟨x, r, rfl, ho, h⟩ := hpI_d h
  intro g1 g2 g3 H locs la hw hS ⟨hl0, lv, hl1, hl2⟩
  exact lv_istore C.1 C.2.1 hd hl1 hj rfl (fun la' hl' => hK _ _ _ _ _ _ _ h g1 g2 g3 H locs la' hw hS (hl.put1 (v := .int x) hl0 hl2 ho hl'))
theorem hs_istore_n {j : Fin 4} (C : hCtx p R s m args c D G ad base ρ own cc nL mc ms B d) (hd : decode cc pc = .ok (.istore_n j, 1)) (hj : j.val < nL) (h : hx Γ ret (pc, .istore_n j, a1, a2, z, y, wi) N c' s' w ls st K Rt) (hK : ∀ N c' s' w pc ls st, K N c' s' w pc ls st → hAW p l e R s m args below meth c D G ad base ρ nL mc ms B Qf N c' s' w pc ls st) : hAW p l e R s m args below meth c D G ad base ρ nL mc ms B Qf N c' s' w pc ls st := by
  obtain ⟨x, r, rfl, ho, h⟩ := hpI_d h
  intro g1 g2 g3 H locs la hw hS ⟨hl0, lv, hl1, hl2⟩
  exact lv_istore_n C.1 C.2.1 hd rfl hl1 hj rfl (fun la' hl' => hK _ _ _ _ _ _ _ h g1 g2 g3 H locs la' hw hS (hl.put1 (v := .int x) hl0 hl2 ho hl'))
theorem hs_astore {j : Nat} (C : hCtx p R s m args c D G ad base ρ own cc nL mc ms B d) (hd : decode cc pc = .ok (.astore j, 2)) (hj : j < nL) (h : hx Γ ret (pc, .astore j, a1, a2, z, y, wi) N c' s' w ls st K Rt) (hK : ∀ N c' s' w pc ls st, K N c' s' w pc ls st → hAW p l e R s m args below meth c D G ad base ρ nL mc ms B Qf N c' s' w pc ls st) : hAW p l e R s m args below meth c D G ad base ρ nL mc ms B Qf N c' s' w pc ls st := by
  rcases hpR_d h with ⟨x, r, rfl, ho, h⟩ | ⟨r, rfl, ho, h⟩
  · intro g1 g2 g3 H locs la hw hS ⟨hl0, lv, hl1, hl2⟩
    exact lv_astore C.1 C.2.1 hd hl1 hj rfl (fun la' hl' => hK _ _ _ _ _ _ _ h g1 g2 g3 H locs la' hw hS (hl.put1 (v := .ref x) hl0 hl2 ho hl'))
  · intro g1 g2 g3 H locs la hw hS ⟨hl0, lv, hl1, hl2⟩
    exact lv_astoreN C.1 C.2.1 hd hl1 hj rfl (fun la' hl' => hK _ _ _ _ _ _ _ h g1 g2 g3 H locs la' hw hS (hl.put1 (v := .null) hl0 hl2 ho hl'))
theorem hs_astore_n {j : Fin 4} (C : hCtx p R s m args c D G ad base ρ own cc nL mc ms B d) (hd : decode cc pc = .ok (.astore_n j, 1)) (hj : j.val < nL) (h : hx Γ ret (pc, .astore_n j, a1, a2, z, y, wi) N c' s' w ls st K Rt) (hK : ∀ N c' s' w pc ls st, K N c' s' w pc ls st → hAW p l e R s m args below meth c D G ad base ρ nL mc ms B Qf N c' s' w pc ls st) : hAW p l e R s m args below meth c D G ad base ρ nL mc ms B Qf N c' s' w pc ls st := by
  rcases hpR_d h with ⟨x, r, rfl, ho, h⟩ | ⟨r, rfl, ho, h⟩
  · intro g1 g2 g3 H locs la hw hS ⟨hl0, lv, hl1, hl2⟩
    exact lv_astore_n C.1 C.2.1 hd rfl hl1 hj rfl (fun la' hl' => hK _ _ _ _ _ _ _ h g1 g2 g3 H locs la' hw hS (hl.put1 (v := .ref x) hl0 hl2 ho hl'))
  · intro g1 g2 g3 H locs la hw hS ⟨hl0, lv, hl1, hl2⟩
    exact lv_astore_nN C.1 C.2.1 hd rfl hl1 hj rfl (fun la' hl' => hK _ _ _ _ _ _ _ h g1 g2 g3 H locs la' hw hS (hl.put1 (v := .null) hl0 hl2 ho hl'))
theorem hs_lstore {j : Nat} (C : hCtx p R s m args c D G ad base ρ own cc nL mc ms B d) (hd : decode cc pc = .ok (.lstore j, 2))  (h : hx Γ ret (pc, .lstore j, a1, a2, z, y, wi) N c' s' w ls st K Rt) (hK : ∀ N c' s' w pc ls st, K N c' s' w pc ls st → hAW p l e R s m args below meth c D G ad base ρ nL mc ms B Qf N c' s' w pc ls st) : hAW p l e R s m args below meth c D G ad base ρ nL mc ms B Qf N c' s' w pc ls st := by
  obtain ⟨x, r, rfl, ho, hj, h⟩ := hpL_d h
  intro g1 g2 g3 H locs la hw hS ⟨hl0, lv, hl1, hl2⟩
  exact lv_lstore C.1 C.2.1 hd hl1 (hl0 ▸ hj) rfl (fun la' hl' => hK _ _ _ _ _ _ _ h g1 g2 g3 H locs la' hw hS (hl.put2 (v := .long x) hl0 hl2 ho hl'))
theorem hs_lstore_n {j : Fin 4} (C : hCtx p R s m args c D G ad base ρ own cc nL mc ms B d) (hd : decode cc pc = .ok (.lstore_n j, 1))  (h : hx Γ ret (pc, .lstore_n j, a1, a2, z, y, wi) N c' s' w ls st K Rt) (hK : ∀ N c' s' w pc ls st, K N c' s' w pc ls st → hAW p l e R s m args below meth c D G ad base ρ nL mc ms B Qf N c' s' w pc ls st) : hAW p l e R s m args below meth c D G ad base ρ nL mc ms B Qf N c' s' w pc ls st := by
  obtain ⟨x, r, rfl, ho, hj, h⟩ := hpL_d h
  intro g1 g2 g3 H locs la hw hS ⟨hl0, lv, hl1, hl2⟩
  exact lv_lstore_n C.1 C.2.1 hd rfl hl1 (hl0 ▸ hj) rfl (fun la' hl' => hK _ _ _ _ _ _ _ h g1 g2 g3 H locs la' hw hS (hl.put2 (v := .long x) hl0 hl2 ho hl'))
theorem hs_iinc {j : Nat} {n : Int} (C : hCtx p R s m args c D G ad base ρ own cc nL mc ms B d) (hd : decode cc pc = .ok (.iinc j n, 3))  (h : hx Γ ret (pc, .iinc j n, a1, a2, z, y, wi) N c' s' w ls st K Rt) (hK : ∀ N c' s' w pc ls st, K N c' s' w pc ls st → hAW p l e R s m args below meth c D G ad base ρ nL mc ms B Qf N c' s' w pc ls st) : hAW p l e R s m args below meth c D G ad base ρ nL mc ms B Qf N c' s' w pc ls st := by
  obtain ⟨x, h1, ho, h⟩ := hldI_d h
  intro g1 g2 g3 H locs la hw hS ⟨hl0, lv, hl1, hl2⟩
  obtain ⟨k, hk⟩ := List.getElem?_of_mem (hl2 _ _ h1)
  exact lv_iinc C.1 C.2.1 hd hl1 hk rfl (by have := hnth_lt h1; omega) rfl (fun la' hl' => hK _ _ _ _ _ _ _ h g1 g2 g3 H locs la' hw hS (hl.put1 (v := .int (x + Int32.ofInt n)) hl0 hl2 ho hl'))
theorem hs_iconst {n : Int} (C : hCtx p R s m args c D G ad base ρ own cc nL mc ms B d) (hd : decode cc pc = .ok (.iconst n, 1))  (h : hx Γ ret (pc, .iconst n, a1, a2, z, y, wi) N c' s' w ls st K Rt) (hK : ∀ N c' s' w pc ls st, K N c' s' w pc ls st → hAW p l e R s m args below meth c D G ad base ρ nL mc ms B Qf N c' s' w pc ls st) : hAW p l e R s m args below meth c D G ad base ρ nL mc ms B Qf N c' s' w pc ls st := by
  intro g1 g2 g3 H locs la hw hS hl
  exact lv_iconst C.1 C.2.1 hd rfl (hK _ _ _ _ _ _ _ h g1 g2 g3 H locs la hw hS hl)
theorem hs_bipush {n : Int} (C : hCtx p R s m args c D G ad base ρ own cc nL mc ms B d) (hd : decode cc pc = .ok (.bipush n, 2))  (h : hx Γ ret (pc, .bipush n, a1, a2, z, y, wi) N c' s' w ls st K Rt) (hK : ∀ N c' s' w pc ls st, K N c' s' w pc ls st → hAW p l e R s m args below meth c D G ad base ρ nL mc ms B Qf N c' s' w pc ls st) : hAW p l e R s m args below meth c D G ad base ρ nL mc ms B Qf N c' s' w pc ls st := by
  intro g1 g2 g3 H locs la hw hS hl
  exact lv_bipush C.1 C.2.1 hd rfl (hK _ _ _ _ _ _ _ h g1 g2 g3 H locs la hw hS hl)
theorem hs_sipush {n : Int} (C : hCtx p R s m args c D G ad base ρ own cc nL mc ms B d) (hd : decode cc pc = .ok (.sipush n, 3))  (h : hx Γ ret (pc, .sipush n, a1, a2, z, y, wi) N c' s' w ls st K Rt) (hK : ∀ N c' s' w pc ls st, K N c' s' w pc ls st → hAW p l e R s m args below meth c D G ad base ρ nL mc ms B Qf N c' s' w pc ls st) : hAW p l e R s m args below meth c D G ad base ρ nL mc ms B Qf N c' s' w pc ls st := by
  intro g1 g2 g3 H locs la hw hS hl
  exact lv_sipush C.1 C.2.1 hd rfl (hK _ _ _ _ _ _ _ h g1 g2 g3 H locs la hw hS hl)
theorem hs_lconst {n : Fin 2} (C : hCtx p R s m args c D G ad base ρ own cc nL mc ms B d) (hd : decode cc pc = .ok (.lconst n, 1))  (h : hx Γ ret (pc, .lconst n, a1, a2, z, y, wi) N c' s' w ls st K Rt) (hK : ∀ N c' s' w pc ls st, K N c' s' w pc ls st → hAW p l e R s m args below meth c D G ad base ρ nL mc ms B Qf N c' s' w pc ls st) : hAW p l e R s m args below meth c D G ad base ρ nL mc ms B Qf N c' s' w pc ls st := by
  intro g1 g2 g3 H locs la hw hS hl
  exact lv_lconst C.1 C.2.1 hd rfl (hK _ _ _ _ _ _ _ h g1 g2 g3 H locs la hw hS hl)
theorem hs_aconst_null  (C : hCtx p R s m args c D G ad base ρ own cc nL mc ms B d) (hd : decode cc pc = .ok (.aconst_null, 1))  (h : hx Γ ret (pc, .aconst_null, a1, a2, z, y, wi) N c' s' w ls st K Rt) (hK : ∀ N c' s' w pc ls st, K N c' s' w pc ls st → hAW p l e R s m args below meth c D G ad base ρ nL mc ms B Qf N c' s' w pc ls st) : hAW p l e R s m args below meth c D G ad base ρ nL mc ms B Qf N c' s' w pc ls st := by
  intro g1 g2 g3 H locs la hw hS hl
  exact lv_null C.1 C.2.1 hd (hK _ _ _ _ _ _ _ h g1 g2 g3 H locs la hw hS hl)
theorem hs_iadd  (C : hCtx p R s m args c D G ad base ρ own cc nL mc ms B d) (hd : decode cc pc = .ok (.iadd, 1))  (h : hx Γ ret (pc, .iadd, a1, a2, z, y, wi) N c' s' w ls st K Rt) (hK : ∀ N c' s' w pc ls st, K N c' s' w pc ls st → hAW p l e R s m args below meth c D G ad base ρ nL mc ms B Qf N c' s' w pc ls st) : hAW p l e R s m args below meth c D G ad base ρ nL mc ms B Qf N c' s' w pc ls st := by
  obtain ⟨y, r, rfl, h⟩ := hpI_d h
  obtain ⟨x, r, rfl, h⟩ := hpI_d h
  intro g1 g2 g3 H locs la hw hS hl
  exact lv_iadd C.1 C.2.1 hd (hK _ _ _ _ _ _ _ h g1 g2 g3 H locs la hw hS hl)
theorem hs_isub  (C : hCtx p R s m args c D G ad base ρ own cc nL mc ms B d) (hd : decode cc pc = .ok (.isub, 1))  (h : hx Γ ret (pc, .isub, a1, a2, z, y, wi) N c' s' w ls st K Rt) (hK : ∀ N c' s' w pc ls st, K N c' s' w pc ls st → hAW p l e R s m args below meth c D G ad base ρ nL mc ms B Qf N c' s' w pc ls st) : hAW p l e R s m args below meth c D G ad base ρ nL mc ms B Qf N c' s' w pc ls st := by
  obtain ⟨y, r, rfl, h⟩ := hpI_d h
  obtain ⟨x, r, rfl, h⟩ := hpI_d h
  intro g1 g2 g3 H locs la hw hS hl
  exact lv_isub C.1 C.2.1 hd (hK _ _ _ _ _ _ _ h g1 g2 g3 H locs la hw hS hl)
theorem hs_imul  (C : hCtx p R s m args c D G ad base ρ own cc nL mc ms B d) (hd : decode cc pc = .ok (.imul, 1))  (h : hx Γ ret (pc, .imul, a1, a2, z, y, wi) N c' s' w ls st K Rt) (hK : ∀ N c' s' w pc ls st, K N c' s' w pc ls st → hAW p l e R s m args below meth c D G ad base ρ nL mc ms B Qf N c' s' w pc ls st) : hAW p l e R s m args below meth c D G ad base ρ nL mc ms B Qf N c' s' w pc ls st := by
  obtain ⟨y, r, rfl, h⟩ := hpI_d h
  obtain ⟨x, r, rfl, h⟩ := hpI_d h
  intro g1 g2 g3 H locs la hw hS hl
  exact lv_imul C.1 C.2.1 hd (hK _ _ _ _ _ _ _ h g1 g2 g3 H locs la hw hS hl)
theorem hs_iand  (C : hCtx p R s m args c D G ad base ρ own cc nL mc ms B d) (hd : decode cc pc = .ok (.iand, 1))  (h : hx Γ ret (pc, .iand, a1, a2, z, y, wi) N c' s' w ls st K Rt) (hK : ∀ N c' s' w pc ls st, K N c' s' w pc ls st → hAW p l e R s m args below meth c D G ad base ρ nL mc ms B Qf N c' s' w pc ls st) : hAW p l e R s m args below meth c D G ad base ρ nL mc ms B Qf N c' s' w pc ls st := by
  obtain ⟨y, r, rfl, h⟩ := hpI_d h
  obtain ⟨x, r, rfl, h⟩ := hpI_d h
  intro g1 g2 g3 H locs la hw hS hl
  exact lv_iand C.1 C.2.1 hd (hK _ _ _ _ _ _ _ h g1 g2 g3 H locs la hw hS hl)
theorem hs_ior  (C : hCtx p R s m args c D G ad base ρ own cc nL mc ms B d) (hd : decode cc pc = .ok (.ior, 1))  (h : hx Γ ret (pc, .ior, a1, a2, z, y, wi) N c' s' w ls st K Rt) (hK : ∀ N c' s' w pc ls st, K N c' s' w pc ls st → hAW p l e R s m args below meth c D G ad base ρ nL mc ms B Qf N c' s' w pc ls st) : hAW p l e R s m args below meth c D G ad base ρ nL mc ms B Qf N c' s' w pc ls st := by
  obtain ⟨y, r, rfl, h⟩ := hpI_d h
  obtain ⟨x, r, rfl, h⟩ := hpI_d h
  intro g1 g2 g3 H locs la hw hS hl
  exact lv_ior C.1 C.2.1 hd (hK _ _ _ _ _ _ _ h g1 g2 g3 H locs la hw hS hl)
theorem hs_ishl  (C : hCtx p R s m args c D G ad base ρ own cc nL mc ms B d) (hd : decode cc pc = .ok (.ishl, 1))  (h : hx Γ ret (pc, .ishl, a1, a2, z, y, wi) N c' s' w ls st K Rt) (hK : ∀ N c' s' w pc ls st, K N c' s' w pc ls st → hAW p l e R s m args below meth c D G ad base ρ nL mc ms B Qf N c' s' w pc ls st) : hAW p l e R s m args below meth c D G ad base ρ nL mc ms B Qf N c' s' w pc ls st := by
  obtain ⟨y, r, rfl, h⟩ := hpI_d h
  obtain ⟨x, r, rfl, h⟩ := hpI_d h
  intro g1 g2 g3 H locs la hw hS hl
  exact lv_ishl C.1 C.2.1 hd (hK _ _ _ _ _ _ _ h g1 g2 g3 H locs la hw hS hl)
theorem hs_ishr  (C : hCtx p R s m args c D G ad base ρ own cc nL mc ms B d) (hd : decode cc pc = .ok (.ishr, 1))  (h : hx Γ ret (pc, .ishr, a1, a2, z, y, wi) N c' s' w ls st K Rt) (hK : ∀ N c' s' w pc ls st, K N c' s' w pc ls st → hAW p l e R s m args below meth c D G ad base ρ nL mc ms B Qf N c' s' w pc ls st) : hAW p l e R s m args below meth c D G ad base ρ nL mc ms B Qf N c' s' w pc ls st := by
  obtain ⟨y, r, rfl, h⟩ := hpI_d h
  obtain ⟨x, r, rfl, h⟩ := hpI_d h
  intro g1 g2 g3 H locs la hw hS hl
  exact lv_ishr C.1 C.2.1 hd (hK _ _ _ _ _ _ _ h g1 g2 g3 H locs la hw hS hl)
theorem hs_iushr  (C : hCtx p R s m args c D G ad base ρ own cc nL mc ms B d) (hd : decode cc pc = .ok (.iushr, 1))  (h : hx Γ ret (pc, .iushr, a1, a2, z, y, wi) N c' s' w ls st K Rt) (hK : ∀ N c' s' w pc ls st, K N c' s' w pc ls st → hAW p l e R s m args below meth c D G ad base ρ nL mc ms B Qf N c' s' w pc ls st) : hAW p l e R s m args below meth c D G ad base ρ nL mc ms B Qf N c' s' w pc ls st := by
  obtain ⟨y, r, rfl, h⟩ := hpI_d h
  obtain ⟨x, r, rfl, h⟩ := hpI_d h
  intro g1 g2 g3 H locs la hw hS hl
  exact lv_iushr C.1 C.2.1 hd rfl (hK _ _ _ _ _ _ _ h g1 g2 g3 H locs la hw hS hl)
theorem hs_idiv  (C : hCtx p R s m args c D G ad base ρ own cc nL mc ms B d) (hd : decode cc pc = .ok (.idiv, 1))  (h : hx Γ ret (pc, .idiv, a1, a2, z, y, wi) N c' s' w ls st K Rt) (hK : ∀ N c' s' w pc ls st, K N c' s' w pc ls st → hAW p l e R s m args below meth c D G ad base ρ nL mc ms B Qf N c' s' w pc ls st) : hAW p l e R s m args below meth c D G ad base ρ nL mc ms B Qf N c' s' w pc ls st := by
  obtain ⟨y, r, rfl, h⟩ := hpI_d h
  obtain ⟨x, r, rfl, hn, h⟩ := hpI_d h
  intro g1 g2 g3 H locs la hw hS hl
  exact lv_idiv C.1 C.2.1 hd hn (hK _ _ _ _ _ _ _ h g1 g2 g3 H locs la hw hS hl)
theorem hs_irem  (C : hCtx p R s m args c D G ad base ρ own cc nL mc ms B d) (hd : decode cc pc = .ok (.irem, 1))  (h : hx Γ ret (pc, .irem, a1, a2, z, y, wi) N c' s' w ls st K Rt) (hK : ∀ N c' s' w pc ls st, K N c' s' w pc ls st → hAW p l e R s m args below meth c D G ad base ρ nL mc ms B Qf N c' s' w pc ls st) : hAW p l e R s m args below meth c D G ad base ρ nL mc ms B Qf N c' s' w pc ls st := by
  obtain ⟨y, r, rfl, h⟩ := hpI_d h
  obtain ⟨x, r, rfl, hn, h⟩ := hpI_d h
  intro g1 g2 g3 H locs la hw hS hl
  exact lv_irem C.1 C.2.1 hd hn (hK _ _ _ _ _ _ _ h g1 g2 g3 H locs la hw hS hl)
theorem hs_ladd  (C : hCtx p R s m args c D G ad base ρ own cc nL mc ms B d) (hd : decode cc pc = .ok (.ladd, 1))  (h : hx Γ ret (pc, .ladd, a1, a2, z, y, wi) N c' s' w ls st K Rt) (hK : ∀ N c' s' w pc ls st, K N c' s' w pc ls st → hAW p l e R s m args below meth c D G ad base ρ nL mc ms B Qf N c' s' w pc ls st) : hAW p l e R s m args below meth c D G ad base ρ nL mc ms B Qf N c' s' w pc ls st := by
  obtain ⟨y, r, rfl, h⟩ := hpL_d h
  obtain ⟨x, r, rfl, h⟩ := hpL_d h
  intro g1 g2 g3 H locs la hw hS hl
  exact lv_ladd C.1 C.2.1 hd (hK _ _ _ _ _ _ _ h g1 g2 g3 H locs la hw hS hl)
theorem hs_lsub  (C : hCtx p R s m args c D G ad base ρ own cc nL mc ms B d) (hd : decode cc pc = .ok (.lsub, 1))  (h : hx Γ ret (pc, .lsub, a1, a2, z, y, wi) N c' s' w ls st K Rt) (hK : ∀ N c' s' w pc ls st, K N c' s' w pc ls st → hAW p l e R s m args below meth c D G ad base ρ nL mc ms B Qf N c' s' w pc ls st) : hAW p l e R s m args below meth c D G ad base ρ nL mc ms B Qf N c' s' w pc ls st := by
  obtain ⟨y, r, rfl, h⟩ := hpL_d h
  obtain ⟨x, r, rfl, h⟩ := hpL_d h
  intro g1 g2 g3 H locs la hw hS hl
  exact lv_lsub C.1 C.2.1 hd (hK _ _ _ _ _ _ _ h g1 g2 g3 H locs la hw hS hl)
theorem hs_lmul  (C : hCtx p R s m args c D G ad base ρ own cc nL mc ms B d) (hd : decode cc pc = .ok (.lmul, 1))  (h : hx Γ ret (pc, .lmul, a1, a2, z, y, wi) N c' s' w ls st K Rt) (hK : ∀ N c' s' w pc ls st, K N c' s' w pc ls st → hAW p l e R s m args below meth c D G ad base ρ nL mc ms B Qf N c' s' w pc ls st) : hAW p l e R s m args below meth c D G ad base ρ nL mc ms B Qf N c' s' w pc ls st := by
  obtain ⟨y, r, rfl, h⟩ := hpL_d h
  obtain ⟨x, r, rfl, h⟩ := hpL_d h
  intro g1 g2 g3 H locs la hw hS hl
  exact lv_lmul C.1 C.2.1 hd (hK _ _ _ _ _ _ _ h g1 g2 g3 H locs la hw hS hl)
theorem hs_lcmp  (C : hCtx p R s m args c D G ad base ρ own cc nL mc ms B d) (hd : decode cc pc = .ok (.lcmp, 1))  (h : hx Γ ret (pc, .lcmp, a1, a2, z, y, wi) N c' s' w ls st K Rt) (hK : ∀ N c' s' w pc ls st, K N c' s' w pc ls st → hAW p l e R s m args below meth c D G ad base ρ nL mc ms B Qf N c' s' w pc ls st) : hAW p l e R s m args below meth c D G ad base ρ nL mc ms B Qf N c' s' w pc ls st := by
  obtain ⟨y, r, rfl, h⟩ := hpL_d h
  obtain ⟨x, r, rfl, h⟩ := hpL_d h
  intro g1 g2 g3 H locs la hw hS hl
  exact W.lcmp C.1 C.2.1 hd (hK _ _ _ _ _ _ _ h g1 g2 g3 H locs la hw hS hl)
theorem hs_ldiv  (C : hCtx p R s m args c D G ad base ρ own cc nL mc ms B d) (hd : decode cc pc = .ok (.ldiv, 1))  (h : hx Γ ret (pc, .ldiv, a1, a2, z, y, wi) N c' s' w ls st K Rt) (hK : ∀ N c' s' w pc ls st, K N c' s' w pc ls st → hAW p l e R s m args below meth c D G ad base ρ nL mc ms B Qf N c' s' w pc ls st) : hAW p l e R s m args below meth c D G ad base ρ nL mc ms B Qf N c' s' w pc ls st := by
  obtain ⟨y, r, rfl, h⟩ := hpL_d h
  obtain ⟨x, r, rfl, hn, h⟩ := hpL_d h
  intro g1 g2 g3 H locs la hw hS hl
  exact lv_ldiv C.1 C.2.1 hd hn (hK _ _ _ _ _ _ _ h g1 g2 g3 H locs la hw hS hl)
theorem hs_lrem  (C : hCtx p R s m args c D G ad base ρ own cc nL mc ms B d) (hd : decode cc pc = .ok (.lrem, 1))  (h : hx Γ ret (pc, .lrem, a1, a2, z, y, wi) N c' s' w ls st K Rt) (hK : ∀ N c' s' w pc ls st, K N c' s' w pc ls st → hAW p l e R s m args below meth c D G ad base ρ nL mc ms B Qf N c' s' w pc ls st) : hAW p l e R s m args below meth c D G ad base ρ nL mc ms B Qf N c' s' w pc ls st := by
  obtain ⟨y, r, rfl, h⟩ := hpL_d h
  obtain ⟨x, r, rfl, hn, h⟩ := hpL_d h
  intro g1 g2 g3 H locs la hw hS hl
  exact lv_lrem C.1 C.2.1 hd hn (hK _ _ _ _ _ _ _ h g1 g2 g3 H locs la hw hS hl)
theorem hs_ineg  (C : hCtx p R s m args c D G ad base ρ own cc nL mc ms B d) (hd : decode cc pc = .ok (.ineg, 1))  (h : hx Γ ret (pc, .ineg, a1, a2, z, y, wi) N c' s' w ls st K Rt) (hK : ∀ N c' s' w pc ls st, K N c' s' w pc ls st → hAW p l e R s m args below meth c D G ad base ρ nL mc ms B Qf N c' s' w pc ls st) : hAW p l e R s m args below meth c D G ad base ρ nL mc ms B Qf N c' s' w pc ls st := by
  obtain ⟨x, r, rfl, h⟩ := hpI_d h
  intro g1 g2 g3 H locs la hw hS hl
  exact lv_ineg C.1 C.2.1 hd (hK _ _ _ _ _ _ _ h g1 g2 g3 H locs la hw hS hl)
theorem hs_lneg  (C : hCtx p R s m args c D G ad base ρ own cc nL mc ms B d) (hd : decode cc pc = .ok (.lneg, 1))  (h : hx Γ ret (pc, .lneg, a1, a2, z, y, wi) N c' s' w ls st K Rt) (hK : ∀ N c' s' w pc ls st, K N c' s' w pc ls st → hAW p l e R s m args below meth c D G ad base ρ nL mc ms B Qf N c' s' w pc ls st) : hAW p l e R s m args below meth c D G ad base ρ nL mc ms B Qf N c' s' w pc ls st := by
  obtain ⟨x, r, rfl, h⟩ := hpL_d h
  intro g1 g2 g3 H locs la hw hS hl
  exact lv_lneg C.1 C.2.1 hd (hK _ _ _ _ _ _ _ h g1 g2 g3 H locs la hw hS hl)
theorem hs_i2l  (C : hCtx p R s m args c D G ad base ρ own cc nL mc ms B d) (hd : decode cc pc = .ok (.i2l, 1))  (h : hx Γ ret (pc, .i2l, a1, a2, z, y, wi) N c' s' w ls st K Rt) (hK : ∀ N c' s' w pc ls st, K N c' s' w pc ls st → hAW p l e R s m args below meth c D G ad base ρ nL mc ms B Qf N c' s' w pc ls st) : hAW p l e R s m args below meth c D G ad base ρ nL mc ms B Qf N c' s' w pc ls st := by
  obtain ⟨x, r, rfl, h⟩ := hpI_d h
  intro g1 g2 g3 H locs la hw hS hl
  exact lv_i2l C.1 C.2.1 hd rfl (hK _ _ _ _ _ _ _ h g1 g2 g3 H locs la hw hS hl)
theorem hs_l2i  (C : hCtx p R s m args c D G ad base ρ own cc nL mc ms B d) (hd : decode cc pc = .ok (.l2i, 1))  (h : hx Γ ret (pc, .l2i, a1, a2, z, y, wi) N c' s' w ls st K Rt) (hK : ∀ N c' s' w pc ls st, K N c' s' w pc ls st → hAW p l e R s m args below meth c D G ad base ρ nL mc ms B Qf N c' s' w pc ls st) : hAW p l e R s m args below meth c D G ad base ρ nL mc ms B Qf N c' s' w pc ls st := by
  obtain ⟨x, r, rfl, h⟩ := hpL_d h
  intro g1 g2 g3 H locs la hw hS hl
  exact lv_l2i C.1 C.2.1 hd rfl (hK _ _ _ _ _ _ _ h g1 g2 g3 H locs la hw hS hl)
theorem hs_i2b  (C : hCtx p R s m args c D G ad base ρ own cc nL mc ms B d) (hd : decode cc pc = .ok (.i2b, 1))  (h : hx Γ ret (pc, .i2b, a1, a2, z, y, wi) N c' s' w ls st K Rt) (hK : ∀ N c' s' w pc ls st, K N c' s' w pc ls st → hAW p l e R s m args below meth c D G ad base ρ nL mc ms B Qf N c' s' w pc ls st) : hAW p l e R s m args below meth c D G ad base ρ nL mc ms B Qf N c' s' w pc ls st := by
  obtain ⟨x, r, rfl, h⟩ := hpI_d h
  intro g1 g2 g3 H locs la hw hS hl
  exact lv_i2b C.1 C.2.1 hd rfl (hK _ _ _ _ _ _ _ h g1 g2 g3 H locs la hw hS hl)
theorem hs_i2c  (C : hCtx p R s m args c D G ad base ρ own cc nL mc ms B d) (hd : decode cc pc = .ok (.i2c, 1))  (h : hx Γ ret (pc, .i2c, a1, a2, z, y, wi) N c' s' w ls st K Rt) (hK : ∀ N c' s' w pc ls st, K N c' s' w pc ls st → hAW p l e R s m args below meth c D G ad base ρ nL mc ms B Qf N c' s' w pc ls st) : hAW p l e R s m args below meth c D G ad base ρ nL mc ms B Qf N c' s' w pc ls st := by
  obtain ⟨x, r, rfl, h⟩ := hpI_d h
  intro g1 g2 g3 H locs la hw hS hl
  exact lv_i2c C.1 C.2.1 hd rfl (hK _ _ _ _ _ _ _ h g1 g2 g3 H locs la hw hS hl)
theorem hs_dup  (C : hCtx p R s m args c D G ad base ρ own cc nL mc ms B d) (hd : decode cc pc = .ok (.dup, 1))  (h : hx Γ ret (pc, .dup, a1, a2, z, y, wi) N c' s' w ls st K Rt) (hK : ∀ N c' s' w pc ls st, K N c' s' w pc ls st → hAW p l e R s m args below meth c D G ad base ρ nL mc ms B Qf N c' s' w pc ls st) : hAW p l e R s m args below meth c D G ad base ρ nL mc ms B Qf N c' s' w pc ls st := by
  obtain ⟨x, r, rfl, h, hc⟩ := hp1_d h
  intro g1 g2 g3 H locs la hw hS hl
  exact lv_dup C.1 C.2.1 hd (hc ad) (hK _ _ _ _ _ _ _ h g1 g2 g3 H locs la hw hS hl)
theorem hs_pop  (C : hCtx p R s m args c D G ad base ρ own cc nL mc ms B d) (hd : decode cc pc = .ok (.pop, 1))  (h : hx Γ ret (pc, .pop, a1, a2, z, y, wi) N c' s' w ls st K Rt) (hK : ∀ N c' s' w pc ls st, K N c' s' w pc ls st → hAW p l e R s m args below meth c D G ad base ρ nL mc ms B Qf N c' s' w pc ls st) : hAW p l e R s m args below meth c D G ad base ρ nL mc ms B Qf N c' s' w pc ls st := by
  obtain ⟨x, r, rfl, h, hc⟩ := hp1_d h
  intro g1 g2 g3 H locs la hw hS hl
  exact lv_pop C.1 C.2.1 hd (hc ad) (hK _ _ _ _ _ _ _ h g1 g2 g3 H locs la hw hS hl)
theorem hs_dup_x1  (C : hCtx p R s m args c D G ad base ρ own cc nL mc ms B d) (hd : decode cc pc = .ok (.dup_x1, 1))  (h : hx Γ ret (pc, .dup_x1, a1, a2, z, y, wi) N c' s' w ls st K Rt) (hK : ∀ N c' s' w pc ls st, K N c' s' w pc ls st → hAW p l e R s m args below meth c D G ad base ρ nL mc ms B Qf N c' s' w pc ls st) : hAW p l e R s m args below meth c D G ad base ρ nL mc ms B Qf N c' s' w pc ls st := by
  obtain ⟨x, r, rfl, h, hc⟩ := hp1_d h
  obtain ⟨y, r, rfl, h, hc2⟩ := hp1_d h
  intro g1 g2 g3 H locs la hw hS hl
  exact lv_dup_x1 C.1 C.2.1 hd (hc ad) (hc2 ad) (hK _ _ _ _ _ _ _ h g1 g2 g3 H locs la hw hS hl)
theorem hs_dup2  (C : hCtx p R s m args c D G ad base ρ own cc nL mc ms B d) (hd : decode cc pc = .ok (.dup2, 1))  (h : hx Γ ret (pc, .dup2, a1, a2, z, y, wi) N c' s' w ls st K Rt) (hK : ∀ N c' s' w pc ls st, K N c' s' w pc ls st → hAW p l e R s m args below meth c D G ad base ρ nL mc ms B Qf N c' s' w pc ls st) : hAW p l e R s m args below meth c D G ad base ρ nL mc ms B Qf N c' s' w pc ls st := by
  obtain ⟨x, r, rfl, h, hc⟩ := hp1_d h
  obtain ⟨y, r, rfl, h, hc2⟩ := hp1_d h
  intro g1 g2 g3 H locs la hw hS hl
  exact lv_dup2_11 C.1 C.2.1 hd (hc ad) (hc2 ad) (hK _ _ _ _ _ _ _ h g1 g2 g3 H locs la hw hS hl)
theorem hs_goto {o : Int} (C : hCtx p R s m args c D G ad base ρ own cc nL mc ms B d) (hd : decode cc pc = .ok (.goto o, 3)) (ht : (pc : Int) + o = (a1 : Int)) (h : hx Γ ret (pc, .goto o, a1, a2, z, y, wi) N c' s' w ls st K Rt) (hK : ∀ N c' s' w pc ls st, K N c' s' w pc ls st → hAW p l e R s m args below meth c D G ad base ρ nL mc ms B Qf N c' s' w pc ls st) : hAW p l e R s m args below meth c D G ad base ρ nL mc ms B Qf N c' s' w pc ls st := by
  intro g1 g2 g3 H locs la hw hS hl
  exact lv_goto C.1 C.2.1 hd ht (hK _ _ _ _ _ _ _ h g1 g2 g3 H locs la hw hS hl)
theorem hs_ifCond {q : Jvm.ClassFile.Cond} {o : Int} (C : hCtx p R s m args c D G ad base ρ own cc nL mc ms B d) (hd : decode cc pc = .ok (.ifCond q o, 3)) (ht : (pc : Int) + o = (a1 : Int)) (h : hx Γ ret (pc, .ifCond q o, a1, a2, z, y, wi) N c' s' w ls st K Rt) (hK : ∀ N c' s' w pc ls st, K N c' s' w pc ls st → hAW p l e R s m args below meth c D G ad base ρ nL mc ms B Qf N c' s' w pc ls st) : hAW p l e R s m args below meth c D G ad base ρ nL mc ms B Qf N c' s' w pc ls st := by
  obtain ⟨x, r, rfl, h⟩ := hpI_d h
  intro g1 g2 g3 H locs la hw hS hl
  cases q
  · have h : (x = 0 → _) ∧ (¬ x = 0 → _) := h
    exact lv_if_eq C.1 C.2.1 hd ht (fun g => hK _ _ _ _ _ _ _ (h.1 g) g1 g2 g3 H locs la hw hS hl) (fun g => hK _ _ _ _ _ _ _ (h.2 g) g1 g2 g3 H locs la hw hS hl)
  · have h : (¬ x = 0 → _) ∧ (x = 0 → _) := h
    exact lv_if_ne C.1 C.2.1 hd ht (fun g => hK _ _ _ _ _ _ _ (h.1 g) g1 g2 g3 H locs la hw hS hl) (fun g => hK _ _ _ _ _ _ _ (h.2 g) g1 g2 g3 H locs la hw hS hl)
  · have h : (x < 0 → _) ∧ (¬ x < 0 → _) := h
    exact lv_if_lt C.1 C.2.1 hd ht (fun g => hK _ _ _ _ _ _ _ (h.1 g) g1 g2 g3 H locs la hw hS hl) (fun g => hK _ _ _ _ _ _ _ (h.2 g) g1 g2 g3 H locs la hw hS hl)
  · have h : (0 ≤ x → _) ∧ (¬ 0 ≤ x → _) := h
    exact lv_if_ge C.1 C.2.1 hd ht (fun g => hK _ _ _ _ _ _ _ (h.1 g) g1 g2 g3 H locs la hw hS hl) (fun g => hK _ _ _ _ _ _ _ (h.2 g) g1 g2 g3 H locs la hw hS hl)
  · have h : (0 < x → _) ∧ (¬ 0 < x → _) := h
    exact lv_if_gt C.1 C.2.1 hd ht (fun g => hK _ _ _ _ _ _ _ (h.1 g) g1 g2 g3 H locs la hw hS hl) (fun g => hK _ _ _ _ _ _ _ (h.2 g) g1 g2 g3 H locs la hw hS hl)
  · have h : (x ≤ 0 → _) ∧ (¬ x ≤ 0 → _) := h
    exact lv_if_le C.1 C.2.1 hd ht (fun g => hK _ _ _ _ _ _ _ (h.1 g) g1 g2 g3 H locs la hw hS hl) (fun g => hK _ _ _ _ _ _ _ (h.2 g) g1 g2 g3 H locs la hw hS hl)
theorem hs_if_icmp {q : Jvm.ClassFile.Cond} {o : Int} (C : hCtx p R s m args c D G ad base ρ own cc nL mc ms B d) (hd : decode cc pc = .ok (.if_icmp q o, 3)) (ht : (pc : Int) + o = (a1 : Int)) (h : hx Γ ret (pc, .if_icmp q o, a1, a2, z, y, wi) N c' s' w ls st K Rt) (hK : ∀ N c' s' w pc ls st, K N c' s' w pc ls st → hAW p l e R s m args below meth c D G ad base ρ nL mc ms B Qf N c' s' w pc ls st) : hAW p l e R s m args below meth c D G ad base ρ nL mc ms B Qf N c' s' w pc ls st := by
  obtain ⟨y, r, rfl, h⟩ := hpI_d h
  obtain ⟨x, r, rfl, h⟩ := hpI_d h
  intro g1 g2 g3 H locs la hw hS hl
  cases q
  · have h : (x = y → _) ∧ (¬ x = y → _) := h
    exact lv_icmp_eq C.1 C.2.1 hd ht (fun g => hK _ _ _ _ _ _ _ (h.1 g) g1 g2 g3 H locs la hw hS hl) (fun g => hK _ _ _ _ _ _ _ (h.2 g) g1 g2 g3 H locs la hw hS hl)
  · have h : (¬ x = y → _) ∧ (x = y → _) := h
    exact lv_icmp_ne C.1 C.2.1 hd ht (fun g => hK _ _ _ _ _ _ _ (h.1 g) g1 g2 g3 H locs la hw hS hl) (fun g => hK _ _ _ _ _ _ _ (h.2 g) g1 g2 g3 H locs la hw hS hl)
  · have h : (x < y → _) ∧ (¬ x < y → _) := h
    exact lv_icmp_lt C.1 C.2.1 hd ht (fun g => hK _ _ _ _ _ _ _ (h.1 g) g1 g2 g3 H locs la hw hS hl) (fun g => hK _ _ _ _ _ _ _ (h.2 g) g1 g2 g3 H locs la hw hS hl)
  · have h : (y ≤ x → _) ∧ (¬ y ≤ x → _) := h
    exact lv_icmp_ge C.1 C.2.1 hd ht (fun g => hK _ _ _ _ _ _ _ (h.1 g) g1 g2 g3 H locs la hw hS hl) (fun g => hK _ _ _ _ _ _ _ (h.2 g) g1 g2 g3 H locs la hw hS hl)
  · have h : (y < x → _) ∧ (¬ y < x → _) := h
    exact lv_icmp_gt C.1 C.2.1 hd ht (fun g => hK _ _ _ _ _ _ _ (h.1 g) g1 g2 g3 H locs la hw hS hl) (fun g => hK _ _ _ _ _ _ _ (h.2 g) g1 g2 g3 H locs la hw hS hl)
  · have h : (x ≤ y → _) ∧ (¬ x ≤ y → _) := h
    exact lv_icmp_le C.1 C.2.1 hd ht (fun g => hK _ _ _ _ _ _ _ (h.1 g) g1 g2 g3 H locs la hw hS hl) (fun g => hK _ _ _ _ _ _ _ (h.2 g) g1 g2 g3 H locs la hw hS hl)
theorem hs_ifnull {o : Int} (C : hCtx p R s m args c D G ad base ρ own cc nL mc ms B d) (hd : decode cc pc = .ok (.ifnull o, 3)) (ht : (pc : Int) + o = (a1 : Int)) (h : hx Γ ret (pc, .ifnull o, a1, a2, z, y, wi) N c' s' w ls st K Rt) (hK : ∀ N c' s' w pc ls st, K N c' s' w pc ls st → hAW p l e R s m args below meth c D G ad base ρ nL mc ms B Qf N c' s' w pc ls st) : hAW p l e R s m args below meth c D G ad base ρ nL mc ms B Qf N c' s' w pc ls st := by
  rcases hpR_d h with ⟨x, r, rfl, h⟩ | ⟨r, rfl, h⟩
  · intro g1 g2 g3 H locs la hw hS hl
    exact lv_ifnull C.1 C.2.1 hd (hK _ _ _ _ _ _ _ h g1 g2 g3 H locs la hw hS hl)
  · intro g1 g2 g3 H locs la hw hS hl
    exact lv_ifnullN C.1 C.2.1 hd ht (hK _ _ _ _ _ _ _ h g1 g2 g3 H locs la hw hS hl)
theorem hs_ifnonnull {o : Int} (C : hCtx p R s m args c D G ad base ρ own cc nL mc ms B d) (hd : decode cc pc = .ok (.ifnonnull o, 3)) (ht : (pc : Int) + o = (a1 : Int)) (h : hx Γ ret (pc, .ifnonnull o, a1, a2, z, y, wi) N c' s' w ls st K Rt) (hK : ∀ N c' s' w pc ls st, K N c' s' w pc ls st → hAW p l e R s m args below meth c D G ad base ρ nL mc ms B Qf N c' s' w pc ls st) : hAW p l e R s m args below meth c D G ad base ρ nL mc ms B Qf N c' s' w pc ls st := by
  rcases hpR_d h with ⟨x, r, rfl, h⟩ | ⟨r, rfl, h⟩
  · intro g1 g2 g3 H locs la hw hS hl
    exact lv_ifnonnull C.1 C.2.1 hd ht (hK _ _ _ _ _ _ _ h g1 g2 g3 H locs la hw hS hl)
  · intro g1 g2 g3 H locs la hw hS hl
    exact lv_ifnonnullN C.1 C.2.1 hd (hK _ _ _ _ _ _ _ h g1 g2 g3 H locs la hw hS hl)
end HS
