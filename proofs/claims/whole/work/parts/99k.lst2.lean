/-! the claim -/
section M49
variable {A : Array Value} {s : State}
def lad2 (b tP tC tT tO t5 : Nat) (adK adV : Nat → Nat) : Nat → Nat
  | 0 => b
  | 1 => tP
  | 2 => tC
  | 3 => tT
  | 4 => tO
  | 5 => adK 0
  | 6 => adK 1
  | 7 => adK 2
  | 8 => adK 3
  | 9 => adK 4
  | 10 => adV 0
  | 11 => adV 1
  | 12 => adV 2
  | 13 => adV 3
  | 14 => adV 4
  | 20 => t5
  | _ => b
def lad (base : Nat) (a2 : Nat → Nat) (i : Nat) : Nat := if i < 1000000 then base + i else a2 (i - 1000000)
theorem lad_k {base : Nat} {a2 : Nat → Nat} (k : Nat) : lad base a2 (1000000 + k) = a2 k := by
  unfold lad
  rw [if_neg (by omega), Nat.add_sub_cancel_left]
def lrho (L : Nat) (xs : Nat → Int32) : Nat → hE
  | 0 => .inl (10, L, .inl xs)
  | 1 => .inl (10, 9, .inl mpow)
  | 2 => .inl (10, 13, .inl mcnt)
  | 3 => .inl (12, 100, .inl dTen)
  | 4 => .inl (12, 100, .inl dOne)
  | 5 => .inr (10, [.ref 1000010, .int (nI 0)])
  | 6 => .inr (10, [.ref 1000011, .int (nI 0)])
  | 7 => .inr (10, [.ref 1000012, .int (nI 0)])
  | 8 => .inr (10, [.ref 1000013, .int (nI 0)])
  | 9 => .inr (10, [.ref 1000014, .int (nI 0)])
  | 10 => .inl (12, 7, .inl fun j => (lBy.getD 0 []).getD j 0)
  | 11 => .inl (12, 6, .inl fun j => (lBy.getD 1 []).getD j 0)
  | 12 => .inl (12, 4, .inl fun j => (lBy.getD 2 []).getD j 0)
  | 13 => .inl (12, 3, .inl fun j => (lBy.getD 3 []).getD j 0)
  | 14 => .inl (12, 6, .inl fun j => (lBy.getD 4 []).getD j 0)
  | _ => .inr (99, [])
theorem lrho_o {L : Nat} {xs : Nat → Int32} {k : Nat} : lrho L xs (k + 15) = .inr (99, []) := rfl
def lW (L : Nat) (xs : Nat → Int32) (i : Nat) : hE := if i < 1000000 then .inr (99, []) else lrho L xs (i - 1000000)
theorem lW_k {L : Nat} {xs : Nat → Int32} (k : Nat) : lW L xs (1000000 + k) = lrho L xs k := by
  unfold lW
  rw [if_neg (by omega), Nat.add_sub_cancel_left]
theorem lW_t {L : Nat} {xs : Nat → Int32} : hTx2 (lW L xs) := fun j hj => by
  match j, hj with
  | 0, _ => exact ⟨1000010, by omega, by decide +kernel, fun j => (lBy.getD 0 []).getD j 0, lW_k 5, lW_k 10, by decide +kernel⟩
  | 1, _ => exact ⟨1000011, by omega, by decide +kernel, fun j => (lBy.getD 1 []).getD j 0, lW_k 6, lW_k 11, by decide +kernel⟩
  | 2, _ => exact ⟨1000012, by omega, by decide +kernel, fun j => (lBy.getD 2 []).getD j 0, lW_k 7, lW_k 12, by decide +kernel⟩
  | 3, _ => exact ⟨1000013, by omega, by decide +kernel, fun j => (lBy.getD 3 []).getD j 0, lW_k 8, lW_k 13, by decide +kernel⟩
  | 4, _ => exact ⟨1000014, by omega, by decide +kernel, fun j => (lBy.getD 4 []).getD j 0, lW_k 9, lW_k 14, by decide +kernel⟩
  | j + 5, hj => exact absurd hj (by omega)
section M49r
variable {ad : Nat → Nat} {B : Nat → Prop} {U : State} {H : Heap} {i v n t aK aV : Nat} {f : Nat → Int32}
theorem l_rK (e1 : ad i = aK) (e2 : ad v = aV) (o : va_O "java/lang/String" aK B U H) (vf : va_OF "java/lang/String" "value" "[B" (.ref aV) aK B U H) (co : va_OF "java/lang/String" "coder" "B" (.int 0) aK B U H) : hRa ad B U H i (.inr (10, [.ref v, .int (nI 0)])) := by
  show va_O "java/lang/String" (ad i) B U H ∧ va_OF "java/lang/String" "value" "[B" (.ref (ad v)) (ad i) B U H ∧ va_OF "java/lang/String" "coder" "B" (.int (nI 0)) (ad i) B U H
  rw [e1, e2]
  exact ⟨o, vf, co⟩
theorem l_rB (e : ad i = t) (h : va_T .byte t n (fun j => .int (f j)) B U H) : hRa ad B U H i (.inl (12, n, .inl f)) := by
  show va_T .byte (ad i) n (fun j => .int (f j)) B U H
  rw [e]; exact h
theorem l_rI (e : ad i = t) (h : va_T .int t n (fun j => .int (f j)) B U H) : hRa ad B U H i (.inl (10, n, .inl f)) := by
  show va_T .int (ad i) n (fun j => .int (f j)) B U H
  rw [e]; exact h
end M49r
theorem l_outO {E : String} {t : Nat} (h : va_O E t (hAs s.heap.size) s s.heap) : t < s.heap.size := by
  obtain ⟨_, _, _, _, z⟩ := h
  exact Nat.not_le.mp z
theorem hsv_n {k : Nat} {v : Value} (h : k ≠ 5) (e : v = hst k) : hsv k v := by
  unfold hsv
  rwa [if_neg h]
theorem hsv_5 {v : Value} (e : v = .null ∨ ∃ i, v = .ref i) : hsv 5 v := by
  unfold hsv
  rwa [if_pos rfl]
theorem l_sio (hts : ∀ w ∈ lw_tbl, w.before A s = true) (hf : ∀ w ∈ lFl, w.before A s = true) {b : Nat} (hb9 : b < s.heap.size) : ∃ t5, (t5 < s.heap.size ∨ s.heap.size + 1000000 ≤ t5) ∧ ∀ ad : Nat → Nat, (∀ i, i < 1000000 → ad i = s.heap.size + i) → ad 1000020 = t5 → ∃ v, hsv 5 v ∧ va_Z (hstn 5).1 (hstn 5).2.1 (hstn 5).2.2 (hv ad v) (hAs s.heap.size) s s.heap := by
  have hA : ∀ a : Nat, a < s.heap.size → ¬ hAs s.heap.size a := fun a h => Nat.not_le.mpr h
  rcases va_Zqof (hts (.laysStatic (hstn 5).1 (hstn 5).2.1 (hstn 5).2.2) (by decide +kernel)) (hts (.initialized (hstn 5).1) (by decide +kernel)) (hf (.isRef (lTm 5)) (by decide +kernel)) hA with z | ⟨t, z⟩
  · exact ⟨b, Or.inl hb9, fun ad _ _ => ⟨.null, hsv_5 (Or.inl rfl), z⟩⟩
  · by_cases q : s.heap.size ≤ t ∧ t < s.heap.size + 1000000
    · refine ⟨b, Or.inl hb9, fun ad h1 _ => ⟨.ref (t - s.heap.size), hsv_5 (Or.inr ⟨_, rfl⟩), ?_⟩⟩
      show va_Z _ _ _ (.ref (ad (t - s.heap.size))) _ _ _
      rw [h1 _ (by omega), Nat.add_sub_cancel' q.1]
      exact z
    · refine ⟨t, by omega, fun ad _ h2 => ⟨.ref 1000020, hsv_5 (Or.inr ⟨_, rfl⟩), ?_⟩⟩
      show va_Z _ _ _ (.ref (ad 1000020)) _ _ _
      rw [h2]
      exact z
set_option maxHeartbeats 4000000 in
set_option maxRecDepth 100000 in
theorem l_fix (hts : ∀ w ∈ lw_tbl, w.before A s = true) (hf : ∀ w ∈ lFl, w.before A s = true) {b L : Nat} {xs : Nat → Int32} (hXb : va_X b L xs s s.heap) (hb9 : b < s.heap.size) : ∃ (D : va_G) (G : Nat → ClassId) (a2 : Nat → Nat), hAd s.heap.size (lad s.heap.size a2) ∧ a2 0 = b ∧ hFix D G (lad s.heap.size a2) s.heap.size (lrho L xs) s s.heap := by
  have hA : ∀ a : Nat, a < s.heap.size → ¬ hAs s.heap.size a := fun a h => Nat.not_le.mpr h
  obtain ⟨D, hD9⟩ := l_D hts
  obtain ⟨G, hG9⟩ := l_G hts
  obtain ⟨tP, lP, zP, rP⟩ := l_tab hf (k := 1) (p := 24) (n := 9) (ty := .int) (F := mpow) (by decide) (by decide +kernel) (by decide +kernel) (by decide +kernel) (hts _ (by decide +kernel)) (hts _ (by decide +kernel))
  obtain ⟨tC, lC, zC, rC⟩ := l_tab hf (k := 2) (p := 8) (n := 13) (ty := .int) (F := mcnt) (by decide) (by decide +kernel) (by decide +kernel) (by decide +kernel) (hts _ (by decide +kernel)) (hts _ (by decide +kernel))
  obtain ⟨tT, lT9, zT, rT⟩ := l_tab hf (k := 3) (p := 143) (n := 100) (ty := .byte) (F := dTen) (by decide) (by decide +kernel) (by decide +kernel) (by decide +kernel) (hts _ (by decide +kernel)) (hts _ (by decide +kernel))
  obtain ⟨tO, lO, zO, rO⟩ := l_tab hf (k := 4) (p := 40) (n := 100) (ty := .byte) (F := dOne) (by decide) (by decide +kernel) (by decide +kernel) (by decide +kernel) (hts _ (by decide +kernel)) (hts _ (by decide +kernel))
  obtain ⟨adK, adV, hK, eK, eM⟩ := l_str hf
  obtain ⟨t5, h5, hZ5⟩ := l_sio hts hf hb9
  have hScr : va_T .int b L (fun j => .int (xs j)) (hAs s.heap.size) s s.heap := by
    obtain ⟨scr, x1, x2, x3, x4, x5⟩ := hXb
    exact ⟨scr, x1, x2, x3, by omega, (by rw [x4] <;> rfl), x5, hA b hb9⟩
  generalize ha2 : lad2 b tP tC tT tO t5 adK adV = a2
  have q0 : a2 0 = b := by rw [← ha2]; rfl
  have key : ∀ k, a2 k < s.heap.size ∨ s.heap.size + 1000000 ≤ a2 k := fun k => by
    rw [← ha2]
    match k with
    | 0 => exact Or.inl hb9
    | 1 => exact Or.inl lP
    | 2 => exact Or.inl lC
    | 3 => exact Or.inl lT9
    | 4 => exact Or.inl lO
    | 5 => exact Or.inl (l_outO (hK.1 0 (by decide)).1)
    | 6 => exact Or.inl (l_outO (hK.1 1 (by decide)).1)
    | 7 => exact Or.inl (l_outO (hK.1 2 (by decide)).1)
    | 8 => exact Or.inl (l_outO (hK.1 3 (by decide)).1)
    | 9 => exact Or.inl (l_outO (hK.1 4 (by decide)).1)
    | 10 => exact Or.inl (Nat.not_le.mp (hK.1 0 (by decide)).2.2.2.out)
    | 11 => exact Or.inl (Nat.not_le.mp (hK.1 1 (by decide)).2.2.2.out)
    | 12 => exact Or.inl (Nat.not_le.mp (hK.1 2 (by decide)).2.2.2.out)
    | 13 => exact Or.inl (Nat.not_le.mp (hK.1 3 (by decide)).2.2.2.out)
    | 14 => exact Or.inl (Nat.not_le.mp (hK.1 4 (by decide)).2.2.2.out)
    | 15 => exact Or.inl hb9
    | 16 => exact Or.inl hb9
    | 17 => exact Or.inl hb9
    | 18 => exact Or.inl hb9
    | 19 => exact Or.inl hb9
    | 20 => exact h5
    | k + 21 => exact Or.inl hb9
  refine ⟨D, G, a2, ⟨fun i hi => if_pos hi, fun i hi => ?_⟩, q0, ⟨hD9, hG9⟩, fun i hi => ?_, fun k hk => ?_, ?_, ?_, ⟨fun ty hty => ?_, va_Nw.of rfl (hts (.castable "[B" "java/lang/Cloneable") (by decide +kernel))⟩, Nat.le_refl _, l_sels hts⟩
  · obtain ⟨k, rfl⟩ : ∃ k, i = 1000000 + k := ⟨i - 1000000, by omega⟩
    rw [lad_k]
    exact key k
  · have e9 : i = 1000000 + (i - 1000000) := by omega
    generalize i - 1000000 = k at e9 ⊢
    rw [e9, ← ha2]
    clear e9 hi key q0 ha2
    match k with
    | 0 => exact l_rI (lad_k 0) hScr
    | 1 => exact l_rI (lad_k 1) rP
    | 2 => exact l_rI (lad_k 2) rC
    | 3 => exact l_rB (lad_k 3) rT
    | 4 => exact l_rB (lad_k 4) rO
    | 5 => exact l_rK (lad_k 5) (lad_k 10) (hK.1 0 (by decide)).1 (hK.1 0 (by decide)).2.2.1 (hK.1 0 (by decide)).2.1
    | 6 => exact l_rK (lad_k 6) (lad_k 11) (hK.1 1 (by decide)).1 (hK.1 1 (by decide)).2.2.1 (hK.1 1 (by decide)).2.1
    | 7 => exact l_rK (lad_k 7) (lad_k 12) (hK.1 2 (by decide)).1 (hK.1 2 (by decide)).2.2.1 (hK.1 2 (by decide)).2.1
    | 8 => exact l_rK (lad_k 8) (lad_k 13) (hK.1 3 (by decide)).1 (hK.1 3 (by decide)).2.2.1 (hK.1 3 (by decide)).2.1
    | 9 => exact l_rK (lad_k 9) (lad_k 14) (hK.1 4 (by decide)).1 (hK.1 4 (by decide)).2.2.1 (hK.1 4 (by decide)).2.1
    | 10 => exact l_rB (lad_k 10) (hK.1 0 (by decide)).2.2.2
    | 11 => exact l_rB (lad_k 11) (hK.1 1 (by decide)).2.2.2
    | 12 => exact l_rB (lad_k 12) (hK.1 2 (by decide)).2.2.2
    | 13 => exact l_rB (lad_k 13) (hK.1 3 (by decide)).2.2.2
    | 14 => exact l_rB (lad_k 14) (hK.1 4 (by decide)).2.2.2
    | k + 15 => rw [lrho_o]; exact True.intro
  · have eP : lad s.heap.size a2 1000001 = tP := by rw [← ha2]; exact lad_k 1
    have eC9 : lad s.heap.size a2 1000002 = tC := by rw [← ha2]; exact lad_k 2
    have eT : lad s.heap.size a2 1000003 = tT := by rw [← ha2]; exact lad_k 3
    have eO : lad s.heap.size a2 1000004 = tO := by rw [← ha2]; exact lad_k 4
    have e5 : lad s.heap.size a2 1000020 = t5 := by rw [← ha2]; exact lad_k 20
    match k, hk with
    | 0, _ => exact ⟨.int 1, hsv_n (by decide) rfl, va_Zof (hts _ (by decide +kernel)) (hts _ (by decide +kernel)) (va_eqi (hf (.eq (lTm 0) (.int 1)) (by decide +kernel))) hA⟩
    | 1, _ => exact ⟨.ref 1000001, hsv_n (by decide) rfl, by show va_Z _ _ _ (.ref (lad s.heap.size a2 1000001)) _ _ _; rw [eP]; exact zP⟩
    | 2, _ => exact ⟨.ref 1000002, hsv_n (by decide) rfl, by show va_Z _ _ _ (.ref (lad s.heap.size a2 1000002)) _ _ _; rw [eC9]; exact zC⟩
    | 3, _ => exact ⟨.ref 1000003, hsv_n (by decide) rfl, by show va_Z _ _ _ (.ref (lad s.heap.size a2 1000003)) _ _ _; rw [eT]; exact zT⟩
    | 4, _ => exact ⟨.ref 1000004, hsv_n (by decide) rfl, by show va_Z _ _ _ (.ref (lad s.heap.size a2 1000004)) _ _ _; rw [eO]; exact zO⟩
    | 5, _ => exact hZ5 _ (fun i hi => if_pos hi) e5
    | k + 6, hk => exact absurd hk (by omega)
  · have eA : ∀ j, j < 5 → lad s.heap.size a2 (1000005 + j) = adK j := fun j hj => by
      rw [← ha2, show 1000005 + j = 1000000 + (5 + j) by omega, lad_k]
      match j, hj with
      | 0, _ => rfl
      | 1, _ => rfl
      | 2, _ => rfl
      | 3, _ => rfl
      | 4, _ => rfl
      | j + 5, hj => exact absurd hj (by omega)
    have kA : ∀ (j : Nat) (tx : String), j < 5 → Cond.stringRef "ShuffleAlgebra" (lKs.getD j 0) tx ∈ lw_tbl → vk_R "ShuffleAlgebra" (lKs.getD j 0) tx (lad s.heap.size a2 (1000005 + j)) s := fun j tx hj hm => by
      rw [eA j hj]
      exact vk_R.of (hts _ hm) (eK j hj)
    have kM : ∀ (j : Nat) (tx : String), j < 5 → Cond.stringRef "ShuffleAlgebraModel" (lKm.getD j 0) tx ∈ lw_tbl → vk_R "ShuffleAlgebraModel" (lKm.getD j 0) tx (lad s.heap.size a2 (1000005 + j)) s := fun j tx hj hm => by
      rw [eA j hj]
      exact vk_R.of (hts _ hm) (eM j hj)
    unfold htxt
    simp only [List.forall_mem_cons]
    exact ⟨kA 0 "reverse" (by decide) (by decide +kernel), kA 1 "negate" (by decide) (by decide +kernel), kA 2 "even" (by decide) (by decide +kernel), kA 3 "odd" (by decide) (by decide +kernel), kA 4 "lyndon" (by decide) (by decide +kernel), kM 0 "reverse" (by decide) (by decide +kernel), kM 1 "negate" (by decide) (by decide +kernel), kM 2 "even" (by decide) (by decide +kernel), kM 3 "odd" (by decide) (by decide +kernel), kM 4 "lyndon" (by decide) (by decide +kernel), fun _ h => absurd h List.not_mem_nil⟩
  · have c1 : (hnst.all fun q => decide (Cond.methodLinkNest q.1 q.2.1 q.2.2.1 q.2.2.2 ∈ lw_tbl)) = true := by decide +kernel
    intro q hq
    have := List.all_eq_true.mp c1 q hq
    exact va_Nw.of rfl (hts _ (of_decide_eq_true this))
  · have c1 : (htyo.all fun ty => decide (Cond.arrayOver ty ∈ lw_tbl)) = true := by decide +kernel
    have := List.all_eq_true.mp c1 ty hty
    exact hts _ (of_decide_eq_true this)
def lOff : Array Int := #[168, 201, 224, 247, 280, 313, 346, 389, 432, 455, 478, 511, 544, 567, 600, 633, 656, 699, 733, 756, 789, 832, 866, 909, 952, 1005, 1038, 1091, 1134, 1168, 1201, 1224, 1247, 1270, 1293, 1316, 1349, 1362]
theorem lOff_at : ∀ m, m < 38 → lOff[m]? = some ((lT m : Int) - 32) := by decide +kernel
end M49
section M50
variable {p : Program} {l : Launch} {e : Env} {R : Room} {s : State} {m : MethodId} {args : Array Value} {below : List Frame} {meth : Method} {c : Code} {D : va_G} {G : Nat → ClassId} {ad : Nat → Nat} {base : Nat} {ρ : Nat → hE} {own : String} {cc : ByteArray} {nL mc ms B d : Nat} {Qf : State → Prop}
theorem hs_swI {pc N c' s' : Nat} {w : hWd} {ls : hLs} {st : List Value} (C : hCtx p R s m args c D G ad base ρ own cc nL mc ms B d) {dflt lo hi : Int} {offs : Array Int} {len : Nat} {x : Int32} {off : Int} {tgt : Nat} (hd : decode cc pc = .ok (.tableswitch dflt lo hi offs, len)) (h1 : ¬ x.toInt < lo) (h2 : ¬ hi < x.toInt) (ho : offs[(x.toInt - lo).toNat]? = some off) (ht : (pc : Int) + off = (tgt : Int)) (h : hAW p l e R s m args below meth c D G ad base ρ nL mc ms B Qf N c' s' w tgt ls st) : hAW p l e R s m args below meth c D G ad base ρ nL mc ms B Qf N c' s' w pc ls (.int x :: st) := by
  intro g1 g2 g3 H locs la hw hS hl
  exact lv_tableIn C.1 C.2.1 hd h1 h2 ho ht (h g1 g2 g3 H locs la hw hS hl)
theorem hs_swO {pc N c' s' : Nat} {w : hWd} {ls : hLs} {st : List Value} (C : hCtx p R s m args c D G ad base ρ own cc nL mc ms B d) {dflt lo hi : Int} {offs : Array Int} {len : Nat} {x : Int32} {tgt : Nat} (hd : decode cc pc = .ok (.tableswitch dflt lo hi offs, len)) (h1 : x.toInt < lo ∨ hi < x.toInt) (ht : (pc : Int) + dflt = (tgt : Int)) (h : hAW p l e R s m args below meth c D G ad base ρ nL mc ms B Qf N c' s' w tgt ls st) : hAW p l e R s m args below meth c D G ad base ρ nL mc ms B Qf N c' s' w pc ls (.int x :: st) := by
  intro g1 g2 g3 H locs la hw hS hl
  exact lv_tableOut C.1 C.2.1 hd h1 ht (h g1 g2 g3 H locs la hw hS hl)
end M50
