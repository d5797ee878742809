/-! soundness, fourth part: arrays of objects, of arrays, clone -/
section HS3b
variable {p : Program} {l : Launch} {e : Env} {R : Room} {s : State} {m : MethodId} {args : Array Value} {below : List Frame} {meth : Method} {c : Code} {D : va_G} {G : Nat → ClassId} {ad : Nat → Nat} {base : Nat} {ρ : Nat → hE} {own : String} {cc : ByteArray} {nL mc ms B d : Nat} {Qf : State → Prop}
variable {Γ : hGm} {ret : Option FieldType} {pc a1 a2 : Nat} {z : Int} {y : MethodName} {wi : List Nat} {N c' s' : Nat} {w : hWd} {ls : hLs} {st : List Value} {K : hPt} {Rt : hRt}
theorem hBa_d {x : hE} {k : Nat → (Nat → Int32) → Prop} (h : hBa x k) : ∃ n f, x = .inl (2, n, .inl f) ∧ k n f := by
  unfold hBa at h; split at h
  · exact ⟨_, _, rfl, h⟩
  · exact h.elim
theorem va_S.growN {A : Nat → Prop} {H0 H H1 : Heap} {locs : List Loc} {k : Nat} (h : va_S A H0 H locs) (z : H1.size = H.size + k) (oq : ∀ q : Nat, q < H.size → H1[q]? = H[q]?) : va_S A H0 H1 locs :=
  ⟨Nat.le_trans h.1 (by omega), fun x h1 h2 => (oq x (Nat.lt_of_lt_of_le h1 h.1)).trans (h.2.1 x h1 h2), h.2.2⟩
theorem hs_castB {idx i0 : Nat} (C : hCtx p R s m args c D G ad base ρ own cc nL mc ms B d) (hd : decode cc pc = .ok (.checkcast idx, 3)) (ha1 : a1 = 101) (hl0 : lw_tbl[i0]? = some (.classLink own idx "[B")) (h : hx Γ ret (pc, .checkcast idx, a1, a2, z, y, wi) N c' s' w ls st K Rt) (hK : ∀ N c' s' w pc ls st, K N c' s' w pc ls st → hAW p l e R s m args below meth c D G ad base ρ nL mc ms B Qf N c' s' w pc ls st) : hAW p l e R s m args below meth c D G ad base ρ nL mc ms B Qf N c' s' w pc ls st := by
  subst ha1
  obtain ⟨b, r, rfl, h⟩ := hpA_d h
  obtain ⟨n, f, hb, h⟩ := hBa_d h
  intro g1 g2 g3 H locs la hw hS hl
  have hbN := hmutA C.fix hw hb (by omega)
  have hnm : s.vm.findClass "[B" = some (G 2) := (C.fix.1.2 2 _ rfl).2
  exact va_castA C.1 C.2.1 C.hown (C.hts _ (lw_g_in hl0 rfl)) hw.1 b (by rw [hws_get hbN, hb]; rfl) hnm hd (hK _ _ _ _ _ _ _ h g1 g2 g3 H locs la hw hS hl)
theorem hs_clone {idx i0 i1 i2 i3 i4 : Nat} (C : hCtx p R s m args c D G ad base ρ own cc nL mc ms B d) (hd : decode cc pc = .ok (.invokevirtual idx, 3)) (ha1 : a1 = 101) (hl0 : lw_tbl[i0]? = some (.methodLink own idx ⟨"[B", "clone", "()Ljava/lang/Object;"⟩)) (hl1 : lw_tbl[i1]? = some (.sameMethod "[B" "java/lang/Object" "clone" "()Ljava/lang/Object;")) (hl2 : lw_tbl[i2]? = some (.native ⟨"java/lang/Object", "clone", "()Ljava/lang/Object;"⟩)) (hl3 : lw_tbl[i3]? = some (.instanceMethod ⟨"java/lang/Object", "clone", "()Ljava/lang/Object;"⟩)) (hl4 : lw_tbl[i4]? = some (.selects "[B" ⟨"[B", "clone", "()Ljava/lang/Object;"⟩ ⟨"java/lang/Object", "clone", "()Ljava/lang/Object;"⟩)) (h : hx Γ ret (pc, .invokevirtual idx, a1, a2, z, y, wi) N c' s' w ls st K Rt) (hK : ∀ N c' s' w pc ls st, K N c' s' w pc ls st → hAW p l e R s m args below meth c D G ad base ρ nL mc ms B Qf N c' s' w pc ls st) : hAW p l e R s m args below meth c D G ad base ρ nL mc ms B Qf N c' s' w pc ls st := by
  subst ha1
  obtain ⟨b, r, rfl, h⟩ := hpA_d h
  obtain ⟨hcat, h⟩ := hck_d (ad := ad) _ _ _ h
  obtain ⟨n, f, hb, hf, hc1, hs1, h⟩ := hBa_d h
  intro g1 g2 g3 H locs la hw hS hl
  have hbN := hmutA C.fix hw hb (by omega)
  have hN : N < 1000000 := by have := C.bound (N := N) (c' := c') g3; have := C.2.2.2.2.2.2.2.2.2.1; omega
  have hr := hw.adN C.had hN
  have hnm : s.vm.findClass "[B" = some (G 2) := (C.fix.1.2 2 _ rfl).2
  have hcell : H[ad b]? = some (arrV (G 2) n (fun j => .int (f j))) := hw.at hbN hb
  obtain ⟨c0, t0, f1, f2, f3⟩ := Cond.castable_spec (va_Nw.use (A := args) rfl C.fix.2.2.2.2.2.1.2)
  cases hnm.symm.trans f1
  have hsz : la.size = nL := hl.2.choose_spec.1.1
  have hfr := C.fr
  have hcat2 : ((r.map (hv ad)).map fun v => v.category).sum ≤ 8 := hcat
  intro T hT X
  have hcellT : T.heap[ad b]? = some (arrV (G 2) n (fun j => .int (f j))) := by rw [hT]; exact hcell
  obtain ⟨-, kA, hkA, comp, hkind⟩ := State.isArrayOf_alike X.warmed.alike ((C.fix.1.2 2 _ rfl).1 0 (fun _ => .null))
  obtain ⟨-, kS, hkS, compS, hkindS⟩ := (C.fix.1.2 2 _ rfl).1 0 (fun _ => .null)
  obtain ⟨vm', X', step⟩ := X.cloneArray C.1 C.hown (C.hts _ (lw_g_in hl0 rfl)) (C.hts _ (lw_g_in hl1 rfl)) (C.hts _ (lw_g_in hl2 rfl)) (C.hts _ (lw_g_in hl3 rfl)) (C.hts _ (lw_g_in hl4 rfl)) (a := ad b) (cell := arrV (G 2) n (fun j => .int (f j))) hcellT (fun _ q => by cases q) (fun q => by cases q) hnm f2 f3
    (fun i v hv => by
      have hk' : T.vm.classes[G 2]? = some kA := hkA
      have hi : i < n := by
        have := (Array.getElem?_eq_some_iff.mp hv).1
        rwa [arrV_size] at this
      rw [arrV_read _ _ hi] at hv
      cases hv
      show T.fitsSlot (G 2) .none i (.int (f i)) = true
      simpa [State.fitsSlot, State.slotType?, hk', hkind] using hf i hi)
    (g := F0 m pc la (.ref (ad b) :: r.map (hv ad))) rfl (by rw [C.2.2.1]; exact hsz) rfl (by rw [C.2.1]; exact hd) (by omega) (by show 2 * 0 + _ + 14 ≤ _; omega) (by rw [C.rc.1]; omega) (by rw [C.rc.2, arrV_size]; omega) (hloader := Vm.clonesLoader_of_array hkS hkindS)
  have hcE : ({ cls := (arrV (G 2) n (fun j => .int (f j))).cls, slots := (arrV (G 2) n (fun j => .int (f j))).slots } : Cell) = arrV (G 2) n (fun j => .int (f j)) := rfl
  rw [hcE, arrV_size] at X'
  rw [hcE] at step
  generalize hH1 : H.push (arrV (G 2) n (fun j => .int (f j))) = H1
  have z1 : H1.size = H.size + 1 := by rw [← hH1, Array.size_push]
  have e1 : H1[H.size]? = some (arrV (G 2) n (fun j => .int (f j))) := by rw [← hH1, Array.getElem?_push_size]
  have o1 : ∀ q : Nat, q < H.size → H1[q]? = H[q]? := fun q hq => by rw [← hH1, Array.getElem?_push, if_neg (Nat.ne_of_lt hq)]
  have hw' : hW D G ad base ρ (N + 1) (va_up w N (.inl (2, n, .inl f))) H1 := hw.born C.had hN (show (2 : Nat) < 7 by decide) z1 o1 (by rw [hr]; exact e1)
  have h9 := hK _ _ _ _ _ _ _ h (by omega) (by omega) (by omega) H1 locs la hw' (hS.grow z1 o1) hl
  rw [show mc - (c' - 1) = mc - c' + 1 by omega, show ms - (s' - n) = ms - s' + n by omega] at h9
  have e9 : (Value.ref N :: r).map (hv ad) = .ref H.size :: r.map (hv ad) := by rw [← hr]; rfl
  rw [e9] at h9
  obtain ⟨t2, b1, b2⟩ := h9 _ (by rw [← hH1, ← hT]; rfl) X'
  refine ⟨t2, step t2 ?_, b2⟩
  rw [hT]
  exact b1
theorem hs_anewarray {idx i0 : Nat} (C : hCtx p R s m args c D G ad base ρ own cc nL mc ms B d) (hd : decode cc pc = .ok (.anewarray idx, 3)) (hl0 : lw_tbl[i0]? = some (.classLink own idx "ShuffleAlgebra$Polynomial")) (h : hx Γ ret (pc, .anewarray idx, a1, a2, z, y, wi) N c' s' w ls st K Rt) (hK : ∀ N c' s' w pc ls st, K N c' s' w pc ls st → hAW p l e R s m args below meth c D G ad base ρ nL mc ms B Qf N c' s' w pc ls st) : hAW p l e R s m args below meth c D G ad base ρ nL mc ms B Qf N c' s' w pc ls st := by
  obtain ⟨n, r, rfl, h⟩ := hpI_d h
  obtain ⟨hn, hc1, hs1, hb, h⟩ := h
  intro g1 g2 g3 H locs la hw hS hl
  have hN : N < 1000000 := by have := C.bound (N := N) (c' := c') g3; have := C.2.2.2.2.2.2.2.2.2.1; omega
  have hr := hw.adN C.had hN
  have hbytes : n.toNatClampNeg * 4 ≤ 536870912 := Nat.le_trans (Nat.mul_le_mul hb (Nat.le_refl 4)) (by decide)
  refine W.anew C.1 C.2.1 C.hown (C.hts _ (lw_g_in hl0 rfl)) (C.fix.2.2.2.2.2.1.use (by simp [htyo])) rfl hd rfl hn hbytes (by rw [C.rc.1]; omega) (by rw [C.rc.2]; omega) fun cA kA comp f1 f2 f3 f4 => ?_
  obtain ⟨-, kB, compB, -, -, -, g4⟩ := C.fix.1.2 4 _ rfl
  cases g4.symm.trans f1
  generalize hH1 : H.push ({ cls := G 4, slots := Array.replicate n.toNatClampNeg .null, vm := .none } : Cell) = H1
  have z1 : H1.size = H.size + 1 := by rw [← hH1, Array.size_push]
  have e1 : H1[H.size]? = some (arrV (G 4) n.toNatClampNeg (fun _ => .null)) := by rw [← hH1, Array.getElem?_push_size, ← arrV_new]
  have o1 : ∀ q : Nat, q < H.size → H1[q]? = H[q]? := fun q hq => by rw [← hH1, Array.getElem?_push, if_neg (Nat.ne_of_lt hq)]
  have hw' : hW D G ad base ρ (N + 1) (va_up w N (.inl (4, n.toNatClampNeg, .inr (.inr (.inr (.inr fun _ => none)))))) H1 := hw.born C.had hN (show (4 : Nat) < 7 by decide) z1 o1 (by rw [hr]; exact e1)
  have h9 := hK _ _ _ _ _ _ _ h (by omega) (by omega) (by omega) H1 locs la hw' (hS.grow z1 o1) hl
  rw [show mc - (c' - 1) = mc - c' + 1 by omega, show ms - (s' - n.toNatClampNeg) = ms - s' + n.toNatClampNeg by omega] at h9
  have e9 : (Value.ref N :: r).map (hv ad) = .ref H.size :: r.map (hv ad) := by rw [← hr]; rfl
  rw [e9] at h9
  exact h9
theorem hs_aastore (C : hCtx p R s m args c D G ad base ρ own cc nL mc ms B d) (hd : decode cc pc = .ok (.aastore, 1)) (h : hx Γ ret (pc, .aastore, a1, a2, z, y, wi) N c' s' w ls st K Rt) (hK : ∀ N c' s' w pc ls st, K N c' s' w pc ls st → hAW p l e R s m args below meth c D G ad base ρ nL mc ms B Qf N c' s' w pc ls st) : hAW p l e R s m args below meth c D G ad base ρ nL mc ms B Qf N c' s' w pc ls st := by
  obtain ⟨x, r, rfl, h⟩ := hpA_d h
  obtain ⟨j, r, rfl, h⟩ := hpI_d h
  obtain ⟨a, r, rfl, h⟩ := hpA_d h
  obtain ⟨n, f, ea, h⟩ := hwA_d h
  obtain ⟨fs, ex, hin, h⟩ := hwF_d h
  intro g1 g2 g3 H locs la hw hS hl
  have ha := hmutA C.fix hw ea (by omega)
  have hxN := hmutO C.fix hw ex (by omega)
  have hlt : j.toNatClampNeg < n := Nat.not_le.mp fun q => hin (Or.inr q)
  have h0 : ¬ j < 0 := fun q => hin (Or.inl q)
  obtain ⟨e1, -⟩ := hcls (ci := 3) (by decide)
  obtain ⟨r', hr', cellV, k1, k2, k3, -⟩ := hw.at hxN ex
  have hcl3 := (C.fix.1.1 3 _ e1).2
  obtain ⟨kA, comp, p1, p2, p3, -⟩ := (C.fix.1.2 4 _ rfl).2
  have hcomp : comp = D.1 3 := Option.some.inj (p3.symm.trans hcl3.1)
  subst hcomp
  obtain ⟨kC, hkC, -⟩ := hcl3.2
  have q0 : H[ad a]? = some (vp_cell (G 4) (n, .inr (.inr (.inr (.inr fun i => (f i).map ad))))) := hw.at ha ea
  refine W.aast C.1 C.2.1 q0 (fun q h => by cases h) (fun h => by cases h) p1 p2 rfl hkC ⟨h0, by show _ < (arrV _ _ _).slots.size; rw [arrV_size]; exact hlt⟩ k1 (fun q h => by rw [k3] at h; cases h) (by rw [k2]; exact hkC) (by rw [k2]; exact va_assign hcl3) rfl rfl hd fun H1 e1' z oq => ?_
  have hat : va_at D vwCl (ad a, hEv G ad (.inl (4, n, .inr (.inr (.inr (.inr (va_up f j.toNatClampNeg (some x)))))))) H1 := by
    show H1[ad a]? = some (vp_cell (G 4) (n, .inr (.inr (.inr (.inr fun i => (va_up f j.toNatClampNeg (some x) i).map ad)))))
    rw [e1', vp_cell_q, vp_cell_q, arrV_store]
    congr 2
    funext q
    by_cases hq : q = j.toNatClampNeg
    · subst hq
      simp [updV, va_up, va_rf]
    · simp [updV, va_up, hq]
  have hA := hA_in C.had (C.bound g3) ha
  exact hK _ _ _ _ _ _ _ h g1 g2 g3 H1 _ la (hw.write C.had (C.bound g3) ha (show (4 : Nat) < 7 by decide) z oq hat) (hS.put z oq hA) hl
theorem hs_mna {idx i0 i1 : Nat} {ty : FieldType} (C : hCtx p R s m args c D G ad base ρ own cc nL mc ms B d) (hd : decode cc pc = .ok (.multianewarray idx 2, 4)) (hq : (ty = .int ∧ a1 = 0) ∨ (ty = .long ∧ a1 = 1)) (hl0 : lw_tbl[i0]? = some (.classLink own idx ("[" ++ (FieldType.array ty).toString))) (hl1 : lw_tbl[i1]? = some (.arrayClass ty)) (h : hx Γ ret (pc, .multianewarray idx 2, a1, a2, z, y, wi) N c' s' w ls st K Rt) (hK : ∀ N c' s' w pc ls st, K N c' s' w pc ls st → hAW p l e R s m args below meth c D G ad base ρ nL mc ms B Qf N c' s' w pc ls st) : hAW p l e R s m args below meth c D G ad base ρ nL mc ms B Qf N c' s' w pc ls st := by
  obtain ⟨k, r, rfl, h⟩ := hpI_d h
  obtain ⟨n, r, rfl, h⟩ := hpI_d h
  obtain ⟨hn, hk, hc1, hs1, hb1, hb2, h⟩ := h
  intro g1 g2 g3 H locs la hw hS hl
  have hNc : N + (1 + n.toNatClampNeg) ≤ 1000000 := by have := C.2.2.2.2.2.2.2.2.2.1; omega
  have hr := hw.adN C.had (by omega)
  have hty : FieldType.array ty ∈ htyo := by rcases hq with ⟨rfl, -⟩ | ⟨rfl, -⟩ <;> simp [htyo]
  have hbt : componentBytes ty ≤ 8 ∧ fits ty (defaultValue ty) = true ∧ (defaultValue ty).isDefault = true := by rcases hq with ⟨rfl, -⟩ | ⟨rfl, -⟩ <;> decide
  intro T hT X
  obtain ⟨vm1, cA, comp, -, fA, fC, -, -, X', step⟩ := X.multianewarray2F C.1 C.hown (C.hts _ (lw_g_in hl0 rfl)) (C.fix.2.2.2.2.2.1.use hty) (C.hts _ (lw_g_in hl1 rfl)) (g := F0 m pc la (.int k :: .int n :: r.map (hv ad))) rfl (by rw [C.2.1]; exact hd) rfl hn hk (Nat.le_trans (Nat.mul_le_mul hb1 (Nat.le_refl 4)) (by decide)) (Nat.le_trans (Nat.mul_le_mul hb2 hbt.1) (by decide)) (by omega) hbt.2.1 hbt.2.2 (by rw [C.rc.1]; omega) (by rw [C.rc.2]; omega)
  obtain ⟨p1, p2, -, -⟩ := Jvm.Free.Multi.fill_facts (T.setVm vm1) cA comp n.toNatClampNeg k.toNatClampNeg (defaultValue ty) n.toNatClampNeg
  have p3 := fun (a : Nat) (ha : a < H.size) => Jvm.Free.Multi.fill_old (T.setVm vm1) cA comp n.toNatClampNeg k.toNatClampNeg (defaultValue ty) (a := a) (by show a < T.heap.size; rw [hT]; exact ha) n.toNatClampNeg
  have p4 := fun (j : Nat) (hj : j < n.toNatClampNeg) => Jvm.Free.Multi.fill_inner (T.setVm vm1) cA comp n.toNatClampNeg k.toNatClampNeg (defaultValue ty) n.toNatClampNeg j hj
  have hTh : (T.setVm vm1).heap = H := hT
  rw [hTh, hOut] at p2
  rw [hTh] at p1
  rw [hTh] at p3
  rw [hTh] at p4
  generalize hF : Jvm.Free.Multi.fill (T.setVm vm1) cA comp n.toNatClampNeg k.toNatClampNeg (defaultValue ty) n.toNatClampNeg = F at p1 p2 p3 p4 X' step
  have hz : F.heap.size = H.size + (1 + n.toNatClampNeg) := by rw [p1]; omega
  have hfin : ∀ (_ : G (5 + a1) = cA) (_ : ∀ (q M : Nat), F.heap[q]? = some (arrV comp M (fun _ => defaultValue ty)) → va_at D vwCl (q, hEv G ad (hzero a1 M)) F.heap) (_ : a1 < 2), hW D G ad base ρ (N + (1 + n.toNatClampNeg)) (hmul a1 n.toNatClampNeg k.toNatClampNeg N w) F.heap := by
    intro hG hin ha2
    refine hw.grows hNc hz p3 (fun i hi => ?_) (fun i h1 h2 => ?_)
    · rw [hmul_at, if_neg (by omega), if_neg (by omega)]
    · rw [hmul_at]
      by_cases e : i = N
      · subst e
        rw [if_pos rfl]
        refine ⟨show 5 + a1 < 7 by omega, ?_⟩
        rw [hr]
        show F.heap[H.size]? = some (vp_cell (G (5 + a1)) (n.toNatClampNeg, .inr (.inr (.inr (.inr fun j => (if j < n.toNatClampNeg then some (i + 1 + j) else none : Option Nat).map ad)))))
        rw [p2, hG, vp_cell_q]
        congr 2
        funext j
        by_cases hj : j < n.toNatClampNeg
        · rw [if_pos hj, if_pos hj]
          show Value.ref _ = Value.ref _
          rw [C.had.1 (i + 1 + j) (by omega), hw.2.1, show base + i + 1 + j = base + (i + 1 + j) by omega]
        · rw [if_neg hj, if_neg hj]
          rfl
      · rw [if_neg e, if_pos (by omega)]
        have e2 : ad i = H.size + 1 + (i - (N + 1)) := by rw [C.had.1 i (by omega), hw.2.1]; omega
        refine ⟨?_, ?_⟩
        · have : a1 = 0 ∨ a1 = 1 := by omega
          rcases this with rfl | rfl
          · exact (by decide : (0 : Nat) < 7)
          · exact (by decide : (1 : Nat) < 7)
        · rw [e2]
          refine hin _ _ ?_
          rw [p4 (i - (N + 1)) (by omega), hInn]
  have hw' : hW D G ad base ρ (N + (1 + n.toNatClampNeg)) (hmul a1 n.toNatClampNeg k.toNatClampNeg N w) F.heap := by
    have hK0 := C.fix.1.2
    rcases hq with ⟨rfl, rfl⟩ | ⟨rfl, rfl⟩
    · have hG := Option.some.inj ((hK0 5 _ rfl).2.symm.trans fA)
      have hG0 : G 0 = comp := Option.some.inj ((hK0 0 _ rfl).2.symm.trans fC)
      refine hfin hG (fun q M h => ?_) (by decide)
      rw [← hG0] at h
      exact h
    · have hG := Option.some.inj ((hK0 6 _ rfl).2.symm.trans fA)
      have hG0 : G 1 = comp := Option.some.inj ((hK0 1 _ rfl).2.symm.trans fC)
      refine hfin hG (fun q M h => ?_) (by decide)
      rw [← hG0] at h
      exact h
  have h9 := hK _ _ _ _ _ _ _ h (by omega) (by omega) (by omega) F.heap locs la hw' (hS.growN hz p3) hl
  rw [show mc - (c' - (1 + n.toNatClampNeg)) = mc - c' + 1 + n.toNatClampNeg by omega, show ms - (s' - (n.toNatClampNeg + n.toNatClampNeg * k.toNatClampNeg)) = ms - s' + n.toNatClampNeg + n.toNatClampNeg * k.toNatClampNeg by omega] at h9
  have e9 : (Value.ref N :: r).map (hv ad) = .ref T.heap.size :: r.map (hv ad) := by rw [hT, ← hr]; rfl
  rw [e9] at h9
  obtain ⟨t2, b1, b2⟩ := h9 F rfl X'
  exact ⟨t2, step t2 b1, b2⟩
end HS3b
