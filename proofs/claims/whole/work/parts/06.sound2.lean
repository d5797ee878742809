/-! soundness, second part: cells, constants, calls, returns -/
section HS2
variable {p : Program} {l : Launch} {e : Env} {R : Room} {s : State} {m : MethodId} {args : Array Value} {below : List Frame} {meth : Method} {c : Code} {D : va_G} {G : Nat → ClassId} {ad : Nat → Nat} {base : Nat} {ρ : Nat → hE} {own : String} {cc : ByteArray} {nL mc ms B d : Nat} {Qf : State → Prop}
variable {Γ : hGm} {ret : Option FieldType} {pc a1 a2 : Nat} {z : Int} {y : MethodName} {wi : List Nat} {N c' s' : Nat} {w : hWd} {ls : hLs} {st : List Value} {K : hPt} {Rt : hRt}
theorem hCtx.bound (C : hCtx p R s m args c D G ad base ρ own cc nL mc ms B d) (g : N + c' ≤ B) : N ≤ 1000000 := by
  have := C.2.2.2.2.2.2.2.2.2.1
  omega
theorem hCtx.fix (C : hCtx p R s m args c D G ad base ρ own cc nL mc ms B d) : hFix D G ad base ρ s s.heap := C.2.2.2.2.2.1
theorem hCtx.hts (C : hCtx p R s m args c D G ad base ρ own cc nL mc ms B d) : ∀ w ∈ lw_g, w.before args s = true := C.2.2.2.2.1
theorem hCtx.hown (C : hCtx p R s m args c D G ad base ρ own cc nL mc ms B d) : s.vm.findClass own = some m.cls := C.2.2.2.1
theorem hCtx.had (C : hCtx p R s m args c D G ad base ρ own cc nL mc ms B d) : hAd base ad := C.2.2.2.2.2.2.2.2.1
theorem hCtx.rc (C : hCtx p R s m args c D G ad base ρ own cc nL mc ms B d) : R.cells = mc ∧ R.slots = ms := ⟨C.2.2.2.2.2.2.1, C.2.2.2.2.2.2.2.1⟩
theorem hCtx.fr (C : hCtx p R s m args c D G ad base ρ own cc nL mc ms B d) : d + 1 ≤ R.frames ∧ 60 * (d + 1) ≤ R.locals := C.2.2.2.2.2.2.2.2.2.2
theorem hCtx.al (C : hCtx p R s m args c D G ad base ρ own cc nL mc ms B d) {q : Nat} (h : s.heap.size ≤ q) : hAs base q := Nat.le_trans C.fix.2.2.2.2.2.2.1 h
theorem hty_i {G : Nat → ClassId} {t : Nat} {ty : FieldType} (h : (htys G)[t]? = some (G t, ty)) : (htys G)[t]? = some (G t, ty) := h
theorem hs_iaload  (C : hCtx p R s m args c D G ad base ρ own cc nL mc ms B d) (hd : decode cc pc = .ok (.iaload, 1))  (h : hx Γ ret (pc, .iaload, a1, a2, z, y, wi) N c' s' w ls st K Rt) (hK : ∀ N c' s' w pc ls st, K N c' s' w pc ls st → hAW p l e R s m args below meth c D G ad base ρ nL mc ms B Qf N c' s' w pc ls st) : hAW p l e R s m args below meth c D G ad base ρ nL mc ms B Qf N c' s' w pc ls st := by
  obtain ⟨j, r, rfl, h⟩ := hpI_d h
  obtain ⟨a, r, rfl, h⟩ := hpA_d h
  obtain ⟨n, f, h1, hin, h⟩ := hrI_d h
  intro g1 g2 g3 H locs la hw hS hl
  rcases h1 with h1 | h1
  · have ha := hmutA C.fix hw h1 (by decide)
    exact W.iald (v := .int (f j.toNatClampNeg)) C.1 C.2.1 (show H[ad a]? = some (arrV (G 0) n (fun j => .int (f j))) from hw.at ha h1) ((C.fix.1.2 0 _ rfl).1 n (fun j => .int (f j))) (fun q => by cases q) (by rw [arrV_size]; exact hin) (by rw [arrV_read _ _ (Nat.not_le.mp fun q => hin (Or.inr q))]) rfl rfl hd (hK _ _ _ _ _ _ _ h g1 g2 g3 H locs la hw hS hl)
  · exact va_ti C.1 C.2.1 (hroA C.fix hw h1 (Or.inl rfl)) hS hin rfl hd (hK _ _ _ _ _ _ _ h g1 g2 g3 H locs la hw hS hl)
theorem hs_baload  (C : hCtx p R s m args c D G ad base ρ own cc nL mc ms B d) (hd : decode cc pc = .ok (.baload, 1))  (h : hx Γ ret (pc, .baload, a1, a2, z, y, wi) N c' s' w ls st K Rt) (hK : ∀ N c' s' w pc ls st, K N c' s' w pc ls st → hAW p l e R s m args below meth c D G ad base ρ nL mc ms B Qf N c' s' w pc ls st) : hAW p l e R s m args below meth c D G ad base ρ nL mc ms B Qf N c' s' w pc ls st := by
  obtain ⟨j, r, rfl, h⟩ := hpI_d h
  obtain ⟨a, r, rfl, h⟩ := hpA_d h
  obtain ⟨n, f, h1, hin, h⟩ := hrB_d h
  intro g1 g2 g3 H locs la hw hS hl
  rcases h1 with h1 | h1 | h1
  · have ha := hmutA C.fix hw h1 (by decide)
    exact W.bald (v := .int (f j.toNatClampNeg)) C.1 C.2.1 (show H[ad a]? = some (arrV (G 2) n (fun j => .int (f j))) from hw.at ha h1) ((C.fix.1.2 2 _ rfl).1 n (fun j => .int (f j))) (fun q => by cases q) (by rw [arrV_size]; exact hin) (by rw [arrV_read _ _ (Nat.not_le.mp fun q => hin (Or.inr q))]) rfl rfl hd (hK _ _ _ _ _ _ _ h g1 g2 g3 H locs la hw hS hl)
  · have ha := hmutA C.fix hw h1 (by decide)
    exact W.zald (v := .int (f j.toNatClampNeg)) C.1 C.2.1 (show H[ad a]? = some (arrV (G 3) n (fun j => .int (f j))) from hw.at ha h1) ((C.fix.1.2 3 _ rfl).1 n (fun j => .int (f j))) (fun q => by cases q) (by rw [arrV_size]; exact hin) (by rw [arrV_read _ _ (Nat.not_le.mp fun q => hin (Or.inr q))]) rfl rfl hd (hK _ _ _ _ _ _ _ h g1 g2 g3 H locs la hw hS hl)
  · exact va_tb C.1 C.2.1 (hroA C.fix hw h1 (Or.inr rfl)) hS hin rfl hd (hK _ _ _ _ _ _ _ h g1 g2 g3 H locs la hw hS hl)
theorem hs_laload  (C : hCtx p R s m args c D G ad base ρ own cc nL mc ms B d) (hd : decode cc pc = .ok (.laload, 1))  (h : hx Γ ret (pc, .laload, a1, a2, z, y, wi) N c' s' w ls st K Rt) (hK : ∀ N c' s' w pc ls st, K N c' s' w pc ls st → hAW p l e R s m args below meth c D G ad base ρ nL mc ms B Qf N c' s' w pc ls st) : hAW p l e R s m args below meth c D G ad base ρ nL mc ms B Qf N c' s' w pc ls st := by
  obtain ⟨j, r, rfl, h⟩ := hpI_d h
  obtain ⟨a, r, rfl, h⟩ := hpA_d h
  obtain ⟨n, f, h1, hin, h⟩ := hrL_d h
  intro g1 g2 g3 H locs la hw hS hl
  have ha := hmutA C.fix hw h1 (by decide)
  exact W.lald (v := .long (f j.toNatClampNeg)) C.1 C.2.1 (show H[ad a]? = some (arrV (G 1) n (fun j => .long (f j))) from hw.at ha h1) ((C.fix.1.2 1 _ rfl).1 n (fun j => .long (f j))) (fun q => by cases q) (by rw [arrV_size]; exact hin) (by rw [arrV_read _ _ (Nat.not_le.mp fun q => hin (Or.inr q))]) rfl rfl hd (hK _ _ _ _ _ _ _ h g1 g2 g3 H locs la hw hS hl)
theorem hs_aaload  (C : hCtx p R s m args c D G ad base ρ own cc nL mc ms B d) (hd : decode cc pc = .ok (.aaload, 1))  (h : hx Γ ret (pc, .aaload, a1, a2, z, y, wi) N c' s' w ls st K Rt) (hK : ∀ N c' s' w pc ls st, K N c' s' w pc ls st → hAW p l e R s m args below meth c D G ad base ρ nL mc ms B Qf N c' s' w pc ls st) : hAW p l e R s m args below meth c D G ad base ρ nL mc ms B Qf N c' s' w pc ls st := by
  obtain ⟨j, r, rfl, h⟩ := hpI_d h
  obtain ⟨a, r, rfl, h⟩ := hpA_d h
  obtain ⟨t, n, f, ht, h1, hin, h⟩ := hrA_d h
  intro g1 g2 g3 H locs la hw hS hl
  have ha := hmutA C.fix hw h1 (by omega)
  have ev : hv ad (va_rf (f j.toNatClampNeg)) = va_rf ((f j.toNatClampNeg).map ad) := by cases f j.toNatClampNeg <;> rfl
  have h9 := (hK _ _ _ _ _ _ _ h g1 g2 g3 H locs la hw hS hl)
  rw [List.map_cons, ev] at h9
  rcases ht with rfl | rfl | rfl
  · exact W.aald (v := va_rf ((f j.toNatClampNeg).map ad)) (ty := .object "ShuffleAlgebra$Polynomial") C.1 C.2.1 (show H[ad a]? = some (arrV (G 4) n (fun j => va_rf ((f j).map ad))) from hw.at ha h1) ((C.fix.1.2 4 _ rfl).1 n (fun j => va_rf ((f j).map ad))) rfl (fun q => by cases q) (by rw [arrV_size]; exact hin) (by rw [arrV_read _ _ (Nat.not_le.mp fun q => hin (Or.inr q))]) rfl rfl hd h9
  · exact W.aald (v := va_rf ((f j.toNatClampNeg).map ad)) (ty := .array .int) C.1 C.2.1 (show H[ad a]? = some (arrV (G 5) n (fun j => va_rf ((f j).map ad))) from hw.at ha h1) ((C.fix.1.2 5 _ rfl).1 n (fun j => va_rf ((f j).map ad))) rfl (fun q => by cases q) (by rw [arrV_size]; exact hin) (by rw [arrV_read _ _ (Nat.not_le.mp fun q => hin (Or.inr q))]) rfl rfl hd h9
  · exact W.aald (v := va_rf ((f j.toNatClampNeg).map ad)) (ty := .array .long) C.1 C.2.1 (show H[ad a]? = some (arrV (G 6) n (fun j => va_rf ((f j).map ad))) from hw.at ha h1) ((C.fix.1.2 6 _ rfl).1 n (fun j => va_rf ((f j).map ad))) rfl (fun q => by cases q) (by rw [arrV_size]; exact hin) (by rw [arrV_read _ _ (Nat.not_le.mp fun q => hin (Or.inr q))]) rfl rfl hd h9
theorem hs_iastore  (C : hCtx p R s m args c D G ad base ρ own cc nL mc ms B d) (hd : decode cc pc = .ok (.iastore, 1))  (h : hx Γ ret (pc, .iastore, a1, a2, z, y, wi) N c' s' w ls st K Rt) (hK : ∀ N c' s' w pc ls st, K N c' s' w pc ls st → hAW p l e R s m args below meth c D G ad base ρ nL mc ms B Qf N c' s' w pc ls st) : hAW p l e R s m args below meth c D G ad base ρ nL mc ms B Qf N c' s' w pc ls st := by
  obtain ⟨x, r, rfl, h⟩ := hpI_d h
  obtain ⟨j, r, rfl, h⟩ := hpI_d h
  obtain ⟨a, r, rfl, h⟩ := hpA_d h
  obtain ⟨n, f, h1, hin, h⟩ := hwI_d h
  intro g1 g2 g3 H locs la hw hS hl
  have ha := hmutA C.fix hw h1 (by decide)
  refine W.iast C.1 C.2.1 (show H[ad a]? = some (arrV (G 0) n (fun j => .int (f j))) from hw.at ha h1) ((C.fix.1.2 0 _ rfl).1 n (fun j => .int (f j))) (fun q => by cases q) (by rw [arrV_size]; exact hin) rfl rfl hd fun H1 e z oq => ?_
  exact hK _ _ _ _ _ _ _ h g1 g2 g3 H1 _ la (hw.write C.had (C.bound g3) ha (by first | exact (by decide : (0 : Nat) < 7) | exact (by decide : (1 : Nat) < 7) | exact (by decide : (2 : Nat) < 7) | exact (by decide : (3 : Nat) < 7)) z oq (by show H1[ad a]? = some (vp_cell _ _); rw [e]; show _ = some (arrV (G 0) n (fun q => .int (upd f j.toNatClampNeg x q))); rw [arrV_store]; congr 2; funext q; by_cases hq : q = j.toNatClampNeg <;> simp [updV, upd, hq])) (hS.put z oq (hA_in C.had (C.bound g3) ha)) hl
theorem hs_bastore  (C : hCtx p R s m args c D G ad base ρ own cc nL mc ms B d) (hd : decode cc pc = .ok (.bastore, 1))  (h : hx Γ ret (pc, .bastore, a1, a2, z, y, wi) N c' s' w ls st K Rt) (hK : ∀ N c' s' w pc ls st, K N c' s' w pc ls st → hAW p l e R s m args below meth c D G ad base ρ nL mc ms B Qf N c' s' w pc ls st) : hAW p l e R s m args below meth c D G ad base ρ nL mc ms B Qf N c' s' w pc ls st := by
  obtain ⟨x, r, rfl, h⟩ := hpI_d h
  obtain ⟨j, r, rfl, h⟩ := hpI_d h
  obtain ⟨a, r, rfl, h⟩ := hpA_d h
  obtain ⟨n, f, ⟨h1, hin, h⟩ | ⟨h1, hin, h⟩⟩ := hwB_d h
  · intro g1 g2 g3 H locs la hw hS hl
    have ha := hmutA C.fix hw h1 (by decide)
    refine W.bast C.1 C.2.1 (show H[ad a]? = some (arrV (G 2) n (fun j => .int (f j))) from hw.at ha h1) ((C.fix.1.2 2 _ rfl).1 n (fun j => .int (f j))) (fun q => by cases q) (by rw [arrV_size]; exact hin) rfl rfl hd fun H1 e z oq => ?_
    exact hK _ _ _ _ _ _ _ h g1 g2 g3 H1 _ la (hw.write C.had (C.bound g3) ha (by first | exact (by decide : (0 : Nat) < 7) | exact (by decide : (1 : Nat) < 7) | exact (by decide : (2 : Nat) < 7) | exact (by decide : (3 : Nat) < 7)) z oq (by show H1[ad a]? = some (vp_cell _ _); rw [e]; show _ = some (arrV (G 2) n (fun q => .int (upd f j.toNatClampNeg (vp_nar .byte x) q))); rw [arrV_store]; congr 2; funext q; by_cases hq : q = j.toNatClampNeg <;> simp [updV, upd, hq, vp_nar, narrow])) (hS.put z oq (hA_in C.had (C.bound g3) ha)) hl
  · intro g1 g2 g3 H locs la hw hS hl
    have ha := hmutA C.fix hw h1 (by decide)
    refine W.zast C.1 C.2.1 (show H[ad a]? = some (arrV (G 3) n (fun j => .int (f j))) from hw.at ha h1) ((C.fix.1.2 3 _ rfl).1 n (fun j => .int (f j))) (fun q => by cases q) (by rw [arrV_size]; exact hin) rfl rfl hd fun H1 e z oq => ?_
    exact hK _ _ _ _ _ _ _ h g1 g2 g3 H1 _ la (hw.write C.had (C.bound g3) ha (by first | exact (by decide : (0 : Nat) < 7) | exact (by decide : (1 : Nat) < 7) | exact (by decide : (2 : Nat) < 7) | exact (by decide : (3 : Nat) < 7)) z oq (by show H1[ad a]? = some (vp_cell _ _); rw [e]; show _ = some (arrV (G 3) n (fun q => .int (upd f j.toNatClampNeg (vp_nar .boolean x) q))); rw [arrV_store]; congr 2; funext q; by_cases hq : q = j.toNatClampNeg <;> simp [updV, upd, hq, vp_nar, narrow])) (hS.put z oq (hA_in C.had (C.bound g3) ha)) hl
theorem hs_lastore  (C : hCtx p R s m args c D G ad base ρ own cc nL mc ms B d) (hd : decode cc pc = .ok (.lastore, 1))  (h : hx Γ ret (pc, .lastore, a1, a2, z, y, wi) N c' s' w ls st K Rt) (hK : ∀ N c' s' w pc ls st, K N c' s' w pc ls st → hAW p l e R s m args below meth c D G ad base ρ nL mc ms B Qf N c' s' w pc ls st) : hAW p l e R s m args below meth c D G ad base ρ nL mc ms B Qf N c' s' w pc ls st := by
  obtain ⟨x, r, rfl, h⟩ := hpL_d h
  obtain ⟨j, r, rfl, h⟩ := hpI_d h
  obtain ⟨a, r, rfl, h⟩ := hpA_d h
  obtain ⟨n, f, h1, hin, h⟩ := hrL_d h
  intro g1 g2 g3 H locs la hw hS hl
  have ha := hmutA C.fix hw h1 (by decide)
  refine W.last C.1 C.2.1 (show H[ad a]? = some (arrV (G 1) n (fun j => .long (f j))) from hw.at ha h1) ((C.fix.1.2 1 _ rfl).1 n (fun j => .long (f j))) (fun q => by cases q) (by rw [arrV_size]; exact hin) rfl rfl hd fun H1 e z oq => ?_
  exact hK _ _ _ _ _ _ _ h g1 g2 g3 H1 _ la (hw.write C.had (C.bound g3) ha (by first | exact (by decide : (0 : Nat) < 7) | exact (by decide : (1 : Nat) < 7) | exact (by decide : (2 : Nat) < 7) | exact (by decide : (3 : Nat) < 7)) z oq (by show H1[ad a]? = some (vp_cell _ _); rw [e]; show _ = some (arrV (G 1) n (fun q => .long (vp_updL f j.toNatClampNeg x q))); rw [arrV_store]; congr 2; funext q; by_cases hq : q = j.toNatClampNeg <;> simp [updV, vp_updL, hq])) (hS.put z oq (hA_in C.had (C.bound g3) ha)) hl
theorem hs_arraylength  (C : hCtx p R s m args c D G ad base ρ own cc nL mc ms B d) (hd : decode cc pc = .ok (.arraylength, 1))  (h : hx Γ ret (pc, .arraylength, a1, a2, z, y, wi) N c' s' w ls st K Rt) (hK : ∀ N c' s' w pc ls st, K N c' s' w pc ls st → hAW p l e R s m args below meth c D G ad base ρ nL mc ms B Qf N c' s' w pc ls st) : hAW p l e R s m args below meth c D G ad base ρ nL mc ms B Qf N c' s' w pc ls st := by
  obtain ⟨a, r, rfl, h⟩ := hpA_d h
  obtain ⟨t, n, f, h1, h⟩ := hrN_d h
  intro g1 g2 g3 H locs la hw hS hl
  rcases h1 with ⟨h1, ht⟩ | ⟨g, h1, rfl, ht⟩
  · have ha := hmutA C.fix hw h1 (by omega)
    have hx : (hAv ad (n, f)).1 = n := by rcases f with f | f | f | f | f <;> rfl
    have hty : ∃ ty, (htys G)[t]? = some (G t, ty) := by
      match t, ht with
      | 0, _ => exact ⟨_, rfl⟩
      | 1, _ => exact ⟨_, rfl⟩
      | 2, _ => exact ⟨_, rfl⟩
      | 3, _ => exact ⟨_, rfl⟩
      | 4, _ => exact ⟨_, rfl⟩
    obtain ⟨ty, hty⟩ := hty
    exact va_alen C.1 C.2.1 C.fix.1 hw.1 a t (by rw [hws_get ha, h1]; rfl) hty (by rw [hx]) hd (hK _ _ _ _ _ _ _ h g1 g2 g3 H locs la hw hS hl)
  · rcases ht with rfl | rfl
    · exact va_tlen C.1 C.2.1 (hroA C.fix hw h1 (Or.inl rfl)) hS rfl hd (hK _ _ _ _ _ _ _ h g1 g2 g3 H locs la hw hS hl)
    · exact va_tlen C.1 C.2.1 (hroA C.fix hw h1 (Or.inr rfl)) hS rfl hd (hK _ _ _ _ _ _ _ h g1 g2 g3 H locs la hw hS hl)
theorem hs_getfield {idx i0 : Nat} (C : hCtx p R s m args c D G ad base ρ own cc nL mc ms B d) (hd : decode cc pc = .ok (.getfield idx, 3)) (hci : a1 < 7) (hk : a2 < hnum a1) (hl0 : lw_tbl[i0]? = some (.fieldLink own idx (hT a1 a2).1 (hT a1 a2).2.1 (hT a1 a2).2.2.1)) (h : hx Γ ret (pc, .getfield idx, a1, a2, z, y, wi) N c' s' w ls st K Rt) (hK : ∀ N c' s' w pc ls st, K N c' s' w pc ls st → hAW p l e R s m args below meth c D G ad base ρ nL mc ms B Qf N c' s' w pc ls st) : hAW p l e R s m args below meth c D G ad base ρ nL mc ms B Qf N c' s' w pc ls st := by
  obtain ⟨a, r, rfl, h⟩ := hpA_d h
  obtain ⟨q, fs, v, h1, hq, hv, h⟩ := hrF_d h
  intro g1 g2 g3 H locs la hw hS hl
  obtain ⟨e1, e2, e3, e4⟩ := hcls hci
  have hlk := C.hts _ (lw_g_in hl0 rfl)
  have h9 := hK _ _ _ _ _ _ _ h
  rcases hq with rfl | ⟨rfl, rfl, hj⟩
  · have ha := hmutO C.fix hw h1 (by omega)
    exact va_get (D := D) C.1 C.2.1 C.hts e2 C.hown C.fix.1 hw.1 a (by rw [hws_get ha, h1]; rfl) e1 a2 hk hlk (fun _ h9 => h9) (by rw [List.getElem?_map, hv]; rfl) hd (h9 g1 g2 g3 H locs la hw hS hl)
  · obtain ⟨v0, k0, rfl, o1, o2, o3⟩ := hroS C.fix hw h1
    match a2, hj with
    | 0, _ =>
      cases hv
      exact vk_getf C.1 C.2.1 o2 hS C.hown hlk (fun _ h9 => h9) hd (h9 g1 g2 g3 H locs la hw hS hl)
    | 1, _ =>
      cases hv
      exact vk_getf C.1 C.2.1 o3 hS C.hown hlk (fun _ h9 => h9) hd (h9 g1 g2 g3 H locs la hw hS hl)
theorem hs_putfield {idx i0 : Nat} (C : hCtx p R s m args c D G ad base ρ own cc nL mc ms B d) (hd : decode cc pc = .ok (.putfield idx, 3)) (hci : a1 < 7) (hk : a2 < hnum a1) (hl0 : lw_tbl[i0]? = some (.fieldLink own idx (hT a1 a2).1 (hT a1 a2).2.1 (hT a1 a2).2.2.1)) (hfin : (hT a1 a2).2.2.2 = false) (h : hx Γ ret (pc, .putfield idx, a1, a2, z, y, wi) N c' s' w ls st K Rt) (hK : ∀ N c' s' w pc ls st, K N c' s' w pc ls st → hAW p l e R s m args below meth c D G ad base ρ nL mc ms B Qf N c' s' w pc ls st) : hAW p l e R s m args below meth c D G ad base ρ nL mc ms B Qf N c' s' w pc ls st := by
  obtain ⟨v, r, rfl, h⟩ := hpV_d h
  obtain ⟨a, r, rfl, h⟩ := hpA_d h
  obtain ⟨fs, h1, hft, h⟩ := hwF_d h
  intro g1 g2 g3 H locs la hw hS hl
  obtain ⟨e1, e2, e3, e4⟩ := hcls hci
  have hlk := C.hts _ (lw_g_in hl0 rfl)
  have ha := hmutO C.fix hw h1 (by omega)
  obtain ⟨f1, f2⟩ := hfit_d (ad := ad) hft
  obtain ⟨r9, h9, cell, q1, q2, q3, q4⟩ := hw.at ha h1
  have hr : r9 = (hC a1, hT a1, hnum a1) := Option.some.inj (h9.symm.trans e1)
  subst hr
  obtain ⟨hSl, hfc, kC, hkC, hkind⟩ := C.fix.1.1 a1 _ e1
  have hap := va_apart (own := own) C.hts e2 (hfty a1) e3 e4 C.fix.1 e1
  obtain ⟨cf, kf, fi, f, hi, hsl⟩ := hSl a2 hk
  have hlay := C.hts _ (e2 _ (u_in_lay hk))
  unfold u_lay at hlay
  rw [if_neg (by rw [hfin]; decide)] at hlay
  have hst := (u_facts hfc hkC (u_lays C.hts e2 hk) hi).1
  have h6 := u_store hfc hkC hkind hlay hi (e3 a2 hk) f1 f2
  have hm := hw.2.2.2.2 a ha
  rw [h1] at hm
  have hlen : a2 < fs.length := by have := hm.2; omega
  refine W.putK C.1 C.2.1 (f := f) ⟨C.hown, hlk, ⟨_, _, _, hi⟩, hst⟩ (by rw [q2]; exact h6) q1 q3 (by rw [hsl]; exact k2_hasslot (q4 a2 hk)) rfl rfl hd fun H1 e1' z oq => ?_
  rw [hsl] at e1' ⊢
  refine hK _ _ _ _ _ _ _ h g1 g2 g3 H1 _ la (hw.write C.had (C.bound g3) ha ⟨hci, by rw [hfs_len]; exact hm.2⟩ z oq ⟨_, e1, ?_⟩) (hS.put z oq (hA_in C.had (C.bound g3) ha)) hl
  refine t_OB.to (V := updV (vp_V (fs.map (hv ad))) a2 (hv ad v)) ⟨_, e1', q2, q3, t_set q4 hap hk _⟩ (fun j hj => ?_)
  show updV (vp_V (fs.map (hv ad))) a2 (hv ad v) j = vp_V ((hfs fs a2 v).map (hv ad)) j
  rw [hfs_eq, List.map_set]
  exact vp_updV_set (by simpa using hlen) (hv ad v) j
theorem hs_putfieldF {idx i0 : Nat} (C : hCtx p R s m args c D G ad base ρ own cc nL mc ms B d) (hd : decode cc pc = .ok (.putfield idx, 3)) (hci : a1 < 7) (hk : a2 < hnum a1) (hl0 : lw_tbl[i0]? = some (.fieldLink own idx (hT a1 a2).1 (hT a1 a2).2.1 (hT a1 a2).2.2.1)) (hfin : (hT a1 a2).2.2.2 = true) (hin2 : meth.name = "<init>") (hdecl : (hT a1 a2).1 = own) (h : hx Γ ret (pc, .putfield idx, a1, a2, z, y, wi) N c' s' w ls st K Rt) (hK : ∀ N c' s' w pc ls st, K N c' s' w pc ls st → hAW p l e R s m args below meth c D G ad base ρ nL mc ms B Qf N c' s' w pc ls st) : hAW p l e R s m args below meth c D G ad base ρ nL mc ms B Qf N c' s' w pc ls st := by
  obtain ⟨v, r, rfl, h⟩ := hpV_d h
  obtain ⟨a, r, rfl, h⟩ := hpA_d h
  obtain ⟨fs, h1, hft, h⟩ := hwF_d h
  intro g1 g2 g3 H locs la hw hS hl
  obtain ⟨e1, e2, e3, e4⟩ := hcls hci
  have hlk := C.hts _ (lw_g_in hl0 rfl)
  have ha := hmutO C.fix hw h1 (by omega)
  obtain ⟨f1, f2⟩ := hfit_d (ad := ad) hft
  obtain ⟨r9, h9, cell, q1, q2, q3, q4⟩ := hw.at ha h1
  have hr : r9 = (hC a1, hT a1, hnum a1) := Option.some.inj (h9.symm.trans e1)
  subst hr
  obtain ⟨hSl, hfc, kC, hkC, hkind⟩ := C.fix.1.1 a1 _ e1
  have hap := va_apart (own := own) C.hts e2 (hfty a1) e3 e4 C.fix.1 e1
  obtain ⟨cf, kf, fi, f, hi, hsl⟩ := hSl a2 hk
  have hlay := C.hts _ (e2 _ (u_in_lay hk))
  unfold u_lay at hlay
  rw [if_pos hfin] at hlay
  have hst := (u_facts hfc hkC (u_lays C.hts e2 hk) hi).1
  have hcf : m.cls = cf := by
    obtain ⟨_, _, c9, _, _, _, -, -, hf9, -, -, -, hown2, -⟩ := Cond.laysFinal_spec hlay
    have e1 : c9 = cf := by have := hi.symm.trans hf9; simp at this; exact this.1.symm
    rw [hdecl] at hown2
    rw [← e1]; exact Option.some.inj (C.hown.symm.trans hown2)
  have h6 := u_fits hfc hkC hkind (Or.inr hlay) hi (e3 a2 hk) f1 f2
  have hm := hw.2.2.2.2 a ha
  rw [h1] at hm
  have hlen : a2 < fs.length := by have := hm.2; omega
  refine W.putFinK C.1 C.2.1 C.hown hlk hi hst hcf hin2 (by rw [q2]; exact h6) q1 q3 (by rw [hsl]; exact k2_hasslot (q4 a2 hk)) rfl rfl hd fun H1 e1' z oq => ?_
  rw [hsl] at e1' ⊢
  refine hK _ _ _ _ _ _ _ h g1 g2 g3 H1 _ la (hw.write C.had (C.bound g3) ha ⟨hci, by rw [hfs_len]; exact hm.2⟩ z oq ⟨_, e1, ?_⟩) (hS.put z oq (hA_in C.had (C.bound g3) ha)) hl
  refine t_OB.to (V := updV (vp_V (fs.map (hv ad))) a2 (hv ad v)) ⟨_, e1', q2, q3, t_set q4 hap hk _⟩ (fun j hj => ?_)
  show updV (vp_V (fs.map (hv ad))) a2 (hv ad v) j = vp_V ((hfs fs a2 v).map (hv ad)) j
  rw [hfs_eq, List.map_set]
  exact vp_updV_set (by simpa using hlen) (hv ad v) j
theorem hs_getstatic {idx i0 : Nat} (C : hCtx p R s m args c D G ad base ρ own cc nL mc ms B d) (hd : decode cc pc = .ok (.getstatic idx, 3)) (ha1 : a1 < 6) (hl0 : lw_tbl[i0]? = some (.fieldLink own idx (hstn a1).1 (hstn a1).2.1 (hstn a1).2.2)) (h : hx Γ ret (pc, .getstatic idx, a1, a2, z, y, wi) N c' s' w ls st K Rt) (hK : ∀ N c' s' w pc ls st, K N c' s' w pc ls st → hAW p l e R s m args below meth c D G ad base ρ nL mc ms B Qf N c' s' w pc ls st) : hAW p l e R s m args below meth c D G ad base ρ nL mc ms B Qf N c' s' w pc ls st := by
  intro g1 g2 g3 H locs la hw hS hl
  have hlk := C.hts _ (lw_g_in hl0 rfl)
  have key : ∀ v : Value, va_Z (hstn a1).1 (hstn a1).2.1 (hstn a1).2.2 (hv ad v) (hAs base) s s.heap → K N c' s' w (pc + 3) ls (v :: st) → W p l e R s m args below meth c H locs (mc - c') (ms - s') Qf (F0 m pc la (st.map (hv ad))) := fun v hZ hk9 =>
    va_gets C.1 C.2.1 hZ hS C.hown hlk (fun _ h9 => h9) hd (hK _ _ _ _ _ _ _ hk9 g1 g2 g3 H locs la hw hS hl)
  obtain ⟨v, hv9, hZ⟩ := C.fix.2.2.1 a1 ha1
  by_cases q : a1 = 5
  · subst q
    obtain ⟨hk1, hk2⟩ := h
    have hv9 : v = .null ∨ ∃ i, v = .ref i := by unfold hsv at hv9; rwa [if_pos rfl] at hv9
    rcases hv9 with rfl | ⟨i, rfl⟩
    · exact key .null hZ hk2
    · exact key (.ref i) hZ (hk1 i)
  · have h : K N c' s' w (pc + 3) ls (hst a1 :: st) := by
      have q9 : a1 = 0 ∨ a1 = 1 ∨ a1 = 2 ∨ a1 = 3 ∨ a1 = 4 := by omega
      rcases q9 with rfl | rfl | rfl | rfl | rfl <;> exact h
    have hv9 : v = hst a1 := by unfold hsv at hv9; rwa [if_neg q] at hv9
    subst hv9
    exact key _ hZ h
theorem hs_ldcI {idx i0 : Nat} (C : hCtx p R s m args c D G ad base ρ own cc nL mc ms B d) (hd : decode cc pc = .ok (.ldc idx, 2)) (ha1 : a1 = 0) (hl0 : lw_tbl[i0]? = some (.constant own idx (Int32.ofInt z))) (h : hx Γ ret (pc, .ldc idx, a1, a2, z, y, wi) N c' s' w ls st K Rt) (hK : ∀ N c' s' w pc ls st, K N c' s' w pc ls st → hAW p l e R s m args below meth c D G ad base ρ nL mc ms B Qf N c' s' w pc ls st) : hAW p l e R s m args below meth c D G ad base ρ nL mc ms B Qf N c' s' w pc ls st := by
  subst ha1
  intro g1 g2 g3 H locs la hw hS hl
  exact lv_ldc C.1 C.2.1 C.hown (C.hts _ (lw_g_in hl0 rfl)) hd (hK _ _ _ _ _ _ _ h g1 g2 g3 H locs la hw hS hl)
theorem hs_ldcwI {idx i0 : Nat} (C : hCtx p R s m args c D G ad base ρ own cc nL mc ms B d) (hd : decode cc pc = .ok (.ldc_w idx, 3)) (ha1 : a1 = 0) (hl0 : lw_tbl[i0]? = some (.constant own idx (Int32.ofInt z))) (h : hx Γ ret (pc, .ldc_w idx, a1, a2, z, y, wi) N c' s' w ls st K Rt) (hK : ∀ N c' s' w pc ls st, K N c' s' w pc ls st → hAW p l e R s m args below meth c D G ad base ρ nL mc ms B Qf N c' s' w pc ls st) : hAW p l e R s m args below meth c D G ad base ρ nL mc ms B Qf N c' s' w pc ls st := by
  subst ha1
  intro g1 g2 g3 H locs la hw hS hl
  exact lv_ldcw C.1 C.2.1 C.hown (C.hts _ (lw_g_in hl0 rfl)) hd (hK _ _ _ _ _ _ _ h g1 g2 g3 H locs la hw hS hl)
theorem hs_ldc2 {idx i0 : Nat} (C : hCtx p R s m args c D G ad base ρ own cc nL mc ms B d) (hd : decode cc pc = .ok (.ldc2_w idx, 3)) (hl0 : lw_tbl[i0]? = some (.constantLong own idx (Int64.ofInt z))) (h : hx Γ ret (pc, .ldc2_w idx, a1, a2, z, y, wi) N c' s' w ls st K Rt) (hK : ∀ N c' s' w pc ls st, K N c' s' w pc ls st → hAW p l e R s m args below meth c D G ad base ρ nL mc ms B Qf N c' s' w pc ls st) : hAW p l e R s m args below meth c D G ad base ρ nL mc ms B Qf N c' s' w pc ls st := by
  intro g1 g2 g3 H locs la hw hS hl
  exact lv_ldc2 C.1 C.2.1 C.hown (C.hts _ (lw_g_in hl0 rfl)) hd (hK _ _ _ _ _ _ _ h g1 g2 g3 H locs la hw hS hl)
theorem hs_ldcS {idx : Nat} {tx : String} (C : hCtx p R s m args c D G ad base ρ own cc nL mc ms B d) (hd : decode cc pc = .ok (.ldc idx, 2)) (ha1 : a1 = 1) (hm : (own, idx, tx, a2) ∈ htxt) (h : hx Γ ret (pc, .ldc idx, a1, a2, z, y, wi) N c' s' w ls st K Rt) (hK : ∀ N c' s' w pc ls st, K N c' s' w pc ls st → hAW p l e R s m args below meth c D G ad base ρ nL mc ms B Qf N c' s' w pc ls st) : hAW p l e R s m args below meth c D G ad base ρ nL mc ms B Qf N c' s' w pc ls st := by
  subst ha1
  intro g1 g2 g3 H locs la hw hS hl
  exact va_ldcS C.1 C.2.1 C.hown (C.fix.2.2.2.1 _ hm) hd (hK _ _ _ _ _ _ _ h g1 g2 g3 H locs la hw hS hl)
theorem hs_new {idx i0 i1 i2 : Nat} (C : hCtx p R s m args c D G ad base ρ own cc nL mc ms B d) (hd : decode cc pc = .ok (.new idx, 3)) (hci : a1 < 7) (hl0 : lw_tbl[i0]? = some (.classLink own idx (hC a1))) (hl1 : lw_tbl[i1]? = some (.instantiable (hC a1) (hnum a1))) (hl2 : lw_tbl[i2]? = some (.initialized (hC a1))) (h : hx Γ ret (pc, .new idx, a1, a2, z, y, wi) N c' s' w ls st K Rt) (hK : ∀ N c' s' w pc ls st, K N c' s' w pc ls st → hAW p l e R s m args below meth c D G ad base ρ nL mc ms B Qf N c' s' w pc ls st) : hAW p l e R s m args below meth c D G ad base ρ nL mc ms B Qf N c' s' w pc ls st := by
  obtain ⟨hc1, hc2, h⟩ := h
  intro g1 g2 g3 H locs la hw hS hl
  obtain ⟨e1, e2, e3, e4⟩ := hcls hci
  have hN : N < 1000000 := by have := C.bound (N := N) (c' := c') g3; have := C.2.2.2.2.2.2.2.2.2.1; omega
  have hKn := C.fix.1.1 a1 _ e1
  refine W.newcK C.1 C.2.1 C.hown (C.hts _ (lw_g_in hl0 rfl)) (C.hts _ (lw_g_in hl1 rfl)) (C.hts _ (lw_g_in hl2 rfl)) rfl hd (by rw [C.rc.1]; omega) (by rw [C.rc.2]; omega) hKn.2.1 rfl fun H1 kC hkC e1' z oq => ?_
  have hr := hw.adN C.had hN
  have hw' : hW D G ad base ρ (N + 1) (va_up w N (.inr (a1, hdef a1))) H1 := hw.born C.had hN ⟨hci, by simp [hdef]⟩ z oq ⟨_, e1, by rw [hr]; exact (u_born (hfty a1) C.hts e2 hKn hkC e1' e3).to (fun j hj => by simp [vp_V, hdef, hj]; cases hfty a1 j <;> rfl)⟩
  have h9 := hK _ _ _ _ _ _ _ h (by omega) (by omega) (by omega) H1 locs la hw' (hS.grow z oq) hl
  rw [show mc - (c' - 1) = mc - c' + 1 by omega, show ms - (s' - hnum a1) = ms - s' + hnum a1 by omega] at h9
  have e9 : (Value.ref N :: st).map (hv ad) = .ref H.size :: st.map (hv ad) := by rw [← hr]; rfl
  rw [e9] at h9
  exact h9
end HS2
