/-! the class's registers -/
section W9e
variable {g : hG} {d N c s : Nat} {w : hWd} {Q : hRt}
/-- the class's object, its sum aside too -/
def hXr (w : hWd) (S : cS) : Prop := w 0 = .inr (5, [.ref 1, .ref 2, .ref 3, .ref 4, .int (mbI S.sv), .ref 5, .ref 7, .ref 9, .ref 11, .ref 16]) ∧ hWs w 1 S.wd ∧ hWs w 2 S.wd2 ∧ w 3 = .inl (4, 5, .inr (.inr (.inr (.inr fun i => some (17 + 6 * i))))) ∧ w 4 = .inl (4, 5, .inr (.inr (.inr (.inr fun i => some (20 + 6 * i))))) ∧ hRs w 17 S.rg ∧ hRs w 20 S.rg2 ∧ hF9 w 11 12 13 14 15 ∧ (∃ u, hrow w 16 u) ∧ w 1000001 = .inl (10, 9, .inl mpow) ∧ w 1000002 = .inl (10, 13, .inl mcnt)
theorem hX.r {w : hWd} {S : cS} (h : hX w S) : hXr w S ∧ hSum w 9 10 (fun _ => 0) := ⟨⟨h.1, h.2.1, h.2.2.1, h.2.2.2.1, h.2.2.2.2.1, h.2.2.2.2.2.1, h.2.2.2.2.2.2.1, h.2.2.2.2.2.2.2.2.1, h.2.2.2.2.2.2.2.2.2.1, h.2.2.2.2.2.2.2.2.2.2.1, h.2.2.2.2.2.2.2.2.2.2.2⟩, h.2.2.2.2.2.2.2.1⟩
theorem hXr.x {w : hWd} {S : cS} (h : hXr w S) (hs : hSum w 9 10 (fun _ => 0)) : hX w S := ⟨h.1, h.2.1, h.2.2.1, h.2.2.2.1, h.2.2.2.2.1, h.2.2.2.2.2.1, h.2.2.2.2.2.2.1, hs, h.2.2.2.2.2.2.2.1, h.2.2.2.2.2.2.2.2.1, h.2.2.2.2.2.2.2.2.2.1, h.2.2.2.2.2.2.2.2.2.2⟩
theorem hXr.cl {w : hWd} {S : cS} (h : hXr w S) {i : Nat} (hi : i < 5) : ∃ fs, w (17 + 6 * i) = .inr (3, fs) := (h.2.2.2.2.2.1 i hi).1.cl
theorem hXr.p {w : hWd} {S : cS} (h : hXr w S) {i : Nat} (hi : i < 5) : hPoly w (17 + 6 * i) (17 + 1 + 6 * i) (17 + 2 + 6 * i) (S.rg i) := (h.2.2.2.2.2.1 i hi).1
theorem hXr.P {w : hWd} {S : cS} (h : hXr w S) {i : Nat} (hi : i < 5) : mP (S.rg i) := (h.2.2.2.2.2.1 i hi).2
theorem hXr.mv {w w' : hWd} {S : cS} (h : hXr w S) (hm : mfr [9, 10, 11, 12, 13, 14, 15, 16] w w') (hF : hF9 w' 11 12 13 14 15) (hr : ∃ u, hrow w' 16 u) : hXr w' S := by
  obtain ⟨a0, a1, a2, a3, a4, a5, a6, a8, a9, a10, a11⟩ := h
  exact ⟨by rw [hm 0 (by decide), a0], a1.keep (hm _ (by decide)), a2.keep (hm _ (by decide)), by rw [hm 3 (by decide), a3], by rw [hm 4 (by decide), a4], a5.keep (fun i hi => ⟨hm _ (by simp; omega), hm _ (by simp; omega), hm _ (by simp; omega)⟩), a6.keep (fun i hi => ⟨hm _ (by simp; omega), hm _ (by simp; omega), hm _ (by simp; omega)⟩), hF, hr, by rw [hm _ (by decide), a10], by rw [hm _ (by decide), a11]⟩
theorem hXr.sm {w w' : hWd} {S : cS} (h : hXr w S) (hm : mfr [9, 10] w w') : hXr w' S := by
  obtain ⟨u, hu⟩ := h.2.2.2.2.2.2.2.2.1
  exact h.mv (hm.mono (by simp <;> omega)) (h.2.2.2.2.2.2.2.1.keep (fun i hi => hm _ (by simp at hi ⊢; omega))) ⟨u, hu.keep (hm _ (by decide))⟩
theorem hXr.fc {w w' : hWd} {S : cS} (h : hXr w S) (hm : mfr [11, 12, 13, 14, 15] w w') (hF : hF9 w' 11 12 13 14 15) : hXr w' S := by
  obtain ⟨u, hu⟩ := h.2.2.2.2.2.2.2.2.1
  exact h.mv (hm.mono (by simp <;> omega)) hF ⟨u, hu.keep (hm _ (by decide))⟩
theorem hXr.rw {w w' : hWd} {S : cS} {u : Nat → Nat} (h : hXr w S) (hm : mfr [16] w w') (hr : hrow w' 16 u) : hXr w' S :=
  h.mv (hm.mono (by simp <;> omega)) (h.2.2.2.2.2.2.2.1.keep (fun i hi => hm _ (by simp at hi ⊢; omega))) ⟨u, hr⟩
theorem hXr.rg {w w' : hWd} {S : cS} (h : hXr w S) {i : Nat} (hi : i < 5) {L : List (Nat × Int)} (hm : mfr [9, 10, 17 + 6 * i, 17 + 1 + 6 * i, 17 + 2 + 6 * i] w w') (hp : hPoly w' (17 + 6 * i) (17 + 1 + 6 * i) (17 + 2 + 6 * i) L) (hL : mP L) : hXr w' (sRg S i L) := by
  obtain ⟨a0, a1, a2, a3, a4, a5, a6, a8, ⟨u, a9⟩, a10, a11⟩ := h
  refine ⟨by rw [hm 0 (by simp; omega), a0]; rfl, a1.keep (hm _ (by simp; omega)), a2.keep (hm _ (by simp; omega)), by rw [hm 3 (by simp; omega), a3], by rw [hm 4 (by simp; omega), a4], fun j hj => ?_, a6.keep (fun j hj => ⟨hm _ (by simp; omega), hm _ (by simp; omega), hm _ (by simp; omega)⟩), a8.keep (fun j hj => hm _ (by simp at hj ⊢; omega)), ⟨u, a9.keep (hm _ (by simp; omega))⟩, by rw [hm _ (by simp; omega), a10], by rw [hm _ (by simp; omega), a11]⟩
  show hPoly w' (17 + 6 * j) (17 + 1 + 6 * j) (17 + 2 + 6 * j) (if j = i then L else S.rg j) ∧ mP (if j = i then L else S.rg j)
  by_cases q : j = i
  · subst q
    simp only [if_pos]
    exact ⟨hp, hL⟩
  · simp only [if_neg q]
    exact ⟨(a5 j hj).1.keep (hm _ (by simp; omega)) (hm _ (by simp; omega)) (hm _ (by simp; omega)), (a5 j hj).2⟩
/-- what a sum gives that is stored in a register -/
noncomputable def sSt (S : cS) (i : Nat) (f : Nat → Int64) : cA := (mcount f, sRg S i (mnew f (S.rg i)))
abbrev cL : Type := Int64 × cS
theorem hdj5 (i : Nat) : 17 + 6 * i ≠ 9 ∧ 17 + 6 * i ≠ 10 ∧ 17 + 1 + 6 * i ≠ 9 ∧ 17 + 1 + 6 * i ≠ 10 ∧ 17 + 2 + 6 * i ≠ 9 ∧ 17 + 2 + 6 * i ≠ 10 := by omega
theorem X_putAll (hg : hgo g) (hd : 3 ≤ d) {S : cS} {f : Nat → Int64} (hr : hXr w S) (hs : hSum w 9 10 f) {i : Nat} (hi : i < 5) {z : Int32} (h : ∀ w', hXr w' S → hSum w' 9 10 (mputs z.toInt64 f (S.rg i)) → nfr w w' → Q none N c s w') : Γ g d yX6_putAll [.ref 9, .ref (17 + 6 * i), .int z] N c s w Q :=
  c_putAll hg hd hs (hr.p hi) (hr.P hi) (hdj5 i) (fun w' hs' hm => h w' (hr.sm hm) hs' (hm.nf (by decide)))
theorem X_put (hg : hgo g) (hd : 1 ≤ d) {S : cS} {f : Nat → Int64} (hr : hXr w S) (hs : hSum w 9 10 f) {k : Nat} (hk : k < 9841) {z : Int64} (h : ∀ w', hXr w' S → hSum w' 9 10 (padd f k z) → nfr w w' → Q none N c s w') : Γ g d yX6_put [.ref 9, .int (nI k), .long z] N c s w Q :=
  c_put hg hd hs hk (fun w' hs' hm => h w' (hr.sm hm) hs' (hm.nf (by decide)))
theorem X_moveTo (hg : hgo g) (hd : 4 ≤ d) {S : cS} {f : Nat → Int64} (hr : hXr w S) (hs : hSum w 9 10 f) {i : Nat} (hi : i < 5) (h : ∀ w', hX w' (sSt S i f).2 → nfr w w' → Q (some (.int (sSt S i f).1)) N c s w') : Γ g d yX6_moveTo [.ref 9, .ref (17 + 6 * i)] N c s w Q :=
  c_moveTo hg hd hs (hr.p hi) (hr.P hi) (hdj5 i) (fun w' hs' hp hL hm => h w' ((hr.rg hi hm hp hL).x hs') (hm.nf (fun x hx => by simp at hx; omega)))
set_option maxRecDepth 100000 in
set_option maxHeartbeats 4000000 in
theorem c_regAt (hg : hgo g) (hd : 1 ≤ d) {S : cS} (hr : hXr w S) {i : Nat} (hi : i < 5)  (h : Q (some (.ref (17 + 6 * i))) N c s w) : Γ g d yX9_registerAt [.ref 0, .int (nI i)] N c s w Q := by
  refine Γ.intro0 hg kX9_registerAt (by omega) (Nat.le_of_ble_eq_true rfl) (fun P hP => ?_)
  show P N 0 0 w 0 [some (.ref 0), some (.int (nI i))] []
  have k0 := hr.1
  have k3 := hr.2.2.2.1
  have e7 := nI_clamp (n := i) (by omega)
  refine hP 0 _ rfl _ _ _ _ _ _ ?_
  simp only [bX9_registerAt_0, hrun, hx, hnth, hput, hok, hcat2, hldI, hldL, hldR, hpI, hpL, hpA, hpR, hp1, hpV, hrtI, hrtL, hrtR, hrtV, hpN, hck, hrI, hrB, hrL, hrA, hwI, hwA, hwB, hrN, hfk, hfs, hrF, hwF, hcl, hfty, tyX1, tyX3, tyX6, tyX9, tyX10, tyJ0, tyJ4, hfit, hcmp, hnar, hres, hst, hacp, kz, kof, kn0, kn1, Bool.not_true, Bool.not_false, true_and, and_true, Nat.zero_add, Nat.reduceAdd, List.length_cons, List.length_nil, true_or, or_true, false_or, or_false, decide_true, decide_false, ne_eq, not_true_eq_false, not_false_eq_true, ki_0, ki_1, ki_2, ki_3, ki_4, ki_5, kb_m100, kb_m10, kb_m9, kb_m8, kb_m7, kb_m6, kb_m5, kb_m4, kb_m3, kb_m2, kb_6, kb_7, kb_8, kb_9, kb_10, kb_12, kb_13, kb_16, kb_27, kb_31, kb_32, kb_43, kb_45, kb_48, kb_57, kb_60, kb_63, kb_81, kb_97, kb_99, kb_100, kb_120, kb_126, ks_m1000, ks_243, ks_255, ks_729, ks_1000, ks_2000, ks_2187, ks_6561, ks_9840, ks_9841, kl_0, kl_1, k0, k3, e7, va_rf]
  refine ⟨fun b1 => ?_, fun b1 => ?_⟩
  · (try simp (disch := omega) only [nI_ltI, nI_leI, nI_eq, Nat.not_lt, Nat.not_le] at b1) <;> (exfalso; omega)
  · try simp (disch := omega) only [nI_ltI, nI_leI, nI_eq, Nat.not_lt, Nat.not_le] at b1
    refine hP 1 _ rfl _ _ _ _ _ _ ?_
    simp only [bX9_registerAt_1, hrun, hx, hnth, hput, hok, hcat2, hldI, hldL, hldR, hpI, hpL, hpA, hpR, hp1, hpV, hrtI, hrtL, hrtR, hrtV, hpN, hck, hrI, hrB, hrL, hrA, hwI, hwA, hwB, hrN, hfk, hfs, hrF, hwF, hcl, hfty, tyX1, tyX3, tyX6, tyX9, tyX10, tyJ0, tyJ4, hfit, hcmp, hnar, hres, hst, hacp, kz, kof, kn0, kn1, Bool.not_true, Bool.not_false, true_and, and_true, Nat.zero_add, Nat.reduceAdd, List.length_cons, List.length_nil, true_or, or_true, false_or, or_false, decide_true, decide_false, ne_eq, not_true_eq_false, not_false_eq_true, ki_0, ki_1, ki_2, ki_3, ki_4, ki_5, kb_m100, kb_m10, kb_m9, kb_m8, kb_m7, kb_m6, kb_m5, kb_m4, kb_m3, kb_m2, kb_6, kb_7, kb_8, kb_9, kb_10, kb_12, kb_13, kb_16, kb_27, kb_31, kb_32, kb_43, kb_45, kb_48, kb_57, kb_60, kb_63, kb_81, kb_97, kb_99, kb_100, kb_120, kb_126, ks_m1000, ks_243, ks_255, ks_729, ks_1000, ks_2000, ks_2187, ks_6561, ks_9840, ks_9841, kl_0, kl_1, k0, k3, e7, va_rf]
    refine ⟨fun b6 => ?_, fun b6 => ?_⟩
    · (try simp (disch := omega) only [nI_ltI, nI_leI, nI_eq, Nat.not_lt, Nat.not_le] at b6) <;> (exfalso; omega)
    · try simp (disch := omega) only [nI_ltI, nI_leI, nI_eq, Nat.not_lt, Nat.not_le] at b6
      refine hP 2 _ rfl _ _ _ _ _ _ ?_
      simp only [bX9_registerAt_2, hrun, hx, hnth, hput, hok, hcat2, hldI, hldL, hldR, hpI, hpL, hpA, hpR, hp1, hpV, hrtI, hrtL, hrtR, hrtV, hpN, hck, hrI, hrB, hrL, hrA, hwI, hwA, hwB, hrN, hfk, hfs, hrF, hwF, hcl, hfty, tyX1, tyX3, tyX6, tyX9, tyX10, tyJ0, tyJ4, hfit, hcmp, hnar, hres, hst, hacp, kz, kof, kn0, kn1, Bool.not_true, Bool.not_false, true_and, and_true, Nat.zero_add, Nat.reduceAdd, List.length_cons, List.length_nil, true_or, or_true, false_or, or_false, decide_true, decide_false, ne_eq, not_true_eq_false, not_false_eq_true, ki_0, ki_1, ki_2, ki_3, ki_4, ki_5, kb_m100, kb_m10, kb_m9, kb_m8, kb_m7, kb_m6, kb_m5, kb_m4, kb_m3, kb_m2, kb_6, kb_7, kb_8, kb_9, kb_10, kb_12, kb_13, kb_16, kb_27, kb_31, kb_32, kb_43, kb_45, kb_48, kb_57, kb_60, kb_63, kb_81, kb_97, kb_99, kb_100, kb_120, kb_126, ks_m1000, ks_243, ks_255, ks_729, ks_1000, ks_2000, ks_2187, ks_6561, ks_9840, ks_9841, kl_0, kl_1, k0, k3, e7, va_rf]
      refine ⟨vp_in_nI (by omega) (by omega), ?_⟩
      refine hP 4 _ rfl _ _ _ _ _ _ ?_
      simp only [bX9_registerAt_4, hrun, hx, hnth, hput, hok, hcat2, hldI, hldL, hldR, hpI, hpL, hpA, hpR, hp1, hpV, hrtI, hrtL, hrtR, hrtV, hpN, hck, hrI, hrB, hrL, hrA, hwI, hwA, hwB, hrN, hfk, hfs, hrF, hwF, hcl, hfty, tyX1, tyX3, tyX6, tyX9, tyX10, tyJ0, tyJ4, hfit, hcmp, hnar, hres, hst, hacp, kz, kof, kn0, kn1, Bool.not_true, Bool.not_false, true_and, and_true, Nat.zero_add, Nat.reduceAdd, List.length_cons, List.length_nil, true_or, or_true, false_or, or_false, decide_true, decide_false, ne_eq, not_true_eq_false, not_false_eq_true, ki_0, ki_1, ki_2, ki_3, ki_4, ki_5, kb_m100, kb_m10, kb_m9, kb_m8, kb_m7, kb_m6, kb_m5, kb_m4, kb_m3, kb_m2, kb_6, kb_7, kb_8, kb_9, kb_10, kb_12, kb_13, kb_16, kb_27, kb_31, kb_32, kb_43, kb_45, kb_48, kb_57, kb_60, kb_63, kb_81, kb_97, kb_99, kb_100, kb_120, kb_126, ks_m1000, ks_243, ks_255, ks_729, ks_1000, ks_2000, ks_2187, ks_6561, ks_9840, ks_9841, kl_0, kl_1, k0, k3, e7, va_rf]
      exact h
end W9e
