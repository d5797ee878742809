/-! the reference's object -/
section M5
variable {g : hG} {d N c s : Nat} {w : hWd} {Q : hRt}
theorem mf_0 (ml ls ns il at9 ol sv : Int32) (k : Value → Prop) : hrF 6 0 (.inr (6, mFl ml ls ns il at9 ol sv)) k = k (.ref 48) := propext ⟨fun h => h.2, fun h => ⟨Or.inl rfl, h⟩⟩
theorem mf_1 (ml ls ns il at9 ol sv : Int32) (k : Value → Prop) : hrF 6 1 (.inr (6, mFl ml ls ns il at9 ol sv)) k = k (.ref 49) := propext ⟨fun h => h.2, fun h => ⟨Or.inl rfl, h⟩⟩
theorem mf_2 (ml ls ns il at9 ol sv : Int32) (k : Value → Prop) : hrF 6 2 (.inr (6, mFl ml ls ns il at9 ol sv)) k = k (.ref 50) := propext ⟨fun h => h.2, fun h => ⟨Or.inl rfl, h⟩⟩
theorem mf_3 (ml ls ns il at9 ol sv : Int32) (k : Value → Prop) : hrF 6 3 (.inr (6, mFl ml ls ns il at9 ol sv)) k = k (.ref 54) := propext ⟨fun h => h.2, fun h => ⟨Or.inl rfl, h⟩⟩
theorem mf_4 (ml ls ns il at9 ol sv : Int32) (k : Value → Prop) : hrF 6 4 (.inr (6, mFl ml ls ns il at9 ol sv)) k = k (.ref 55) := propext ⟨fun h => h.2, fun h => ⟨Or.inl rfl, h⟩⟩
theorem mf_5 (ml ls ns il at9 ol sv : Int32) (k : Value → Prop) : hrF 6 5 (.inr (6, mFl ml ls ns il at9 ol sv)) k = k (.ref 61) := propext ⟨fun h => h.2, fun h => ⟨Or.inl rfl, h⟩⟩
theorem mf_6 (ml ls ns il at9 ol sv : Int32) (k : Value → Prop) : hrF 6 6 (.inr (6, mFl ml ls ns il at9 ol sv)) k = k (.ref 67) := propext ⟨fun h => h.2, fun h => ⟨Or.inl rfl, h⟩⟩
theorem mf_7 (ml ls ns il at9 ol sv : Int32) (k : Value → Prop) : hrF 6 7 (.inr (6, mFl ml ls ns il at9 ol sv)) k = k (.ref 68) := propext ⟨fun h => h.2, fun h => ⟨Or.inl rfl, h⟩⟩
theorem mf_8 (ml ls ns il at9 ol sv : Int32) (k : Value → Prop) : hrF 6 8 (.inr (6, mFl ml ls ns il at9 ol sv)) k = k (.ref 69) := propext ⟨fun h => h.2, fun h => ⟨Or.inl rfl, h⟩⟩
theorem mf_9 (ml ls ns il at9 ol sv : Int32) (k : Value → Prop) : hrF 6 9 (.inr (6, mFl ml ls ns il at9 ol sv)) k = k (.ref 70) := propext ⟨fun h => h.2, fun h => ⟨Or.inl rfl, h⟩⟩
theorem mf_10 (ml ls ns il at9 ol sv : Int32) (k : Value → Prop) : hrF 6 10 (.inr (6, mFl ml ls ns il at9 ol sv)) k = k (.ref 71) := propext ⟨fun h => h.2, fun h => ⟨Or.inl rfl, h⟩⟩
theorem mf_11 (ml ls ns il at9 ol sv : Int32) (k : Value → Prop) : hrF 6 11 (.inr (6, mFl ml ls ns il at9 ol sv)) k = k (.int ml) := propext ⟨fun h => h.2, fun h => ⟨Or.inl rfl, h⟩⟩
theorem mf_12 (ml ls ns il at9 ol sv : Int32) (k : Value → Prop) : hrF 6 12 (.inr (6, mFl ml ls ns il at9 ol sv)) k = k (.ref 72) := propext ⟨fun h => h.2, fun h => ⟨Or.inl rfl, h⟩⟩
theorem mf_13 (ml ls ns il at9 ol sv : Int32) (k : Value → Prop) : hrF 6 13 (.inr (6, mFl ml ls ns il at9 ol sv)) k = k (.ref 73) := propext ⟨fun h => h.2, fun h => ⟨Or.inl rfl, h⟩⟩
theorem mf_14 (ml ls ns il at9 ol sv : Int32) (k : Value → Prop) : hrF 6 14 (.inr (6, mFl ml ls ns il at9 ol sv)) k = k (.ref 74) := propext ⟨fun h => h.2, fun h => ⟨Or.inl rfl, h⟩⟩
theorem mf_15 (ml ls ns il at9 ol sv : Int32) (k : Value → Prop) : hrF 6 15 (.inr (6, mFl ml ls ns il at9 ol sv)) k = k (.ref 75) := propext ⟨fun h => h.2, fun h => ⟨Or.inl rfl, h⟩⟩
theorem mf_16 (ml ls ns il at9 ol sv : Int32) (k : Value → Prop) : hrF 6 16 (.inr (6, mFl ml ls ns il at9 ol sv)) k = k (.int ls) := propext ⟨fun h => h.2, fun h => ⟨Or.inl rfl, h⟩⟩
theorem mf_17 (ml ls ns il at9 ol sv : Int32) (k : Value → Prop) : hrF 6 17 (.inr (6, mFl ml ls ns il at9 ol sv)) k = k (.int ns) := propext ⟨fun h => h.2, fun h => ⟨Or.inl rfl, h⟩⟩
theorem mf_18 (ml ls ns il at9 ol sv : Int32) (k : Value → Prop) : hrF 6 18 (.inr (6, mFl ml ls ns il at9 ol sv)) k = k (.ref 76) := propext ⟨fun h => h.2, fun h => ⟨Or.inl rfl, h⟩⟩
theorem mf_19 (ml ls ns il at9 ol sv : Int32) (k : Value → Prop) : hrF 6 19 (.inr (6, mFl ml ls ns il at9 ol sv)) k = k (.ref 77) := propext ⟨fun h => h.2, fun h => ⟨Or.inl rfl, h⟩⟩
theorem mf_20 (ml ls ns il at9 ol sv : Int32) (k : Value → Prop) : hrF 6 20 (.inr (6, mFl ml ls ns il at9 ol sv)) k = k (.int il) := propext ⟨fun h => h.2, fun h => ⟨Or.inl rfl, h⟩⟩
theorem mf_21 (ml ls ns il at9 ol sv : Int32) (k : Value → Prop) : hrF 6 21 (.inr (6, mFl ml ls ns il at9 ol sv)) k = k (.int at9) := propext ⟨fun h => h.2, fun h => ⟨Or.inl rfl, h⟩⟩
theorem mf_22 (ml ls ns il at9 ol sv : Int32) (k : Value → Prop) : hrF 6 22 (.inr (6, mFl ml ls ns il at9 ol sv)) k = k (.ref 78) := propext ⟨fun h => h.2, fun h => ⟨Or.inl rfl, h⟩⟩
theorem mf_23 (ml ls ns il at9 ol sv : Int32) (k : Value → Prop) : hrF 6 23 (.inr (6, mFl ml ls ns il at9 ol sv)) k = k (.int ol) := propext ⟨fun h => h.2, fun h => ⟨Or.inl rfl, h⟩⟩
theorem mf_24 (ml ls ns il at9 ol sv : Int32) (k : Value → Prop) : hrF 6 24 (.inr (6, mFl ml ls ns il at9 ol sv)) k = k (.int sv) := propext ⟨fun h => h.2, fun h => ⟨Or.inl rfl, h⟩⟩
theorem mf_25 (ml ls ns il at9 ol sv : Int32) (k : Value → Prop) : hrF 6 25 (.inr (6, mFl ml ls ns il at9 ol sv)) k = k (.ref 79) := propext ⟨fun h => h.2, fun h => ⟨Or.inl rfl, h⟩⟩
theorem mf_26 (ml ls ns il at9 ol sv : Int32) (k : Value → Prop) : hrF 6 26 (.inr (6, mFl ml ls ns il at9 ol sv)) k = k (.ref 80) := propext ⟨fun h => h.2, fun h => ⟨Or.inl rfl, h⟩⟩
theorem mf_27 (ml ls ns il at9 ol sv : Int32) (k : Value → Prop) : hrF 6 27 (.inr (6, mFl ml ls ns il at9 ol sv)) k = k (.ref 81) := propext ⟨fun h => h.2, fun h => ⟨Or.inl rfl, h⟩⟩
theorem mf_28 (ml ls ns il at9 ol sv : Int32) (k : Value → Prop) : hrF 6 28 (.inr (6, mFl ml ls ns il at9 ol sv)) k = k (.ref 85) := propext ⟨fun h => h.2, fun h => ⟨Or.inl rfl, h⟩⟩
theorem mf_29 (ml ls ns il at9 ol sv : Int32) (k : Value → Prop) : hrF 6 29 (.inr (6, mFl ml ls ns il at9 ol sv)) k = k (.ref 91) := propext ⟨fun h => h.2, fun h => ⟨Or.inl rfl, h⟩⟩
theorem ms_11 (ml ls ns il at9 ol sv x : Int32) : hfs (mFl ml ls ns il at9 ol sv) 11 (.int x) = mFl x ls ns il at9 ol sv := rfl
theorem ms_16 (ml ls ns il at9 ol sv x : Int32) : hfs (mFl ml ls ns il at9 ol sv) 16 (.int x) = mFl ml x ns il at9 ol sv := rfl
theorem ms_17 (ml ls ns il at9 ol sv x : Int32) : hfs (mFl ml ls ns il at9 ol sv) 17 (.int x) = mFl ml ls x il at9 ol sv := rfl
theorem ms_20 (ml ls ns il at9 ol sv x : Int32) : hfs (mFl ml ls ns il at9 ol sv) 20 (.int x) = mFl ml ls ns x at9 ol sv := rfl
theorem ms_21 (ml ls ns il at9 ol sv x : Int32) : hfs (mFl ml ls ns il at9 ol sv) 21 (.int x) = mFl ml ls ns il x ol sv := rfl
theorem ms_23 (ml ls ns il at9 ol sv x : Int32) : hfs (mFl ml ls ns il at9 ol sv) 23 (.int x) = mFl ml ls ns il at9 x sv := rfl
theorem ms_24 (ml ls ns il at9 ol sv x : Int32) : hfs (mFl ml ls ns il at9 ol sv) 24 (.int x) = mFl ml ls ns il at9 ol x := rfl
/-- rows of words: lengths, letters -/
def hWm (w : hWd) (xl xr b : Nat) (f : Nat → List Nat) : Prop := (∃ F, w xl = .inl (0, 3, .inl F) ∧ ∀ i, i < 3 → F i = nI (f i).length ∧ mW (f i)) ∧ w xr = .inl (5, 3, .inr (.inr (.inr (.inr fun i => some (b + i))))) ∧ ∀ i, i < 3 → ∃ u, hrow w (b + i) u ∧ ∀ j, j < (f i).length → u j = mat (f i) j
/-- rows of polynomials: counts, words, coefficients -/
def hRm (w : hWd) (xc xw bw xk bk : Nat) (f : Nat → List (Nat × Int)) : Prop := (∃ F, w xc = .inl (0, 5, .inl F) ∧ ∀ i, i < 5 → F i = nI (f i).length) ∧ w xw = .inl (5, 5, .inr (.inr (.inr (.inr fun i => some (bw + i))))) ∧ w xk = .inl (6, 5, .inr (.inr (.inr (.inr fun i => some (bk + i))))) ∧ ∀ i, i < 5 → mP (f i) ∧ ∃ cf nf, w (bw + i) = .inl (0, 120, .inl cf) ∧ w (bk + i) = .inl (1, 120, .inr (.inl nf)) ∧ ∀ (k : Nat) (q : Nat × Int), (f i)[k]? = some q → cf k = nI q.1 ∧ nf k = Int64.ofInt q.2
/-- a text in a row of n places -/
def hTx (w : hWd) (x n m : Nat) (t : List Nat) : Prop := t.length ≤ m ∧ ∃ F, w x = .inl (0, n, .inl F) ∧ ∀ j, j < t.length → F j = nI (t.getD j 0) ∧ t.getD j 0 < 128
/-- the list of words that a basis polynomial is made in -/
def hLm (w : hWd) (ls : Nat) : Prop := ls ≤ 9841 ∧ ∃ L L2 T T2, w 72 = .inl (0, 9841, .inl L) ∧ w 73 = .inl (0, 9841, .inl L2) ∧ w 74 = .inl (1, 9841, .inr (.inl T)) ∧ w 75 = .inl (1, 9841, .inr (.inl T2)) ∧ (∀ k, k < ls → ∃ c, c < 9841 ∧ L k = nI c) ∧ (∀ c, c < 9841 → T c ≠ 0 → ∃ k, k < ls ∧ L k = nI c) ∧ ∀ c, c < 9841 → T2 c = 0
def hFm (w : hWd) (S : cS) (ls : Nat) : Prop := ∃ ml ns at9, w 47 = .inr (6, mFl ml (nI ls) ns (nI S.inp.length) at9 (nI S.out.length) (mbI S.sv))
def hZ (w : hWd) : Prop := (∃ u, hrow w 67 u) ∧ (∃ u, hrow w 68 u) ∧ (∃ u, hrow w 69 u) ∧ (∃ u, hrow w 76 u) ∧ ∃ F, w 70 = .inl (1, 13, .inr (.inl F))
/-- the reference's object, its scratch rows aside -/
def hYc (w : hWd) (S : cS) : Prop := ∃ ls, hFm w S ls ∧ w 48 = .inl (0, 9, .inl mpow) ∧ hLm w ls ∧ hWm w 49 50 51 S.wd ∧ hWm w 79 81 82 S.wd2 ∧ hRm w 54 55 56 61 62 S.rg ∧ hRm w 80 85 86 91 92 S.rg2 ∧ hTx w 77 60 60 S.inp ∧ hTx w 78 2000 1920 S.out
def hYr (w : hWd) (S : cS) : Prop := hYc w S ∧ hZ w
def hMs (w : hWd) (f : Nat → Int64) : Prop := ∃ F, w 71 = .inl (1, 9841, .inr (.inl F)) ∧ ∀ c, c < 9841 → F c = f c
/-- the reference's object -/
def hY (w : hWd) (S : cS) : Prop := hYr w S ∧ ∃ f, hMs w f
/-- what a call of the reference leaves -/
def mfy (w w' : hWd) : Prop := ∀ i, i < 47 ∨ 97 ≤ i → w' i = w i
theorem mfy.rf {w : hWd} : mfy w w := fun _ _ => rfl
theorem mfy.tr {w w1 w2 : hWd} (a : mfy w w1) (b : mfy w1 w2) : mfy w w2 := fun i hi => (b i hi).trans (a i hi)
theorem mfr.y {T : List Nat} {w w' : hWd} (h : mfr T w w') (hT : ∀ x ∈ T, 47 ≤ x ∧ x < 97) : mfy w w' := fun i hi => h i (fun q => by have := hT i q; omega)
theorem hWm.keep {w w' : hWd} {xl xr b : Nat} {f : Nat → List Nat} (h : hWm w xl xr b f) (h1 : w' xl = w xl) (h2 : w' xr = w xr) (h3 : ∀ i, i < 3 → w' (b + i) = w (b + i)) : hWm w' xl xr b f := by
  obtain ⟨⟨F, a, b1⟩, c, e⟩ := h
  refine ⟨⟨F, by rw [h1, a], b1⟩, by rw [h2, c], fun i hi => ?_⟩
  obtain ⟨u, p, q⟩ := e i hi
  exact ⟨u, p.keep (h3 i hi), q⟩
theorem hRm.keep {w w' : hWd} {xc xw bw xk bk : Nat} {f : Nat → List (Nat × Int)} (h : hRm w xc xw bw xk bk f) (h1 : w' xc = w xc) (h2 : w' xw = w xw) (h3 : w' xk = w xk) (h4 : ∀ i, i < 5 → w' (bw + i) = w (bw + i) ∧ w' (bk + i) = w (bk + i)) : hRm w' xc xw bw xk bk f := by
  obtain ⟨⟨F, a, b1⟩, c, e, k⟩ := h
  refine ⟨⟨F, by rw [h1, a], b1⟩, by rw [h2, c], by rw [h3, e], fun i hi => ?_⟩
  obtain ⟨p, cf, nf, q1, q2, q3⟩ := k i hi
  exact ⟨p, cf, nf, by rw [(h4 i hi).1, q1], by rw [(h4 i hi).2, q2], q3⟩
theorem hTx.keep {w w' : hWd} {x n m : Nat} {t : List Nat} (h : hTx w x n m t) (e : w' x = w x) : hTx w' x n m t := by
  obtain ⟨a, F, b, c⟩ := h
  exact ⟨a, F, by rw [e, b], c⟩
theorem hLm.keep {w w' : hWd} {ls : Nat} (h : hLm w ls) (h2 : w' 72 = w 72) (h3 : w' 73 = w 73) (h4 : w' 74 = w 74) (h5 : w' 75 = w 75) : hLm w' ls := by
  obtain ⟨a, L, L2, T, T2, b1, b2, b3, b4, r⟩ := h
  exact ⟨a, L, L2, T, T2, by rw [h2, b1], by rw [h3, b2], by rw [h4, b3], by rw [h5, b4], r⟩
theorem hYc.keep {w w' : hWd} {S : cS} (h : hYc w S) (hm : mfr [67, 68, 69, 70, 71, 76] w w') : hYc w' S := by
  obtain ⟨ls, ⟨ml, ns, at9, a0⟩, a1, a2, a3, a4, a5, a6, a7, a8⟩ := h
  refine ⟨ls, ⟨ml, ns, at9, by rw [hm _ (by decide), a0]⟩, by rw [hm _ (by decide), a1], a2.keep (hm _ (by decide)) (hm _ (by decide)) (hm _ (by decide)) (hm _ (by decide)), a3.keep (hm _ (by decide)) (hm _ (by decide)) (fun i hi => hm _ (by simp; omega)), a4.keep (hm _ (by decide)) (hm _ (by decide)) (fun i hi => hm _ (by simp; omega)), a5.keep (hm _ (by decide)) (hm _ (by decide)) (hm _ (by decide)) (fun i hi => ⟨hm _ (by simp; omega), hm _ (by simp; omega)⟩), a6.keep (hm _ (by decide)) (hm _ (by decide)) (hm _ (by decide)) (fun i hi => ⟨hm _ (by simp; omega), hm _ (by simp; omega)⟩), a7.keep (hm _ (by decide)), a8.keep (hm _ (by decide))⟩
theorem hZ.keep {w w' : hWd} (h : hZ w) (h1 : w' 67 = w 67) (h2 : w' 68 = w 68) (h3 : w' 69 = w 69) (h4 : w' 76 = w 76) (h5 : w' 70 = w 70) : hZ w' := by
  obtain ⟨⟨u1, a1⟩, ⟨u2, a2⟩, ⟨u3, a3⟩, ⟨u4, a4⟩, F, a5⟩ := h
  exact ⟨⟨u1, a1.keep h1⟩, ⟨u2, a2.keep h2⟩, ⟨u3, a3.keep h3⟩, ⟨u4, a4.keep h4⟩, F, by rw [h5, a5]⟩
theorem hZ.r67 {w w' : hWd} (h : hZ w) {v : Nat → Nat} (hv : hrow w' 67 v) (hm : mfr [67] w w') : hZ w' := by
  obtain ⟨⟨u1, a1⟩, ⟨u2, a2⟩, ⟨u3, a3⟩, ⟨u4, a4⟩, F, a5⟩ := h
  exact ⟨⟨v, hv⟩, ⟨u2, a2.keep (hm _ (by decide))⟩, ⟨u3, a3.keep (hm _ (by decide))⟩, ⟨u4, a4.keep (hm _ (by decide))⟩, F, by rw [hm _ (by decide), a5]⟩
theorem hZ.r68 {w w' : hWd} (h : hZ w) {v : Nat → Nat} (hv : hrow w' 68 v) (hm : mfr [68] w w') : hZ w' := by
  obtain ⟨⟨u1, a1⟩, ⟨u2, a2⟩, ⟨u3, a3⟩, ⟨u4, a4⟩, F, a5⟩ := h
  exact ⟨⟨u1, a1.keep (hm _ (by decide))⟩, ⟨v, hv⟩, ⟨u3, a3.keep (hm _ (by decide))⟩, ⟨u4, a4.keep (hm _ (by decide))⟩, F, by rw [hm _ (by decide), a5]⟩
theorem hZ.r76 {w w' : hWd} (h : hZ w) {v : Nat → Nat} (hv : hrow w' 76 v) (hm : mfr [76] w w') : hZ w' := by
  obtain ⟨⟨u1, a1⟩, ⟨u2, a2⟩, ⟨u3, a3⟩, ⟨u4, a4⟩, F, a5⟩ := h
  exact ⟨⟨u1, a1.keep (hm _ (by decide))⟩, ⟨u2, a2.keep (hm _ (by decide))⟩, ⟨u3, a3.keep (hm _ (by decide))⟩, ⟨v, hv⟩, F, by rw [hm _ (by decide), a5]⟩
theorem hYr.r67 {w w' : hWd} {S : cS} (h : hYr w S) {v : Nat → Nat} (hv : hrow w' 67 v) (hm : mfr [67] w w') : hYr w' S := ⟨h.1.keep (hm.mono (by simp)), h.2.r67 hv hm⟩
theorem hYr.r68 {w w' : hWd} {S : cS} (h : hYr w S) {v : Nat → Nat} (hv : hrow w' 68 v) (hm : mfr [68] w w') : hYr w' S := ⟨h.1.keep (hm.mono (by simp)), h.2.r68 hv hm⟩
theorem hYr.r76 {w w' : hWd} {S : cS} (h : hYr w S) {v : Nat → Nat} (hv : hrow w' 76 v) (hm : mfr [76] w w') : hYr w' S := ⟨h.1.keep (hm.mono (by simp)), h.2.r76 hv hm⟩
theorem hYr.sm {w w' : hWd} {S : cS} (h : hYr w S) (hm : mfr [71] w w') : hYr w' S := ⟨h.1.keep (hm.mono (by simp)), h.2.keep (hm _ (by decide)) (hm _ (by decide)) (hm _ (by decide)) (hm _ (by decide)) (hm _ (by decide))⟩
theorem hMs.keep {w w' : hWd} {f : Nat → Int64} (h : hMs w f) (e : w' 71 = w 71) : hMs w' f := by
  obtain ⟨F, a, b⟩ := h
  exact ⟨F, by rw [e, a], b⟩
theorem hMs.to {w : hWd} {f f' : Nat → Int64} (h : hMs w f) (hf : ∀ c, c < 9841 → f c = f' c) : hMs w f' := by
  obtain ⟨F, a, b⟩ := h
  exact ⟨F, a, fun c hc => (b c hc).trans (hf c hc)⟩
theorem hYr.M {w : hWd} {S : cS} (h : hYr w S) : hMb w := by
  obtain ⟨⟨ls, ⟨ml, ns, at9, a0⟩, a1, r⟩, _⟩ := h
  exact ⟨⟨_, _, _, _, _, _, _, a0⟩, a1⟩
theorem hYr.P {w : hWd} {S : cS} (h : hYr w S) {i : Nat} (hi : i < 5) : mP (S.rg i) := by
  obtain ⟨⟨ls, a0, a1, a2, a3, a4, a5, a6, a7, a8⟩, _⟩ := h
  exact (a5.2.2.2 i hi).1
theorem hYr.W {w : hWd} {S : cS} (h : hYr w S) {i : Nat} (hi : i < 3) : mW (S.wd i) := by
  obtain ⟨⟨ls, a0, a1, a2, ⟨⟨F, _, a3⟩, _⟩, r⟩, _⟩ := h
  exact (a3 i hi).2
/-- a word that is written anew -/
theorem hYr.word {w w' : hWd} {S : cS} (h : hYr w S) {i : Nat} (hi : i < 3) {u : List Nat} (hu : mW u) {F : Nat → Int32} (k1 : w 49 = .inl (0, 3, .inl F)) (k2 : w' 49 = .inl (0, 3, .inl (upd F i (nI u.length)))) {v : Nat → Nat} (hv : hrow w' (51 + i) v) (hvu : ∀ j, j < u.length → v j = mat u j) (hm : mfr [49, 51 + i, 67, 68, 69, 70, 71, 76] w w') (hz : hZ w') : hYr w' (sWd S i u) := by
  obtain ⟨⟨ls, ⟨ml, ns, at9, a0⟩, a1, a2, a3, a4, a5, a6, a7, a8⟩, _⟩ := h
  refine ⟨⟨ls, ⟨ml, ns, at9, by rw [hm _ (by simp; omega), a0]; rfl⟩, by rw [hm _ (by simp; omega), a1], a2.keep (hm _ (by simp; omega)) (hm _ (by simp; omega)) (hm _ (by simp; omega)) (hm _ (by simp; omega)), ?_, a4.keep (hm _ (by simp; omega)) (hm _ (by simp; omega)) (fun i hi => hm _ (by simp; omega)), a5.keep (hm _ (by simp; omega)) (hm _ (by simp; omega)) (hm _ (by simp; omega)) (fun i hi => ⟨hm _ (by simp; omega), hm _ (by simp; omega)⟩), a6.keep (hm _ (by simp; omega)) (hm _ (by simp; omega)) (hm _ (by simp; omega)) (fun i hi => ⟨hm _ (by simp; omega), hm _ (by simp; omega)⟩), a7.keep (hm _ (by simp; omega)), a8.keep (hm _ (by simp; omega))⟩, hz⟩
  obtain ⟨⟨F2, b0, b1⟩, b2, b3⟩ := a3
  have eF : F2 = F := by
    rw [k1] at b0
    injection b0 with e; injection e with _ e; injection e with _ e; injection e with e; exact e.symm
  subst eF
  refine ⟨⟨_, k2, fun k hk => ?_⟩, by rw [hm _ (by simp; omega), b2], fun k hk => ?_⟩
  · show (upd F2 i (nI u.length) k = nI (if k = i then u else S.wd k).length) ∧ mW (if k = i then u else S.wd k)
    by_cases q : k = i
    · subst q; simp only [if_pos]; exact ⟨by unfold upd; rw [if_pos rfl], hu⟩
    · simp only [if_neg q]; exact ⟨by unfold upd; rw [if_neg q]; exact (b1 k hk).1, (b1 k hk).2⟩
  · show ∃ v, hrow w' (51 + k) v ∧ ∀ j, j < (if k = i then u else S.wd k).length → v j = mat (if k = i then u else S.wd k) j
    by_cases q : k = i
    · subst q; simp only [if_pos]; exact ⟨v, hv, hvu⟩
    · simp only [if_neg q]
      obtain ⟨v3, c1, c2⟩ := b3 k hk
      exact ⟨v3, c1.keep (hm _ (by simp; omega)), c2⟩
end M5
