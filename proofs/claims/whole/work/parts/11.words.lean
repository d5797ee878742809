/-! words as lists of letters, their numbers -/
def menc (l : List Nat) : Nat := l.foldl (fun c x => 3 * c + 1 + x) 0
/-- a word: at most 8 letters -/
def mW (l : List Nat) : Prop := l.length ≤ 8 ∧ ∀ x ∈ l, x < 3
theorem menc_nil : menc [] = 0 := rfl
theorem menc_snoc (l : List Nat) (x : Nat) : menc (l ++ [x]) = 3 * menc l + 1 + x := by
  unfold menc
  rw [List.foldl_append]
  rfl
/-- the number of words with at most n letters -/
def mtop : Nat → Nat
  | 0 => 1
  | n + 1 => 3 * mtop n + 1
theorem mtop_pow (n : Nat) : 2 * mtop n + 1 = 3 ^ (n + 1) := by
  induction n with
  | zero => rfl
  | succ n ih => rw [Nat.pow_succ, ← ih]; show 2 * (3 * mtop n + 1) + 1 = _; omega
theorem mtop_mono {a b : Nat} (h : a ≤ b) : mtop a ≤ mtop b := by
  induction h with
  | refl => exact Nat.le_refl _
  | step _ ih => exact Nat.le_trans ih (by show mtop _ ≤ 3 * mtop _ + 1; omega)
theorem mlist_snoc (l : List Nat) : l = [] ∨ ∃ l' x, l = l' ++ [x] := by
  rcases List.eq_nil_or_concat l with h | ⟨l', x, h⟩
  · exact Or.inl h
  · exact Or.inr ⟨l', x, by rw [h]; simp⟩
theorem menc_lt : ∀ (n : Nat) (l : List Nat), l.length = n → (∀ x ∈ l, x < 3) → menc l < mtop n
  | 0, l, h, _ => by
    cases l with
    | nil => decide
    | cons a l => cases h
  | n + 1, l, h, hx => by
    rcases mlist_snoc l with rfl | ⟨l', x, rfl⟩
    · cases h
    · have h1 : l'.length = n := by simpa using h
      have h2 := menc_lt n l' h1 (fun y hy => hx y (List.mem_append_left _ hy))
      have h3 := hx x (by simp)
      rw [menc_snoc]
      show _ < 3 * mtop n + 1
      omega
theorem mW.lt {l : List Nat} (h : mW l) : menc l < 9841 := Nat.lt_of_lt_of_le (menc_lt _ l rfl h.2) (mtop_mono (b := 8) h.1)
theorem mW.init {l : List Nat} {x : Nat} (h : mW (l ++ [x])) : mW l := ⟨by have := h.1; simp at this; omega, fun y hy => h.2 y (List.mem_append_left _ hy)⟩
theorem mW.last {l : List Nat} {x : Nat} (h : mW (l ++ [x])) : x < 3 := h.2 x (by simp)
theorem mW.nil : mW [] := ⟨by simp, fun _ h => by cases h⟩
theorem mW.snoc {l : List Nat} {x : Nat} (h : mW l) (h1 : l.length < 8) (h2 : x < 3) : mW (l ++ [x]) := ⟨by simp; omega, fun y hy => by
  rcases List.mem_append.mp hy with h3 | h3
  · exact h.2 y h3
  · rw [List.mem_singleton] at h3; omega⟩
theorem mW.drop {l : List Nat} (h : mW l) (k : Nat) : mW (l.drop k) := ⟨by have := h.1; simp; omega, fun y hy => h.2 y (List.mem_of_mem_drop hy)⟩
theorem mW.take {l : List Nat} (h : mW l) (k : Nat) : mW (l.take k) := ⟨by have := h.1; simp; omega, fun y hy => h.2 y (List.mem_of_mem_take hy)⟩
theorem mW.rev {l : List Nat} (h : mW l) : mW l.reverse := ⟨by have := h.1; simpa using this, fun y hy => h.2 y (List.mem_reverse.mp hy)⟩
theorem menc_pos {l : List Nat} (h : l ≠ []) : 0 < menc l := by
  rcases mlist_snoc l with rfl | ⟨l', x, rfl⟩
  · exact absurd rfl h
  · rw [menc_snoc]; omega
theorem menc_inj : ∀ (n : Nat) {a b : List Nat}, a.length = n → (∀ x ∈ a, x < 3) → (∀ x ∈ b, x < 3) → menc a = menc b → a = b
  | 0, a, b, hn, _, _, h => by
    have ha : a = [] := List.eq_nil_of_length_eq_zero hn
    subst ha
    by_cases hb : b = []
    · exact hb.symm
    · have := menc_pos hb
      rw [← h] at this
      exact absurd this (by decide)
  | n + 1, a, b, hn, h1, h2, h => by
    rcases mlist_snoc a with rfl | ⟨a', x, rfl⟩
    · cases hn
    rcases mlist_snoc b with rfl | ⟨b', y, rfl⟩
    · rw [menc_snoc, menc_nil] at h; omega
    rw [menc_snoc, menc_snoc] at h
    have hx := h1 x (by simp)
    have hy := h2 y (by simp)
    have hl : a'.length = n := by simpa using hn
    have := menc_inj n (a := a') (b := b') hl (fun z hz => h1 z (List.mem_append_left _ hz)) (fun z hz => h2 z (List.mem_append_left _ hz)) (by omega)
    subst this
    rw [show x = y by omega]
/-- the word of a number -/
theorem msurj : ∀ (n c : Nat), c < mtop n → ∃ l, l.length ≤ n ∧ (∀ x ∈ l, x < 3) ∧ menc l = c
  | 0, c, h => ⟨[], Nat.le_refl _, (fun _ h => by cases h), by have h : c < 1 := h; rw [show c = 0 by omega]; rfl⟩
  | n + 1, c, h => by
    by_cases h0 : c = 0
    · exact ⟨[], Nat.zero_le _, (fun _ h => by cases h), by rw [h0]; rfl⟩
    · have h : c < 3 * mtop n + 1 := h
      obtain ⟨l, h1, h2, h3⟩ := msurj n ((c - 1) / 3) (by omega)
      refine ⟨l ++ [(c - 1) % 3], by simp; omega, fun x hx => ?_, by rw [menc_snoc, h3]; omega⟩
      rcases List.mem_append.mp hx with h4 | h4
      · exact h2 x h4
      · rw [List.mem_singleton] at h4; omega
theorem mword {c : Nat} (h : c < 9841) : ∃ l, mW l ∧ menc l = c := by
  obtain ⟨l, h1, h2, h3⟩ := msurj 8 c h
  exact ⟨l, ⟨h1, h2⟩, h3⟩
/-- all that is fixed for the run, in one name -/
abbrev hG : Type := Launch × va_G × (Nat → ClassId) × (Nat → Nat) × Nat × (Nat → hE)
def Γ (g : hG) (d : Nat) : hGm := hΓ g.1 g.2.1 g.2.2.1 g.2.2.2.1 g.2.2.2.2.1 g.2.2.2.2.2 d
def hgo (g : hG) : Prop := hAd g.2.2.2.2.1 g.2.2.2.1
theorem Γ.intro {g : hG} (hg : hgo g) {d : Nat} {y : MethodName} {cc : ByteArray} {nL wi : Nat} {ret : Option FieldType} {bs : List (List hEn)} (hok : hokM y cc nL ret wi bs = true) {av : List Value} {N c s : Nat} {w : hWd} {Q : hRt} (h0 : 1 ≤ d) (mc ms : Nat) (h1 : mc ≤ c) (h2 : ms ≤ s) (hlen : (hlarg av).length ≤ nL)
    (body : ∀ P : hPt, hCl (Γ g (d - 1)) ret bs (fun r N' _ _ w' => Q r N' (c - mc) (s - ms) w') P → P N mc ms w 0 (hent av nL) []) : Γ g d y av N c s w Q := by
  obtain ⟨d, rfl⟩ : ∃ k, d = k + 1 := ⟨d - 1, by omega⟩
  exact hΓ.intro hg hok mc ms h1 h2 hlen body
/-- walking without what can be made -/
theorem Γ.intro0 {g : hG} (hg : hgo g) {d : Nat} {y : MethodName} {cc : ByteArray} {nL wi : Nat} {ret : Option FieldType} {bs : List (List hEn)} (hok : hokM y cc nL ret wi bs = true) {av : List Value} {N c s : Nat} {w : hWd} {Q : hRt} (h1 : 1 ≤ d) (hlen : (hlarg av).length ≤ nL)
    (body : ∀ P : hPt, hCl (Γ g (d - 1)) ret bs (fun r N' _ _ w' => Q r N' c s w') P → P N 0 0 w 0 (hent av nL) []) : Γ g d y av N c s w Q := by
  obtain ⟨d, rfl⟩ : ∃ k, d = k + 1 := ⟨d - 1, by omega⟩
  exact hΓ.intro hg hok 0 0 (Nat.zero_le _) (Nat.zero_le _) hlen body
/-! the constants of the code -/
theorem ki_0 : Int32.ofInt 0 = nI 0 := by decide +kernel
theorem ki_1 : Int32.ofInt 1 = nI 1 := by decide +kernel
theorem ki_2 : Int32.ofInt 2 = nI 2 := by decide +kernel
theorem ki_3 : Int32.ofInt 3 = nI 3 := by decide +kernel
theorem ki_4 : Int32.ofInt 4 = nI 4 := by decide +kernel
theorem ki_5 : Int32.ofInt 5 = nI 5 := by decide +kernel
theorem kb_m100 : (Int8.ofInt (-100)).toInt32 = Int32.ofInt (-100) := by decide +kernel
theorem kb_m10 : (Int8.ofInt (-10)).toInt32 = Int32.ofInt (-10) := by decide +kernel
theorem kb_m9 : (Int8.ofInt (-9)).toInt32 = Int32.ofInt (-9) := by decide +kernel
theorem kb_m8 : (Int8.ofInt (-8)).toInt32 = Int32.ofInt (-8) := by decide +kernel
theorem kb_m7 : (Int8.ofInt (-7)).toInt32 = Int32.ofInt (-7) := by decide +kernel
theorem kb_m6 : (Int8.ofInt (-6)).toInt32 = Int32.ofInt (-6) := by decide +kernel
theorem kb_m5 : (Int8.ofInt (-5)).toInt32 = Int32.ofInt (-5) := by decide +kernel
theorem kb_m4 : (Int8.ofInt (-4)).toInt32 = Int32.ofInt (-4) := by decide +kernel
theorem kb_m3 : (Int8.ofInt (-3)).toInt32 = Int32.ofInt (-3) := by decide +kernel
theorem kb_m2 : (Int8.ofInt (-2)).toInt32 = Int32.ofInt (-2) := by decide +kernel
theorem kb_6 : (Int8.ofInt 6).toInt32 = nI 6 := by decide +kernel
theorem kb_7 : (Int8.ofInt 7).toInt32 = nI 7 := by decide +kernel
theorem kb_8 : (Int8.ofInt 8).toInt32 = nI 8 := by decide +kernel
theorem kb_9 : (Int8.ofInt 9).toInt32 = nI 9 := by decide +kernel
theorem kb_10 : (Int8.ofInt 10).toInt32 = nI 10 := by decide +kernel
theorem kb_12 : (Int8.ofInt 12).toInt32 = nI 12 := by decide +kernel
theorem kb_13 : (Int8.ofInt 13).toInt32 = nI 13 := by decide +kernel
theorem kb_16 : (Int8.ofInt 16).toInt32 = nI 16 := by decide +kernel
theorem kb_27 : (Int8.ofInt 27).toInt32 = nI 27 := by decide +kernel
theorem kb_31 : (Int8.ofInt 31).toInt32 = nI 31 := by decide +kernel
theorem kb_32 : (Int8.ofInt 32).toInt32 = nI 32 := by decide +kernel
theorem kb_43 : (Int8.ofInt 43).toInt32 = nI 43 := by decide +kernel
theorem kb_45 : (Int8.ofInt 45).toInt32 = nI 45 := by decide +kernel
theorem kb_48 : (Int8.ofInt 48).toInt32 = nI 48 := by decide +kernel
theorem kb_57 : (Int8.ofInt 57).toInt32 = nI 57 := by decide +kernel
theorem kb_60 : (Int8.ofInt 60).toInt32 = nI 60 := by decide +kernel
theorem kb_63 : (Int8.ofInt 63).toInt32 = nI 63 := by decide +kernel
theorem kb_81 : (Int8.ofInt 81).toInt32 = nI 81 := by decide +kernel
theorem kb_97 : (Int8.ofInt 97).toInt32 = nI 97 := by decide +kernel
theorem kb_99 : (Int8.ofInt 99).toInt32 = nI 99 := by decide +kernel
theorem kb_100 : (Int8.ofInt 100).toInt32 = nI 100 := by decide +kernel
theorem kb_120 : (Int8.ofInt 120).toInt32 = nI 120 := by decide +kernel
theorem kb_126 : (Int8.ofInt 126).toInt32 = nI 126 := by decide +kernel
theorem ks_m1000 : (Int16.ofInt (-1000)).toInt32 = Int32.ofInt (-1000) := by decide +kernel
theorem ks_243 : (Int16.ofInt 243).toInt32 = nI 243 := by decide +kernel
theorem ks_255 : (Int16.ofInt 255).toInt32 = nI 255 := by decide +kernel
theorem ks_729 : (Int16.ofInt 729).toInt32 = nI 729 := by decide +kernel
theorem ks_1000 : (Int16.ofInt 1000).toInt32 = nI 1000 := by decide +kernel
theorem ks_2000 : (Int16.ofInt 2000).toInt32 = nI 2000 := by decide +kernel
theorem ks_2187 : (Int16.ofInt 2187).toInt32 = nI 2187 := by decide +kernel
theorem ks_6561 : (Int16.ofInt 6561).toInt32 = nI 6561 := by decide +kernel
theorem ks_9840 : (Int16.ofInt 9840).toInt32 = nI 9840 := by decide +kernel
theorem ks_9841 : (Int16.ofInt 9841).toInt32 = nI 9841 := by decide +kernel
theorem kl_0 : Int64.ofNat (0 : Fin 2).val = lN 0 := rfl
theorem kl_1 : Int64.ofNat (1 : Fin 2).val = lN 1 := rfl
theorem kz : (0 : Int32) = nI 0 := rfl
theorem kn0 : (narrow .boolean (.int (nI 0)) = .int (nI 0)) = True := eq_true (by decide +kernel)
theorem kn1 : (narrow .boolean (.int (nI 1)) = .int (nI 1)) = True := eq_true (by decide +kernel)
theorem kof (n : Nat) : Int32.ofNat n = nI n := rfl
