/-! Duval's prefix is the longest Lyndon word -/
section M4b
variable {g : hG}
/-- the dictionary order -/
def dlt : List Nat → List Nat → Bool
  | _, [] => false
  | [], _ :: _ => true
  | x :: a, y :: b => cond (Nat.beq x y) (dlt a b) (Nat.blt x y)
theorem dlt_nil (l : List Nat) : dlt l [] = false := by cases l <;> rfl
theorem dlt_cons (x y : Nat) (a b : List Nat) : dlt (x :: a) (y :: b) = if x = y then dlt a b else decide (x < y) := by
  show cond (Nat.beq x y) (dlt a b) (Nat.blt x y) = _
  by_cases q : x = y
  · rw [if_pos q, q, Nat.beq_refl]; rfl
  · have h1 : Nat.beq x y = false := by
      cases h : Nat.beq x y with
      | false => rfl
      | true => exact absurd (Nat.eq_of_beq_eq_true h) q
    rw [if_neg q, h1]
    show Nat.blt x y = _
    rw [Bool.eq_iff_iff, Nat.blt_eq, decide_eq_true_eq]
def lsuf (l : List Nat) : List Nat → Bool
  | [] => true
  | x :: t => cond (dlt l (x :: t)) (lsuf l t) false
/-- whether a word is a Lyndon word -/
def lyn : List Nat → Bool
  | [] => false
  | x :: t => lsuf (x :: t) t
/-- the longest Lyndon word at the start of a word, from a length downwards -/
def lfl (l : List Nat) : Nat → Nat
  | 0 => 0
  | n + 1 => cond (lyn (l.take (n + 1))) (n + 1) (lfl l n)
def lpg (l : List Nat) : Nat → Nat → Nat → Nat
  | 0, p, _ => p
  | n + 1, p, i => cond (Nat.blt (l.getD i 0) (l.getD (i - p) 0)) p (cond (Nat.blt (l.getD (i - p) 0) (l.getD i 0)) (lpg l n (i + 1) (i + 1)) (lpg l n p (i + 1)))
/-- a check of all words of at most n letters before a word -/
def allW (f : List Nat → Bool) : Nat → List Nat → Bool
  | 0, l => f l
  | n + 1, l => cond (f l) (cond (allW f n (0 :: l)) (cond (allW f n (1 :: l)) (allW f n (2 :: l)) false) false) false
theorem cond_t {a b : Bool} : cond a b false = true ↔ a = true ∧ b = true := by cases a <;> simp
theorem allW_d {f : List Nat → Bool} : ∀ (n : Nat) (l : List Nat), allW f n l = true → ∀ t : List Nat, t.length ≤ n → (∀ x ∈ t, x < 3) → f (t ++ l) = true
  | 0, l, h, t, ht, _ => by
    rw [List.eq_nil_of_length_eq_zero (Nat.le_zero.mp ht)]
    exact h
  | n + 1, l, h, t, ht, h3 => by
    rw [allW, cond_t, cond_t, cond_t] at h
    rcases mlist_snoc t with rfl | ⟨t', x, rfl⟩
    · exact h.1
    · have h4 : t'.length ≤ n := by simp at ht; omega
      have h5 : ∀ y ∈ t', y < 3 := fun y hy => h3 y (List.mem_append_left _ hy)
      have hx3 := h3 x (by simp)
      rw [List.append_assoc]
      show f (t' ++ x :: l) = true
      match x, hx3 with
      | 0, _ => exact allW_d n _ h.2.1 t' h4 h5
      | 1, _ => exact allW_d n _ h.2.2.1 t' h4 h5
      | 2, _ => exact allW_d n _ h.2.2.2 t' h4 h5
theorem allW_u {f : List Nat → Bool} (h : allW f 8 [] = true) {u : List Nat} (hu : mW u) : f u = true := by
  have := allW_d 8 [] h u hu.1 hu.2
  rwa [List.append_nil] at this
def duvOK (l : List Nat) : Bool := Nat.beq (lpg l (l.length - 1) 1 1) (lfl l l.length)
set_option maxRecDepth 100000 in
set_option maxHeartbeats 40000000 in
theorem duv_all : allW (fun l => cond l.isEmpty true (duvOK l)) 8 [] = true := by decide +kernel
theorem mrn_c (u : Nat → Nat) (a n : Nat) : mrn u a (n + 1) = u a :: mrn u (a + 1) n := by
  unfold mrn
  rw [List.range_succ_eq_map, List.map_cons, List.map_map]
  congr 1
  exact List.map_congr_left (fun k _ => congrArg u (by show a + (k + 1) = a + 1 + k; omega))
theorem mrn_0 (u : Nat → Nat) (a : Nat) : mrn u a 0 = [] := rfl
theorem mrn_at {u : Nat → Nat} {a n j : Nat} (h : j < n) : mat (mrn u a n) j = u (a + j) := by
  unfold mat mrn
  rw [List.getD_eq_getElem?_getD, List.getElem?_map, List.getElem?_range h]; rfl
theorem mrn_take {u : Nat → Nat} {a : Nat} : ∀ {n m : Nat}, m ≤ n → (mrn u a n).take m = mrn u a m
  | n, 0, _ => by rw [mrn_0, List.take_zero]
  | 0, m + 1, h => by omega
  | n + 1, m + 1, h => by rw [mrn_c, mrn_c, List.take_succ_cons]; congr 1; exact mrn_take (by omega)
theorem mcmp_dlt (u v : Nat → Nat) (a n b m : Nat) : ∀ (r k : Nat), min n m - k = r → k ≤ min n m → (mcmp u v a n b m r k < 0 ↔ dlt (mrn u (a + k) (n - k)) (mrn v (b + k) (m - k)) = true)
  | 0, k, hr, hk => by
    show (n : Int) - (m : Int) < 0 ↔ _
    by_cases q : n < m
    · have e : m - k = (m - k - 1) + 1 := by omega
      rw [show n - k = 0 by omega, mrn_0, e, mrn_c]
      exact ⟨fun _ => rfl, fun _ => by omega⟩
    · rw [show m - k = 0 by omega, mrn_0, dlt_nil]
      exact ⟨fun z => by omega, fun z => by cases z⟩
  | r + 1, k, hr, hk => by
    have e1 : n - k = (n - (k + 1)) + 1 := by omega
    have e2 : m - k = (m - (k + 1)) + 1 := by omega
    rw [e1, e2, mrn_c, mrn_c, dlt_cons, mcmp]
    by_cases q : u (a + k) = v (b + k)
    · rw [if_pos q, if_pos q]
      exact mcmp_dlt u v a n b m r (k + 1) (by omega) (by omega)
    · rw [if_neg q, if_neg q, decide_eq_true_eq]; omega
theorem mcp_dlt (u v : Nat → Nat) (a n b m : Nat) : mcp u v a n b m < 0 ↔ dlt (mrn u a n) (mrn v b m) = true := mcmp_dlt u v a n b m (min n m) 0 rfl (Nat.zero_le _)
theorem lsuf_mrn (l : List Nat) (u : Nat → Nat) : ∀ (m b : Nat), lsuf l (mrn u b m) = true ↔ ∀ k, k < m → dlt l (mrn u (b + k) (m - k)) = true
  | 0, b => by rw [mrn_0]; exact ⟨fun _ k hk => by omega, fun _ => rfl⟩
  | m + 1, b => by
    rw [mrn_c, lsuf, cond_t, lsuf_mrn l u m (b + 1), ← mrn_c]
    constructor
    · intro h k hk
      cases k with
      | zero => exact h.1
      | succ k =>
        have := h.2 k (by omega)
        rwa [show b + (k + 1) = b + 1 + k by omega, show m + 1 - (k + 1) = m - k by omega]
    · intro h
      refine ⟨h 0 (by omega), fun k hk => ?_⟩
      have := h (k + 1) (by omega)
      rwa [show b + (k + 1) = b + 1 + k by omega, show m + 1 - (k + 1) = m - k by omega] at this
theorem mlr_lyn (u : Nat → Nat) (a : Nat) : ∀ n, mlr u a n = lyn (mrn u a n)
  | 0 => by
    rw [mrn_0]
    exact decide_eq_false (fun q => by omega)
  | n + 1 => by
    rw [Bool.eq_iff_iff]
    rw [mrn_c]
    show mlr u a (n + 1) = true ↔ lsuf (u a :: mrn u (a + 1) n) (mrn u (a + 1) n) = true
    rw [← mrn_c, lsuf_mrn]
    unfold mlr
    rw [decide_eq_true_eq]
    constructor
    · intro h k hk
      have := (mcp_dlt _ _ _ _ _ _).mp (h.2 (k + 1) (by omega) (by omega))
      rwa [show a + (k + 1) = a + 1 + k by omega, show n + 1 - (k + 1) = n - k by omega] at this
    · intro h
      refine ⟨by omega, fun k hk hk1 => (mcp_dlt _ _ _ _ _ _).mpr ?_⟩
      have := h (k - 1) (by omega)
      rwa [show a + 1 + (k - 1) = a + k by omega, show n - (k - 1) = n + 1 - k by omega] at this
theorem mfl_lfl (u : Nat → Nat) (a N : Nat) : ∀ n, n ≤ N → mfl u a n = lfl (mrn u a N) n
  | 0, _ => rfl
  | n + 1, h => by
    rw [mfl, lfl, mrn_take h, ← mlr_lyn, mfl_lfl u a N n (by omega)]
    cases mlr u a (n + 1) <;> rfl
theorem mpg_lpg {u : Nat → Nat} {a b : Nat} : ∀ (n p i : Nat), i + n ≤ b → a + p ≤ i → mpg u a n p i = lpg (mrn u a (b - a)) n p (i - a)
  | 0, p, i, _, _ => rfl
  | n + 1, p, i, h1, h2 => by
    have e1 : (mrn u a (b - a)).getD (i - a) 0 = u i := (mrn_at (by omega)).trans (by rw [show a + (i - a) = i by omega])
    have e2 : (mrn u a (b - a)).getD (i - a - p) 0 = u (i - p) := (mrn_at (by omega)).trans (by rw [show a + (i - a - p) = i - p by omega])
    rw [mpg, lpg, e1, e2]
    by_cases q : u i < u (i - p)
    · rw [if_pos q, (Nat.blt_eq).mpr q]; rfl
    · rw [if_neg q, Bool.eq_false_iff.mpr (fun z => q ((Nat.blt_eq).mp z))]
      show mpg u a n _ (i + 1) = cond (Nat.blt (u (i - p)) (u i)) _ _
      by_cases q2 : u (i - p) < u i
      · rw [if_pos q2, (Nat.blt_eq).mpr q2]
        rw [show i + 1 - a = i - a + 1 by omega, mpg_lpg (b := b) n (i - a + 1) (i + 1) (by omega) (by omega), show i + 1 - a = i - a + 1 by omega]; rfl
      · rw [if_neg q2, Bool.eq_false_iff.mpr (fun z => q2 ((Nat.blt_eq).mp z))]
        rw [mpg_lpg (b := b) n p (i + 1) (by omega) (by omega), show i + 1 - a = i - a + 1 by omega]; rfl
theorem mrn_W3 {u : Nat → Nat} {a n : Nat} (h : ∀ j, a ≤ j → j < a + n → u j < 3) (hn : n ≤ 8) : mW (mrn u a n) := by
  refine ⟨by rw [mrn_l]; omega, fun x hx => ?_⟩
  obtain ⟨k, hk, e⟩ := List.mem_map.mp hx
  rw [← e]
  have := List.mem_range.mp hk
  exact h _ (by omega) (by omega)
/-- the class's prefix is the longest Lyndon word there -/
theorem mpre_mfl {u : Nat → Nat} {a b : Nat} (hab : a < b) (hb : b ≤ 8) (h3 : ∀ j, j < b → u j < 3) : mpre u a b = mfl u a (b - a) := by
  have hW9 := mrn_W3 (u := u) (a := a) (n := b - a) (fun j _ h2 => h3 j (by omega)) (by omega)
  have h := allW_u duv_all hW9
  have e0 : (mrn u a (b - a)).isEmpty = false := by
    rw [show b - a = (b - a - 1) + 1 by omega, mrn_c]; rfl
  simp only [e0] at h
  have h := Nat.eq_of_beq_eq_true h
  rw [mrn_l] at h
  rw [mfl_lfl u a (b - a) _ (Nat.le_refl _), ← h, mpre, mpg_lpg (b := b) _ _ _ (by omega) (by omega), show a + 1 - a = 1 by omega, show b - (a + 1) = b - a - 1 by omega]
theorem mfl_bd (u : Nat → Nat) (a : Nat) : ∀ n, 1 ≤ n → 1 ≤ mfl u a n ∧ mfl u a n ≤ n
  | 0, h => by omega
  | n + 1, h => by
    rw [mfl]
    by_cases q : mlr u a (n + 1) = true
    · rw [if_pos q]; omega
    · rw [if_neg q]
      have : 1 ≤ n := Nat.pos_of_ne_zero (fun z => q (by rw [z]; exact mlr_1 u a))
      have := mfl_bd u a n this
      omega
theorem mfl_all {u : Nat → Nat} {a n : Nat} (h : 1 ≤ n) : mfl u a n = n ↔ mlr u a n = true := by
  obtain ⟨m, rfl⟩ : ∃ m, n = m + 1 := ⟨n - 1, by omega⟩
  rw [mfl]
  by_cases q : mlr u a (m + 1) = true
  · rw [if_pos q]; simp [q]
  · rw [if_neg q]
    refine ⟨fun z => ?_, fun z => absurd z q⟩
    have : 1 ≤ m := Nat.pos_of_ne_zero (fun y => q (by rw [y]; exact mlr_1 u a))
    have := mfl_bd u a m this
    omega
theorem mat_3 {u : List Nat} (hu : mW u) : ∀ j, j < u.length → mat u j < 3 := fun j hj => by
  refine hu.2 _ ?_
  unfold mat
  rw [List.getD_eq_getElem?_getD, List.getElem?_eq_getElem hj]
  exact List.getElem_mem hj
/-- one factor only: a Lyndon word -/
theorem mfn_1 {u : List Nat} (hu : mW u) : mfn u = 1 ↔ mlr (mat u) 0 u.length = true := by
  have h8 := hu.1
  by_cases h0 : u.length = 0
  · have : u = [] := List.eq_nil_of_length_eq_zero h0
    subst this
    refine ⟨fun q => ?_, fun q => ?_⟩
    · have : mfn [] = 0 := rfl
      omega
    · have := of_decide_eq_true q
      omega
  · have e1 := mpre_mfl (u := mat u) (a := 0) (b := u.length) (by omega) h8 (mat_3 hu)
    rw [← mfl_all (by omega), show mfl (mat u) 0 u.length = mpre (mat u) 0 u.length from e1.symm]
    have e2 := mfl_bd (mat u) 0 u.length (by omega)
    rw [show mfl (mat u) 0 u.length = mpre (mat u) 0 u.length from e1.symm] at e2
    have e3 : mfacs u = 0 :: mfac u 7 (0 + mpre (mat u) 0 u.length) := by
      unfold mfacs
      rw [mfac, if_pos (by omega)]
    unfold mfn
    rw [e3, List.length_cons, mfac]
    by_cases q : 0 + mpre (mat u) 0 u.length < u.length
    · rw [if_pos q, List.length_cons]; omega
    · rw [if_neg q]; simp; omega
end M4b
