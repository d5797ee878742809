/-! the next Lyndon word -/
section M37
variable {g : hG} {d N c s : Nat} {w : hWd} {Q : hRt}
/-- the words of at most k letters, counted -/
def tW (k : Nat) : Nat := (3 ^ (k + 1) - 1) / 2
/-- a word's place in the dictionary of the words of at most k letters -/
def ixW : Nat → List Nat → Nat
  | _, [] => 0
  | 0, _ :: _ => 0
  | k + 1, a :: t => 1 + a * tW k + ixW k t
def nxs : List Nat → List Nat
  | [] => []
  | a :: t => match nxs t with
    | [] => cond (Nat.beq a 2) [] [a + 1]
    | b :: r => a :: b :: r
/-- the next word of the dictionary of the words of at most m letters -/
def nxW (m : Nat) (l : List Nat) : List Nat := cond (Nat.blt l.length m) (l ++ [0]) (nxs l)
def llast (l : List Nat) : Nat → Nat
  | 0 => 0
  | k + 1 => cond (Nat.blt (l.getD k 0) 2) (k + 1) (llast l k)
def lafk (l : List Nat) : Nat → List Nat
  | 0 => []
  | k + 1 => l.take k ++ [l.getD k 0 + 1]
def lgo (m : Nat) : Nat → List Nat → Nat → Nat → Nat → List Nat
  | 0, l, _, _, _ => lafk l (llast l m)
  | n + 1, l, p, k, i => cond (cond (Nat.ble k i) true (Nat.blt (l.getD i 0) (l.getD (i - p) 0))) (lgo m n (l.set i (l.getD (i - p) 0)) p i (i + 1)) (cond (Nat.blt (l.getD (i - p) 0) (l.getD i 0)) (lgo m n l (i + 1) k (i + 1)) (lgo m n l p k (i + 1)))
/-- the Lyndon word behind a word, as the class finds it; no letter: there is none -/
def laf (m : Nat) (l : List Nat) : List Nat := cond l.isEmpty [0] (lgo m (m - 1) (l ++ List.replicate (m - l.length) 0) 1 l.length 1)
def lsame : List Nat → List Nat → Bool
  | [], [] => true
  | a :: s, b :: t => cond (Nat.beq a b) (lsame s t) false
  | _, _ => false
def l3 : List Nat → Bool
  | [] => true
  | a :: t => cond (Nat.blt a 3) (l3 t) false
def afD (m : Nat) (l v : List Nat) : Bool := cond (Nat.beq (ixW m v) (ixW m l + 1)) (cond (l3 v) (cond (Nat.ble v.length m) (lsame (laf m l) (cond (lyn v) v (laf m v))) false) false) false
def afC (m : Nat) (l : List Nat) : Bool := cond (nxW m l).isEmpty (cond (Nat.beq (ixW m l + 1) (tW m)) (laf m l).isEmpty false) (afD m l (nxW m l))
set_option maxRecDepth 100000 in
set_option maxHeartbeats 40000000 in
theorem afC_1 : allW (afC 1) 1 [] = true := by decide +kernel
set_option maxRecDepth 100000 in
set_option maxHeartbeats 40000000 in
theorem afC_2 : allW (afC 2) 2 [] = true := by decide +kernel
set_option maxRecDepth 100000 in
set_option maxHeartbeats 40000000 in
theorem afC_3 : allW (afC 3) 3 [] = true := by decide +kernel
set_option maxRecDepth 100000 in
set_option maxHeartbeats 40000000 in
theorem afC_4 : allW (afC 4) 4 [] = true := by decide +kernel
set_option maxRecDepth 100000 in
set_option maxHeartbeats 40000000 in
theorem afC_5 : allW (afC 5) 5 [] = true := by decide +kernel
set_option maxRecDepth 100000 in
set_option maxHeartbeats 40000000 in
theorem afC_6 : allW (afC 6) 6 [] = true := by decide +kernel

theorem lsame_eq : ∀ {a b : List Nat}, lsame a b = true → a = b
  | [], [], _ => rfl
  | [], _ :: _, h => by cases h
  | _ :: _, [], h => by cases h
  | x :: a, y :: b, h => by
    rw [lsame, cond_t] at h
    rw [Nat.eq_of_beq_eq_true h.1, lsame_eq h.2]
theorem l3_all : ∀ {a : List Nat}, l3 a = true → ∀ x ∈ a, x < 3
  | [], _, x, h => by cases h
  | y :: a, h, x, hm => by
    rw [l3, cond_t] at h
    rcases List.mem_cons.mp hm with e | e
    · rw [e]; exact Nat.le_of_ble_eq_true h.1
    · exact l3_all h.2 x e
theorem tW_s (k : Nat) : tW (k + 1) = 1 + 3 * tW k := by
  unfold tW
  have h1 : 0 < 3 ^ (k + 1) := Nat.pow_pos (by decide)
  have h2 : 3 ^ (k + 1) % 2 = 1 := by
    induction k with
    | zero => rfl
    | succ k ih => rw [Nat.pow_succ, Nat.mul_mod, ih (Nat.pow_pos (by decide))]
  rw [Nat.pow_succ 3 (k + 1)]
  omega
theorem ixW_b : ∀ (k : Nat) (l : List Nat), l.length ≤ k → (∀ x ∈ l, x < 3) → ixW k l < tW k
  | 0, [], _, _ => by decide
  | k + 1, [], _, _ => by rw [tW_s]; show 0 < _; omega
  | 0, _ :: _, h, _ => by simp at h
  | k + 1, a :: t, h, h3 => by
    have h1 := ixW_b k t (by simpa using h) (fun x hx9 => h3 x (List.mem_cons_of_mem _ hx9))
    have h2 : a < 3 := h3 a (List.mem_cons_self ..)
    have h4 : a * tW k ≤ 2 * tW k := Nat.mul_le_mul_right _ (by omega)
    rw [tW_s]
    show 1 + a * tW k + ixW k t < _
    omega
theorem ixW_lt : ∀ (k : Nat) (l r : List Nat), l.length ≤ k → r.length ≤ k → (∀ x ∈ l, x < 3) → (∀ x ∈ r, x < 3) → (dlt l r = true ↔ ixW k l < ixW k r)
  | k, l, [], _, _, _, _ => by
    rw [dlt_nil]
    refine iff_of_false (by simp) ?_
    cases k <;> exact Nat.not_lt_zero _
  | 0, _, _ :: _, _, h, _, _ => by simp at h
  | k + 1, [], b :: r, _, _, _, _ => by
    refine iff_of_true rfl ?_
    show 0 < 1 + b * tW k + ixW k r
    omega
  | k + 1, a :: l, b :: r, hl9, hr9, h3, h4 => by
    have hb1 := ixW_b k l (by simpa using hl9) (fun x hx9 => h3 x (List.mem_cons_of_mem _ hx9))
    have hb2 := ixW_b k r (by simpa using hr9) (fun x hx9 => h4 x (List.mem_cons_of_mem _ hx9))
    rw [dlt_cons]
    show _ ↔ 1 + a * tW k + ixW k l < 1 + b * tW k + ixW k r
    by_cases q : a = b
    · rw [if_pos q, q, ixW_lt k l r (by simpa using hl9) (by simpa using hr9) (fun x hx9 => h3 x (List.mem_cons_of_mem _ hx9)) (fun x hx9 => h4 x (List.mem_cons_of_mem _ hx9))]
      omega
    · rw [if_neg q, decide_eq_true_eq]
      rcases Nat.lt_or_gt_of_ne q with e | e
      · have : (a + 1) * tW k ≤ b * tW k := Nat.mul_le_mul_right _ e
        rw [Nat.add_mul, Nat.one_mul] at this
        exact iff_of_true e (by omega)
      · have : (b + 1) * tW k ≤ a * tW k := Nat.mul_le_mul_right _ e
        rw [Nat.add_mul, Nat.one_mul] at this
        exact iff_of_false (by omega) (by omega)
end M37
