/-! brackets: the class's words and the reference's -/
section M16
variable {g : hG}
/-- sums of longs over the numbers below n -/
def sN : Nat → (Nat → Int64) → Int64
  | 0, _ => 0
  | n + 1, F => sN n F + F n
theorem sN_cg {n : Nat} {F G : Nat → Int64} (h : ∀ k, k < n → F k = G k) : sN n F = sN n G := by
  induction n with
  | zero => rfl
  | succ n ih => rw [sN, sN, ih (fun k hk => h k (by omega)), h n (by omega)]
theorem sN_z (n : Nat) : sN n (fun _ => 0) = 0 := by
  induction n with
  | zero => rfl
  | succ n ih => rw [sN, ih, Int64.add_zero]
theorem sN_add (n : Nat) (F G : Nat → Int64) : sN n (fun k => F k + G k) = sN n F + sN n G := by
  induction n with
  | zero => exact (Int64.add_zero 0).symm
  | succ n ih => rw [sN, sN, sN, ih, Int64.add_assoc, Int64.add_assoc, ← Int64.add_assoc (sN n G), ← Int64.add_assoc (F n), Int64.add_comm (sN n G)]
theorem sN_swap (a b : Nat) (F : Nat → Nat → Int64) : sN a (fun l => sN b (fun r => F l r)) = sN b (fun r => sN a (fun l => F l r)) := by
  induction a with
  | zero => exact (sN_z b).symm
  | succ a ih => rw [sN, ih, ← sN_add]; rfl
theorem sN_app (a : Nat) (F : Nat → Int64) : ∀ b, sN (a + b) F = sN a F + sN b (fun k => F (a + k))
  | 0 => (Int64.add_zero _).symm
  | b + 1 => by
    show sN (a + b) F + F (a + b) = sN a F + (sN b (fun k => F (a + k)) + F (a + b))
    rw [sN_app a F b, Int64.add_assoc]
theorem sN_mul (a : Nat) (F : Nat → Int64) : ∀ b, sN (a * b) F = sN b (fun r => sN a (fun l => F (l + a * r)))
  | 0 => rfl
  | b + 1 => by
    rw [Nat.mul_add, Nat.mul_one, sN_app, sN_mul a F b, sN]
    congr 1
    exact sN_cg (fun k _ => by rw [Nat.add_comm])
theorem sN_2 (F : Nat → Int64) : sN 2 F = F 0 + F 1 := by
  show (0 + F 0) + F 1 = _
  rw [Int64.zero_add]
/-- how many of n bits are set -/
def pc : Nat → Nat → Nat
  | 0, _ => 0
  | n + 1, m => m % 2 + pc n (m / 2)
theorem pc_0 : ∀ n, pc n 0 = 0
  | 0 => rfl
  | n + 1 => by show 0 % 2 + pc n (0 / 2) = 0; rw [Nat.zero_div, pc_0 n]
theorem pc_cat (q s : Nat) : ∀ (p l : Nat), l < 2 ^ p → pc (p + q) (l + 2 ^ p * s) = pc p l + pc q s
  | 0, l, h => by
    have : l = 0 := by have h : l < 1 := h; omega
    subst this
    rw [Nat.pow_zero, Nat.one_mul, Nat.zero_add, Nat.zero_add]
    show _ = 0 + _
    rw [Nat.zero_add]
  | p + 1, l, h => by
    have e : p + 1 + q = (p + q) + 1 := by omega
    have e2 : l + 2 ^ (p + 1) * s = l + 2 * (2 ^ p * s) := by rw [Nat.pow_succ, Nat.mul_comm (2 ^ p) 2, Nat.mul_assoc]
    rw [Nat.pow_succ] at h
    rw [e, e2]
    show (l + 2 * (2 ^ p * s)) % 2 + pc (p + q) ((l + 2 * (2 ^ p * s)) / 2) = l % 2 + pc p (l / 2) + pc q s
    rw [show (l + 2 * (2 ^ p * s)) % 2 = l % 2 by omega, show (l + 2 * (2 ^ p * s)) / 2 = l / 2 + 2 ^ p * s by omega, pc_cat q s p (l / 2) (by omega), Nat.add_assoc]
theorem pc_7 : ∀ m, m < 128 → pc 7 m = mpop m := by decide +kernel
theorem pc_pop {n m : Nat} (hn : n ≤ 7) (hm : m < 2 ^ n) : pc n m = mpop m := by
  have h1 := Nat.pow_le_pow_right (n := 2) (by omega) hn
  have h2 := pc_cat (7 - n) 0 n m hm
  rw [Nat.mul_zero, Nat.add_zero, pc_0, Nat.add_zero, show n + (7 - n) = 7 by omega] at h2
  rw [← h2, pc_7 m (by omega)]
/-- the words of a bracket, the bits counted from the range's start: as the class takes them, as the reference does -/
def cwd (u : Nat → Nat) : Nat → Nat → Nat → Nat → List Nat
  | 0, _, _, _ => []
  | n + 1, m, a, b => if b - a = 1 then [u a] else if m / 2 ^ (mgapB u 1 a b - a - 1) % 2 = 0 then cwd u n m a (mgapB u 1 a b) ++ cwd u n (m / 2 ^ (mgapB u 1 a b - a)) (mgapB u 1 a b) b else cwd u n (m / 2 ^ (mgapB u 1 a b - a)) (mgapB u 1 a b) b ++ cwd u n m a (mgapB u 1 a b)
def rwd (u : Nat → Nat) : Nat → Nat → Nat → Nat → List Nat
  | 0, _, _, _ => []
  | n + 1, m, a, b => if b - a = 1 then [u a] else if m % 2 = 0 then rwd u n (m / 2) a (mgapB u 1 a b) ++ rwd u n (m / 2 ^ (mgapB u 1 a b - a)) (mgapB u 1 a b) b else rwd u n (m / 2 ^ (mgapB u 1 a b - a)) (mgapB u 1 a b) b ++ rwd u n (m / 2) a (mgapB u 1 a b)
theorem pdiv (m a b : Nat) : m / 2 ^ a / 2 ^ b = m / 2 ^ (a + b) := by rw [Nat.div_div_eq_div_mul, ← Nat.pow_add]
theorem mswp_cwd (u : Nat → Nat) (k : Nat) : ∀ (n a b : Nat), a < b → mswp u 1 k n a b = cwd u n (k / 2 ^ a) a b
  | 0, a, b, _ => rfl
  | n + 1, a, b, h => by
    rw [mswp, cwd]
    by_cases q : b - a = 1
    · rw [if_pos q, if_pos q]
    · rw [if_neg q, if_neg q]
      have hb := mgapB_bd u 1 (a := a) (b := b) (by omega)
      rw [pdiv, pdiv, show a + (mgapB u 1 a b - a - 1) = mgapB u 1 a b - 1 by omega, show a + (mgapB u 1 a b - a) = mgapB u 1 a b by omega, mswp_cwd u k n a _ hb.1, mswp_cwd u k n _ b hb.2]
theorem bitlo {m m' n j : Nat} (h : m % 2 ^ n = m' % 2 ^ n) (hj : j < n) : m / 2 ^ j % 2 = m' / 2 ^ j % 2 := by
  have e : ∀ x, x / 2 ^ j % 2 = x % 2 ^ n % (2 ^ j * 2) / 2 ^ j := fun x => by
    rw [Nat.mod_mod_of_dvd _ (by rw [← Nat.pow_succ]; exact Nat.pow_dvd_pow 2 (by omega)), Nat.mod_mul_right_div_self]
  rw [e, e, h]
theorem modlo {m m' n p : Nat} (h : m % 2 ^ n = m' % 2 ^ n) (hp : p ≤ n) : m % 2 ^ p = m' % 2 ^ p := by
  have e : ∀ x, x % 2 ^ p = x % 2 ^ n % 2 ^ p := fun x => (Nat.mod_mod_of_dvd _ (Nat.pow_dvd_pow 2 hp)).symm
  rw [e, e m', h]
theorem divlo {m m' n p : Nat} (h : m % 2 ^ n = m' % 2 ^ n) (hp : p ≤ n) : m / 2 ^ p % 2 ^ (n - p) = m' / 2 ^ p % 2 ^ (n - p) := by
  have e : ∀ x, x / 2 ^ p % 2 ^ (n - p) = x % 2 ^ n / 2 ^ p := fun x => by
    rw [← Nat.mod_mul_right_div_self, ← Nat.pow_add, show p + (n - p) = n by omega]
  rw [e, e, h]
theorem cwd_lo (u : Nat → Nat) : ∀ (n a b m m' : Nat), a < b → m % 2 ^ (b - a - 1) = m' % 2 ^ (b - a - 1) → cwd u n m a b = cwd u n m' a b
  | 0, _, _, _, _, _, _ => rfl
  | n + 1, a, b, m, m', h, hm => by
    rw [cwd, cwd]
    by_cases q : b - a = 1
    · rw [if_pos q, if_pos q]
    · rw [if_neg q, if_neg q]
      have hb := mgapB_bd u 1 (a := a) (b := b) (by omega)
      have e1 := cwd_lo u n a (mgapB u 1 a b) m m' hb.1 (modlo hm (by omega))
      have e2 := cwd_lo u n (mgapB u 1 a b) b (m / 2 ^ (mgapB u 1 a b - a)) (m' / 2 ^ (mgapB u 1 a b - a)) hb.2 (by
        have := divlo (p := mgapB u 1 a b - a) hm (by omega)
        rwa [show b - a - 1 - (mgapB u 1 a b - a) = b - mgapB u 1 a b - 1 by omega] at this)
      rw [bitlo (j := mgapB u 1 a b - a - 1) hm (by omega), e1, e2]
theorem rwd_lo (u : Nat → Nat) : ∀ (n a b m m' : Nat), a < b → m % 2 ^ (b - a - 1) = m' % 2 ^ (b - a - 1) → rwd u n m a b = rwd u n m' a b
  | 0, _, _, _, _, _, _ => rfl
  | n + 1, a, b, m, m', h, hm => by
    rw [rwd, rwd]
    by_cases q : b - a = 1
    · rw [if_pos q, if_pos q]
    · rw [if_neg q, if_neg q]
      have hb := mgapB_bd u 1 (a := a) (b := b) (by omega)
      have e0 := bitlo (j := 0) hm (by omega)
      rw [Nat.pow_zero, Nat.div_one, Nat.div_one] at e0
      have h1 := divlo (p := 1) hm (by omega)
      rw [Nat.pow_one] at h1
      have e1 := rwd_lo u n a (mgapB u 1 a b) (m / 2) (m' / 2) hb.1 (modlo h1 (by omega))
      have e2 := rwd_lo u n (mgapB u 1 a b) b (m / 2 ^ (mgapB u 1 a b - a)) (m' / 2 ^ (mgapB u 1 a b - a)) hb.2 (by
        have := divlo (p := mgapB u 1 a b - a) hm (by omega)
        rwa [show b - a - 1 - (mgapB u 1 a b - a) = b - mgapB u 1 a b - 1 by omega] at this)
      rw [e0, e1, e2]
def SC (u : Nat → Nat) (n a b : Nat) (φ : List Nat → Nat → Int64) : Int64 := sN (2 ^ (b - a - 1)) (fun m => φ (cwd u n m a b) (pc (b - a - 1) m))
def SR (u : Nat → Nat) (n a b : Nat) (φ : List Nat → Nat → Int64) : Int64 := sN (2 ^ (b - a - 1)) (fun m => φ (rwd u n m a b) (pc (b - a - 1) m))
theorem SC_rec (u : Nat → Nat) (n : Nat) {a b : Nat} (h : a + 2 ≤ b) (φ : List Nat → Nat → Int64) : SC u (n + 1) a b φ = SC u n (mgapB u 1 a b) b (fun y py => SC u n a (mgapB u 1 a b) (fun x px => φ (x ++ y) (px + (0 + py)) + φ (y ++ x) (px + (1 + py)))) := by
  have hb := mgapB_bd u 1 (a := a) (b := b) h
  generalize hG9 : mgapB u 1 a b = G at hb ⊢
  obtain ⟨p, hp⟩ : ∃ p, G = a + 1 + p := ⟨G - a - 1, by omega⟩
  obtain ⟨q, hq⟩ : ∃ q, b = G + 1 + q := ⟨b - G - 1, by omega⟩
  unfold SC
  rw [show b - a - 1 = p + (q + 1) by omega, show b - G - 1 = q by omega, show G - a - 1 = p by omega]
  rw [Nat.pow_add, sN_mul, Nat.pow_succ, Nat.mul_comm (2 ^ q) 2, sN_mul]
  refine sN_cg (fun r hr => ?_)
  rw [sN_2, ← sN_add]
  refine sN_cg (fun l hl9 => ?_)
  have key : ∀ t, t < 2 → φ (cwd u (n + 1) (l + 2 ^ p * (t + 2 * r)) a b) (pc (p + (q + 1)) (l + 2 ^ p * (t + 2 * r))) = φ (if t = 0 then cwd u n l a G ++ cwd u n r G b else cwd u n r G b ++ cwd u n l a G) (pc p l + (t + pc q r)) := fun t ht => by
    have e1 : pc (p + (q + 1)) (l + 2 ^ p * (t + 2 * r)) = pc p l + (t + pc q r) := by
      rw [pc_cat _ _ _ _ hl9]
      show _ + ((t + 2 * r) % 2 + pc q ((t + 2 * r) / 2)) = _
      rw [show (t + 2 * r) % 2 = t by omega, show (t + 2 * r) / 2 = r by omega]
    have e2 : (l + 2 ^ p * (t + 2 * r)) / 2 ^ p = t + 2 * r := by
      rw [Nat.add_mul_div_left _ _ (Nat.two_pow_pos p), Nat.div_eq_of_lt hl9, Nat.zero_add]
    have e3 : (l + 2 ^ p * (t + 2 * r)) / 2 ^ (p + 1) = r := by
      rw [← pdiv, e2, Nat.pow_one]; omega
    have e4 : cwd u n (l + 2 ^ p * (t + 2 * r)) a G = cwd u n l a G := cwd_lo u n a G _ _ hb.1 (by rw [show G - a - 1 = p by omega, Nat.add_mul_mod_self_left])
    rw [e1, cwd, if_neg (by omega), hG9, show G - a - 1 = p by omega, show G - a = p + 1 by omega, e2, e3, e4, show (t + 2 * r) % 2 = t by omega]
  rw [key 0 (by omega), key 1 (by omega), if_pos rfl, if_neg (by omega)]
theorem SR_rec (u : Nat → Nat) (n : Nat) {a b : Nat} (h : a + 2 ≤ b) (φ : List Nat → Nat → Int64) : SR u (n + 1) a b φ = SR u n (mgapB u 1 a b) b (fun y py => SR u n a (mgapB u 1 a b) (fun x px => φ (x ++ y) (px + (0 + py)) + φ (y ++ x) (px + (1 + py)))) := by
  have hb := mgapB_bd u 1 (a := a) (b := b) h
  generalize hG9 : mgapB u 1 a b = G at hb ⊢
  obtain ⟨p, hp⟩ : ∃ p, G = a + 1 + p := ⟨G - a - 1, by omega⟩
  obtain ⟨q, hq⟩ : ∃ q, b = G + 1 + q := ⟨b - G - 1, by omega⟩
  unfold SR
  rw [show b - a - 1 = (p + q) + 1 by omega, show b - G - 1 = q by omega, show G - a - 1 = p by omega]
  rw [Nat.pow_succ, Nat.mul_comm (2 ^ (p + q)) 2, sN_mul, Nat.pow_add, sN_mul]
  refine sN_cg (fun r hr => ?_)
  refine sN_cg (fun l hl9 => ?_)
  rw [sN_2]
  have key : ∀ t, t < 2 → φ (rwd u (n + 1) (t + 2 * (l + 2 ^ p * r)) a b) (pc (p + q + 1) (t + 2 * (l + 2 ^ p * r))) = φ (if t = 0 then rwd u n l a G ++ rwd u n r G b else rwd u n r G b ++ rwd u n l a G) (pc p l + (t + pc q r)) := fun t ht => by
    have e1 : pc (p + q + 1) (t + 2 * (l + 2 ^ p * r)) = pc p l + (t + pc q r) := by
      show (t + 2 * (l + 2 ^ p * r)) % 2 + pc (p + q) ((t + 2 * (l + 2 ^ p * r)) / 2) = _
      rw [show (t + 2 * (l + 2 ^ p * r)) % 2 = t by omega, show (t + 2 * (l + 2 ^ p * r)) / 2 = l + 2 ^ p * r by omega, pc_cat _ _ _ _ hl9]
      omega
    have e0 : (t + 2 * (l + 2 ^ p * r)) / 2 = l + 2 ^ p * r := by omega
    have e3 : (t + 2 * (l + 2 ^ p * r)) / 2 ^ (p + 1) = r := by
      rw [show p + 1 = 1 + p by omega, ← pdiv, Nat.pow_one, e0, Nat.add_mul_div_left _ _ (Nat.two_pow_pos p), Nat.div_eq_of_lt hl9, Nat.zero_add]
    have e4 : rwd u n (l + 2 ^ p * r) a G = rwd u n l a G := rwd_lo u n a G _ _ hb.1 (by rw [show G - a - 1 = p by omega, Nat.add_mul_mod_self_left])
    rw [e1, rwd, if_neg (by omega), hG9, show G - a = p + 1 by omega, e0, e3, e4, show (t + 2 * (l + 2 ^ p * r)) % 2 = t by omega]
  rw [key 0 (by omega), key 1 (by omega), if_pos rfl, if_neg (by omega)]
theorem SC_SR (u : Nat → Nat) : ∀ (n a b : Nat) (φ : List Nat → Nat → Int64), a < b → b - a ≤ n → SC u n a b φ = SR u n a b φ
  | 0, a, b, φ, h1, h2 => by omega
  | n + 1, a, b, φ, h1, h2 => by
    by_cases q : b - a = 1
    · unfold SC SR
      rw [q]
      refine sN_cg (fun k _ => ?_)
      rw [cwd, rwd, if_pos q, if_pos q]
    · have hb := mgapB_bd u 1 (a := a) (b := b) (by omega)
      rw [SC_rec u n (by omega), SR_rec u n (by omega), SC_SR u n _ b _ hb.2 (by omega)]
      congr 1
      funext y py
      exact SC_SR u n a _ _ hb.1 (by omega)
/-- the bracket, as the reference adds it up -/
def mbrR (u : Nat → Nat) (len : Nat) (z : Int64) (f : Nat → Int64) : Nat → Nat → Int64
  | 0 => f
  | k + 1 => padd (mbrR u len z f k) (menc (rwd u 8 k 0 len)) (if mpop k % 2 = 0 then z else -z)
theorem paddc (f : Nat → Int64) (c k : Nat) (z : Int64) : padd f k z c = f c + (if c = k then z else 0) := by
  unfold padd
  by_cases q : c = k
  · rw [if_pos q, if_pos q]
  · rw [if_neg q, if_neg q, Int64.add_zero]
theorem mbrk_c (u : Nat → Nat) (o len : Nat) (z : Int64) (f : Nat → Int64) (c : Nat) : ∀ K, mbrk u o len z f K c = f c + sN K (fun m => if c = menc (mswp u o m 8 0 len) then (if mpop m % 2 = 0 then z else -z) else 0)
  | 0 => (Int64.add_zero _).symm
  | K + 1 => by rw [mbrk, paddc, mbrk_c u o len z f c K, Int64.add_assoc]; rfl
theorem mbrR_c (u : Nat → Nat) (len : Nat) (z : Int64) (f : Nat → Int64) (c : Nat) : ∀ K, mbrR u len z f K c = f c + sN K (fun m => if c = menc (rwd u 8 m 0 len) then (if mpop m % 2 = 0 then z else -z) else 0)
  | 0 => (Int64.add_zero _).symm
  | K + 1 => by rw [mbrR, paddc, mbrR_c u len z f c K, Int64.add_assoc]; rfl
theorem mbrk_R {u : Nat → Nat} {len : Nat} (h1 : 1 ≤ len) (h8 : len ≤ 8) (z : Int64) (f : Nat → Int64) : mbrk u 1 len z f (2 ^ (len - 1)) = mbrR u len z f (2 ^ (len - 1)) := by
  funext c
  rw [mbrk_c, mbrR_c]
  congr 1
  have h := SC_SR u 8 0 len (fun x k => if c = menc x then (if k % 2 = 0 then z else -z) else 0) h1 (by omega)
  unfold SC SR at h
  rw [show len - 0 - 1 = len - 1 by omega] at h
  rw [sN_cg (G := fun m => if c = menc (cwd u 8 m 0 len) then (if pc (len - 1) m % 2 = 0 then z else -z) else 0) (fun k hk => by
    rw [mswp_cwd u k 8 0 len h1, Nat.pow_zero, Nat.div_one, pc_pop (by omega) hk]), h]
  exact sN_cg (fun k hk => by rw [pc_pop (by omega) hk])
end M16
