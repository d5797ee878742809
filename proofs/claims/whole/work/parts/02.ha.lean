/-! AN ABSTRACT MACHINE OVER THE KIT'S ROWS: values with object numbers in place of addresses, a world as a function of the number; an instruction as a predicate transformer (hx), a block of instructions (hrun); the theorem hx_sound carries it to W. -/
abbrev hE : Type := (Nat × vp_A) ⊕ (Nat × List Value)
abbrev hWd : Type := Nat → hE
abbrev hLs : Type := List (Option Value)
/-- pc, instruction, number, number, integer, method, words' places -/
abbrev hEn : Type := Nat × Instr × Nat × Nat × Int × MethodName × List Nat
abbrev hRt : Type := Option Value → Nat → Nat → Nat → hWd → Prop
abbrev hPt : Type := Nat → Nat → Nat → hWd → Nat → hLs → List Value → Prop
abbrev hGm : Type := MethodName → List Value → Nat → Nat → Nat → hWd → hRt → Prop
def hnth : hLs → Nat → Option Value
  | [], _ => none
  | a :: _, 0 => a
  | _ :: l, n + 1 => hnth l n
def hput : hLs → Nat → Option Value → hLs
  | [], _, _ => []
  | _ :: l, 0, v => v :: l
  | a :: l, n + 1, v => a :: hput l n v
def hcat2 : Option Value → Bool
  | some (.long _) => true
  | some (.double _) => true
  | _ => false
def hok (ls : hLs) : Nat → Bool
  | 0 => true
  | n + 1 => !hcat2 (hnth ls n)
def hldI : Option Value → (Int32 → Prop) → Prop
  | some (.int x), k => k x
  | _, _ => False
def hldL : Option Value → (Int64 → Prop) → Prop
  | some (.long x), k => k x
  | _, _ => False
def hldR : Option Value → (Value → Prop) → Prop
  | some (.ref x), k => k (.ref x)
  | some .null, k => k .null
  | _, _ => False
def hpI : List Value → (Int32 → List Value → Prop) → Prop
  | .int x :: r, k => k x r
  | _, _ => False
def hpL : List Value → (Int64 → List Value → Prop) → Prop
  | .long x :: r, k => k x r
  | _, _ => False
def hpA : List Value → (Nat → List Value → Prop) → Prop
  | .ref x :: r, k => k x r
  | _, _ => False
def hpR : List Value → (Value → List Value → Prop) → Prop
  | .ref x :: r, k => k (.ref x) r
  | .null :: r, k => k .null r
  | _, _ => False
/-- any value of one slot -/
def hp1 : List Value → (Value → List Value → Prop) → Prop
  | .ref x :: r, k => k (.ref x) r
  | .null :: r, k => k .null r
  | .int x :: r, k => k (.int x) r
  | _, _ => False
def hpV : List Value → (Value → List Value → Prop) → Prop
  | v :: r, k => k v r
  | _, _ => False
def hrtI : List Value → (Int32 → Prop) → Prop
  | [.int x], k => k x
  | _, _ => False
def hrtL : List Value → (Int64 → Prop) → Prop
  | [.long x], k => k x
  | _, _ => False
def hrtR : List Value → (Value → Prop) → Prop
  | [.ref x], k => k (.ref x)
  | [.null], k => k .null
  | _, _ => False
def hrtV : List Value → Prop → Prop
  | [], P => P
  | _, _ => False
def hpN : Nat → List Value → List Value → (List Value → List Value → Prop) → Prop
  | 0, acc, r, k => k acc r
  | n + 1, acc, v :: r, k => hpN n (v :: acc) r k
  | _ + 1, _, [], _ => False
/-- what lies below a call's arguments fits -/
def hck : Nat → List Value → Prop → Prop
  | _, [], P => P
  | n + 1, .int _ :: r, P => hck n r P
  | n + 1, .ref _ :: r, P => hck n r P
  | n + 1, .null :: r, P => hck n r P
  | n + 2, .long _ :: r, P => hck n r P
  | _, _, _ => False
def hrI : hE → (Nat → (Nat → Int32) → Prop) → Prop
  | .inl (0, n, .inl f), k => k n f
  | .inl (10, n, .inl f), k => k n f
  | _, _ => False
def hrB : hE → (Nat → (Nat → Int32) → Prop) → Prop
  | .inl (2, n, .inl f), k => k n f
  | .inl (3, n, .inl f), k => k n f
  | .inl (12, n, .inl f), k => k n f
  | _, _ => False
def hrL : hE → (Nat → (Nat → Int64) → Prop) → Prop
  | .inl (1, n, .inr (.inl f)), k => k n f
  | _, _ => False
def hrA : hE → (Nat → (Nat → Option Nat) → Prop) → Prop
  | .inl (4, n, .inr (.inr (.inr (.inr f)))), k => k n f
  | .inl (5, n, .inr (.inr (.inr (.inr f)))), k => k n f
  | .inl (6, n, .inr (.inr (.inr (.inr f)))), k => k n f
  | _, _ => False
def hwI : hE → (Nat → (Nat → Int32) → Prop) → Prop
  | .inl (0, n, .inl f), k => k n f
  | _, _ => False
def hwA : hE → (Nat → (Nat → Option Nat) → Prop) → Prop
  | .inl (4, n, .inr (.inr (.inr (.inr f)))), k => k n f
  | _, _ => False
/-- bytes and booleans: the type's place, its narrowing -/
def hwB : hE → (Nat → Nat → FieldType → (Nat → Int32) → Prop) → Prop
  | .inl (2, n, .inl f), k => k 2 n .byte f
  | .inl (3, n, .inl f), k => k 3 n .boolean f
  | _, _ => False
def hrN : hE → (Nat → Prop) → Prop
  | .inl (0, n, _), k => k n
  | .inl (1, n, _), k => k n
  | .inl (2, n, _), k => k n
  | .inl (3, n, _), k => k n
  | .inl (4, n, _), k => k n
  | .inl (10, n, .inl _), k => k n
  | .inl (12, n, .inl _), k => k n
  | _, _ => False
def hfk : List Value → Nat → (Value → Prop) → Prop
  | v :: _, 0, k => k v
  | _ :: l, n + 1, k => hfk l n k
  | [], _, _ => False
def hfs : List Value → Nat → Value → List Value
  | [], _, _ => []
  | _ :: l, 0, v => v :: l
  | a :: l, n + 1, v => a :: hfs l n v
def hrF (ci j : Nat) : hE → (Value → Prop) → Prop
  | .inr (c, fs), k => (c = ci ∨ (c = 10 ∧ ci = 0 ∧ j < 2)) ∧ hfk fs j k
  | _, _ => False
def hwF (ci : Nat) : hE → (List Value → Prop) → Prop
  | .inr (c, fs), k => c = ci ∧ k fs
  | _, _ => False
def hcl (ci : Nat) : hE → Prop → Prop
  | .inr (c, _), P => (c = ci ∨ (c = 10 ∧ ci = 0)) ∧ P
  | _, _ => False
def hfty : Nat → Nat → FieldType
  | 0 => tyJ0
  | 1 => tyJ4
  | 2 => tyX1
  | 3 => tyX3
  | 4 => tyX6
  | 5 => tyX9
  | _ => tyX10
def hfit : FieldType → Value → Prop
  | .int, .int _ => True
  | .long, .long _ => True
  | .boolean, .int x => narrow .boolean (.int x) = .int x ∧ fits .boolean (.int x) = true
  | .byte, .int x => narrow .byte (.int x) = .int x ∧ fits .byte (.int x) = true
  | .object _, .ref _ => True
  | .object _, .null => True
  | .array _, .ref _ => True
  | .array _, .null => True
  | _, _ => False
def hnum : Nat → Nat
  | 0 => 4
  | 1 => 4
  | 2 => 5
  | 3 => 3
  | 4 => 3
  | 5 => 10
  | _ => 30
def hdef (ci : Nat) : List Value := (List.range (hnum ci)).map (fun j => defaultValue (hfty ci j))
def hcmp (c : Jvm.ClassFile.Cond) (x y : Int32) (A B : Prop) : Prop := match c with
  | .eq => (x = y → A) ∧ (¬ x = y → B)
  | .ne => (¬ x = y → A) ∧ (x = y → B)
  | .lt => (x < y → A) ∧ (¬ x < y → B)
  | .ge => (y ≤ x → A) ∧ (¬ y ≤ x → B)
  | .gt => (y < x → A) ∧ (¬ y < x → B)
  | .le => (x ≤ y → A) ∧ (¬ x ≤ y → B)
def hnar : Option FieldType → Int32 → Prop → Prop
  | some .int, _, P => P
  | some .boolean, x, P => narrow .boolean (.int x) = .int x ∧ P
  | some .byte, x, P => narrow .byte (.int x) = .int x ∧ P
  | some .char, x, P => narrow .char (.int x) = .int x ∧ P
  | _, _, _ => False
def hres : Option Value → List Value → List Value
  | some v, r => v :: r
  | none, r => r
/-- statics: their values -/
def hst : Nat → Value
  | 0 => .int 1
  | 1 => .ref 1000001
  | 2 => .ref 1000002
  | 3 => .ref 1000003
  | 4 => .ref 1000004
  | _ => .null
def hzero : Nat → Nat → hE
  | 1, n => .inl (1, n, .inr (.inl fun _ => 0))
  | t, n => .inl (t, n, .inl fun _ => 0)
def hBa : hE → (Nat → (Nat → Int32) → Prop) → Prop
  | .inl (2, n, .inl f), k => k n f
  | _, _ => False
/-- rows that a 'multianewarray' makes behind their outer array -/
def hmulR (t k N : Nat) (w : hWd) : Nat → hWd
  | 0 => w
  | i + 1 => va_up (hmulR t k N w i) (N + 1 + i) (hzero t k)
def hmul (t n k N : Nat) (w : hWd) : hWd := hmulR t k N (va_up w N (.inl (5 + t, n, .inr (.inr (.inr (.inr fun i => if i < n then some (N + 1 + i) else none)))))) n
def hacp (e0 e1 : hE) (sp dp n : Int32) (k : hE → Prop) : Prop := match e0, e1 with
  | .inl (0, n0, .inl f), .inl (0, n1, .inl g) => ¬ sp < 0 ∧ ¬ dp < 0 ∧ ¬ n < 0 ∧ sp.toNatClampNeg + n.toNatClampNeg ≤ n0 ∧ dp.toNatClampNeg + n.toNatClampNeg ≤ n1 ∧ k (.inl (0, n1, .inl (va_cpy f g sp.toNatClampNeg dp.toNatClampNeg n.toNatClampNeg)))
  | .inl (2, n0, .inl f), .inl (2, n1, .inl g) => ¬ sp < 0 ∧ ¬ dp < 0 ∧ ¬ n < 0 ∧ sp.toNatClampNeg + n.toNatClampNeg ≤ n0 ∧ dp.toNatClampNeg + n.toNatClampNeg ≤ n1 ∧ (∀ i, i < n.toNatClampNeg → fits .byte (.int (f (sp.toNatClampNeg + i))) = true) ∧ k (.inl (2, n1, .inl (va_cpy f g sp.toNatClampNeg dp.toNatClampNeg n.toNatClampNeg)))
  | _, _ => False
def hx (Γ : hGm) (ret : Option FieldType) (en : hEn) (N c s : Nat) (w : hWd) (ls : hLs) (st : List Value) (K : hPt) (Rt : hRt) : Prop :=
  match en with
  | (pc, i, a1, a2, z, y, _) => match i with
    | .iload j => hldI (hnth ls j) fun x => K N c s w (pc + 2) ls (.int x :: st)
    | .iload_n j => hldI (hnth ls j.val) fun x => K N c s w (pc + 1) ls (.int x :: st)
    | .lload j => hldL (hnth ls j) fun x => K N c s w (pc + 2) ls (.long x :: st)
    | .lload_n j => hldL (hnth ls j.val) fun x => K N c s w (pc + 1) ls (.long x :: st)
    | .aload j => hldR (hnth ls j) fun x => K N c s w (pc + 2) ls (x :: st)
    | .aload_n j => hldR (hnth ls j.val) fun x => K N c s w (pc + 1) ls (x :: st)
    | .istore j => hpI st fun x r => hok ls j = true ∧ K N c s w (pc + 2) (hput ls j (some (.int x))) r
    | .istore_n j => hpI st fun x r => hok ls j.val = true ∧ K N c s w (pc + 1) (hput ls j.val (some (.int x))) r
    | .lstore j => hpL st fun x r => hok ls j = true ∧ j + 1 < ls.length ∧ K N c s w (pc + 2) (hput (hput ls j (some (.long x))) (j + 1) none) r
    | .lstore_n j => hpL st fun x r => hok ls j.val = true ∧ j.val + 1 < ls.length ∧ K N c s w (pc + 1) (hput (hput ls j.val (some (.long x))) (j.val + 1) none) r
    | .astore j => hpR st fun x r => hok ls j = true ∧ K N c s w (pc + 2) (hput ls j (some x)) r
    | .astore_n j => hpR st fun x r => hok ls j.val = true ∧ K N c s w (pc + 1) (hput ls j.val (some x)) r
    | .iinc j n => hldI (hnth ls j) fun x => hok ls j = true ∧ K N c s w (pc + 3) (hput ls j (some (.int (x + Int32.ofInt n)))) st
    | .iconst n => K N c s w (pc + 1) ls (.int (Int32.ofInt n) :: st)
    | .bipush n => K N c s w (pc + 2) ls (.int (Int8.ofInt n).toInt32 :: st)
    | .sipush n => K N c s w (pc + 3) ls (.int (Int16.ofInt n).toInt32 :: st)
    | .lconst n => K N c s w (pc + 1) ls (.long (Int64.ofNat n.val) :: st)
    | .aconst_null => K N c s w (pc + 1) ls (.null :: st)
    | .iadd => hpI st fun y r => hpI r fun x r => K N c s w (pc + 1) ls (.int (x + y) :: r)
    | .isub => hpI st fun y r => hpI r fun x r => K N c s w (pc + 1) ls (.int (x - y) :: r)
    | .imul => hpI st fun y r => hpI r fun x r => K N c s w (pc + 1) ls (.int (x * y) :: r)
    | .iand => hpI st fun y r => hpI r fun x r => K N c s w (pc + 1) ls (.int (x &&& y) :: r)
    | .ior => hpI st fun y r => hpI r fun x r => K N c s w (pc + 1) ls (.int (x ||| y) :: r)
    | .idiv => hpI st fun y r => hpI r fun x r => ¬ y = 0 ∧ K N c s w (pc + 1) ls (.int (x / y) :: r)
    | .irem => hpI st fun y r => hpI r fun x r => ¬ y = 0 ∧ K N c s w (pc + 1) ls (.int (x - x / y * y) :: r)
    | .ineg => hpI st fun x r => K N c s w (pc + 1) ls (.int (-x) :: r)
    | .ishl => hpI st fun y r => hpI r fun x r => K N c s w (pc + 1) ls (.int (x <<< (y &&& 31)) :: r)
    | .ishr => hpI st fun y r => hpI r fun x r => K N c s w (pc + 1) ls (.int (x >>> (y &&& 31)) :: r)
    | .iushr => hpI st fun y r => hpI r fun x r => K N c s w (pc + 1) ls (.int (x.toUInt32 >>> (y.toUInt32 &&& Int32.toUInt32 31)).toInt32 :: r)
    | .ladd => hpL st fun y r => hpL r fun x r => K N c s w (pc + 1) ls (.long (x + y) :: r)
    | .lsub => hpL st fun y r => hpL r fun x r => K N c s w (pc + 1) ls (.long (x - y) :: r)
    | .lmul => hpL st fun y r => hpL r fun x r => K N c s w (pc + 1) ls (.long (x * y) :: r)
    | .ldiv => hpL st fun y r => hpL r fun x r => ¬ y = 0 ∧ K N c s w (pc + 1) ls (.long (x / y) :: r)
    | .lrem => hpL st fun y r => hpL r fun x r => ¬ y = 0 ∧ K N c s w (pc + 1) ls (.long (x - x / y * y) :: r)
    | .lneg => hpL st fun x r => K N c s w (pc + 1) ls (.long (-x) :: r)
    | .i2l => hpI st fun x r => K N c s w (pc + 1) ls (.long x.toInt64 :: r)
    | .l2i => hpL st fun x r => K N c s w (pc + 1) ls (.int x.toInt32 :: r)
    | .i2b => hpI st fun x r => K N c s w (pc + 1) ls (.int x.toInt8.toInt32 :: r)
    | .i2c => hpI st fun x r => K N c s w (pc + 1) ls (.int (x.toUInt32 % 65536).toInt32 :: r)
    | .lcmp => hpL st fun y r => hpL r fun x r => K N c s w (pc + 1) ls (.int (lg_cmp x y) :: r)
    | .dup => hp1 st fun x r => K N c s w (pc + 1) ls (x :: x :: r)
    | .dup_x1 => hp1 st fun x r => hp1 r fun y r => K N c s w (pc + 1) ls (x :: y :: x :: r)
    | .dup2 => hp1 st fun x r => hp1 r fun y r => K N c s w (pc + 1) ls (x :: y :: x :: y :: r)
    | .pop => hp1 st fun _ r => K N c s w (pc + 1) ls r
    | .goto _ => K N c s w a1 ls st
    | .ifCond o _ => hpI st fun x r => hcmp o x 0 (K N c s w a1 ls r) (K N c s w (pc + 3) ls r)
    | .if_icmp o _ => hpI st fun y r => hpI r fun x r => hcmp o x y (K N c s w a1 ls r) (K N c s w (pc + 3) ls r)
    | .ifnull _ => hpR st fun x r => match x with | .null => K N c s w a1 ls r | _ => K N c s w (pc + 3) ls r
    | .ifnonnull _ => hpR st fun x r => match x with | .null => K N c s w (pc + 3) ls r | _ => K N c s w a1 ls r
    | .if_acmp o _ => match o with
      | .ne => hpA st fun y r => hpA r fun x r => (x < 1000000 ∨ y < 1000000) ∧ (x = y → K N c s w (pc + 3) ls r) ∧ (¬ x = y → K N c s w a1 ls r)
      | _ => False
    | .instanceof _ => hpA st fun a r => hcl 0 (w a) (K N c s w (pc + 3) ls (.int 1 :: r))
    | .checkcast _ => match a1 with
      | 101 => hpA st fun a r => hBa (w a) fun _ _ => K N c s w (pc + 3) ls (.ref a :: r)
      | _ => hpA st fun a r => hcl 0 (w a) (K N c s w (pc + 3) ls (.ref a :: r))
    | .iaload => hpI st fun j r => hpA r fun a r => hrI (w a) fun n f => vp_in j n ∧ K N c s w (pc + 1) ls (.int (f j.toNatClampNeg) :: r)
    | .baload => hpI st fun j r => hpA r fun a r => hrB (w a) fun n f => vp_in j n ∧ K N c s w (pc + 1) ls (.int (f j.toNatClampNeg) :: r)
    | .laload => hpI st fun j r => hpA r fun a r => hrL (w a) fun n f => vp_in j n ∧ K N c s w (pc + 1) ls (.long (f j.toNatClampNeg) :: r)
    | .aaload => hpI st fun j r => hpA r fun a r => hrA (w a) fun n f => vp_in j n ∧ K N c s w (pc + 1) ls (va_rf (f j.toNatClampNeg) :: r)
    | .iastore => hpI st fun x r => hpI r fun j r => hpA r fun a r => hwI (w a) fun n f => vp_in j n ∧ K N c s (va_up w a (.inl (0, n, .inl (upd f j.toNatClampNeg x)))) (pc + 1) ls r
    | .bastore => hpI st fun x r => hpI r fun j r => hpA r fun a r => hwB (w a) fun t n ty f => vp_in j n ∧ K N c s (va_up w a (.inl (t, n, .inl (upd f j.toNatClampNeg (vp_nar ty x))))) (pc + 1) ls r
    | .lastore => hpL st fun x r => hpI r fun j r => hpA r fun a r => hrL (w a) fun n f => vp_in j n ∧ K N c s (va_up w a (.inl (1, n, .inr (.inl (vp_updL f j.toNatClampNeg x))))) (pc + 1) ls r
    | .aastore => hpA st fun x r => hpI r fun j r => hpA r fun a r => hwA (w a) fun n f => hwF 3 (w x) fun _ => vp_in j n ∧ K N c s (va_up w a (.inl (4, n, .inr (.inr (.inr (.inr (va_up f j.toNatClampNeg (some x)))))))) (pc + 1) ls r
    | .arraylength => hpA st fun a r => hrN (w a) fun n => K N c s w (pc + 1) ls (.int (Int32.ofNat n) :: r)
    | .getfield _ => hpA st fun a r => hrF a1 a2 (w a) fun v => K N c s w (pc + 3) ls (v :: r)
    | .putfield _ => hpV st fun v r => hpA r fun a r => hwF a1 (w a) fun fs => hfit (hfty a1 a2) v ∧ K N c s (va_up w a (.inr (a1, hfs fs a2 v))) (pc + 3) ls r
    | .getstatic _ => match a1 with
      | 5 => (∀ k : Nat, K N c s w (pc + 3) ls (.ref k :: st)) ∧ K N c s w (pc + 3) ls (.null :: st)
      | _ => K N c s w (pc + 3) ls (hst a1 :: st)
    | .ldc _ => match a1 with
      | 0 => K N c s w (pc + 2) ls (.int (Int32.ofInt z) :: st)
      | _ => K N c s w (pc + 2) ls (.ref (1000005 + a2) :: st)
    | .ldc_w _ => match a1 with
      | 0 => K N c s w (pc + 3) ls (.int (Int32.ofInt z) :: st)
      | _ => K N c s w (pc + 3) ls (.ref (1000005 + a2) :: st)
    | .ldc2_w _ => K N c s w (pc + 3) ls (.long (Int64.ofInt z) :: st)
    | .new _ => 1 ≤ c ∧ hnum a1 ≤ s ∧ K (N + 1) (c - 1) (s - hnum a1) (va_up w N (.inr (a1, hdef a1))) (pc + 3) ls (.ref N :: st)
    | .newarray _ => hpI st fun n r => ¬ n < 0 ∧ 1 ≤ c ∧ n.toNatClampNeg ≤ s ∧ n.toNatClampNeg ≤ 1000000 ∧ K (N + 1) (c - 1) (s - n.toNatClampNeg) (va_up w N (hzero a1 n.toNatClampNeg)) (pc + 2) ls (.ref N :: r)
    | .anewarray _ => hpI st fun n r => ¬ n < 0 ∧ 1 ≤ c ∧ n.toNatClampNeg ≤ s ∧ n.toNatClampNeg ≤ 1000000 ∧ K (N + 1) (c - 1) (s - n.toNatClampNeg) (va_up w N (.inl (4, n.toNatClampNeg, .inr (.inr (.inr (.inr fun _ => none)))))) (pc + 3) ls (.ref N :: r)
    | .multianewarray _ _ => hpI st fun k r => hpI r fun n r => ¬ n < 0 ∧ ¬ k < 0 ∧ 1 + n.toNatClampNeg ≤ c ∧ n.toNatClampNeg + n.toNatClampNeg * k.toNatClampNeg ≤ s ∧ n.toNatClampNeg ≤ 1000000 ∧ k.toNatClampNeg ≤ 1000000 ∧ K (N + (1 + n.toNatClampNeg)) (c - (1 + n.toNatClampNeg)) (s - (n.toNatClampNeg + n.toNatClampNeg * k.toNatClampNeg)) (hmul a1 n.toNatClampNeg k.toNatClampNeg N w) (pc + 4) ls (.ref N :: r)
    | .invokestatic _ => match a1 with
      | 1 => hpI st fun n r => hpI r fun dp r => hpA r fun b r => hpI r fun sp r => hpA r fun a r => hck 8 r (hacp (w a) (w b) sp dp n fun e => K N c s (va_up w b e) (pc + 3) ls r)
      | 3 => hpI st fun y r => hpI r fun x r => hck 8 r (K N c s w (pc + 3) ls (.int (if y < x then y else x) :: r))
      | 4 => hpI st fun y r => hpI r fun x r => hck 8 r (K N c s w (pc + 3) ls (.int (if x < y then y else x) :: r))
      | 5 => hpL st fun x r => hck 8 r (K N c s w (pc + 3) ls (.long (if 0 < x then x else -x) :: r))
      | _ => hpN a2 [] st fun av r => hck 8 r (Γ y av N c s w fun v N c s w => K N c s w (pc + 3) ls (hres v r))
    | .invokevirtual _ => match a1 with
      | 101 => hpA st fun a r => hck 8 r (hBa (w a) fun n f => (∀ i, i < n → fits .byte (.int (f i)) = true) ∧ 1 ≤ c ∧ n ≤ s ∧ K (N + 1) (c - 1) (s - n) (va_up w N (.inl (2, n, .inl f))) (pc + 3) ls (.ref N :: r))
      | _ => hpN a2 [] st fun av r => hpA r fun a r => hck 8 r (hcl a1 (w a) (Γ y (.ref a :: av) N c s w fun v N c s w => K N c s w (pc + 3) ls (hres v r)))
    | .invokespecial _ => match a1 with
      | 100 => hpA st fun _ r => hck 8 r (K N c s w (pc + 3) ls r)
      | _ => hpN a2 [] st fun av r => hpA r fun a r => hck 8 r (hcl a1 (w a) (Γ y (.ref a :: av) N c s w fun v N c s w => K N c s w (pc + 3) ls (hres v r)))
    | .ireturn => hrtI st fun x => hnar ret x (Rt (some (.int x)) N c s w)
    | .lreturn => hrtL st fun x => Rt (some (.long x)) N c s w
    | .areturn => hrtR st fun x => Rt (some x) N c s w
    | .return_ => hrtV st (Rt none N c s w)
    | _ => False
def hrun (Γ : hGm) (ret : Option FieldType) : List hEn → Nat → Nat → Nat → hWd → hLs → List Value → hPt → hRt → Prop
  | [], _, _, _, _, _, _, _, _ => False
  | [e], N, c, s, w, ls, st, K, Rt => hx Γ ret e N c s w ls st K Rt
  | e :: e2 :: B, N, c, s, w, ls, st, K, Rt => hx Γ ret e N c s w ls st (fun N c s w pc ls st => pc = e2.1 ∧ hrun Γ ret (e2 :: B) N c s w ls st K Rt) Rt
def hpc : List hEn → Nat
  | [] => 0
  | e :: _ => e.1
