/-! basis polynomials: a word is the last one in its own, and once -/
section M41
def ffac : Nat → List Nat → List (List Nat)
  | 0, _ => []
  | _ + 1, [] => []
  | n + 1, x :: t => (x :: t).take (lpg (x :: t) t.length 1 1) :: ffac n ((x :: t).drop (lpg (x :: t) t.length 1 1))
def fefl : List Nat → List (List Nat) → List eT
  | _, [] => []
  | pv, l :: ls => (lsame pv l, false, l) :: fefl l ls
def fdk (a : Nat) : Bool → List eT → List (List eT)
  | _, [] => []
  | _, (rp, b, []) :: E => (fdk a b E).map (fun Q => (rp, b, []) :: Q)
  | pv, (rp, b, h :: t) :: E => cond (cond (Nat.beq h a) (cond rp pv true) false) (((rp, true, t) :: E) :: (fdk a b E).map (fun Q => (rp, b, h :: t) :: Q)) ((fdk a b E).map (fun Q => (rp, b, h :: t) :: Q))
def fbig (a : Nat) : Bool → List eT → Bool
  | _, [] => false
  | _, (_, b, []) :: E => fbig a b E
  | pv, (rp, b, h :: _) :: E => cond (cond (Nat.blt a h) (cond rp pv true) false) true (fbig a b E)
def fall : List eT → Bool
  | [] => true
  | (_, _, r) :: E => cond r.isEmpty (fall E) false
def fcE : List Nat → List eT → Nat
  | [], E => cond (fall E) 1 0
  | a :: y, E => cond (fbig a false E) 2 (lsm (fdk a false E) (fcE y))
def coC (u : List Nat) : Bool := Nat.beq (fcE u (fefl [] (ffac 8 u))) 1
set_option maxRecDepth 100000 in
set_option maxHeartbeats 40000000 in
theorem coC_6 : allW coC 6 [] = true := by decide +kernel
end M41
