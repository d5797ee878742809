/-! the next Lyndon word among the words of at most 8 letters -/
section M37e
variable {g : hG} {d N c s : Nat} {w : hWd} {Q : hRt}
set_option maxRecDepth 100000 in
set_option maxHeartbeats 40000000 in
theorem afC_802 : allW (afC 8) 6 [0, 2] = true := by decide +kernel

set_option maxRecDepth 100000 in
set_option maxHeartbeats 40000000 in
theorem afC_812 : allW (afC 8) 6 [1, 2] = true := by decide +kernel

set_option maxRecDepth 100000 in
set_option maxHeartbeats 40000000 in
theorem afC_822 : allW (afC 8) 6 [2, 2] = true := by decide +kernel

end M37e
