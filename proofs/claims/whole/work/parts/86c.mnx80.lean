/-! the next Lyndon word among the words of at most 8 letters -/
section M37c
variable {g : hG} {d N c s : Nat} {w : hWd} {Q : hRt}
set_option maxRecDepth 100000 in
set_option maxHeartbeats 40000000 in
theorem afC_800 : allW (afC 8) 6 [0, 0] = true := by decide +kernel

set_option maxRecDepth 100000 in
set_option maxHeartbeats 40000000 in
theorem afC_810 : allW (afC 8) 6 [1, 0] = true := by decide +kernel

set_option maxRecDepth 100000 in
set_option maxHeartbeats 40000000 in
theorem afC_820 : allW (afC 8) 6 [2, 0] = true := by decide +kernel

end M37c
