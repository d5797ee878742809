/-! the next Lyndon word among the words of at most 8 letters -/
section M37d
variable {g : hG} {d N c s : Nat} {w : hWd} {Q : hRt}
set_option maxRecDepth 100000 in
set_option maxHeartbeats 40000000 in
theorem afC_801 : allW (afC 8) 6 [0, 1] = true := by decide +kernel

set_option maxRecDepth 100000 in
set_option maxHeartbeats 40000000 in
theorem afC_811 : allW (afC 8) 6 [1, 1] = true := by decide +kernel

set_option maxRecDepth 100000 in
set_option maxHeartbeats 40000000 in
theorem afC_821 : allW (afC 8) 6 [2, 1] = true := by decide +kernel

end M37d
