/-! the next Lyndon word among the words of at most 7 letters -/
section M37b
variable {g : hG} {d N c s : Nat} {w : hWd} {Q : hRt}
set_option maxRecDepth 100000 in
set_option maxHeartbeats 40000000 in
theorem afC_70 : allW (afC 7) 6 [0] = true := by decide +kernel

set_option maxRecDepth 100000 in
set_option maxHeartbeats 40000000 in
theorem afC_71 : allW (afC 7) 6 [1] = true := by decide +kernel

set_option maxRecDepth 100000 in
set_option maxHeartbeats 40000000 in
theorem afC_72 : allW (afC 7) 6 [2] = true := by decide +kernel

end M37b
