/-! basis polynomials of the words that end so -/
section M41x2
set_option maxRecDepth 100000 in
set_option maxHeartbeats 40000000 in
theorem coC_02 : allW coC 6 [0, 2] = true := by decide +kernel
end M41x2
