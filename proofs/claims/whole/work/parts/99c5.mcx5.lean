/-! basis polynomials of the words that end so -/
section M41x5
set_option maxRecDepth 100000 in
set_option maxHeartbeats 40000000 in
theorem coC_12 : allW coC 6 [1, 2] = true := by decide +kernel
end M41x5
