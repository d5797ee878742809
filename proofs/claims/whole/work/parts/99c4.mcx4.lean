/-! basis polynomials of the words that end so -/
section M41x4
set_option maxRecDepth 100000 in
set_option maxHeartbeats 40000000 in
theorem coC_11 : allW coC 6 [1, 1] = true := by decide +kernel
end M41x4
