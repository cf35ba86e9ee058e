theorem fz_probe : nI 1 + nI 1 = nI 2 := by decide +kernel
