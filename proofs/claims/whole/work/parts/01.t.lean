theorem zz_t : nI 1 + 1 = nI 2 := by decide +kernel
