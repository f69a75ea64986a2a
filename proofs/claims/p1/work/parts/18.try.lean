theorem mt_push : mm_chk 20000 75 166 [] = true := by decide +kernel
