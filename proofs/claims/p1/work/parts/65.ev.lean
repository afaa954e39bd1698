set_option maxRecDepth 100000 in
theorem ev_2a : ai_yes (ai_law (6, 6) [ai_fl, (ai_lo, -1), ai_fl, ai_fl, ai_fl, ai_fl, ai_fl, ai_fl, (2, 2)]) = true := by decide +kernel
set_option maxRecDepth 100000 in
theorem ev_2b : ai_yes (ai_law (6, 6) [ai_fl, (0, 0), ai_fl, ai_fl, ai_fl, ai_fl, ai_fl, ai_fl, (2, 2)]) = true := by decide +kernel
set_option maxRecDepth 100000 in
theorem ev_2c : ai_yes (ai_law (6, 6) [ai_fl, (1, 1), ai_fl, ai_fl, ai_fl, ai_fl, ai_fl, ai_fl, (2, 2)]) = true := by decide +kernel
set_option maxRecDepth 100000 in
theorem ev_2d : ai_yes (ai_law (6, 6) [ai_fl, (2, ai_hi), ai_fl, ai_fl, ai_fl, ai_fl, ai_fl, ai_fl, (2, 2)]) = true := by decide +kernel
