set_option maxRecDepth 100000 in
theorem ev_5a : ai_yes (ai_law (6, 6) [ai_fl, (ai_lo, -1), ai_fl, ai_fl, ai_fl, ai_fl, ai_fl, ai_fl, (5, 5)]) = true := by decide +kernel
set_option maxRecDepth 100000 in
theorem ev_5b : ai_yes (ai_law (6, 6) [ai_fl, (0, 0), ai_fl, ai_fl, ai_fl, ai_fl, ai_fl, ai_fl, (5, 5)]) = true := by decide +kernel
set_option maxRecDepth 100000 in
theorem ev_5c : ai_yes (ai_law (6, 6) [ai_fl, (1, 1), ai_fl, ai_fl, ai_fl, ai_fl, ai_fl, ai_fl, (5, 5)]) = true := by decide +kernel
set_option maxRecDepth 100000 in
theorem ev_5d : ai_yes (ai_law (6, 6) [ai_fl, (2, ai_hi), ai_fl, ai_fl, ai_fl, ai_fl, ai_fl, ai_fl, (5, 5)]) = true := by decide +kernel
