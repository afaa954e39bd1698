set_option maxRecDepth 100000 in
theorem ev_0 : ai_yes (ai_law (6, 6) [ai_fl, ai_fl, ai_fl, ai_fl, ai_fl, ai_fl, ai_fl, ai_fl, (0, 0)]) = true := by decide +kernel
set_option maxRecDepth 100000 in
theorem ev_3 : ai_yes (ai_law (6, 6) [ai_fl, ai_fl, ai_fl, ai_fl, ai_fl, ai_fl, ai_fl, ai_fl, (3, 3)]) = true := by decide +kernel
set_option maxRecDepth 100000 in
theorem ev_6 : ai_yes (ai_law (6, 6) [ai_fl, ai_fl, ai_fl, ai_fl, ai_fl, ai_fl, ai_fl, ai_fl, (6, 6)]) = true := by decide +kernel
