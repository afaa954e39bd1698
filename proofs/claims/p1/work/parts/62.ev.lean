set_option maxRecDepth 100000 in
theorem ev_7 : ai_yes (ai_law (6, 6) [ai_fl, ai_fl, ai_fl, ai_fl, ai_fl, ai_fl, ai_fl, ai_fl, (7, 7)]) = true := by decide +kernel
set_option maxRecDepth 100000 in
theorem ev_8 : ai_yes (ai_law (6, 6) [ai_fl, ai_fl, ai_fl, ai_fl, ai_fl, ai_fl, ai_fl, ai_fl, (8, 8)]) = true := by decide +kernel
