set_option maxRecDepth 100000 in
theorem ev_14 : ai_yes (ai_law (6, 6) [ai_fl, ai_fl, ai_fl, ai_fl, ai_fl, ai_fl, ai_fl, ai_fl, (14, 14)]) = true := by decide +kernel
set_option maxRecDepth 100000 in
theorem ev_15 : ai_yes (ai_law (6, 6) [ai_fl, ai_fl, ai_fl, ai_fl, ai_fl, ai_fl, ai_fl, ai_fl, (15, 15)]) = true := by decide +kernel
