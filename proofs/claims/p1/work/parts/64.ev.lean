set_option maxRecDepth 100000 in
theorem ev_16 : ai_yes (ai_law (6, 6) [ai_fl, ai_fl, ai_fl, ai_fl, ai_fl, ai_fl, ai_fl, ai_fl, (16, 16)]) = true := by decide +kernel
set_option maxRecDepth 100000 in
theorem ev_17 : ai_yes (ai_law (6, 6) [ai_fl, ai_fl, ai_fl, ai_fl, ai_fl, ai_fl, ai_fl, ai_fl, (17, 17)]) = true := by decide +kernel
set_option maxRecDepth 100000 in
theorem ev_23 : ai_yes (ai_law (6, 6) [ai_fl, ai_fl, ai_fl, ai_fl, ai_fl, ai_fl, ai_fl, ai_fl, (23, 23)]) = true := by decide +kernel
