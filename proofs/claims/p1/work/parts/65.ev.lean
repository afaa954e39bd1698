set_option maxRecDepth 100000 in
theorem ev_2a : ai_yes (ai_law (6, 6) [ai_fl, (ai_lo, -1), ai_fl, ai_fl, ai_fl, ai_fl, ai_fl, ai_fl, (2, 2)]) = true := by decide +kernel
set_option maxRecDepth 100000 in
theorem ev_2bp : ai_yes (ai_law (6, 6) [ai_fl, (0, 0), (ai_lo, -1), ai_fl, ai_fl, ai_fl, ai_fl, ai_fl, (2, 2)]) = true := by decide +kernel
set_option maxRecDepth 100000 in
theorem ev_2bq : ai_yes (ai_law (6, 6) [ai_fl, (0, 0), (0, 0), ai_fl, ai_fl, ai_fl, ai_fl, ai_fl, (2, 2)]) = true := by decide +kernel
set_option maxRecDepth 100000 in
theorem ev_2br : ai_yes (ai_law (6, 6) [ai_fl, (0, 0), (1, 1), ai_fl, ai_fl, ai_fl, ai_fl, ai_fl, (2, 2)]) = true := by decide +kernel
set_option maxRecDepth 100000 in
theorem ev_2bs : ai_yes (ai_law (6, 6) [ai_fl, (0, 0), (2, 2), ai_fl, ai_fl, ai_fl, ai_fl, ai_fl, (2, 2)]) = true := by decide +kernel
set_option maxRecDepth 100000 in
theorem ev_2bt : ai_yes (ai_law (6, 6) [ai_fl, (0, 0), (3, ai_hi), ai_fl, ai_fl, ai_fl, ai_fl, ai_fl, (2, 2)]) = true := by decide +kernel
