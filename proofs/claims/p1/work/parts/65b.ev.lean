set_option maxRecDepth 100000 in
theorem ev_2cp : ai_yes (ai_law (6, 6) [ai_fl, (1, 1), (ai_lo, -1), ai_fl, ai_fl, ai_fl, ai_fl, ai_fl, (2, 2)]) = true := by decide +kernel
set_option maxRecDepth 100000 in
theorem ev_2cq : ai_yes (ai_law (6, 6) [ai_fl, (1, 1), (0, 0), ai_fl, ai_fl, ai_fl, ai_fl, ai_fl, (2, 2)]) = true := by decide +kernel
set_option maxRecDepth 100000 in
theorem ev_2cr : ai_yes (ai_law (6, 6) [ai_fl, (1, 1), (1, 1), ai_fl, ai_fl, ai_fl, ai_fl, ai_fl, (2, 2)]) = true := by decide +kernel
set_option maxRecDepth 100000 in
theorem ev_2cs : ai_yes (ai_law (6, 6) [ai_fl, (1, 1), (2, 2), ai_fl, ai_fl, ai_fl, ai_fl, ai_fl, (2, 2)]) = true := by decide +kernel
set_option maxRecDepth 100000 in
theorem ev_2ct : ai_yes (ai_law (6, 6) [ai_fl, (1, 1), (3, ai_hi), ai_fl, ai_fl, ai_fl, ai_fl, ai_fl, (2, 2)]) = true := by decide +kernel
set_option maxRecDepth 100000 in
theorem ev_2d : ai_yes (ai_law (6, 6) [ai_fl, (2, ai_hi), ai_fl, ai_fl, ai_fl, ai_fl, ai_fl, ai_fl, (2, 2)]) = true := by decide +kernel
