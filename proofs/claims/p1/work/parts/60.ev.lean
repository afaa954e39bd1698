set_option maxRecDepth 100000 in
theorem ev_short : ai_yes (ai_law (0, 5) ai_full8) = true := by decide +kernel
set_option maxRecDepth 100000 in
theorem ev_1 : ai_yes (ai_law (6, 6) [ai_fl, ai_fl, ai_fl, ai_fl, ai_fl, ai_fl, ai_fl, ai_fl, (1, 1)]) = true := by decide +kernel
set_option maxRecDepth 100000 in
theorem ev_4 : ai_yes (ai_law (6, 6) [ai_fl, ai_fl, ai_fl, ai_fl, ai_fl, ai_fl, ai_fl, ai_fl, (4, 4)]) = true := by decide +kernel
set_option maxRecDepth 100000 in
theorem ev_9 : ai_yes (ai_law (6, 6) [ai_fl, ai_fl, ai_fl, ai_fl, ai_fl, ai_fl, ai_fl, ai_fl, (9, 9)]) = true := by decide +kernel
set_option maxRecDepth 100000 in
theorem ev_10 : ai_yes (ai_law (6, 6) [ai_fl, ai_fl, ai_fl, ai_fl, ai_fl, ai_fl, ai_fl, ai_fl, (10, 10)]) = true := by decide +kernel
set_option maxRecDepth 100000 in
theorem ev_11 : ai_yes (ai_law (6, 6) [ai_fl, ai_fl, ai_fl, ai_fl, ai_fl, ai_fl, ai_fl, ai_fl, (11, 11)]) = true := by decide +kernel
set_option maxRecDepth 100000 in
theorem ev_12 : ai_yes (ai_law (6, 6) [ai_fl, ai_fl, ai_fl, ai_fl, ai_fl, ai_fl, ai_fl, ai_fl, (12, 12)]) = true := by decide +kernel
set_option maxRecDepth 100000 in
theorem ev_13 : ai_yes (ai_law (6, 6) [ai_fl, ai_fl, ai_fl, ai_fl, ai_fl, ai_fl, ai_fl, ai_fl, (13, 13)]) = true := by decide +kernel
set_option maxRecDepth 100000 in
theorem ev_18 : ai_yes (ai_law (6, 6) [ai_fl, ai_fl, ai_fl, ai_fl, ai_fl, ai_fl, ai_fl, ai_fl, (18, 18)]) = true := by decide +kernel
set_option maxRecDepth 100000 in
theorem ev_19 : ai_yes (ai_law (6, 6) [ai_fl, ai_fl, ai_fl, ai_fl, ai_fl, ai_fl, ai_fl, ai_fl, (19, 19)]) = true := by decide +kernel
set_option maxRecDepth 100000 in
theorem ev_20 : ai_yes (ai_law (6, 6) [ai_fl, ai_fl, ai_fl, ai_fl, ai_fl, ai_fl, ai_fl, ai_fl, (20, 20)]) = true := by decide +kernel
set_option maxRecDepth 100000 in
theorem ev_21 : ai_yes (ai_law (6, 6) [ai_fl, ai_fl, ai_fl, ai_fl, ai_fl, ai_fl, ai_fl, ai_fl, (21, 21)]) = true := by decide +kernel
set_option maxRecDepth 100000 in
theorem ev_22 : ai_yes (ai_law (6, 6) [ai_fl, ai_fl, ai_fl, ai_fl, ai_fl, ai_fl, ai_fl, ai_fl, (22, 22)]) = true := by decide +kernel
set_option maxRecDepth 100000 in
theorem ev_24 : ai_yes (ai_law (6, 6) [ai_fl, ai_fl, ai_fl, ai_fl, ai_fl, ai_fl, ai_fl, ai_fl, (24, 24)]) = true := by decide +kernel
set_option maxRecDepth 100000 in
theorem ev_25 : ai_yes (ai_law (6, 6) [ai_fl, ai_fl, ai_fl, ai_fl, ai_fl, ai_fl, ai_fl, ai_fl, (25, 25)]) = true := by decide +kernel
set_option maxRecDepth 100000 in
theorem ev_26 : ai_yes (ai_law (6, 6) [ai_fl, ai_fl, ai_fl, ai_fl, ai_fl, ai_fl, ai_fl, ai_fl, (26, 26)]) = true := by decide +kernel
set_option maxRecDepth 100000 in
theorem ev_27 : ai_yes (ai_law (6, 6) [ai_fl, ai_fl, ai_fl, ai_fl, ai_fl, ai_fl, ai_fl, ai_fl, (27, 27)]) = true := by decide +kernel
set_option maxRecDepth 100000 in
theorem ev_28 : ai_yes (ai_law (6, 6) [ai_fl, ai_fl, ai_fl, ai_fl, ai_fl, ai_fl, ai_fl, ai_fl, (28, 28)]) = true := by decide +kernel
set_option maxRecDepth 100000 in
theorem ev_29 : ai_yes (ai_law (6, 6) [ai_fl, ai_fl, ai_fl, ai_fl, ai_fl, ai_fl, ai_fl, ai_fl, (29, 29)]) = true := by decide +kernel
set_option maxRecDepth 100000 in
theorem ev_30 : ai_yes (ai_law (6, 6) [ai_fl, ai_fl, ai_fl, ai_fl, ai_fl, ai_fl, ai_fl, ai_fl, (30, 30)]) = true := by decide +kernel
set_option maxRecDepth 100000 in
theorem ev_31 : ai_yes (ai_law (6, 6) [ai_fl, ai_fl, ai_fl, ai_fl, ai_fl, ai_fl, ai_fl, ai_fl, (31, 31)]) = true := by decide +kernel
