set_option maxRecDepth 100000 in
theorem ai_t1 : ai_yes (ai_law (6, 6) (6, 6)) = true := by decide +kernel
