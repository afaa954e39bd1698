theorem ai_all_app {α : Type} {f : α → Bool} {a b : List α} (h1 : a.all f = true) (h2 : b.all f = true) : (a ++ b).all f = true := by rw [List.all_append, h1, h2]; rfl
theorem ai_ck0_0 : ai_c0_0.all (fun (q : Nat × ai_I) => ai_ck ai_m0 q.1 q.2 && !(Nat.beq q.1 65535)) = true := by decide +kernel
theorem ai_ck0_1 : ai_c0_1.all (fun (q : Nat × ai_I) => ai_ck ai_m0 q.1 q.2 && !(Nat.beq q.1 65535)) = true := by decide +kernel
theorem ai_ck0_2 : ai_c0_2.all (fun (q : Nat × ai_I) => ai_ck ai_m0 q.1 q.2 && !(Nat.beq q.1 65535)) = true := by decide +kernel
theorem ai_ck0_3 : ai_c0_3.all (fun (q : Nat × ai_I) => ai_ck ai_m0 q.1 q.2 && !(Nat.beq q.1 65535)) = true := by decide +kernel
theorem ai_ck0_4 : ai_c0_4.all (fun (q : Nat × ai_I) => ai_ck ai_m0 q.1 q.2 && !(Nat.beq q.1 65535)) = true := by decide +kernel
theorem ai_ck0_5 : ai_c0_5.all (fun (q : Nat × ai_I) => ai_ck ai_m0 q.1 q.2 && !(Nat.beq q.1 65535)) = true := by decide +kernel
theorem ai_ck0_6 : ai_c0_6.all (fun (q : Nat × ai_I) => ai_ck ai_m0 q.1 q.2 && !(Nat.beq q.1 65535)) = true := by decide +kernel
theorem ai_ck0_7 : ai_c0_7.all (fun (q : Nat × ai_I) => ai_ck ai_m0 q.1 q.2 && !(Nat.beq q.1 65535)) = true := by decide +kernel
theorem ai_ck0_8 : ai_c0_8.all (fun (q : Nat × ai_I) => ai_ck ai_m0 q.1 q.2 && !(Nat.beq q.1 65535)) = true := by decide +kernel
theorem ai_ck0_9 : ai_c0_9.all (fun (q : Nat × ai_I) => ai_ck ai_m0 q.1 q.2 && !(Nat.beq q.1 65535)) = true := by decide +kernel
theorem ai_ck0_10 : ai_c0_10.all (fun (q : Nat × ai_I) => ai_ck ai_m0 q.1 q.2 && !(Nat.beq q.1 65535)) = true := by decide +kernel
theorem ai_ck0_11 : ai_c0_11.all (fun (q : Nat × ai_I) => ai_ck ai_m0 q.1 q.2 && !(Nat.beq q.1 65535)) = true := by decide +kernel
theorem ai_ck0_12 : ai_c0_12.all (fun (q : Nat × ai_I) => ai_ck ai_m0 q.1 q.2 && !(Nat.beq q.1 65535)) = true := by decide +kernel
theorem ai_ck0_13 : ai_c0_13.all (fun (q : Nat × ai_I) => ai_ck ai_m0 q.1 q.2 && !(Nat.beq q.1 65535)) = true := by decide +kernel
theorem ai_ck0_14 : ai_c0_14.all (fun (q : Nat × ai_I) => ai_ck ai_m0 q.1 q.2 && !(Nat.beq q.1 65535)) = true := by decide +kernel
theorem ai_ck0_15 : ai_c0_15.all (fun (q : Nat × ai_I) => ai_ck ai_m0 q.1 q.2 && !(Nat.beq q.1 65535)) = true := by decide +kernel
theorem ai_ck0_16 : ai_c0_16.all (fun (q : Nat × ai_I) => ai_ck ai_m0 q.1 q.2 && !(Nat.beq q.1 65535)) = true := by decide +kernel
theorem ai_ck0_17 : ai_c0_17.all (fun (q : Nat × ai_I) => ai_ck ai_m0 q.1 q.2 && !(Nat.beq q.1 65535)) = true := by decide +kernel
theorem ai_ck0_18 : ai_c0_18.all (fun (q : Nat × ai_I) => ai_ck ai_m0 q.1 q.2 && !(Nat.beq q.1 65535)) = true := by decide +kernel
theorem ai_ckm0 : ai_ckM ai_m0 = true := (ai_all_app (ai_all_app (ai_all_app (ai_all_app (ai_all_app (ai_all_app (ai_all_app (ai_all_app (ai_all_app (ai_all_app (ai_all_app (ai_all_app (ai_all_app (ai_all_app (ai_all_app (ai_all_app (ai_all_app (ai_all_app ai_ck0_0 ai_ck0_1) ai_ck0_2) ai_ck0_3) ai_ck0_4) ai_ck0_5) ai_ck0_6) ai_ck0_7) ai_ck0_8) ai_ck0_9) ai_ck0_10) ai_ck0_11) ai_ck0_12) ai_ck0_13) ai_ck0_14) ai_ck0_15) ai_ck0_16) ai_ck0_17) ai_ck0_18)
theorem ai_ckq0 : ai_ms0.tail.all ai_ckM = true := by decide +kernel
theorem ai_ckq1 : ai_ms1.all ai_ckM = true := by decide +kernel
theorem ai_ckq2 : ai_ms2.all ai_ckM = true := by decide +kernel
theorem ai_ckq3 : ai_ms3.all ai_ckM = true := by decide +kernel
theorem ai_ckq4 : ai_ms4.all ai_ckM = true := by decide +kernel
theorem ai_ckq5 : ai_ms5.all ai_ckM = true := by decide +kernel
theorem ai_ckq6 : ai_ms6.all ai_ckM = true := by decide +kernel
theorem ai_ckq7 : ai_ms7.all ai_ckM = true := by decide +kernel
theorem ai_ckq8 : ai_ms8.all ai_ckM = true := by decide +kernel
theorem ai_ckq9 : ai_ms9.all ai_ckM = true := by decide +kernel
theorem ai_ckq10 : ai_ms10.all ai_ckM = true := by decide +kernel
