theorem ai_ckq11 : ai_ms11.all ai_ckM = true := by decide +kernel
theorem ai_ckq12 : ai_ms12.all ai_ckM = true := by decide +kernel
theorem ai_ckq13 : ai_ms13.all ai_ckM = true := by decide +kernel
theorem ai_ckq14 : ai_ms14.all ai_ckM = true := by decide +kernel
theorem ai_ckq15 : ai_ms15.all ai_ckM = true := by decide +kernel
theorem ai_ckq16 : ai_ms16.all ai_ckM = true := by decide +kernel
theorem ai_ckq17 : ai_ms17.all ai_ckM = true := by decide +kernel
theorem ai_ckq18 : ai_ms18.all ai_ckM = true := by decide +kernel
theorem ai_ckq19 : ai_ms19.all ai_ckM = true := by decide +kernel
theorem ai_ckq20 : ai_ms20.all ai_ckM = true := by decide +kernel
theorem ai_ckq21 : ai_ms21.all ai_ckM = true := by decide +kernel
theorem ai_ckq22 : ai_ms22.all ai_ckM = true := by decide +kernel
theorem ai_ck_all : ∀ M ∈ ai_meths, ai_ckM M = true := by
  show ∀ M ∈ (ai_m0 :: ai_ms0.tail) ++ (ai_ms1 ++ (ai_ms2 ++ (ai_ms3 ++ (ai_ms4 ++ (ai_ms5 ++ (ai_ms6 ++ (ai_ms7 ++ (ai_ms8 ++ (ai_ms9 ++ (ai_ms10 ++ (ai_ms11 ++ (ai_ms12 ++ (ai_ms13 ++ (ai_ms14 ++ (ai_ms15 ++ (ai_ms16 ++ (ai_ms17 ++ (ai_ms18 ++ (ai_ms19 ++ (ai_ms20 ++ (ai_ms21 ++ (ai_ms22)))))))))))))))))))))), ai_ckM M = true
  exact List.forall_mem_append.mpr ⟨List.forall_mem_cons.mpr ⟨ai_ckm0, fun M h => List.all_eq_true.mp ai_ckq0 M h⟩, List.forall_mem_append.mpr ⟨(fun M h => List.all_eq_true.mp ai_ckq1 M h), List.forall_mem_append.mpr ⟨(fun M h => List.all_eq_true.mp ai_ckq2 M h), List.forall_mem_append.mpr ⟨(fun M h => List.all_eq_true.mp ai_ckq3 M h), List.forall_mem_append.mpr ⟨(fun M h => List.all_eq_true.mp ai_ckq4 M h), List.forall_mem_append.mpr ⟨(fun M h => List.all_eq_true.mp ai_ckq5 M h), List.forall_mem_append.mpr ⟨(fun M h => List.all_eq_true.mp ai_ckq6 M h), List.forall_mem_append.mpr ⟨(fun M h => List.all_eq_true.mp ai_ckq7 M h), List.forall_mem_append.mpr ⟨(fun M h => List.all_eq_true.mp ai_ckq8 M h), List.forall_mem_append.mpr ⟨(fun M h => List.all_eq_true.mp ai_ckq9 M h), List.forall_mem_append.mpr ⟨(fun M h => List.all_eq_true.mp ai_ckq10 M h), List.forall_mem_append.mpr ⟨(fun M h => List.all_eq_true.mp ai_ckq11 M h), List.forall_mem_append.mpr ⟨(fun M h => List.all_eq_true.mp ai_ckq12 M h), List.forall_mem_append.mpr ⟨(fun M h => List.all_eq_true.mp ai_ckq13 M h), List.forall_mem_append.mpr ⟨(fun M h => List.all_eq_true.mp ai_ckq14 M h), List.forall_mem_append.mpr ⟨(fun M h => List.all_eq_true.mp ai_ckq15 M h), List.forall_mem_append.mpr ⟨(fun M h => List.all_eq_true.mp ai_ckq16 M h), List.forall_mem_append.mpr ⟨(fun M h => List.all_eq_true.mp ai_ckq17 M h), List.forall_mem_append.mpr ⟨(fun M h => List.all_eq_true.mp ai_ckq18 M h), List.forall_mem_append.mpr ⟨(fun M h => List.all_eq_true.mp ai_ckq19 M h), List.forall_mem_append.mpr ⟨(fun M h => List.all_eq_true.mp ai_ckq20 M h), List.forall_mem_append.mpr ⟨(fun M h => List.all_eq_true.mp ai_ckq21 M h), (fun M h => List.all_eq_true.mp ai_ckq22 M h)⟩⟩⟩⟩⟩⟩⟩⟩⟩⟩⟩⟩⟩⟩⟩⟩⟩⟩⟩⟩⟩⟩
