/-! ===== a method's body in its world; calls ===== -/
def ai_rm (d mc ms : Nat) : Room := { frames := d + 8, cells := mc, slots := ms, locals := 60 * d + 300 }
def ai_Pc (b0 L base : Nat) (rho : Nat → Int32) (tc dC : Nat → ClassId) (dI : Nat → Nat → Nat) (sa : Nat → Nat) (ws : va_W) (as : List Value) : Array Value → State → Prop := fun v U => v = as.toArray ∧ va_P (dC, dI) vwCl ws U.heap ∧ ai_SF b0 L base rho tc dC dI sa U
/-- what the interpreter says of a call is what the machine does -/
def ai_CS (l : Launch) (b0 L base : Nat) (rho : Nat → Int32) (tc dC : Nat → ClassId) (dI : Nat → Nat → Nat) (sa : Nat → Nat) (call : ai_K) (d : Nat) : Prop :=
  ∀ (j : Nat) (a : List ai_V) (g : ai_G) (os : List ai_O) (x1 x2 : Nat), call j a g = some (os, x1, x2) → ∀ M, ai_meths[j]? = some M → j ≠ 0 → ∀ (ws : va_W) (as : List Value), ai_WR b0 rho tc ws g.1 (ai_nx g) → va_D (ai_A base) ws → ai_EV rho (ai_x g) → ai_SR b0 rho ws a as →
    vx_Met l M.1 [ai_code M] (ai_rm d (x1 - ai_kc g) (x2 - ai_ks g)) (ai_Pc b0 L base rho tc dC dI sa ws as) (ai_Qc b0 rho tc dC dI base ws os) (ai_XC b0 rho tc dC dI base ws os) (x1 - ai_kc g) (x2 - ai_ks g) (ai_A base)
def ai_Cx (p : Program) (l : Launch) (e : Env) (R : Room) (s : State) (m : MethodId) (args : Array Value) (below : List Frame) (meth : Method) (c : Code) (nL b0 : Nat) (rho : Nat → Int32) (tc dC : Nat → ClassId) (dI : Nat → Nat → Nat) (base : Nat) (ws0 : va_W) (kE sE mk0 ms0 : Nat) (os0 : List ai_O) (Q : State → Prop)
    (M : ai_M) (L : Nat) (sa : Nat → Nat) (sl : Int × Int) (d : Nat) : Prop :=
  (p.tables.exec = Jvm.exec ∧ c.code = M.2.1 ∧ c.maxLocals = nL ∧ M.2.2.1 = nL ∧ s.vm.findClass (ai_cn M.2.2.2.2.1) = some m.cls ∧ meth.locks = false ∧ meth.sig.returnType = M.2.2.2.1 ∧ meth.name = M.1.name ∧ c.exceptionTable.toList = tableOf M.2.2.2.2.2.1) ∧
  l.stackTraces = false ∧ ai_SF b0 L base rho tc dC dI sa s ∧ ai_D rho ∧ (L < 2 ^ 31 ∧ sl.1 ≤ (L : Int) ∧ (L : Int) ≤ sl.2) ∧ (mk0 ≤ kE + R.cells ∧ ms0 ≤ sE + R.slots) ∧
  Q = vx_MQ below (ai_Qc b0 rho tc dC dI base ws0 os0) (ai_XC b0 rho tc dC dI base ws0 os0) args s (mk0 - kE) (ms0 - sE) (ai_A base) ∧ (d + 9 ≤ R.frames ∧ 60 * d + 360 ≤ R.locals)
theorem ai_cat4 : ∀ {vs : List Value}, vs.length ≤ 4 → (vs.map fun v => v.category).sum ≤ 8 := by
  have key : ∀ vs : List Value, (vs.map fun v => v.category).sum ≤ 2 * vs.length := by
    intro vs
    induction vs with
    | nil => exact Nat.le_refl _
    | cons v t ih =>
      have hv : v.category ≤ 2 := by cases v <;> simp [Value.category]
      simp only [List.map_cons, List.sum_cons, List.length_cons]
      omega
  intro vs h
  have := key vs
  omega
theorem ai_bWds_at : ∀ (ms : List ai_M) (qs : List (Nat × Nat × Nat × Nat × Nat × Nat)), ai_bWds ms qs = true → ∀ (j : Nat) (M : ai_M) (q : Nat × Nat × Nat × Nat × Nat × Nat), ms[j]? = some M → qs[j]? = some q → ai_bWd M q = true
  | [], _, _, j, M, q, hM, _ => by simp at hM
  | M0 :: ms, [], h, _, _, _, _, hq => by simp at hq
  | M0 :: ms, q0 :: qs, h, j, M, q, hM, hq => by
    have h : (ai_bWd M0 q0 && ai_bWds ms qs) = true := h
    rw [Bool.and_eq_true] at h
    cases j with
    | zero =>
      simp only [List.getElem?_cons_zero, Option.some.injEq] at hM hq
      rw [← hM, ← hq]; exact h.1
    | succ j =>
      rw [List.getElem?_cons_succ] at hM hq
      exact ai_bWds_at ms qs h.2 j M q hM hq
theorem ai_tail {α : Type} {l : List α} {j : Nat} {x : α} (h : l[j]? = some x) (hj : j ≠ 0) : l.tail[j - 1]? = some x := by
  cases l with
  | nil => simp at h
  | cons a t =>
    cases j with
    | zero => exact absurd rfl hj
    | succ j => rw [List.getElem?_cons_succ] at h; exact h
theorem ai_mw_ok {j : Nat} {M : ai_M} {q : Nat × Nat × Nat × Nat × Nat × Nat} (hj : j ≠ 0) (hM : ai_meths[j]? = some M) (hq : ai_mw[j]? = some q) : ai_bWd M q = true := ai_bWds_at _ _ ai_bWds_ok (j - 1) M q (ai_tail hM hj) (ai_tail hq hj)
theorem ai_mc_ok {j : Nat} {M : ai_M} (hj : j ≠ 0) (hM : ai_meths[j]? = some M) : ai_code M ∈ lw_tbl := ai_mcs M (List.mem_of_getElem? (ai_tail hM hj))
theorem ai_code_good (M : ai_M) : (ai_code M).onTables = true ∧ ((ai_code M).onTables && (ai_code M).keeps) = true := by
  unfold ai_code
  split <;> exact ⟨rfl, rfl⟩
theorem ai_code_nil {M : ai_M} (h : M.2.2.2.2.2.1 = []) : ai_code M = .code M.1 M.2.1 M.2.2.1 M.2.2.2.1 := by
  unfold ai_code
  rw [h]
theorem ai_code_cons {M : ai_M} (h : M.2.2.2.2.2.1 ≠ []) : ai_code M = .codeWith M.1 M.2.1 M.2.2.1 M.2.2.2.1 M.2.2.2.2.2.1 := by
  unfold ai_code
  cases h2 : M.2.2.2.2.2.1 with
  | nil => exact absurd h2 h
  | cons a t => rfl
theorem ai_Pc.blind {b0 L base : Nat} {rho : Nat → Int32} {tc dC : Nat → ClassId} {dI : Nat → Nat → Nat} {sa : Nat → Nat} {ws : va_W} {as : List Value} : FrameBlind (ai_Pc b0 L base rho tc dC dI sa ws as) := fun a U g mk h => ⟨h.1, h.2.1, h.2.2.calling g mk a⟩
/-- what the tables say of the method j -/
theorem ai_mfacts {s : State} {args : Array Value} (hA : ai_AW s) {j : Nat} {M : ai_M} {p1 p2 p3 p4 ar kd : Nat} (hj : j ≠ 0) (hM : ai_meths[j]? = some M) (hq : ai_mw[j]? = some (p1, p2, p3, p4, ar, kd)) :
    (∀ w ∈ [ai_code M], ∀ (a' : Array Value) (U : State), s.WarmedH U.vm → w.before a' U = true) ∧ (ai_code M).before args s = true ∧ (Cond.initialized M.1.cls).before args s = true ∧ (M.1.cls ≠ "java/lang/invoke/MethodHandle" ∧ M.1.cls ≠ "java/lang/invoke/VarHandle") ∧
    (∀ sig, parseMethodDescriptor M.1.desc = some sig → ar = sig.parameters.length) ∧ M.2.2.1 ≤ 10 ∧ plainName M.1.cls = true ∧ M.1.cls = ai_cn M.2.2.2.2.1 ∧
    (kd = 0 → (Cond.instanceMethod M.1).before args s = true ∧ (Cond.selects M.1.cls M.1 M.1).before args s = true ∧ M.2.2.2.2.2.1 = []) ∧ (kd = 1 → (Cond.static M.1).before args s = true ∧ M.2.2.2.2.2.1 = []) ∧ (kd = 2 → (Cond.static M.1).before args s = true ∧ M.2.2.2.2.2.1 ≠ []) ∧
    (kd = 3 → (Cond.instanceMethod M.1).before args s = true ∧ M.2.2.2.2.2.1 = [] ∧ M.1.name = "<init>" ∧ M.2.2.2.1 = none) := by
  have hb := ai_mw_ok hj hM hq
  have hc := ai_mc_ok hj hM
  have hcw := hA.use hc (ai_code_good M).1 args
  unfold ai_bWd at hb
  simp only [Bool.and_eq_true] at hb
  obtain ⟨⟨⟨⟨⟨⟨h1, h2⟩, h3⟩, h4⟩, h5⟩, h6⟩, h7⟩ := hb
  refine ⟨fun w hw a' U hW => ?_, hcw, hA.use (ai_tw_in h1) rfl args, of_decide_eq_true h4, fun sig hs => ?_, Nat.le_of_ble_eq_true h6, h2, of_decide_eq_true h3, fun hk => ?_, fun hk => ?_, fun hk => ?_, fun hk => ?_⟩
  · rw [List.mem_singleton.mp hw]
    exact word_at hW (Or.inl (ai_code_good M).2) hcw
  · have h5 := of_decide_eq_true h5
    rw [hs] at h5
    exact (Option.some.inj h5).symm
  · subst hk
    simp only [Bool.and_eq_true, Bool.or_eq_true] at h7
    obtain ⟨⟨q1, q2⟩, q3⟩ := h7
    refine ⟨hA.use (ai_tw_in q1) rfl args, hA.use ?_ rfl args, of_decide_eq_true q3⟩
    rcases q2 with q2 | q2
    · exact ai_tw_in q2
    · exact List.mem_append_left _ (List.mem_of_getElem? (of_decide_eq_true q2))
  · subst hk
    simp only [Bool.and_eq_true] at h7
    exact ⟨hA.use (ai_tw_in h7.1) rfl args, of_decide_eq_true h7.2⟩
  · subst hk
    simp only [Bool.and_eq_true] at h7
    exact ⟨hA.use (ai_tw_in h7.1) rfl args, of_decide_eq_true h7.2⟩
  · subst hk
    simp only [Bool.and_eq_true] at h7
    obtain ⟨⟨⟨q1, q2⟩, q3⟩, q4⟩ := h7
    exact ⟨hA.use (ai_tw_in q1) rfl args, of_decide_eq_true q2, of_decide_eq_true q3, of_decide_eq_true q4⟩
