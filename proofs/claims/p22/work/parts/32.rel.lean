/-! ===== how the interpreter's values, stacks, locals and cells stand for the machine's ===== -/
def ai_AD (ws ws' : va_W) : Prop := ∀ (i a : Nat) (e : va_E), ws[i]? = some (a, e) → ∃ e', ws'[i]? = some (a, e')
theorem ai_AD.rf {ws : va_W} : ai_AD ws ws := fun _ _ e h => ⟨e, h⟩
theorem ai_AD.tr {w1 w2 w3 : va_W} (h1 : ai_AD w1 w2) (h2 : ai_AD w2 w3) : ai_AD w1 w3 := fun i a e h => by
  obtain ⟨e', h'⟩ := h1 i a e h
  exact h2 i a e' h'
theorem ai_AD.set {ws : va_W} {i a : Nat} {e0 e : va_E} (h : ws[i]? = some (a, e0)) : ai_AD ws (ws.set i (a, e)) := fun j b e1 hj => by
  rw [List.getElem?_set]
  by_cases hij : i = j
  · subst hij
    cases Option.some.inj (h.symm.trans hj)
    have hl : i < ws.length := (List.getElem?_eq_some_iff.mp h).1
    exact ⟨e, by simp [hl]⟩
  · exact ⟨e1, by simp [hij, hj]⟩
theorem ai_AD.app {ws w2 : va_W} : ai_AD ws (ws ++ w2) := fun i a e h => ⟨e, by rw [List.getElem?_append_left (List.getElem?_eq_some_iff.mp h).1]; exact h⟩
def ai_Rv (b0 : Nat) (rho : Nat → Int32) (ws : va_W) (v : ai_V) (w : Value) : Prop :=
  (v.1 ≤ 1 ∧ ∃ z : Int32, w = .int z ∧ ai_num rho v z) ∨ (v.1 = 2 ∧ w = .null) ∨ (v.1 = 3 ∧ ∃ (a : Nat) (e : va_E), ws[v.2.1.toNat]? = some (a, e) ∧ w = .ref a) ∨
  ((v.1 = 4 ∨ v.1 = 5) ∧ ∃ z : Int32, w = .long z.toInt64 ∧ ai_num rho (v.1 - 4, v.2) z) ∨ (v.1 = 6 ∧ w = .ref b0) ∨ (v.1 = 7 ∧ ∃ a : Nat, w = .ref a)
section RV
variable {b0 : Nat} {rho : Nat → Int32} {ws ws' : va_W} {v : ai_V} {w : Value}
theorem ai_Rv.mono (h : ai_Rv b0 rho ws v w) (hA : ai_AD ws ws') : ai_Rv b0 rho ws' v w := by
  rcases h with h | h | ⟨h, a, e, h1, h2⟩ | h | h | h
  · exact Or.inl h
  · exact Or.inr (Or.inl h)
  · obtain ⟨e', h1'⟩ := hA _ _ _ h1
    exact Or.inr (Or.inr (Or.inl ⟨h, a, e', h1', h2⟩))
  · exact Or.inr (Or.inr (Or.inr (Or.inl h)))
  · exact Or.inr (Or.inr (Or.inr (Or.inr (Or.inl h))))
  · exact Or.inr (Or.inr (Or.inr (Or.inr (Or.inr h))))
theorem ai_Rv.int (h : ai_Rv b0 rho ws v w) (hv : v.1 ≤ 1) : ∃ z : Int32, w = .int z ∧ ai_num rho v z := by
  rcases h with h | h | h | h | h | h
  · exact h.2
  all_goals (exfalso; omega)
theorem ai_Rv.nul (h : ai_Rv b0 rho ws v w) (hv : v.1 = 2) : w = .null := by
  rcases h with h | h | h | h | h | h
  · exfalso; omega
  · exact h.2
  all_goals (exfalso; omega)
theorem ai_Rv.rfr (h : ai_Rv b0 rho ws v w) (hv : v.1 = 3) : ∃ (a : Nat) (e : va_E), ws[v.2.1.toNat]? = some (a, e) ∧ w = .ref a := by
  rcases h with h | h | h | h | h | h
  · exfalso; omega
  · exfalso; omega
  · exact h.2
  all_goals (exfalso; omega)
theorem ai_Rv.lng (h : ai_Rv b0 rho ws v w) (hv : v.1 = 4 ∨ v.1 = 5) : ∃ z : Int32, w = .long z.toInt64 ∧ ai_num rho (v.1 - 4, v.2) z := by
  rcases h with h | h | h | h | h | h
  · exfalso; omega
  · exfalso; omega
  · exfalso; omega
  · exact h.2
  all_goals (exfalso; omega)
theorem ai_Rv.scr (h : ai_Rv b0 rho ws v w) (hv : v.1 = 6) : w = .ref b0 := by
  rcases h with h | h | h | h | h | h
  · exfalso; omega
  · exfalso; omega
  · exfalso; omega
  · exfalso; omega
  · exact h.2
  · exfalso; omega
/-- a value that is no number: null or a reference -/
theorem ai_Rv.rn (h : ai_Rv b0 rho ws v w) (hv : v.1 = 2 ∨ v.1 = 3) : w = .null ∨ ∃ a : Nat, w = .ref a := by
  rcases hv with hv | hv
  · exact Or.inl (h.nul hv)
  · obtain ⟨a, e, -, h2⟩ := h.rfr hv
    exact Or.inr ⟨a, h2⟩
theorem ai_Rv.cat (h : ai_Rv b0 rho ws v w) (hv : ¬ (v.1 = 4 ∨ v.1 = 5)) : w.category = 1 := by
  rcases h with ⟨-, z, rfl, -⟩ | ⟨-, rfl⟩ | ⟨-, a, e, -, rfl⟩ | ⟨h, -⟩ | ⟨-, rfl⟩ | ⟨-, a, rfl⟩
  · rfl
  · rfl
  · rfl
  · exact absurd h hv
  · rfl
  · rfl
/-- what a load or a store may meet -/
theorem ai_Rv.kind (h : ai_Rv b0 rho ws v w) : (∃ z : Int32, w = .int z) ∨ w = .null ∨ (∃ a : Nat, w = .ref a) ∨ (∃ z : Int64, w = .long z) := by
  rcases h with ⟨-, z, rfl, -⟩ | ⟨-, rfl⟩ | ⟨-, a, e, -, rfl⟩ | ⟨-, z, rfl, -⟩ | ⟨-, rfl⟩ | ⟨-, a, rfl⟩
  · exact Or.inl ⟨z, rfl⟩
  · exact Or.inr (Or.inl rfl)
  · exact Or.inr (Or.inr (Or.inl ⟨_, rfl⟩))
  · exact Or.inr (Or.inr (Or.inr ⟨_, rfl⟩))
  · exact Or.inr (Or.inr (Or.inl ⟨_, rfl⟩))
  · exact Or.inr (Or.inr (Or.inl ⟨_, rfl⟩))
theorem ai_Rv.mkI {z : Int32} (h : ai_num rho v z) : ai_Rv b0 rho ws v (.int z) := Or.inl ⟨by rcases h with h | h <;> omega, z, rfl, h⟩
theorem ai_Rv.mkN {a b : Int} : ai_Rv b0 rho ws (2, a, b) .null := Or.inr (Or.inl ⟨rfl, rfl⟩)
end RV
/-- stacks, fields -/
def ai_SR (b0 : Nat) (rho : Nat → Int32) (ws : va_W) : List ai_V → List Value → Prop
  | [], [] => True
  | v :: st, w :: vs => ai_Rv b0 rho ws v w ∧ ai_SR b0 rho ws st vs
  | [], _ :: _ => False
  | _ :: _, [] => False
section SR
variable {b0 : Nat} {rho : Nat → Int32} {ws ws' : va_W}
theorem ai_SR.mono : ∀ {st : List ai_V} {vs : List Value}, ai_SR b0 rho ws st vs → ai_AD ws ws' → ai_SR b0 rho ws' st vs
  | [], [], _, _ => trivial
  | _ :: _, _ :: _, h, hA => ⟨h.1.mono hA, ai_SR.mono h.2 hA⟩
theorem ai_SR.cons {v : ai_V} {st : List ai_V} {vs : List Value} (h : ai_SR b0 rho ws (v :: st) vs) : ∃ w r, vs = w :: r ∧ ai_Rv b0 rho ws v w ∧ ai_SR b0 rho ws st r := by
  cases vs with
  | nil => exact h.elim
  | cons w r => exact ⟨w, r, rfl, h.1, h.2⟩
theorem ai_SR.nil {vs : List Value} (h : ai_SR b0 rho ws [] vs) : vs = [] := by
  cases vs with
  | nil => rfl
  | cons w r => exact h.elim
theorem ai_SR.len : ∀ {st : List ai_V} {vs : List Value}, ai_SR b0 rho ws st vs → vs.length = st.length
  | [], [], _ => rfl
  | _ :: _, _ :: _, h => congrArg Nat.succ (ai_SR.len h.2)
theorem ai_SR.at : ∀ {st : List ai_V} {vs : List Value} {k : Nat} {v : ai_V}, ai_SR b0 rho ws st vs → st[k]? = some v → ∃ w, vs[k]? = some w ∧ ai_Rv b0 rho ws v w
  | _ :: _, w :: _, 0, _, h, hk => by cases hk; exact ⟨w, rfl, h.1⟩
  | _ :: _, _ :: _, k + 1, _, h, hk => ai_SR.at (k := k) h.2 hk
theorem ai_SR.set : ∀ {st : List ai_V} {vs : List Value} {k : Nat} {v : ai_V} {w : Value}, ai_SR b0 rho ws st vs → ai_Rv b0 rho ws v w → ai_SR b0 rho ws (st.set k v) (vs.set k w)
  | [], [], _, _, _, _, _ => trivial
  | _ :: _, _ :: _, 0, _, _, h, hv => ⟨hv, h.2⟩
  | _ :: _, _ :: _, k + 1, _, _, h, hv => ⟨h.1, ai_SR.set (k := k) h.2 hv⟩
theorem ai_SR.app : ∀ {st s2 : List ai_V} {vs v2 : List Value}, ai_SR b0 rho ws st vs → ai_SR b0 rho ws s2 v2 → ai_SR b0 rho ws (st ++ s2) (vs ++ v2)
  | [], _, [], _, _, h2 => h2
  | _ :: _, _, _ :: _, _, h, h2 => ⟨h.1, ai_SR.app h.2 h2⟩
theorem ai_SR.rev : ∀ {st : List ai_V} {vs : List Value}, ai_SR b0 rho ws st vs → ai_SR b0 rho ws st.reverse vs.reverse
  | [], [], _ => trivial
  | v :: st, w :: vs, h => by
    rw [List.reverse_cons, List.reverse_cons]
    exact ai_SR.app (ai_SR.rev h.2) ⟨h.1, trivial⟩
theorem ai_SR.take : ∀ {st : List ai_V} {vs : List Value} (n : Nat), ai_SR b0 rho ws st vs → ai_SR b0 rho ws (st.take n) (vs.take n)
  | [], [], n, _ => by simp [ai_SR]
  | _ :: _, _ :: _, 0, _ => trivial
  | _ :: _, _ :: _, n + 1, h => ⟨h.1, ai_SR.take n h.2⟩
theorem ai_SR.drop : ∀ {st : List ai_V} {vs : List Value} (n : Nat), ai_SR b0 rho ws st vs → ai_SR b0 rho ws (st.drop n) (vs.drop n)
  | [], [], n, _ => by simp [ai_SR]
  | _ :: _, _ :: _, 0, h => h
  | _ :: _, _ :: _, n + 1, h => ai_SR.drop n h.2
end SR
/-- locals -/
def ai_LR (b0 : Nat) (rho : Nat → Int32) (ws : va_W) (loc : List ai_V) (ls : Array Slot) (nL : Nat) : Prop :=
  loc.length = nL ∧ ∃ lv, lv_has ls nL lv ∧ ∀ (i : Nat) (v : ai_V), loc[i]? = some v → v.1 ≠ 9 → ∃ w, ai_Rv b0 rho ws v w ∧ w.category = 1 ∧ (i, w) ∈ lv
section LR
variable {b0 : Nat} {rho : Nat → Int32} {ws ws' : va_W} {loc : List ai_V} {ls : Array Slot} {nL : Nat}
theorem ai_LR.mono (h : ai_LR b0 rho ws loc ls nL) (hA : ai_AD ws ws') : ai_LR b0 rho ws' loc ls nL := by
  obtain ⟨h1, lv, h2, h3⟩ := h
  exact ⟨h1, lv, h2, fun i v hi hv => by
    obtain ⟨w, q1, q2, q3⟩ := h3 i v hi hv
    exact ⟨w, q1.mono hA, q2, q3⟩⟩
theorem ai_LR.sz (h : ai_LR b0 rho ws loc ls nL) : ls.size = nL := by
  obtain ⟨-, lv, h2, -⟩ := h
  exact h2.1
theorem ai_LR.at (h : ai_LR b0 rho ws loc ls nL) {k : Nat} (hk : (ai_nth ai_un loc k).1 ≠ 9) : ∃ w, ai_Rv b0 rho ws (ai_nth ai_un loc k) w ∧ w.category = 1 ∧ ls[k]? = some (.val w) := by
  obtain ⟨-, lv, h2, h3⟩ := h
  rw [ai_nth_eq] at hk ⊢
  cases hl : loc[k]? with
  | none => rw [hl] at hk; exact absurd rfl hk
  | some v =>
    rw [hl] at hk
    obtain ⟨w, q1, q2, q3⟩ := h3 k v hl hk
    exact ⟨w, q1, q2, h2.2.2 (k, w) q3⟩
/-- the new list of locals behind a store -/
theorem ai_LR.upd {lv : List (Nat × Value)} {ls' : Array Slot} {k : Nat} {v : ai_V} {w : Value} (hl : loc.length = nL) (h3 : ∀ (i : Nat) (v : ai_V), loc[i]? = some v → v.1 ≠ 9 → ∃ w, ai_Rv b0 rho ws v w ∧ w.category = 1 ∧ (i, w) ∈ lv)
    (h' : lv_has ls' nL ((k, w) :: lv.filter (fun q => !(q.1 == k) && !(q.1 + 1 == k && q.2.category == 2)))) (hv : ai_Rv b0 rho ws v w) (hc : w.category = 1) : ai_LR b0 rho ws (ai_upd loc k v) ls' nL := by
  rw [ai_upd_eq]
  refine ⟨by rw [List.length_set]; exact hl, _, h', fun i u hi hu => ?_⟩
  rw [List.getElem?_set] at hi
  by_cases hik : k = i
  · subst hik
    rw [if_pos rfl] at hi
    by_cases hlt : k < loc.length
    · rw [if_pos hlt] at hi
      cases hi
      exact ⟨w, hv, hc, List.mem_cons_self⟩
    · rw [if_neg hlt] at hi
      cases hi
  · rw [if_neg hik] at hi
    obtain ⟨w1, q1, q2, q3⟩ := h3 i u hi hu
    refine ⟨w1, q1, q2, List.mem_cons_of_mem _ (List.mem_filter.mpr ⟨q3, ?_⟩)⟩
    have e1 : (i == k) = false := by simpa using fun h => hik h.symm
    have e2 : (w1.category == 2) = false := by rw [q2]; rfl
    simp [e1, e2]
end LR
/-- cells -/
noncomputable def ai_el (c : ai_C) (j : Nat) : ai_V := ai_lk c.2.2.2 (ai_nth ai_un c.2.2.1 0) j
def ai_RC (b0 : Nat) (rho : Nat → Int32) (tc : Nat → ClassId) (ws : va_W) (c : ai_C) (e : va_E) : Prop :=
  (c.1 = 0 ∧ ∃ vs, e = .inr (c.2.1, vs) ∧ ai_SR b0 rho ws c.2.2.1 vs) ∨
  ((c.1 = 1 ∨ c.1 = 2) ∧ c.2.1 < 2 ^ 31 ∧ ∃ f : Nat → Int32, e = .inl (tc c.1, c.2.1, .inl f) ∧ ∀ j, j < c.2.1 → ai_Rv b0 rho ws (ai_el c j) (.int (f j))) ∨
  (c.1 = 3 ∧ c.2.1 < 2 ^ 31 ∧ ∃ f : Nat → Int64, e = .inl (tc c.1, c.2.1, .inr (.inl f)) ∧ ∀ j, j < c.2.1 → ai_Rv b0 rho ws (ai_el c j) (.long (f j))) ∨
  ((c.1 = 4 ∨ c.1 = 5 ∨ c.1 = 6) ∧ c.2.1 < 2 ^ 31 ∧ ∃ f : Nat → Option Nat, e = .inl (tc c.1, c.2.1, .inr (.inr (.inr (.inr f)))) ∧ ∀ j, j < c.2.1 → ai_Rv b0 rho ws (ai_el c j) (va_rf (f j)))
def ai_WR (b0 : Nat) (rho : Nat → Int32) (tc : Nat → ClassId) (ws : va_W) (h : ai_H) (nx : Nat) : Prop :=
  ws.length = nx ∧ nx ≤ 1024 ∧ ∀ i, i < nx → ∃ a e, ws[i]? = some (a, e) ∧ ai_RC b0 rho tc ws (ai_get 10 h i) e
section WR
variable {b0 : Nat} {rho : Nat → Int32} {tc : Nat → ClassId} {ws ws' : va_W} {h : ai_H} {nx : Nat}
theorem ai_RC.mono {c : ai_C} {e : va_E} (q : ai_RC b0 rho tc ws c e) (hA : ai_AD ws ws') : ai_RC b0 rho tc ws' c e := by
  rcases q with ⟨h1, vs, h2, h3⟩ | ⟨h1, hl, f, h2, h3⟩ | ⟨h1, hl, f, h2, h3⟩ | ⟨h1, hl, f, h2, h3⟩
  · exact Or.inl ⟨h1, vs, h2, h3.mono hA⟩
  · exact Or.inr (Or.inl ⟨h1, hl, f, h2, fun j hj => (h3 j hj).mono hA⟩)
  · exact Or.inr (Or.inr (Or.inl ⟨h1, hl, f, h2, fun j hj => (h3 j hj).mono hA⟩))
  · exact Or.inr (Or.inr (Or.inr ⟨h1, hl, f, h2, fun j hj => (h3 j hj).mono hA⟩))
/-- an array's cell, whatever it holds -/
theorem ai_RC.arr {c : ai_C} {e : va_E} (q : ai_RC b0 rho tc ws c e) (hc : 1 ≤ c.1) : c.2.1 < 2 ^ 31 ∧ c.1 ≤ 6 ∧ ∃ y, e = .inl (tc c.1, c.2.1, y) := by
  rcases q with ⟨h1, vs, h2, h3⟩ | ⟨h1, hl, f, h2, h3⟩ | ⟨h1, hl, f, h2, h3⟩ | ⟨h1, hl, f, h2, h3⟩
  · exfalso; omega
  · exact ⟨hl, by omega, _, h2⟩
  · exact ⟨hl, by omega, _, h2⟩
  · exact ⟨hl, by omega, _, h2⟩
theorem ai_WR.put {i a : Nat} {e e' : va_E} {c : ai_C} (q : ai_WR b0 rho tc ws h nx) (hi : ws[i]? = some (a, e)) (hc : ai_RC b0 rho tc (ws.set i (a, e')) c e') : ai_WR b0 rho tc (ws.set i (a, e')) (ai_set 10 h i c) nx := by
  obtain ⟨h1, h2, h3⟩ := q
  have hil : i < ws.length := (List.getElem?_eq_some_iff.mp hi).1
  refine ⟨by rw [List.length_set]; exact h1, h2, fun j hj => ?_⟩
  rw [ai_get_set 10 h i j c (by show i < 1024; omega) (by show j < 1024; omega)]
  by_cases hij : j = i
  · subst hij
    refine ⟨a, e', ?_, by rw [if_pos rfl]; exact hc⟩
    rw [List.getElem?_set, if_pos rfl, if_pos hil]
  · obtain ⟨b, e1, k1, k2⟩ := h3 j hj
    refine ⟨b, e1, ?_, by rw [if_neg hij]; exact k2.mono (ai_AD.set hi)⟩
    rw [List.getElem?_set, if_neg (fun z => hij z.symm)]
    exact k1
theorem ai_WR.push {a : Nat} {e : va_E} {c : ai_C} (q : ai_WR b0 rho tc ws h nx) (hn : nx < 1024) (hc : ai_RC b0 rho tc (ws ++ [(a, e)]) c e) : ai_WR b0 rho tc (ws ++ [(a, e)]) (ai_set 10 h nx c) (nx + 1) := by
  obtain ⟨h1, h2, h3⟩ := q
  refine ⟨by rw [List.length_append, h1]; rfl, by omega, fun j hj => ?_⟩
  rw [ai_get_set 10 h nx j c (by show nx < 1024; omega) (by show j < 1024; omega)]
  by_cases hij : j = nx
  · subst hij
    refine ⟨a, e, ?_, by rw [if_pos rfl]; exact hc⟩
    rw [List.getElem?_append_right (by omega), h1, Nat.sub_self]
    rfl
  · obtain ⟨b, e1, k1, k2⟩ := h3 j (by omega)
    refine ⟨b, e1, ?_, by rw [if_neg hij]; exact k2.mono ai_AD.app⟩
    rw [List.getElem?_append_left (by omega)]
    exact k1
/-- the cell that a reference names -/
theorem ai_cell_ok {x : Nat × Nat × ai_E} {v : ai_V} {i : Nat} {c : ai_C} (q : ai_WR b0 rho tc ws h nx) (hc : ai_cell (h, nx, x) v = some (i, c)) {w : Value} (hw : ai_Rv b0 rho ws v w) : ∃ a e, w = .ref a ∧ ws[i]? = some (a, e) ∧ i < nx ∧ c = ai_get 10 h i ∧ ai_RC b0 rho tc ws c e := by
  unfold ai_cell at hc
  cases hb : (Nat.beq (Prod.fst v) 3 && Nat.blt (Prod.fst (Prod.snd v)).toNat (ai_nx (h, nx, x))) with
  | false => rw [hb] at hc; cases hc
  | true =>
    rw [hb] at hc
    simp only [cond_true, Option.some.injEq, Prod.mk.injEq] at hc
    obtain ⟨rfl, rfl⟩ := hc
    rw [Bool.and_eq_true] at hb
    have h3 : v.1 = 3 := Nat.eq_of_beq_eq_true hb.1
    have hlt : v.2.1.toNat < nx := Nat.le_of_ble_eq_true hb.2
    obtain ⟨a, e, k1, k2⟩ := hw.rfr h3
    obtain ⟨a', e', k3, k4⟩ := q.2.2 _ hlt
    cases Option.some.inj (k1.symm.trans k3)
    exact ⟨a, e, k2, k1, hlt, rfl, k4⟩
end WR
