/-! ===== the interpreter over known values: a machine of its own. T: what each cell is; E: what stands in it ===== -/
abbrev cm_T : Type := Nat → Nat × Nat
abbrev cm_E : Type := Nat → Nat → ai_V
abbrev cm_Q : Type := Nat → ai_V → cm_T → cm_E → Nat → Prop
def cr (i : Nat) : ai_V := (3, Int.ofNat i, 0)
def cm_fn (c : Nat) : Nat := (ai_fld c).length
def cm_sz (q : Nat × Nat) : Nat := if q.1 = 0 then cm_fn q.2 else q.2
noncomputable def cm_el (c : ai_C) (k : Nat) : ai_V := if c.1 = 0 then ai_nth ai_un c.2.2.1 k else ai_el c k
def cm_Rep (h : ai_H) (nx : Nat) (T : cm_T) (E : cm_E) : Prop :=
  nx ≤ 1024 ∧ ∀ i, i < nx → (ai_get 10 h i).1 = (T i).1 ∧ (ai_get 10 h i).2.1 = (T i).2 ∧ ((T i).1 = 0 → (ai_get 10 h i).2.2.1.length = cm_fn (T i).2) ∧ ∀ k, k < cm_sz (T i) → cm_el (ai_get 10 h i) k = E i k
def cm_up (E : cm_E) (i k : Nat) (v : ai_V) : cm_E := fun i' k' => if i' = i ∧ k' = k then v else E i' k'
theorem cm_up_eq (E : cm_E) (i k : Nat) (v : ai_V) : cm_up E i k v i k = v := by unfold cm_up; simp
theorem cm_up_ne (E : cm_E) {i k i' k' : Nat} (v : ai_V) (h : ¬ (i' = i ∧ k' = k)) : cm_up E i k v i' k' = E i' k' := by unfold cm_up; rw [if_neg h]
theorem cm_up_nei (E : cm_E) {i k i' k' : Nat} (v : ai_V) (h : i' ≠ i) : cm_up E i k v i' k' = E i' k' := cm_up_ne E v (fun q => h q.1)
theorem cm_up_nek (E : cm_E) {i k i' k' : Nat} (v : ai_V) (h : k' ≠ k) : cm_up E i k v i' k' = E i' k' := cm_up_ne E v (fun q => h q.2)
/-- the cell at i -/
theorem cm_Rep.cell {h : ai_H} {nx i : Nat} {T : cm_T} {E : cm_E} (H : cm_Rep h nx T E) (hi : i < nx) (kc ks : Nat) (x : ai_E) : ai_cell (h, nx, kc, ks, x) (cr i) = some (i, ai_get 10 h i) := by
  unfold ai_cell cr
  have e1 : Nat.blt i nx = true := Nat.ble_eq_true_of_le hi
  show cond (Nat.beq 3 3 && Nat.blt i nx) _ none = _
  rw [e1]; rfl
theorem cm_Rep.put {h : ai_H} {nx i k : Nat} {T : cm_T} {E : cm_E} {v : ai_V} {c : ai_C} (H : cm_Rep h nx T E) (hi : i < nx) (hk : k < cm_sz (T i))
    (h1 : c.1 = (T i).1) (h2 : c.2.1 = (T i).2) (h3 : (T i).1 = 0 → c.2.2.1 = ai_upd (ai_get 10 h i).2.2.1 k v) (h4 : (T i).1 ≠ 0 → c.2.2.1 = (ai_get 10 h i).2.2.1 ∧ c.2.2.2 = (k, v) :: (ai_get 10 h i).2.2.2) : cm_Rep (ai_set 10 h i c) nx T (cm_up E i k v) := by
  obtain ⟨hn, H⟩ := H
  refine ⟨hn, fun j hj => ?_⟩
  rw [ai_get_set 10 h i j c (by show i < 1024; omega) (by show j < 1024; omega)]
  obtain ⟨a1, a2, a3, a4⟩ := H j hj
  by_cases hij : j = i
  · subst hij
    rw [if_pos rfl]
    refine ⟨h1, h2, fun h0 => ?_, fun k' hk' => ?_⟩
    · rw [h3 h0, ai_upd_eq, List.length_set]; exact a3 h0
    · have a4 := a4 k' hk'
      by_cases h0 : (T j).1 = 0
      · unfold cm_el at a4 ⊢
        rw [if_pos (h1.trans h0), h3 h0]
        rw [if_pos (a1.trans h0)] at a4
        have hl : k < (ai_get 10 h j).2.2.1.length := by
          rw [a3 h0]; unfold cm_sz at hk; rw [if_pos h0] at hk; exact hk
        rw [ai_upd_eq, ai_nth_eq, List.getElem?_set]
        by_cases hkk : k' = k
        · subst hkk; rw [cm_up_eq, if_pos rfl, if_pos hl]; rfl
        · rw [cm_up_nek E v hkk, if_neg (fun q => hkk q.symm), ← ai_nth_eq]; exact a4
      · unfold cm_el at a4 ⊢
        rw [if_neg (fun q => h0 (h1.symm.trans q))]
        rw [if_neg (fun q => h0 (a1.symm.trans q))] at a4
        obtain ⟨q1, q2⟩ := h4 h0
        unfold ai_el at a4 ⊢
        rw [q1, q2, ai_lk_cons]
        by_cases hkk : k' = k
        · subst hkk; rw [cm_up_eq, if_pos rfl]
        · rw [cm_up_nek E v hkk, if_neg (fun q => hkk q.symm)]; exact a4
  · rw [if_neg hij]
    exact ⟨a1, a2, a3, fun k' hk' => by rw [cm_up_nei E v hij]; exact a4 k' hk'⟩
/-- a new cell -/
theorem cm_Rep.push {h : ai_H} {nx : Nat} {T : cm_T} {E : cm_E} {c : ai_C} (H : cm_Rep h nx T E) (hn : nx < 1024) (h3 : c.1 = 0 → c.2.2.1.length = cm_fn c.2.1) :
    cm_Rep (ai_set 10 h nx c) (nx + 1) (fun i => if i = nx then (c.1, c.2.1) else T i) (fun i k => if i = nx then cm_el c k else E i k) := by
  obtain ⟨-, H⟩ := H
  refine ⟨hn, fun j hj => ?_⟩
  rw [ai_get_set 10 h nx j c (by show nx < 1024; omega) (by show j < 1024; omega)]
  by_cases hij : j = nx
  · subst hij
    simp only [if_true]
    exact ⟨trivial, trivial, h3, fun _ _ => trivial⟩
  · simp only [if_neg hij]
    exact H j (by omega)
/-- what a run from here comes to; A, B: the most cells and slots; the answer k v in a state that keeps Q -/
def cm_wp (F : Nat → Option ai_Op) (call : ai_K) (x : ai_E) (A B : Nat) (Q : cm_Q) (pc : Nat) (loc st : List ai_V) (T : cm_T) (E : cm_E) (nx kc ks : Nat) : Prop :=
  ∀ h, cm_Rep h nx T E → ∃ (r : ai_R) (n : Nat), (∀ m, n ≤ m → ai_run F call m pc loc st (h, nx, kc, ks, x) = some r) ∧ r.1 ≠ [] ∧ (kc ≤ r.2.1 ∧ r.2.1 ≤ A ∧ ks ≤ r.2.2 ∧ r.2.2 ≤ B) ∧
    ∀ o ∈ r.1, ∃ (h' : ai_H) (nx' a b : Nat) (T' : cm_T) (E' : cm_E), o.2.2 = (h', nx', a, b, x) ∧ cm_Rep h' nx' T' E' ∧ Q o.1 o.2.1 T' E' nx'
/-- what a call comes to -/
def cm_ct (call : ai_K) (x : ai_E) (j : Nat) (a : List ai_V) (T : cm_T) (E : cm_E) (nx ea eb : Nat) (Q : cm_Q) : Prop :=
  ∀ h kc ks, cm_Rep h nx T E → ∃ r : ai_R, call j a (h, nx, kc, ks, x) = some r ∧ r.1 ≠ [] ∧ (kc ≤ r.2.1 ∧ r.2.1 ≤ kc + ea ∧ ks ≤ r.2.2 ∧ r.2.2 ≤ ks + eb) ∧
    ∀ o ∈ r.1, ∃ (h' : ai_H) (nx' a b : Nat) (T' : cm_T) (E' : cm_E), o.2.2 = (h', nx', a, b, x) ∧ cm_Rep h' nx' T' E' ∧ Q o.1 o.2.1 T' E' nx'
theorem cm_lim_eq {f : Nat → Option ai_R} {r : ai_R} {n : Nat} (h : ∀ m, n ≤ m → f m = some r) : cm_lim f = some r := by
  unfold cm_lim
  have hex : ∃ r n, ∀ m, n ≤ m → f m = some r := ⟨r, n, h⟩
  rw [dif_pos hex]
  obtain ⟨n2, h2⟩ := Classical.choose_spec hex
  have e1 := h (max n n2) (Nat.le_max_left _ _)
  have e2 := h2 (max n n2) (Nat.le_max_right _ _)
  exact e2.symm.trans e1
/-- a method's body -/
theorem cm_body {sl : Int × Int} {x : ai_E} {d j ea eb : Nat} {M : ai_M} {a : List ai_V} {T : cm_T} {E : cm_E} {nx : Nat} {Q : cm_Q} (hM : ai_at ai_meths j = some M) (ha : ai_argok a M.2.2.1 = true)
    (hb : ∀ kc ks, cm_wp (ai_find M.2.2.2.2.2.2 sl) (ai_ev sl d) x (kc + ea) (ks + eb) Q 0 (ai_pad M.2.2.1 a) [] T E nx kc ks) : cm_ct (ai_ev sl (d + 1)) x j a T E nx ea eb Q := by
  intro h kc ks hR
  obtain ⟨r, n, h1, h2, h3, h4⟩ := hb kc ks h hR
  refine ⟨r, ?_, h2, h3, h4⟩
  rw [ai_ev_s, hM]
  simp only [ha, cond_true]
  exact cm_lim_eq h1
theorem cm_ct.weaken {call : ai_K} {x : ai_E} {j : Nat} {a : List ai_V} {T : cm_T} {E : cm_E} {nx ea eb : Nat} {Q Q' : cm_Q} (h : cm_ct call x j a T E nx ea eb Q) (hq : ∀ k v T' E' nx', Q k v T' E' nx' → Q' k v T' E' nx') : cm_ct call x j a T E nx ea eb Q' := by
  intro h0 kc ks hR
  obtain ⟨r, h1, h2, h3, h4⟩ := h h0 kc ks hR
  refine ⟨r, h1, h2, h3, fun o ho => ?_⟩
  obtain ⟨h', nx', a, b, T', E', k1, k2, k3⟩ := h4 o ho
  exact ⟨h', nx', a, b, T', E', k1, k2, hq _ _ _ _ _ k3⟩
section CM
variable {F : Nat → Option ai_Op} {call : ai_K} {x : ai_E} {A B : Nat} {Q : cm_Q} {pc npc : Nat} {loc st : List ai_V} {T : cm_T} {E : cm_E} {nx kc ks : Nat}
/-- an operation that goes on in one way -/
theorem cm_step {o : ai_Op} {pc' : Nat} {loc' st' : List ai_V} (hf : F pc = some o) (hs : ∀ h, cm_Rep h nx T E → ∀ K : ai_K4, o call K loc st (h, nx, kc, ks, x) = K pc' loc' st' (h, nx, kc, ks, x))
    (hk : cm_wp F call x A B Q pc' loc' st' T E nx kc ks) : cm_wp F call x A B Q pc loc st T E nx kc ks := by
  intro h hR
  obtain ⟨r, n, h1, h2⟩ := hk h hR
  refine ⟨r, n + 1, fun m hm => ?_, h2⟩
  obtain ⟨m', rfl⟩ : ∃ m', m = m' + 1 := ⟨m - 1, by omega⟩
  rw [ai_run_s, hf]
  exact (hs h hR _).trans (h1 m' (by omega))
/-- an operation that changes what stands in the cells -/
theorem cm_stepE {o : ai_Op} {pc' : Nat} {loc' st' : List ai_V} {T' : cm_T} {E' : cm_E} {nx' kc' ks' : Nat} (hf : F pc = some o)
    (hs : ∀ h, cm_Rep h nx T E → ∃ h', cm_Rep h' nx' T' E' ∧ ∀ K : ai_K4, o call K loc st (h, nx, kc, ks, x) = K pc' loc' st' (h', nx', kc', ks', x)) (hkc : kc ≤ kc') (hks : ks ≤ ks')
    (hk : cm_wp F call x A B Q pc' loc' st' T' E' nx' kc' ks') : cm_wp F call x A B Q pc loc st T E nx kc ks := by
  intro h hR
  obtain ⟨h', hR', hs'⟩ := hs h hR
  obtain ⟨r, n, h1, h2, ⟨b1, b2, b3, b4⟩, h3⟩ := hk h' hR'
  refine ⟨r, n + 1, fun m hm => ?_, h2, ⟨by omega, b2, by omega, b4⟩, h3⟩
  obtain ⟨m', rfl⟩ : ∃ m', m = m' + 1 := ⟨m - 1, by omega⟩
  rw [ai_run_s, hf]
  exact (hs' _).trans (h1 m' (by omega))
theorem w_const {n : Int} (hf : F pc = some (ai_o_const n npc)) (k : cm_wp F call x A B Q npc loc (ai_i n :: st) T E nx kc ks) : cm_wp F call x A B Q pc loc st T E nx kc ks := cm_step hf (fun _ _ _ => rfl) k
theorem w_lconst {n : Int} (hf : F pc = some (ai_o_lconst n npc)) (k : cm_wp F call x A B Q npc loc ((4, n, n) :: st) T E nx kc ks) : cm_wp F call x A B Q pc loc st T E nx kc ks := cm_step hf (fun _ _ _ => rfl) k
theorem w_null (hf : F pc = some (ai_o_null npc)) (k : cm_wp F call x A B Q npc loc (ai_nul :: st) T E nx kc ks) : cm_wp F call x A B Q pc loc st T E nx kc ks := cm_step hf (fun _ _ _ => rfl) k
theorem w_iload {i : Nat} {z : Int} (hf : F pc = some (ai_o_iload i npc)) (hl : ai_nth ai_un loc i = ai_i z) (k : cm_wp F call x A B Q npc loc (ai_i z :: st) T E nx kc ks) : cm_wp F call x A B Q pc loc st T E nx kc ks :=
  cm_step hf (fun _ _ _ => by unfold ai_o_iload; rw [hl]; rfl) k
theorem w_aload {i : Nat} {v : ai_V} (hf : F pc = some (ai_o_aload i npc)) (hl : ai_nth ai_un loc i = v) (hv : ai_isr v.1 = true) (k : cm_wp F call x A B Q npc loc (v :: st) T E nx kc ks) : cm_wp F call x A B Q pc loc st T E nx kc ks :=
  cm_step hf (fun _ _ _ => by unfold ai_o_aload; rw [hl, hv]; rfl) k
theorem w_istore {i : Nat} {z : Int} {loc' : List ai_V} (hf : F pc = some (ai_o_istore i npc)) (hl : ai_upd loc i (ai_i z) = loc') (k : cm_wp F call x A B Q npc loc' st T E nx kc ks) : cm_wp F call x A B Q pc loc (ai_i z :: st) T E nx kc ks := by
  subst hl
  exact cm_step hf (fun _ _ _ => rfl) k
theorem w_astore {i : Nat} {v : ai_V} {loc' : List ai_V} (hf : F pc = some (ai_o_astore i npc)) (hv : ai_isr v.1 = true) (hl : ai_upd loc i v = loc') (k : cm_wp F call x A B Q npc loc' st T E nx kc ks) : cm_wp F call x A B Q pc loc (v :: st) T E nx kc ks := by
  subst hl
  exact cm_step hf (fun _ _ _ => by unfold ai_o_astore; simp only [hv, cond_true]) k
theorem cm_norm {a : Int} (h : -2147483648 ≤ a ∧ a ≤ 2147483647) : ai_norm a a = ai_i a := by
  unfold ai_norm
  rw [(ai_ok_iff a a).mpr h]; rfl
theorem cm_ieq (a : Int) : ai_ieq a a = true := (ai_ieq_iff a a).mpr rfl
theorem cm_one (x : ai_E) (a : Int) : ai_one x (ai_i a) = some a := by
  show (match ai_rng x (0, a, a) with | some (a, b) => cond (ai_ieq a b) (some a) none | none => none) = _
  show cond (ai_ieq a a) (some a) none = _
  rw [cm_ieq]; rfl
theorem w_iinc {i : Nat} {n z : Int} {loc' : List ai_V} (hf : F pc = some (ai_o_inc i n npc)) (hl : ai_nth ai_un loc i = ai_i z) (hr : -2147483648 ≤ z + n ∧ z + n ≤ 2147483647) (hu : ai_upd loc i (ai_i (z + n)) = loc') (k : cm_wp F call x A B Q npc loc' st T E nx kc ks) : cm_wp F call x A B Q pc loc st T E nx kc ks := by
  subst hu
  refine cm_step hf (fun _ _ _ => ?_) k
  unfold ai_o_inc
  rw [hl]
  show (match some (ai_norm (z + n) (z + n)) with | some v => _ | none => none) = _
  rw [cm_norm hr]
theorem w_bin {f : ai_E → ai_V → ai_V → Option ai_V} {u v w : ai_V} (hf : F pc = some (ai_o_bin f npc)) (hv : f x u v = some w) (k : cm_wp F call x A B Q npc loc (w :: st) T E nx kc ks) : cm_wp F call x A B Q pc loc (v :: u :: st) T E nx kc ks :=
  cm_step hf (fun h _ K => by
    show (match f x u v with | some w => K npc loc (w :: st) (h, nx, kc, ks, x) | none => none) = _
    rw [hv]) k
theorem w_iadd {a b : Int} (hf : F pc = some (ai_o_bin (fun _ => ai_add) npc)) (hr : -2147483648 ≤ a + b ∧ a + b ≤ 2147483647) (k : cm_wp F call x A B Q npc loc (ai_i (a + b) :: st) T E nx kc ks) : cm_wp F call x A B Q pc loc (ai_i b :: ai_i a :: st) T E nx kc ks :=
  w_bin hf (show some (ai_norm (a + b) (a + b)) = _ by rw [cm_norm hr]) k
theorem w_isub {a b : Int} (hf : F pc = some (ai_o_bin (fun _ => ai_sub) npc)) (hr : -2147483648 ≤ a - b ∧ a - b ≤ 2147483647) (k : cm_wp F call x A B Q npc loc (ai_i (a - b) :: st) T E nx kc ks) : cm_wp F call x A B Q pc loc (ai_i b :: ai_i a :: st) T E nx kc ks :=
  w_bin hf (show some (ai_norm (a - b) (a - b)) = _ by rw [cm_norm hr]) k
theorem w_imul {a b : Int} (hf : F pc = some (ai_o_bin ai_mul npc)) (hr : -2147483648 ≤ a * b ∧ a * b ≤ 2147483647) (k : cm_wp F call x A B Q npc loc (ai_i (a * b) :: st) T E nx kc ks) : cm_wp F call x A B Q pc loc (ai_i b :: ai_i a :: st) T E nx kc ks := by
  refine w_bin hf ?_ k
  unfold ai_mul
  rw [cm_one, cm_one]
  simp only
  rw [cm_norm hr]
theorem cm_i32 (z : Int32) : -2147483648 ≤ z.toInt ∧ z.toInt ≤ 2147483647 := ai_le32 z
/-- a quotient: b is no 0 -/
theorem w_idiv {a b : Int} (hf : F pc = some (ai_o_bin ai_div npc)) (ha : -2147483648 ≤ a ∧ a ≤ 2147483647) (hb : 0 < b ∧ b ≤ 2147483647)
    (k : ∀ q : Int, (0 ≤ a → q = a / b) → -2147483648 ≤ q ∧ q ≤ 2147483647 → (a < 0 → q ≤ 0) → cm_wp F call x A B Q npc loc (ai_i q :: st) T E nx kc ks) : cm_wp F call x A B Q pc loc (ai_i b :: ai_i a :: st) T E nx kc ks := by
  have hd : (Int32.ofInt a / Int32.ofInt b).toInt = a.tdiv b := by
    have e1 : (Int32.ofInt a).toInt = a := ai_of_lt (by omega) (by omega)
    have e2 : (Int32.ofInt b).toInt = b := ai_of_lt (by omega) (by omega)
    rw [Int32.toInt_div_of_ne_right _ _ (by
      intro q
      rw [q] at e2
      have : (-1 : Int32).toInt = -1 := by decide
      omega), e1, e2]
  refine w_bin hf (w := ai_i (a.tdiv b)) ?_ (k _ (fun h0 => Int.tdiv_eq_ediv_of_nonneg h0) ⟨by rw [← hd]; exact (cm_i32 _).1, by rw [← hd]; exact (cm_i32 _).2⟩ (fun h0 => ?_))
  · unfold ai_div
    rw [cm_one]
    simp only
    rw [show ai_ieq b 0 = false by rw [← Bool.not_eq_true, ai_ieq_iff]; omega]
    show (match ai_one x (ai_i a) with | some a => some (ai_i (Int32.ofInt a / Int32.ofInt b).toInt) | none => cond (ai_isn (ai_i a)) (some ai_full) none) = _
    rw [cm_one]
    simp only [hd]
  · have h1 := Int.tdiv_nonneg (a := -a) (b := b) (by omega) (by omega)
    rw [Int.neg_tdiv] at h1
    omega
theorem w_irem {a b : Int} (hf : F pc = some (ai_o_bin ai_rem npc)) (ha : -2147483648 ≤ a ∧ a ≤ 2147483647) (hb : 0 < b ∧ b ≤ 2147483647)
    (k : ∀ q : Int, (0 ≤ a → q = a % b) → -2147483648 ≤ q ∧ q ≤ 2147483647 → cm_wp F call x A B Q npc loc (ai_i q :: st) T E nx kc ks) : cm_wp F call x A B Q pc loc (ai_i b :: ai_i a :: st) T E nx kc ks := by
  have e1 : (Int32.ofInt a).toInt = a := ai_of_lt (by omega) (by omega)
  have e2 : (Int32.ofInt b).toInt = b := ai_of_lt (by omega) (by omega)
  refine w_bin hf (w := ai_i (Int32.ofInt a - Int32.ofInt a / Int32.ofInt b * Int32.ofInt b).toInt) ?_ (k _ (fun h0 => ?_) (cm_i32 _))
  · unfold ai_rem
    rw [cm_one]
    simp only
    rw [show ai_ieq b 0 = false by rw [← Bool.not_eq_true, ai_ieq_iff]; omega]
    show (match ai_one x (ai_i a) with | some a => some (ai_i (Int32.ofInt a - Int32.ofInt a / Int32.ofInt b * Int32.ofInt b).toInt) | none => cond (ai_isn (ai_i a)) (some ai_full) none) = _
    rw [cm_one]
  · have hd : (Int32.ofInt a / Int32.ofInt b).toInt = a / b := by
      rw [Int32.toInt_div_of_ne_right _ _ (by
        intro q
        rw [q] at e2
        have : (-1 : Int32).toInt = -1 := by decide
        omega), e1, e2, Int.tdiv_eq_ediv_of_nonneg h0]
    have h5 := Int.emod_nonneg a (b := b) (by omega)
    have h6 := Int.emod_lt_of_pos a (b := b) (by omega)
    have h7 := Int.mul_ediv_add_emod a b
    have h8 : a / b * b = a - a % b := by rw [Int.mul_comm]; omega
    have e3 : Int32.ofInt a / Int32.ofInt b = Int32.ofInt (a / b) := by rw [← hd, Int32.ofInt_toInt]
    rw [e3, ← Int32.ofInt_mul, ← Int32.ofInt_sub, h8, ai_of_lt (by omega) (by omega)]
    omega
end CM
