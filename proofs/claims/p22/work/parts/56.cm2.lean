/-! ===== ways on, cells, calls, ends ===== -/
section CM2
variable {F : Nat → Option ai_Op} {call : ai_K} {x : ai_E} {A B : Nat} {Q : cm_Q} {pc npc pt : Nat} {loc st : List ai_V} {T : cm_T} {E : cm_E} {nx kc ks : Nat}
theorem cm_normw (a : Int) : ai_norm a a = ai_i (Int32.ofInt a).toInt := by
  unfold ai_norm
  cases h : ai_ok a a with
  | false => rw [cm_ieq]; rfl
  | true =>
    obtain ⟨q1, q2⟩ := (ai_ok_iff a a).mp h
    rw [ai_of_lt q1 q2]; rfl
theorem cm_wrap (a : Int) : (-2147483648 ≤ (Int32.ofInt a).toInt ∧ (Int32.ofInt a).toInt ≤ 2147483647) ∧ (-2147483648 ≤ a ∧ a ≤ 2147483647 → (Int32.ofInt a).toInt = a) := ⟨cm_i32 _, fun h => ai_of_lt h.1 h.2⟩
theorem w_iaddw {a b : Int} (hf : F pc = some (ai_o_bin (fun _ => ai_add) npc)) (k : ∀ q : Int, -2147483648 ≤ q ∧ q ≤ 2147483647 → (-2147483648 ≤ a + b ∧ a + b ≤ 2147483647 → q = a + b) → cm_wp F call x A B Q npc loc (ai_i q :: st) T E nx kc ks) : cm_wp F call x A B Q pc loc (ai_i b :: ai_i a :: st) T E nx kc ks :=
  w_bin hf (show some (ai_norm (a + b) (a + b)) = _ by rw [cm_normw]) (k _ (cm_wrap _).1 (cm_wrap _).2)
theorem w_isubw {a b : Int} (hf : F pc = some (ai_o_bin (fun _ => ai_sub) npc)) (k : ∀ q : Int, -2147483648 ≤ q ∧ q ≤ 2147483647 → (-2147483648 ≤ a - b ∧ a - b ≤ 2147483647 → q = a - b) → cm_wp F call x A B Q npc loc (ai_i q :: st) T E nx kc ks) : cm_wp F call x A B Q pc loc (ai_i b :: ai_i a :: st) T E nx kc ks :=
  w_bin hf (show some (ai_norm (a - b) (a - b)) = _ by rw [cm_normw]) (k _ (cm_wrap _).1 (cm_wrap _).2)
theorem w_imulw {a b : Int} (hf : F pc = some (ai_o_bin ai_mul npc)) (k : ∀ q : Int, -2147483648 ≤ q ∧ q ≤ 2147483647 → (-2147483648 ≤ a * b ∧ a * b ≤ 2147483647 → q = a * b) → cm_wp F call x A B Q npc loc (ai_i q :: st) T E nx kc ks) : cm_wp F call x A B Q pc loc (ai_i b :: ai_i a :: st) T E nx kc ks := by
  refine w_bin hf ?_ (k _ (cm_wrap _).1 (cm_wrap _).2)
  unfold ai_mul
  rw [cm_one, cm_one]
  simp only
  rw [cm_normw]
theorem w_iincw {i : Nat} {n z : Int} (hf : F pc = some (ai_o_inc i n npc)) (hl : ai_nth ai_un loc i = ai_i z) (k : ∀ q : Int, -2147483648 ≤ q ∧ q ≤ 2147483647 → (-2147483648 ≤ z + n ∧ z + n ≤ 2147483647 → q = z + n) → cm_wp F call x A B Q npc (ai_upd loc i (ai_i q)) st T E nx kc ks) : cm_wp F call x A B Q pc loc st T E nx kc ks := by
  refine cm_step hf (fun _ _ _ => ?_) (k _ (cm_wrap _).1 (cm_wrap _).2)
  unfold ai_o_inc
  rw [hl]
  show (match some (ai_norm (z + n) (z + n)) with | some v => _ | none => none) = _
  rw [cm_normw]
theorem w_iand {a b : Int} (hf : F pc = some (ai_o_bin ai_and npc)) (hb : 0 ≤ b ∧ b ≤ 2147483647) (k : ∀ q : Int, 0 ≤ q ∧ q ≤ b → q = (Int32.ofInt a &&& Int32.ofInt b).toInt → cm_wp F call x A B Q npc loc (ai_i q :: st) T E nx kc ks) : cm_wp F call x A B Q pc loc (ai_i b :: ai_i a :: st) T E nx kc ks := by
  refine w_bin hf (w := ai_i (Int32.ofInt a &&& Int32.ofInt b).toInt) ?_ (k _ (ai_and_mask _ hb.1 hb.2) rfl)
  unfold ai_and
  rw [cm_one, cm_one]
theorem w_con {f : Int32 → Int32 → Int32} {a b : Int} (hf : F pc = some (ai_o_bin (ai_con f) npc)) (k : ∀ q : Int, -2147483648 ≤ q ∧ q ≤ 2147483647 → q = (f (Int32.ofInt a) (Int32.ofInt b)).toInt → cm_wp F call x A B Q npc loc (ai_i q :: st) T E nx kc ks) : cm_wp F call x A B Q pc loc (ai_i b :: ai_i a :: st) T E nx kc ks := by
  refine w_bin hf (w := ai_i (f (Int32.ofInt a) (Int32.ofInt b)).toInt) ?_ (k _ (cm_i32 _) rfl)
  unfold ai_con
  rw [cm_one, cm_one]
theorem w_i2l {z : Int} (hf : F pc = some (ai_o_i2l npc)) (k : cm_wp F call x A B Q npc loc ((4, z, z) :: st) T E nx kc ks) : cm_wp F call x A B Q pc loc (ai_i z :: st) T E nx kc ks := cm_step hf (fun _ _ _ => rfl) k
theorem w_dup {v : ai_V} (hf : F pc = some (ai_o_dup npc)) (hv : Nat.ble v.1 3 = true) (k : cm_wp F call x A B Q npc loc (v :: v :: st) T E nx kc ks) : cm_wp F call x A B Q pc loc (v :: st) T E nx kc ks :=
  cm_step hf (fun _ _ _ => by unfold ai_o_dup; simp only [hv, cond_true]) k
theorem w_dup2 {u v : ai_V} (hf : F pc = some (ai_o_dup2 npc)) (hv : Nat.ble v.1 3 = true) (hu : Nat.ble u.1 3 = true) (k : cm_wp F call x A B Q npc loc (v :: u :: v :: u :: st) T E nx kc ks) : cm_wp F call x A B Q pc loc (v :: u :: st) T E nx kc ks :=
  cm_step hf (fun _ _ _ => by unfold ai_o_dup2; simp only [hv, hu, Bool.and_self, cond_true]) k
theorem w_pop {v : ai_V} (hf : F pc = some (ai_o_pop npc)) (hv : Nat.ble v.1 3 = true) (k : cm_wp F call x A B Q npc loc st T E nx kc ks) : cm_wp F call x A B Q pc loc (v :: st) T E nx kc ks :=
  cm_step hf (fun _ _ _ => by unfold ai_o_pop; simp only [hv, cond_true]) k
theorem w_goto (hf : F pc = some (ai_o_goto pt)) (k : cm_wp F call x A B Q pt loc st T E nx kc ks) : cm_wp F call x A B Q pc loc st T E nx kc ks := cm_step hf (fun _ _ _ => rfl) k
theorem cm_ltf {a b : Int} (h : ¬ a < b) : ai_ilt a b = false := by rw [← Bool.not_eq_true, ai_ilt_iff]; exact h
theorem cm_lef {a b : Int} (h : ¬ a ≤ b) : ai_ile a b = false := by rw [← Bool.not_eq_true, ai_ile_iff]; exact h
theorem cm_eqf {a b : Int} (h : ¬ a = b) : ai_ieq a b = false := by rw [← Bool.not_eq_true, ai_ieq_iff]; exact h
theorem cm_bb (c : Nat) : Nat.beq c c = true := Nat.beq_refl c
theorem cm_lt (x : ai_E) (a b : Int) : ai_lt x (ai_i a) (ai_i b) = some [(decide (a < b), x)] := by
  show some ((cond (ai_ilt a b) [(true, x)] []) ++ (cond (ai_ile b a) [(false, x)] [])) = _
  by_cases h : a < b
  · rw [(ai_ilt_iff a b).mpr h, cm_lef (by omega)]; simp [h]
  · rw [cm_ltf h, (ai_ile_iff b a).mpr (by omega)]; simp [h]
theorem cm_le (x : ai_E) (a b : Int) : ai_le x (ai_i a) (ai_i b) = some [(decide (a ≤ b), x)] := by
  show some ((cond (ai_ile a b) [(true, x)] []) ++ (cond (ai_ilt b a) [(false, x)] [])) = _
  by_cases h : a ≤ b
  · rw [(ai_ile_iff a b).mpr h, cm_ltf (by omega)]; simp [h]
  · rw [cm_lef h, (ai_ilt_iff b a).mpr (by omega)]; simp [h]
theorem cm_equ (x : ai_E) (a b : Int) : ai_eq x (ai_i a) (ai_i b) = some [(decide (a = b), x)] := by
  show some ((cond (ai_ile a b && ai_ile b a) [(true, x)] []) ++ (cond (ai_ieq b b) ((cond (ai_ilt a b) [(false, x)] []) ++ (cond (ai_ilt b a) [(false, x)] [])) [(false, x)])) = _
  rw [cm_ieq]
  by_cases h : a = b
  · subst h
    rw [(ai_ile_iff a a).mpr (by omega), cm_ltf (by omega)]; simp
  · by_cases h2 : a < b
    · rw [cm_lef (a := b) (b := a) (by omega), (ai_ilt_iff a b).mpr h2, cm_ltf (a := b) (b := a) (by omega)]; simp [h]
    · rw [cm_lef (a := a) (b := b) (by omega), cm_ltf h2, (ai_ilt_iff b a).mpr (by omega)]; simp [h]
def cm_cmp (c : ClassFile.Cond) (a b : Int) : Prop := match c with
  | .eq => a = b
  | .ne => a ≠ b
  | .lt => a < b
  | .ge => b ≤ a
  | .gt => b < a
  | .le => a ≤ b
theorem cm_cmp_ok (c : ClassFile.Cond) (x : ai_E) (a b : Int) : ∃ t : Bool, (t = true ↔ cm_cmp c a b) ∧ ai_cmp c x (ai_i a) (ai_i b) = some [(t, x)] := by
  cases c with
  | eq => exact ⟨decide (a = b), by simp [cm_cmp], cm_equ x a b⟩
  | ne => exact ⟨!decide (a = b), by simp [cm_cmp], by show ai_neg (ai_eq x (ai_i a) (ai_i b)) = _; rw [cm_equ]; rfl⟩
  | lt => exact ⟨decide (a < b), by simp [cm_cmp], cm_lt x a b⟩
  | ge => exact ⟨!decide (a < b), by simp [cm_cmp], by show ai_neg (ai_lt x (ai_i a) (ai_i b)) = _; rw [cm_lt]; rfl⟩
  | gt => exact ⟨!decide (a ≤ b), by simp [cm_cmp], by show ai_neg (ai_le x (ai_i a) (ai_i b)) = _; rw [cm_le]; rfl⟩
  | le => exact ⟨decide (a ≤ b), by simp [cm_cmp], cm_le x a b⟩
theorem w_icmp {c : ClassFile.Cond} {a b : Int} (hf : F pc = some (ai_o_icmp c npc pt)) (kt : cm_cmp c a b → cm_wp F call x A B Q pt loc st T E nx kc ks) (kf : ¬ cm_cmp c a b → cm_wp F call x A B Q npc loc st T E nx kc ks) : cm_wp F call x A B Q pc loc (ai_i b :: ai_i a :: st) T E nx kc ks := by
  obtain ⟨t, ht, he⟩ := cm_cmp_ok c x a b
  cases t with
  | true => exact cm_step hf (pc' := pt) (loc' := loc) (st' := st) (fun h _ K => by
      show ai_br npc pt K loc st (h, nx, kc, ks, x) (ai_cmp c x (ai_i a) (ai_i b)) = _
      rw [he]; rfl) (kt (ht.mp rfl))
  | false => exact cm_step hf (pc' := npc) (loc' := loc) (st' := st) (fun h _ K => by
      show ai_br npc pt K loc st (h, nx, kc, ks, x) (ai_cmp c x (ai_i a) (ai_i b)) = _
      rw [he]; rfl) (kf (fun q => by cases (ht.mpr q)))
theorem w_if {c : ClassFile.Cond} {a : Int} (hf : F pc = some (ai_o_if c npc pt)) (kt : cm_cmp c a 0 → cm_wp F call x A B Q pt loc st T E nx kc ks) (kf : ¬ cm_cmp c a 0 → cm_wp F call x A B Q npc loc st T E nx kc ks) : cm_wp F call x A B Q pc loc (ai_i a :: st) T E nx kc ks := by
  obtain ⟨t, ht, he⟩ := cm_cmp_ok c x a 0
  cases t with
  | true => exact cm_step hf (pc' := pt) (loc' := loc) (st' := st) (fun h _ K => by
      show ai_br npc pt K loc st (h, nx, kc, ks, x) (ai_cmp c x (ai_i a) (ai_i 0)) = _
      rw [he]; rfl) (kt (ht.mp rfl))
  | false => exact cm_step hf (pc' := npc) (loc' := loc) (st' := st) (fun h _ K => by
      show ai_br npc pt K loc st (h, nx, kc, ks, x) (ai_cmp c x (ai_i a) (ai_i 0)) = _
      rw [he]; rfl) (kf (fun q => by cases (ht.mpr q)))
theorem w_isnullN (hf : F pc = some (ai_o_isnull pt npc)) (k : cm_wp F call x A B Q pt loc st T E nx kc ks) : cm_wp F call x A B Q pc loc (ai_nul :: st) T E nx kc ks := cm_step hf (fun _ _ _ => rfl) k
theorem w_isnullR {i : Nat} (hf : F pc = some (ai_o_isnull pt npc)) (k : cm_wp F call x A B Q npc loc st T E nx kc ks) : cm_wp F call x A B Q pc loc (cr i :: st) T E nx kc ks := cm_step hf (fun _ _ _ => rfl) k
theorem w_acmp {u v : ai_V} (hf : F pc = some (ai_o_acmp npc pt)) (hv : ai_isr v.1 = true) (hu : ai_isr u.1 = true) (kt : cm_wp F call x A B Q pt loc st T E nx kc ks) (kf : cm_wp F call x A B Q npc loc st T E nx kc ks) : cm_wp F call x A B Q pc loc (v :: u :: st) T E nx kc ks := by
  intro h hR
  obtain ⟨r1, n1, a1, a2, ⟨a3, a4, a5, a6⟩, a7⟩ := kt h hR
  obtain ⟨r2, n2, b1, b2, ⟨b3, b4, b5, b6⟩, b7⟩ := kf h hR
  obtain ⟨o1, p1, q1⟩ := r1
  obtain ⟨o2, p2, q2⟩ := r2
  refine ⟨(o1 ++ o2, max p1 p2, max q1 q2), max n1 n2 + 1, fun m hm => ?_, ?_, ⟨?_, ?_, ?_, ?_⟩, fun o ho => ?_⟩
  · obtain ⟨m', rfl⟩ : ∃ m', m = m' + 1 := ⟨m - 1, by omega⟩
    have e1 := a1 m' (by omega)
    have e2 := b1 m' (by omega)
    rw [ai_run_s, hf]
    show cond (ai_isr v.1 && ai_isr u.1) (ai_join (ai_run F call m' pt loc st (h, nx, kc, ks, x)) (ai_run F call m' npc loc st (h, nx, kc, ks, x))) none = _
    rw [hv, hu, e1, e2]; rfl
  · intro q
    exact a2 (List.append_eq_nil_iff.mp q).1
  · exact Nat.le_trans a3 (Nat.le_max_left _ _)
  · exact Nat.max_le.mpr ⟨a4, b4⟩
  · exact Nat.le_trans a5 (Nat.le_max_left _ _)
  · exact Nat.max_le.mpr ⟨a6, b6⟩
  · rcases List.mem_append.mp ho with q | q
    · exact a7 o q
    · exact b7 o q
theorem w_getf {i ci k : Nat} {v : ai_V} (hf : F pc = some (ai_o_getf ci k npc)) (hi : i < nx) (hT : T i = (0, ci)) (hk : k < cm_fn ci) (hv : E i k = v) (kk : cm_wp F call x A B Q npc loc (v :: st) T E nx kc ks) : cm_wp F call x A B Q pc loc (cr i :: st) T E nx kc ks := by
  refine cm_step hf (fun h hR K => ?_) kk
  have hc := hR.cell hi kc ks x
  obtain ⟨-, H⟩ := hR
  obtain ⟨a1, a2, a3, a4⟩ := H i hi
  rw [hT] at a1 a2 a3
  have a3 := a3 rfl
  have a4 := a4 k (by unfold cm_sz; rw [hT]; exact hk)
  unfold ai_o_getf
  simp only [hc]
  generalize ai_get 10 h i = cl at a1 a2 a3 a4
  obtain ⟨t, c, fs, z⟩ := cl
  have a1 : t = 0 := a1
  have a2 : c = ci := a2
  subst a1 a2
  simp only
  have e1 : Nat.blt k fs.length = true := Nat.ble_eq_true_of_le (by rw [show fs.length = cm_fn c from a3]; exact hk)
  rw [show (Nat.beq 0 0 && Nat.beq c c && Nat.blt k fs.length) = true by simp only [cm_bb, e1, Bool.and_self]]
  simp only [cond_true]
  have a4 : ai_nth ai_un fs k = E i k := a4
  rw [a4, hv]
theorem w_putf {i ci k t : Nat} {v : ai_V} (hf : F pc = some (ai_o_putf ci k t npc)) (hi : i < nx) (hT : T i = (0, ci)) (hk : k < cm_fn ci) (hv : ai_fits t x v = true) (kk : cm_wp F call x A B Q npc loc st T (cm_up E i k v) nx kc ks) : cm_wp F call x A B Q pc loc (v :: cr i :: st) T E nx kc ks := by
  refine cm_stepE hf (fun h hR => ?_) (Nat.le_refl _) (Nat.le_refl _) kk
  have hc := hR.cell hi kc ks x
  obtain ⟨a1, a2, a3, a4⟩ := hR.2 i hi
  have hput := fun c => hR.put (v := v) (k := k) (c := c) hi (by unfold cm_sz; rw [hT]; exact hk)
  rw [hT] at a1 a2 a3 hput
  have a3 := a3 rfl
  unfold ai_o_putf
  simp only [hc]
  generalize hcl : ai_get 10 h i = cl at a1 a2 a3 a4 hput
  obtain ⟨t9, c, fs, z⟩ := cl
  have a1 : t9 = 0 := a1
  have a2 : c = ci := a2
  subst a1 a2
  simp only
  have e1 : Nat.blt k fs.length = true := Nat.ble_eq_true_of_le (by rw [show fs.length = cm_fn c from a3]; exact hk)
  refine ⟨_, hput (0, c, ai_upd fs k v, z) rfl rfl (fun _ => rfl) (fun q => absurd rfl q), fun K => ?_⟩
  rw [show (Nat.beq 0 0 && Nat.beq c c && Nat.blt k fs.length && ai_fits t (ai_x (h, nx, kc, ks, x)) v) = true by
    show (Nat.beq 0 0 && Nat.beq c c && Nat.blt k fs.length && ai_fits t x v) = true
    simp only [cm_bb, e1, hv, Bool.and_self]]
  rfl
theorem cm_fit0 {x : ai_E} {z : Int} : ai_fits 0 x (ai_i z) = true := rfl
theorem cm_fit1 {x : ai_E} {z : Int} (h : 0 ≤ z ∧ z ≤ 1) : ai_fits 1 x (ai_i z) = true := by
  show (ai_ile 0 z && ai_ile z 1) = true
  rw [(ai_ile_iff _ _).mpr h.1, (ai_ile_iff _ _).mpr h.2]; rfl
theorem cm_fit2 {x : ai_E} {i : Nat} : ai_fits 2 x (cr i) = true := rfl
theorem cm_fit2N {x : ai_E} : ai_fits 2 x ai_nul = true := rfl
theorem w_len {sl : Int × Int} {i t n : Nat} (hf : F pc = some (ai_o_len sl npc)) (hi : i < nx) (hT : T i = (t, n)) (ht : 1 ≤ t) (kk : cm_wp F call x A B Q npc loc (ai_i n :: st) T E nx kc ks) : cm_wp F call x A B Q pc loc (cr i :: st) T E nx kc ks := by
  refine cm_step hf (fun h hR K => ?_) kk
  have hc := hR.cell hi kc ks x
  obtain ⟨a1, a2, -, -⟩ := hR.2 i hi
  rw [hT] at a1 a2
  unfold ai_o_len
  show cond (Nat.beq 3 6) _ (match ai_cell (h, nx, kc, ks, x) (cr i) with | some (_, t, n, _, _) => cond (Nat.ble 1 t) (K npc loc (ai_i (.ofNat n) :: st) (h, nx, kc, ks, x)) none | none => none) = _
  rw [hc]
  generalize ai_get 10 h i = cl at a1 a2
  obtain ⟨t9, c, fs, z⟩ := cl
  have a1 : t9 = t := a1
  have a2 : c = n := a2
  subst a1 a2
  show cond false _ (cond (Nat.ble 1 t9) _ none) = _
  rw [Nat.ble_eq_true_of_le ht]; rfl
theorem cm_vals (x : ai_E) {z : Int} (h : 0 ≤ z) : ai_vals x (ai_i z) = some [(z.toNat, x)] := by
  show cond (ai_ile 0 z && ai_ile z (z + 12)) (some ((List.range (z + 1 - z).toNat).map (fun i => (z.toNat + i, ai_ref x (ai_i z) (z + i) (z + i))))) none = _
  rw [(ai_ile_iff _ _).mpr h, (ai_ile_iff _ _).mpr (by omega), show (z + 1 - z).toNat = 1 by omega]
  rfl
theorem w_ald {sl : Int × Int} {p : Nat → Bool} {i t n : Nat} {z : Int} {v : ai_V} (hf : F pc = some (ai_o_ald sl p npc)) (hi : i < nx) (hT : T i = (t, n)) (ht : t ≠ 0) (hp : p t = true) (hz : 0 ≤ z ∧ z < n) (hv : E i z.toNat = v) (kk : cm_wp F call x A B Q npc loc (v :: st) T E nx kc ks) : cm_wp F call x A B Q pc loc (ai_i z :: cr i :: st) T E nx kc ks := by
  refine cm_step hf (fun h hR K => ?_) kk
  have hc := hR.cell hi kc ks x
  obtain ⟨a1, a2, -, a4⟩ := hR.2 i hi
  have hlt : z.toNat < n := by omega
  have a4 := a4 z.toNat (by unfold cm_sz; rw [hT]; simp only; rw [if_neg ht]; exact hlt)
  rw [hT] at a1 a2
  unfold ai_o_ald
  show (match ai_vals x (ai_i z) with
    | some l => cond (Nat.beq 3 6) _ (match ai_cell (h, nx, kc, ks, x) (cr i) with
      | some (_, t, n, d, us) => cond (p t && l.all (fun q => Nat.blt (Prod.fst q) n)) (ai_all (fun q => K npc loc (ai_lk us (ai_nth ai_un d 0) (Prod.fst q) :: st) (ai_ge (h, nx, kc, ks, x) (Prod.snd q))) l) none
      | none => none)
    | none => none) = _
  rw [cm_vals x hz.1, hc]
  generalize ai_get 10 h i = cl at a1 a2 a4
  obtain ⟨t9, c, d, us⟩ := cl
  have a1 : t9 = t := a1
  have a2 : c = n := a2
  subst a1 a2
  show cond (p t9 && ([(z.toNat, x)].all (fun q => Nat.blt (Prod.fst q) c))) (ai_all (fun q => K npc loc (ai_lk us (ai_nth ai_un d 0) (Prod.fst q) :: st) (ai_ge (h, nx, kc, ks, x) (Prod.snd q))) [(z.toNat, x)]) none = _
  have e1 : Nat.blt z.toNat c = true := Nat.ble_eq_true_of_le hlt
  rw [hp, show ([(z.toNat, x)].all (fun q => Nat.blt (Prod.fst q) c)) = true by simp only [List.all_cons, List.all_nil, e1]; rfl]
  show K npc loc (ai_lk us (ai_nth ai_un d 0) z.toNat :: st) (h, nx, kc, ks, x) = _
  have a4 : (if t9 = 0 then ai_nth ai_un d z.toNat else ai_lk us (ai_nth ai_un d 0) z.toNat) = E i z.toNat := a4
  rw [if_neg ht] at a4
  rw [a4, hv]
/-- a number of the script -/
theorem w_scr {sl : Int × Int} {p : Nat → Bool} {z : Int} {v : ai_V} (hf : F pc = some (ai_o_ald sl p npc)) (hp : p 1 = true) (hz : 0 ≤ z ∧ z < sl.1) (hv : ai_sv x z.toNat = v) (kk : cm_wp F call x A B Q npc loc (v :: st) T E nx kc ks) : cm_wp F call x A B Q pc loc (ai_i z :: (6, 0, 0) :: st) T E nx kc ks := by
  refine cm_step hf (fun h hR K => ?_) kk
  unfold ai_o_ald
  show (match ai_vals x (ai_i z) with
    | some l => cond (Nat.beq 6 6) (cond (p 1 && l.all (fun q => ai_ilt (.ofNat (Prod.fst q)) (Prod.fst sl))) (ai_all (fun q => K npc loc (ai_sv x (Prod.fst q) :: st) (ai_ge (h, nx, kc, ks, x) (Prod.snd q))) l) none) _
    | none => none) = _
  rw [cm_vals x hz.1]
  show cond (p 1 && ([(z.toNat, x)].all (fun q => ai_ilt (.ofNat (Prod.fst q)) (Prod.fst sl)))) (K npc loc (ai_sv x z.toNat :: st) (h, nx, kc, ks, x)) none = _
  rw [hp, show ([(z.toNat, x)].all (fun q => ai_ilt (.ofNat (Prod.fst q)) (Prod.fst sl))) = true by simp only [List.all_cons, List.all_nil, Bool.and_true]; rw [ai_ilt_iff]; show (z.toNat : Int) < sl.1; omega]
  rw [hv]; rfl
theorem w_slen {sl : Int × Int} {n : Int} (hf : F pc = some (ai_o_len sl npc)) (hs : sl = (n, n)) (kk : cm_wp F call x A B Q npc loc (ai_i n :: st) T E nx kc ks) : cm_wp F call x A B Q pc loc ((6, 0, 0) :: st) T E nx kc ks := by
  subst hs
  exact cm_step hf (fun _ _ _ => rfl) kk
theorem w_ast {k i n : Nat} {z : Int} {v : ai_V} (hf : F pc = some (ai_o_ast k npc)) (hi : i < nx) (hT : T i = (k, n)) (hk : k ≠ 0) (hz : 0 ≤ z ∧ z < n) (hv : ai_afit k x v = true) (kk : cm_wp F call x A B Q npc loc st T (cm_up E i z.toNat v) nx kc ks) : cm_wp F call x A B Q pc loc (v :: ai_i z :: cr i :: st) T E nx kc ks := by
  refine cm_stepE hf (fun h hR => ?_) (Nat.le_refl _) (Nat.le_refl _) kk
  have hc := hR.cell hi kc ks x
  obtain ⟨a1, a2, -, -⟩ := hR.2 i hi
  have hlt : z.toNat < n := by omega
  have hput := fun c => hR.put (v := v) (k := z.toNat) (c := c) hi (by unfold cm_sz; rw [hT]; simp only; rw [if_neg hk]; exact hlt)
  rw [hT] at a1 a2 hput
  generalize hcl : ai_get 10 h i = cl at a1 a2 hput hc
  obtain ⟨t9, c, d, us⟩ := cl
  have a1 : t9 = k := a1
  have a2 : c = n := a2
  subst a1 a2
  refine ⟨_, hput (t9, c, d, (z.toNat, v) :: us) rfl rfl (fun q => absurd q hk) (fun _ => ⟨rfl, rfl⟩), fun K => ?_⟩
  unfold ai_o_ast
  simp only [hc]
  show (match ai_vals x (ai_i z) with
      | some l => cond (Nat.beq t9 t9 && l.all (fun q => Nat.blt (Prod.fst q) c) && ai_afit t9 x v) (ai_all (fun q => K npc loc st (ai_ge (ai_gh (h, nx, kc, ks, x) (ai_set 10 h i (t9, c, d, (Prod.fst q, v) :: us))) (Prod.snd q))) l) none
      | none => none) = _
  rw [cm_vals x hz.1]
  have e1 : Nat.blt z.toNat c = true := Nat.ble_eq_true_of_le hlt
  simp only [List.all_cons, List.all_nil, e1, hv, Nat.beq_refl, Bool.and_true, Bool.and_self, cond_true]
  rfl
theorem cm_af1 {x : ai_E} {z : Int} : ai_afit 1 x (ai_i z) = true := rfl
theorem cm_af2 {x : ai_E} {z : Int} (h : 0 ≤ z ∧ z ≤ 1) : ai_afit 2 x (ai_i z) = true := cm_fit1 (x := x) h
theorem w_aast {i k n : Nat} {z : Int} {v : ai_V} (hf : F pc = some (ai_o_aast npc)) (hi : i < nx) (hT : T i = (k, n)) (hk : k = 4 ∨ k = 5) (hz : 0 ≤ z ∧ z < n) (hv : v = ai_nul ∨ ∃ q, v = cr q ∧ q < nx ∧ T q = (0, ai_ofk k)) (kk : cm_wp F call x A B Q npc loc st T (cm_up E i z.toNat v) nx kc ks) : cm_wp F call x A B Q pc loc (v :: ai_i z :: cr i :: st) T E nx kc ks := by
  refine cm_stepE hf (fun h hR => ?_) (Nat.le_refl _) (Nat.le_refl _) kk
  have hc := hR.cell hi kc ks x
  have hk0 : k ≠ 0 := by omega
  obtain ⟨a1, a2, -, -⟩ := hR.2 i hi
  have hlt : z.toNat < n := by omega
  have hput := fun c => hR.put (v := v) (k := z.toNat) (c := c) hi (by unfold cm_sz; rw [hT]; simp only; rw [if_neg hk0]; exact hlt)
  have hfit : ai_rfit k (h, nx, kc, ks, x) v = true := by
    rcases hv with rfl | ⟨q, rfl, hq, hTq⟩
    · rfl
    · have hcq := hR.cell hq kc ks x
      obtain ⟨b1, b2, -, -⟩ := hR.2 q hq
      rw [hTq] at b1 b2
      show (match ai_cell (h, nx, kc, ks, x) (cr q) with | some (_, tg, c, _, _) => Nat.beq tg 0 && Nat.beq c (ai_ofk k) | none => false) = true
      rw [hcq]
      generalize ai_get 10 h q = cq at b1 b2
      obtain ⟨t8, c8, d8, u8⟩ := cq
      have b1 : t8 = 0 := b1
      have b2 : c8 = ai_ofk k := b2
      subst b1 b2
      show (Nat.beq 0 0 && Nat.beq (ai_ofk k) (ai_ofk k)) = true
      simp only [cm_bb, Bool.and_self]
  rw [hT] at a1 a2 hput
  generalize hcl : ai_get 10 h i = cl at a1 a2 hput hc
  obtain ⟨t9, c, d, us⟩ := cl
  have a1 : t9 = k := a1
  have a2 : c = n := a2
  subst a1 a2
  refine ⟨_, hput (t9, c, d, (z.toNat, v) :: us) rfl rfl (fun q => absurd q hk0) (fun _ => ⟨rfl, rfl⟩), fun K => ?_⟩
  unfold ai_o_aast
  simp only [hc]
  show (match ai_vals x (ai_i z) with
      | some l => cond ((Nat.beq t9 4 || Nat.beq t9 5) && l.all (fun q => Nat.blt (Prod.fst q) c) && ai_rfit t9 (h, nx, kc, ks, x) v) (ai_all (fun q => K npc loc st (ai_ge (ai_gh (h, nx, kc, ks, x) (ai_set 10 h i (t9, c, d, (Prod.fst q, v) :: us))) (Prod.snd q))) l) none
      | none => none) = _
  rw [cm_vals x hz.1]
  have e1 : Nat.blt z.toNat c = true := Nat.ble_eq_true_of_le hlt
  have e2 : (Nat.beq t9 4 || Nat.beq t9 5) = true := by rcases hk with rfl | rfl <;> rfl
  simp only [List.all_cons, List.all_nil, e1, e2, hfit, Bool.and_true, Bool.and_self, cond_true]
  rfl
end CM2
