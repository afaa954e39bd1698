/-! ===== new cells, calls, ends ===== -/
def cm_good (x : ai_E) (A B : Nat) (Q : cm_Q) (kc ks : Nat) (r : ai_R) : Prop :=
  r.1 ≠ [] ∧ (kc ≤ r.2.1 ∧ r.2.1 ≤ A ∧ ks ≤ r.2.2 ∧ r.2.2 ≤ B) ∧
    ∀ o ∈ r.1, ∃ (h' : ai_H) (nx' a b : Nat) (T' : cm_T) (E' : cm_E), o.2.2 = (h', nx', a, b, x) ∧ cm_Rep h' nx' T' E' ∧ Q o.1 o.2.1 T' E' nx'
theorem cm_good.join {x : ai_E} {A B : Nat} {Q : cm_Q} {kc ks : Nat} {r1 r2 : ai_R} (h1 : cm_good x A B Q kc ks r1) (h2 : cm_good x A B Q kc ks r2) : cm_good x A B Q kc ks (r1.1 ++ r2.1, max r1.2.1 r2.2.1, max r1.2.2 r2.2.2) := by
  obtain ⟨a2, ⟨a3, a4, a5, a6⟩, a7⟩ := h1
  obtain ⟨b2, ⟨b3, b4, b5, b6⟩, b7⟩ := h2
  refine ⟨fun q => a2 (List.append_eq_nil_iff.mp q).1, ⟨Nat.le_trans a3 (Nat.le_max_left _ _), Nat.max_le.mpr ⟨a4, b4⟩, Nat.le_trans a5 (Nat.le_max_left _ _), Nat.max_le.mpr ⟨a6, b6⟩⟩, fun o ho => ?_⟩
  rcases List.mem_append.mp ho with q | q
  · exact a7 o q
  · exact b7 o q
theorem cm_good.mono {x : ai_E} {A B : Nat} {Q : cm_Q} {kc ks kc' ks' : Nat} {r : ai_R} (h : cm_good x A B Q kc' ks' r) (h1 : kc ≤ kc') (h2 : ks ≤ ks') : cm_good x A B Q kc ks r := by
  obtain ⟨a2, ⟨a3, a4, a5, a6⟩, a7⟩ := h
  exact ⟨a2, ⟨by omega, a4, by omega, a6⟩, a7⟩
theorem cm_all_ev {α : Type} {x : ai_E} {A B : Nat} {Q : cm_Q} {kc ks : Nat} {G : Nat → α → Option ai_R} : ∀ {l : List α}, l ≠ [] → (∀ q ∈ l, ∃ (r : ai_R) (n : Nat), (∀ m, n ≤ m → G m q = some r) ∧ cm_good x A B Q kc ks r) →
    ∃ (r : ai_R) (n : Nat), (∀ m, n ≤ m → ai_all (G m) l = some r) ∧ cm_good x A B Q kc ks r
  | [], h, _ => absurd rfl h
  | [q], _, h => by
    obtain ⟨r, n, h1, h2⟩ := h q List.mem_cons_self
    exact ⟨r, n, fun m hm => h1 m hm, h2⟩
  | q :: q2 :: l, _, h => by
    obtain ⟨r1, n1, a1, a2⟩ := h q List.mem_cons_self
    obtain ⟨r2, n2, b1, b2⟩ := cm_all_ev (l := q2 :: l) (by simp) (fun z hz => h z (List.mem_cons_of_mem _ hz))
    refine ⟨(r1.1 ++ r2.1, max r1.2.1 r2.2.1, max r1.2.2 r2.2.2), max n1 n2, fun m hm => ?_, a2.join b2⟩
    show ai_join (G m q) (ai_all (G m) (q2 :: l)) = _
    rw [a1 m (by omega), b1 m (by omega)]
    rfl
section CM3
variable {F : Nat → Option ai_Op} {call : ai_K} {x : ai_E} {A B : Nat} {Q : cm_Q} {pc npc pt : Nat} {loc st : List ai_V} {T : cm_T} {E : cm_E} {nx kc ks : Nat}
/-- what an operation comes to -/
def cm_op (F : Nat → Option ai_Op) (call : ai_K) (x : ai_E) (A B : Nat) (Q : cm_Q) (o : ai_Op) (loc st : List ai_V) (T : cm_T) (E : cm_E) (nx kc ks : Nat) : Prop :=
  ∀ h, cm_Rep h nx T E → ∃ (r : ai_R) (n : Nat), (∀ m, n ≤ m → o call (ai_run F call m) loc st (h, nx, kc, ks, x) = some r) ∧ cm_good x A B Q kc ks r
theorem cm_op.wp {o : ai_Op} (hf : F pc = some o) (h : cm_op F call x A B Q o loc st T E nx kc ks) : cm_wp F call x A B Q pc loc st T E nx kc ks := by
  intro h0 hR
  obtain ⟨r, n, h1, h2⟩ := h h0 hR
  refine ⟨r, n + 1, fun m hm => ?_, h2⟩
  obtain ⟨m', rfl⟩ : ∃ m', m = m' + 1 := ⟨m - 1, by omega⟩
  rw [ai_run_s, hf]
  exact h1 m' (by omega)
theorem cm_end {o : ai_Op} {k : Nat} {v : ai_V} (hf : F pc = some o) (ho : ∀ (K : ai_K4) (g : ai_G), o call K loc st g = ai_end k v g) (hQ : Q k v T E nx) (hA : kc ≤ A) (hB : ks ≤ B) : cm_wp F call x A B Q pc loc st T E nx kc ks := by
  refine cm_op.wp hf (fun h hR => ⟨([(k, v, (h, nx, kc, ks, x))], kc, ks), 0, fun m _ => ho _ _, by simp, ⟨Nat.le_refl _, hA, Nat.le_refl _, hB⟩, fun o9 ho9 => ?_⟩)
  rw [List.mem_singleton.mp ho9]
  exact ⟨h, nx, kc, ks, T, E, rfl, hR, hQ⟩
theorem w_iret {z : Int} (hf : F pc = some ai_o_iret) (hQ : Q 1 (ai_i z) T E nx) (hA : kc ≤ A) (hB : ks ≤ B) : cm_wp F call x A B Q pc loc [ai_i z] T E nx kc ks := cm_end hf (fun _ _ => rfl) hQ hA hB
theorem w_zret {z : Int} (hf : F pc = some ai_o_zret) (hz : 0 ≤ z ∧ z ≤ 1) (hQ : Q 1 (ai_i z) T E nx) (hA : kc ≤ A) (hB : ks ≤ B) : cm_wp F call x A B Q pc loc [ai_i z] T E nx kc ks := cm_end hf (fun _ g => by
  show cond (ai_fits 1 (ai_x g) (ai_i z)) _ none = _
  rw [cm_fit1 hz]; rfl) hQ hA hB
theorem w_aret {v : ai_V} (hf : F pc = some ai_o_aret) (hv : v = ai_nul ∨ ∃ i, v = cr i) (hQ : Q 1 v T E nx) (hA : kc ≤ A) (hB : ks ≤ B) : cm_wp F call x A B Q pc loc [v] T E nx kc ks := by
  rcases hv with rfl | ⟨i, rfl⟩ <;> exact cm_end hf (fun _ _ => rfl) hQ hA hB
theorem w_vret (hf : F pc = some ai_o_vret) (hQ : Q 0 ai_nul T E nx) (hA : kc ≤ A) (hB : ks ≤ B) : cm_wp F call x A B Q pc loc [] T E nx kc ks := cm_end hf (fun _ _ => rfl) hQ hA hB
theorem w_throw {k : Nat} (hf : F pc = some (ai_o_throw k)) (hQ : Q k ai_nul T E nx) (hA : kc + 1 ≤ A) (hB : ks + 6 ≤ B) : cm_wp F call x A B Q pc loc [] T E nx kc ks := by
  refine cm_op.wp hf (fun h hR => ⟨([(k, ai_nul, (h, nx, kc + 1, ks + 6, x))], kc + 1, ks + 6), 0, fun m _ => rfl, by simp, ⟨Nat.le_succ _, hA, Nat.le_add_right _ _, hB⟩, fun o9 ho9 => ?_⟩)
  rw [List.mem_singleton.mp ho9]
  exact ⟨h, nx, kc + 1, ks + 6, T, E, rfl, hR, hQ⟩
/-- a call: what comes behind each of its outcomes -/
theorem cm_callop {vk : Bool} {j n h2 h3 ea eb : Nat} {a rest : List ai_V} {Q1 : cm_Q} (ht : (st.take n).reverse = a) (hd : st.drop n = rest) (hn : Nat.ble n st.length = true) (h5 : (Nat.ble rest.length 5 && rest.all ai_w1) = true)
    (hc : cm_ct call x j a T E nx ea eb Q1) (hv : vk = true ∨ ∀ k v T' E' n', Q1 k v T' E' n' → k ≤ 1)
    (kk : ∀ k v T' E' nx' kc' ks', Q1 k v T' E' nx' → (kc ≤ kc' ∧ kc' ≤ kc + ea) → (ks ≤ ks' ∧ ks' ≤ ks + eb) →
      (k = 0 ∧ cm_wp F call x A B Q npc loc rest T' E' nx' kc' ks') ∨ (k = 1 ∧ cm_wp F call x A B Q npc loc (v :: rest) T' E' nx' kc' ks') ∨ (k = 2 ∧ h2 = 0 ∧ Q 2 v T' E' nx' ∧ kc' ≤ A ∧ ks' ≤ B) ∨ (k = 3 ∧ h3 = 0 ∧ Q 3 v T' E' nx' ∧ kc' ≤ A ∧ ks' ≤ B) ∨
      (k = 2 ∧ h2 ≠ 0 ∧ cm_wp F call x A B Q h2 loc [(7, 0, 0)] T' E' nx' kc' ks') ∨ (k = 3 ∧ h3 ≠ 0 ∧ cm_wp F call x A B Q h3 loc [(7, 0, 0)] T' E' nx' kc' ks')) : cm_op F call x A B Q (ai_o_call vk j n h2 h3 npc) loc st T E nx kc ks := by
  intro h hR
  obtain ⟨⟨os, x1, x2⟩, c1, c2, ⟨c3, c4, c5, c6⟩, c7⟩ := hc h kc ks hR
  subst hd ht
  have hev := cm_all_ev (x := x) (A := A) (B := B) (Q := Q) (kc := kc) (ks := ks) (G := fun m => ai_cont npc (ai_run F call m) loc (st.drop n) h2 h3 x1 x2) (l := os) c2 (fun q hq => by
    obtain ⟨h', nx', a', b', T', E', d1, d2, d3⟩ := c7 q hq
    obtain ⟨k, v, g⟩ := q
    have d1 : g = (h', nx', a', b', x) := d1
    subst d1
    have hg : ai_gk (h', nx', a', b', x) x1 x2 = (h', nx', x1, x2, x) := rfl
    have fin : ∀ {pc9 : Nat} {st9 : List ai_V}, cm_wp F call x A B Q pc9 loc st9 T' E' nx' x1 x2 → ∃ (r : ai_R) (n : Nat), (∀ m, n ≤ m → ai_run F call m pc9 loc st9 (h', nx', x1, x2, x) = some r) ∧ cm_good x A B Q kc ks r := by
      intro pc9 st9 hw
      obtain ⟨r, n9, e1, e2⟩ := hw h' d2
      exact ⟨r, n9, e1, cm_good.mono e2 c3 c5⟩
    have one : ∀ {k9 : Nat}, Q k9 v T' E' nx' → x1 ≤ A → x2 ≤ B → cm_good x A B Q kc ks ([(k9, v, (h', nx', x1, x2, x))], x1, x2) := fun hq9 hA hB => ⟨by simp, ⟨c3, hA, c5, hB⟩, fun o9 ho9 => by
      rw [List.mem_singleton.mp ho9]
      exact ⟨h', nx', x1, x2, T', E', rfl, d2, hq9⟩⟩
    rcases kk k v T' E' nx' x1 x2 d3 ⟨c3, c4⟩ ⟨c5, c6⟩ with ⟨rfl, hw⟩ | ⟨rfl, hw⟩ | ⟨rfl, rfl, hq9, hA, hB⟩ | ⟨rfl, rfl, hq9, hA, hB⟩ | ⟨rfl, hne, hw⟩ | ⟨rfl, hne, hw⟩
    · exact fin hw
    · exact fin hw
    · exact ⟨_, 0, fun m _ => rfl, one hq9 hA hB⟩
    · exact ⟨_, 0, fun m _ => rfl, one hq9 hA hB⟩
    · obtain ⟨r, n9, e1, e2⟩ := fin hw
      refine ⟨r, n9, fun m hm => ?_, e2⟩
      show cond (Nat.beq h2 0) _ (ai_run F call m h2 loc [(7, 0, 0)] (h', nx', x1, x2, x)) = _
      rw [show Nat.beq h2 0 = false by cases hb : Nat.beq h2 0 with | false => rfl | true => exact absurd (Nat.eq_of_beq_eq_true hb) hne]
      exact e1 m hm
    · obtain ⟨r, n9, e1, e2⟩ := fin hw
      refine ⟨r, n9, fun m hm => ?_, e2⟩
      show cond (Nat.beq h3 0) _ (ai_run F call m h3 loc [(7, 0, 0)] (h', nx', x1, x2, x)) = _
      rw [show Nat.beq h3 0 = false by cases hb : Nat.beq h3 0 with | false => rfl | true => exact absurd (Nat.eq_of_beq_eq_true hb) hne]
      exact e1 m hm)
  obtain ⟨r, n9, e1, e2⟩ := hev
  refine ⟨r, n9, fun m hm => ?_, e2⟩
  unfold ai_o_call
  rw [hn, h5]
  simp only [Bool.and_self, cond_true, c1]
  have hvk : (vk || os.all (fun q => Nat.ble (Prod.fst q) 1)) = true := by
    rcases hv with rfl | hv
    · rfl
    · rw [Bool.or_eq_true, List.all_eq_true]
      refine Or.inr (fun q hq => ?_)
      obtain ⟨h', nx', a', b', T', E', d1, d2, d3⟩ := c7 q hq
      exact Nat.ble_eq_true_of_le (hv _ _ _ _ _ d3)
  have e5 : Nat.ble (ai_kc (h, nx, kc, ks, x)) x1 = true := Nat.ble_eq_true_of_le c3
  have e6 : Nat.ble (ai_ks (h, nx, kc, ks, x)) x2 = true := Nat.ble_eq_true_of_le c5
  rw [hvk, e5, e6]
  exact e1 m hm
theorem w_call {vk : Bool} {j n h2 h3 ea eb : Nat} {a rest : List ai_V} {Q1 : cm_Q} (hf : F pc = some (ai_o_call vk j n h2 h3 npc)) (ht : (st.take n).reverse = a) (hd : st.drop n = rest) (hn : Nat.ble n st.length = true) (h5 : (Nat.ble rest.length 5 && rest.all ai_w1) = true)
    (hc : cm_ct call x j a T E nx ea eb Q1) (hv : vk = true ∨ ∀ k v T' E' n', Q1 k v T' E' n' → k ≤ 1)
    (kk : ∀ k v T' E' nx' kc' ks', Q1 k v T' E' nx' → (kc ≤ kc' ∧ kc' ≤ kc + ea) → (ks ≤ ks' ∧ ks' ≤ ks + eb) →
      (k = 0 ∧ cm_wp F call x A B Q npc loc rest T' E' nx' kc' ks') ∨ (k = 1 ∧ cm_wp F call x A B Q npc loc (v :: rest) T' E' nx' kc' ks') ∨ (k = 2 ∧ h2 = 0 ∧ Q 2 v T' E' nx' ∧ kc' ≤ A ∧ ks' ≤ B) ∨ (k = 3 ∧ h3 = 0 ∧ Q 3 v T' E' nx' ∧ kc' ≤ A ∧ ks' ≤ B) ∨
      (k = 2 ∧ h2 ≠ 0 ∧ cm_wp F call x A B Q h2 loc [(7, 0, 0)] T' E' nx' kc' ks') ∨ (k = 3 ∧ h3 ≠ 0 ∧ cm_wp F call x A B Q h3 loc [(7, 0, 0)] T' E' nx' kc' ks')) : cm_wp F call x A B Q pc loc st T E nx kc ks := cm_op.wp hf (cm_callop ht hd hn h5 hc hv kk)
theorem w_virt {vk : Bool} {ci i j n h2 h3 ea eb : Nat} {a rest : List ai_V} {Q1 : cm_Q} (hf : F pc = some (ai_o_virt vk ci j n h2 h3 npc)) (hr : ai_nth ai_un st (Nat.pred n) = cr i) (hi : i < nx) (hT : T i = (0, ci)) (ht : (st.take n).reverse = a) (hd : st.drop n = rest) (hn : Nat.ble n st.length = true) (h5 : (Nat.ble rest.length 5 && rest.all ai_w1) = true)
    (hc : cm_ct call x j a T E nx ea eb Q1) (hv : vk = true ∨ ∀ k v T' E' n', Q1 k v T' E' n' → k ≤ 1)
    (kk : ∀ k v T' E' nx' kc' ks', Q1 k v T' E' nx' → (kc ≤ kc' ∧ kc' ≤ kc + ea) → (ks ≤ ks' ∧ ks' ≤ ks + eb) →
      (k = 0 ∧ cm_wp F call x A B Q npc loc rest T' E' nx' kc' ks') ∨ (k = 1 ∧ cm_wp F call x A B Q npc loc (v :: rest) T' E' nx' kc' ks') ∨ (k = 2 ∧ h2 = 0 ∧ Q 2 v T' E' nx' ∧ kc' ≤ A ∧ ks' ≤ B) ∨ (k = 3 ∧ h3 = 0 ∧ Q 3 v T' E' nx' ∧ kc' ≤ A ∧ ks' ≤ B) ∨
      (k = 2 ∧ h2 ≠ 0 ∧ cm_wp F call x A B Q h2 loc [(7, 0, 0)] T' E' nx' kc' ks') ∨ (k = 3 ∧ h3 ≠ 0 ∧ cm_wp F call x A B Q h3 loc [(7, 0, 0)] T' E' nx' kc' ks')) : cm_wp F call x A B Q pc loc st T E nx kc ks := by
  refine cm_op.wp hf (fun h hR => ?_)
  obtain ⟨r, n9, e1, e2⟩ := cm_callop (F := F) (vk := vk) (h2 := h2) (h3 := h3) (npc := npc) (loc := loc) (A := A) (B := B) (Q := Q) (kc := kc) (ks := ks) ht hd hn h5 hc hv kk h hR
  refine ⟨r, n9, fun m hm => ?_, e2⟩
  have e1 := e1 m hm
  have hcl := hR.cell hi kc ks x
  obtain ⟨a1, a2, -, -⟩ := hR.2 i hi
  rw [hT] at a1 a2
  unfold ai_o_virt
  rw [hr, hcl]
  generalize ai_get 10 h i = cl at a1 a2
  obtain ⟨t9, c9, fs, z⟩ := cl
  have a1 : t9 = 0 := a1
  have a2 : c9 = ci := a2
  subst a1 a2
  show cond (Nat.beq 0 0 && Nat.beq c9 c9) _ none = _
  rw [show (Nat.beq 0 0 && Nat.beq c9 c9) = true by simp only [cm_bb, Bool.and_self]]
  exact e1
theorem w_new {ci : Nat} (hf : F pc = some (ai_o_new ci (ai_fld ci) npc)) (hn : nx < 1024)
    (kk : cm_wp F call x A B Q npc loc (cr nx :: st) (fun i => if i = nx then (0, ci) else T i) (fun i k => if i = nx then ai_nth ai_un (ai_fld ci) k else E i k) (nx + 1) (kc + 1) (ks + cm_fn ci)) : cm_wp F call x A B Q pc loc st T E nx kc ks := by
  refine cm_stepE hf (fun h hR => ⟨ai_set 10 h nx (0, ci, ai_fld ci, []), ?_, fun K => ?_⟩) (Nat.le_succ _) (Nat.le_add_right _ _) kk
  · exact hR.push hn (fun _ => rfl)
  · show cond (Nat.blt nx 1024) _ none = _
    rw [show Nat.blt nx 1024 = true from Nat.ble_eq_true_of_le hn]
    rfl
theorem w_newa {t : Nat} {dv : ai_V} {z : Int} (hf : F pc = some (ai_o_newa t dv npc)) (ht : t ≠ 0) (hz : 0 ≤ z ∧ z ≤ 1000000) (hn : nx < 1024)
    (kk : cm_wp F call x A B Q npc loc (cr nx :: st) (fun i => if i = nx then (t, z.toNat) else T i) (fun i k => if i = nx then dv else E i k) (nx + 1) (kc + 1) (ks + z.toNat)) : cm_wp F call x A B Q pc loc (ai_i z :: st) T E nx kc ks := by
  refine cm_stepE hf (fun h hR => ⟨ai_set 10 h nx (t, z.toNat, [dv], []), ?_, fun K => ?_⟩) (Nat.le_succ _) (Nat.le_add_right _ _) kk
  · have h1 := hR.push (c := (t, z.toNat, [dv], [])) hn (fun q => absurd q ht)
    have e1 : (fun (i k : Nat) => if i = nx then cm_el (t, z.toNat, [dv], []) k else E i k) = (fun i k => if i = nx then dv else E i k) := by
      funext i k
      unfold cm_el
      rw [if_neg (show ¬ (t, z.toNat, [dv], ([] : List (Nat × ai_V))).1 = 0 from ht)]
      rfl
    rw [e1] at h1
    exact h1
  · show (match ai_one x (ai_i z) with | some a => cond (ai_ile 0 a && ai_ile a 1000000) (ai_mk (t, a.toNat, [dv], []) a.toNat npc K loc st (h, nx, kc, ks, x)) none | none => none) = _
    rw [cm_one]
    simp only
    rw [(ai_ile_iff _ _).mpr hz.1, (ai_ile_iff _ _).mpr hz.2]
    show cond (Nat.blt nx 1024) _ none = _
    rw [show Nat.blt nx 1024 = true from Nat.ble_eq_true_of_le hn]
    rfl
theorem w_max {a b : Int} (hf : F pc = some (ai_o_mm true npc)) (h4 : Nat.ble st.length 4 = true) (kk : cm_wp F call x A B Q npc loc (ai_i (max a b) :: st) T E nx kc ks) : cm_wp F call x A B Q pc loc (ai_i b :: ai_i a :: st) T E nx kc ks := by
  refine cm_step hf (fun h _ K => ?_) kk
  show cond (Nat.ble st.length 4) (match ai_lt x (ai_i a) (ai_i b) with | some l => ai_all (fun q => K npc loc ((cond (Prod.fst q) (ai_i b) (ai_i a)) :: st) (ai_ge (h, nx, kc, ks, x) (Prod.snd q))) l | none => none) none = _
  rw [h4, cm_lt]
  show K npc loc ((cond (decide (a < b)) (ai_i b) (ai_i a)) :: st) (h, nx, kc, ks, x) = _
  by_cases hab : a < b
  · rw [decide_eq_true hab, show max a b = b by omega]; rfl
  · rw [decide_eq_false hab, show max a b = a by omega]; rfl
theorem w_min {a b : Int} (hf : F pc = some (ai_o_mm false npc)) (h4 : Nat.ble st.length 4 = true) (kk : cm_wp F call x A B Q npc loc (ai_i (min a b) :: st) T E nx kc ks) : cm_wp F call x A B Q pc loc (ai_i b :: ai_i a :: st) T E nx kc ks := by
  refine cm_step hf (fun h _ K => ?_) kk
  show cond (Nat.ble st.length 4) (match ai_lt x (ai_i b) (ai_i a) with | some l => ai_all (fun q => K npc loc ((cond (Prod.fst q) (ai_i b) (ai_i a)) :: st) (ai_ge (h, nx, kc, ks, x) (Prod.snd q))) l | none => none) none = _
  rw [h4, cm_lt]
  show K npc loc ((cond (decide (b < a)) (ai_i b) (ai_i a)) :: st) (h, nx, kc, ks, x) = _
  by_cases hab : b < a
  · rw [decide_eq_true hab, show min a b = b by omega]; rfl
  · rw [decide_eq_false hab, show min a b = a by omega]; rfl
theorem w_oinit {i : Nat} (hf : F pc = some (ai_o_oinit npc)) (kk : cm_wp F call x A B Q npc loc [] T E nx kc ks) : cm_wp F call x A B Q pc loc [cr i] T E nx kc ks := cm_step hf (fun _ _ _ => rfl) kk
theorem cm_flt (k : Nat) : ∀ n : Nat, (List.range n).filter (fun i => decide (i = k)) = if k < n then [k] else []
  | 0 => by simp
  | n + 1 => by
    rw [List.range_succ, List.filter_append, cm_flt k n]
    by_cases h1 : k < n
    · have : ¬ n = k := by omega
      simp [h1, this, show k < n + 1 by omega]
    · by_cases h2 : n = k
      · subst h2; simp
      · simp [h1, h2, show ¬ k < n + 1 by omega]
theorem cm_flt2 {z lo : Int} {n : Nat} : (List.range n).filter (fun (i : Nat) => ai_ile z (lo + (i : Int)) && ai_ile (lo + (i : Int)) z) = if lo ≤ z ∧ z < lo + n then [(z - lo).toNat] else [] := by
  by_cases h0 : lo ≤ z
  · have e1 : (fun (i : Nat) => ai_ile z (lo + (i : Int)) && ai_ile (lo + (i : Int)) z) = (fun i => decide (i = (z - lo).toNat)) := by
      funext i
      by_cases hi : i = (z - lo).toNat
      · rw [(ai_ile_iff _ _).mpr (by omega), (ai_ile_iff _ _).mpr (by omega)]; simp [hi]
      · rw [decide_eq_false hi]
        by_cases h1 : z ≤ lo + (i : Int)
        · rw [(ai_ile_iff _ _).mpr h1, cm_lef (by omega)]; rfl
        · rw [cm_lef h1]; rfl
    rw [e1, cm_flt]
    by_cases h2 : z < lo + n
    · rw [if_pos (by omega), if_pos ⟨h0, h2⟩]
    · rw [if_neg (by omega), if_neg (by omega)]
  · rw [if_neg (by omega), List.filter_eq_nil_iff]
    intro i _
    rw [cm_lef (a := lo + (i : Int)) (b := z) (by omega)]
    simp
theorem w_swd {lo hi z : Int} {df : Nat} {ts : List Nat} (hf : F pc = some (ai_o_sw lo hi df ts)) (hl : hi = lo + ts.length - 1) (hz : z < lo ∨ hi < z) (kk : cm_wp F call x A B Q df loc st T E nx kc ks) : cm_wp F call x A B Q pc loc (ai_i z :: st) T E nx kc ks := by
  refine cm_step hf (fun h _ K => ?_) kk
  show ai_all (fun (q : Nat × ai_E) => K (Prod.fst q) loc st (ai_ge (h, nx, kc, ks, x) (Prod.snd q))) ((cond (ai_ilt z lo) [(df, x)] []) ++ (cond (ai_ilt hi z) [(df, x)] []) ++
        ((List.range ts.length).filter (fun (i : Nat) => ai_ile z (lo + (i : Int)) && ai_ile (lo + (i : Int)) z)).map (fun (i : Nat) => (ai_nth df ts i, x))) = _
  rw [cm_flt2, if_neg (by omega)]
  rcases hz with hz | hz
  · rw [(ai_ilt_iff _ _).mpr hz, cm_ltf (by omega)]; rfl
  · rw [cm_ltf (show ¬ z < lo by omega), (ai_ilt_iff _ _).mpr hz]; rfl
theorem w_swc {lo hi z : Int} {df : Nat} {ts : List Nat} (i : Nat) (hf : F pc = some (ai_o_sw lo hi df ts)) (hl : hi = lo + ts.length - 1) (hz : z = lo + i) (hi2 : i < ts.length) (hp : ai_nth df ts i = pt) (kk : cm_wp F call x A B Q pt loc st T E nx kc ks) : cm_wp F call x A B Q pc loc (ai_i z :: st) T E nx kc ks := by
  refine cm_step hf (fun h _ K => ?_) kk
  show ai_all (fun (q : Nat × ai_E) => K (Prod.fst q) loc st (ai_ge (h, nx, kc, ks, x) (Prod.snd q))) ((cond (ai_ilt z lo) [(df, x)] []) ++ (cond (ai_ilt hi z) [(df, x)] []) ++
        ((List.range ts.length).filter (fun (i : Nat) => ai_ile z (lo + (i : Int)) && ai_ile (lo + (i : Int)) z)).map (fun (i : Nat) => (ai_nth df ts i, x))) = _
  rw [cm_flt2, if_pos (by omega), cm_ltf (show ¬ z < lo by omega), cm_ltf (show ¬ hi < z by omega), show (z - lo).toNat = i by omega]
  subst hp
  rfl
end CM3
