/-! ===== division, comparisons, values one by one ===== -/
/-- the two numbers that are made of the script's third: by 100 -/
theorem ai_ofInt100 : Int32.ofInt 100 = 100 := by decide
theorem ai_ofInt0 (x : Int32) : x + Int32.ofInt 0 = x := by
  have : Int32.ofInt 0 = 0 := by decide
  rw [this, Int32.add_zero]
theorem ai_div_ne {rho : Nat → Int32} {x : ai_E} {u v w : ai_V} {z : Int32} (hE : ai_EV rho x) (hv : ai_num rho v z) (h : ai_div x u v = some w) : ¬ z = 0 := by
  unfold ai_div at h
  cases h2 : ai_one x v with
  | none => simp only [h2] at h; cases h
  | some b =>
    simp only [h2] at h
    obtain ⟨ez, -⟩ := ai_one_ok hE hv h2
    cases hb : ai_ieq b 0 with
    | true => rw [hb] at h; cases h
    | false =>
      intro q
      have : b = 0 := by rw [← ez, q]; rfl
      rw [(ai_ieq_iff b 0).mpr this] at hb
      cases hb
theorem ai_div_ok {rho : Nat → Int32} (hD : ai_D rho) {x : ai_E} {u v w : ai_V} {y z : Int32} (hE : ai_EV rho x) (hu : ai_num rho u y) (hv : ai_num rho v z) (h : ai_div x u v = some w) : ai_num rho w (y / z) := by
  unfold ai_div at h
  cases h2 : ai_one x v with
  | none => simp only [h2] at h; cases h
  | some b =>
    simp only [h2] at h
    obtain ⟨ez, e2⟩ := ai_one_ok hE hv h2
    cases hb : ai_ieq b 0 with
    | true => rw [hb] at h; cases h
    | false =>
      rw [hb] at h
      simp only [cond_false] at h
      split at h
      · cases hc : ai_ieq b 100 with
        | false => rw [hc] at h; cases h; exact ai_num_full _
        | true =>
          rw [hc] at h
          cases h
          rcases hu with ⟨h0, -, -⟩ | ⟨-, hy⟩
          · cases h0
          · have hy : y = rho 2 + Int32.ofInt 0 := hy
            rw [ai_ofInt0] at hy
            refine Or.inr ⟨rfl, ?_⟩
            show y / z = rho 1006 + Int32.ofInt 0
            rw [ai_ofInt0, hD.1, hy, e2, (ai_ieq_iff b 100).mp hc, ai_ofInt100]
      · cases h1 : ai_one x u with
        | none =>
          simp only [h1] at h
          cases hc : ai_isn u with
          | false => rw [hc] at h; cases h
          | true => rw [hc] at h; cases h; exact ai_num_full _
        | some a =>
          simp only [h1, Option.some.injEq] at h
          subst h
          rw [← (ai_one_ok hE hu h1).2, ← e2]
          exact ai_num_i rfl
theorem ai_rem_ne {rho : Nat → Int32} {x : ai_E} {u v w : ai_V} {z : Int32} (hE : ai_EV rho x) (hv : ai_num rho v z) (h : ai_rem x u v = some w) : ¬ z = 0 := by
  unfold ai_rem at h
  cases h2 : ai_one x v with
  | none => simp only [h2] at h; cases h
  | some b =>
    simp only [h2] at h
    obtain ⟨ez, -⟩ := ai_one_ok hE hv h2
    cases hb : ai_ieq b 0 with
    | true => rw [hb] at h; cases h
    | false =>
      intro q
      have : b = 0 := by rw [← ez, q]; rfl
      rw [(ai_ieq_iff b 0).mpr this] at hb
      cases hb
theorem ai_rem_ok {rho : Nat → Int32} (hD : ai_D rho) {x : ai_E} {u v w : ai_V} {y z : Int32} (hE : ai_EV rho x) (hu : ai_num rho u y) (hv : ai_num rho v z) (h : ai_rem x u v = some w) : ai_num rho w (y - y / z * z) := by
  unfold ai_rem at h
  cases h2 : ai_one x v with
  | none => simp only [h2] at h; cases h
  | some b =>
    simp only [h2] at h
    obtain ⟨ez, e2⟩ := ai_one_ok hE hv h2
    cases hb : ai_ieq b 0 with
    | true => rw [hb] at h; cases h
    | false =>
      rw [hb] at h
      simp only [cond_false] at h
      split at h
      · cases hc : ai_ieq b 100 with
        | false => rw [hc] at h; cases h; exact ai_num_full _
        | true =>
          rw [hc] at h
          cases h
          rcases hu with ⟨h0, -, -⟩ | ⟨-, hy⟩
          · cases h0
          · have hy : y = rho 2 + Int32.ofInt 0 := hy
            rw [ai_ofInt0] at hy
            refine Or.inr ⟨rfl, ?_⟩
            show y - y / z * z = rho 1007 + Int32.ofInt 0
            rw [ai_ofInt0, hD.2.1, hy, e2, (ai_ieq_iff b 100).mp hc, ai_ofInt100]
      · cases h1 : ai_one x u with
        | none =>
          simp only [h1] at h
          cases hc : ai_isn u with
          | false => rw [hc] at h; cases h
          | true => rw [hc] at h; cases h; exact ai_num_full _
        | some a =>
          simp only [h1, Option.some.injEq] at h
          subst h
          rw [← (ai_one_ok hE hu h1).2, ← e2]
          exact ai_num_i rfl
/-- a list of ways: if the thing holds, some way says so, and so if it doesn't -/
def ai_way (rho : Nat → Int32) (l : ai_B) (c : Prop) : Prop := (c → ∃ q ∈ l, q.1 = true ∧ ai_EV rho q.2) ∧ (¬ c → ∃ q ∈ l, q.1 = false ∧ ai_EV rho q.2)
theorem ai_lt_ok {rho : Nat → Int32} {x : ai_E} {u v : ai_V} {y z : Int32} {l : ai_B} (hE : ai_EV rho x) (hu : ai_num rho u y) (hv : ai_num rho v z) (h : ai_lt x u v = some l) : ai_way rho l (y < z) := by
  unfold ai_lt at h
  cases h1 : ai_rng x u with
  | none => simp only [h1] at h; cases h
  | some q1 =>
    obtain ⟨a, b⟩ := q1
    cases h2 : ai_rng x v with
    | none => simp only [h1, h2] at h; cases h
    | some q2 =>
      obtain ⟨c, d⟩ := q2
      simp only [h1, h2, Option.some.injEq] at h
      subst h
      obtain ⟨r1, r2⟩ := ai_rng_ok hE hu h1
      obtain ⟨r3, r4⟩ := ai_rng_ok hE hv h2
      have by1 := ai_le32 y
      have bz1 := ai_le32 z
      rw [ai_way, Int32.lt_iff_toInt_lt]
      constructor
      · intro hc
        refine ⟨(true, ai_ref (ai_ref x u ai_lo (d - 1)) v (a + 1) ai_hi), List.mem_append_left _ ?_, rfl, ?_⟩
        · rw [(ai_ilt_iff a d).mpr (by omega)]; exact List.mem_singleton.mpr rfl
        · exact ai_ref_ok (ai_ref_ok hE hu (by rw [ai_lo_eq]; omega) (by omega)) hv (by omega) (by rw [ai_hi_eq]; omega)
      · intro hc
        refine ⟨(false, ai_ref (ai_ref x u c ai_hi) v ai_lo b), List.mem_append_right _ ?_, rfl, ?_⟩
        · rw [(ai_ile_iff c b).mpr (by omega)]; exact List.mem_singleton.mpr rfl
        · exact ai_ref_ok (ai_ref_ok hE hu (by omega) (by rw [ai_hi_eq]; omega)) hv (by rw [ai_lo_eq]; omega) (by omega)
theorem ai_le_ok {rho : Nat → Int32} {x : ai_E} {u v : ai_V} {y z : Int32} {l : ai_B} (hE : ai_EV rho x) (hu : ai_num rho u y) (hv : ai_num rho v z) (h : ai_le x u v = some l) : ai_way rho l (y ≤ z) := by
  unfold ai_le at h
  cases h1 : ai_rng x u with
  | none => simp only [h1] at h; cases h
  | some q1 =>
    obtain ⟨a, b⟩ := q1
    cases h2 : ai_rng x v with
    | none => simp only [h1, h2] at h; cases h
    | some q2 =>
      obtain ⟨c, d⟩ := q2
      simp only [h1, h2, Option.some.injEq] at h
      subst h
      obtain ⟨r1, r2⟩ := ai_rng_ok hE hu h1
      obtain ⟨r3, r4⟩ := ai_rng_ok hE hv h2
      have by1 := ai_le32 y
      have bz1 := ai_le32 z
      rw [ai_way, Int32.le_iff_toInt_le]
      constructor
      · intro hc
        refine ⟨(true, ai_ref (ai_ref x u ai_lo d) v a ai_hi), List.mem_append_left _ ?_, rfl, ?_⟩
        · rw [(ai_ile_iff a d).mpr (by omega)]; exact List.mem_singleton.mpr rfl
        · exact ai_ref_ok (ai_ref_ok hE hu (by rw [ai_lo_eq]; omega) (by omega)) hv (by omega) (by rw [ai_hi_eq]; omega)
      · intro hc
        refine ⟨(false, ai_ref (ai_ref x u (c + 1) ai_hi) v ai_lo (b - 1)), List.mem_append_right _ ?_, rfl, ?_⟩
        · rw [(ai_ilt_iff c b).mpr (by omega)]; exact List.mem_singleton.mpr rfl
        · exact ai_ref_ok (ai_ref_ok hE hu (by omega) (by rw [ai_hi_eq]; omega)) hv (by rw [ai_lo_eq]; omega) (by omega)
theorem ai_eq_ok {rho : Nat → Int32} {x : ai_E} {u v : ai_V} {y z : Int32} {l : ai_B} (hE : ai_EV rho x) (hu : ai_num rho u y) (hv : ai_num rho v z) (h : ai_eq x u v = some l) : ai_way rho l (y = z) := by
  unfold ai_eq at h
  cases h1 : ai_rng x u with
  | none => simp only [h1] at h; cases h
  | some q1 =>
    obtain ⟨a, b⟩ := q1
    cases h2 : ai_rng x v with
    | none => simp only [h1, h2] at h; cases h
    | some q2 =>
      obtain ⟨c, d⟩ := q2
      simp only [h1, h2, Option.some.injEq] at h
      subst h
      obtain ⟨r1, r2⟩ := ai_rng_ok hE hu h1
      obtain ⟨r3, r4⟩ := ai_rng_ok hE hv h2
      have by1 := ai_le32 y
      have bz1 := ai_le32 z
      constructor
      · intro hc
        subst hc
        refine ⟨(true, ai_ref (ai_ref x u c d) v a b), List.mem_append_left _ ?_, rfl, ?_⟩
        · rw [(ai_ile_iff a d).mpr (by omega), (ai_ile_iff c b).mpr (by omega)]; exact List.mem_singleton.mpr rfl
        · exact ai_ref_ok (ai_ref_ok hE hu (by omega) (by omega)) hv (by omega) (by omega)
      · intro hc
        have hne : ¬ y.toInt = z.toInt := fun q => hc (Int32.toInt_inj.mp q)
        cases hs : (Nat.beq u.1 1 && Nat.beq v.1 1 && ai_ieq u.2.1 v.2.1 && ai_ieq u.2.2 v.2.2) with
        | true =>
          exfalso
          simp only [Bool.and_eq_true, Nat.beq_eq, ai_ieq_iff] at hs
          obtain ⟨⟨⟨s1, s2⟩, s3⟩, s4⟩ := hs
          rcases hu with ⟨k0, -, -⟩ | ⟨-, hy⟩
          · omega
          · rcases hv with ⟨k0, -, -⟩ | ⟨-, hz⟩
            · omega
            · exact hc (by rw [hy, hz, s3, s4])
        | false =>
          cases hcd : ai_ieq c d with
          | false => exact ⟨(false, x), List.mem_append_right _ (by exact List.mem_singleton.mpr rfl), rfl, hE⟩
          | true =>
            have e := (ai_ieq_iff c d).mp hcd
            have ez : z.toInt = c := by omega
            by_cases hlt : y.toInt < c
            · refine ⟨(false, ai_ref x u ai_lo (c - 1)), List.mem_append_right _ ?_, rfl, ?_⟩
              · show _ ∈ (cond (ai_ilt a c) _ _) ++ _
                rw [(ai_ilt_iff a c).mpr (by omega)]
                exact List.mem_append_left _ (List.mem_singleton.mpr rfl)
              · exact ai_ref_ok hE hu (by rw [ai_lo_eq]; omega) (by omega)
            · refine ⟨(false, ai_ref x u (c + 1) ai_hi), List.mem_append_right _ ?_, rfl, ?_⟩
              · show _ ∈ _ ++ (cond (ai_ilt c b) _ _)
                rw [(ai_ilt_iff c b).mpr (by omega)]
                exact List.mem_append_right _ (List.mem_singleton.mpr rfl)
              · exact ai_ref_ok hE hu (by omega) (by rw [ai_hi_eq]; omega)
theorem ai_neg_ok {rho : Nat → Int32} {l : Option ai_B} {l' : ai_B} {c : Prop} (h0 : ∀ l0, l = some l0 → ai_way rho l0 c) (h : ai_neg l = some l') : ai_way rho l' (¬ c) := by
  cases l with
  | none => cases h
  | some l0 =>
    simp only [ai_neg, Option.some.injEq] at h
    subst h
    obtain ⟨k1, k2⟩ := h0 l0 rfl
    constructor
    · intro hc
      obtain ⟨q, hq, e1, e2⟩ := k2 hc
      exact ⟨_, List.mem_map.mpr ⟨q, hq, rfl⟩, by rw [e1]; rfl, e2⟩
    · intro hc
      obtain ⟨q, hq, e1, e2⟩ := k1 (Classical.byContradiction hc)
      exact ⟨_, List.mem_map.mpr ⟨q, hq, rfl⟩, by rw [e1]; rfl, e2⟩
theorem ai_way.iff {rho : Nat → Int32} {l : ai_B} {c d : Prop} (h : ai_way rho l c) (e : c ↔ d) : ai_way rho l d := ⟨fun q => h.1 (e.mpr q), fun q => h.2 (fun z => q (e.mp z))⟩
def ai_cd (k : ClassFile.Cond) (y z : Int32) : Prop := match k with
  | .eq => y = z
  | .ne => ¬ y = z
  | .lt => y < z
  | .ge => ¬ y < z
  | .gt => ¬ y ≤ z
  | .le => y ≤ z
theorem ai_cmp_ok {rho : Nat → Int32} {k : ClassFile.Cond} {x : ai_E} {u v : ai_V} {y z : Int32} {l : ai_B} (hE : ai_EV rho x) (hu : ai_num rho u y) (hv : ai_num rho v z) (h : ai_cmp k x u v = some l) : ai_way rho l (ai_cd k y z) := by
  cases k with
  | eq => exact ai_eq_ok hE hu hv h
  | ne => exact ai_neg_ok (fun l0 h0 => ai_eq_ok hE hu hv h0) h
  | lt => exact ai_lt_ok hE hu hv h
  | ge => exact ai_neg_ok (fun l0 h0 => ai_lt_ok hE hu hv h0) h
  | gt => exact ai_neg_ok (fun l0 h0 => ai_le_ok hE hu hv h0) h
  | le => exact ai_le_ok hE hu hv h
theorem ai_vals_ok {rho : Nat → Int32} {x : ai_E} {v : ai_V} {z : Int32} {l : List (Nat × ai_E)} (hE : ai_EV rho x) (hv : ai_num rho v z) (h : ai_vals x v = some l) : ∃ q ∈ l, z.toInt = (q.1 : Int) ∧ z.toNatClampNeg = q.1 ∧ ¬ z < 0 ∧ ai_EV rho q.2 := by
  unfold ai_vals at h
  cases h1 : ai_rng x v with
  | none => simp only [h1] at h; cases h
  | some q1 =>
    obtain ⟨a, b⟩ := q1
    simp only [h1] at h
    obtain ⟨r1, r2⟩ := ai_rng_ok hE hv h1
    cases hc : (ai_ile 0 a && ai_ile b (a + 12)) with
    | false => rw [hc] at h; cases h
    | true =>
      rw [hc] at h
      simp only [cond_true, Option.some.injEq] at h
      subst h
      rw [Bool.and_eq_true, ai_ile_iff, ai_ile_iff] at hc
      have e1 : z.toInt = ((a.toNat + (z.toInt - a).toNat : Nat) : Int) := by omega
      refine ⟨_, List.mem_map.mpr ⟨(z.toInt - a).toNat, List.mem_range.mpr (by omega), rfl⟩, e1, ?_, ?_, ?_⟩
      · show z.toInt.toNat = a.toNat + (z.toInt - a).toNat
        omega
      · rw [Int32.lt_iff_toInt_lt]
        show ¬ z.toInt < 0
        omega
      · exact ai_ref_ok hE hv (by omega) (by omega)
