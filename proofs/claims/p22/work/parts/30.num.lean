/-! ===== what the interpreter's words mean: lists, trees, numbers ===== -/
theorem ai_nth_eq {α : Type} (a0 : α) (l : List α) (n : Nat) : ai_nth a0 l n = (l[n]?).getD a0 := by
  induction l generalizing n with
  | nil => rfl
  | cons a t ih =>
    cases n with
    | zero => rfl
    | succ n => exact ih n
theorem ai_upd_eq {α : Type} (l : List α) (n : Nat) (v : α) : ai_upd l n v = l.set n v := by
  induction l generalizing n with
  | nil => rfl
  | cons a t ih =>
    cases n with
    | zero => rfl
    | succ n => exact congrArg (List.cons a) (ih n)
theorem ai_lk_nil (dv : ai_V) (j : Nat) : ai_lk [] dv j = dv := rfl
theorem ai_lk_cons (q : Nat × ai_V) (l : List (Nat × ai_V)) (dv : ai_V) (j : Nat) : ai_lk (q :: l) dv j = if q.1 = j then q.2 else ai_lk l dv j := by
  show cond (Nat.beq q.1 j) q.2 (ai_lk l dv j) = _
  by_cases h : q.1 = j
  · rw [if_pos h, h, Nat.beq_refl]; rfl
  · rw [if_neg h]
    cases hb : Nat.beq q.1 j with
    | false => rfl
    | true => exact absurd (Nat.eq_of_beq_eq_true hb) h
theorem ai_get_z {α : Type} (t : ai_T α 0) (i : Nat) : ai_get 0 t i = t := rfl
def ai_t1 {α : Type} {d : Nat} (t : ai_T α (d + 1)) : ai_T α d := Prod.fst (α := ai_T α d) (β := ai_T α d) t
def ai_t2 {α : Type} {d : Nat} (t : ai_T α (d + 1)) : ai_T α d := Prod.snd (α := ai_T α d) (β := ai_T α d) t
def ai_tp {α : Type} {d : Nat} (a b : ai_T α d) : ai_T α (d + 1) := Prod.mk (α := ai_T α d) (β := ai_T α d) a b
theorem ai_t1_tp {α : Type} {d : Nat} (a b : ai_T α d) : ai_t1 (ai_tp a b) = a := rfl
theorem ai_t2_tp {α : Type} {d : Nat} (a b : ai_T α d) : ai_t2 (ai_tp a b) = b := rfl
theorem ai_condb {α : Type} {a b : Nat} (x y : α) : cond (Nat.ble a b) x y = if a ≤ b then x else y := by
  by_cases h : a ≤ b
  · rw [if_pos h, Nat.ble_eq_true_of_le h]; rfl
  · rw [if_neg h]
    cases hb : Nat.ble a b with
    | false => rfl
    | true => exact absurd (Nat.le_of_ble_eq_true hb) h
theorem ai_get_s {α : Type} (d : Nat) (t : ai_T α (d + 1)) (i : Nat) : ai_get (d + 1) t i = if 2 ^ d ≤ i then ai_get d (ai_t2 t) (i - 2 ^ d) else ai_get d (ai_t1 t) i :=
  (show ai_get (d + 1) t i = cond (Nat.ble (2 ^ d) i) (ai_get d (ai_t2 t) (i - 2 ^ d)) (ai_get d (ai_t1 t) i) from rfl).trans (ai_condb _ _)
theorem ai_set_s {α : Type} (d : Nat) (t : ai_T α (d + 1)) (i : Nat) (c : α) : ai_set (d + 1) t i c = if 2 ^ d ≤ i then ai_tp (ai_t1 t) (ai_set d (ai_t2 t) (i - 2 ^ d) c) else ai_tp (ai_set d (ai_t1 t) i c) (ai_t2 t) :=
  (show ai_set (d + 1) t i c = cond (Nat.ble (2 ^ d) i) (ai_tp (ai_t1 t) (ai_set d (ai_t2 t) (i - 2 ^ d) c)) (ai_tp (ai_set d (ai_t1 t) i c) (ai_t2 t)) from rfl).trans (ai_condb _ _)
theorem ai_get_set {α : Type} (d : Nat) : ∀ (t : ai_T α d) (i j : Nat) (c : α), i < 2 ^ d → j < 2 ^ d → ai_get d (ai_set d t i c) j = if j = i then c else ai_get d t j := by
  induction d with
  | zero =>
    intro t i j c hi hj
    have e : j = i := by have : 2 ^ 0 = 1 := rfl; omega
    rw [if_pos e]
    rfl
  | succ d ih =>
    intro t i j c hi hj
    rw [ai_set_s, ai_get_s, ai_get_s]
    have hp : 2 ^ (d + 1) = 2 ^ d + 2 ^ d := by rw [Nat.pow_succ]; omega
    by_cases h1 : 2 ^ d ≤ i <;> by_cases h2 : 2 ^ d ≤ j
    · rw [if_pos h1, if_pos h2, if_pos h2, ai_t2_tp]
      rw [ih _ _ _ _ (by omega) (by omega)]
      by_cases h : j = i
      · rw [if_pos (by omega), if_pos h]
      · rw [if_neg (by omega), if_neg h]
    · rw [if_pos h1, if_neg h2, if_neg h2, if_neg (by omega), ai_t1_tp]
    · rw [if_neg h1, if_pos h2, if_pos h2, if_neg (by omega), ai_t2_tp]
    · rw [if_neg h1, if_neg h2, if_neg h2, ai_t1_tp]
      rw [ih _ _ _ _ (by omega) (by omega)]
theorem ai_ile_iff (a b : Int) : ai_ile a b = true ↔ a ≤ b := by
  cases a <;> cases b <;> simp only [ai_ile, Int.ofNat_eq_natCast, Nat.ble_eq, reduceCtorEq, false_iff, true_iff] <;> omega
theorem ai_ieq_iff (a b : Int) : ai_ieq a b = true ↔ a = b := by
  cases a <;> cases b <;> simp only [ai_ieq, Int.ofNat_eq_natCast, Nat.beq_eq, reduceCtorEq, false_iff, true_iff] <;> omega
theorem ai_ilt_iff (a b : Int) : ai_ilt a b = true ↔ a < b := by
  unfold ai_ilt
  cases h : ai_ile b a with
  | true =>
    have := (ai_ile_iff b a).mp h
    constructor
    · intro h; cases h
    · intro h; omega
  | false =>
    have : ¬ b ≤ a := fun q => by rw [(ai_ile_iff b a).mpr q] at h; cases h
    constructor
    · intro _; omega
    · intro _; rfl
theorem ai_lo_eq : ai_lo = -2147483648 := rfl
theorem ai_hi_eq : ai_hi = 2147483647 := rfl
theorem ai_ok_iff (a b : Int) : ai_ok a b = true ↔ -2147483648 ≤ a ∧ b ≤ 2147483647 := by
  unfold ai_ok
  rw [Bool.and_eq_true, ai_ile_iff, ai_ile_iff, ai_lo_eq, ai_hi_eq]
theorem ai_le32 (z : Int32) : -2147483648 ≤ z.toInt ∧ z.toInt ≤ 2147483647 := ⟨Int32.le_toInt z, by have := Int32.toInt_lt z; omega⟩
theorem ai_of_lt {a : Int} (h1 : -2147483648 ≤ a) (h2 : a ≤ 2147483647) : (Int32.ofInt a).toInt = a := Int32.toInt_ofInt_of_le h1 (by omega)
theorem ai_ofInt_toInt (z : Int32) : Int32.ofInt z.toInt = z := Int32.ofInt_toInt z
/-- what a number of the interpreter stands for -/
def ai_num (rho : Nat → Int32) (v : ai_V) (z : Int32) : Prop := (v.1 = 0 ∧ v.2.1 ≤ z.toInt ∧ z.toInt ≤ v.2.2) ∨ (v.1 = 1 ∧ z = rho v.2.1.toNat + Int32.ofInt v.2.2)
def ai_EV (rho : Nat → Int32) (x : ai_E) : Prop := ∀ k, (ai_env x k).1 ≤ (rho k).toInt ∧ (rho k).toInt ≤ (ai_env x k).2
theorem ai_num_i {rho : Nat → Int32} {z : Int32} {n : Int} (h : z.toInt = n) : ai_num rho (ai_i n) z := Or.inl ⟨rfl, by show n ≤ _; omega, by show _ ≤ n; omega⟩
theorem ai_num_full {rho : Nat → Int32} (z : Int32) : ai_num rho ai_full z := Or.inl ⟨rfl, by show ai_lo ≤ _; rw [ai_lo_eq]; exact (ai_le32 z).1, by show _ ≤ ai_hi; rw [ai_hi_eq]; exact (ai_le32 z).2⟩
theorem ai_num_norm {rho : Nat → Int32} {z : Int32} {a b : Int} {y : Int} (hz : z = Int32.ofInt y) (h1 : a ≤ y) (h2 : y ≤ b) : ai_num rho (ai_norm a b) z := by
  unfold ai_norm
  cases h : ai_ok a b with
  | false =>
    cases hb : ai_ieq a b with
    | false => exact ai_num_full z
    | true =>
      have e := (ai_ieq_iff a b).mp hb
      have e2 : y = a := by omega
      exact ai_num_i (by rw [hz, e2])
  | true =>
    obtain ⟨q1, q2⟩ := (ai_ok_iff a b).mp h
    have e : z.toInt = y := by rw [hz]; exact ai_of_lt (by omega) (by omega)
    exact Or.inl ⟨rfl, by show a ≤ _; omega, by show _ ≤ b; omega⟩
theorem ai_var_toInt {rho : Nat → Int32} {k : Nat} {o : Int} (h1 : -2147483648 ≤ (rho k).toInt + o) (h2 : (rho k).toInt + o ≤ 2147483647) : (rho k + Int32.ofInt o).toInt = (rho k).toInt + o := by
  have e : rho k + Int32.ofInt o = Int32.ofInt ((rho k).toInt + o) := by rw [Int32.ofInt_add, Int32.ofInt_toInt]
  rw [e]
  exact ai_of_lt h1 h2
theorem ai_rng_ok {rho : Nat → Int32} {x : ai_E} {v : ai_V} {z : Int32} {a b : Int} (hE : ai_EV rho x) (hv : ai_num rho v z) (h : ai_rng x v = some (a, b)) : a ≤ z.toInt ∧ z.toInt ≤ b := by
  obtain ⟨t, c, d⟩ := v
  rcases hv with ⟨h0, h1, h2⟩ | ⟨h0, h1⟩
  · have e : t = 0 := h0
    subst e
    simp only [ai_rng, Option.some.injEq, Prod.mk.injEq] at h
    obtain ⟨rfl, rfl⟩ := h
    exact ⟨h1, h2⟩
  · have e : t = 1 := h0
    subst e
    have h1 : z = rho c.toNat + Int32.ofInt d := h1
    have hk := hE c.toNat
    simp only [ai_rng, Option.some.injEq] at h
    cases hok : ai_ok ((ai_env x c.toNat).1 + d) ((ai_env x c.toNat).2 + d) with
    | false =>
      rw [hok] at h
      simp only [cond_false, Prod.mk.injEq] at h
      obtain ⟨rfl, rfl⟩ := h
      exact ai_le32 z
    | true =>
      rw [hok] at h
      simp only [cond_true, Prod.mk.injEq] at h
      obtain ⟨rfl, rfl⟩ := h
      obtain ⟨q1, q2⟩ := (ai_ok_iff _ _).mp hok
      rw [h1, ai_var_toInt (by omega) (by omega)]
      omega
theorem ai_env_upd {x : ai_E} {k j : Nat} {q : Int × Int} : ai_env (ai_upd x k q) j = if j = k ∧ k < x.length then q else ai_env x j := by
  unfold ai_env
  rw [ai_nth_eq, ai_upd_eq, ai_nth_eq, List.getElem?_set]
  by_cases h : k = j
  · subst h
    by_cases h2 : k < x.length
    · simp [h2]
    · have h3 : x[k]? = none := List.getElem?_eq_none (by omega)
      simp [h2, h3]
  · have h3 : ¬ j = k := fun q => h q.symm
    simp [h, h3]
theorem ai_ref_ok {rho : Nat → Int32} {x : ai_E} {v : ai_V} {z : Int32} {lo hi : Int} (hE : ai_EV rho x) (hv : ai_num rho v z) (h1 : lo ≤ z.toInt) (h2 : z.toInt ≤ hi) : ai_EV rho (ai_ref x v lo hi) := by
  obtain ⟨t, c, d⟩ := v
  rcases hv with ⟨h0, -, -⟩ | ⟨h0, hz⟩
  · have e : t = 0 := h0
    subst e
    exact hE
  · have e : t = 1 := h0
    subst e
    have hz : z = rho c.toNat + Int32.ofInt d := hz
    have hk := hE c.toNat
    simp only [ai_ref]
    cases hok : ai_ok ((ai_env x c.toNat).1 + d) ((ai_env x c.toNat).2 + d) with
    | false => exact hE
    | true =>
      obtain ⟨q1, q2⟩ := (ai_ok_iff _ _).mp hok
      have ez : z.toInt = (rho c.toNat).toInt + d := by rw [hz, ai_var_toInt (by omega) (by omega)]
      intro k
      show (ai_env (ai_upd x c.toNat _) k).1 ≤ _ ∧ _ ≤ (ai_env (ai_upd x c.toNat _) k).2
      rw [ai_env_upd]
      by_cases hkk : k = c.toNat ∧ c.toNat < x.length
      · rw [if_pos hkk]
        rw [hkk.1]
        constructor
        · show max _ _ ≤ _; omega
        · show _ ≤ min _ _; omega
      · rw [if_neg hkk]
        exact hE k
theorem ai_one_ok {rho : Nat → Int32} {x : ai_E} {v : ai_V} {z : Int32} {a : Int} (hE : ai_EV rho x) (hv : ai_num rho v z) (h : ai_one x v = some a) : z.toInt = a ∧ z = Int32.ofInt a := by
  unfold ai_one at h
  cases hr : ai_rng x v with
  | none => rw [hr] at h; cases h
  | some q =>
    obtain ⟨c, d⟩ := q
    rw [hr] at h
    have h2 := ai_rng_ok hE hv hr
    cases he : ai_ieq c d with
    | false => simp only [he, cond_false] at h; cases h
    | true =>
      simp only [he, cond_true, Option.some.injEq] at h
      have e := (ai_ieq_iff c d).mp he
      have e2 : z.toInt = a := by omega
      exact ⟨e2, by rw [← e2, Int32.ofInt_toInt]⟩
theorem ai_isn_iff (v : ai_V) : ai_isn v = true ↔ v.1 ≤ 1 := by unfold ai_isn; rw [Nat.ble_eq]
theorem ai_one_none {rho : Nat → Int32} {x : ai_E} {v : ai_V} {a : Int} (h : ai_one x v = some a) : v.1 ≤ 1 := by
  unfold ai_one at h
  obtain ⟨t, c, d⟩ := v
  match t with
  | 0 => exact Nat.zero_le _
  | 1 => exact Nat.le_refl _
  | t + 2 => simp [ai_rng] at h
theorem ai_add_ok {rho : Nat → Int32} {u v w : ai_V} {y z : Int32} (hu : ai_num rho u y) (hv : ai_num rho v z) (h : ai_add u v = some w) : ai_num rho w (y + z) := by
  obtain ⟨t1, a, b⟩ := u
  obtain ⟨t2, c, d⟩ := v
  have es : y + z = Int32.ofInt (y.toInt + z.toInt) := by rw [Int32.ofInt_add, Int32.ofInt_toInt, Int32.ofInt_toInt]
  rcases hu with ⟨h0, h1, h2⟩ | ⟨h0, hy⟩ <;> rcases hv with ⟨k0, k1, k2⟩ | ⟨k0, hz⟩
  · have e1 : t1 = 0 := h0
    have e2 : t2 = 0 := k0
    subst e1; subst e2
    simp only [ai_add, Option.some.injEq] at h
    subst h
    have h1 : a ≤ y.toInt := h1
    have h2 : y.toInt ≤ b := h2
    have k1 : c ≤ z.toInt := k1
    have k2 : z.toInt ≤ d := k2
    exact ai_num_norm es (by omega) (by omega)
  · have e1 : t1 = 0 := h0
    have e2 : t2 = 1 := k0
    subst e1; subst e2
    have h1 : a ≤ y.toInt := h1
    have h2 : y.toInt ≤ b := h2
    have hz : z = rho c.toNat + Int32.ofInt d := hz
    simp only [ai_add, Option.some.injEq] at h
    cases he : ai_ieq a b with
    | false => rw [he] at h; simp only [cond_false] at h; subst h; exact ai_num_full _
    | true =>
      rw [he] at h
      simp only [cond_true] at h
      subst h
      have e := (ai_ieq_iff a b).mp he
      have ey : y = Int32.ofInt a := by rw [show a = y.toInt by omega, Int32.ofInt_toInt]
      refine Or.inr ⟨rfl, ?_⟩
      show y + z = rho c.toNat + Int32.ofInt (d + a)
      rw [hz, ey, Int32.ofInt_add, Int32.add_comm (Int32.ofInt a), Int32.add_assoc]
  · have e1 : t1 = 1 := h0
    have e2 : t2 = 0 := k0
    subst e1; subst e2
    have k1 : c ≤ z.toInt := k1
    have k2 : z.toInt ≤ d := k2
    have hy : y = rho a.toNat + Int32.ofInt b := hy
    simp only [ai_add, Option.some.injEq] at h
    cases he : ai_ieq c d with
    | false => rw [he] at h; simp only [cond_false] at h; subst h; exact ai_num_full _
    | true =>
      rw [he] at h
      simp only [cond_true] at h
      subst h
      have e := (ai_ieq_iff c d).mp he
      have ez : z = Int32.ofInt c := by rw [show c = z.toInt by omega, Int32.ofInt_toInt]
      refine Or.inr ⟨rfl, ?_⟩
      show y + z = rho a.toNat + Int32.ofInt (b + c)
      rw [hy, ez, Int32.ofInt_add, Int32.add_assoc]
  · have e1 : t1 = 1 := h0
    have e2 : t2 = 1 := k0
    subst e1; subst e2
    simp only [ai_add, Option.some.injEq] at h
    subst h
    exact ai_num_full _
theorem ai_sub_ok {rho : Nat → Int32} {u v w : ai_V} {y z : Int32} (hu : ai_num rho u y) (hv : ai_num rho v z) (h : ai_sub u v = some w) : ai_num rho w (y - z) := by
  obtain ⟨t1, a, b⟩ := u
  obtain ⟨t2, c, d⟩ := v
  have es : y - z = Int32.ofInt (y.toInt - z.toInt) := by rw [Int32.ofInt_sub, Int32.ofInt_toInt, Int32.ofInt_toInt]
  rcases hu with ⟨h0, h1, h2⟩ | ⟨h0, hy⟩ <;> rcases hv with ⟨k0, k1, k2⟩ | ⟨k0, hz⟩
  · have e1 : t1 = 0 := h0
    have e2 : t2 = 0 := k0
    subst e1; subst e2
    simp only [ai_sub, Option.some.injEq] at h
    subst h
    have h1 : a ≤ y.toInt := h1
    have h2 : y.toInt ≤ b := h2
    have k1 : c ≤ z.toInt := k1
    have k2 : z.toInt ≤ d := k2
    exact ai_num_norm es (by omega) (by omega)
  · have e1 : t1 = 0 := h0
    have e2 : t2 = 1 := k0
    subst e1; subst e2
    simp only [ai_sub, Option.some.injEq] at h
    subst h
    exact ai_num_full _
  · have e1 : t1 = 1 := h0
    have e2 : t2 = 0 := k0
    subst e1; subst e2
    have k1 : c ≤ z.toInt := k1
    have k2 : z.toInt ≤ d := k2
    have hy : y = rho a.toNat + Int32.ofInt b := hy
    simp only [ai_sub, Option.some.injEq] at h
    cases he : ai_ieq c d with
    | false => rw [he] at h; simp only [cond_false] at h; subst h; exact ai_num_full _
    | true =>
      rw [he] at h
      simp only [cond_true] at h
      subst h
      have e := (ai_ieq_iff c d).mp he
      have ez : z = Int32.ofInt c := by rw [show c = z.toInt by omega, Int32.ofInt_toInt]
      refine Or.inr ⟨rfl, ?_⟩
      show y - z = rho a.toNat + Int32.ofInt (b - c)
      rw [hy, ez, Int32.ofInt_sub, Int32.sub_eq_add_neg, Int32.sub_eq_add_neg, Int32.add_assoc]
  · have e1 : t1 = 1 := h0
    have e2 : t2 = 1 := k0
    subst e1; subst e2
    simp only [ai_sub, Option.some.injEq] at h
    subst h
    exact ai_num_full _
theorem ai_con_ok {f : Int32 → Int32 → Int32} {rho : Nat → Int32} {x : ai_E} {u v w : ai_V} {y z : Int32} (hE : ai_EV rho x) (hu : ai_num rho u y) (hv : ai_num rho v z) (h : ai_con f x u v = some w) : ai_num rho w (f y z) := by
  unfold ai_con at h
  cases h1 : ai_one x u with
  | none =>
    simp only [h1] at h
    cases hb : (ai_isn u && ai_isn v) with
    | false => rw [hb] at h; cases h
    | true => rw [hb] at h; cases h; exact ai_num_full _
  | some a =>
    cases h2 : ai_one x v with
    | none =>
      simp only [h1, h2] at h
      cases hb : (ai_isn u && ai_isn v) with
      | false => rw [hb] at h; cases h
      | true => rw [hb] at h; cases h; exact ai_num_full _
    | some b =>
      simp only [h1, h2, Option.some.injEq] at h
      subst h
      rw [← (ai_one_ok hE hu h1).2, ← (ai_one_ok hE hv h2).2]
      exact ai_num_i rfl
theorem ai_mul_ok {rho : Nat → Int32} {x : ai_E} {u v w : ai_V} {y z : Int32} (hE : ai_EV rho x) (hu : ai_num rho u y) (hv : ai_num rho v z) (h : ai_mul x u v = some w) : ai_num rho w (y * z) := by
  unfold ai_mul at h
  cases h1 : ai_one x u with
  | none =>
    simp only [h1] at h
    cases hb : (ai_isn u && ai_isn v) with
    | false => rw [hb] at h; cases h
    | true => rw [hb] at h; cases h; exact ai_num_full _
  | some a =>
    cases h2 : ai_one x v with
    | none =>
      simp only [h1, h2] at h
      cases hb : (ai_isn u && ai_isn v) with
      | false => rw [hb] at h; cases h
      | true => rw [hb] at h; cases h; exact ai_num_full _
    | some b =>
      simp only [h1, h2, Option.some.injEq] at h
      subst h
      have e1 := (ai_one_ok hE hu h1).2
      have e2 := (ai_one_ok hE hv h2).2
      exact ai_num_norm (y := a * b) (by rw [e1, e2, Int32.ofInt_mul]) (Int.le_refl _) (Int.le_refl _)
theorem ai_and_mask (y : Int32) {b : Int} (h0 : 0 ≤ b) (h1 : b ≤ 2147483647) : 0 ≤ (y &&& Int32.ofInt b).toInt ∧ (y &&& Int32.ofInt b).toInt ≤ b := by
  obtain ⟨k, rfl⟩ : ∃ k : Nat, b = (k : Int) := ⟨b.toNat, by omega⟩
  have ek : Int32.ofInt (k : Int) = nI k := rfl
  rw [ek]
  have e : (y &&& nI k) = nI (y.toBitVec.toNat &&& k) := by
    apply Int32.toBitVec_inj.mp
    rw [Int32.toBitVec_and]
    apply BitVec.eq_of_toNat_eq
    rw [BitVec.toNat_and]
    have e1 : (nI k).toBitVec.toNat = k := pk_tn (by omega)
    have hle : y.toBitVec.toNat &&& k ≤ k := Nat.and_le_right
    have e2 : (nI (y.toBitVec.toNat &&& k)).toBitVec.toNat = y.toBitVec.toNat &&& k := pk_tn (by omega)
    rw [e1, e2]
  have hle : y.toBitVec.toNat &&& k ≤ k := Nat.and_le_right
  rw [e, nI_toInt (by omega)]
  omega
theorem ai_one_rng {x : ai_E} {v : ai_V} {a : Int} (h : ai_one x v = some a) : ∃ q, ai_rng x v = some q ∧ q.1 = a := by
  unfold ai_one at h
  cases hr : ai_rng x v with
  | none => rw [hr] at h; cases h
  | some q =>
    obtain ⟨c, d⟩ := q
    rw [hr] at h
    cases he : ai_ieq c d with
    | false => simp only [he, cond_false] at h; cases h
    | true => simp only [he, cond_true, Option.some.injEq] at h; exact ⟨_, rfl, h⟩
def ai_D (rho : Nat → Int32) : Prop := rho 1006 = rho 2 / 100 ∧ rho 1007 = rho 2 - rho 2 / 100 * 100 ∧ rho 1008 = rho 0 &&& 31
theorem ai_and_ok {rho : Nat → Int32} (hD : ai_D rho) {x : ai_E} {u v w : ai_V} {y z : Int32} (hE : ai_EV rho x) (hu : ai_num rho u y) (hv : ai_num rho v z) (h : ai_and x u v = some w) : ai_num rho w (y &&& z) := by
  unfold ai_and at h
  cases h1 : ai_one x u with
  | none =>
    cases h2 : ai_one x v with
    | none =>
      simp only [h1, h2] at h
      cases hb : (ai_isn u && ai_isn v) with
      | false => rw [hb] at h; cases h
      | true => rw [hb] at h; cases h; exact ai_num_full _
    | some b =>
      simp only [h1, h2] at h
      obtain ⟨ez, e2⟩ := ai_one_ok hE hv h2
      have hz := ai_le32 z
      cases hv0 : (ai_v0 u && ai_ieq b 31) with
      | true =>
        rw [hv0] at h
        simp only [cond_true, Option.some.injEq] at h
        subst h
        unfold ai_v0 at hv0
        simp only [Bool.and_eq_true, ai_ieq_iff] at hv0
        obtain ⟨⟨⟨u1, u2⟩, u3⟩, u4⟩ := hv0
        have u1 : u.1 = 1 := Nat.eq_of_beq_eq_true u1
        rcases hu with ⟨q1, -⟩ | ⟨-, q2⟩
        · omega
        · refine Or.inr ⟨rfl, ?_⟩
          rw [u2, u3] at q2
          have q3 : y = rho 0 := by
            rw [q2]
            apply Int32.toInt_inj.mp
            have := ai_le32 (rho 0)
            show (rho 0 + Int32.ofInt 0).toInt = (rho 0).toInt
            rw [ai_var_toInt (by omega) (by omega)]
            omega
          show y &&& z = rho 1008 + Int32.ofInt 0
          have q4 : rho 1008 + Int32.ofInt 0 = rho 1008 := by
            apply Int32.toInt_inj.mp
            have := ai_le32 (rho 1008)
            rw [ai_var_toInt (by omega) (by omega)]
            omega
          rw [q4, hD.2.2, q3, e2, u4]
          rfl
      | false =>
        rw [hv0] at h
        simp only [cond_false] at h
        cases hb : (ai_isn u && ai_ile 0 b) with
        | false =>
          rw [hb] at h
          simp only [cond_false] at h
          cases hc : ai_isn u with
          | false => rw [hc] at h; cases h
          | true => rw [hc] at h; cases h; exact ai_num_full _
        | true =>
          rw [hb] at h
          simp only [cond_true, Option.some.injEq] at h
          subst h
          rw [Bool.and_eq_true, ai_ile_iff] at hb
          rw [e2]
          obtain ⟨q1, q2⟩ := ai_and_mask y (b := b) hb.2 (by omega)
          exact Or.inl ⟨rfl, q1, q2⟩
  | some a =>
    cases h2 : ai_one x v with
    | none =>
      simp only [h1, h2] at h
      cases hb : (ai_isn u && ai_isn v) with
      | false => rw [hb] at h; cases h
      | true => rw [hb] at h; cases h; exact ai_num_full _
    | some b =>
      simp only [h1, h2, Option.some.injEq] at h
      subst h
      rw [← (ai_one_ok hE hu h1).2, ← (ai_one_ok hE hv h2).2]
      exact ai_num_i rfl
