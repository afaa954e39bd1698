/-! ===== what the reference's rows hold, besides ===== -/
def rl_row (E : cm_E) (r : Int) : Prop :=
  (gv E 82 (166 * r + 0).toNat ≤ 3 ∧ gv E 82 (166 * r + 8).toNat ≤ 65535) ∧ gv E 82 (166 * r + 1).toNat ≤ 4 ∧ gv E 82 (166 * r + 2).toNat ≤ 60 ∧
  (gv E 82 (166 * r + 0).toNat = 0 → gv E 82 (166 * r + 10).toNat ≤ 24) ∧
  (gv E 82 (166 * r + 0).toNat = 2 → 1 ≤ gv E 82 (166 * r + 9).toNat ∧ gv E 82 (166 * r + 9).toNat ≤ 60) ∧
  (gv E 82 (166 * r + 0).toNat = 3 → gv E 82 (166 * r + 9).toNat ≤ 6 ∧ ∀ i : Int, 0 ≤ i → i < 6 → gv E 82 (166 * r + 10 + 26 * i + 1).toNat ≤ 24)
def rl_hd (E : cm_E) (r : Int) : Prop := 1 ≤ gv E 82 (166 * r + 2).toNat ∧ gv E 82 (166 * r + 1).toNat < gv E 81 1
def rl_A (E : cm_E) : Prop := ∀ r : Int, 0 ≤ r → r < 3200 → rl_row E r
/-- the rows of steps that are had (h: the row of their numbers), from the row o on -/
def rl_P (E : cm_E) (h : Nat) (o : Int) : Prop := ∀ p w n : Int, 0 ≤ p → p ≤ 4 → 0 ≤ w → w ≤ 4 → 1 ≤ n → n ≤ 60 → n ≤ gv E h (5 * p + w).toNat → rl_hd E (o + ((5 * p + w) * 60 + n - 1))
def rl_H (E : cm_E) (h : Nat) (o : Int) : Prop := ∀ p i : Int, 0 ≤ p → p ≤ 4 → 0 ≤ i → i < 20 → i < gv E h p.toNat → rl_hd E (o + 20 * p + i)
def rl (E : cm_E) : Prop := rl_A E ∧ rl_P E 83 0 ∧ rl_H E 84 1500 ∧ (gv E 81 34 = 1 → rl_P E 101 1600 ∧ rl_H E 102 3100)
/-- a row that is another's -/
theorem rl_row.of {E E' : cm_E} {r r' : Int} (h : rl_row E r) (he : ∀ k : Int, 0 ≤ k → k < 166 → gv E' 82 (166 * r' + k).toNat = gv E 82 (166 * r + k).toNat) : rl_row E' r' := by
  obtain ⟨h1, h2, h3, h4, h5, h6⟩ := h
  have e0 := he 0 (by omega) (by omega)
  have e1 := he 1 (by omega) (by omega)
  have e2 := he 2 (by omega) (by omega)
  have e8 := he 8 (by omega) (by omega)
  have e9 := he 9 (by omega) (by omega)
  have e10 := he 10 (by omega) (by omega)
  refine ⟨by omega, by omega, by omega, fun q => ?_, fun q => ?_, fun q => ⟨?_, fun i i0 i1 => ?_⟩⟩
  · have := h4 (by omega); omega
  · have := h5 (by omega); omega
  · have := h6 (by omega); omega
  · have q1 := (h6 (by omega)).2 i i0 i1
    have q2 := he (10 + 26 * i + 1) (by omega) (by omega)
    rw [show 166 * r' + (10 + 26 * i + 1) = 166 * r' + 10 + 26 * i + 1 by omega, show 166 * r + (10 + 26 * i + 1) = 166 * r + 10 + 26 * i + 1 by omega] at q2
    omega
theorem rl_hd.of {E E' : cm_E} {r r' : Int} (h : rl_hd E r) (he : ∀ k : Int, 0 ≤ k → k < 166 → gv E' 82 (166 * r' + k).toNat = gv E 82 (166 * r + k).toNat) (hw : gv E' 81 1 = gv E 81 1) : rl_hd E' r' := by
  obtain ⟨h1, h2⟩ := h
  have e1 := he 1 (by omega) (by omega)
  have e2 := he 2 (by omega) (by omega)
  exact ⟨by omega, by omega⟩
/-- the places that rl speaks of -/
def rl_at (i k : Nat) : Prop := (i = 82 ∧ k < 531200) ∨ i = 83 ∨ i = 84 ∨ i = 101 ∨ i = 102 ∨ (i = 81 ∧ (k = 1 ∨ k = 34))
/-- nothing that is told of is written -/
theorem rl.fr {P : Nat → Nat → Prop} {E E' : cm_E} (h : rl E) (hf : cm_fr P E E') (hp : ∀ i k, P i k → ¬ ((i = 82 ∧ k < 531200) ∨ i = 83 ∨ i = 84 ∨ i = 101 ∨ i = 102 ∨ (i = 81 ∧ (k = 1 ∨ k = 34)))) : rl E' := by
  obtain ⟨hA, hP, hH, hJ⟩ := h
  have g : ∀ i k, ((i = 82 ∧ k < 531200) ∨ i = 83 ∨ i = 84 ∨ i = 101 ∨ i = 102 ∨ (i = 81 ∧ (k = 1 ∨ k = 34))) → gv E' i k = gv E i k := fun i k hk => (gv_fr hf (fun q => hp _ _ q hk)).symm
  have d : ∀ k, k < 531200 → gv E' 82 k = gv E 82 k := fun k hk => g 82 k (by omega)
  have e1 : gv E' 81 1 = gv E 81 1 := g _ _ (by omega)
  have e34 : gv E' 81 34 = gv E 81 34 := g _ _ (by omega)
  refine ⟨fun r r0 r1 => (hA r r0 r1).of (fun k k0 k1 => d _ (by omega)), fun p w n p0 p1 w0 w1 n0 n1 n2 => ?_, fun p i p0 p1 i0 i2 i1 => ?_, fun hj => ⟨fun p w n p0 p1 w0 w1 n0 n1 n2 => ?_, fun p i p0 p1 i0 i2 i1 => ?_⟩⟩
  · rw [g 83 _ (by omega)] at n2
    exact (hP p w n p0 p1 w0 w1 n0 n1 n2).of (fun k k0 k1 => d _ (by omega)) e1
  · rw [g 84 _ (by omega)] at i1
    exact (hH p i p0 p1 i0 i2 i1).of (fun k k0 k1 => d _ (by omega)) e1
  · rw [g 101 _ (by omega)] at n2
    rw [e34] at hj
    exact ((hJ hj).1 p w n p0 p1 w0 w1 n0 n1 n2).of (fun k k0 k1 => d _ (by omega)) e1
  · rw [g 102 _ (by omega)] at i1
    rw [e34] at hj
    exact ((hJ hj).2 p i p0 p1 i0 i2 i1).of (fun k k0 k1 => d _ (by omega)) e1
theorem rl.wr {E : cm_E} {i k : Nat} {v : ai_V} (h : rl E) (hp : ¬ ((i = 82 ∧ k < 531200) ∨ i = 83 ∨ i = 84 ∨ i = 101 ∨ i = 102 ∨ (i = 81 ∧ (k = 1 ∨ k = 34)))) : rl (cm_up E i k v) :=
  h.fr (P := fun i' k' => i' = i ∧ k' = k) (fun i' k' hn => cm_up_ne E v hn) (fun i' k' q => by rw [q.1, q.2]; exact hp)
/-- a row is copied -/
theorem rl_A.copy {E E' : cm_E} {a b : Int} (h : rl_A E) (ha : rl_row E a) (hb : 0 ≤ b) (hf : ∀ k : Nat, ¬ ((166 * b).toNat ≤ k ∧ k < (166 * b + 166).toNat) → gv E' 82 k = gv E 82 k)
    (hc : ∀ k : Int, 0 ≤ k → k < 166 → gv E' 82 (166 * b + k).toNat = gv E 82 (166 * a + k).toNat) : rl_A E' := by
  intro r r0 r1
  by_cases hr : r = b
  · subst hr; exact ha.of hc
  · exact (h r r0 r1).of (fun k k0 k1 => hf _ (by omega))
/-- a step more is had -/
theorem rl_add {E E1 E2 : cm_E} {p w m r b : Int} (h : rl E) (hp : 0 ≤ p ∧ p ≤ 4) (hw : 0 ≤ w ∧ w ≤ 4) (hm : gv E 83 (5 * p + w).toNat = m) (hm9 : 0 ≤ m ∧ m ≤ 59) (hb : b = (5 * p + w) * 60 + (m + 1) - 1) (hrow : rl_row E r) (hhd : rl_hd E r)
    (hE1 : cm_up E 83 (5 * p + w).toNat (ai_i (m + 1)) = E1) (hG : cm_fr (fun i k => i = 82 ∧ (166 * b).toNat ≤ k ∧ k < (166 * b + 166).toNat) E1 E2) (hz : ∀ k : Int, 0 ≤ k → k < 166 → gv E2 82 (166 * b + k).toNat = gv E1 82 (166 * r + k).toNat) : rl E2 := by
  obtain ⟨hA, hP, hH, hJ⟩ := h
  have e82 : ∀ k : Nat, ¬ ((166 * b).toNat ≤ k ∧ k < (166 * b + 166).toNat) → gv E2 82 k = gv E 82 k := fun k hk => by
    rw [← gv_fr hG (by first | omega | (simp only; omega)), ← hE1, gv_ne _ _ (by omega)]
  have eo : ∀ i k, i ≠ 82 → i ≠ 83 → gv E2 i k = gv E i k := fun i k h1 h2 => by
    rw [← gv_fr hG (by first | omega | (simp only; omega)), ← hE1, gv_ne _ _ (by omega)]
  have e83 : ∀ k : Nat, k ≠ (5 * p + w).toNat → gv E2 83 k = gv E 83 k := fun k hk => by
    rw [← gv_fr hG (by first | omega | (simp only; omega)), ← hE1, gv_ne _ _ (by omega)]
  have e83m : gv E2 83 (5 * p + w).toNat = m + 1 := by
    rw [← gv_fr hG (by first | omega | (simp only; omega)), ← hE1, gv_up]
  have hz' : ∀ k : Int, 0 ≤ k → k < 166 → gv E2 82 (166 * b + k).toNat = gv E 82 (166 * r + k).toNat := fun k k0 k1 => by
    rw [hz k k0 k1, ← hE1, gv_ne _ _ (by omega)]
  have ew : gv E2 81 1 = gv E 81 1 := eo _ _ (by omega) (by omega)
  refine ⟨hA.copy hrow (by omega) e82 hz', fun p' w' n p0 p1 w0 w1 n0 n1 n2 => ?_, fun p' i p0 p1 i0 i2 i1 => ?_, fun hj => ⟨fun p' w' n p0 p1 w0 w1 n0 n1 n2 => ?_, fun p' i p0 p1 i0 i2 i1 => ?_⟩⟩
  · by_cases hq : p' = p ∧ w' = w
    · obtain ⟨rfl, rfl⟩ := hq
      rw [e83m] at n2
      by_cases hn : n = m + 1
      · have : (0 : Int) + ((5 * p' + w') * 60 + n - 1) = b := by omega
        rw [this]
        exact hhd.of hz' ew
      · exact (hP p' w' n p0 p1 w0 w1 n0 n1 (by omega)).of (fun k k0 k1 => e82 _ (by omega)) ew
    · rw [e83 _ (by omega)] at n2
      exact (hP p' w' n p0 p1 w0 w1 n0 n1 n2).of (fun k k0 k1 => e82 _ (by omega)) ew
  · rw [eo 84 _ (by omega) (by omega)] at i1
    exact (hH p' i p0 p1 i0 i2 i1).of (fun k k0 k1 => e82 _ (by omega)) ew
  · rw [eo 101 _ (by omega) (by omega)] at n2
    rw [eo 81 _ (by omega) (by omega)] at hj
    exact ((hJ hj).1 p' w' n p0 p1 w0 w1 n0 n1 n2).of (fun k k0 k1 => e82 _ (by omega)) ew
  · rw [eo 102 _ (by omega) (by omega)] at i1
    rw [eo 81 _ (by omega) (by omega)] at hj
    exact ((hJ hj).2 p' i p0 p1 i0 i2 i1).of (fun k k0 k1 => e82 _ (by omega)) ew
