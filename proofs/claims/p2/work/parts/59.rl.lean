/-! ===== what the reference's rows hold, besides ===== -/
def rl_row (E : cm_E) (r : Int) : Prop :=
  gv E 82 (166 * r + 0).toNat ≤ 3 ∧ gv E 82 (166 * r + 1).toNat ≤ 4 ∧ gv E 82 (166 * r + 2).toNat ≤ 60 ∧
  (gv E 82 (166 * r + 0).toNat = 0 → gv E 82 (166 * r + 10).toNat ≤ 24) ∧
  (gv E 82 (166 * r + 0).toNat = 2 → 1 ≤ gv E 82 (166 * r + 9).toNat ∧ gv E 82 (166 * r + 9).toNat ≤ 60) ∧
  (gv E 82 (166 * r + 0).toNat = 3 → gv E 82 (166 * r + 9).toNat ≤ 6 ∧ ∀ i : Int, 0 ≤ i → i < 6 → gv E 82 (166 * r + 10 + 26 * i + 1).toNat ≤ 24)
def rl_hd (E : cm_E) (r : Int) : Prop := 1 ≤ gv E 82 (166 * r + 2).toNat ∧ gv E 82 (166 * r + 1).toNat < gv E 81 1
def rl_A (E : cm_E) : Prop := ∀ r : Int, 0 ≤ r → r < 3200 → rl_row E r
def rl_H (E : cm_E) : Prop := ∀ p i : Int, 0 ≤ p → p ≤ 4 → 0 ≤ i → i < 20 → i < gv E 84 p.toNat → rl_hd E (1500 + 20 * p + i)
def rl_J (E : cm_E) : Prop := gv E 81 34 = 1 → ∀ p i : Int, 0 ≤ p → p ≤ 4 → 0 ≤ i → i < 20 → i < gv E 102 p.toNat → rl_hd E (3100 + 20 * p + i)
def rl (E : cm_E) : Prop := rl_A E ∧ rl_H E ∧ rl_J E
/-- a row that is another's -/
theorem rl_row.of {E E' : cm_E} {r r' : Int} (h : rl_row E r) (he : ∀ k : Int, 0 ≤ k → k < 166 → gv E' 82 (166 * r' + k).toNat = gv E 82 (166 * r + k).toNat) : rl_row E' r' := by
  obtain ⟨h1, h2, h3, h4, h5, h6⟩ := h
  have e0 := he 0 (by omega) (by omega)
  have e1 := he 1 (by omega) (by omega)
  have e2 := he 2 (by omega) (by omega)
  have e9 := he 9 (by omega) (by omega)
  have e10 := he 10 (by omega) (by omega)
  refine ⟨by omega, by omega, by omega, fun q => ?_, fun q => ?_, fun q => ⟨?_, fun i i0 i1 => ?_⟩⟩
  · have := h4 (by omega); omega
  · have := h5 (by omega); omega
  · have := h6 (by omega); omega
  · have q1 := (h6 (by omega)).2 i i0 i1
    have q2 := he (10 + 26 * i + 1) (by omega) (by omega)
    rw [show 166 * r' + (10 + 26 * i + 1) = 166 * r' + 10 + 26 * i + 1 by omega, show 166 * r + (10 + 26 * i + 1) = 166 * r + 10 + 26 * i + 1 by omega] at q2
    omega
theorem rl_hd.of {E E' : cm_E} {r r' : Int} (h : rl_hd E r) (he : ∀ k : Int, 0 ≤ k → k < 166 → gv E' 82 (166 * r' + k).toNat = gv E 82 (166 * r + k).toNat) (hw : gv E' 81 1 = gv E 81 1) : rl_hd E' r' := by
  obtain ⟨h1, h2⟩ := h
  have e1 := he 1 (by omega) (by omega)
  have e2 := he 2 (by omega) (by omega)
  exact ⟨by omega, by omega⟩
/-- nothing that is told of is written -/
theorem rl.fr {P : Nat → Nat → Prop} {E E' : cm_E} (h : rl E) (hf : cm_fr P E E') (hp : ∀ i k, P i k → ¬ (i = 82 ∧ k < 531200) ∧ i ≠ 84 ∧ i ≠ 102 ∧ ¬ (i = 81 ∧ (k = 1 ∨ k = 34))) : rl E' := by
  obtain ⟨hA, hH, hJ⟩ := h
  have d : ∀ k, k < 531200 → gv E' 82 k = gv E 82 k := fun k hk => (gv_fr hf (fun q => (hp _ _ q).1 ⟨rfl, hk⟩)).symm
  have e84 : ∀ k, gv E' 84 k = gv E 84 k := fun k => (gv_fr hf (fun q => (hp _ _ q).2.1 rfl)).symm
  have e102 : ∀ k, gv E' 102 k = gv E 102 k := fun k => (gv_fr hf (fun q => (hp _ _ q).2.2.1 rfl)).symm
  have e1 : gv E' 81 1 = gv E 81 1 := (gv_fr hf (fun q => (hp _ _ q).2.2.2 ⟨rfl, Or.inl rfl⟩)).symm
  have e34 : gv E' 81 34 = gv E 81 34 := (gv_fr hf (fun q => (hp _ _ q).2.2.2 ⟨rfl, Or.inr rfl⟩)).symm
  refine ⟨fun r r0 r1 => (hA r r0 r1).of (fun k k0 k1 => d _ (by omega)), fun p i p0 p1 i0 i2 i1 => ?_, fun hj p i p0 p1 i0 i2 i1 => ?_⟩
  · rw [e84] at i1
    exact (hH p i p0 p1 i0 i2 i1).of (fun k k0 k1 => d _ (by omega)) e1
  · rw [e102] at i1
    rw [e34] at hj
    exact (hJ hj p i p0 p1 i0 i2 i1).of (fun k k0 k1 => d _ (by omega)) e1
theorem rl.wr {E : cm_E} {i k : Nat} {v : ai_V} (h : rl E) (hp : ¬ (i = 82 ∧ k < 531200) ∧ i ≠ 84 ∧ i ≠ 102 ∧ ¬ (i = 81 ∧ (k = 1 ∨ k = 34))) : rl (cm_up E i k v) :=
  h.fr (P := fun i' k' => i' = i ∧ k' = k) (fun i' k' hn => cm_up_ne E v hn) (fun i' k' q => by rw [q.1, q.2]; exact hp)
