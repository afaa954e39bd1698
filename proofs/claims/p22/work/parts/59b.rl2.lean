/-! ===== held rows: one is taken out, one comes in ===== -/
theorem rl_drop {E E2 : cm_E} {p i h : Int} (h0 : rl E) (hp : 0 ≤ p ∧ p ≤ 4) (hi : 0 ≤ i ∧ i < h) (h20 : h ≤ 20) (hh : gv E 84 p.toNat = h)
    (f : cm_fr (fun i k => (i = 84 ∧ k = p.toNat) ∨ (i = 82 ∧ (166 * (1500 + 20 * p)).toNat ≤ k ∧ k < (166 * (1500 + 20 * p + 20)).toNat)) E E2) (h84 : gv E2 84 p.toNat = h - 1)
    (a1 : ∀ j k : Int, 0 ≤ j → j < i → 0 ≤ k → k < 166 → gv E2 82 (166 * (1500 + 20 * p + j) + k).toNat = gv E 82 (166 * (1500 + 20 * p + j) + k).toNat)
    (a2 : ∀ j k : Int, i ≤ j → j < h - 1 → 0 ≤ k → k < 166 → gv E2 82 (166 * (1500 + 20 * p + j) + k).toNat = gv E 82 (166 * (1500 + 20 * p + (j + 1)) + k).toNat)
    (a3 : ∀ j k : Int, h - 1 ≤ j → j < 20 → 0 ≤ k → k < 166 → gv E2 82 (166 * (1500 + 20 * p + j) + k).toNat = gv E 82 (166 * (1500 + 20 * p + j) + k).toNat) : rl E2 := by
  obtain ⟨hA, hP, hH, hJ⟩ := h0
  have eo : ∀ i k, i ≠ 82 → i ≠ 84 → gv E2 i k = gv E i k := fun i k h1 h2 => (gv_fr f (by first | omega | (simp only; omega))).symm
  have e82 : ∀ k : Nat, ¬ ((166 * (1500 + 20 * p)).toNat ≤ k ∧ k < (166 * (1500 + 20 * p + 20)).toNat) → gv E2 82 k = gv E 82 k := fun k hk => (gv_fr f (by first | omega | (simp only; omega))).symm
  have e84 : ∀ k : Nat, k ≠ p.toNat → gv E2 84 k = gv E 84 k := fun k hk => (gv_fr f (by first | omega | (simp only; omega))).symm
  have ew : gv E2 81 1 = gv E 81 1 := eo _ _ (by omega) (by omega)
  refine ⟨fun r r0 r1 => ?_, fun p' w' n p0 p1 w0 w1 n0 n1 n2 => ?_, fun p' j p0 p1 j0 j2 j1 => ?_, fun hj => ⟨fun p' w' n p0 p1 w0 w1 n0 n1 n2 => ?_, fun p' j p0 p1 j0 j2 j1 => ?_⟩⟩
  · by_cases hr : 1500 + 20 * p ≤ r ∧ r < 1500 + 20 * p + 20
    · obtain ⟨j, hj⟩ : ∃ j, r = 1500 + 20 * p + j := ⟨r - (1500 + 20 * p), by omega⟩
      subst hj
      by_cases c1 : j < i
      · exact (hA _ r0 r1).of (fun k k0 k1 => a1 j k (by omega) c1 k0 k1)
      · by_cases c2 : j < h - 1
        · exact (hA (1500 + 20 * p + (j + 1)) (by omega) (by omega)).of (fun k k0 k1 => a2 j k (by omega) c2 k0 k1)
        · exact (hA _ r0 r1).of (fun k k0 k1 => a3 j k (by omega) (by omega) k0 k1)
    · exact (hA r r0 r1).of (fun k k0 k1 => e82 _ (by omega))
  · rw [eo 83 _ (by omega) (by omega)] at n2
    exact (hP p' w' n p0 p1 w0 w1 n0 n1 n2).of (fun k k0 k1 => e82 _ (by omega)) ew
  · by_cases hq : p' = p
    · subst hq
      rw [h84] at j1
      by_cases c1 : j < i
      · exact (hH p' j p0 p1 j0 j2 (by omega)).of (fun k k0 k1 => a1 j k (by omega) c1 k0 k1) ew
      · exact (hH p' (j + 1) p0 p1 (by omega) (by omega) (by omega)).of (fun k k0 k1 => a2 j k (by omega) j1 k0 k1) ew
    · rw [e84 _ (by omega)] at j1
      exact (hH p' j p0 p1 j0 j2 j1).of (fun k k0 k1 => e82 _ (by omega)) ew
  · rw [eo 101 _ (by omega) (by omega)] at n2
    rw [eo 81 _ (by omega) (by omega)] at hj
    exact ((hJ hj).1 p' w' n p0 p1 w0 w1 n0 n1 n2).of (fun k k0 k1 => e82 _ (by omega)) ew
  · rw [eo 102 _ (by omega) (by omega)] at j1
    rw [eo 81 _ (by omega) (by omega)] at hj
    exact ((hJ hj).2 p' j p0 p1 j0 j2 j1).of (fun k k0 k1 => e82 _ (by omega)) ew
theorem rl_hold {E E1 E2 : cm_E} {p h b : Int} (h0 : rl E) (hp : 0 ≤ p ∧ p ≤ 4) (hh : gv E 84 p.toNat = h) (h19 : 0 ≤ h ∧ h ≤ 19) (hb : b = 1500 + 20 * p + h) (hrow : rl_row E 3200) (hhd : rl_hd E 3200)
    (hG : cm_fr (fun i k => i = 82 ∧ (166 * b).toNat ≤ k ∧ k < (166 * b + 166).toNat) E E1) (hz : ∀ k : Int, 0 ≤ k → k < 166 → gv E1 82 (166 * b + k).toNat = gv E 82 (166 * 3200 + k).toNat) (hE : cm_up E1 84 p.toNat (ai_i (h + 1)) = E2) : rl E2 := by
  obtain ⟨hA, hP, hH, hJ⟩ := h0
  have e82 : ∀ k : Nat, ¬ ((166 * b).toNat ≤ k ∧ k < (166 * b + 166).toNat) → gv E2 82 k = gv E 82 k := fun k hk => by
    rw [← hE, gv_ne _ _ (by omega), ← gv_fr hG (by first | omega | (simp only; omega))]
  have eo : ∀ i k, i ≠ 82 → i ≠ 84 → gv E2 i k = gv E i k := fun i k h1 h2 => by
    rw [← hE, gv_ne _ _ (by omega), ← gv_fr hG (by first | omega | (simp only; omega))]
  have e84 : ∀ k : Nat, k ≠ p.toNat → gv E2 84 k = gv E 84 k := fun k hk => by
    rw [← hE, gv_ne _ _ (by omega), ← gv_fr hG (by first | omega | (simp only; omega))]
  have e84m : gv E2 84 p.toNat = h + 1 := by rw [← hE, gv_up]
  have hz' : ∀ k : Int, 0 ≤ k → k < 166 → gv E2 82 (166 * b + k).toNat = gv E 82 (166 * 3200 + k).toNat := fun k k0 k1 => by
    rw [← hE, gv_ne _ _ (by omega)]; exact hz k k0 k1
  have ew : gv E2 81 1 = gv E 81 1 := eo _ _ (by omega) (by omega)
  refine ⟨hA.copy hrow (by omega) e82 hz', fun p' w' n p0 p1 w0 w1 n0 n1 n2 => ?_, fun p' j p0 p1 j0 j2 j1 => ?_, fun hj => ⟨fun p' w' n p0 p1 w0 w1 n0 n1 n2 => ?_, fun p' j p0 p1 j0 j2 j1 => ?_⟩⟩
  · rw [eo 83 _ (by omega) (by omega)] at n2
    exact (hP p' w' n p0 p1 w0 w1 n0 n1 n2).of (fun k k0 k1 => e82 _ (by omega)) ew
  · by_cases hq : p' = p
    · subst hq
      rw [e84m] at j1
      by_cases hj : j = h
      · rw [show 1500 + 20 * p' + j = b by omega]
        exact hhd.of hz' ew
      · exact (hH p' j p0 p1 j0 j2 (by omega)).of (fun k k0 k1 => e82 _ (by omega)) ew
    · rw [e84 _ (by omega)] at j1
      exact (hH p' j p0 p1 j0 j2 j1).of (fun k k0 k1 => e82 _ (by omega)) ew
  · rw [eo 101 _ (by omega) (by omega)] at n2
    rw [eo 81 _ (by omega) (by omega)] at hj
    exact ((hJ hj).1 p' w' n p0 p1 w0 w1 n0 n1 n2).of (fun k k0 k1 => e82 _ (by omega)) ew
  · rw [eo 102 _ (by omega) (by omega)] at j1
    rw [eo 81 _ (by omega) (by omega)] at hj
    exact ((hJ hj).2 p' j p0 p1 j0 j2 j1).of (fun k k0 k1 => e82 _ (by omega)) ew
/-- a held step whose number the page hasn't yet -/
def rl_ns (E : cm_E) (p j : Int) : Prop := gv E 83 (5 * p + gv E 82 (166 * (1500 + 20 * p + j) + 1).toNat).toNat < gv E 82 (166 * (1500 + 20 * p + j) + 2).toNat
theorem rl_ns.of {E E' : cm_E} {p j j' : Int} (h : rl_ns E p j) (h83 : ∀ k, gv E' 83 k = gv E 83 k) (he : ∀ k : Int, 0 ≤ k → k < 166 → gv E' 82 (166 * (1500 + 20 * p + j') + k).toNat = gv E 82 (166 * (1500 + 20 * p + j) + k).toNat) : rl_ns E' p j' := by
  unfold rl_ns at h ⊢
  rw [he 1 (by omega) (by omega), he 2 (by omega) (by omega), h83]
  exact h
