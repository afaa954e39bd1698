/-! ===== all anew; the image ===== -/
theorem rl_new {E E' : cm_E} (h : rl_A E) (e82 : ∀ k : Nat, k < 531200 → gv E' 82 k = gv E 82 k) (z83 : ∀ k : Int, 0 ≤ k → k < 25 → gv E' 83 k.toNat = 0) (z84 : ∀ k : Int, 0 ≤ k → k < 5 → gv E' 84 k.toNat = 0) (h34 : gv E' 81 34 = 0) : rl E' := by
  refine ⟨fun r r0 r1 => (h r r0 r1).of (fun k k0 k1 => e82 _ (by omega)), fun p w n p0 p1 w0 w1 n0 n1 n2 => ?_, fun p i p0 p1 i0 i2 i1 => ?_, fun hj => ?_⟩
  · have := z83 (5 * p + w) (by omega) (by omega); omega
  · have := z84 p (by omega) (by omega); omega
  · omega
/-- the rows are copied, o rows on -/
theorem rl_cpy {E E' : cm_E} (h : rl_A E) {a b : Int} (hab : (a = 0 ∧ b = 1600) ∨ (a = 1600 ∧ b = 0)) (hf : ∀ k : Nat, ¬ ((166 * b).toNat ≤ k ∧ k < (166 * (b + 1600)).toNat) → gv E' 82 k = gv E 82 k)
    (hc : ∀ r k : Int, 0 ≤ r → r < 1600 → 0 ≤ k → k < 166 → gv E' 82 (166 * (b + r) + k).toNat = gv E 82 (166 * (a + r) + k).toNat) : rl_A E' := by
  intro r r0 r1
  by_cases hr : b ≤ r ∧ r < b + 1600
  · obtain ⟨j, hj⟩ : ∃ j, r = b + j := ⟨r - b, by omega⟩
    subst hj
    exact (h (a + j) (by omega) (by omega)).of (fun k k0 k1 => hc j k (by omega) (by omega) k0 k1)
  · exact (h r r0 r1).of (fun k k0 k1 => hf _ (by omega))
theorem rl_image {E E' : cm_E} (h : rl E) (hf : ∀ k : Nat, ¬ ((166 * 1600 : Int).toNat ≤ k ∧ k < (166 * (1600 + 1600) : Int).toNat) → gv E' 82 k = gv E 82 k) (hc : ∀ r k : Int, 0 ≤ r → r < 1600 → 0 ≤ k → k < 166 → gv E' 82 (166 * (1600 + r) + k).toNat = gv E 82 (166 * (0 + r) + k).toNat)
    (e1 : gv E' 81 1 = gv E 81 1) (e83 : ∀ k, gv E' 83 k = gv E 83 k) (e84 : ∀ k, gv E' 84 k = gv E 84 k) (e101 : ∀ k : Int, 0 ≤ k → k < 25 → gv E' 101 k.toNat = gv E 83 k.toNat) (e102 : ∀ k : Int, 0 ≤ k → k < 5 → gv E' 102 k.toNat = gv E 84 k.toNat) : rl E' := by
  obtain ⟨hA, hP, hH, -⟩ := h
  refine ⟨rl_cpy hA (Or.inl ⟨rfl, rfl⟩) hf hc, fun p w n p0 p1 w0 w1 n0 n1 n2 => ?_, fun p i p0 p1 i0 i2 i1 => ?_, fun hj => ⟨fun p w n p0 p1 w0 w1 n0 n1 n2 => ?_, fun p i p0 p1 i0 i2 i1 => ?_⟩⟩
  · rw [e83] at n2
    exact (hP p w n p0 p1 w0 w1 n0 n1 n2).of (fun k k0 k1 => hf _ (by omega)) e1
  · rw [e84] at i1
    exact (hH p i p0 p1 i0 i2 i1).of (fun k k0 k1 => hf _ (by omega)) e1
  · rw [e101 _ (by omega) (by omega)] at n2
    exact (hP p w n p0 p1 w0 w1 n0 n1 n2).of (fun k k0 k1 => hc ((5 * p + w) * 60 + n - 1) k (by omega) (by omega) k0 k1) e1
  · rw [e102 _ (by omega) (by omega)] at i1
    have := (hH p i p0 p1 i0 i2 i1).of (E' := E') (r' := 1600 + (1500 + 20 * p + i)) (fun k k0 k1 => by
      have q := hc (1500 + 20 * p + i) k (by omega) (by omega) k0 k1
      rw [show (0 : Int) + (1500 + 20 * p + i) = 1500 + 20 * p + i by omega] at q
      exact q) e1
    rw [show 1600 + (1500 + 20 * p + i) = 3100 + 20 * p + i by omega] at this
    exact this
theorem rl_restore {E E' : cm_E} (h : rl E) (h34 : gv E 81 34 = 1) (hf : ∀ k : Nat, ¬ ((166 * 0 : Int).toNat ≤ k ∧ k < (166 * (0 + 1600) : Int).toNat) → gv E' 82 k = gv E 82 k) (hc : ∀ r k : Int, 0 ≤ r → r < 1600 → 0 ≤ k → k < 166 → gv E' 82 (166 * (0 + r) + k).toNat = gv E 82 (166 * (1600 + r) + k).toNat)
    (e1 : gv E' 81 1 = gv E 81 1) (e101 : ∀ k, gv E' 101 k = gv E 101 k) (e102 : ∀ k, gv E' 102 k = gv E 102 k) (e83 : ∀ k : Int, 0 ≤ k → k < 25 → gv E' 83 k.toNat = gv E 101 k.toNat) (e84 : ∀ k : Int, 0 ≤ k → k < 5 → gv E' 84 k.toNat = gv E 102 k.toNat) : rl E' := by
  obtain ⟨hA, -, -, hJ⟩ := h
  obtain ⟨hP, hH⟩ := hJ h34
  refine ⟨rl_cpy hA (Or.inr ⟨rfl, rfl⟩) hf hc, fun p w n p0 p1 w0 w1 n0 n1 n2 => ?_, fun p i p0 p1 i0 i2 i1 => ?_, fun hj => ⟨fun p w n p0 p1 w0 w1 n0 n1 n2 => ?_, fun p i p0 p1 i0 i2 i1 => ?_⟩⟩
  · rw [e83 _ (by omega) (by omega)] at n2
    exact (hP p w n p0 p1 w0 w1 n0 n1 n2).of (fun k k0 k1 => hc ((5 * p + w) * 60 + n - 1) k (by omega) (by omega) k0 k1) e1
  · rw [e84 _ (by omega) (by omega)] at i1
    have := (hH p i p0 p1 i0 i2 i1).of (E' := E') (r' := 0 + (1500 + 20 * p + i)) (fun k k0 k1 => by
      have q := hc (1500 + 20 * p + i) k (by omega) (by omega) k0 k1
      rw [show (1600 : Int) + (1500 + 20 * p + i) = 3100 + 20 * p + i by omega] at q
      exact q) e1
    rw [show (0 : Int) + (1500 + 20 * p + i) = 1500 + 20 * p + i by omega] at this
    exact this
  · rw [e101] at n2
    exact (hP p w n p0 p1 w0 w1 n0 n1 n2).of (fun k k0 k1 => hf _ (by omega)) e1
  · rw [e102] at i1
    exact (hH p i p0 p1 i0 i2 i1).of (fun k k0 k1 => hf _ (by omega)) e1
