/-! ===== the text is of the row; the hand's row ===== -/
def tx (E : cm_E) : Prop := ∀ j : Int, 0 ≤ j → j < gv E 81 13 → ∃ q : Int, 0 ≤ q ∧ q < gv E 81 12 ∧ gv E 90 q.toNat = gv E 91 j.toNat
theorem tx.fr {P : Nat → Nat → Prop} {E E' : cm_E} (h : tx E) (hf : cm_fr P E E') (hp : ∀ i k, P i k → i ≠ 90 ∧ i ≠ 91 ∧ ¬ (i = 81 ∧ (k = 12 ∨ k = 13))) : tx E' := by
  have e : ∀ i k, (i = 90 ∨ i = 91 ∨ (i = 81 ∧ (k = 12 ∨ k = 13))) → gv E' i k = gv E i k := fun i k hk => (gv_fr hf (fun q => by have := hp i k q; omega)).symm
  intro j j0 j1
  rw [e 81 13 (by omega)] at j1
  obtain ⟨q, q0, q1, q2⟩ := h j j0 j1
  exact ⟨q, q0, by rw [e 81 12 (by omega)]; exact q1, by rw [e 90 _ (by omega), e 91 _ (by omega)]; exact q2⟩
theorem tx.wr {E : cm_E} {i k : Nat} {v : ai_V} (h : tx E) (hp : i ≠ 90 ∧ i ≠ 91 ∧ ¬ (i = 81 ∧ (k = 12 ∨ k = 13))) : tx (cm_up E i k v) :=
  h.fr (P := fun i' k' => i' = i ∧ k' = k) (fun i' k' hn => cm_up_ne E v hn) (fun i' k' q => by rw [q.1, q.2]; exact hp)
theorem hand_ok {E : cm_E} {a p m : Int} (h0 : gv E 82 (166 * 3200 + 0 : Int).toNat = a) (h1 : gv E 82 (166 * 3200 + 1 : Int).toNat = p) (h2 : gv E 82 (166 * 3200 + 2 : Int).toNat = m + 1) (h8 : gv E 82 (166 * 3200 + 8 : Int).toNat ≤ 65535) (ha : a ≤ 3) (hp : p ≤ 4) (hm : 0 ≤ m ∧ m ≤ 59) (hw : p < gv E 81 1)
    (k0 : a = 0 → gv E 82 (166 * 3200 + 10 : Int).toNat ≤ 24) (k2 : a = 2 → 1 ≤ gv E 82 (166 * 3200 + 9 : Int).toNat ∧ gv E 82 (166 * 3200 + 9 : Int).toNat ≤ 60)
    (k3 : a = 3 → gv E 82 (166 * 3200 + 9 : Int).toNat ≤ 6 ∧ ∀ i : Int, 0 ≤ i → i < 6 → gv E 82 (166 * 3200 + 10 + 26 * i + 1).toNat ≤ 24) : rl_row E 3200 ∧ rl_hd E 3200 :=
  ⟨⟨by omega, by omega, by omega, fun q => k0 (by omega), fun q => k2 (by omega), fun q => k3 (by omega)⟩, by omega, by omega⟩
/-- an age that some step of the page has, or 0 -/
def ag_at (E : cm_E) (p a : Int) : Prop := a = 0 ∨ ∃ w' n' : Int, 0 ≤ w' ∧ w' < gv E 81 1 ∧ 1 ≤ n' ∧ n' ≤ gv E 83 (5 * p + w').toNat ∧ a = gv E 82 (166 * ((5 * p + w') * 60 + n' - 1) + 8).toNat
