theorem ct_m_orderOn {sl : Int × Int} {x : ai_E} {d : Nat} {T : cm_T} {E : cm_E} {nx : Nat} (n : Int) (hI : cs_I T E nx) (hp0 : 0 ≤ n ∧ n ≤ gv E 81 24) (hp1 : oo E n) : cm_ct (ai_ev sl (d + 10)) x 191 [cr 81, ai_i n] T E nx 0 0 (fun rk rv T' E' nx' => rk = 0 ∧ T = T' ∧ nx = nx' ∧ cs_I T E' nx ∧ cm_fr (fun i k => (i = 81 ∧ (k = 32 ∨ k = 33)) ∨ (i = 98 ∧ n.toNat ≤ k) ∨ i = 99 ∨ i = 100) E E' ∧ (True)) := by
  have key : ∀ (k : Nat) (n : Int) (E : cm_E), cs_I T E nx → 0 ≤ n ∧ n ≤ gv E 81 24 → oo E n → (8 - n).toNat ≤ k → cm_ct (ai_ev sl (d + k + 2)) x 191 [cr 81, ai_i n] T E nx 0 0 (fun rk rv T' E' nx' => rk = 0 ∧ T = T' ∧ nx = nx' ∧ cs_I T E' nx ∧ cm_fr (fun i k => (i = 81 ∧ (k = 32 ∨ k = 33)) ∨ (i = 98 ∧ n.toNat ≤ k) ∨ i = 99 ∨ i = 100) E E' ∧ (True)) := by
    intro k
    induction k with
    | zero => exact fun n E hI hn ho hk => ct_m_orderOn_s (d := d) n hI hn ho (fun h => absurd h (by omega))
    | succ k ih => exact fun n E hI hn ho hk => ct_m_orderOn_s (d := d + k + 1) n hI hn ho (fun h E1 hI1 hn1 ho1 => ih (n + 1) E1 hI1 hn1 ho1 (by omega))
  exact key 8 n E hI hp0 hp1 (by omega)
