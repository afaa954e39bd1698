/-! ===== the search in the cells ===== -/
def na (o : Option Nat) : Int := match o with
  | none => -1
  | some a => (a : Int)
theorem cnf_s (p : Nat → Int) (v : Int) {i : Int} (hi : 0 ≤ i) : cnf p v (i + 1).toNat = cnf p v i.toNat + (if p i.toNat = v then 1 else 0) := by
  rw [show (i + 1).toNat = i.toNat + 1 by omega]; rfl
theorem nxa_s (p : Nat → Int) (v : Int) {k c a : Nat} (hk : 0 < k) : nxa p v k c a = if p a = v then (if c = 0 then some a else nxa p v (k - 1) (c - 1) (a + 1)) else nxa p v (k - 1) c (a + 1) := by
  obtain ⟨k', rfl⟩ : ∃ k', k = k' + 1 := ⟨k - 1, by omega⟩
  rfl
/-- the act that is looked for, from the place a on, is the act of the whole -/
def nxe (p : Nat → Int) (v : Int) (n c : Nat) (e a : Int) : Prop := nxa p v (n - a.toNat) e.toNat a.toNat = nxa p v n c 0
theorem nxe_0 {p : Nat → Int} {v : Int} {n c : Nat} {e : Int} (he : e = (c : Int)) : nxe p v n c e 0 := by
  unfold nxe
  rw [he]
  show nxa p v (n - 0) c 0 = _
  rw [Nat.sub_zero]
theorem nxe_end {p : Nat → Int} {v : Int} {n c : Nat} {e a : Int} (h : nxe p v n c e a) (ha : (n : Int) ≤ a) : -1 = na (nxa p v n c 0) := by
  unfold nxe at h
  rw [← h, show n - a.toNat = 0 by omega]; rfl
theorem nxe_hit {p : Nat → Int} {v : Int} {n c : Nat} {e a : Int} (h : nxe p v n c e a) (h0 : 0 ≤ a) (ha : a < (n : Int)) (hp : p a.toNat = v) (he : e = 0) : a = na (nxa p v n c 0) := by
  unfold nxe at h
  rw [← h, nxa_s p v (by omega), if_pos hp, if_pos (by omega)]
  show a = (a.toNat : Int)
  omega
theorem nxe_on {p : Nat → Int} {v : Int} {n c : Nat} {e a : Int} (h : nxe p v n c e a) (h0 : 0 ≤ a) (ha : a < (n : Int)) (hp : p a.toNat = v) (he : 0 < e) : nxe p v n c (e - 1) (a + 1) := by
  unfold nxe at h ⊢
  rw [← h, nxa_s p v (k := n - a.toNat) (by omega), if_pos hp, if_neg (by omega), show n - (a + 1).toNat = n - a.toNat - 1 by omega, show (e - 1).toNat = e.toNat - 1 by omega, show (a + 1).toNat = a.toNat + 1 by omega]
theorem nxe_by {p : Nat → Int} {v : Int} {n c : Nat} {e a : Int} (h : nxe p v n c e a) (h0 : 0 ≤ a) (ha : a < (n : Int)) (hp : ¬ p a.toNat = v) : nxe p v n c e (a + 1) := by
  unfold nxe at h ⊢
  rw [← h, nxa_s p v (k := n - a.toNat) (by omega), if_neg hp, show n - (a + 1).toNat = n - a.toNat - 1 by omega, show (a + 1).toNat = a.toNat + 1 by omega]
/-- what the search has found so far, as the class has it -/
def mA (E : cm_E) (n : Nat) (A : sA) : Prop := gv E 23 10 = A.1 ∧ gv E 23 11 = A.2.1 ∧ ∀ j : Nat, j < n → gv E 29 j = A.2.2 j
/-- .. behind some pens -/
noncomputable def sqp (p l s : Nat → Int) (n : Nat) (told : Nat → Int) (m : Int) (k t : Nat) (w : Nat → Int) (q : Int × (Nat → Int)) (A : sA) : Nat → sA
  | 0 => A
  | j + 1 => sqc p l s n told m k t w q (j : Int) (sqp p l s n told m k t w q A j)
theorem sq_p (p l s : Nat → Int) (n : Nat) (told : Nat → Int) (m : Int) (k t : Nat) (w : Nat → Int) (q : Int × (Nat → Int)) (A : sA) : sq p l s n told m (k + 1) t w q A = sqp p l s n told m k t w q (A.1, max A.2.1 t, A.2.2) 3 := rfl
theorem sqp_o (p l s : Nat → Int) (n : Nat) (told : Nat → Int) (m : Int) (k t : Nat) (w : Nat → Int) (q : Int × (Nat → Int)) (A : sA) : ∀ j : Nat, A.1 ≤ (sqp p l s n told m k t w q A j).1 ∧ (sqp p l s n told m k t w q A j).1 ≤ A.1 + j * pw k
  | 0 => by show A.1 ≤ A.1 ∧ A.1 ≤ A.1 + ((0 : Nat) : Int) * pw k; omega
  | j + 1 => by
    have h1 := sqp_o p l s n told m k t w q A j
    have h2 := sqc_o p l s n told m k t w q (j : Int) (sqp p l s n told m k t w q A j)
    show A.1 ≤ (sqc p l s n told m k t w q (j : Int) (sqp p l s n told m k t w q A j)).1 ∧ (sqc p l s n told m k t w q (j : Int) (sqp p l s n told m k t w q A j)).1 ≤ A.1 + ((j + 1 : Nat) : Int) * pw k
    rw [show ((j + 1 : Nat) : Int) * (pw k : Int) = (j : Int) * (pw k : Int) + (pw k : Int) by rw [Int.natCast_add]; show ((j : Int) + 1) * _ = _; rw [Int.add_mul, Int.one_mul]]
    omega
theorem na_none {o : Option Nat} (h : na o = -1) : o = none := by
  cases o with
  | none => rfl
  | some a => have h : (a : Int) = -1 := h; omega
theorem na_some {o : Option Nat} {z : Int} (h : z = na o) (hz : z ≠ -1) : o = some z.toNat := by
  cases o with
  | none => exact absurd h hz
  | some a => have h : z = (a : Int) := h; rw [h]; rfl
section SQ
variable {p l s : Nat → Int} {n : Nat} {told : Nat → Int} {m : Int} {k t : Nat} {w : Nat → Int} {q q' : Int × (Nat → Int)} {v : Int} {A : sA} {a : Nat}
theorem sqc_n (h : nxa p v n (cnf w v t) 0 = none) : sqc p l s n told m k t w q v A = A := by unfold sqc; rw [h]
theorem sqc_sn (h : nxa p v n (cnf w v t) 0 = some a) (h2 : stp l s a q = none) : sqc p l s n told m k t w q v A = A := by unfold sqc; rw [h]; simp only [h2]
theorem sqc_ss (h : nxa p v n (cnf w v t) 0 = some a) (h2 : stp l s a q = some q') : sqc p l s n told m k t w q v A = sq p l s n told m k (t + 1) (updp w t v) q' A := by unfold sqc; rw [h]; simp only [h2]
theorem sqp_s (j : Int) (hj : 0 ≤ j) : sqp p l s n told m k t w q A (j + 1).toNat = sqc p l s n told m k t w q j (sqp p l s n told m k t w q A j.toNat) := by
  rw [show (j + 1).toNat = j.toNat + 1 by omega]
  show sqc p l s n told m k t w q ((j.toNat : Nat) : Int) _ = _
  rw [show ((j.toNat : Nat) : Int) = j by omega]
end SQ
/-- two copies that leave an element out -/
theorem cp_del {E E1 E2 : cm_E} {c1 c2 s1 d1 n1 s2 d2 n2 : Nat} {pl len : Int} {f : Nat → Int} (h1 : cm_cp E c1 c2 s1 d1 n1 = E1) (h2 : cm_cp E1 c1 c2 s2 d2 n2 = E2) (hc : c1 ≠ c2) (e1 : s1 = 0) (e2 : d1 = 0) (e3 : n1 = pl.toNat) (e4 : s2 = pl.toNat + 1) (e5 : d2 = pl.toNat) (e6 : n2 = (len - pl - 1).toNat) (hp : 0 ≤ pl ∧ pl < len) (hf : ∀ j : Nat, (j : Int) < len → gv E c1 j = f j) : ∀ j : Nat, (j : Int) < len - 1 → gv E2 c2 j = if (j : Int) < pl then f j else f (j + 1) := by
  intro j hj
  subst e1 e2 e3 e4 e5 e6
  unfold gv
  by_cases h : (j : Int) < pl
  · rw [if_pos h, ← h2, cm_cp_ne (by omega), ← h1, cm_cp_eq (by omega)]
    have := hf (0 + (j - 0)) (by omega)
    rw [show 0 + (j - 0) = j by omega] at this ⊢
    exact this
  · rw [if_neg h, ← h2, cm_cp_eq (by omega), ← h1, cm_cp_ne (by omega)]
    have := hf (j + 1) (by omega)
    rw [show pl.toNat + 1 + (j - pl.toNat) = j + 1 by omega]
    exact this
theorem cp_ins {E E1 E2 E3 : cm_E} {c1 c2 s1 d1 n1 s2 d2 n2 kk : Nat} {pl len g : Int} {f : Nat → Int} (h1 : cm_cp E c1 c2 s1 d1 n1 = E1) (hw : cm_up E1 c2 kk (ai_i g) = E2) (h2 : cm_cp E2 c1 c2 s2 d2 n2 = E3) (hc : c1 ≠ c2) (e1 : s1 = 0) (e2 : d1 = 0) (e3 : n1 = pl.toNat) (e4 : s2 = pl.toNat) (e5 : d2 = pl.toNat + 1) (e6 : n2 = (len - pl).toNat) (e7 : kk = pl.toNat) (hp : 0 ≤ pl ∧ pl ≤ len) (hf : ∀ j : Nat, (j : Int) < len → gv E c1 j = f j) : ∀ j : Nat, (j : Int) < len + 1 → gv E3 c2 j = if (j : Int) < pl then f j else if (j : Int) = pl then g else f (j - 1) := by
  intro j hj
  subst e1 e2 e3 e4 e5 e6 e7
  unfold gv
  by_cases h : (j : Int) < pl
  · rw [if_pos h, ← h2, cm_cp_ne (by omega), ← hw, cm_up_ne _ _ (by omega), ← h1, cm_cp_eq (by omega)]
    have := hf (0 + (j - 0)) (by omega)
    rw [show 0 + (j - 0) = j by omega] at this ⊢
    exact this
  · rw [if_neg h]
    by_cases h9 : (j : Int) = pl
    · rw [if_pos h9, ← h2, cm_cp_ne (by omega), ← hw, show j = pl.toNat by omega, cm_up_eq]; rfl
    · rw [if_neg h9, ← h2, cm_cp_eq (by omega), ← hw, cm_up_nei _ _ hc, ← h1, cm_cp_ne (by omega)]
      have := hf (j - 1) (by omega)
      rw [show pl.toNat + (j - (pl.toNat + 1)) = j - 1 by omega]
      exact this
/-- behind the last act -/
noncomputable def lfA (told : Nat → Int) (m : Int) (w : Nat → Int) (q : Int × (Nat → Int)) (A : sA) : sA := pif (tq told m q) (A.1 + 1, A.2.1, pif (A.1 = 0) w A.2.2) A
theorem sq_0 (p l s : Nat → Int) (n : Nat) (told : Nat → Int) (m : Int) (t : Nat) (w : Nat → Int) (q : Int × (Nat → Int)) (A : sA) : sq p l s n told m 0 t w q A = lfA told m w q (A.1, max A.2.1 t, A.2.2) := rfl
theorem lfA_n {told : Nat → Int} {m : Int} {w : Nat → Int} {q : Int × (Nat → Int)} {A : sA} (h : ¬ tq told m q) : lfA told m w q A = A := pif_neg h
theorem lfA_y {told : Nat → Int} {m : Int} {w : Nat → Int} {q : Int × (Nat → Int)} {A : sA} (h : tq told m q) : lfA told m w q A = (A.1 + 1, A.2.1, pif (A.1 = 0) w A.2.2) := pif_pos h
theorem mA.fr {P : Nat → Nat → Prop} {E E' : cm_E} {n : Nat} {A : sA} (h : mA E n A) (hf : cm_fr P E E') (hp : ∀ i k, P i k → i ≠ 29 ∧ ¬ (i = 23 ∧ (k = 10 ∨ k = 11))) : mA E' n A :=
  ⟨by rw [← gv_fr hf (fun q => (hp _ _ q).2 ⟨rfl, Or.inl rfl⟩)]; exact h.1, by rw [← gv_fr hf (fun q => (hp _ _ q).2 ⟨rfl, Or.inr rfl⟩)]; exact h.2.1, fun j hj => by rw [← gv_fr hf (fun q => (hp _ _ q).1 rfl)]; exact h.2.2 j hj⟩
theorem mA.wr {E : cm_E} {i k : Nat} {v : ai_V} {n : Nat} {A : sA} (h : mA E n A) (hp : i ≠ 29 ∧ ¬ (i = 23 ∧ (k = 10 ∨ k = 11))) : mA (cm_up E i k v) n A :=
  h.fr (P := fun i' k' => i' = i ∧ k' = k) (fun i' k' hn => cm_up_ne E v hn) (fun i' k' q => by rw [q.1, q.2]; exact hp)
/-- the story is solved -/
def sol (E : cm_E) (pf lf sf : Nat → Int) (n : Nat) (told : Nat → Int) (m : Int) : Prop := ∃ fi : Nat → Int, mA E n (sq pf lf sf n told m n 0 (fun _ => 0) (0, fun _ => 0) (0, 0, fi))
/-- what story answers -/
def stv (R : sA) (n : Nat) (c : Int) : Option Int := if c = 0 then some R.1 else if c = 1 then some R.2.1 else if c < 10 ∨ (n : Int) ≤ c - 10 ∨ R.1 = 0 then none else some (R.2.2 (c - 10).toNat)
theorem stv_R {A B : sA} {n : Nat} {c : Int} (h : sR A B) : stv A n c = stv B n c := by
  obtain ⟨h0, h1, h2, h3⟩ := h
  unfold stv
  rw [h1, h2]
  by_cases c0 : c = 0
  · rw [if_pos c0, if_pos c0]
  · rw [if_neg c0, if_neg c0]
    by_cases c1 : c = 1
    · rw [if_pos c1, if_pos c1]
    · rw [if_neg c1, if_neg c1]
      by_cases c2 : c < 10 ∨ (n : Int) ≤ c - 10 ∨ B.1 = 0
      · rw [if_pos c2, if_pos c2]
      · rw [if_neg c2, if_neg c2]
        rcases h3 with h3 | h3
        · exact absurd (Or.inr (Or.inr (h1.symm.trans h3))) c2
        · rw [h3]
