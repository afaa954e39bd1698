/-! ===== the reference's story ===== -/
theorem cnf_ex (p : Nat → Int) (v : Int) : ∀ (N c : Nat), c < cnf p v N → ∃ a : Nat, a < N ∧ p a = v ∧ cnf p v a = c
  | 0, c, h => absurd h (Nat.not_lt_zero _)
  | N + 1, c, h => by
    have e : cnf p v (N + 1) = cnf p v N + (if p N = v then 1 else 0) := rfl
    by_cases h1 : c < cnf p v N
    · obtain ⟨a, a1, a2, a3⟩ := cnf_ex p v N c h1
      exact ⟨a, by omega, a2, a3⟩
    · by_cases h2 : p N = v
      · rw [if_pos h2] at e
        exact ⟨N, by omega, h2, by omega⟩
      · rw [if_neg h2] at e; omega
theorem cnf_inj {p : Nat → Int} {v : Int} {a b : Nat} (ha : p a = v) (hb : p b = v) (h : cnf p v a = cnf p v b) : a = b := by
  rcases Nat.lt_trichotomy a b with h1 | h1 | h1
  · have e : cnf p v (a + 1) = cnf p v a + (if p a = v then 1 else 0) := rfl
    rw [if_pos ha] at e
    have := cnf_mono p v (show a + 1 ≤ b by omega)
    omega
  · exact h1
  · have e : cnf p v (b + 1) = cnf p v b + (if p b = v then 1 else 0) := rfl
    rw [if_pos hb] at e
    have := cnf_mono p v (show b + 1 ≤ a by omega)
    omega
def f95 (E : cm_E) : Nat → Int := fun k => gv E 95 k
def f96 (E : cm_E) : Nat → Int := fun k => gv E 96 k
def f97 (E : cm_E) : Nat → Int := fun k => gv E 97 k
def f98 (E : cm_E) : Nat → Int := fun k => gv E 98 k
def wd2 (E : cm_E) (D i : Int) : Prop := ∀ a : Nat, a < 8 → (bt D a = 1 ↔ cnf (f95 E) (gv E 95 a) a < cnf (f98 E) (gv E 95 a) i.toNat)
theorem wd2_0 (E : cm_E) : wd2 E 0 0 := fun a ha => by
  have h1 := of_decide_eq_true (List.all_eq_true.mp bt_0 a (List.mem_range.mpr ha))
  rw [h1]
  show ((0 : Int) = 1 ↔ cnf (f95 E) (gv E 95 a) a < 0)
  omega
/-- the act that comes next is there -/
theorem wr_ex2 {E : cm_E} {n D i : Int} (h : oo E n) (hw : wd2 E D i) (hi : 0 ≤ i ∧ i < n) (h8 : 0 ≤ gv E 81 24 ∧ gv E 81 24 ≤ 8) : ∃ a0 : Int, (0 ≤ a0 ∧ a0 < gv E 81 24) ∧ bt D a0 = 0 ∧ gv E 95 a0.toNat = gv E 98 i.toNat ∧ cnf (f95 E) (gv E 98 i.toNat) a0.toNat = cnf (f98 E) (gv E 98 i.toNat) i.toNat := by
  have h1 := h (gv E 98 i.toNat)
  rw [cn_cnf, cn_cnf] at h1
  have h3 := cnf_mono (f98 E) (gv E 98 i.toNat) (show i.toNat + 1 ≤ n.toNat by omega)
  have h4 : cnf (f98 E) (gv E 98 i.toNat) (i.toNat + 1) = cnf (f98 E) (gv E 98 i.toNat) i.toNat + 1 := by
    show cnf (f98 E) (gv E 98 i.toNat) i.toNat + (if f98 E i.toNat = gv E 98 i.toNat then 1 else 0) = _
    rw [if_pos (show f98 E i.toNat = gv E 98 i.toNat from rfl)]
  have h5 : cnf (f98 E) (gv E 98 i.toNat) n.toNat ≤ cnf (f95 E) (gv E 98 i.toNat) (gv E 81 24).toNat := h1
  obtain ⟨a, a1, a2, a3⟩ := cnf_ex (f95 E) (gv E 98 i.toNat) (gv E 81 24).toNat (cnf (f98 E) (gv E 98 i.toNat) i.toNat) (by omega)
  have a2 : gv E 95 a = gv E 98 i.toNat := a2
  have h6 := hw a (by omega)
  rw [a2, a3] at h6
  have h7 := bt01 D (a : Int)
  refine ⟨(a : Int), by omega, ?_, a2, a3⟩
  have : ¬ bt D (a : Int) = 1 := fun q => absurd (h6.mp q) (by omega)
  omega
/-- the first act found is that one -/
theorem wr_is {E : cm_E} {D i a a0 : Int} (hw : wd2 E D i) (h0 : 0 ≤ a ∧ a ≤ a0 ∧ a0 < 8) (hb : bt D a = 0) (hv : gv E 95 a.toNat = gv E 98 i.toNat) (hv0 : gv E 95 a0.toNat = gv E 98 i.toNat) (hc : cnf (f95 E) (gv E 98 i.toNat) a0.toNat = cnf (f98 E) (gv E 98 i.toNat) i.toNat) : a = a0 := by
  have h6 := hw a.toNat (by omega)
  rw [show ((a.toNat : Nat) : Int) = a by omega, hb, hv] at h6
  have h7 : ¬ cnf (f95 E) (gv E 98 i.toNat) a.toNat < cnf (f98 E) (gv E 98 i.toNat) i.toNat := fun q => absurd (h6.mpr q) (by omega)
  have h8 := cnf_mono (f95 E) (gv E 98 i.toNat) (show a.toNat ≤ a0.toNat by omega)
  have := cnf_inj (p := f95 E) (v := gv E 98 i.toNat) (a := a.toNat) (b := a0.toNat) hv hv0 (by omega)
  omega
theorem wd2_next {E : cm_E} {D i a D' : Int} (h : wd2 E D i) (hD : 0 ≤ D ∧ D < 256) (ha : 0 ≤ a ∧ a ≤ 7) (hi : 0 ≤ i) (hv : gv E 95 a.toNat = gv E 98 i.toNat) (hc : cnf (f95 E) (gv E 98 i.toNat) a.toNat = cnf (f98 E) (gv E 98 i.toNat) i.toNat) (hs : D' = sb D a) : wd2 E D' (i + 1) ∧ 0 ≤ D' ∧ D' < 256 := by
  subst hs
  refine ⟨fun b hb => ?_, (sb_ok hD ha).1⟩
  have h1 := (sb_ok hD ha).2 b hb
  have h2 := h b hb
  have e : cnf (f98 E) (gv E 95 b) (i + 1).toNat = cnf (f98 E) (gv E 95 b) i.toNat + (if gv E 98 i.toNat = gv E 95 b then 1 else 0) := cnf_s (f98 E) (gv E 95 b) hi
  rw [h1, e]
  by_cases hba : (b : Int) = a
  · rw [if_pos hba]
    have e1 : b = a.toNat := by omega
    rw [e1, hv, if_pos rfl]
    omega
  · rw [if_neg hba]
    by_cases hp : gv E 98 i.toNat = gv E 95 b
    · rw [if_pos hp]
      have hne : cnf (f95 E) (gv E 95 b) b ≠ cnf (f98 E) (gv E 95 b) i.toNat := fun q => by
        rw [← hp] at q
        have := cnf_inj (p := f95 E) (v := gv E 98 i.toNat) (a := b) (b := a.toNat) hp.symm hv (q.trans hc.symm)
        omega
      omega
    · rw [if_neg hp]
      omega
/-- the text of the order in the cells -/
noncomputable def TX (E : cm_E) (n : Int) : Option (Int × (Nat → Int)) := txp (f95 E) (f96 E) (f97 E) (gv E 81 24).toNat (f98 E) n.toNat
def wtx (E0 E : cm_E) (l i : Int) : Prop := ∃ f : Nat → Int, TX E0 i = some (l, f) ∧ ∀ j : Nat, (j : Int) < l → gv E 100 j = f j
def wout (E E' : cm_E) (n z : Int) : Prop := (TX E n = none → z = -1) ∧ ∀ q : Int × (Nat → Int), TX E n = some q → z = q.1 ∧ 0 ≤ z ∧ ∀ j : Nat, (j : Int) < q.1 → gv E' 100 j = q.2 j
theorem wtx_0 (E0 E : cm_E) : wtx E0 E 0 0 := ⟨fun _ => 0, rfl, fun j hj => by omega⟩
theorem wtx.out {E0 E : cm_E} {l n : Int} (h : wtx E0 E l n) (hl : 0 ≤ l) : wout E0 E n l := by
  obtain ⟨f, h1, h2⟩ := h
  refine ⟨fun q => (by rw [h1] at q; cases q), fun q hq => ?_⟩
  rw [h1] at hq; cases hq
  exact ⟨rfl, hl, h2⟩
theorem TX_s {E : cm_E} {i a : Int} {q : Int × (Nat → Int)} (h : TX E i = some q) (hi : 0 ≤ i) (ha : 0 ≤ a ∧ a < gv E 81 24) (hv : gv E 95 a.toNat = gv E 98 i.toNat) (hc : cnf (f95 E) (gv E 98 i.toNat) a.toNat = cnf (f98 E) (gv E 98 i.toNat) i.toNat) : TX E (i + 1) = stp (f96 E) (f97 E) a.toNat q := by
  have e1 : nxa (f95 E) (gv E 98 i.toNat) (gv E 81 24).toNat (cnf (f98 E) (gv E 98 i.toNat) i.toNat) 0 = some a.toNat := nxa_of _ _ _ _ _ _ (Nat.zero_le _) (by omega) hv (by rw [hc]; show _ = 0 + _; omega)
  unfold TX at h ⊢
  rw [show (i + 1).toNat = i.toNat + 1 by omega]
  show (match txp (f95 E) (f96 E) (f97 E) (gv E 81 24).toNat (f98 E) i.toNat with
    | none => none
    | some q => match nxa (f95 E) (f98 E i.toNat) (gv E 81 24).toNat (cnf (f98 E) (f98 E i.toNat) i.toNat) 0 with
      | none => none
      | some a => stp (f96 E) (f97 E) a q) = _
  rw [h]
  simp only
  rw [show f98 E i.toNat = gv E 98 i.toNat from rfl, e1]
theorem wout_no {E E' : cm_E} {i n : Int} (h : TX E (i + 1) = none) (hi : 0 ≤ i ∧ i < n) : wout E E' n (-1) := by
  have h2 : TX E n = none := txp_none (t := (i + 1).toNat) h (by omega)
  exact ⟨fun _ => rfl, fun q hq => by rw [h2] at hq; cases hq⟩
theorem stp_no1 {l s : Nat → Int} {a : Nat} {q : Int × (Nat → Int)} (h1 : s a = -1) (h2 : ¬ l a < q.1) : stp l s a q = none := by unfold stp; rw [if_pos h1, if_neg h2]
theorem stp_no2 {l s : Nat → Int} {a : Nat} {q : Int × (Nat → Int)} (h1 : ¬ s a = -1) (h2 : ¬ l a ≤ q.1) : stp l s a q = none := by unfold stp; rw [if_neg h1, if_neg (fun h => h2 h.1)]
theorem stp_1 {l s : Nat → Int} {a : Nat} {q : Int × (Nat → Int)} (h1 : s a = -1) (h2 : l a < q.1) : stp l s a q = some (q.1 - 1, fun (k : Nat) => if (k : Int) < l a then q.2 k else q.2 (k + 1)) := by unfold stp; rw [if_pos h1, if_pos h2]
theorem stp_2 {l s : Nat → Int} {a : Nat} {q : Int × (Nat → Int)} (h1 : ¬ s a = -1) (h2 : l a ≤ q.1 ∧ q.1 < 8) : stp l s a q = some (q.1 + 1, fun (k : Nat) => if (k : Int) < l a then q.2 k else if (k : Int) = l a then s a else q.2 (k - 1)) := by unfold stp; rw [if_neg h1, if_pos h2]
/-- what the search has found so far, as the reference has it -/
def mB (E : cm_E) (n : Nat) (A : sA) : Prop := gv E 81 32 = A.1 ∧ gv E 81 33 = A.2.1 ∧ ∀ j : Nat, j < n → gv E 99 j = A.2.2 j
theorem mB.fr {P : Nat → Nat → Prop} {E E' : cm_E} {n : Nat} {A : sA} (h : mB E n A) (hf : cm_fr P E E') (hp : ∀ i k, P i k → i ≠ 99 ∧ ¬ (i = 81 ∧ (k = 32 ∨ k = 33))) : mB E' n A :=
  ⟨by rw [← gv_fr hf (fun q => (hp _ _ q).2 ⟨rfl, Or.inl rfl⟩)]; exact h.1, by rw [← gv_fr hf (fun q => (hp _ _ q).2 ⟨rfl, Or.inr rfl⟩)]; exact h.2.1, fun j hj => by rw [← gv_fr hf (fun q => (hp _ _ q).1 rfl)]; exact h.2.2 j hj⟩
theorem mB.wr {E : cm_E} {i k : Nat} {v : ai_V} {n : Nat} {A : sA} (h : mB E n A) (hp : i ≠ 99 ∧ ¬ (i = 81 ∧ (k = 32 ∨ k = 33))) : mB (cm_up E i k v) n A :=
  h.fr (P := fun i' k' => i' = i ∧ k' = k) (fun i' k' hn => cm_up_ne E v hn) (fun i' k' q => by rw [q.1, q.2]; exact hp)
