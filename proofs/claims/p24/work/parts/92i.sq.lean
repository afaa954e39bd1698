/-! ===== the story as a search: what class and reference both do ===== -/
noncomputable def pif {α : Type} (P : Prop) (a b : α) : α := @ite α P (Classical.propDecidable P) a b
theorem pif_pos {α : Type} {P : Prop} {a b : α} (h : P) : pif P a b = a := if_pos h
theorem pif_neg {α : Type} {P : Prop} {a b : α} (h : ¬ P) : pif P a b = b := if_neg h
def cnf (p : Nat → Int) (v : Int) : Nat → Nat
  | 0 => 0
  | t + 1 => cnf p v t + (if p t = v then 1 else 0)
/-- the act of a pen, c of his acts being passed over, from a on -/
def nxa (p : Nat → Int) (v : Int) : Nat → Nat → Nat → Option Nat
  | 0, _, _ => none
  | k + 1, c, a => if p a = v then (if c = 0 then some a else nxa p v k (c - 1) (a + 1)) else nxa p v k c (a + 1)
/-- an act on a text -/
def stp (l s : Nat → Int) (a : Nat) (q : Int × (Nat → Int)) : Option (Int × (Nat → Int)) :=
  if s a = -1 then (if l a < q.1 then some (q.1 - 1, fun k => if (k : Int) < l a then q.2 k else q.2 (k + 1)) else none)
  else (if l a ≤ q.1 ∧ q.1 < 8 then some (q.1 + 1, fun k => if (k : Int) < l a then q.2 k else if (k : Int) = l a then s a else q.2 (k - 1)) else none)
def updp (w : Nat → Int) (t : Nat) (v : Int) : Nat → Int := fun k => if k = t then v else w k
def tq (told : Nat → Int) (m : Int) (q : Int × (Nat → Int)) : Prop := q.1 = m ∧ ∀ j : Nat, (j : Int) < m → q.2 j = told j
abbrev sA : Type := Int × Int × (Nat → Int)
/-- the search: k acts are left, t are done, w the pens so far, q the text -/
noncomputable def sq (p l s : Nat → Int) (n : Nat) (told : Nat → Int) (m : Int) : Nat → Nat → (Nat → Int) → Int × (Nat → Int) → sA → sA
  | 0, t, w, q, A => pif (tq told m q) (A.1 + 1, max A.2.1 t, pif (A.1 = 0) w A.2.2) (A.1, max A.2.1 t, A.2.2)
  | k + 1, t, w, q, A =>
    (fun A1 => (match nxa p 2 n (cnf w 2 t) 0 with
      | none => A1
      | some a => match stp l s a q with
        | none => A1
        | some q' => sq p l s n told m k (t + 1) (updp w t 2) q' A1))
    ((fun A1 => (match nxa p 1 n (cnf w 1 t) 0 with
      | none => A1
      | some a => match stp l s a q with
        | none => A1
        | some q' => sq p l s n told m k (t + 1) (updp w t 1) q' A1))
    ((fun A1 => (match nxa p 0 n (cnf w 0 t) 0 with
      | none => A1
      | some a => match stp l s a q with
        | none => A1
        | some q' => sq p l s n told m k (t + 1) (updp w t 0) q' A1)) (A.1, max A.2.1 t, A.2.2)))
/-- what one pen comes to -/
noncomputable def sqc (p l s : Nat → Int) (n : Nat) (told : Nat → Int) (m : Int) (k t : Nat) (w : Nat → Int) (q : Int × (Nat → Int)) (v : Int) (A : sA) : sA := match nxa p v n (cnf w v t) 0 with
  | none => A
  | some a => match stp l s a q with
    | none => A
    | some q' => sq p l s n told m k (t + 1) (updp w t v) q' A
theorem sq_s (p l s : Nat → Int) (n : Nat) (told : Nat → Int) (m : Int) (k t : Nat) (w : Nat → Int) (q : Int × (Nat → Int)) (A : sA) : sq p l s n told m (k + 1) t w q A = sqc p l s n told m k t w q 2 (sqc p l s n told m k t w q 1 (sqc p l s n told m k t w q 0 (A.1, max A.2.1 t, A.2.2))) := rfl
def pw : Nat → Nat
  | 0 => 1
  | k + 1 => 3 * pw k
theorem sq_o (p l s : Nat → Int) (n : Nat) (told : Nat → Int) (m : Int) : ∀ (k t : Nat) (w : Nat → Int) (q : Int × (Nat → Int)) (A : sA), A.1 ≤ (sq p l s n told m k t w q A).1 ∧ (sq p l s n told m k t w q A).1 ≤ A.1 + pw k
  | 0, t, w, q, A => by
    unfold sq
    by_cases h : tq told m q
    · rw [pif_pos h]; show A.1 ≤ A.1 + 1 ∧ A.1 + 1 ≤ A.1 + ((1 : Nat) : Int); omega
    · rw [pif_neg h]; show A.1 ≤ A.1 ∧ A.1 ≤ A.1 + ((1 : Nat) : Int); omega
  | k + 1, t, w, q, A => by
    have hc : ∀ (v : Int) (B : sA), B.1 ≤ (sqc p l s n told m k t w q v B).1 ∧ (sqc p l s n told m k t w q v B).1 ≤ B.1 + pw k := fun v B => by
      unfold sqc
      split
      · omega
      · split
        · omega
        · exact sq_o p l s n told m k _ _ _ B
    rw [sq_s]
    have h0 := hc 0 (A.1, max A.2.1 t, A.2.2)
    have h1 := hc 1 (sqc p l s n told m k t w q 0 (A.1, max A.2.1 t, A.2.2))
    have h2 := hc 2 (sqc p l s n told m k t w q 1 (sqc p l s n told m k t w q 0 (A.1, max A.2.1 t, A.2.2)))
    have e : pw (k + 1) = 3 * pw k := rfl
    have e0 : (A.1, max A.2.1 (t : Int), A.2.2).1 = A.1 := rfl
    rw [e0] at h0
    omega
theorem sqc_o (p l s : Nat → Int) (n : Nat) (told : Nat → Int) (m : Int) (k t : Nat) (w : Nat → Int) (q : Int × (Nat → Int)) (v : Int) (B : sA) : B.1 ≤ (sqc p l s n told m k t w q v B).1 ∧ (sqc p l s n told m k t w q v B).1 ≤ B.1 + pw k := by
  unfold sqc
  split
  · omega
  · split
    · omega
    · exact sq_o p l s n told m k _ _ _ B
/-- the first order found is the same, whatever stood there before -/
def sR (A B : sA) : Prop := 0 ≤ A.1 ∧ A.1 = B.1 ∧ A.2.1 = B.2.1 ∧ (A.1 = 0 ∨ A.2.2 = B.2.2)
theorem sq_R (p l s : Nat → Int) (n : Nat) (told : Nat → Int) (m : Int) : ∀ (k t : Nat) (w : Nat → Int) (q : Int × (Nat → Int)) (A B : sA), sR A B → sR (sq p l s n told m k t w q A) (sq p l s n told m k t w q B)
  | 0, t, w, q, A, B, ⟨h0, h1, h2, h3⟩ => by
    unfold sq
    by_cases h : tq told m q
    · rw [pif_pos h, pif_pos h]
      refine ⟨by show 0 ≤ A.1 + 1; omega, by show A.1 + 1 = B.1 + 1; omega, by show max A.2.1 _ = max B.2.1 _; rw [h2], Or.inr ?_⟩
      show pif (A.1 = 0) w A.2.2 = pif (B.1 = 0) w B.2.2
      by_cases hz : A.1 = 0
      · rw [pif_pos hz, pif_pos (h1.symm.trans hz)]
      · rw [pif_neg hz, pif_neg (fun e => hz (h1.trans e))]
        rcases h3 with h3 | h3
        · exact absurd h3 hz
        · exact h3
    · rw [pif_neg h, pif_neg h]
      exact ⟨h0, h1, by show max A.2.1 _ = max B.2.1 _; rw [h2], h3⟩
  | k + 1, t, w, q, A, B, ⟨h0, h1, h2, h3⟩ => by
    have hc : ∀ (v : Int) (C D : sA), sR C D → sR (sqc p l s n told m k t w q v C) (sqc p l s n told m k t w q v D) := fun v C D hCD => by
      unfold sqc
      split
      · exact hCD
      · split
        · exact hCD
        · exact sq_R p l s n told m k _ _ _ C D hCD
    rw [sq_s, sq_s]
    exact hc 2 _ _ (hc 1 _ _ (hc 0 _ _ ⟨h0, h1, by show max A.2.1 _ = max B.2.1 _; rw [h2], h3⟩))
theorem cnf_mono (p : Nat → Int) (v : Int) {a b : Nat} (h : a ≤ b) : cnf p v a ≤ cnf p v b := by
  induction h with
  | refl => exact Nat.le_refl _
  | step _ ih => exact Nat.le_trans ih (Nat.le_add_right _ _)
theorem cnf_congr {p p' : Nat → Int} {v : Int} : ∀ {t : Nat}, (∀ k, k < t → p k = p' k) → cnf p v t = cnf p' v t
  | 0, _ => rfl
  | t + 1, h => by unfold cnf; rw [cnf_congr (fun k hk => h k (by omega)), h t (by omega)]
theorem nxa_lt (p : Nat → Int) (v : Int) : ∀ (k c a b : Nat), nxa p v k c a = some b → a ≤ b ∧ b < a + k ∧ p b = v
  | 0, _, _, _, h => by cases h
  | k + 1, c, a, b, h => by
    unfold nxa at h
    by_cases h1 : p a = v
    · rw [if_pos h1] at h
      by_cases h2 : c = 0
      · rw [if_pos h2] at h; cases h; exact ⟨Nat.le_refl _, by omega, h1⟩
      · rw [if_neg h2] at h
        have := nxa_lt p v k (c - 1) (a + 1) b h
        omega
    · rw [if_neg h1] at h
      have := nxa_lt p v k c (a + 1) b h
      omega
theorem nxa_none (p : Nat → Int) (v : Int) : ∀ (k c a : Nat), cnf p v (a + k) ≤ cnf p v a + c → nxa p v k c a = none
  | 0, _, _, _ => rfl
  | k + 1, c, a, h => by
    unfold nxa
    have e : cnf p v (a + 1) = cnf p v a + (if p a = v then 1 else 0) := rfl
    have hm := cnf_mono p v (show a + 1 ≤ a + (k + 1) by omega)
    by_cases h1 : p a = v
    · rw [if_pos h1] at e ⊢
      rw [if_neg (by omega)]
      exact nxa_none p v k (c - 1) (a + 1) (by rw [show a + 1 + k = a + (k + 1) by omega]; omega)
    · rw [if_neg h1] at e ⊢
      exact nxa_none p v k c (a + 1) (by rw [show a + 1 + k = a + (k + 1) by omega]; omega)
theorem nxa_of (p : Nat → Int) (v : Int) : ∀ (k c a b : Nat), a ≤ b → b < a + k → p b = v → cnf p v b = cnf p v a + c → nxa p v k c a = some b
  | 0, _, _, _, h1, h2, _, _ => absurd h2 (by omega)
  | k + 1, c, a, b, h1, h2, h3, h4 => by
    unfold nxa
    have e : cnf p v (a + 1) = cnf p v a + (if p a = v then 1 else 0) := rfl
    by_cases hab : a = b
    · subst hab
      rw [if_pos h3, if_pos (by omega)]
    · have hm := cnf_mono p v (show a + 1 ≤ b by omega)
      by_cases h5 : p a = v
      · rw [if_pos h5] at e ⊢
        rw [if_neg (by omega)]
        exact nxa_of p v k (c - 1) (a + 1) b (by omega) (by omega) h3 (by omega)
      · rw [if_neg h5] at e ⊢
        exact nxa_of p v k c (a + 1) b (by omega) (by omega) h3 (by omega)
/-- the text of a row of pens -/
noncomputable def txp (p l s : Nat → Int) (n : Nat) (w : Nat → Int) : Nat → Option (Int × (Nat → Int))
  | 0 => some (0, fun _ => 0)
  | t + 1 => match txp p l s n w t with
    | none => none
    | some q => match nxa p (w t) n (cnf w (w t) t) 0 with
      | none => none
      | some a => stp l s a q
theorem txp_none {p l s : Nat → Int} {n : Nat} {w : Nat → Int} {t u : Nat} (h : txp p l s n w t = none) (htu : t ≤ u) : txp p l s n w u = none := by
  induction htu with
  | refl => exact h
  | step _ ih => unfold txp; rw [ih]
theorem txp_congr {p l s : Nat → Int} {n : Nat} {w w' : Nat → Int} : ∀ {t : Nat}, (∀ k, k < t → w k = w' k) → txp p l s n w t = txp p l s n w' t
  | 0, _ => rfl
  | t + 1, h => by
    unfold txp
    rw [txp_congr (t := t) (fun k hk => h k (by omega)), h t (by omega), cnf_congr (p := w) (p' := w') (fun k hk => h k (by omega))]
/-- one pen, as the reference has it -/
theorem sqc_tx {p l s : Nat → Int} {n : Nat} {told : Nat → Int} {m : Int} {k t : Nat} {w : Nat → Int} {q : Int × (Nat → Int)} {v : Int} {A : sA} (h : txp p l s n w t = some q) : sqc p l s n told m k t w q v A = match txp p l s n (updp w t v) (t + 1) with
    | none => A
    | some q' => sq p l s n told m k (t + 1) (updp w t v) q' A := by
  have e1 : txp p l s n (updp w t v) t = some q := by
    rw [← h]
    exact txp_congr (fun k hk => by unfold updp; rw [if_neg (by omega)])
  have e2 : cnf (updp w t v) v t = cnf w v t := cnf_congr (fun k hk => by unfold updp; rw [if_neg (by omega)])
  have e3 : updp w t v t = v := by unfold updp; rw [if_pos rfl]
  have e4 : txp p l s n (updp w t v) (t + 1) = match nxa p v n (cnf w v t) 0 with
      | none => none
      | some a => stp l s a q := by
    show (match txp p l s n (updp w t v) t with
      | none => none
      | some q => match nxa p (updp w t v t) n (cnf (updp w t v) (updp w t v t) t) 0 with
        | none => none
        | some a => stp l s a q) = _
    rw [e1]
    simp only [e3, e2]
  rw [e4]
  unfold sqc
  cases nxa p v n (cnf w v t) 0 with
  | none => rfl
  | some a => cases stp l s a q <;> rfl
theorem stp_len {l s : Nat → Int} {a : Nat} {q q' : Int × (Nat → Int)} (h : stp l s a q = some q') (hl : 0 ≤ l a) : 0 ≤ q'.1 ∧ q'.1 ≤ q.1 + 1 := by
  unfold stp at h
  by_cases h1 : s a = -1
  · rw [if_pos h1] at h
    by_cases h2 : l a < q.1
    · rw [if_pos h2] at h; cases h; show 0 ≤ q.1 - 1 ∧ q.1 - 1 ≤ q.1 + 1; omega
    · rw [if_neg h2] at h; cases h
  · rw [if_neg h1] at h
    by_cases h2 : l a ≤ q.1 ∧ q.1 < 8
    · rw [if_pos h2] at h; cases h; show 0 ≤ q.1 + 1 ∧ q.1 + 1 ≤ q.1 + 1; omega
    · rw [if_neg h2] at h; cases h
theorem cn_cnf (E : cm_E) (c : Nat) (v : Int) : ∀ m : Nat, cn E c v m = cnf (fun k => gv E c k) v m
  | 0 => rfl
  | m + 1 => by unfold cn cnf; rw [cn_cnf E c v m]
