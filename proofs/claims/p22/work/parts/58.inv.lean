/-! ===== the cells that the constructors lay out, and what may stand in each ===== -/
def cs_tab0 : List (Nat × Nat × List ai_V) := [(0, 7, [(3, 1, 0), (3, 2, 0), (3, 3, 0), (3, 4, 0), (3, 5, 0), (3, 6, 0), (3, 14, 0), (3, 17, 0), (3, 19, 0), (3, 23, 0), (0, 1, 5), (0, 0, 400), (0, (-1), 400), (0, (-1), 4), (0, 0, 1)]), (4, 5, [(3, 41, 0), (3, 49, 0), (3, 57, 0), (3, 65, 0), (3, 73, 0)]), (4, 5, [(3, 45, 0), (3, 53, 0), (3, 61, 0), (3, 69, 0), (3, 77, 0)]), (1, 3, [(0, (-2147483648), 2147483647)]), (1, 3, [(0, (-2147483648), 2147483647)]), (1, 400, [(0, 0, 255)]), (0, 6, [(3, 7, 0), (3, 8, 0), (3, 9, 0), (3, 10, 0), (3, 11, 0), (3, 12, 0), (3, 13, 0), (0, 0, 300), (0, 0, 300)]), (2, 300, [(0, 0, 1)]), (2, 300, [(0, 0, 1)]), (5, 300, [(5, 0, 0)]), (1, 300, [(0, 0, 140000)]), (1, 300, [(0, 0, 299)]), (1, 300, [(0, 0, 299)]), (1, 5, [(0, (-1), 60)]), (0, 1, [(3, 15, 0), (3, 16, 0), (0, 0, 24), (0, 0, 24)])]
def cs_tab1 : List (Nat × Nat × List ai_V) := [(1, 24, [(0, 0, 65535)]), (1, 24, [(0, 0, 65535)]), (0, 2, [(3, 18, 0), (0, 0, 400)]), (1, 400, [(0, 0, 255)]), (0, 0, [(3, 20, 0), (3, 21, 0), (8, 0, 0), (0, 0, 400), (0, 0, 400), (0, 0, 5), (0, 0, 3), (0, 0, 400)]), (1, 5, [(0, 0, 255)]), (1, 6, [(0, (-1), 70000)]), (1, 0, [(0, 0, 0)]), (0, 5, [(3, 24, 0), (3, 25, 0), (3, 26, 0), (3, 27, 0), (3, 28, 0), (3, 29, 0), (3, 30, 0), (3, 40, 0), (0, 0, 12), (0, 0, 8), (0, (-2147483648), 2147483647), (0, (-2147483648), 2147483647), (0, 0, 1)]), (1, 12, [(0, 0, 126)]), (1, 8, [(0, 0, 2)]), (1, 8, [(0, 0, 7)]), (1, 8, [(0, (-1), 126)]), (1, 8, [(0, 0, 2)]), (1, 8, [(0, 0, 2)])]
def cs_tab2 : List (Nat × Nat × List ai_V) := [(6, 9, [(3, 31, 0), (3, 32, 0), (3, 33, 0), (3, 34, 0), (3, 35, 0), (3, 36, 0), (3, 37, 0), (3, 38, 0), (3, 39, 0)]), (1, 8, [(0, (-1), 126)]), (1, 8, [(0, (-1), 126)]), (1, 8, [(0, (-1), 126)]), (1, 8, [(0, (-1), 126)]), (1, 8, [(0, (-1), 126)]), (1, 8, [(0, (-1), 126)]), (1, 8, [(0, (-1), 126)]), (1, 8, [(0, (-1), 126)]), (1, 8, [(0, (-1), 126)]), (1, 9, [(0, 0, 8)]), (0, 3, [(0, 0, 0), (3, 42, 0), (3, 43, 0), (3, 44, 0), (0, 0, 20), (0, 0, 65535)]), (5, 300, [(5, 0, 0)]), (1, 5, [(0, 0, 60)]), (5, 20, [(5, 0, 0)])]
def cs_tab3 : List (Nat × Nat × List ai_V) := [(0, 3, [(0, 0, 0), (3, 46, 0), (3, 47, 0), (3, 48, 0), (0, 0, 20), (0, 0, 65535)]), (5, 300, [(5, 0, 0)]), (1, 5, [(0, 0, 60)]), (5, 20, [(5, 0, 0)]), (0, 3, [(0, 1, 1), (3, 50, 0), (3, 51, 0), (3, 52, 0), (0, 0, 20), (0, 0, 65535)]), (5, 300, [(5, 0, 0)]), (1, 5, [(0, 0, 60)]), (5, 20, [(5, 0, 0)]), (0, 3, [(0, 1, 1), (3, 54, 0), (3, 55, 0), (3, 56, 0), (0, 0, 20), (0, 0, 65535)]), (5, 300, [(5, 0, 0)]), (1, 5, [(0, 0, 60)]), (5, 20, [(5, 0, 0)]), (0, 3, [(0, 2, 2), (3, 58, 0), (3, 59, 0), (3, 60, 0), (0, 0, 20), (0, 0, 65535)]), (5, 300, [(5, 0, 0)]), (1, 5, [(0, 0, 60)])]
def cs_tab4 : List (Nat × Nat × List ai_V) := [(5, 20, [(5, 0, 0)]), (0, 3, [(0, 2, 2), (3, 62, 0), (3, 63, 0), (3, 64, 0), (0, 0, 20), (0, 0, 65535)]), (5, 300, [(5, 0, 0)]), (1, 5, [(0, 0, 60)]), (5, 20, [(5, 0, 0)]), (0, 3, [(0, 3, 3), (3, 66, 0), (3, 67, 0), (3, 68, 0), (0, 0, 20), (0, 0, 65535)]), (5, 300, [(5, 0, 0)]), (1, 5, [(0, 0, 60)]), (5, 20, [(5, 0, 0)]), (0, 3, [(0, 3, 3), (3, 70, 0), (3, 71, 0), (3, 72, 0), (0, 0, 20), (0, 0, 65535)]), (5, 300, [(5, 0, 0)]), (1, 5, [(0, 0, 60)]), (5, 20, [(5, 0, 0)]), (0, 3, [(0, 4, 4), (3, 74, 0), (3, 75, 0), (3, 76, 0), (0, 0, 20), (0, 0, 65535)]), (5, 300, [(5, 0, 0)])]
def cs_tab5 : List (Nat × Nat × List ai_V) := [(1, 5, [(0, 0, 60)]), (5, 20, [(5, 0, 0)]), (0, 3, [(0, 4, 4), (3, 78, 0), (3, 79, 0), (3, 80, 0), (0, 0, 20), (0, 0, 65535)]), (5, 300, [(5, 0, 0)]), (1, 5, [(0, 0, 60)]), (5, 20, [(5, 0, 0)]), (0, 8, [(0, 0, 2), (0, 1, 5), (3, 82, 0), (3, 83, 0), (3, 84, 0), (3, 85, 0), (3, 86, 0), (3, 87, 0), (3, 88, 0), (3, 89, 0), (3, 90, 0), (3, 91, 0), (0, 0, 300), (0, 0, 300), (3, 92, 0), (3, 93, 0), (0, 0, 400), (0, 0, 400), (0, (-1), 400), (0, 0, 400), (0, 0, 400), (0, 0, 3), (0, 0, 400), (0, 0, 12), (0, 0, 8), (3, 94, 0), (3, 95, 0), (3, 96, 0), (3, 97, 0), (3, 98, 0), (3, 99, 0), (3, 100, 0), (0, (-2147483648), 2147483647), (0, (-2147483648), 2147483647), (0, 0, 1), (3, 101, 0), (3, 102, 0), (3, 103, 0)]), (1, 531366, [(0, 0, 65540)]), (1, 25, [(0, 0, 60)]), (1, 5, [(0, 0, 20)]), (1, 3, [(0, (-2147483648), 2147483647)]), (2, 300, [(0, 0, 1)]), (2, 300, [(0, 0, 1)]), (1, 300, [(0, 0, 249000)]), (1, 300, [(0, 0, 65540)])]
def cs_tab6 : List (Nat × Nat × List ai_V) := [(1, 300, [(0, 0, 299)]), (1, 300, [(0, 0, 299)]), (1, 400, [(0, 0, 65540)]), (1, 400, [(0, 0, 255)]), (1, 12, [(0, 0, 126)]), (1, 8, [(0, 0, 2)]), (1, 8, [(0, 0, 7)]), (1, 8, [(0, (-1), 126)]), (1, 8, [(0, 0, 2)]), (1, 8, [(0, 0, 2)]), (1, 8, [(0, (-1), 126)]), (1, 25, [(0, 0, 60)]), (1, 5, [(0, 0, 20)]), (1, 3, [(0, (-2147483648), 2147483647)]), (3, 1, [(4, 0, 0)])]
def cs_tab : List (Nat × Nat × List ai_V) := cs_tab0 ++ cs_tab1 ++ cs_tab2 ++ cs_tab3 ++ cs_tab4 ++ cs_tab5 ++ cs_tab6
def cs_T (i : Nat) : Nat × Nat := match cs_tab[i]? with
  | some (t, n, _) => (t, n)
  | none => (99, 0)
def cs_ty (i k : Nat) : ai_V := match cs_tab[i]? with
  | some (_, _, [t]) => t
  | some (_, _, l) => (l[k]?).getD (9, 0, 0)
  | none => (9, 0, 0)
/-- a Step: its bytes lie behind it -/
def cs_st (T : cm_T) (E : cm_E) (nx q : Nat) : Prop := 105 ≤ q ∧ q + 1 < nx ∧ T q = (0, 4) ∧ E q 0 = cr (q + 1) ∧ ∃ n, (3 ≤ n ∧ n ≤ 400) ∧ T (q + 1) = (1, n) ∧ ((E (q + 1) 1).2.1 ≤ 4 ∧ 1 ≤ (E (q + 1) 2).2.1 ∧ (E (q + 1) 2).2.1 ≤ 60) ∧ ∀ k, k < n → ∃ z, E (q + 1) k = ai_i z ∧ 0 ≤ z ∧ z ≤ 255
def cs_typ (T : cm_T) (E : cm_E) (nx : Nat) (ty v : ai_V) : Prop :=
  (ty.1 = 0 ∧ ∃ z, v = ai_i z ∧ ty.2.1 ≤ z ∧ z ≤ ty.2.2) ∨ (ty.1 = 3 ∧ v = cr ty.2.1.toNat) ∨ (ty.1 = 5 ∧ (v = ai_nul ∨ ∃ q, v = cr q ∧ cs_st T E nx q)) ∨ (ty.1 = 4 ∧ ∃ z, v = (4, z, z)) ∨ (ty.1 = 8 ∧ (v = cr 5 ∨ v = cr 22))
def cs_I (T : cm_T) (E : cm_E) (nx : Nat) : Prop := 105 ≤ nx ∧ (∀ i, i < 105 → T i = cs_T i) ∧ ∀ i, i < 105 → ∀ k, k < cm_sz (cs_T i) → cs_typ T E nx (cs_ty i k) (E i k)
theorem cs_I.pl {T : cm_T} {E : cm_E} {nx : Nat} (h : cs_I T E nx) {i : Nat} (hi : i < 105) : i < nx := Nat.lt_of_lt_of_le hi h.1
theorem cs_I.T {T : cm_T} {E : cm_E} {nx : Nat} (h : cs_I T E nx) {i t n : Nat} (hi : i < 105) (he : cs_T i = (t, n)) : T i = (t, n) := (h.2.1 i hi).trans he
/-- a number -/
theorem cs_I.int {T : cm_T} {E : cm_E} {nx : Nat} (h : cs_I T E nx) (i k : Nat) {lo hi : Int} (hi1 : i < 105) (hk : k < cm_sz (cs_T i)) (ht : cs_ty i k = (0, lo, hi)) : ∃ z, E i k = ai_i z ∧ lo ≤ z ∧ z ≤ hi := by
  have h1 := h.2.2 i hi1 k hk
  rw [ht] at h1
  rcases h1 with ⟨-, h1⟩ | ⟨h1, -⟩ | ⟨h1, -⟩ | ⟨h1, -⟩ | ⟨h1, -⟩
  · exact h1
  all_goals (exact absurd h1 (by simp))
theorem cs_I.ref {T : cm_T} {E : cm_E} {nx : Nat} (h : cs_I T E nx) (i k : Nat) {p : Nat} (hi1 : i < 105) (hk : k < cm_sz (cs_T i)) (ht : cs_ty i k = (3, Int.ofNat p, 0)) : E i k = cr p := by
  have h1 := h.2.2 i hi1 k hk
  rw [ht] at h1
  rcases h1 with ⟨h1, -⟩ | ⟨-, h1⟩ | ⟨h1, -⟩ | ⟨h1, -⟩ | ⟨h1, -⟩
  · exact absurd h1 (by simp)
  · exact h1
  all_goals (exact absurd h1 (by simp))
theorem cs_I.stp {T : cm_T} {E : cm_E} {nx : Nat} (h : cs_I T E nx) (i k : Nat) (hi1 : i < 105) (hk : k < cm_sz (cs_T i)) (ht : cs_ty i k = (5, 0, 0)) : E i k = ai_nul ∨ ∃ q, E i k = cr q ∧ cs_st T E nx q := by
  have h1 := h.2.2 i hi1 k hk
  rw [ht] at h1
  rcases h1 with ⟨h1, -⟩ | ⟨h1, -⟩ | ⟨-, h1⟩ | ⟨h1, -⟩ | ⟨h1, -⟩
  · exact absurd h1 (by simp)
  · exact absurd h1 (by simp)
  · exact h1
  all_goals (exact absurd h1 (by simp))
theorem cs_I.cb {T : cm_T} {E : cm_E} {nx : Nat} (h : cs_I T E nx) (i k : Nat) (hi1 : i < 105) (hk : k < cm_sz (cs_T i)) (ht : cs_ty i k = (8, 0, 0)) : E i k = cr 5 ∨ E i k = cr 22 := by
  have h1 := h.2.2 i hi1 k hk
  rw [ht] at h1
  rcases h1 with ⟨h1, -⟩ | ⟨h1, -⟩ | ⟨h1, -⟩ | ⟨h1, -⟩ | ⟨-, h1⟩
  · exact absurd h1 (by simp)
  · exact absurd h1 (by simp)
  · exact absurd h1 (by simp)
  · exact absurd h1 (by simp)
  · exact h1
theorem cs_st.up {T : cm_T} {E : cm_E} {nx q i k : Nat} {v : ai_V} (h : cs_st T E nx q) (hi : i < 105) : cs_st T (cm_up E i k v) nx q := by
  obtain ⟨h1, h2, h3, h4, n, h5, h6, h8, h7⟩ := h
  exact ⟨h1, h2, h3, by rw [cm_up_nei E v (by omega)]; exact h4, n, h5, h6, by rw [cm_up_nei E v (by omega), cm_up_nei E v (by omega)]; exact h8, fun k' hk' => by rw [cm_up_nei E v (by omega)]; exact h7 k' hk'⟩
theorem cs_typ.up {T : cm_T} {E : cm_E} {nx i k : Nat} {v ty w : ai_V} (h : cs_typ T E nx ty w) (hi : i < 105) : cs_typ T (cm_up E i k v) nx ty w := by
  rcases h with h | h | ⟨h1, h⟩ | h | h
  · exact Or.inl h
  · exact Or.inr (Or.inl h)
  · refine Or.inr (Or.inr (Or.inl ⟨h1, ?_⟩))
    rcases h with h | ⟨q, h2, h3⟩
    · exact Or.inl h
    · exact Or.inr ⟨q, h2, h3.up hi⟩
  · exact Or.inr (Or.inr (Or.inr (Or.inl h)))
  · exact Or.inr (Or.inr (Or.inr (Or.inr h)))
/-- something that may stand there is written -/
theorem cs_I.put {T : cm_T} {E : cm_E} {nx : Nat} (h : cs_I T E nx) {i k : Nat} {v : ai_V} (hi : i < 105) (hv : k < cm_sz (cs_T i) → cs_typ T E nx (cs_ty i k) v) : cs_I T (cm_up E i k v) nx := by
  refine ⟨h.1, h.2.1, fun i' hi' k' hk' => ?_⟩
  by_cases he : i' = i ∧ k' = k
  · obtain ⟨rfl, rfl⟩ := he
    rw [cm_up_eq]
    exact (hv hk').up hi
  · rw [cm_up_ne E v he]
    exact (h.2.2 i' hi' k' hk').up hi
theorem cs_I.puti {T : cm_T} {E : cm_E} {nx : Nat} (h : cs_I T E nx) {i k : Nat} {z lo hi : Int} (hi1 : i < 105) (ht : cs_ty i k = (0, lo, hi)) (hz : lo ≤ z ∧ z ≤ hi) : cs_I T (cm_up E i k (ai_i z)) nx :=
  h.put hi1 (fun _ => by rw [ht]; exact Or.inl ⟨rfl, z, rfl, hz⟩)
/-- nothing is written but where P says -/
def cm_fr (P : Nat → Nat → Prop) (E E' : cm_E) : Prop := ∀ i k, ¬ P i k → E' i k = E i k
theorem cm_fr.up {P : Nat → Nat → Prop} {E E1 : cm_E} {i k : Nat} {v : ai_V} (h : cm_fr P E E1) (hp : P i k) : cm_fr P E (cm_up E1 i k v) := fun i' k' hn => by
  rw [cm_up_ne E1 v (fun q => hn (by rw [q.1, q.2]; exact hp))]
  exact h i' k' hn
theorem cm_fr.trans {P P1 : Nat → Nat → Prop} {E E1 E2 : cm_E} (h : cm_fr P E E1) (h1 : cm_fr P1 E1 E2) (hp : ∀ i k, P1 i k → P i k) : cm_fr P E E2 := fun i k hn => (h1 i k (fun q => hn (hp i k q))).trans (h i k hn)
/-- the number that stands there -/
def gv (E : cm_E) (i k : Nat) : Int := (E i k).2.1
theorem gv_eq {E : cm_E} {i k : Nat} {z : Int} (h : E i k = ai_i z) : gv E i k = z := by unfold gv; rw [h]; rfl
theorem gv_fr {P : Nat → Nat → Prop} {E E' : cm_E} {i k : Nat} (h : cm_fr P E E') (hn : ¬ P i k) : gv E i k = gv E' i k := by unfold gv; rw [h i k hn]
theorem gv_up (E : cm_E) (i k : Nat) (z : Int) : gv (cm_up E i k (ai_i z)) i k = z := gv_eq (cm_up_eq E i k _)
theorem gv_ne (E : cm_E) {i k i' k' : Nat} (v : ai_V) (h : ¬ (i' = i ∧ k' = k)) : gv (cm_up E i k v) i' k' = gv E i' k' := by unfold gv; rw [cm_up_ne E v h]
/-- the mark of a name: the reference's named and setNamed -/
def nmd (E : cm_E) (p a : Int) : Int := if 0 ≤ a ∧ a / 100 < gv E 81 1 ∧ 1 ≤ a % 100 ∧ a % 100 ≤ gv E 83 (5 * p + a / 100).toNat then 60 * (a / 100) + a % 100 - 1 else -1
def snm (E : cm_E) (p a : Int) : Int := if nmd E p a ≠ -1 ∧ gv E 82 (166 * ((5 * p + nmd E p a / 60) * 60 + nmd E p a % 60) + 0).toNat = 0 then nmd E p a else -1
