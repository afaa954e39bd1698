/-! ===== the class's cells: steps, pages, what is held ===== -/
section CL
variable {T : cm_T} {E : cm_E} {nx q : Nat}
def stn (T : cm_T) (q : Nat) : Nat := (T (q + 1)).2
theorem cs_st.lt (h : cs_st T E nx q) : q < nx := by have := h.2.1; omega
theorem cs_st.lt1 (h : cs_st T E nx q) : q + 1 < nx := h.2.1
theorem cs_st.ge (h : cs_st T E nx q) : 105 ≤ q := h.1
theorem cs_st.T0 (h : cs_st T E nx q) : T q = (0, 4) := h.2.2.1
theorem cs_st.r (h : cs_st T E nx q) : E q 0 = cr (q + 1) := h.2.2.2.1
theorem cs_st.T1 (h : cs_st T E nx q) : T (q + 1) = (1, stn T q) := by
  obtain ⟨-, -, -, -, n, -, h6, -⟩ := h
  unfold stn; rw [h6]
theorem cs_st.n (h : cs_st T E nx q) : 3 ≤ stn T q ∧ stn T q ≤ 400 := by
  obtain ⟨-, -, -, -, n, h5, h6, -⟩ := h
  unfold stn; rw [h6]; exact h5
theorem cs_st.w (h : cs_st T E nx q) : gv E (q + 1) 1 ≤ 4 ∧ 1 ≤ gv E (q + 1) 2 ∧ gv E (q + 1) 2 ≤ 60 := by
  obtain ⟨-, -, -, -, n, h5, h6, h8, -⟩ := h
  exact h8
theorem cs_st.b (h : cs_st T E nx q) (k : Nat) (hk : k < stn T q) : ∃ z, E (q + 1) k = ai_i z ∧ 0 ≤ z ∧ z ≤ 255 := by
  obtain ⟨-, -, -, -, n, h5, h6, h8, h7⟩ := h
  unfold stn at hk; rw [h6] at hk
  exact h7 k hk
theorem cs_st.mv {T' : cm_T} {E' : cm_E} {nx' : Nat} (h : cs_st T E nx q) (hn : nx ≤ nx') (hT : ∀ i, 105 ≤ i → i < nx → T' i = T i) (hE : ∀ i k, 105 ≤ i → i < nx → E' i k = E i k) : cs_st T' E' nx' q := by
  obtain ⟨h1, h2, h3, h4, n, h5, h6, h8, h7⟩ := h
  refine ⟨h1, by omega, by rw [hT q h1 (by omega)]; exact h3, by rw [hE q 0 h1 (by omega)]; exact h4, n, h5, by rw [hT _ (by omega) h2]; exact h6, ?_, fun k hk => by rw [hE _ k (by omega) h2]; exact h7 k hk⟩
  rw [hE _ 1 (by omega) h2, hE _ 2 (by omega) h2]; exact h8
theorem cs_st.fr {P : Nat → Nat → Prop} {E' : cm_E} (h : cs_st T E nx q) (hf : cm_fr P E E') (hp : ∀ i k, P i k → i < 105) : cs_st T E' nx q :=
  h.mv (Nat.le_refl _) (fun _ _ _ => rfl) (fun i k h1 _ => hf i k (fun hq => by have := hp i k hq; omega))
theorem cs_typ.mv {T' : cm_T} {E' : cm_E} {nx' : Nat} {ty v : ai_V} (h : cs_typ T E nx ty v) (hn : nx ≤ nx') (hT : ∀ i, 105 ≤ i → i < nx → T' i = T i) (hE : ∀ i k, 105 ≤ i → i < nx → E' i k = E i k) : cs_typ T' E' nx' ty v := by
  rcases h with h | h | ⟨h1, h⟩ | h | h
  · exact Or.inl h
  · exact Or.inr (Or.inl h)
  · refine Or.inr (Or.inr (Or.inl ⟨h1, ?_⟩))
    rcases h with h | ⟨q, h2, h3⟩
    · exact Or.inl h
    · exact Or.inr ⟨q, h2, h3.mv hn hT hE⟩
  · exact Or.inr (Or.inr (Or.inr (Or.inl h)))
  · exact Or.inr (Or.inr (Or.inr (Or.inr h)))
theorem cs_I.mv {T' : cm_T} {E' : cm_E} {nx' : Nat} (h : cs_I T E nx) (hn : nx ≤ nx') (hT : ∀ i, i < nx → T' i = T i) (hE : ∀ i k, i < nx → E' i k = E i k) : cs_I T' E' nx' := by
  obtain ⟨h1, h2, h3⟩ := h
  refine ⟨by omega, fun i hi => by rw [hT i (by omega)]; exact h2 i hi, fun i hi k hk => ?_⟩
  rw [hE i k (by omega)]
  exact (h3 i hi k hk).mv hn (fun i _ hi => hT i hi) (fun i k _ hi => hE i k hi)
/-- a Step or null is written -/
theorem cs_I.putn (h : cs_I T E nx) {i k : Nat} (hi1 : i < 105) (ht : cs_ty i k = (5, 0, 0)) : cs_I T (cm_up E i k ai_nul) nx :=
  h.put hi1 (fun _ => by rw [ht]; exact Or.inr (Or.inr (Or.inl ⟨rfl, Or.inl rfl⟩)))
theorem cs_I.puts (h : cs_I T E nx) {i k : Nat} (hi1 : i < 105) (ht : cs_ty i k = (5, 0, 0)) (hs : cs_st T E nx q) : cs_I T (cm_up E i k (cr q)) nx :=
  h.put hi1 (fun _ => by rw [ht]; exact Or.inr (Or.inr (Or.inl ⟨rfl, Or.inr ⟨q, rfl, hs⟩⟩)))
/-- the page that begins at b -/
theorem pg_c {b : Nat} (hb : 41 ≤ b ∧ b ≤ 77 ∧ b % 4 = 1) : b = 41 ∨ b = 45 ∨ b = 49 ∨ b = 53 ∨ b = 57 ∨ b = 61 ∨ b = 65 ∨ b = 69 ∨ b = 73 ∨ b = 77 := by omega
theorem pg_T {b : Nat} (hb : 41 ≤ b ∧ b ≤ 77 ∧ b % 4 = 1) : cs_T b = (0, 3) ∧ cs_T (b + 1) = (5, 300) ∧ cs_T (b + 2) = (1, 5) ∧ cs_T (b + 3) = (5, 20) := by
  rcases pg_c hb with rfl | rfl | rfl | rfl | rfl | rfl | rfl | rfl | rfl | rfl <;> exact ⟨rfl, rfl, rfl, rfl⟩
theorem pg_y {b : Nat} (hb : 41 ≤ b ∧ b ≤ 77 ∧ b % 4 = 1) : cs_ty b 0 = (0, (((b - 41) / 8 : Nat) : Int), (((b - 41) / 8 : Nat) : Int)) ∧ cs_ty b 1 = (3, Int.ofNat (b + 1), 0) ∧ cs_ty b 2 = (3, Int.ofNat (b + 2), 0) ∧ cs_ty b 3 = (3, Int.ofNat (b + 3), 0) ∧ cs_ty b 4 = (0, 0, 20) ∧ cs_ty b 5 = (0, 0, 65535) := by
  rcases pg_c hb with rfl | rfl | rfl | rfl | rfl | rfl | rfl | rfl | rfl | rfl <;> exact ⟨rfl, rfl, rfl, rfl, rfl, rfl⟩
theorem pg_z {b : Nat} (hb : 41 ≤ b ∧ b ≤ 77 ∧ b % 4 = 1) (k : Nat) : cs_ty (b + 1) k = (5, 0, 0) ∧ cs_ty (b + 2) k = (0, 0, 60) ∧ cs_ty (b + 3) k = (5, 0, 0) := by
  rcases pg_c hb with rfl | rfl | rfl | rfl | rfl | rfl | rfl | rfl | rfl | rfl <;> exact ⟨rfl, rfl, rfl⟩
variable {b : Nat}
theorem cs_I.pgT0 (h : cs_I T E nx) (hb : 41 ≤ b ∧ b ≤ 77 ∧ b % 4 = 1) : T b = (0, 3) := h.T (by omega) (pg_T hb).1
theorem cs_I.pgT1 (h : cs_I T E nx) (hb : 41 ≤ b ∧ b ≤ 77 ∧ b % 4 = 1) : T (b + 1) = (5, 300) := h.T (by omega) (pg_T hb).2.1
theorem cs_I.pgT2 (h : cs_I T E nx) (hb : 41 ≤ b ∧ b ≤ 77 ∧ b % 4 = 1) : T (b + 2) = (1, 5) := h.T (by omega) (pg_T hb).2.2.1
theorem cs_I.pgT3 (h : cs_I T E nx) (hb : 41 ≤ b ∧ b ≤ 77 ∧ b % 4 = 1) : T (b + 3) = (5, 20) := h.T (by omega) (pg_T hb).2.2.2
theorem cs_I.pg0 (h : cs_I T E nx) (hb : 41 ≤ b ∧ b ≤ 77 ∧ b % 4 = 1) : ∃ z, E b 0 = ai_i z ∧ (0 ≤ z ∧ z ≤ 4) ∧ z = (((b - 41) / 8 : Nat) : Int) := by
  obtain ⟨z, h1, h2, h3⟩ := h.int b 0 (by omega) (by rw [(pg_T hb).1]; decide) (pg_y hb).1
  exact ⟨z, h1, by omega, by omega⟩
theorem cs_I.pg1 (h : cs_I T E nx) (hb : 41 ≤ b ∧ b ≤ 77 ∧ b % 4 = 1) : E b 1 = cr (b + 1) := h.ref b 1 (by omega) (by rw [(pg_T hb).1]; decide) (pg_y hb).2.1
theorem cs_I.pg2 (h : cs_I T E nx) (hb : 41 ≤ b ∧ b ≤ 77 ∧ b % 4 = 1) : E b 2 = cr (b + 2) := h.ref b 2 (by omega) (by rw [(pg_T hb).1]; decide) (pg_y hb).2.2.1
theorem cs_I.pg3 (h : cs_I T E nx) (hb : 41 ≤ b ∧ b ≤ 77 ∧ b % 4 = 1) : E b 3 = cr (b + 3) := h.ref b 3 (by omega) (by rw [(pg_T hb).1]; decide) (pg_y hb).2.2.2.1
theorem cs_I.pg4 (h : cs_I T E nx) (hb : 41 ≤ b ∧ b ≤ 77 ∧ b % 4 = 1) : ∃ z, E b 4 = ai_i z ∧ 0 ≤ z ∧ z ≤ 20 := h.int b 4 (by omega) (by rw [(pg_T hb).1]; decide) (pg_y hb).2.2.2.2.1
theorem cs_I.pg5 (h : cs_I T E nx) (hb : 41 ≤ b ∧ b ≤ 77 ∧ b % 4 = 1) : ∃ z, E b 5 = ai_i z ∧ 0 ≤ z ∧ z ≤ 65535 := h.int b 5 (by omega) (by rw [(pg_T hb).1]; decide) (pg_y hb).2.2.2.2.2
theorem cs_I.pgc (h : cs_I T E nx) (hb : 41 ≤ b ∧ b ≤ 77 ∧ b % 4 = 1) (k : Nat) (hk : k < 5) : ∃ z, E (b + 2) k = ai_i z ∧ 0 ≤ z ∧ z ≤ 60 := h.int (b + 2) k (by omega) (by rw [(pg_T hb).2.2.1]; exact hk) (pg_z hb k).2.1
theorem cs_I.pgs (h : cs_I T E nx) (hb : 41 ≤ b ∧ b ≤ 77 ∧ b % 4 = 1) (k : Nat) (hk : k < 300) : E (b + 1) k = ai_nul ∨ ∃ q, E (b + 1) k = cr q ∧ cs_st T E nx q := h.stp (b + 1) k (by omega) (by rw [(pg_T hb).2.1]; exact hk) (pg_z hb k).1
theorem cs_I.pgh (h : cs_I T E nx) (hb : 41 ≤ b ∧ b ≤ 77 ∧ b % 4 = 1) (k : Nat) (hk : k < 20) : E (b + 3) k = ai_nul ∨ ∃ q, E (b + 3) k = cr q ∧ cs_st T E nx q := h.stp (b + 3) k (by omega) (by rw [(pg_T hb).2.2.2]; exact hk) (pg_z hb k).2.2
theorem cs_I.pg4w (h : cs_I T E nx) (hb : 41 ≤ b ∧ b ≤ 77 ∧ b % 4 = 1) {z : Int} (hz : 0 ≤ z ∧ z ≤ 20) : cs_I T (cm_up E b 4 (ai_i z)) nx := h.puti (by omega) (pg_y hb).2.2.2.2.1 hz
theorem cs_I.pg5w (h : cs_I T E nx) (hb : 41 ≤ b ∧ b ≤ 77 ∧ b % 4 = 1) {z : Int} (hz : 0 ≤ z ∧ z ≤ 65535) : cs_I T (cm_up E b 5 (ai_i z)) nx := h.puti (by omega) (pg_y hb).2.2.2.2.2 hz
theorem cs_I.pgcw (h : cs_I T E nx) (hb : 41 ≤ b ∧ b ≤ 77 ∧ b % 4 = 1) {k : Nat} {z : Int} (hz : 0 ≤ z ∧ z ≤ 60) : cs_I T (cm_up E (b + 2) k (ai_i z)) nx := h.puti (by omega) (pg_z hb k).2.1 hz
theorem cs_I.pgsn (h : cs_I T E nx) (hb : 41 ≤ b ∧ b ≤ 77 ∧ b % 4 = 1) {k : Nat} : cs_I T (cm_up E (b + 1) k ai_nul) nx := h.putn (by omega) (pg_z hb k).1
theorem cs_I.pgsw (h : cs_I T E nx) (hb : 41 ≤ b ∧ b ≤ 77 ∧ b % 4 = 1) {k : Nat} (hs : cs_st T E nx q) : cs_I T (cm_up E (b + 1) k (cr q)) nx := h.puts (by omega) (pg_z hb k).1 hs
theorem cs_I.pghn (h : cs_I T E nx) (hb : 41 ≤ b ∧ b ≤ 77 ∧ b % 4 = 1) {k : Nat} : cs_I T (cm_up E (b + 3) k ai_nul) nx := h.putn (by omega) (pg_z hb k).2.2
theorem cs_I.pghw (h : cs_I T E nx) (hb : 41 ≤ b ∧ b ≤ 77 ∧ b % 4 = 1) {k : Nat} (hs : cs_st T E nx q) : cs_I T (cm_up E (b + 3) k (cr q)) nx := h.puts (by omega) (pg_z hb k).2.2 hs
/-- pages[i], keptPages[i], texts[i] -/
theorem cs_I.pages (h : cs_I T E nx) {i : Int} (hi : 0 ≤ i ∧ i < 5) : E 1 i.toNat = cr (41 + 8 * i.toNat) := by
  have : i = 0 ∨ i = 1 ∨ i = 2 ∨ i = 3 ∨ i = 4 := by omega
  rcases this with rfl | rfl | rfl | rfl | rfl <;> exact h.ref 1 _ (by decide) (by decide) rfl
theorem cs_I.kept (h : cs_I T E nx) {i : Int} (hi : 0 ≤ i ∧ i < 5) : E 2 i.toNat = cr (45 + 8 * i.toNat) := by
  have : i = 0 ∨ i = 1 ∨ i = 2 ∨ i = 3 ∨ i = 4 := by omega
  rcases this with rfl | rfl | rfl | rfl | rfl <;> exact h.ref 2 _ (by decide) (by decide) rfl
theorem cs_I.texts (h : cs_I T E nx) {i : Int} (hi : 0 ≤ i ∧ i < 9) : E 30 i.toNat = cr (31 + i.toNat) := by
  have : i = 0 ∨ i = 1 ∨ i = 2 ∨ i = 3 ∨ i = 4 ∨ i = 5 ∨ i = 6 ∨ i = 7 ∨ i = 8 := by omega
  rcases this with rfl | rfl | rfl | rfl | rfl | rfl | rfl | rfl | rfl <;> exact h.ref 30 _ (by decide) (by decide) rfl
theorem tx_c {c : Nat} (hc : 31 ≤ c ∧ c ≤ 39) : cs_T c = (1, 8) ∧ ∀ k, cs_ty c k = (0, -1, 126) := by
  have : c = 31 ∨ c = 32 ∨ c = 33 ∨ c = 34 ∨ c = 35 ∨ c = 36 ∨ c = 37 ∨ c = 38 ∨ c = 39 := by omega
  rcases this with rfl | rfl | rfl | rfl | rfl | rfl | rfl | rfl | rfl <;> exact ⟨rfl, fun _ => rfl⟩
theorem nk_c {c : Nat} (hc : 15 ≤ c ∧ c ≤ 16) : cs_T c = (1, 24) ∧ ∀ k, cs_ty c k = (0, 0, 65535) := by
  have : c = 15 ∨ c = 16 := by omega
  rcases this with rfl | rfl <;> exact ⟨rfl, fun _ => rfl⟩
/-- nothing that is held is null -/
def hn (E : cm_E) : Prop := ∀ b i : Nat, 41 ≤ b → b ≤ 77 → b % 4 = 1 → (i : Int) < gv E b 4 → E (b + 3) i ≠ ai_nul
theorem hn.fr {P : Nat → Nat → Prop} {E E' : cm_E} (h : hn E) (hf : cm_fr P E E') (hp : ∀ i k, P i k → ¬ (41 ≤ i ∧ i ≤ 80 ∧ ((i % 4 = 1 ∧ k = 4) ∨ i % 4 = 0))) : hn E' := by
  intro b i h1 h2 h3 h4
  rw [hf (b + 3) i (fun q => hp _ _ q (by omega))]
  rw [← gv_fr hf (fun q => hp _ _ q (by omega))] at h4
  exact h b i h1 h2 h3 h4
theorem hn.wr {E : cm_E} {i k : Nat} {v : ai_V} (h : hn E) (hp : ¬ (41 ≤ i ∧ i ≤ 80 ∧ ((i % 4 = 1 ∧ k = 4) ∨ i % 4 = 0))) : hn (cm_up E i k v) :=
  h.fr (P := fun i' k' => i' = i ∧ k' = k) (fun i' k' hn => cm_up_ne E v hn) (fun i' k' q => by rw [q.1, q.2]; exact hp)
/-- a step is written among the held ones -/
theorem hn.wrs {E : cm_E} {i k q : Nat} (h : hn E) (hp : ¬ (41 ≤ i ∧ i ≤ 80 ∧ i % 4 = 1 ∧ k = 4)) : hn (cm_up E i k (cr q)) := by
  intro b j h1 h2 h3 h4
  rw [gv_ne _ _ (by omega)] at h4
  by_cases he : b + 3 = i ∧ j = k
  · rw [he.1, he.2, cm_up_eq]
    intro q; cases q
  · rw [cm_up_ne _ _ he]; exact h b j h1 h2 h3 h4
theorem hn.of {E E' : cm_E} (h : hn E) (hb : 41 ≤ b ∧ b ≤ 77 ∧ b % 4 = 1) (hf : cm_fr (fun i _ => b ≤ i ∧ i ≤ b + 3) E E') (hh : ∀ i : Nat, (i : Int) < gv E' b 4 → E' (b + 3) i ≠ ai_nul) : hn E' := by
  intro b' i h1 h2 h3 h4
  by_cases he : b' = b
  · subst he; exact hh i h4
  · rw [hf (b' + 3) i (by omega)]
    rw [← gv_fr hf (by omega)] at h4
    exact h b' i h1 h2 h3 h4
theorem hn.st {E : cm_E} (h : hn E) (hI : cs_I T E nx) (hb : 41 ≤ b ∧ b ≤ 77 ∧ b % 4 = 1) {i : Int} (hi : 0 ≤ i ∧ i < gv E b 4) (h20 : i < 20) : ∃ q, E (b + 3) i.toNat = cr q ∧ cs_st T E nx q := by
  rcases hI.pgh hb i.toNat (by omega) with h1 | h1
  · exact absurd h1 (h b i.toNat hb.1 hb.2.1 hb.2.2 (by omega))
  · exact h1
/-- numbers are copied from i to j -/
def cm_cp (E : cm_E) (i j sp dp n : Nat) : cm_E := fun i' k' => if i' = j ∧ dp ≤ k' ∧ k' < dp + n then E i (sp + (k' - dp)) else E i' k'
theorem cm_cp_ne {E : cm_E} {i j sp dp n i' k' : Nat} (h : ¬ (i' = j ∧ dp ≤ k' ∧ k' < dp + n)) : cm_cp E i j sp dp n i' k' = E i' k' := by unfold cm_cp; rw [if_neg h]
theorem cm_cp_eq {E : cm_E} {i j sp dp n k' : Nat} (h : dp ≤ k' ∧ k' < dp + n) : cm_cp E i j sp dp n j k' = E i (sp + (k' - dp)) := by unfold cm_cp; rw [if_pos ⟨rfl, h⟩]
theorem cm_cp_fr {P : Nat → Nat → Prop} {E0 E : cm_E} {i j sp dp n : Nat} (h : cm_fr P E0 E) (hp : ∀ k, P j k) : cm_fr P E0 (cm_cp E i j sp dp n) := fun i' k' hn => by
  rw [cm_cp_ne (fun q => hn (by rw [q.1]; exact hp k'))]; exact h i' k' hn
theorem ai_lk_cp (us vs : List (Nat × ai_V)) (d0 dv : ai_V) (sp dp k : Nat) : ∀ (mm b1 : Nat), ai_lk ((List.range' b1 mm).map (fun i => (Nat.add dp i, ai_lk us d0 (Nat.add sp i))) ++ vs) dv k = if dp + b1 ≤ k ∧ k < dp + b1 + mm then ai_lk us d0 (sp + (k - dp)) else ai_lk vs dv k
  | 0, b1 => by rw [if_neg (by omega)]; rfl
  | mm + 1, b1 => by
    rw [List.range'_succ, List.map_cons, List.cons_append, ai_lk_cons, ai_lk_cp us vs d0 dv sp dp k mm (b1 + 1)]
    by_cases hk : dp + b1 = k
    · rw [if_pos (show (dp.add b1, ai_lk us d0 (sp.add b1)).fst = k from hk), if_pos (by omega)]
      show ai_lk us d0 (sp + b1) = _
      rw [show sp + (k - dp) = sp + b1 by omega]
    · rw [if_neg (show ¬ (dp.add b1, ai_lk us d0 (sp.add b1)).fst = k from hk)]
      by_cases h2 : dp + (b1 + 1) ≤ k ∧ k < dp + (b1 + 1) + mm
      · rw [if_pos h2, if_pos (by omega)]
      · rw [if_neg h2, if_neg (by omega)]
theorem w_copy {F : Nat → Option ai_Op} {call : ai_K} {x : ai_E} {A B : Nat} {Q : cm_Q} {pc npc : Nat} {loc : List ai_V} {kc ks : Nat} {i j ni nj : Nat} {n dp sp : Int} (hf : F pc = some (ai_o_copy npc)) (hi : i < nx) (hj : j < nx) (hTi : T i = (1, ni)) (hTj : T j = (1, nj)) (hn : 0 ≤ n) (hdp : 0 ≤ dp) (hsp : 0 ≤ sp) (h1 : sp + n ≤ ni) (h2 : dp + n ≤ nj) (hij : i ≠ j)
    (kk : cm_wp F call x A B Q npc loc [] T (cm_cp E i j sp.toNat dp.toNat n.toNat) nx kc ks) : cm_wp F call x A B Q pc loc [ai_i n, ai_i dp, cr j, ai_i sp, cr i] T E nx kc ks := by
  refine cm_stepE hf (fun h hR => ?_) (Nat.le_refl _) (Nat.le_refl _) kk
  have hci := hR.cell hi kc ks x
  have hcj := hR.cell hj kc ks x
  obtain ⟨hn9, H⟩ := hR
  obtain ⟨a1, a2, -, a4⟩ := H i hi
  obtain ⟨b1, b2, -, b4⟩ := H j hj
  rw [hTi] at a1 a2 a4
  rw [hTj] at b1 b2 b4
  generalize hcl : ai_get 10 h i = cl at a1 a2 a4 hci
  generalize hcm : ai_get 10 h j = cm at b1 b2 b4 hcj
  obtain ⟨t1, n1, ds, us⟩ := cl
  obtain ⟨t2, n2, dd, vs⟩ := cm
  have a1 : t1 = 1 := a1
  have a2 : n1 = ni := a2
  have b1 : t2 = 1 := b1
  have b2 : n2 = nj := b2
  subst a1 a2 b1 b2
  refine ⟨ai_set 10 h j (1, n2, dd, ai_cp us vs (ai_nth ai_un ds 0) sp.toNat dp.toNat n.toNat), ⟨hn9, fun j' hj' => ?_⟩, fun K => ?_⟩
  · rw [ai_get_set 10 h j j' _ (by show j < 1024; omega) (by show j' < 1024; omega)]
    by_cases he : j' = j
    · subst he
      rw [if_pos rfl, hTj]
      refine ⟨rfl, rfl, fun q => absurd q (by simp), fun k hk => ?_⟩
      have hk : k < n2 := hk
      have q1 : cm_el (1, n2, dd, ai_cp us vs (ai_nth ai_un ds 0) sp.toNat dp.toNat n.toNat) k = ai_lk (ai_cp us vs (ai_nth ai_un ds 0) sp.toNat dp.toNat n.toNat) (ai_nth ai_un dd 0) k := rfl
      rw [q1]
      unfold ai_cp
      rw [List.range_eq_range', ai_lk_cp]
      by_cases hr : dp.toNat ≤ k ∧ k < dp.toNat + n.toNat
      · rw [if_pos (by omega), cm_cp_eq hr]
        exact a4 (sp.toNat + (k - dp.toNat)) (by show _ < n1; omega)
      · rw [if_neg (by omega), cm_cp_ne (fun q => hr q.2)]
        exact b4 k hk
    · rw [if_neg he]
      obtain ⟨c1, c2, c3, c4⟩ := H j' hj'
      exact ⟨c1, c2, c3, fun k hk => by rw [cm_cp_ne (fun q => he q.1)]; exact c4 k hk⟩
  · show (match ai_cell (h, nx, kc, ks, x) (cr i) with
      | some (i, t1, ns, ds, us) => match ai_cell (h, nx, kc, ks, x) (cr j) with
        | some (j, t2, nd, dd, vs) => match ai_one x (ai_i n) with
          | some n => match ai_one x (ai_i dp) with
            | some dp => match ai_one x (ai_i sp) with
              | some sp => cond (Nat.beq t1 (nat_lit 1) && Nat.beq t2 (nat_lit 1) && ai_ile 0 n && ai_ile 0 dp && ai_ile 0 sp && Nat.ble (Nat.add sp.toNat n.toNat) ns && Nat.ble (Nat.add dp.toNat n.toNat) nd && !(Nat.beq i j))
                  (K npc loc [] (ai_gh (h, nx, kc, ks, x) (ai_set (nat_lit 10) h j (t2, nd, dd, ai_cp us vs (ai_nth ai_un ds (nat_lit 0)) sp.toNat dp.toNat n.toNat)))) none
              | none => none
            | none => none
          | none => none
        | none => none
      | none => none) = _
    rw [hci, hcj, cm_one, cm_one, cm_one]
    have e1 : Nat.ble (Nat.add sp.toNat n.toNat) n1 = true := Nat.ble_eq_true_of_le (by show sp.toNat + n.toNat ≤ n1; omega)
    have e2 : Nat.ble (Nat.add dp.toNat n.toNat) n2 = true := Nat.ble_eq_true_of_le (by show dp.toNat + n.toNat ≤ n2; omega)
    have e3 : Nat.beq i j = false := by
      cases hb : Nat.beq i j with
      | false => rfl
      | true => exact absurd (Nat.eq_of_beq_eq_true hb) hij
    simp only [cm_bb, (ai_ile_iff _ _).mpr hn, (ai_ile_iff _ _).mpr hdp, (ai_ile_iff _ _).mpr hsp, e1, e2, e3, Bool.and_self, Bool.not_false, cond_true]
    rfl
/-- numbers are copied between rows of one kind -/
theorem cs_I.cp (h : cs_I T E nx) {i j sp dp n ni : Nat} {lo hi : Int} (hi1 : i < 105) (hj1 : j < 105) (hTi : cs_T i = (1, ni)) (hy : ∀ k, cs_ty i k = (0, lo, hi)) (hz : ∀ k, cs_ty j k = (0, lo, hi)) (hs : sp + n ≤ ni) : cs_I T (cm_cp E i j sp dp n) nx := by
  obtain ⟨h1, h2, h3⟩ := h
  have key : ∀ i k, 105 ≤ i → i < nx → cm_cp E i j sp dp n i k = E i k := fun i' k hi' _ => cm_cp_ne (fun q => by omega)
  refine ⟨h1, h2, fun i' hi' k hk => ?_⟩
  by_cases he : i' = j ∧ dp ≤ k ∧ k < dp + n
  · obtain ⟨rfl, he⟩ := he
    rw [cm_cp_eq he]
    have h4 := h3 i hi1 (sp + (k - dp)) (by rw [hTi]; show _ < ni; omega)
    rw [hy] at h4
    rw [hz]
    exact h4.mv (Nat.le_refl _) (fun _ _ _ => rfl) (fun i' k' hi' _ => cm_cp_ne (fun q => by omega))
  · rw [cm_cp_ne he]
    exact (h3 i' hi' k hk).mv (Nat.le_refl _) (fun _ _ _ => rfl) (fun i' k' hi' _ => cm_cp_ne (fun q => by omega))
end CL
theorem cs_I.txi {T : cm_T} {E : cm_E} {nx c : Nat} (h : cs_I T E nx) (hc : 31 ≤ c ∧ c ≤ 39) (k : Nat) (hk : k < 8) : ∃ z, E c k = ai_i z ∧ -1 ≤ z ∧ z ≤ 126 := h.int c k (by omega) (by rw [(tx_c hc).1]; exact hk) ((tx_c hc).2 k)
theorem cs_I.txw {T : cm_T} {E : cm_E} {nx c : Nat} (h : cs_I T E nx) (hc : 31 ≤ c ∧ c ≤ 39) {k : Nat} {z : Int} (hz : -1 ≤ z ∧ z ≤ 126) : cs_I T (cm_up E c k (ai_i z)) nx := h.puti (by omega) ((tx_c hc).2 k) hz
theorem cs_I.nki {T : cm_T} {E : cm_E} {nx c : Nat} (h : cs_I T E nx) (hc : 15 ≤ c ∧ c ≤ 16) (k : Nat) (hk : k < 24) : ∃ z, E c k = ai_i z ∧ 0 ≤ z ∧ z ≤ 65535 := h.int c k (by omega) (by rw [(nk_c hc).1]; exact hk) ((nk_c hc).2 k)
theorem cs_I.nkw {T : cm_T} {E : cm_E} {nx c : Nat} (h : cs_I T E nx) (hc : 15 ≤ c ∧ c ≤ 16) {k : Nat} {z : Int} (hz : 0 ≤ z ∧ z ≤ 65535) : cs_I T (cm_up E c k (ai_i z)) nx := h.puti (by omega) ((nk_c hc).2 k) hz
theorem and255_k : ∀ n : Fin 256, (Int32.ofInt (n.val : Int) &&& Int32.ofInt 255).toInt = (n.val : Int) := by decide +kernel
theorem and255 {v q : Int} (h : q = (Int32.ofInt v &&& Int32.ofInt 255).toInt) (hv : 0 ≤ v ∧ v ≤ 255) : q = v := by
  have h1 := and255_k ⟨v.toNat, by omega⟩
  have h2 : ((⟨v.toNat, by omega⟩ : Fin 256).val : Int) = v := by show (v.toNat : Int) = v; omega
  rw [h2] at h1
  exact h.trans h1
