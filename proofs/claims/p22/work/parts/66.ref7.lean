set_option maxRecDepth 16384 in
theorem ct_m_copy {sl : Int × Int} {x : ai_E} {d : Nat} {T : cm_T} {E : cm_E} {nx : Nat} (a b : Int) (hI : cs_I T E nx) (hp0 : 0 ≤ a ∧ a ≤ 3200) (hp1 : 0 ≤ b ∧ b ≤ 3200) (hp2 : a ≠ b) : cm_ct (ai_ev sl (d + 1)) x 153 [cr 81, ai_i a, ai_i b] T E nx 0 0 (fun rk rv T' E' nx' => rk = 0 ∧ T = T' ∧ nx = nx' ∧ cs_I T E' nx ∧ cm_fr (fun i k => i = 82 ∧ (166 * b).toNat ≤ k ∧ k < (166 * b + 166).toNat) E E' ∧ (∀ k : Int, 0 ≤ k → k < 166 → gv E' 82 (166 * b + k).toNat = gv E 82 (166 * a + k).toNat)) := by
  refine cm_body (M := ai_m153) rfl rfl (fun kc ks => ?_)
  show cm_wp (ai_find ai_c153 sl) (ai_ev sl (d + 0)) x (kc + 0) (ks + 0) _ 0 [cr 81, ai_i a, ai_i b, ai_un] [] T E nx kc ks
  have hF : cm_fr (fun i k => i = 82 ∧ (166 * b).toNat ≤ k ∧ k < (166 * b + 166).toNat) E E := fun _ _ _ => rfl
  refine w_const (n := 0) (npc := 1) rfl ?_
  refine w_istore (i := 3) (npc := 2) (loc' := [cr 81, ai_i a, ai_i b, ai_i 0]) rfl rfl ?_
  have loop2 : ∀ (nf : Nat) (i : Int) (Eq2 : cm_E), ((166 - i).toNat) < nf → cs_I T Eq2 nx → cm_fr (fun i k => i = 82 ∧ (166 * b).toNat ≤ k ∧ k < (166 * b + 166).toNat) E Eq2 → (0 ≤ i ∧ i ≤ 166 ∧ ∀ k : Int, 0 ≤ k → k < i → gv Eq2 82 (166 * b + k).toNat = gv E 82 (166 * a + k).toNat) → cm_wp (ai_find ai_c153 sl) (ai_ev sl (d + 0)) x (kc + 0) (ks + 0) (fun rk rv T' E' nx' => rk = 0 ∧ T = T' ∧ nx = nx' ∧ cs_I T E' nx ∧ cm_fr (fun i k => i = 82 ∧ (166 * b).toNat ≤ k ∧ k < (166 * b + 166).toNat) E E' ∧ (∀ k : Int, 0 ≤ k → k < 166 → gv E' 82 (166 * b + k).toNat = gv E 82 (166 * a + k).toNat)) 2 [cr 81, ai_i a, ai_i b, ai_i i] [] T Eq2 nx kc ks := by
    intro nf
    induction nf with
    | zero => intro i Eq2 hm; exact absurd hm (Nat.not_lt_zero _)
    | succ nf2 ih =>
      intro i Eq2 hm2 hI2 hF2 hv2
      have ih2 := ih; clear ih
      refine w_iload (i := 3) (npc := 3) rfl rfl ?_
      refine w_const (n := 166) (npc := 6) rfl ?_
      refine w_icmp (c := .ge) (npc := 9) (pt := 39) rfl (fun hc1 => ?_) (fun hc1 => ?_)
      · replace hc1 : (166 : Int) ≤ i := hc1
        exact w_vret rfl (⟨rfl, rfl, rfl, hI2, hF2, fun k k0 k1 => hv2.2.2 k k0 (by omega)⟩) (by omega) (by omega)
      · replace hc1 : ¬ ((166 : Int) ≤ i) := hc1
        refine w_aload (i := 0) (npc := 10) rfl rfl rfl ?_
        refine w_getf (i := 81) (ci := 8) (k := 2) (npc := 13) rfl (hI2.pl (by decide)) (hI2.T (by decide) rfl) (by decide) (hI2.ref 81 2 (p := 82) (by decide) (by decide) rfl) ?_
        refine w_const (n := 166) (npc := 16) rfl ?_
        refine w_iload (i := 2) (npc := 17) rfl rfl ?_
        refine w_imul (npc := 18) rfl (by omega) ?_
        refine w_iload (i := 3) (npc := 19) rfl rfl ?_
        refine w_iadd (npc := 20) rfl (by omega) ?_
        refine w_aload (i := 0) (npc := 21) rfl rfl rfl ?_
        refine w_getf (i := 81) (ci := 8) (k := 2) (npc := 24) rfl (hI2.pl (by decide)) (hI2.T (by decide) rfl) (by decide) (hI2.ref 81 2 (p := 82) (by decide) (by decide) rfl) ?_
        refine w_const (n := 166) (npc := 27) rfl ?_
        refine w_iload (i := 1) (npc := 28) rfl rfl ?_
        refine w_imul (npc := 29) rfl (by omega) ?_
        refine w_iload (i := 3) (npc := 30) rfl rfl ?_
        refine w_iadd (npc := 31) rfl (by omega) ?_
        obtain ⟨z6, hz6, hz6a, hz6b⟩ := hI2.int 82 (166 * a + i : Int).toNat (lo := 0) (hi := 65540) (by decide) (show (166 * a + i : Int).toNat < 531366 by omega) rfl
        have ghz6 := gv_eq hz6
        refine w_ald (i := 82) (t := 1) (n := 531366) (npc := 32) rfl (hI2.pl (by decide)) (hI2.T (by decide) rfl) (by decide) rfl (by omega) hz6 ?_
        have hl8 := gv_fr hF2 (i := 82) (k := (166 * a + i).toNat) (by simp; omega)
        refine w_ast (i := 82) (k := 1) (n := 531366) (npc := 33) rfl (hI2.pl (by decide)) (hI2.T (by decide) rfl) (by decide) (by omega) cm_af1 ?_
        have hI8 := hI2.puti (i := 82) (k := (166 * b + i : Int).toNat) (z := z6) (lo := 0) (hi := 65540) (by decide) rfl (by omega)
        have hF10 := cm_fr.up (i := 82) (k := (166 * b + i : Int).toNat) (v := ai_i z6) hF2 (by first | (simp; done) | (simp; omega) | (intro i k h; (try simp only at h); (try simp only); omega))
        generalize hE9 : cm_up Eq2 82 (166 * b + i : Int).toNat (ai_i z6) = E7 at hI8 hF10   ⊢
        have hz11 : E7 82 (166 * b + i : Int).toNat = ai_i z6 := by rw [← hE9, cm_up_eq]
        have ghz11 := gv_eq hz11
        refine w_iinc (i := 3) (n := 1) (npc := 36) (loc' := [cr 81, ai_i a, ai_i b, ai_i (i + 1)]) rfl rfl (by omega) rfl ?_
        refine w_goto (pt := 2) rfl ?_
        exact ih2 (i + 1) E7 (by omega) hI8 hF10 (⟨by omega, by omega, fun k k0 k1 => by
      rw [← hE9]
      by_cases hk : k = i
      · rw [hk, gv_up]; omega
      · rw [gv_ne _ _ (by omega)]; exact hv2.2.2 k k0 (by omega)⟩)
  exact loop2 _ (0) E (Nat.lt_succ_self _) hI hF (⟨by omega, by omega, fun k k0 k1 => by omega⟩)
set_option maxRecDepth 16384 in
theorem ct_m_add {sl : Int × Int} {x : ai_E} {d : Nat} {T : cm_T} {E : cm_E} {nx : Nat} (p r : Int) (hI : cs_I T E nx) (hR : rl E) (hp0 : 0 ≤ p ∧ p ≤ 4) (hp1 : 0 ≤ r ∧ 1500 ≤ r ∧ r ≤ 3200) (hp2 : rl_row E r) (hp3 : rl_hd E r) (hp4 : gv E 83 (5 * p + gv E 82 (166 * r + 1).toNat).toNat ≤ 59) : cm_ct (ai_ev sl (d + 2)) x 146 [cr 81, ai_i p, ai_i r] T E nx 0 0 (fun rk rv T' E' nx' => rk = 0 ∧ T = T' ∧ nx = nx' ∧ cs_I T E' nx ∧ cm_fr (fun i k => (i = 83 ∧ k = (5 * p + gv E 82 (166 * r + 1).toNat).toNat) ∨ (i = 82 ∧ k < 249000)) E E' ∧ rl E' ∧ (gv E' 83 (5 * p + gv E 82 (166 * r + 1).toNat).toNat = gv E 83 (5 * p + gv E 82 (166 * r + 1).toNat).toNat + 1)) := by
  refine cm_body (M := ai_m146) rfl rfl (fun kc ks => ?_)
  show cm_wp (ai_find ai_c146 sl) (ai_ev sl (d + 1)) x (kc + 0) (ks + 0) _ 0 [cr 81, ai_i p, ai_i r, ai_un] [] T E nx kc ks
  have hF : cm_fr (fun i k => (i = 83 ∧ k = (5 * p + gv E 82 (166 * r + 1).toNat).toNat) ∨ (i = 82 ∧ k < 249000)) E E := fun _ _ _ => rfl
  refine w_aload (i := 0) (npc := 1) rfl rfl rfl ?_
  refine w_iload (i := 2) (npc := 2) rfl rfl ?_
  refine w_const (n := 1) (npc := 3) rfl ?_
  refine w_virt (ci := 8) (i := 81) (npc := 6) (a := [cr 81, ai_i r, ai_i 1]) (rest := []) rfl rfl (hI.pl (by decide)) (hI.T (by decide) rfl) rfl rfl rfl rfl (ct_m_of (sl := sl) (x := x) (d := d + 0) (r) (1) hI (by omega) (by omega) (by omega)) (Or.inl rfl) (fun k9 v9 T9 E2 nx9 kc9 ks9 hq1 hk9 hs9 => ?_)
  obtain ⟨rfl, rfl, rfl, rfl, z3, rfl, hz3⟩ := hq1
  obtain rfl : kc = kc9 := by omega
  obtain rfl : ks = ks9 := by omega
  refine Or.inr (Or.inl ⟨rfl, ?_⟩)
  obtain rfl : gv E 82 (166 * r + 1).toNat = z3 := by omega
  have hw8 := hp2.2.1
  refine w_istore (i := 3) (npc := 7) (loc' := [cr 81, ai_i p, ai_i r, ai_i (gv E 82 (166 * r + 1).toNat)]) rfl rfl ?_
  refine w_aload (i := 0) (npc := 8) rfl rfl rfl ?_
  refine w_getf (i := 81) (ci := 8) (k := 3) (npc := 11) rfl (hI.pl (by decide)) (hI.T (by decide) rfl) (by decide) (hI.ref 81 3 (p := 83) (by decide) (by decide) rfl) ?_
  refine w_const (n := 5) (npc := 12) rfl ?_
  refine w_iload (i := 1) (npc := 13) rfl rfl ?_
  refine w_imul (npc := 14) rfl (by omega) ?_
  refine w_iload (i := 3) (npc := 15) rfl rfl ?_
  refine w_iadd (npc := 16) rfl (by omega) ?_
  refine w_dup2 (npc := 17) rfl rfl rfl ?_
  obtain ⟨z6, hz6, hz6a, hz6b⟩ := hI.int 83 (5 * p + (gv E 82 (166 * r + 1).toNat) : Int).toNat (lo := 0) (hi := 60) (by decide) (show (5 * p + (gv E 82 (166 * r + 1).toNat) : Int).toNat < 25 by omega) rfl
  have ghz6 := gv_eq hz6
  refine w_ald (i := 83) (t := 1) (n := 25) (npc := 18) rfl (hI.pl (by decide)) (hI.T (by decide) rfl) (by decide) rfl (by omega) hz6 ?_
  refine w_const (n := 1) (npc := 19) rfl ?_
  refine w_iadd (npc := 20) rfl (by omega) ?_
  refine w_ast (i := 83) (k := 1) (n := 25) (npc := 21) rfl (hI.pl (by decide)) (hI.T (by decide) rfl) (by decide) (by omega) cm_af1 ?_
  have hI9 := hI.puti (i := 83) (k := (5 * p + (gv E 82 (166 * r + 1).toNat) : Int).toNat) (z := z6 + 1) (lo := 0) (hi := 60) (by decide) rfl (by omega)
  have hF11 := cm_fr.up (i := 83) (k := (5 * p + (gv E 82 (166 * r + 1).toNat) : Int).toNat) (v := ai_i (z6 + 1)) hF (by first | (simp; done) | (simp; omega) | (intro i k h; (try simp only at h); (try simp only); omega))
  generalize hE10 : cm_up E 83 (5 * p + (gv E 82 (166 * r + 1).toNat) : Int).toNat (ai_i (z6 + 1)) = E8 at hI9 hF11   ⊢
  have hz12 : E8 83 (5 * p + (gv E 82 (166 * r + 1).toNat) : Int).toNat = ai_i (z6 + 1) := by rw [← hE10, cm_up_eq]
  have ghz12 := gv_eq hz12
  refine w_aload (i := 0) (npc := 22) rfl rfl rfl ?_
  refine w_iload (i := 2) (npc := 23) rfl rfl ?_
  refine w_iload (i := 1) (npc := 24) rfl rfl ?_
  refine w_iload (i := 3) (npc := 25) rfl rfl ?_
  refine w_aload (i := 0) (npc := 26) rfl rfl rfl ?_
  refine w_getf (i := 81) (ci := 8) (k := 3) (npc := 29) rfl (hI9.pl (by decide)) (hI9.T (by decide) rfl) (by decide) (hI9.ref 81 3 (p := 83) (by decide) (by decide) rfl) ?_
  refine w_const (n := 5) (npc := 30) rfl ?_
  refine w_iload (i := 1) (npc := 31) rfl rfl ?_
  refine w_imul (npc := 32) rfl (by omega) ?_
  refine w_iload (i := 3) (npc := 33) rfl rfl ?_
  refine w_iadd (npc := 34) rfl (by omega) ?_
  refine w_ald (i := 83) (t := 1) (n := 25) (npc := 35) rfl (hI9.pl (by decide)) (hI9.T (by decide) rfl) (by decide) rfl (by omega) hz12 ?_
  refine w_call (npc := 38) (a := [ai_i p, ai_i (gv E 82 (166 * r + 1).toNat), ai_i ((z6 + 1))]) (rest := [ai_i r, cr 81]) rfl rfl rfl rfl rfl (ct_m_rowOf (sl := sl) (x := x) (d := d + 0) (p) (gv E 82 (166 * r + 1).toNat) ((z6 + 1)) (by omega) (by omega) (by omega)) (Or.inr (fun _ _ _ _ _ hq => by have h1 := hq.1; omega)) (fun k9 v9 T9 E16 nx9 kc9 ks9 hq15 hk9 hs9 => ?_)
  obtain ⟨rfl, rfl, rfl, rfl, z17, rfl, hz17⟩ := hq15
  obtain rfl : kc = kc9 := by omega
  obtain rfl : ks = ks9 := by omega
  refine Or.inr (Or.inl ⟨rfl, ?_⟩)
  refine w_virt (ci := 8) (i := 81) (npc := 41) (a := [cr 81, ai_i r, ai_i z17]) (rest := []) rfl rfl (hI9.pl (by decide)) (hI9.T (by decide) rfl) rfl rfl rfl rfl (ct_m_copy (sl := sl) (x := x) (d := d + 0) (r) (z17) hI9 (by omega) (by omega) (by omega)) (Or.inl rfl) (fun k9 v9 T9 E19 nx9 kc9 ks9 hq18 hk9 hs9 => ?_)
  obtain ⟨rfl, rfl, rfl, hI21, hG22, hz20⟩ := hq18
  obtain rfl : kc = kc9 := by omega
  obtain rfl : ks = ks9 := by omega
  have hF23 := cm_fr.trans hF11 hG22 (by first | (simp; done) | (simp; omega) | (intro i k h; (try simp only at h); (try simp only); omega))
  refine Or.inl ⟨rfl, ?_⟩
  have hR24 : rl E19 := rl_add (p := p) (w := gv E 82 (166 * r + 1).toNat) (m := z6) (r := r) hR (by omega) (by omega) (by omega) (by omega) (by omega) hp2 hp3 hE10 hG22 hz20
  exact w_vret rfl (⟨rfl, rfl, rfl, hI21, hF23, hR24, by rw [← gv_fr hG22 (by simp), ← hE10, gv_up]; omega⟩) (by omega) (by omega)
