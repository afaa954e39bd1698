set_option maxRecDepth 16384 in
theorem ct_m_drop {sl : Int × Int} {x : ai_E} {d : Nat} {T : cm_T} {E : cm_E} {nx : Nat} (p i : Int) (hI : cs_I T E nx) (hR : rl E) (hp0 : 0 ≤ p ∧ p ≤ 4) (hp1 : 0 ≤ i ∧ i < gv E 84 p.toNat) (hp2 : gv E 84 p.toNat ≤ 20) : cm_ct (ai_ev sl (d + 2)) x 155 [cr 81, ai_i p, ai_i i] T E nx 0 0 (fun rk rv T' E' nx' => rk = 0 ∧ T = T' ∧ nx = nx' ∧ cs_I T E' nx ∧ cm_fr (fun i k => (i = 84 ∧ k = p.toNat) ∨ (i = 82 ∧ (166 * (1500 + 20 * p)).toNat ≤ k ∧ k < (166 * (1500 + 20 * p + 20)).toNat)) E E' ∧ rl E' ∧ (gv E' 84 p.toNat = gv E 84 p.toNat - 1 ∧ (∀ j k : Int, 0 ≤ j → j < i → 0 ≤ k → k < 166 → gv E' 82 (166 * (1500 + 20 * p + j) + k).toNat = gv E 82 (166 * (1500 + 20 * p + j) + k).toNat) ∧ (∀ j k : Int, i ≤ j → j < gv E 84 p.toNat - 1 → 0 ≤ k → k < 166 → gv E' 82 (166 * (1500 + 20 * p + j) + k).toNat = gv E 82 (166 * (1500 + 20 * p + (j + 1)) + k).toNat))) := by
  refine cm_body (M := ai_m155) rfl rfl (fun kc ks => ?_)
  show cm_wp (ai_find ai_c155 sl) (ai_ev sl (d + 1)) x (kc + 0) (ks + 0) _ 0 [cr 81, ai_i p, ai_i i, ai_un] [] T E nx kc ks
  have hF : cm_fr (fun i k => (i = 84 ∧ k = p.toNat) ∨ (i = 82 ∧ (166 * (1500 + 20 * p)).toNat ≤ k ∧ k < (166 * (1500 + 20 * p + 20)).toNat)) E E := fun _ _ _ => rfl
  refine w_iload (i := 2) (npc := 1) rfl rfl ?_
  refine w_istore (i := 3) (npc := 2) (loc' := [cr 81, ai_i p, ai_i i, ai_i i]) rfl rfl ?_
  have loop2 : ∀ (nf : Nat) (q : Int) (Eq2 : cm_E), ((gv E 84 p.toNat - q).toNat) < nf → cs_I T Eq2 nx → cm_fr (fun i k => (i = 84 ∧ k = p.toNat) ∨ (i = 82 ∧ (166 * (1500 + 20 * p)).toNat ≤ k ∧ k < (166 * (1500 + 20 * p + 20)).toNat)) E Eq2 → (i ≤ q ∧ q < gv E 84 p.toNat ∧ gv Eq2 84 p.toNat = gv E 84 p.toNat ∧ (∀ j k : Int, 0 ≤ j → j < i → 0 ≤ k → k < 166 → gv Eq2 82 (166 * (1500 + 20 * p + j) + k).toNat = gv E 82 (166 * (1500 + 20 * p + j) + k).toNat) ∧ (∀ j k : Int, i ≤ j → j < q → 0 ≤ k → k < 166 → gv Eq2 82 (166 * (1500 + 20 * p + j) + k).toNat = gv E 82 (166 * (1500 + 20 * p + (j + 1)) + k).toNat) ∧ (∀ j k : Int, q ≤ j → j < 20 → 0 ≤ k → k < 166 → gv Eq2 82 (166 * (1500 + 20 * p + j) + k).toNat = gv E 82 (166 * (1500 + 20 * p + j) + k).toNat)) → cm_wp (ai_find ai_c155 sl) (ai_ev sl (d + 1)) x (kc + 0) (ks + 0) (fun rk rv T' E' nx' => rk = 0 ∧ T = T' ∧ nx = nx' ∧ cs_I T E' nx ∧ cm_fr (fun i k => (i = 84 ∧ k = p.toNat) ∨ (i = 82 ∧ (166 * (1500 + 20 * p)).toNat ≤ k ∧ k < (166 * (1500 + 20 * p + 20)).toNat)) E E' ∧ rl E' ∧ (gv E' 84 p.toNat = gv E 84 p.toNat - 1 ∧ (∀ j k : Int, 0 ≤ j → j < i → 0 ≤ k → k < 166 → gv E' 82 (166 * (1500 + 20 * p + j) + k).toNat = gv E 82 (166 * (1500 + 20 * p + j) + k).toNat) ∧ (∀ j k : Int, i ≤ j → j < gv E 84 p.toNat - 1 → 0 ≤ k → k < 166 → gv E' 82 (166 * (1500 + 20 * p + j) + k).toNat = gv E 82 (166 * (1500 + 20 * p + (j + 1)) + k).toNat))) 2 [cr 81, ai_i p, ai_i i, ai_i q] [] T Eq2 nx kc ks := by
    intro nf
    induction nf with
    | zero => intro q Eq2 hm; exact absurd hm (Nat.not_lt_zero _)
    | succ nf2 ih =>
      intro q Eq2 hm2 hI2 hF2 hv2
      have ih2 := ih; clear ih
      refine w_iload (i := 3) (npc := 3) rfl rfl ?_
      refine w_const (n := 1) (npc := 4) rfl ?_
      refine w_iadd (npc := 5) rfl (by omega) ?_
      refine w_aload (i := 0) (npc := 6) rfl rfl rfl ?_
      refine w_getf (i := 81) (ci := 8) (k := 4) (npc := 9) rfl (hI2.pl (by decide)) (hI2.T (by decide) rfl) (by decide) (hI2.ref 81 4 (p := 84) (by decide) (by decide) rfl) ?_
      refine w_iload (i := 1) (npc := 10) rfl rfl ?_
      obtain ⟨z2, hz2, hz2a, hz2b⟩ := hI2.int 84 (p : Int).toNat (lo := 0) (hi := 20) (by decide) (show (p : Int).toNat < 5 by omega) rfl
      have ghz2 := gv_eq hz2
      refine w_ald (i := 84) (t := 1) (n := 5) (npc := 11) rfl (hI2.pl (by decide)) (hI2.T (by decide) rfl) (by decide) rfl (by omega) hz2 ?_
      refine w_icmp (c := .ge) (npc := 14) (pt := 38) rfl (fun hc3 => ?_) (fun hc3 => ?_)
      · replace hc3 : z2 ≤ q + 1 := hc3
        refine w_aload (i := 0) (npc := 39) rfl rfl rfl ?_
        refine w_getf (i := 81) (ci := 8) (k := 4) (npc := 42) rfl (hI2.pl (by decide)) (hI2.T (by decide) rfl) (by decide) (hI2.ref 81 4 (p := 84) (by decide) (by decide) rfl) ?_
        refine w_iload (i := 1) (npc := 43) rfl rfl ?_
        refine w_dup2 (npc := 44) rfl rfl rfl ?_
        refine w_ald (i := 84) (t := 1) (n := 5) (npc := 45) rfl (hI2.pl (by decide)) (hI2.T (by decide) rfl) (by decide) rfl (by omega) hz2 ?_
        refine w_const (n := 1) (npc := 46) rfl ?_
        refine w_isub (npc := 47) rfl (by omega) ?_
        refine w_ast (i := 84) (k := 1) (n := 5) (npc := 48) rfl (hI2.pl (by decide)) (hI2.T (by decide) rfl) (by decide) (by omega) cm_af1 ?_
        have hI6 := hI2.puti (i := 84) (k := (p : Int).toNat) (z := z2 - 1) (lo := 0) (hi := 20) (by decide) rfl (by omega)
        have hF8 := cm_fr.up (i := 84) (k := (p : Int).toNat) (v := ai_i (z2 - 1)) hF2 (by first | (simp; done) | (simp; omega) | (intro i k h; (try simp only at h); (try simp only); omega))
        generalize hE7 : cm_up Eq2 84 (p : Int).toNat (ai_i (z2 - 1)) = E5 at hI6 hF8   ⊢
        have hz9 : E5 84 (p : Int).toNat = ai_i (z2 - 1) := by rw [← hE7, cm_up_eq]
        have ghz9 := gv_eq hz9
        obtain ⟨d1, d2, d3, d4, d5, d6⟩ := hv2
        have e9 : ∀ k, gv E5 82 k = gv Eq2 82 k := fun k => by rw [← hE7, gv_ne _ _ (by omega)]
        have h84 : gv E5 84 p.toNat = gv E 84 p.toNat - 1 := by rw [← hE7, gv_up]; omega
        have b1 : ∀ j k : Int, 0 ≤ j → j < i → 0 ≤ k → k < 166 → gv E5 82 (166 * (1500 + 20 * p + j) + k).toNat = gv E 82 (166 * (1500 + 20 * p + j) + k).toNat := fun j k j0 j1 k0 k1 => (e9 _).trans (d4 j k j0 j1 k0 k1)
        have b2 : ∀ j k : Int, i ≤ j → j < gv E 84 p.toNat - 1 → 0 ≤ k → k < 166 → gv E5 82 (166 * (1500 + 20 * p + j) + k).toNat = gv E 82 (166 * (1500 + 20 * p + (j + 1)) + k).toNat := fun j k j0 j1 k0 k1 => (e9 _).trans (d5 j k j0 (by omega) k0 k1)
        have hR10 : rl E5 := rl_drop (p := p) (i := i) (h := gv E 84 p.toNat) hR (by omega) (by omega) (by omega) rfl hF8 h84 b1 b2 (fun j k j0 j1 k0 k1 => (e9 _).trans (d6 j k (by omega) j1 k0 k1))
        exact w_vret rfl (⟨rfl, rfl, rfl, hI6, hF8, hR10, ⟨h84, b1, b2⟩⟩) (by omega) (by omega)
      · replace hc3 : ¬ (z2 ≤ q + 1) := hc3
        refine w_aload (i := 0) (npc := 15) rfl rfl rfl ?_
        refine w_aload (i := 0) (npc := 16) rfl rfl rfl ?_
        refine w_iload (i := 1) (npc := 17) rfl rfl ?_
        refine w_iload (i := 3) (npc := 18) rfl rfl ?_
        refine w_const (n := 1) (npc := 19) rfl ?_
        refine w_iadd (npc := 20) rfl (by omega) ?_
        refine w_virt (ci := 8) (i := 81) (npc := 23) (a := [cr 81, ai_i p, ai_i (q + 1)]) (rest := [cr 81]) rfl rfl (hI2.pl (by decide)) (hI2.T (by decide) rfl) rfl rfl rfl rfl (ct_m_holdOf (sl := sl) (x := x) (d := d + 0) (p) (q + 1) (by omega) (by omega)) (Or.inl rfl) (fun k9 v9 T9 E13 nx9 kc9 ks9 hq12 hk9 hs9 => ?_)
        obtain ⟨rfl, rfl, rfl, rfl, z14, rfl, hz14⟩ := hq12
        obtain rfl : kc = kc9 := by omega
        obtain rfl : ks = ks9 := by omega
        refine Or.inr (Or.inl ⟨rfl, ?_⟩)
        obtain rfl : 1500 + 20 * p + (q + 1) = z14 := by omega
        refine w_aload (i := 0) (npc := 24) rfl rfl rfl ?_
        refine w_iload (i := 1) (npc := 25) rfl rfl ?_
        refine w_iload (i := 3) (npc := 26) rfl rfl ?_
        refine w_virt (ci := 8) (i := 81) (npc := 29) (a := [cr 81, ai_i p, ai_i q]) (rest := [ai_i (1500 + 20 * p + (q + 1)), cr 81]) rfl rfl (hI2.pl (by decide)) (hI2.T (by decide) rfl) rfl rfl rfl rfl (ct_m_holdOf (sl := sl) (x := x) (d := d + 0) (p) (q) (by omega) (by omega)) (Or.inl rfl) (fun k9 v9 T9 E16 nx9 kc9 ks9 hq15 hk9 hs9 => ?_)
        obtain ⟨rfl, rfl, rfl, rfl, z17, rfl, hz17⟩ := hq15
        obtain rfl : kc = kc9 := by omega
        obtain rfl : ks = ks9 := by omega
        refine Or.inr (Or.inl ⟨rfl, ?_⟩)
        obtain rfl : 1500 + 20 * p + q = z17 := by omega
        refine w_virt (ci := 8) (i := 81) (npc := 32) (a := [cr 81, ai_i (1500 + 20 * p + (q + 1)), ai_i (1500 + 20 * p + q)]) (rest := []) rfl rfl (hI2.pl (by decide)) (hI2.T (by decide) rfl) rfl rfl rfl rfl (ct_m_copy (sl := sl) (x := x) (d := d + 0) (1500 + 20 * p + (q + 1)) (1500 + 20 * p + q) hI2 (by omega) (by omega) (by omega)) (Or.inl rfl) (fun k9 v9 T9 E19 nx9 kc9 ks9 hq18 hk9 hs9 => ?_)
        obtain ⟨rfl, rfl, rfl, hI21, hG22, hz20⟩ := hq18
        obtain rfl : kc = kc9 := by omega
        obtain rfl : ks = ks9 := by omega
        have hF23 := cm_fr.trans hF2 hG22 (by first | (simp; done) | (simp; omega) | (intro i k h; (try simp only at h); (try simp only); omega))
        refine Or.inl ⟨rfl, ?_⟩
        refine w_iinc (i := 3) (n := 1) (npc := 35) (loc' := [cr 81, ai_i p, ai_i i, ai_i (q + 1)]) rfl rfl (by omega) rfl ?_
        refine w_goto (pt := 2) rfl ?_
        exact ih2 (q + 1) E19 (by omega) hI21 hF23 (by
      obtain ⟨d1, d2, d3, d4, d5, d6⟩ := hv2
      have fr9 : ∀ k : Nat, ¬ ((166 * (1500 + 20 * p + q)).toNat ≤ k ∧ k < (166 * (1500 + 20 * p + q) + 166).toNat) → gv E19 82 k = gv Eq2 82 k := fun k hk => (gv_fr hG22 (by first | omega | (simp only; omega))).symm
      refine ⟨by omega, by omega, by rw [← gv_fr hG22 (by simp)]; exact d3, fun j k j0 j1 k0 k1 => ?_, fun j k j0 j1 k0 k1 => ?_, fun j k j0 j1 k0 k1 => ?_⟩
      · rw [fr9 _ (by omega)]; exact d4 j k j0 j1 k0 k1
      · by_cases hj : j = q
        · rw [hj, hz20 k k0 k1]; exact d6 (q + 1) k (by omega) (by omega) k0 k1
        · rw [fr9 _ (by omega)]; exact d5 j k j0 (by omega) k0 k1
      · rw [fr9 _ (by omega)]; exact d6 j k (by omega) j1 k0 k1)
  exact loop2 _ (i) E (Nat.lt_succ_self _) hI hF (⟨by omega, by omega, rfl, fun j k _ _ _ _ => rfl, fun j k j0 j1 k0 k1 => by omega, fun j k _ _ _ _ => rfl⟩)
