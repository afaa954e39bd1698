set_option maxRecDepth 16384 in
theorem ct_m_writers {sl : Int × Int} {x : ai_E} {d : Nat} {T : cm_T} {E : cm_E} {nx : Nat} (n : Int) (hI : cs_I T E nx) (hR : rl E) (hp0 : -2147483648 ≤ n ∧ n ≤ 2147483647) : cm_ct (ai_ev sl (d + 2)) x 222 [cr 81, ai_i n] T E nx 0 0 (fun rk rv T' E' nx' => rk = 0 ∧ T = T' ∧ nx = nx' ∧ cs_I T E' nx ∧ cm_fr (fun i k => (i = 81 ∧ (k = 0 ∨ k = 1 ∨ k = 34)) ∨ i = 83 ∨ i = 84) E E' ∧ rl E' ∧ ((1 ≤ n ∧ n ≤ 5 → gv E' 81 0 = 0 ∧ gv E' 81 1 = n ∧ gv E' 81 34 = 0) ∧ (¬ (1 ≤ n ∧ n ≤ 5) → gv E' 81 0 = 1 ∧ gv E' 81 1 = gv E 81 1 ∧ gv E' 81 34 = gv E 81 34))) := by
  refine cm_body (M := ai_m222) rfl rfl (fun kc ks => ?_)
  show cm_wp (ai_find ai_c222 sl) (ai_ev sl (d + 1)) x (kc + 0) (ks + 0) _ 0 [cr 81, ai_i n, ai_un] [] T E nx kc ks
  have hF : cm_fr (fun i k => (i = 81 ∧ (k = 0 ∨ k = 1 ∨ k = 34)) ∨ i = 83 ∨ i = 84) E E := fun _ _ _ => rfl
  obtain ⟨z1, hz1, hz1a, hz1b⟩ := hI.int 81 1 (lo := 1) (hi := 5) (by decide) (by decide) rfl
  have ghz1 := gv_eq hz1
  obtain ⟨z2, hz2, hz2a, hz2b⟩ := hI.int 81 34 (lo := 0) (hi := 1) (by decide) (by decide) rfl
  have ghz2 := gv_eq hz2
  refine w_aload (i := 0) (npc := 1) rfl rfl rfl ?_
  refine w_const (n := 0) (npc := 2) rfl ?_
  refine w_putf (i := 81) (ci := 8) (k := 0) (t := 0) (npc := 5) rfl (hI.pl (by decide)) (hI.T (by decide) rfl) (by decide) cm_fit0 ?_
  have hI4 := hI.puti (i := 81) (k := 0) (z := 0) (lo := 0) (hi := 2) (by decide) rfl (by omega)
  have hF6 := cm_fr.up (i := 81) (k := 0) (v := ai_i 0) hF (by first | (simp; done) | (simp; omega) | (intro i k h; (try simp only at h); (try simp only); omega))
  have hR7 := rl.wr (i := 81) (k := 0) (v := ai_i 0) hR (by simp)
  generalize hE5 : cm_up E 81 0 (ai_i 0) = E3 at hI4 hF6 hR7  ⊢
  have hz8 : E3 81 1 = ai_i z1 := by rw [← hE5, cm_up_ne _ _ (by decide)]; exact hz1
  have ghz8 := gv_eq hz8
  have hz9 : E3 81 34 = ai_i z2 := by rw [← hE5, cm_up_ne _ _ (by decide)]; exact hz2
  have ghz9 := gv_eq hz9
  have hz10 : E3 81 0 = ai_i 0 := by rw [← hE5, cm_up_eq]
  have ghz10 := gv_eq hz10
  refine w_iload (i := 1) (npc := 6) rfl rfl ?_
  refine w_const (n := 1) (npc := 7) rfl ?_
  refine w_const (n := 5) (npc := 8) rfl ?_
  refine w_call (npc := 11) (a := [ai_i n, ai_i 1, ai_i 5]) (rest := []) rfl rfl rfl rfl rfl (ct_m_isIn (sl := sl) (x := x) (d := d + 0) (n) (1) (5)) (Or.inr (fun _ _ _ _ _ hq => by have h1 := hq.1; omega)) (fun k9 v9 T9 E12 nx9 kc9 ks9 hq11 hk9 hs9 => ?_)
  obtain ⟨rfl, rfl, rfl, rfl, z13, rfl, hz13⟩ := hq11
  obtain rfl : kc = kc9 := by omega
  obtain rfl : ks = ks9 := by omega
  refine Or.inr (Or.inl ⟨rfl, ?_⟩)
  refine w_if (c := .ne) (npc := 14) (pt := 20) rfl (fun hc14 => ?_) (fun hc14 => ?_)
  · replace hc14 : z13 ≠ (0 : Int) := hc14
    refine w_aload (i := 0) (npc := 21) rfl rfl rfl ?_
    refine w_iload (i := 1) (npc := 22) rfl rfl ?_
    refine w_putf (i := 81) (ci := 8) (k := 1) (t := 0) (npc := 25) rfl (hI4.pl (by decide)) (hI4.T (by decide) rfl) (by decide) cm_fit0 ?_
    have hI16 := hI4.puti (i := 81) (k := 1) (z := n) (lo := 1) (hi := 5) (by decide) rfl (by omega)
    have hF18 := cm_fr.up (i := 81) (k := 1) (v := ai_i n) hF6 (by first | (simp; done) | (simp; omega) | (intro i k h; (try simp only at h); (try simp only); omega))
    generalize hE17 : cm_up E3 81 1 (ai_i n) = E15 at hI16 hF18   ⊢
    have hz19 : E15 81 34 = ai_i z2 := by rw [← hE17, cm_up_ne _ _ (by decide)]; exact hz9
    have ghz19 := gv_eq hz19
    have hz20 : E15 81 0 = ai_i 0 := by rw [← hE17, cm_up_ne _ _ (by decide)]; exact hz10
    have ghz20 := gv_eq hz20
    have hz21 : E15 81 1 = ai_i n := by rw [← hE17, cm_up_eq]
    have ghz21 := gv_eq hz21
    refine w_const (n := 0) (npc := 26) rfl ?_
    refine w_istore (i := 2) (npc := 27) (loc' := [cr 81, ai_i n, ai_i 0]) rfl rfl ?_
    have loop27 : ∀ (nf : Nat) (i : Int) (Eq27 : cm_E), ((25 - i).toNat) < nf → cs_I T Eq27 nx → cm_fr (fun i k => (i = 81 ∧ (k = 0 ∨ k = 1 ∨ k = 34)) ∨ i = 83 ∨ i = 84) E Eq27 → (0 ≤ i ∧ i ≤ 25 ∧ gv Eq27 81 0 = 0 ∧ gv Eq27 81 1 = n ∧ ∀ k : Int, 0 ≤ k → k < i → gv Eq27 83 k.toNat = 0) → cm_wp (ai_find ai_c222 sl) (ai_ev sl (d + 1)) x (kc + 0) (ks + 0) (fun rk rv T' E' nx' => rk = 0 ∧ T = T' ∧ nx = nx' ∧ cs_I T E' nx ∧ cm_fr (fun i k => (i = 81 ∧ (k = 0 ∨ k = 1 ∨ k = 34)) ∨ i = 83 ∨ i = 84) E E' ∧ rl E' ∧ ((1 ≤ n ∧ n ≤ 5 → gv E' 81 0 = 0 ∧ gv E' 81 1 = n ∧ gv E' 81 34 = 0) ∧ (¬ (1 ≤ n ∧ n ≤ 5) → gv E' 81 0 = 1 ∧ gv E' 81 1 = gv E 81 1 ∧ gv E' 81 34 = gv E 81 34))) 27 [cr 81, ai_i n, ai_i i] [] T Eq27 nx kc ks := by
      intro nf
      induction nf with
      | zero => intro i Eq27 hm; exact absurd hm (Nat.not_lt_zero _)
      | succ nf27 ih =>
        intro i Eq27 hm27 hI27 hF27 hv27
        obtain ⟨z22, hz22, hz22a, hz22b⟩ := hI27.int 81 0 (lo := 0) (hi := 2) (by decide) (by decide) rfl
        have ghz22 := gv_eq hz22
        obtain ⟨z23, hz23, hz23a, hz23b⟩ := hI27.int 81 1 (lo := 1) (hi := 5) (by decide) (by decide) rfl
        have ghz23 := gv_eq hz23
        have ih27 := ih; clear ih
        refine w_iload (i := 2) (npc := 28) rfl rfl ?_
        refine w_const (n := 25) (npc := 30) rfl ?_
        refine w_icmp (c := .ge) (npc := 33) (pt := 46) rfl (fun hc24 => ?_) (fun hc24 => ?_)
        · replace hc24 : (25 : Int) ≤ i := hc24
          refine w_const (n := 0) (npc := 47) rfl ?_
          refine w_istore (i := 2) (npc := 48) (loc' := [cr 81, ai_i n, ai_i 0]) rfl rfl ?_
          have loop48 : ∀ (nf : Nat) (i : Int) (Eq48 : cm_E), ((5 - i).toNat) < nf → cs_I T Eq48 nx → cm_fr (fun i k => (i = 81 ∧ (k = 0 ∨ k = 1 ∨ k = 34)) ∨ i = 83 ∨ i = 84) E Eq48 → (0 ≤ i ∧ i ≤ 5 ∧ gv Eq48 81 0 = 0 ∧ gv Eq48 81 1 = n ∧ (∀ k : Int, 0 ≤ k → k < 25 → gv Eq48 83 k.toNat = 0) ∧ ∀ k : Int, 0 ≤ k → k < i → gv Eq48 84 k.toNat = 0) → cm_wp (ai_find ai_c222 sl) (ai_ev sl (d + 1)) x (kc + 0) (ks + 0) (fun rk rv T' E' nx' => rk = 0 ∧ T = T' ∧ nx = nx' ∧ cs_I T E' nx ∧ cm_fr (fun i k => (i = 81 ∧ (k = 0 ∨ k = 1 ∨ k = 34)) ∨ i = 83 ∨ i = 84) E E' ∧ rl E' ∧ ((1 ≤ n ∧ n ≤ 5 → gv E' 81 0 = 0 ∧ gv E' 81 1 = n ∧ gv E' 81 34 = 0) ∧ (¬ (1 ≤ n ∧ n ≤ 5) → gv E' 81 0 = 1 ∧ gv E' 81 1 = gv E 81 1 ∧ gv E' 81 34 = gv E 81 34))) 48 [cr 81, ai_i n, ai_i i] [] T Eq48 nx kc ks := by
            intro nf
            induction nf with
            | zero => intro i Eq48 hm; exact absurd hm (Nat.not_lt_zero _)
            | succ nf48 ih =>
              intro i Eq48 hm48 hI48 hF48 hv48
              obtain ⟨z25, hz25, hz25a, hz25b⟩ := hI48.int 81 0 (lo := 0) (hi := 2) (by decide) (by decide) rfl
              have ghz25 := gv_eq hz25
              obtain ⟨z26, hz26, hz26a, hz26b⟩ := hI48.int 81 1 (lo := 1) (hi := 5) (by decide) (by decide) rfl
              have ghz26 := gv_eq hz26
              have ih48 := ih; clear ih
              refine w_iload (i := 2) (npc := 49) rfl rfl ?_
              refine w_const (n := 5) (npc := 50) rfl ?_
              refine w_icmp (c := .ge) (npc := 53) (pt := 66) rfl (fun hc27 => ?_) (fun hc27 => ?_)
              · replace hc27 : (5 : Int) ≤ i := hc27
                refine w_aload (i := 0) (npc := 67) rfl rfl rfl ?_
                refine w_const (n := 0) (npc := 68) rfl ?_
                refine w_putf (i := 81) (ci := 8) (k := 34) (t := 1) (npc := 71) rfl (hI48.pl (by decide)) (hI48.T (by decide) rfl) (by decide) (cm_fit1 (by omega)) ?_
                have hI29 := hI48.puti (i := 81) (k := 34) (z := 0) (lo := 0) (hi := 1) (by decide) rfl (by omega)
                have hF31 := cm_fr.up (i := 81) (k := 34) (v := ai_i 0) hF48 (by first | (simp; done) | (simp; omega) | (intro i k h; (try simp only at h); (try simp only); omega))
                generalize hE30 : cm_up Eq48 81 34 (ai_i 0) = E28 at hI29 hF31   ⊢
                have hz32 : E28 81 0 = ai_i z25 := by rw [← hE30, cm_up_ne _ _ (by decide)]; exact hz25
                have ghz32 := gv_eq hz32
                have hz33 : E28 81 1 = ai_i z26 := by rw [← hE30, cm_up_ne _ _ (by decide)]; exact hz26
                have ghz33 := gv_eq hz33
                have hz34 : E28 81 34 = ai_i 0 := by rw [← hE30, cm_up_eq]
                have ghz34 := gv_eq hz34
                have hR35 : rl E28 := rl_new hR.1 (fun k _ => (gv_fr hF31 (by simp)).symm) (fun k k0 k1 => by rw [← hE30, gv_ne _ _ (by omega)]; exact hv48.2.2.2.2.1 k k0 k1) (fun k k0 k1 => by rw [← hE30, gv_ne _ _ (by omega)]; exact hv48.2.2.2.2.2 k k0 (by omega)) (by omega)
                exact w_vret rfl (⟨rfl, rfl, rfl, hI29, hF31, hR35, by omega⟩) (by omega) (by omega)
              · replace hc27 : ¬ ((5 : Int) ≤ i) := hc27
                refine w_aload (i := 0) (npc := 54) rfl rfl rfl ?_
                refine w_getf (i := 81) (ci := 8) (k := 4) (npc := 57) rfl (hI48.pl (by decide)) (hI48.T (by decide) rfl) (by decide) (hI48.ref 81 4 (p := 84) (by decide) (by decide) rfl) ?_
                refine w_iload (i := 2) (npc := 58) rfl rfl ?_
                refine w_const (n := 0) (npc := 59) rfl ?_
                refine w_ast (i := 84) (k := 1) (n := 5) (npc := 60) rfl (hI48.pl (by decide)) (hI48.T (by decide) rfl) (by decide) (by omega) cm_af1 ?_
                have hI37 := hI48.puti (i := 84) (k := (i : Int).toNat) (z := 0) (lo := 0) (hi := 20) (by decide) rfl (by omega)
                have hF39 := cm_fr.up (i := 84) (k := (i : Int).toNat) (v := ai_i 0) hF48 (by first | (simp; done) | (simp; omega) | (intro i k h; (try simp only at h); (try simp only); omega))
                generalize hE38 : cm_up Eq48 84 (i : Int).toNat (ai_i 0) = E36 at hI37 hF39   ⊢
                have hz40 : E36 81 0 = ai_i z25 := by rw [← hE38, cm_up_nei _ _ (by decide)]; exact hz25
                have ghz40 := gv_eq hz40
                have hz41 : E36 81 1 = ai_i z26 := by rw [← hE38, cm_up_nei _ _ (by decide)]; exact hz26
                have ghz41 := gv_eq hz41
                have hz42 : E36 84 (i : Int).toNat = ai_i 0 := by rw [← hE38, cm_up_eq]
                have ghz42 := gv_eq hz42
                refine w_iinc (i := 2) (n := 1) (npc := 63) (loc' := [cr 81, ai_i n, ai_i (i + 1)]) rfl rfl (by omega) rfl ?_
                refine w_goto (pt := 48) rfl ?_
                exact ih48 (i + 1) E36 (by omega) hI37 hF39 (⟨by omega, by omega, by omega, by omega, fun k k0 k1 => by rw [← hE38, gv_ne _ _ (by omega)]; exact hv48.2.2.2.2.1 k k0 k1, fun k k0 k1 => by
      rw [← hE38]
      by_cases hk : k = i
      · rw [hk, gv_up]
      · rw [gv_ne _ _ (by omega)]; exact hv48.2.2.2.2.2 k k0 (by omega)⟩)
          exact loop48 _ (0) Eq27 (Nat.lt_succ_self _) hI27 hF27 (⟨by omega, by omega, by omega, by omega, fun k k0 k1 => hv27.2.2.2.2 k k0 (by omega), fun k k0 k1 => by omega⟩)
        · replace hc24 : ¬ ((25 : Int) ≤ i) := hc24
          refine w_aload (i := 0) (npc := 34) rfl rfl rfl ?_
          refine w_getf (i := 81) (ci := 8) (k := 3) (npc := 37) rfl (hI27.pl (by decide)) (hI27.T (by decide) rfl) (by decide) (hI27.ref 81 3 (p := 83) (by decide) (by decide) rfl) ?_
          refine w_iload (i := 2) (npc := 38) rfl rfl ?_
          refine w_const (n := 0) (npc := 39) rfl ?_
          refine w_ast (i := 83) (k := 1) (n := 25) (npc := 40) rfl (hI27.pl (by decide)) (hI27.T (by decide) rfl) (by decide) (by omega) cm_af1 ?_
          have hI45 := hI27.puti (i := 83) (k := (i : Int).toNat) (z := 0) (lo := 0) (hi := 60) (by decide) rfl (by omega)
          have hF47 := cm_fr.up (i := 83) (k := (i : Int).toNat) (v := ai_i 0) hF27 (by first | (simp; done) | (simp; omega) | (intro i k h; (try simp only at h); (try simp only); omega))
          generalize hE46 : cm_up Eq27 83 (i : Int).toNat (ai_i 0) = E44 at hI45 hF47   ⊢
          have hz48 : E44 81 0 = ai_i z22 := by rw [← hE46, cm_up_nei _ _ (by decide)]; exact hz22
          have ghz48 := gv_eq hz48
          have hz49 : E44 81 1 = ai_i z23 := by rw [← hE46, cm_up_nei _ _ (by decide)]; exact hz23
          have ghz49 := gv_eq hz49
          have hz50 : E44 83 (i : Int).toNat = ai_i 0 := by rw [← hE46, cm_up_eq]
          have ghz50 := gv_eq hz50
          refine w_iinc (i := 2) (n := 1) (npc := 43) (loc' := [cr 81, ai_i n, ai_i (i + 1)]) rfl rfl (by omega) rfl ?_
          refine w_goto (pt := 27) rfl ?_
          exact ih27 (i + 1) E44 (by omega) hI45 hF47 (⟨by omega, by omega, by omega, by omega, fun k k0 k1 => by
      rw [← hE46]
      by_cases hk : k = i
      · rw [hk, gv_up]
      · rw [gv_ne _ _ (by omega)]; exact hv27.2.2.2.2 k k0 (by omega)⟩)
    exact loop27 _ (0) E15 (Nat.lt_succ_self _) hI16 hF18 (⟨by omega, by omega, by omega, by omega, fun k k0 k1 => by omega⟩)
  · replace hc14 : ¬ (z13 ≠ (0 : Int)) := hc14
    refine w_aload (i := 0) (npc := 15) rfl rfl rfl ?_
    refine w_const (n := 1) (npc := 16) rfl ?_
    refine w_putf (i := 81) (ci := 8) (k := 0) (t := 0) (npc := 19) rfl (hI4.pl (by decide)) (hI4.T (by decide) rfl) (by decide) cm_fit0 ?_
    have hI53 := hI4.puti (i := 81) (k := 0) (z := 1) (lo := 0) (hi := 2) (by decide) rfl (by omega)
    have hF55 := cm_fr.up (i := 81) (k := 0) (v := ai_i 1) hF6 (by first | (simp; done) | (simp; omega) | (intro i k h; (try simp only at h); (try simp only); omega))
    have hR56 := rl.wr (i := 81) (k := 0) (v := ai_i 1) hR7 (by simp)
    generalize hE54 : cm_up E3 81 0 (ai_i 1) = E52 at hI53 hF55 hR56  ⊢
    have hz57 : E52 81 1 = ai_i z1 := by rw [← hE54, cm_up_ne _ _ (by decide)]; exact hz8
    have ghz57 := gv_eq hz57
    have hz58 : E52 81 34 = ai_i z2 := by rw [← hE54, cm_up_ne _ _ (by decide)]; exact hz9
    have ghz58 := gv_eq hz58
    have hz59 : E52 81 0 = ai_i 1 := by rw [← hE54, cm_up_eq]
    have ghz59 := gv_eq hz59
    exact w_vret rfl (⟨rfl, rfl, rfl, hI53, hF55, hR56, by omega⟩) (by omega) (by omega)
set_option maxRecDepth 16384 in
theorem ct_m_copyAll {sl : Int × Int} {x : ai_E} {d : Nat} {T : cm_T} {E : cm_E} {nx : Nat} (a b : Int) (hI : cs_I T E nx) (hp0 : (a = 0 ∧ b = 1600) ∨ (a = 1600 ∧ b = 0)) : cm_ct (ai_ev sl (d + 2)) x 226 [cr 81, ai_i a, ai_i b] T E nx 0 0 (fun rk rv T' E' nx' => rk = 0 ∧ T = T' ∧ nx = nx' ∧ cs_I T E' nx ∧ cm_fr (fun i k => i = 82 ∧ (166 * b).toNat ≤ k ∧ k < (166 * (b + 1600)).toNat) E E' ∧ (∀ r k : Int, 0 ≤ r → r < 1600 → 0 ≤ k → k < 166 → gv E' 82 (166 * (b + r) + k).toNat = gv E 82 (166 * (a + r) + k).toNat)) := by
  refine cm_body (M := ai_m226) rfl rfl (fun kc ks => ?_)
  show cm_wp (ai_find ai_c226 sl) (ai_ev sl (d + 1)) x (kc + 0) (ks + 0) _ 0 [cr 81, ai_i a, ai_i b, ai_un] [] T E nx kc ks
  have hF : cm_fr (fun i k => i = 82 ∧ (166 * b).toNat ≤ k ∧ k < (166 * (b + 1600)).toNat) E E := fun _ _ _ => rfl
  refine w_const (n := 0) (npc := 1) rfl ?_
  refine w_istore (i := 3) (npc := 2) (loc' := [cr 81, ai_i a, ai_i b, ai_i 0]) rfl rfl ?_
  have loop2 : ∀ (nf : Nat) (i : Int) (Eq2 : cm_E), ((1600 - i).toNat) < nf → cs_I T Eq2 nx → cm_fr (fun i k => i = 82 ∧ (166 * b).toNat ≤ k ∧ k < (166 * (b + 1600)).toNat) E Eq2 → (0 ≤ i ∧ i ≤ 1600 ∧ ∀ r k : Int, 0 ≤ r → r < i → 0 ≤ k → k < 166 → gv Eq2 82 (166 * (b + r) + k).toNat = gv E 82 (166 * (a + r) + k).toNat) → cm_wp (ai_find ai_c226 sl) (ai_ev sl (d + 1)) x (kc + 0) (ks + 0) (fun rk rv T' E' nx' => rk = 0 ∧ T = T' ∧ nx = nx' ∧ cs_I T E' nx ∧ cm_fr (fun i k => i = 82 ∧ (166 * b).toNat ≤ k ∧ k < (166 * (b + 1600)).toNat) E E' ∧ (∀ r k : Int, 0 ≤ r → r < 1600 → 0 ≤ k → k < 166 → gv E' 82 (166 * (b + r) + k).toNat = gv E 82 (166 * (a + r) + k).toNat)) 2 [cr 81, ai_i a, ai_i b, ai_i i] [] T Eq2 nx kc ks := by
    intro nf
    induction nf with
    | zero => intro i Eq2 hm; exact absurd hm (Nat.not_lt_zero _)
    | succ nf2 ih =>
      intro i Eq2 hm2 hI2 hF2 hv2
      have ih2 := ih; clear ih
      refine w_iload (i := 3) (npc := 3) rfl rfl ?_
      refine w_const (n := 1600) (npc := 6) rfl ?_
      refine w_icmp (c := .ge) (npc := 9) (pt := 25) rfl (fun hc1 => ?_) (fun hc1 => ?_)
      · replace hc1 : (1600 : Int) ≤ i := hc1
        exact w_vret rfl (⟨rfl, rfl, rfl, hI2, hF2, fun r k r0 r1 k0 k1 => hv2.2.2 r k r0 (by omega) k0 k1⟩) (by omega) (by omega)
      · replace hc1 : ¬ ((1600 : Int) ≤ i) := hc1
        refine w_aload (i := 0) (npc := 10) rfl rfl rfl ?_
        refine w_iload (i := 1) (npc := 11) rfl rfl ?_
        refine w_iload (i := 3) (npc := 12) rfl rfl ?_
        refine w_iadd (npc := 13) rfl (by omega) ?_
        refine w_iload (i := 2) (npc := 14) rfl rfl ?_
        refine w_iload (i := 3) (npc := 15) rfl rfl ?_
        refine w_iadd (npc := 16) rfl (by omega) ?_
        refine w_virt (ci := 8) (i := 81) (npc := 19) (a := [cr 81, ai_i (a + i), ai_i (b + i)]) (rest := []) rfl rfl (hI2.pl (by decide)) (hI2.T (by decide) rfl) rfl rfl rfl rfl (ct_m_copy (sl := sl) (x := x) (d := d + 0) (a + i) (b + i) hI2 (by omega) (by omega) (by omega)) (Or.inl rfl) (fun k9 v9 T9 E5 nx9 kc9 ks9 hq4 hk9 hs9 => ?_)
        obtain ⟨rfl, rfl, rfl, hI7, hG8, hz6⟩ := hq4
        obtain rfl : kc = kc9 := by omega
        obtain rfl : ks = ks9 := by omega
        have hF9 := cm_fr.trans hF2 hG8 (by first | (simp; done) | (simp; omega) | (intro i k h; (try simp only at h); (try simp only); omega))
        refine Or.inl ⟨rfl, ?_⟩
        refine w_iinc (i := 3) (n := 1) (npc := 22) (loc' := [cr 81, ai_i a, ai_i b, ai_i (i + 1)]) rfl rfl (by omega) rfl ?_
        refine w_goto (pt := 2) rfl ?_
        exact ih2 (i + 1) E5 (by omega) hI7 hF9 (⟨by omega, by omega, fun r k r0 r1 k0 k1 => by
      by_cases hr : r = i
      · rw [hr, hz6 k k0 k1]; exact (gv_fr hF2 (by first | omega | (simp only; omega))).symm
      · rw [← gv_fr hG8 (by first | omega | (simp only; omega))]; exact hv2.2.2 r k r0 (by omega) k0 k1⟩)
  exact loop2 _ (0) E (Nat.lt_succ_self _) hI hF (⟨by omega, by omega, fun r k r0 r1 k0 k1 => by omega⟩)
