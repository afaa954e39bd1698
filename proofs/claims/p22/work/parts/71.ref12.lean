set_option maxRecDepth 16384 in
theorem ct_m_count {sl : Int × Int} {x : ai_E} {d : Nat} {T : cm_T} {E : cm_E} {nx : Nat} (c : Int) (hI : cs_I T E nx) (hR : rl E) (hp0 : -2147483648 ≤ c ∧ c ≤ 2147483647) : cm_ct (ai_ev sl (d + 2)) x 154 [cr 81, ai_i c] T E nx 0 0 (fun rk rv T' E' nx' => rk = 1 ∧ T = T' ∧ nx = nx' ∧ cs_I T E' nx ∧ cm_fr (fun i k => (i = 81 ∧ (k = 0))) E E' ∧ rl E' ∧ ∃ z : Int, rv = ai_i z ∧ (True)) := by
  refine cm_body (M := ai_m154) rfl rfl (fun kc ks => ?_)
  show cm_wp (ai_find ai_c154 sl) (ai_ev sl (d + 1)) x (kc + 0) (ks + 0) _ 0 [cr 81, ai_i c] [] T E nx kc ks
  have hF : cm_fr (fun i k => (i = 81 ∧ (k = 0))) E E := fun _ _ _ => rfl
  refine w_aload (i := 0) (npc := 1) rfl rfl rfl ?_
  refine w_const (n := 0) (npc := 2) rfl ?_
  refine w_putf (i := 81) (ci := 8) (k := 0) (t := 0) (npc := 5) rfl (hI.pl (by decide)) (hI.T (by decide) rfl) (by decide) cm_fit0 ?_
  have hI2 := hI.puti (i := 81) (k := 0) (z := 0) (lo := 0) (hi := 2) (by decide) rfl (by omega)
  have hF4 := cm_fr.up (i := 81) (k := 0) (v := ai_i 0) hF (by first | (simp; done) | (simp; omega) | (intro i k h; (try simp only at h); (try simp only); omega))
  have hR5 := rl.wr (i := 81) (k := 0) (v := ai_i 0) hR (by simp)
  generalize hE3 : cm_up E 81 0 (ai_i 0) = E1 at hI2 hF4 hR5  ⊢
  have hz6 : E1 81 0 = ai_i 0 := by rw [← hE3, cm_up_eq]
  have ghz6 := gv_eq hz6
  refine w_iload (i := 1) (npc := 6) rfl rfl ?_
  rcases (show (c < 0 ∨ 6 < c) ∨ c = 0 + ((0 : Nat) : Int) ∨ c = 0 + ((1 : Nat) : Int) ∨ c = 0 + ((2 : Nat) : Int) ∨ c = 0 + ((3 : Nat) : Int) ∨ c = 0 + ((4 : Nat) : Int) ∨ c = 0 + ((5 : Nat) : Int) ∨ c = 0 + ((6 : Nat) : Int) by omega) with hs7 | hs7 | hs7 | hs7 | hs7 | hs7 | hs7 | hs7
  · refine w_swd rfl rfl hs7 ?_
    refine w_aload (i := 0) (npc := 78) rfl rfl rfl ?_
    refine w_const (n := 1) (npc := 79) rfl ?_
    refine w_virt (ci := 8) (i := 81) (npc := 82) (a := [cr 81, ai_i 1]) (rest := []) rfl rfl (hI2.pl (by decide)) (hI2.T (by decide) rfl) rfl rfl rfl rfl (ct_m_fail (sl := sl) (x := x) (d := d + 0) (1) hI2 (by omega)) (Or.inl rfl) (fun k9 v9 T9 E9 nx9 kc9 ks9 hq8 hk9 hs9 => ?_)
    obtain ⟨rfl, rfl, rfl, hI11, hG12, z10, rfl, hz10⟩ := hq8
    obtain rfl : kc = kc9 := by omega
    obtain rfl : ks = ks9 := by omega
    have hF13 := cm_fr.trans hF4 hG12 (by first | (simp; done) | (simp; omega) | (intro i k h; (try simp only at h); (try simp only); omega))
    have hR14 := rl.fr hR5 hG12 (by intro i k h; (try simp only at h); omega)
    refine Or.inr (Or.inl ⟨rfl, ?_⟩)
    exact w_iret rfl (⟨rfl, rfl, rfl, hI11, hF13, hR14, z10, rfl, trivial⟩) (by omega) (by omega)
  · refine w_swc 0 (pt := 48) rfl rfl hs7 (by decide) rfl ?_
    refine w_aload (i := 0) (npc := 49) rfl rfl rfl ?_
    obtain ⟨z15, hz15, hz15a, hz15b⟩ := hI2.int 81 1 (lo := 1) (hi := 5) (by decide) (by decide) rfl
    have ghz15 := gv_eq hz15
    have g0hz15 : gv E 81 1 = z15 := (gv_fr hF4 (by simp)).trans ghz15
    refine w_getf (i := 81) (ci := 8) (k := 1) (npc := 52) rfl (hI2.pl (by decide)) (hI2.T (by decide) rfl) (by decide) hz15 ?_
    exact w_iret rfl (⟨rfl, rfl, rfl, hI2, hF4, hR5, z15, rfl, trivial⟩) (by omega) (by omega)
  · refine w_swc 1 (pt := 53) rfl rfl hs7 (by decide) rfl ?_
    refine w_aload (i := 0) (npc := 54) rfl rfl rfl ?_
    obtain ⟨z16, hz16, hz16a, hz16b⟩ := hI2.int 81 17 (lo := 0) (hi := 400) (by decide) (by decide) rfl
    have ghz16 := gv_eq hz16
    have g0hz16 : gv E 81 17 = z16 := (gv_fr hF4 (by simp)).trans ghz16
    refine w_getf (i := 81) (ci := 8) (k := 17) (npc := 57) rfl (hI2.pl (by decide)) (hI2.T (by decide) rfl) (by decide) hz16 ?_
    exact w_iret rfl (⟨rfl, rfl, rfl, hI2, hF4, hR5, z16, rfl, trivial⟩) (by omega) (by omega)
  · refine w_swc 2 (pt := 58) rfl rfl hs7 (by decide) rfl ?_
    refine w_aload (i := 0) (npc := 59) rfl rfl rfl ?_
    refine w_getf (i := 81) (ci := 8) (k := 5) (npc := 62) rfl (hI2.pl (by decide)) (hI2.T (by decide) rfl) (by decide) (hI2.ref 81 5 (p := 85) (by decide) (by decide) rfl) ?_
    refine w_iload (i := 1) (npc := 63) rfl rfl ?_
    refine w_const (n := 2) (npc := 64) rfl ?_
    refine w_isub (npc := 65) rfl (by omega) ?_
    obtain ⟨z18, hz18, hz18a, hz18b⟩ := hI2.int 85 (c - 2 : Int).toNat (lo := (-2147483648)) (hi := 2147483647) (by decide) (show (c - 2 : Int).toNat < 3 by omega) rfl
    have ghz18 := gv_eq hz18
    have g0hz18 : gv E 85 (c - 2 : Int).toNat = z18 := (gv_fr hF4 (by simp)).trans ghz18
    refine w_ald (i := 85) (t := 1) (n := 3) (npc := 66) rfl (hI2.pl (by decide)) (hI2.T (by decide) rfl) (by decide) rfl (by omega) hz18 ?_
    exact w_iret rfl (⟨rfl, rfl, rfl, hI2, hF4, hR5, z18, rfl, trivial⟩) (by omega) (by omega)
  · refine w_swc 3 (pt := 58) rfl rfl hs7 (by decide) rfl ?_
    refine w_aload (i := 0) (npc := 59) rfl rfl rfl ?_
    refine w_getf (i := 81) (ci := 8) (k := 5) (npc := 62) rfl (hI2.pl (by decide)) (hI2.T (by decide) rfl) (by decide) (hI2.ref 81 5 (p := 85) (by decide) (by decide) rfl) ?_
    refine w_iload (i := 1) (npc := 63) rfl rfl ?_
    refine w_const (n := 2) (npc := 64) rfl ?_
    refine w_isub (npc := 65) rfl (by omega) ?_
    obtain ⟨z20, hz20, hz20a, hz20b⟩ := hI2.int 85 (c - 2 : Int).toNat (lo := (-2147483648)) (hi := 2147483647) (by decide) (show (c - 2 : Int).toNat < 3 by omega) rfl
    have ghz20 := gv_eq hz20
    have g0hz20 : gv E 85 (c - 2 : Int).toNat = z20 := (gv_fr hF4 (by simp)).trans ghz20
    refine w_ald (i := 85) (t := 1) (n := 3) (npc := 66) rfl (hI2.pl (by decide)) (hI2.T (by decide) rfl) (by decide) rfl (by omega) hz20 ?_
    exact w_iret rfl (⟨rfl, rfl, rfl, hI2, hF4, hR5, z20, rfl, trivial⟩) (by omega) (by omega)
  · refine w_swc 4 (pt := 58) rfl rfl hs7 (by decide) rfl ?_
    refine w_aload (i := 0) (npc := 59) rfl rfl rfl ?_
    refine w_getf (i := 81) (ci := 8) (k := 5) (npc := 62) rfl (hI2.pl (by decide)) (hI2.T (by decide) rfl) (by decide) (hI2.ref 81 5 (p := 85) (by decide) (by decide) rfl) ?_
    refine w_iload (i := 1) (npc := 63) rfl rfl ?_
    refine w_const (n := 2) (npc := 64) rfl ?_
    refine w_isub (npc := 65) rfl (by omega) ?_
    obtain ⟨z22, hz22, hz22a, hz22b⟩ := hI2.int 85 (c - 2 : Int).toNat (lo := (-2147483648)) (hi := 2147483647) (by decide) (show (c - 2 : Int).toNat < 3 by omega) rfl
    have ghz22 := gv_eq hz22
    have g0hz22 : gv E 85 (c - 2 : Int).toNat = z22 := (gv_fr hF4 (by simp)).trans ghz22
    refine w_ald (i := 85) (t := 1) (n := 3) (npc := 66) rfl (hI2.pl (by decide)) (hI2.T (by decide) rfl) (by decide) rfl (by omega) hz22 ?_
    exact w_iret rfl (⟨rfl, rfl, rfl, hI2, hF4, hR5, z22, rfl, trivial⟩) (by omega) (by omega)
  · refine w_swc 5 (pt := 67) rfl rfl hs7 (by decide) rfl ?_
    refine w_aload (i := 0) (npc := 68) rfl rfl rfl ?_
    obtain ⟨z23, hz23, hz23a, hz23b⟩ := hI2.int 81 24 (lo := 0) (hi := 8) (by decide) (by decide) rfl
    have ghz23 := gv_eq hz23
    have g0hz23 : gv E 81 24 = z23 := (gv_fr hF4 (by simp)).trans ghz23
    refine w_getf (i := 81) (ci := 8) (k := 24) (npc := 71) rfl (hI2.pl (by decide)) (hI2.T (by decide) rfl) (by decide) hz23 ?_
    exact w_iret rfl (⟨rfl, rfl, rfl, hI2, hF4, hR5, z23, rfl, trivial⟩) (by omega) (by omega)
  · refine w_swc 6 (pt := 72) rfl rfl hs7 (by decide) rfl ?_
    refine w_aload (i := 0) (npc := 73) rfl rfl rfl ?_
    obtain ⟨z24, hz24, hz24a, hz24b⟩ := hI2.int 81 23 (lo := 0) (hi := 12) (by decide) (by decide) rfl
    have ghz24 := gv_eq hz24
    have g0hz24 : gv E 81 23 = z24 := (gv_fr hF4 (by simp)).trans ghz24
    refine w_getf (i := 81) (ci := 8) (k := 23) (npc := 76) rfl (hI2.pl (by decide)) (hI2.T (by decide) rfl) (by decide) hz24 ?_
    exact w_iret rfl (⟨rfl, rfl, rfl, hI2, hF4, hR5, z24, rfl, trivial⟩) (by omega) (by omega)
set_option maxRecDepth 16384 in
theorem ct_m_fault {sl : Int × Int} {x : ai_E} {d : Nat} {T : cm_T} {E : cm_E} {nx : Nat}  (hI : cs_I T E nx) (hR : rl E) : cm_ct (ai_ev sl (d + 1)) x 158 [cr 81] T E nx 0 0 (fun rk rv T' E' nx' => rk = 1 ∧ T = T' ∧ nx = nx' ∧ cs_I T E' nx ∧ cm_fr (fun i k => (i = 81 ∧ (k = 0))) E E' ∧ rl E' ∧ ∃ z : Int, rv = ai_i z ∧ (True)) := by
  refine cm_body (M := ai_m158) rfl rfl (fun kc ks => ?_)
  show cm_wp (ai_find ai_c158 sl) (ai_ev sl (d + 0)) x (kc + 0) (ks + 0) _ 0 [cr 81] [] T E nx kc ks
  have hF : cm_fr (fun i k => (i = 81 ∧ (k = 0))) E E := fun _ _ _ => rfl
  refine w_aload (i := 0) (npc := 1) rfl rfl rfl ?_
  refine w_const (n := 0) (npc := 2) rfl ?_
  refine w_putf (i := 81) (ci := 8) (k := 0) (t := 0) (npc := 5) rfl (hI.pl (by decide)) (hI.T (by decide) rfl) (by decide) cm_fit0 ?_
  have hI2 := hI.puti (i := 81) (k := 0) (z := 0) (lo := 0) (hi := 2) (by decide) rfl (by omega)
  have hF4 := cm_fr.up (i := 81) (k := 0) (v := ai_i 0) hF (by first | (simp; done) | (simp; omega) | (intro i k h; (try simp only at h); (try simp only); omega))
  have hR5 := rl.wr (i := 81) (k := 0) (v := ai_i 0) hR (by simp)
  generalize hE3 : cm_up E 81 0 (ai_i 0) = E1 at hI2 hF4 hR5  ⊢
  have hz6 : E1 81 0 = ai_i 0 := by rw [← hE3, cm_up_eq]
  have ghz6 := gv_eq hz6
  refine w_aload (i := 0) (npc := 6) rfl rfl rfl ?_
  obtain ⟨z7, hz7, hz7a, hz7b⟩ := hI2.int 81 18 (lo := (-1)) (hi := 400) (by decide) (by decide) rfl
  have ghz7 := gv_eq hz7
  have g0hz7 : gv E 81 18 = z7 := (gv_fr hF4 (by simp)).trans ghz7
  refine w_getf (i := 81) (ci := 8) (k := 18) (npc := 9) rfl (hI2.pl (by decide)) (hI2.T (by decide) rfl) (by decide) hz7 ?_
  exact w_iret rfl (⟨rfl, rfl, rfl, hI2, hF4, hR5, z7, rfl, trivial⟩) (by omega) (by omega)
set_option maxRecDepth 16384 in
theorem ct_m_lacks {sl : Int × Int} {x : ai_E} {d : Nat} {T : cm_T} {E : cm_E} {nx : Nat} (p o i : Int) (hI : cs_I T E nx) (hR : rl E) (hp0 : -2147483648 ≤ p ∧ p ≤ 2147483647) (hp1 : -2147483648 ≤ o ∧ o ≤ 2147483647) (hp2 : -2147483648 ≤ i ∧ i ≤ 2147483647) : cm_ct (ai_ev sl (d + 6)) x 177 [cr 81, ai_i p, ai_i o, ai_i i] T E nx 0 0 (fun rk rv T' E' nx' => rk = 1 ∧ T = T' ∧ nx = nx' ∧ cs_I T E' nx ∧ cm_fr (fun i k => (i = 81 ∧ (k = 0))) E E' ∧ rl E' ∧ ∃ z : Int, rv = ai_i z ∧ (True)) := by
  refine cm_body (M := ai_m177) rfl rfl (fun kc ks => ?_)
  show cm_wp (ai_find ai_c177 sl) (ai_ev sl (d + 5)) x (kc + 0) (ks + 0) _ 0 [cr 81, ai_i p, ai_i o, ai_i i, ai_un] [] T E nx kc ks
  have hF : cm_fr (fun i k => (i = 81 ∧ (k = 0))) E E := fun _ _ _ => rfl
  refine w_aload (i := 0) (npc := 1) rfl rfl rfl ?_
  refine w_const (n := 0) (npc := 2) rfl ?_
  refine w_putf (i := 81) (ci := 8) (k := 0) (t := 0) (npc := 5) rfl (hI.pl (by decide)) (hI.T (by decide) rfl) (by decide) cm_fit0 ?_
  have hI2 := hI.puti (i := 81) (k := 0) (z := 0) (lo := 0) (hi := 2) (by decide) rfl (by omega)
  have hF4 := cm_fr.up (i := 81) (k := 0) (v := ai_i 0) hF (by first | (simp; done) | (simp; omega) | (intro i k h; (try simp only at h); (try simp only); omega))
  have hR5 := rl.wr (i := 81) (k := 0) (v := ai_i 0) hR (by simp)
  generalize hE3 : cm_up E 81 0 (ai_i 0) = E1 at hI2 hF4 hR5  ⊢
  have hz6 : E1 81 0 = ai_i 0 := by rw [← hE3, cm_up_eq]
  have ghz6 := gv_eq hz6
  refine w_aload (i := 0) (npc := 6) rfl rfl rfl ?_
  refine w_iload (i := 1) (npc := 7) rfl rfl ?_
  refine w_virt (ci := 8) (i := 81) (npc := 10) (a := [cr 81, ai_i p]) (rest := []) rfl rfl (hI2.pl (by decide)) (hI2.T (by decide) rfl) rfl rfl rfl rfl (ct_m_isWriter (sl := sl) (x := x) (d := d + 3) (p) hI2) (Or.inl rfl) (fun k9 v9 T9 E8 nx9 kc9 ks9 hq7 hk9 hs9 => ?_)
  obtain ⟨rfl, rfl, rfl, rfl, z9, rfl, hz9⟩ := hq7
  obtain rfl : kc = kc9 := by omega
  obtain rfl : ks = ks9 := by omega
  refine Or.inr (Or.inl ⟨rfl, ?_⟩)
  have hl10 := gv_fr hF4 (i := 81) (k := 1) (by simp)
  refine w_if (c := .eq) (npc := 13) (pt := 26) rfl (fun hc11 => ?_) (fun hc11 => ?_)
  · replace hc11 : z9 = (0 : Int) := hc11
    refine w_aload (i := 0) (npc := 27) rfl rfl rfl ?_
    refine w_const (n := 1) (npc := 28) rfl ?_
    refine w_virt (ci := 8) (i := 81) (npc := 31) (a := [cr 81, ai_i 1]) (rest := []) rfl rfl (hI2.pl (by decide)) (hI2.T (by decide) rfl) rfl rfl rfl rfl (ct_m_fail (sl := sl) (x := x) (d := d + 4) (1) hI2 (by omega)) (Or.inl rfl) (fun k9 v9 T9 E13 nx9 kc9 ks9 hq12 hk9 hs9 => ?_)
    obtain ⟨rfl, rfl, rfl, hI15, hG16, z14, rfl, hz14⟩ := hq12
    obtain rfl : kc = kc9 := by omega
    obtain rfl : ks = ks9 := by omega
    have hF17 := cm_fr.trans hF4 hG16 (by first | (simp; done) | (simp; omega) | (intro i k h; (try simp only at h); (try simp only); omega))
    have hR18 := rl.fr hR5 hG16 (by intro i k h; (try simp only at h); omega)
    refine Or.inr (Or.inl ⟨rfl, ?_⟩)
    exact w_iret rfl (⟨rfl, rfl, rfl, hI15, hF17, hR18, z14, rfl, trivial⟩) (by omega) (by omega)
  · replace hc11 : ¬ (z9 = (0 : Int)) := hc11
    refine w_aload (i := 0) (npc := 14) rfl rfl rfl ?_
    refine w_iload (i := 2) (npc := 15) rfl rfl ?_
    refine w_virt (ci := 8) (i := 81) (npc := 18) (a := [cr 81, ai_i o]) (rest := []) rfl rfl (hI2.pl (by decide)) (hI2.T (by decide) rfl) rfl rfl rfl rfl (ct_m_isWriter (sl := sl) (x := x) (d := d + 3) (o) hI2) (Or.inl rfl) (fun k9 v9 T9 E20 nx9 kc9 ks9 hq19 hk9 hs9 => ?_)
    obtain ⟨rfl, rfl, rfl, rfl, z21, rfl, hz21⟩ := hq19
    obtain rfl : kc = kc9 := by omega
    obtain rfl : ks = ks9 := by omega
    refine Or.inr (Or.inl ⟨rfl, ?_⟩)
    have hl22 := gv_fr hF4 (i := 81) (k := 1) (by simp)
    refine w_if (c := .eq) (npc := 21) (pt := 26) rfl (fun hc23 => ?_) (fun hc23 => ?_)
    · replace hc23 : z21 = (0 : Int) := hc23
      refine w_aload (i := 0) (npc := 27) rfl rfl rfl ?_
      refine w_const (n := 1) (npc := 28) rfl ?_
      refine w_virt (ci := 8) (i := 81) (npc := 31) (a := [cr 81, ai_i 1]) (rest := []) rfl rfl (hI2.pl (by decide)) (hI2.T (by decide) rfl) rfl rfl rfl rfl (ct_m_fail (sl := sl) (x := x) (d := d + 4) (1) hI2 (by omega)) (Or.inl rfl) (fun k9 v9 T9 E25 nx9 kc9 ks9 hq24 hk9 hs9 => ?_)
      obtain ⟨rfl, rfl, rfl, hI27, hG28, z26, rfl, hz26⟩ := hq24
      obtain rfl : kc = kc9 := by omega
      obtain rfl : ks = ks9 := by omega
      have hF29 := cm_fr.trans hF4 hG28 (by first | (simp; done) | (simp; omega) | (intro i k h; (try simp only at h); (try simp only); omega))
      have hR30 := rl.fr hR5 hG28 (by intro i k h; (try simp only at h); omega)
      refine Or.inr (Or.inl ⟨rfl, ?_⟩)
      exact w_iret rfl (⟨rfl, rfl, rfl, hI27, hF29, hR30, z26, rfl, trivial⟩) (by omega) (by omega)
    · replace hc23 : ¬ (z21 = (0 : Int)) := hc23
      refine w_iload (i := 3) (npc := 22) rfl rfl ?_
      refine w_const (n := (-1)) (npc := 23) rfl ?_
      refine w_icmp (c := .ge) (npc := 26) (pt := 32) rfl (fun hc31 => ?_) (fun hc31 => ?_)
      · replace hc31 : ((-1) : Int) ≤ i := hc31
        refine w_aload (i := 0) (npc := 33) rfl rfl rfl ?_
        refine w_iload (i := 1) (npc := 34) rfl rfl ?_
        refine w_iload (i := 2) (npc := 35) rfl rfl ?_
        refine w_iload (i := 3) (npc := 36) rfl rfl ?_
        refine w_virt (ci := 8) (i := 81) (npc := 39) (a := [cr 81, ai_i p, ai_i o, ai_i i]) (rest := []) rfl rfl (hI2.pl (by decide)) (hI2.T (by decide) rfl) rfl rfl rfl rfl (ct_m_lackOf (sl := sl) (x := x) (d := d + 0) (p) (o) (i) hI2 (by omega) (by omega)) (Or.inl rfl) (fun k9 v9 T9 E33 nx9 kc9 ks9 hq32 hk9 hs9 => ?_)
        obtain ⟨rfl, rfl, rfl, rfl, z34, rfl, hz34⟩ := hq32
        obtain rfl : kc = kc9 := by omega
        obtain rfl : ks = ks9 := by omega
        refine Or.inr (Or.inl ⟨rfl, ?_⟩)
        refine w_istore (i := 4) (npc := 41) (loc' := [cr 81, ai_i p, ai_i o, ai_i i, ai_i z34]) rfl rfl ?_
        refine w_iload (i := 4) (npc := 43) rfl rfl ?_
        refine w_const (n := (-1)) (npc := 44) rfl ?_
        refine w_icmp (c := .ne) (npc := 47) (pt := 55) rfl (fun hc35 => ?_) (fun hc35 => ?_)
        · replace hc35 : z34 ≠ ((-1) : Int) := hc35
          refine w_iload (i := 4) (npc := 57) rfl rfl ?_
          exact w_iret rfl (⟨rfl, rfl, rfl, hI2, hF4, hR5, z34, rfl, trivial⟩) (by omega) (by omega)
        · replace hc35 : ¬ (z34 ≠ ((-1) : Int)) := hc35
          refine w_aload (i := 0) (npc := 48) rfl rfl rfl ?_
          refine w_const (n := 1) (npc := 49) rfl ?_
          refine w_virt (ci := 8) (i := 81) (npc := 52) (a := [cr 81, ai_i 1]) (rest := []) rfl rfl (hI2.pl (by decide)) (hI2.T (by decide) rfl) rfl rfl rfl rfl (ct_m_fail (sl := sl) (x := x) (d := d + 4) (1) hI2 (by omega)) (Or.inl rfl) (fun k9 v9 T9 E37 nx9 kc9 ks9 hq36 hk9 hs9 => ?_)
          obtain ⟨rfl, rfl, rfl, hI39, hG40, z38, rfl, hz38⟩ := hq36
          obtain rfl : kc = kc9 := by omega
          obtain rfl : ks = ks9 := by omega
          have hF41 := cm_fr.trans hF4 hG40 (by first | (simp; done) | (simp; omega) | (intro i k h; (try simp only at h); (try simp only); omega))
          have hR42 := rl.fr hR5 hG40 (by intro i k h; (try simp only at h); omega)
          refine Or.inr (Or.inl ⟨rfl, ?_⟩)
          refine w_goto (pt := 57) rfl ?_
          exact w_iret rfl (⟨rfl, rfl, rfl, hI39, hF41, hR42, z38, rfl, trivial⟩) (by omega) (by omega)
      · replace hc31 : ¬ (((-1) : Int) ≤ i) := hc31
        refine w_aload (i := 0) (npc := 27) rfl rfl rfl ?_
        refine w_const (n := 1) (npc := 28) rfl ?_
        refine w_virt (ci := 8) (i := 81) (npc := 31) (a := [cr 81, ai_i 1]) (rest := []) rfl rfl (hI2.pl (by decide)) (hI2.T (by decide) rfl) rfl rfl rfl rfl (ct_m_fail (sl := sl) (x := x) (d := d + 4) (1) hI2 (by omega)) (Or.inl rfl) (fun k9 v9 T9 E44 nx9 kc9 ks9 hq43 hk9 hs9 => ?_)
        obtain ⟨rfl, rfl, rfl, hI46, hG47, z45, rfl, hz45⟩ := hq43
        obtain rfl : kc = kc9 := by omega
        obtain rfl : ks = ks9 := by omega
        have hF48 := cm_fr.trans hF4 hG47 (by first | (simp; done) | (simp; omega) | (intro i k h; (try simp only at h); (try simp only); omega))
        have hR49 := rl.fr hR5 hG47 (by intro i k h; (try simp only at h); omega)
        refine Or.inr (Or.inl ⟨rfl, ?_⟩)
        exact w_iret rfl (⟨rfl, rfl, rfl, hI46, hF48, hR49, z45, rfl, trivial⟩) (by omega) (by omega)
set_option maxRecDepth 16384 in
theorem ct_m_fewest {sl : Int × Int} {x : ai_E} {d : Nat} {T : cm_T} {E : cm_E} {nx : Nat} (p o : Int) (hI : cs_I T E nx) (hR : rl E) (hp0 : -2147483648 ≤ p ∧ p ≤ 2147483647) (hp1 : -2147483648 ≤ o ∧ o ≤ 2147483647) : cm_ct (ai_ev sl (d + 6)) x 160 [cr 81, ai_i p, ai_i o] T E nx 0 0 (fun rk rv T' E' nx' => rk = 1 ∧ T = T' ∧ nx = nx' ∧ cs_I T E' nx ∧ cm_fr (fun i k => (i = 81 ∧ (k = 0))) E E' ∧ rl E' ∧ ∃ z : Int, rv = ai_i z ∧ (True)) := by
  refine cm_body (M := ai_m160) rfl rfl (fun kc ks => ?_)
  show cm_wp (ai_find ai_c160 sl) (ai_ev sl (d + 5)) x (kc + 0) (ks + 0) _ 0 [cr 81, ai_i p, ai_i o] [] T E nx kc ks
  have hF : cm_fr (fun i k => (i = 81 ∧ (k = 0))) E E := fun _ _ _ => rfl
  refine w_aload (i := 0) (npc := 1) rfl rfl rfl ?_
  refine w_const (n := 0) (npc := 2) rfl ?_
  refine w_putf (i := 81) (ci := 8) (k := 0) (t := 0) (npc := 5) rfl (hI.pl (by decide)) (hI.T (by decide) rfl) (by decide) cm_fit0 ?_
  have hI2 := hI.puti (i := 81) (k := 0) (z := 0) (lo := 0) (hi := 2) (by decide) rfl (by omega)
  have hF4 := cm_fr.up (i := 81) (k := 0) (v := ai_i 0) hF (by first | (simp; done) | (simp; omega) | (intro i k h; (try simp only at h); (try simp only); omega))
  have hR5 := rl.wr (i := 81) (k := 0) (v := ai_i 0) hR (by simp)
  generalize hE3 : cm_up E 81 0 (ai_i 0) = E1 at hI2 hF4 hR5  ⊢
  have hz6 : E1 81 0 = ai_i 0 := by rw [← hE3, cm_up_eq]
  have ghz6 := gv_eq hz6
  refine w_aload (i := 0) (npc := 6) rfl rfl rfl ?_
  refine w_iload (i := 1) (npc := 7) rfl rfl ?_
  refine w_virt (ci := 8) (i := 81) (npc := 10) (a := [cr 81, ai_i p]) (rest := []) rfl rfl (hI2.pl (by decide)) (hI2.T (by decide) rfl) rfl rfl rfl rfl (ct_m_isWriter (sl := sl) (x := x) (d := d + 3) (p) hI2) (Or.inl rfl) (fun k9 v9 T9 E8 nx9 kc9 ks9 hq7 hk9 hs9 => ?_)
  obtain ⟨rfl, rfl, rfl, rfl, z9, rfl, hz9⟩ := hq7
  obtain rfl : kc = kc9 := by omega
  obtain rfl : ks = ks9 := by omega
  refine Or.inr (Or.inl ⟨rfl, ?_⟩)
  have hl10 := gv_fr hF4 (i := 81) (k := 1) (by simp)
  refine w_if (c := .eq) (npc := 13) (pt := 39) rfl (fun hc11 => ?_) (fun hc11 => ?_)
  · replace hc11 : z9 = (0 : Int) := hc11
    refine w_aload (i := 0) (npc := 40) rfl rfl rfl ?_
    refine w_const (n := 1) (npc := 41) rfl ?_
    refine w_virt (ci := 8) (i := 81) (npc := 44) (a := [cr 81, ai_i 1]) (rest := []) rfl rfl (hI2.pl (by decide)) (hI2.T (by decide) rfl) rfl rfl rfl rfl (ct_m_fail (sl := sl) (x := x) (d := d + 4) (1) hI2 (by omega)) (Or.inl rfl) (fun k9 v9 T9 E13 nx9 kc9 ks9 hq12 hk9 hs9 => ?_)
    obtain ⟨rfl, rfl, rfl, hI15, hG16, z14, rfl, hz14⟩ := hq12
    obtain rfl : kc = kc9 := by omega
    obtain rfl : ks = ks9 := by omega
    have hF17 := cm_fr.trans hF4 hG16 (by first | (simp; done) | (simp; omega) | (intro i k h; (try simp only at h); (try simp only); omega))
    have hR18 := rl.fr hR5 hG16 (by intro i k h; (try simp only at h); omega)
    refine Or.inr (Or.inl ⟨rfl, ?_⟩)
    exact w_iret rfl (⟨rfl, rfl, rfl, hI15, hF17, hR18, z14, rfl, trivial⟩) (by omega) (by omega)
  · replace hc11 : ¬ (z9 = (0 : Int)) := hc11
    refine w_aload (i := 0) (npc := 14) rfl rfl rfl ?_
    refine w_iload (i := 2) (npc := 15) rfl rfl ?_
    refine w_virt (ci := 8) (i := 81) (npc := 18) (a := [cr 81, ai_i o]) (rest := []) rfl rfl (hI2.pl (by decide)) (hI2.T (by decide) rfl) rfl rfl rfl rfl (ct_m_isWriter (sl := sl) (x := x) (d := d + 3) (o) hI2) (Or.inl rfl) (fun k9 v9 T9 E20 nx9 kc9 ks9 hq19 hk9 hs9 => ?_)
    obtain ⟨rfl, rfl, rfl, rfl, z21, rfl, hz21⟩ := hq19
    obtain rfl : kc = kc9 := by omega
    obtain rfl : ks = ks9 := by omega
    refine Or.inr (Or.inl ⟨rfl, ?_⟩)
    have hl22 := gv_fr hF4 (i := 81) (k := 1) (by simp)
    refine w_if (c := .eq) (npc := 21) (pt := 39) rfl (fun hc23 => ?_) (fun hc23 => ?_)
    · replace hc23 : z21 = (0 : Int) := hc23
      refine w_aload (i := 0) (npc := 40) rfl rfl rfl ?_
      refine w_const (n := 1) (npc := 41) rfl ?_
      refine w_virt (ci := 8) (i := 81) (npc := 44) (a := [cr 81, ai_i 1]) (rest := []) rfl rfl (hI2.pl (by decide)) (hI2.T (by decide) rfl) rfl rfl rfl rfl (ct_m_fail (sl := sl) (x := x) (d := d + 4) (1) hI2 (by omega)) (Or.inl rfl) (fun k9 v9 T9 E25 nx9 kc9 ks9 hq24 hk9 hs9 => ?_)
      obtain ⟨rfl, rfl, rfl, hI27, hG28, z26, rfl, hz26⟩ := hq24
      obtain rfl : kc = kc9 := by omega
      obtain rfl : ks = ks9 := by omega
      have hF29 := cm_fr.trans hF4 hG28 (by first | (simp; done) | (simp; omega) | (intro i k h; (try simp only at h); (try simp only); omega))
      have hR30 := rl.fr hR5 hG28 (by intro i k h; (try simp only at h); omega)
      refine Or.inr (Or.inl ⟨rfl, ?_⟩)
      exact w_iret rfl (⟨rfl, rfl, rfl, hI27, hF29, hR30, z26, rfl, trivial⟩) (by omega) (by omega)
    · replace hc23 : ¬ (z21 = (0 : Int)) := hc23
      refine w_aload (i := 0) (npc := 22) rfl rfl rfl ?_
      refine w_iload (i := 1) (npc := 23) rfl rfl ?_
      refine w_iload (i := 2) (npc := 24) rfl rfl ?_
      refine w_const (n := (-1)) (npc := 25) rfl ?_
      refine w_virt (ci := 8) (i := 81) (npc := 28) (a := [cr 81, ai_i p, ai_i o, ai_i ((-1))]) (rest := []) rfl rfl (hI2.pl (by decide)) (hI2.T (by decide) rfl) rfl rfl rfl rfl (ct_m_lackOf (sl := sl) (x := x) (d := d + 0) (p) (o) ((-1)) hI2 (by omega) (by omega)) (Or.inl rfl) (fun k9 v9 T9 E32 nx9 kc9 ks9 hq31 hk9 hs9 => ?_)
      obtain ⟨rfl, rfl, rfl, rfl, z33, rfl, hz33⟩ := hq31
      obtain rfl : kc = kc9 := by omega
      obtain rfl : ks = ks9 := by omega
      refine Or.inr (Or.inl ⟨rfl, ?_⟩)
      refine w_aload (i := 0) (npc := 29) rfl rfl rfl ?_
      refine w_iload (i := 2) (npc := 30) rfl rfl ?_
      refine w_iload (i := 1) (npc := 31) rfl rfl ?_
      refine w_const (n := (-1)) (npc := 32) rfl ?_
      refine w_virt (ci := 8) (i := 81) (npc := 35) (a := [cr 81, ai_i o, ai_i p, ai_i ((-1))]) (rest := [ai_i z33]) rfl rfl (hI2.pl (by decide)) (hI2.T (by decide) rfl) rfl rfl rfl rfl (ct_m_lackOf (sl := sl) (x := x) (d := d + 0) (o) (p) ((-1)) hI2 (by omega) (by omega)) (Or.inl rfl) (fun k9 v9 T9 E35 nx9 kc9 ks9 hq34 hk9 hs9 => ?_)
      obtain ⟨rfl, rfl, rfl, rfl, z36, rfl, hz36⟩ := hq34
      obtain rfl : kc = kc9 := by omega
      obtain rfl : ks = ks9 := by omega
      refine Or.inr (Or.inl ⟨rfl, ?_⟩)
      refine w_iadd (npc := 36) rfl (by omega) ?_
      refine w_goto (pt := 44) rfl ?_
      exact w_iret rfl (⟨rfl, rfl, rfl, hI2, hF4, hR5, z33 + z36, rfl, trivial⟩) (by omega) (by omega)
set_option maxRecDepth 16384 in
theorem ct_m_alike {sl : Int × Int} {x : ai_E} {d : Nat} {T : cm_T} {E : cm_E} {nx : Nat} (p o : Int) (hI : cs_I T E nx) (hR : rl E) (hp0 : -2147483648 ≤ p ∧ p ≤ 2147483647) (hp1 : -2147483648 ≤ o ∧ o ≤ 2147483647) : cm_ct (ai_ev sl (d + 6)) x 148 [cr 81, ai_i p, ai_i o] T E nx 0 0 (fun rk rv T' E' nx' => rk = 1 ∧ T = T' ∧ nx = nx' ∧ cs_I T E' nx ∧ cm_fr (fun i k => (i = 81 ∧ (k = 0))) E E' ∧ rl E' ∧ ∃ z : Int, rv = ai_i z ∧ (True)) := by
  refine cm_body (M := ai_m148) rfl rfl (fun kc ks => ?_)
  show cm_wp (ai_find ai_c148 sl) (ai_ev sl (d + 5)) x (kc + 0) (ks + 0) _ 0 [cr 81, ai_i p, ai_i o] [] T E nx kc ks
  have hF : cm_fr (fun i k => (i = 81 ∧ (k = 0))) E E := fun _ _ _ => rfl
  refine w_aload (i := 0) (npc := 1) rfl rfl rfl ?_
  refine w_const (n := 0) (npc := 2) rfl ?_
  refine w_putf (i := 81) (ci := 8) (k := 0) (t := 0) (npc := 5) rfl (hI.pl (by decide)) (hI.T (by decide) rfl) (by decide) cm_fit0 ?_
  have hI2 := hI.puti (i := 81) (k := 0) (z := 0) (lo := 0) (hi := 2) (by decide) rfl (by omega)
  have hF4 := cm_fr.up (i := 81) (k := 0) (v := ai_i 0) hF (by first | (simp; done) | (simp; omega) | (intro i k h; (try simp only at h); (try simp only); omega))
  have hR5 := rl.wr (i := 81) (k := 0) (v := ai_i 0) hR (by simp)
  generalize hE3 : cm_up E 81 0 (ai_i 0) = E1 at hI2 hF4 hR5  ⊢
  have hz6 : E1 81 0 = ai_i 0 := by rw [← hE3, cm_up_eq]
  have ghz6 := gv_eq hz6
  refine w_aload (i := 0) (npc := 6) rfl rfl rfl ?_
  refine w_iload (i := 1) (npc := 7) rfl rfl ?_
  refine w_virt (ci := 8) (i := 81) (npc := 10) (a := [cr 81, ai_i p]) (rest := []) rfl rfl (hI2.pl (by decide)) (hI2.T (by decide) rfl) rfl rfl rfl rfl (ct_m_isWriter (sl := sl) (x := x) (d := d + 3) (p) hI2) (Or.inl rfl) (fun k9 v9 T9 E8 nx9 kc9 ks9 hq7 hk9 hs9 => ?_)
  obtain ⟨rfl, rfl, rfl, rfl, z9, rfl, hz9⟩ := hq7
  obtain rfl : kc = kc9 := by omega
  obtain rfl : ks = ks9 := by omega
  refine Or.inr (Or.inl ⟨rfl, ?_⟩)
  have hl10 := gv_fr hF4 (i := 81) (k := 1) (by simp)
  refine w_if (c := .eq) (npc := 13) (pt := 21) rfl (fun hc11 => ?_) (fun hc11 => ?_)
  · replace hc11 : z9 = (0 : Int) := hc11
    refine w_aload (i := 0) (npc := 22) rfl rfl rfl ?_
    refine w_const (n := 1) (npc := 23) rfl ?_
    refine w_putf (i := 81) (ci := 8) (k := 0) (t := 0) (npc := 26) rfl (hI2.pl (by decide)) (hI2.T (by decide) rfl) (by decide) cm_fit0 ?_
    have hI13 := hI2.puti (i := 81) (k := 0) (z := 1) (lo := 0) (hi := 2) (by decide) rfl (by omega)
    have hF15 := cm_fr.up (i := 81) (k := 0) (v := ai_i 1) hF4 (by first | (simp; done) | (simp; omega) | (intro i k h; (try simp only at h); (try simp only); omega))
    have hR16 := rl.wr (i := 81) (k := 0) (v := ai_i 1) hR5 (by simp)
    generalize hE14 : cm_up E1 81 0 (ai_i 1) = E12 at hI13 hF15 hR16  ⊢
    have hz17 : E12 81 0 = ai_i 1 := by rw [← hE14, cm_up_eq]
    have ghz17 := gv_eq hz17
    refine w_const (n := 0) (npc := 27) rfl ?_
    exact w_zret rfl (by omega) (⟨rfl, rfl, rfl, hI13, hF15, hR16, 0, rfl, trivial⟩) (by omega) (by omega)
  · replace hc11 : ¬ (z9 = (0 : Int)) := hc11
    refine w_aload (i := 0) (npc := 14) rfl rfl rfl ?_
    refine w_iload (i := 2) (npc := 15) rfl rfl ?_
    refine w_virt (ci := 8) (i := 81) (npc := 18) (a := [cr 81, ai_i o]) (rest := []) rfl rfl (hI2.pl (by decide)) (hI2.T (by decide) rfl) rfl rfl rfl rfl (ct_m_isWriter (sl := sl) (x := x) (d := d + 3) (o) hI2) (Or.inl rfl) (fun k9 v9 T9 E19 nx9 kc9 ks9 hq18 hk9 hs9 => ?_)
    obtain ⟨rfl, rfl, rfl, rfl, z20, rfl, hz20⟩ := hq18
    obtain rfl : kc = kc9 := by omega
    obtain rfl : ks = ks9 := by omega
    refine Or.inr (Or.inl ⟨rfl, ?_⟩)
    have hl21 := gv_fr hF4 (i := 81) (k := 1) (by simp)
    refine w_if (c := .ne) (npc := 21) (pt := 28) rfl (fun hc22 => ?_) (fun hc22 => ?_)
    · replace hc22 : z20 ≠ (0 : Int) := hc22
      refine w_aload (i := 0) (npc := 29) rfl rfl rfl ?_
      refine w_iload (i := 1) (npc := 30) rfl rfl ?_
      refine w_iload (i := 2) (npc := 31) rfl rfl ?_
      refine w_const (n := (-1)) (npc := 32) rfl ?_
      refine w_virt (ci := 8) (i := 81) (npc := 35) (a := [cr 81, ai_i p, ai_i o, ai_i ((-1))]) (rest := []) rfl rfl (hI2.pl (by decide)) (hI2.T (by decide) rfl) rfl rfl rfl rfl (ct_m_lackOf (sl := sl) (x := x) (d := d + 0) (p) (o) ((-1)) hI2 (by omega) (by omega)) (Or.inl rfl) (fun k9 v9 T9 E24 nx9 kc9 ks9 hq23 hk9 hs9 => ?_)
      obtain ⟨rfl, rfl, rfl, rfl, z25, rfl, hz25⟩ := hq23
      obtain rfl : kc = kc9 := by omega
      obtain rfl : ks = ks9 := by omega
      refine Or.inr (Or.inl ⟨rfl, ?_⟩)
      refine w_aload (i := 0) (npc := 36) rfl rfl rfl ?_
      refine w_iload (i := 2) (npc := 37) rfl rfl ?_
      refine w_iload (i := 1) (npc := 38) rfl rfl ?_
      refine w_const (n := (-1)) (npc := 39) rfl ?_
      refine w_virt (ci := 8) (i := 81) (npc := 42) (a := [cr 81, ai_i o, ai_i p, ai_i ((-1))]) (rest := [ai_i z25]) rfl rfl (hI2.pl (by decide)) (hI2.T (by decide) rfl) rfl rfl rfl rfl (ct_m_lackOf (sl := sl) (x := x) (d := d + 0) (o) (p) ((-1)) hI2 (by omega) (by omega)) (Or.inl rfl) (fun k9 v9 T9 E27 nx9 kc9 ks9 hq26 hk9 hs9 => ?_)
      obtain ⟨rfl, rfl, rfl, rfl, z28, rfl, hz28⟩ := hq26
      obtain rfl : kc = kc9 := by omega
      obtain rfl : ks = ks9 := by omega
      refine Or.inr (Or.inl ⟨rfl, ?_⟩)
      refine w_iadd (npc := 43) rfl (by omega) ?_
      refine w_if (c := .ne) (npc := 46) (pt := 50) rfl (fun hc30 => ?_) (fun hc30 => ?_)
      · replace hc30 : z25 + z28 ≠ (0 : Int) := hc30
        refine w_const (n := 0) (npc := 51) rfl ?_
        exact w_zret rfl (by omega) (⟨rfl, rfl, rfl, hI2, hF4, hR5, 0, rfl, trivial⟩) (by omega) (by omega)
      · replace hc30 : ¬ (z25 + z28 ≠ (0 : Int)) := hc30
        refine w_const (n := 1) (npc := 47) rfl ?_
        refine w_goto (pt := 51) rfl ?_
        exact w_zret rfl (by omega) (⟨rfl, rfl, rfl, hI2, hF4, hR5, 1, rfl, trivial⟩) (by omega) (by omega)
    · replace hc22 : ¬ (z20 ≠ (0 : Int)) := hc22
      refine w_aload (i := 0) (npc := 22) rfl rfl rfl ?_
      refine w_const (n := 1) (npc := 23) rfl ?_
      refine w_putf (i := 81) (ci := 8) (k := 0) (t := 0) (npc := 26) rfl (hI2.pl (by decide)) (hI2.T (by decide) rfl) (by decide) cm_fit0 ?_
      have hI32 := hI2.puti (i := 81) (k := 0) (z := 1) (lo := 0) (hi := 2) (by decide) rfl (by omega)
      have hF34 := cm_fr.up (i := 81) (k := 0) (v := ai_i 1) hF4 (by first | (simp; done) | (simp; omega) | (intro i k h; (try simp only at h); (try simp only); omega))
      have hR35 := rl.wr (i := 81) (k := 0) (v := ai_i 1) hR5 (by simp)
      generalize hE33 : cm_up E1 81 0 (ai_i 1) = E31 at hI32 hF34 hR35  ⊢
      have hz36 : E31 81 0 = ai_i 1 := by rw [← hE33, cm_up_eq]
      have ghz36 := gv_eq hz36
      refine w_const (n := 0) (npc := 27) rfl ?_
      exact w_zret rfl (by omega) (⟨rfl, rfl, rfl, hI32, hF34, hR35, 0, rfl, trivial⟩) (by omega) (by omega)
set_option maxRecDepth 16384 in
theorem ct_m_page {sl : Int × Int} {x : ai_E} {d : Nat} {T : cm_T} {E : cm_E} {nx : Nat} (p c : Int) (hI : cs_I T E nx) (hR : rl E) (hp0 : -2147483648 ≤ p ∧ p ≤ 2147483647) (hp1 : -2147483648 ≤ c ∧ c ≤ 2147483647) : cm_ct (ai_ev sl (d + 8)) x 193 [cr 81, ai_i p, ai_i c] T E nx 0 0 (fun rk rv T' E' nx' => rk = 1 ∧ T = T' ∧ nx = nx' ∧ cs_I T E' nx ∧ cm_fr (fun i k => (i = 81 ∧ (k = 0 ∨ k = 12 ∨ k = 13)) ∨ i = 86 ∨ i = 87 ∨ i = 88 ∨ i = 89 ∨ i = 90 ∨ i = 91) E E' ∧ rl E' ∧ ∃ z : Int, rv = ai_i z ∧ (True)) := by
  refine cm_body (M := ai_m193) rfl rfl (fun kc ks => ?_)
  show cm_wp (ai_find ai_c193 sl) (ai_ev sl (d + 7)) x (kc + 0) (ks + 0) _ 0 [cr 81, ai_i p, ai_i c] [] T E nx kc ks
  have hF : cm_fr (fun i k => (i = 81 ∧ (k = 0 ∨ k = 12 ∨ k = 13)) ∨ i = 86 ∨ i = 87 ∨ i = 88 ∨ i = 89 ∨ i = 90 ∨ i = 91) E E := fun _ _ _ => rfl
  refine w_aload (i := 0) (npc := 1) rfl rfl rfl ?_
  refine w_const (n := 0) (npc := 2) rfl ?_
  refine w_putf (i := 81) (ci := 8) (k := 0) (t := 0) (npc := 5) rfl (hI.pl (by decide)) (hI.T (by decide) rfl) (by decide) cm_fit0 ?_
  have hI2 := hI.puti (i := 81) (k := 0) (z := 0) (lo := 0) (hi := 2) (by decide) rfl (by omega)
  have hF4 := cm_fr.up (i := 81) (k := 0) (v := ai_i 0) hF (by first | (simp; done) | (simp; omega) | (intro i k h; (try simp only at h); (try simp only); omega))
  have hR5 := rl.wr (i := 81) (k := 0) (v := ai_i 0) hR (by simp)
  generalize hE3 : cm_up E 81 0 (ai_i 0) = E1 at hI2 hF4 hR5  ⊢
  have hz6 : E1 81 0 = ai_i 0 := by rw [← hE3, cm_up_eq]
  have ghz6 := gv_eq hz6
  refine w_aload (i := 0) (npc := 6) rfl rfl rfl ?_
  refine w_iload (i := 1) (npc := 7) rfl rfl ?_
  obtain ⟨z7, hz7, hz7a, hz7b⟩ := hI2.int 81 1 (lo := 1) (hi := 5) (by decide) (by decide) rfl
  have ghz7 := gv_eq hz7
  have g0hz7 : gv E 81 1 = z7 := (gv_fr hF4 (by simp)).trans ghz7
  refine w_virt (ci := 8) (i := 81) (npc := 10) (a := [cr 81, ai_i p]) (rest := []) rfl rfl (hI2.pl (by decide)) (hI2.T (by decide) rfl) rfl rfl rfl rfl (ct_m_isWriter (sl := sl) (x := x) (d := d + 5) (p) hI2) (Or.inl rfl) (fun k9 v9 T9 E9 nx9 kc9 ks9 hq8 hk9 hs9 => ?_)
  obtain ⟨rfl, rfl, rfl, rfl, z10, rfl, hz10⟩ := hq8
  obtain rfl : kc = kc9 := by omega
  obtain rfl : ks = ks9 := by omega
  refine Or.inr (Or.inl ⟨rfl, ?_⟩)
  refine w_if (c := .ne) (npc := 13) (pt := 19) rfl (fun hc11 => ?_) (fun hc11 => ?_)
  · replace hc11 : z10 ≠ (0 : Int) := hc11
    refine w_iload (i := 2) (npc := 20) rfl rfl ?_
    refine w_const (n := 10) (npc := 22) rfl ?_
    refine w_icmp (c := .lt) (npc := 25) (pt := 58) rfl (fun hc12 => ?_) (fun hc12 => ?_)
    · replace hc12 : c < (10 : Int) := hc12
      refine w_aload (i := 0) (npc := 59) rfl rfl rfl ?_
      refine w_iload (i := 1) (npc := 60) rfl rfl ?_
      refine w_virt (ci := 8) (i := 81) (npc := 63) (a := [cr 81, ai_i p]) (rest := []) rfl rfl (hI2.pl (by decide)) (hI2.T (by decide) rfl) rfl rfl rfl rfl (ct_m_tellPage (sl := sl) (x := x) (d := d + 0) (p) hI2 hR5 (by omega)) (Or.inl rfl) (fun k9 v9 T9 E14 nx9 kc9 ks9 hq13 hk9 hs9 => ?_)
      obtain ⟨rfl, rfl, rfl, hI16, hG17, hR18, hz15⟩ := hq13
      obtain rfl : kc = kc9 := by omega
      obtain rfl : ks = ks9 := by omega
      have hF19 := cm_fr.trans hF4 hG17 (by first | (simp; done) | (simp; omega) | (intro i k h; (try simp only at h); (try simp only); omega))
      have hx20 : tx E14 := hz15
      have hz21 : E14 81 0 = ai_i 0 := (hG17 81 0 (by simp)).trans hz6
      have ghz21 := gv_eq hz21
      have hz22 : E14 81 1 = ai_i z7 := (hG17 81 1 (by simp)).trans hz7
      have ghz22 := gv_eq hz22
      refine Or.inl ⟨rfl, ?_⟩
      refine w_iload (i := 2) (npc := 64) rfl rfl ?_
      rcases (show (c < 0 ∨ 4 < c) ∨ c = 0 + ((0 : Nat) : Int) ∨ c = 0 + ((1 : Nat) : Int) ∨ c = 0 + ((2 : Nat) : Int) ∨ c = 0 + ((3 : Nat) : Int) ∨ c = 0 + ((4 : Nat) : Int) by omega) with hs23 | hs23 | hs23 | hs23 | hs23 | hs23
      · refine w_swd rfl rfl hs23 ?_
        refine w_aload (i := 0) (npc := 130) rfl rfl rfl ?_
        refine w_const (n := 1) (npc := 131) rfl ?_
        refine w_virt (ci := 8) (i := 81) (npc := 134) (a := [cr 81, ai_i 1]) (rest := []) rfl rfl (hI16.pl (by decide)) (hI16.T (by decide) rfl) rfl rfl rfl rfl (ct_m_fail (sl := sl) (x := x) (d := d + 6) (1) hI16 (by omega)) (Or.inl rfl) (fun k9 v9 T9 E25 nx9 kc9 ks9 hq24 hk9 hs9 => ?_)
        obtain ⟨rfl, rfl, rfl, hI27, hG28, z26, rfl, hz26⟩ := hq24
        obtain rfl : kc = kc9 := by omega
        obtain rfl : ks = ks9 := by omega
        have hF29 := cm_fr.trans hF19 hG28 (by first | (simp; done) | (simp; omega) | (intro i k h; (try simp only at h); (try simp only); omega))
        have hR30 := rl.fr hR18 hG28 (by intro i k h; (try simp only at h); omega)
        have hx31 := tx.fr hx20 hG28 (by intro i k h; (try simp only at h); omega)
        have hz32 : E25 81 1 = ai_i z7 := (hG28 81 1 (by simp)).trans hz22
        have ghz32 := gv_eq hz32
        refine Or.inr (Or.inl ⟨rfl, ?_⟩)
        exact w_iret rfl (⟨rfl, rfl, rfl, hI27, hF29, hR30, z26, rfl, trivial⟩) (by omega) (by omega)
      · refine w_swc 0 (pt := 100) rfl rfl hs23 (by decide) rfl ?_
        refine w_aload (i := 0) (npc := 101) rfl rfl rfl ?_
        obtain ⟨z33, hz33, hz33a, hz33b⟩ := hI16.int 81 12 (lo := 0) (hi := 300) (by decide) (by decide) rfl
        have ghz33 := gv_eq hz33
        refine w_getf (i := 81) (ci := 8) (k := 12) (npc := 104) rfl (hI16.pl (by decide)) (hI16.T (by decide) rfl) (by decide) hz33 ?_
        exact w_iret rfl (⟨rfl, rfl, rfl, hI16, hF19, hR18, z33, rfl, trivial⟩) (by omega) (by omega)
      · refine w_swc 1 (pt := 105) rfl rfl hs23 (by decide) rfl ?_
        refine w_aload (i := 0) (npc := 106) rfl rfl rfl ?_
        obtain ⟨z34, hz34, hz34a, hz34b⟩ := hI16.int 81 13 (lo := 0) (hi := 300) (by decide) (by decide) rfl
        have ghz34 := gv_eq hz34
        refine w_getf (i := 81) (ci := 8) (k := 13) (npc := 109) rfl (hI16.pl (by decide)) (hI16.T (by decide) rfl) (by decide) hz34 ?_
        exact w_iret rfl (⟨rfl, rfl, rfl, hI16, hF19, hR18, z34, rfl, trivial⟩) (by omega) (by omega)
      · refine w_swc 2 (pt := 110) rfl rfl hs23 (by decide) rfl ?_
        refine w_aload (i := 0) (npc := 111) rfl rfl rfl ?_
        refine w_getf (i := 81) (ci := 8) (k := 4) (npc := 114) rfl (hI16.pl (by decide)) (hI16.T (by decide) rfl) (by decide) (hI16.ref 81 4 (p := 84) (by decide) (by decide) rfl) ?_
        refine w_iload (i := 1) (npc := 115) rfl rfl ?_
        obtain ⟨z35, hz35, hz35a, hz35b⟩ := hI16.int 84 (p : Int).toNat (lo := 0) (hi := 20) (by decide) (show (p : Int).toNat < 5 by omega) rfl
        have ghz35 := gv_eq hz35
        have g0hz35 : gv E 84 (p : Int).toNat = z35 := (gv_fr hF19 (by simp)).trans ghz35
        refine w_ald (i := 84) (t := 1) (n := 5) (npc := 116) rfl (hI16.pl (by decide)) (hI16.T (by decide) rfl) (by decide) rfl (by omega) hz35 ?_
        exact w_iret rfl (⟨rfl, rfl, rfl, hI16, hF19, hR18, z35, rfl, trivial⟩) (by omega) (by omega)
      · refine w_swc 3 (pt := 117) rfl rfl hs23 (by decide) rfl ?_
        refine w_aload (i := 0) (npc := 118) rfl rfl rfl ?_
        refine w_iload (i := 1) (npc := 119) rfl rfl ?_
        refine w_virt (ci := 8) (i := 81) (npc := 122) (a := [cr 81, ai_i p]) (rest := []) rfl rfl (hI16.pl (by decide)) (hI16.T (by decide) rfl) rfl rfl rfl rfl (ct_m_goneOf (sl := sl) (x := x) (d := d + 3) (p) hI16 (by omega)) (Or.inl rfl) (fun k9 v9 T9 E37 nx9 kc9 ks9 hq36 hk9 hs9 => ?_)
        obtain ⟨rfl, rfl, rfl, rfl, z38, rfl, hz38⟩ := hq36
        obtain rfl : kc = kc9 := by omega
        obtain rfl : ks = ks9 := by omega
        refine Or.inr (Or.inl ⟨rfl, ?_⟩)
        exact w_iret rfl (⟨rfl, rfl, rfl, hI16, hF19, hR18, z38, rfl, trivial⟩) (by omega) (by omega)
      · refine w_swc 4 (pt := 123) rfl rfl hs23 (by decide) rfl ?_
        refine w_aload (i := 0) (npc := 124) rfl rfl rfl ?_
        refine w_iload (i := 1) (npc := 125) rfl rfl ?_
        refine w_virt (ci := 8) (i := 81) (npc := 128) (a := [cr 81, ai_i p]) (rest := []) rfl rfl (hI16.pl (by decide)) (hI16.T (by decide) rfl) rfl rfl rfl rfl (ct_m_ageOf (sl := sl) (x := x) (d := d + 5) (p) hI16 (by omega) hR18.1) (Or.inl rfl) (fun k9 v9 T9 E40 nx9 kc9 ks9 hq39 hk9 hs9 => ?_)
        obtain ⟨rfl, rfl, rfl, rfl, z41, rfl, hz41⟩ := hq39
        obtain rfl : kc = kc9 := by omega
        obtain rfl : ks = ks9 := by omega
        refine Or.inr (Or.inl ⟨rfl, ?_⟩)
        exact w_iret rfl (⟨rfl, rfl, rfl, hI16, hF19, hR18, z41, rfl, trivial⟩) (by omega) (by omega)
    · replace hc12 : ¬ (c < (10 : Int)) := hc12
      refine w_aload (i := 0) (npc := 26) rfl rfl rfl ?_
      refine w_iload (i := 2) (npc := 27) rfl rfl ?_
      refine w_const (n := 10) (npc := 29) rfl ?_
      refine w_isub (npc := 30) rfl (by omega) ?_
      refine w_virt (ci := 8) (i := 81) (npc := 33) (a := [cr 81, ai_i (c - 10)]) (rest := []) rfl rfl (hI2.pl (by decide)) (hI2.T (by decide) rfl) rfl rfl rfl rfl (ct_m_isWriter (sl := sl) (x := x) (d := d + 5) (c - 10) hI2) (Or.inl rfl) (fun k9 v9 T9 E44 nx9 kc9 ks9 hq43 hk9 hs9 => ?_)
      obtain ⟨rfl, rfl, rfl, rfl, z45, rfl, hz45⟩ := hq43
      obtain rfl : kc = kc9 := by omega
      obtain rfl : ks = ks9 := by omega
      refine Or.inr (Or.inl ⟨rfl, ?_⟩)
      refine w_if (c := .eq) (npc := 36) (pt := 52) rfl (fun hc46 => ?_) (fun hc46 => ?_)
      · replace hc46 : z45 = (0 : Int) := hc46
        refine w_aload (i := 0) (npc := 53) rfl rfl rfl ?_
        refine w_const (n := 1) (npc := 54) rfl ?_
        refine w_virt (ci := 8) (i := 81) (npc := 57) (a := [cr 81, ai_i 1]) (rest := []) rfl rfl (hI2.pl (by decide)) (hI2.T (by decide) rfl) rfl rfl rfl rfl (ct_m_fail (sl := sl) (x := x) (d := d + 6) (1) hI2 (by omega)) (Or.inl rfl) (fun k9 v9 T9 E48 nx9 kc9 ks9 hq47 hk9 hs9 => ?_)
        obtain ⟨rfl, rfl, rfl, hI50, hG51, z49, rfl, hz49⟩ := hq47
        obtain rfl : kc = kc9 := by omega
        obtain rfl : ks = ks9 := by omega
        have hF52 := cm_fr.trans hF4 hG51 (by first | (simp; done) | (simp; omega) | (intro i k h; (try simp only at h); (try simp only); omega))
        have hR53 := rl.fr hR5 hG51 (by intro i k h; (try simp only at h); omega)
        have hz54 : E48 81 1 = ai_i z7 := (hG51 81 1 (by simp)).trans hz7
        have ghz54 := gv_eq hz54
        refine Or.inr (Or.inl ⟨rfl, ?_⟩)
        exact w_iret rfl (⟨rfl, rfl, rfl, hI50, hF52, hR53, z49, rfl, trivial⟩) (by omega) (by omega)
      · replace hc46 : ¬ (z45 = (0 : Int)) := hc46
        refine w_aload (i := 0) (npc := 37) rfl rfl rfl ?_
        refine w_getf (i := 81) (ci := 8) (k := 3) (npc := 40) rfl (hI2.pl (by decide)) (hI2.T (by decide) rfl) (by decide) (hI2.ref 81 3 (p := 83) (by decide) (by decide) rfl) ?_
        refine w_const (n := 5) (npc := 41) rfl ?_
        refine w_iload (i := 1) (npc := 42) rfl rfl ?_
        refine w_imul (npc := 43) rfl (by omega) ?_
        refine w_iload (i := 2) (npc := 44) rfl rfl ?_
        refine w_iadd (npc := 45) rfl (by omega) ?_
        refine w_const (n := 10) (npc := 47) rfl ?_
        refine w_isub (npc := 48) rfl (by omega) ?_
        obtain ⟨z58, hz58, hz58a, hz58b⟩ := hI2.int 83 (5 * p + c - 10 : Int).toNat (lo := 0) (hi := 60) (by decide) (show (5 * p + c - 10 : Int).toNat < 25 by omega) rfl
        have ghz58 := gv_eq hz58
        have g0hz58 : gv E 83 (5 * p + c - 10 : Int).toNat = z58 := (gv_fr hF4 (by simp)).trans ghz58
        refine w_ald (i := 83) (t := 1) (n := 25) (npc := 49) rfl (hI2.pl (by decide)) (hI2.T (by decide) rfl) (by decide) rfl (by omega) hz58 ?_
        refine w_goto (pt := 57) rfl ?_
        exact w_iret rfl (⟨rfl, rfl, rfl, hI2, hF4, hR5, z58, rfl, trivial⟩) (by omega) (by omega)
  · replace hc11 : ¬ (z10 ≠ (0 : Int)) := hc11
    refine w_aload (i := 0) (npc := 14) rfl rfl rfl ?_
    refine w_const (n := 1) (npc := 15) rfl ?_
    refine w_virt (ci := 8) (i := 81) (npc := 18) (a := [cr 81, ai_i 1]) (rest := []) rfl rfl (hI2.pl (by decide)) (hI2.T (by decide) rfl) rfl rfl rfl rfl (ct_m_fail (sl := sl) (x := x) (d := d + 6) (1) hI2 (by omega)) (Or.inl rfl) (fun k9 v9 T9 E60 nx9 kc9 ks9 hq59 hk9 hs9 => ?_)
    obtain ⟨rfl, rfl, rfl, hI62, hG63, z61, rfl, hz61⟩ := hq59
    obtain rfl : kc = kc9 := by omega
    obtain rfl : ks = ks9 := by omega
    have hF64 := cm_fr.trans hF4 hG63 (by first | (simp; done) | (simp; omega) | (intro i k h; (try simp only at h); (try simp only); omega))
    have hR65 := rl.fr hR5 hG63 (by intro i k h; (try simp only at h); omega)
    have hz66 : E60 81 1 = ai_i z7 := (hG63 81 1 (by simp)).trans hz7
    have ghz66 := gv_eq hz66
    refine Or.inr (Or.inl ⟨rfl, ?_⟩)
    exact w_iret rfl (⟨rfl, rfl, rfl, hI62, hF64, hR65, z61, rfl, trivial⟩) (by omega) (by omega)
set_option maxRecDepth 16384 in
theorem ct_m_text {sl : Int × Int} {x : ai_E} {d : Nat} {T : cm_T} {E : cm_E} {nx : Nat} (p l c : Int) (hI : cs_I T E nx) (hR : rl E) (hp0 : -2147483648 ≤ p ∧ p ≤ 2147483647) (hp1 : -2147483648 ≤ l ∧ l ≤ 2147483647) (hp2 : -2147483648 ≤ c ∧ c ≤ 2147483647) : cm_ct (ai_ev sl (d + 8)) x 218 [cr 81, ai_i p, ai_i l, ai_i c] T E nx 0 0 (fun rk rv T' E' nx' => rk = 1 ∧ T = T' ∧ nx = nx' ∧ cs_I T E' nx ∧ cm_fr (fun i k => (i = 81 ∧ (k = 0 ∨ k = 12 ∨ k = 13)) ∨ i = 86 ∨ i = 87 ∨ i = 88 ∨ i = 89 ∨ i = 90 ∨ i = 91) E E' ∧ rl E' ∧ ∃ z : Int, rv = ai_i z ∧ (True)) := by
  refine cm_body (M := ai_m218) rfl rfl (fun kc ks => ?_)
  show cm_wp (ai_find ai_c218 sl) (ai_ev sl (d + 7)) x (kc + 0) (ks + 0) _ 0 [cr 81, ai_i p, ai_i l, ai_i c, ai_un] [] T E nx kc ks
  have hF : cm_fr (fun i k => (i = 81 ∧ (k = 0 ∨ k = 12 ∨ k = 13)) ∨ i = 86 ∨ i = 87 ∨ i = 88 ∨ i = 89 ∨ i = 90 ∨ i = 91) E E := fun _ _ _ => rfl
  refine w_aload (i := 0) (npc := 1) rfl rfl rfl ?_
  refine w_const (n := 0) (npc := 2) rfl ?_
  refine w_putf (i := 81) (ci := 8) (k := 0) (t := 0) (npc := 5) rfl (hI.pl (by decide)) (hI.T (by decide) rfl) (by decide) cm_fit0 ?_
  have hI2 := hI.puti (i := 81) (k := 0) (z := 0) (lo := 0) (hi := 2) (by decide) rfl (by omega)
  have hF4 := cm_fr.up (i := 81) (k := 0) (v := ai_i 0) hF (by first | (simp; done) | (simp; omega) | (intro i k h; (try simp only at h); (try simp only); omega))
  have hR5 := rl.wr (i := 81) (k := 0) (v := ai_i 0) hR (by simp)
  generalize hE3 : cm_up E 81 0 (ai_i 0) = E1 at hI2 hF4 hR5  ⊢
  have hz6 : E1 81 0 = ai_i 0 := by rw [← hE3, cm_up_eq]
  have ghz6 := gv_eq hz6
  refine w_aload (i := 0) (npc := 6) rfl rfl rfl ?_
  refine w_iload (i := 1) (npc := 7) rfl rfl ?_
  obtain ⟨z7, hz7, hz7a, hz7b⟩ := hI2.int 81 1 (lo := 1) (hi := 5) (by decide) (by decide) rfl
  have ghz7 := gv_eq hz7
  have g0hz7 : gv E 81 1 = z7 := (gv_fr hF4 (by simp)).trans ghz7
  obtain ⟨z8, hz8, hz8a, hz8b⟩ := hI2.int 81 13 (lo := 0) (hi := 300) (by decide) (by decide) rfl
  have ghz8 := gv_eq hz8
  refine w_virt (ci := 8) (i := 81) (npc := 10) (a := [cr 81, ai_i p]) (rest := []) rfl rfl (hI2.pl (by decide)) (hI2.T (by decide) rfl) rfl rfl rfl rfl (ct_m_isWriter (sl := sl) (x := x) (d := d + 5) (p) hI2) (Or.inl rfl) (fun k9 v9 T9 E10 nx9 kc9 ks9 hq9 hk9 hs9 => ?_)
  obtain ⟨rfl, rfl, rfl, rfl, z11, rfl, hz11⟩ := hq9
  obtain rfl : kc = kc9 := by omega
  obtain rfl : ks = ks9 := by omega
  refine Or.inr (Or.inl ⟨rfl, ?_⟩)
  refine w_if (c := .ne) (npc := 13) (pt := 19) rfl (fun hc12 => ?_) (fun hc12 => ?_)
  · replace hc12 : z11 ≠ (0 : Int) := hc12
    refine w_aload (i := 0) (npc := 20) rfl rfl rfl ?_
    refine w_iload (i := 1) (npc := 21) rfl rfl ?_
    refine w_virt (ci := 8) (i := 81) (npc := 24) (a := [cr 81, ai_i p]) (rest := []) rfl rfl (hI2.pl (by decide)) (hI2.T (by decide) rfl) rfl rfl rfl rfl (ct_m_tellPage (sl := sl) (x := x) (d := d + 0) (p) hI2 hR5 (by omega)) (Or.inl rfl) (fun k9 v9 T9 E14 nx9 kc9 ks9 hq13 hk9 hs9 => ?_)
    obtain ⟨rfl, rfl, rfl, hI16, hG17, hR18, hz15⟩ := hq13
    obtain rfl : kc = kc9 := by omega
    obtain rfl : ks = ks9 := by omega
    have hF19 := cm_fr.trans hF4 hG17 (by first | (simp; done) | (simp; omega) | (intro i k h; (try simp only at h); (try simp only); omega))
    have hx20 : tx E14 := hz15
    have hz21 : E14 81 0 = ai_i 0 := (hG17 81 0 (by simp)).trans hz6
    have ghz21 := gv_eq hz21
    have hz22 : E14 81 1 = ai_i z7 := (hG17 81 1 (by simp)).trans hz7
    have ghz22 := gv_eq hz22
    refine Or.inl ⟨rfl, ?_⟩
    refine w_iload (i := 2) (npc := 25) rfl rfl ?_
    refine w_const (n := 0) (npc := 26) rfl ?_
    refine w_aload (i := 0) (npc := 27) rfl rfl rfl ?_
    obtain ⟨z23, hz23, hz23a, hz23b⟩ := hI16.int 81 13 (lo := 0) (hi := 300) (by decide) (by decide) rfl
    have ghz23 := gv_eq hz23
    refine w_getf (i := 81) (ci := 8) (k := 13) (npc := 30) rfl (hI16.pl (by decide)) (hI16.T (by decide) rfl) (by decide) hz23 ?_
    refine w_const (n := 1) (npc := 31) rfl ?_
    refine w_isub (npc := 32) rfl (by omega) ?_
    refine w_call (npc := 35) (a := [ai_i l, ai_i 0, ai_i (z23 - 1)]) (rest := []) rfl rfl rfl rfl rfl (ct_m_isIn (sl := sl) (x := x) (d := d + 6) (l) (0) (z23 - 1)) (Or.inr (fun _ _ _ _ _ hq => by have h1 := hq.1; omega)) (fun k9 v9 T9 E26 nx9 kc9 ks9 hq25 hk9 hs9 => ?_)
    obtain ⟨rfl, rfl, rfl, rfl, z27, rfl, hz27⟩ := hq25
    obtain rfl : kc = kc9 := by omega
    obtain rfl : ks = ks9 := by omega
    refine Or.inr (Or.inl ⟨rfl, ?_⟩)
    refine w_if (c := .ne) (npc := 38) (pt := 44) rfl (fun hc28 => ?_) (fun hc28 => ?_)
    · replace hc28 : z27 ≠ (0 : Int) := hc28
      refine w_aload (i := 0) (npc := 45) rfl rfl rfl ?_
      refine w_getf (i := 81) (ci := 8) (k := 8) (npc := 48) rfl (hI16.pl (by decide)) (hI16.T (by decide) rfl) (by decide) (hI16.ref 81 8 (p := 88) (by decide) (by decide) rfl) ?_
      refine w_aload (i := 0) (npc := 49) rfl rfl rfl ?_
      refine w_getf (i := 81) (ci := 8) (k := 11) (npc := 52) rfl (hI16.pl (by decide)) (hI16.T (by decide) rfl) (by decide) (hI16.ref 81 11 (p := 91) (by decide) (by decide) rfl) ?_
      refine w_iload (i := 2) (npc := 53) rfl rfl ?_
      obtain ⟨z29, hz29, hz29a, hz29b⟩ := hI16.int 91 (l : Int).toNat (lo := 0) (hi := 299) (by decide) (show (l : Int).toNat < 300 by omega) rfl
      have ghz29 := gv_eq hz29
      refine w_ald (i := 91) (t := 1) (n := 300) (npc := 54) rfl (hI16.pl (by decide)) (hI16.T (by decide) rfl) (by decide) rfl (by omega) hz29 ?_
      obtain ⟨z30, hz30, hz30a, hz30b⟩ := hI16.int 88 (z29 : Int).toNat (lo := 0) (hi := 249000) (by decide) (show (z29 : Int).toNat < 300 by omega) rfl
      have ghz30 := gv_eq hz30
      refine w_ald (i := 88) (t := 1) (n := 300) (npc := 55) rfl (hI16.pl (by decide)) (hI16.T (by decide) rfl) (by decide) rfl (by omega) hz30 ?_
      refine w_istore (i := 4) (npc := 57) (loc' := [cr 81, ai_i p, ai_i l, ai_i c, ai_i z30]) rfl rfl ?_
      refine w_iload (i := 3) (npc := 58) rfl rfl ?_
      refine w_const (n := 10) (npc := 60) rfl ?_
      refine w_icmp (c := .lt) (npc := 63) (pt := 100) rfl (fun hc31 => ?_) (fun hc31 => ?_)
      · replace hc31 : c < (10 : Int) := hc31
        refine w_iload (i := 3) (npc := 101) rfl rfl ?_
        refine w_if (c := .ne) (npc := 104) (pt := 124) rfl (fun hc32 => ?_) (fun hc32 => ?_)
        · replace hc32 : c ≠ (0 : Int) := hc32
          refine w_iload (i := 3) (npc := 125) rfl rfl ?_
          refine w_const (n := 1) (npc := 126) rfl ?_
          refine w_icmp (c := .ne) (npc := 129) (pt := 141) rfl (fun hc33 => ?_) (fun hc33 => ?_)
          · replace hc33 : c ≠ (1 : Int) := hc33
            refine w_iload (i := 3) (npc := 142) rfl rfl ?_
            refine w_const (n := 2) (npc := 143) rfl ?_
            refine w_icmp (c := .ne) (npc := 146) (pt := 156) rfl (fun hc34 => ?_) (fun hc34 => ?_)
            · replace hc34 : c ≠ (2 : Int) := hc34
              refine w_aload (i := 0) (npc := 157) rfl rfl rfl ?_
              refine w_const (n := 1) (npc := 158) rfl ?_
              refine w_virt (ci := 8) (i := 81) (npc := 161) (a := [cr 81, ai_i 1]) (rest := []) rfl rfl (hI16.pl (by decide)) (hI16.T (by decide) rfl) rfl rfl rfl rfl (ct_m_fail (sl := sl) (x := x) (d := d + 6) (1) hI16 (by omega)) (Or.inl rfl) (fun k9 v9 T9 E36 nx9 kc9 ks9 hq35 hk9 hs9 => ?_)
              obtain ⟨rfl, rfl, rfl, hI38, hG39, z37, rfl, hz37⟩ := hq35
              obtain rfl : kc = kc9 := by omega
              obtain rfl : ks = ks9 := by omega
              have hF40 := cm_fr.trans hF19 hG39 (by first | (simp; done) | (simp; omega) | (intro i k h; (try simp only at h); (try simp only); omega))
              have hR41 := rl.fr hR18 hG39 (by intro i k h; (try simp only at h); omega)
              have hx42 := tx.fr hx20 hG39 (by intro i k h; (try simp only at h); omega)
              have hz43 : E36 81 1 = ai_i z7 := (hG39 81 1 (by simp)).trans hz22
              have ghz43 := gv_eq hz43
              have hz44 : E36 81 13 = ai_i z23 := (hG39 81 13 (by simp)).trans hz23
              have ghz44 := gv_eq hz44
              refine Or.inr (Or.inl ⟨rfl, ?_⟩)
              exact w_iret rfl (⟨rfl, rfl, rfl, hI38, hF40, hR41, z37, rfl, trivial⟩) (by omega) (by omega)
            · replace hc34 : ¬ (c ≠ (2 : Int)) := hc34
              refine w_aload (i := 0) (npc := 147) rfl rfl rfl ?_
              refine w_getf (i := 81) (ci := 8) (k := 2) (npc := 150) rfl (hI16.pl (by decide)) (hI16.T (by decide) rfl) (by decide) (hI16.ref 81 2 (p := 82) (by decide) (by decide) rfl) ?_
              refine w_iload (i := 4) (npc := 152) rfl rfl ?_
              obtain ⟨z45, hz45, hz45a, hz45b⟩ := hI16.int 82 (z30 : Int).toNat (lo := 0) (hi := 65540) (by decide) (show (z30 : Int).toNat < 531366 by omega) rfl
              have ghz45 := gv_eq hz45
              have g0hz45 : gv E 82 (z30 : Int).toNat = z45 := (gv_fr hF19 (by simp)).trans ghz45
              refine w_ald (i := 82) (t := 1) (n := 531366) (npc := 153) rfl (hI16.pl (by decide)) (hI16.T (by decide) rfl) (by decide) rfl (by omega) hz45 ?_
              refine w_goto (pt := 161) rfl ?_
              exact w_iret rfl (⟨rfl, rfl, rfl, hI16, hF19, hR18, z45, rfl, trivial⟩) (by omega) (by omega)
          · replace hc33 : ¬ (c ≠ (1 : Int)) := hc33
            refine w_aload (i := 0) (npc := 130) rfl rfl rfl ?_
            refine w_getf (i := 81) (ci := 8) (k := 11) (npc := 133) rfl (hI16.pl (by decide)) (hI16.T (by decide) rfl) (by decide) (hI16.ref 81 11 (p := 91) (by decide) (by decide) rfl) ?_
            refine w_iload (i := 2) (npc := 134) rfl rfl ?_
            refine w_ald (i := 91) (t := 1) (n := 300) (npc := 135) rfl (hI16.pl (by decide)) (hI16.T (by decide) rfl) (by decide) rfl (by omega) hz29 ?_
            refine w_call (npc := 138) (a := [ai_i z29]) (rest := []) rfl rfl rfl rfl rfl (ct_m_nameOf (sl := sl) (x := x) (d := d + 6) (z29) (by omega)) (Or.inr (fun _ _ _ _ _ hq => by have h1 := hq.1; omega)) (fun k9 v9 T9 E47 nx9 kc9 ks9 hq46 hk9 hs9 => ?_)
            obtain ⟨rfl, rfl, rfl, rfl, z48, rfl, hz48⟩ := hq46
            obtain rfl : kc = kc9 := by omega
            obtain rfl : ks = ks9 := by omega
            refine Or.inr (Or.inl ⟨rfl, ?_⟩)
            refine w_goto (pt := 161) rfl ?_
            exact w_iret rfl (⟨rfl, rfl, rfl, hI16, hF19, hR18, z48, rfl, trivial⟩) (by omega) (by omega)
        · replace hc32 : ¬ (c ≠ (0 : Int)) := hc32
          refine w_aload (i := 0) (npc := 105) rfl rfl rfl ?_
          refine w_aload (i := 0) (npc := 106) rfl rfl rfl ?_
          refine w_iload (i := 1) (npc := 107) rfl rfl ?_
          refine w_aload (i := 0) (npc := 108) rfl rfl rfl ?_
          refine w_getf (i := 81) (ci := 8) (k := 11) (npc := 111) rfl (hI16.pl (by decide)) (hI16.T (by decide) rfl) (by decide) (hI16.ref 81 11 (p := 91) (by decide) (by decide) rfl) ?_
          refine w_iload (i := 2) (npc := 112) rfl rfl ?_
          refine w_ald (i := 91) (t := 1) (n := 300) (npc := 113) rfl (hI16.pl (by decide)) (hI16.T (by decide) rfl) (by decide) rfl (by omega) hz29 ?_
          refine w_virt (ci := 8) (i := 81) (npc := 116) (a := [cr 81, ai_i p, ai_i z29]) (rest := [cr 81]) rfl rfl (hI16.pl (by decide)) (hI16.T (by decide) rfl) rfl rfl rfl rfl (ct_m_rowOfMark (sl := sl) (x := x) (d := d + 5) (p) (z29) (by omega) (by omega)) (Or.inl rfl) (fun k9 v9 T9 E50 nx9 kc9 ks9 hq49 hk9 hs9 => ?_)
          obtain ⟨rfl, rfl, rfl, rfl, z51, rfl, hz51⟩ := hq49
          obtain rfl : kc = kc9 := by omega
          obtain rfl : ks = ks9 := by omega
          refine Or.inr (Or.inl ⟨rfl, ?_⟩)
          refine w_const (n := 9) (npc := 118) rfl ?_
          refine w_virt (ci := 8) (i := 81) (npc := 121) (a := [cr 81, ai_i z51, ai_i 9]) (rest := []) rfl rfl (hI16.pl (by decide)) (hI16.T (by decide) rfl) rfl rfl rfl rfl (ct_m_of (sl := sl) (x := x) (d := d + 6) (z51) (9) hI16 (by omega) (by omega) (by omega)) (Or.inl rfl) (fun k9 v9 T9 E53 nx9 kc9 ks9 hq52 hk9 hs9 => ?_)
          obtain ⟨rfl, rfl, rfl, rfl, z54, rfl, hz54⟩ := hq52
          obtain rfl : kc = kc9 := by omega
          obtain rfl : ks = ks9 := by omega
          refine Or.inr (Or.inl ⟨rfl, ?_⟩)
          have hl55 : gv E 82 (166 * z51 + 9).toNat = gv E14 82 (166 * z51 + 9).toNat := gv_fr hF19 (by simp)
          refine w_goto (pt := 161) rfl ?_
          exact w_iret rfl (⟨rfl, rfl, rfl, hI16, hF19, hR18, z54, rfl, trivial⟩) (by omega) (by omega)
      · replace hc31 : ¬ (c < (10 : Int)) := hc31
        refine w_iload (i := 3) (npc := 64) rfl rfl ?_
        refine w_const (n := 10) (npc := 66) rfl ?_
        refine w_isub (npc := 67) rfl (by omega) ?_
        refine w_aload (i := 0) (npc := 68) rfl rfl rfl ?_
        refine w_getf (i := 81) (ci := 8) (k := 2) (npc := 71) rfl (hI16.pl (by decide)) (hI16.T (by decide) rfl) (by decide) (hI16.ref 81 2 (p := 82) (by decide) (by decide) rfl) ?_
        refine w_iload (i := 4) (npc := 73) rfl rfl ?_
        obtain ⟨z57, hz57, hz57a, hz57b⟩ := hI16.int 82 (z30 : Int).toNat (lo := 0) (hi := 65540) (by decide) (show (z30 : Int).toNat < 531366 by omega) rfl
        have ghz57 := gv_eq hz57
        have g0hz57 : gv E 82 (z30 : Int).toNat = z57 := (gv_fr hF19 (by simp)).trans ghz57
        refine w_ald (i := 82) (t := 1) (n := 531366) (npc := 74) rfl (hI16.pl (by decide)) (hI16.T (by decide) rfl) (by decide) rfl (by omega) hz57 ?_
        refine w_icmp (c := .ge) (npc := 77) (pt := 94) rfl (fun hc58 => ?_) (fun hc58 => ?_)
        · replace hc58 : z57 ≤ c - 10 := hc58
          refine w_aload (i := 0) (npc := 95) rfl rfl rfl ?_
          refine w_const (n := 1) (npc := 96) rfl ?_
          refine w_virt (ci := 8) (i := 81) (npc := 99) (a := [cr 81, ai_i 1]) (rest := []) rfl rfl (hI16.pl (by decide)) (hI16.T (by decide) rfl) rfl rfl rfl rfl (ct_m_fail (sl := sl) (x := x) (d := d + 6) (1) hI16 (by omega)) (Or.inl rfl) (fun k9 v9 T9 E60 nx9 kc9 ks9 hq59 hk9 hs9 => ?_)
          obtain ⟨rfl, rfl, rfl, hI62, hG63, z61, rfl, hz61⟩ := hq59
          obtain rfl : kc = kc9 := by omega
          obtain rfl : ks = ks9 := by omega
          have hF64 := cm_fr.trans hF19 hG63 (by first | (simp; done) | (simp; omega) | (intro i k h; (try simp only at h); (try simp only); omega))
          have hR65 := rl.fr hR18 hG63 (by intro i k h; (try simp only at h); omega)
          have hx66 := tx.fr hx20 hG63 (by intro i k h; (try simp only at h); omega)
          have hz67 : E60 81 1 = ai_i z7 := (hG63 81 1 (by simp)).trans hz22
          have ghz67 := gv_eq hz67
          have hz68 : E60 81 13 = ai_i z23 := (hG63 81 13 (by simp)).trans hz23
          have ghz68 := gv_eq hz68
          refine Or.inr (Or.inl ⟨rfl, ?_⟩)
          exact w_iret rfl (⟨rfl, rfl, rfl, hI62, hF64, hR65, z61, rfl, trivial⟩) (by omega) (by omega)
        · replace hc58 : ¬ (z57 ≤ c - 10) := hc58
          refine w_aload (i := 0) (npc := 78) rfl rfl rfl ?_
          refine w_getf (i := 81) (ci := 8) (k := 2) (npc := 81) rfl (hI16.pl (by decide)) (hI16.T (by decide) rfl) (by decide) (hI16.ref 81 2 (p := 82) (by decide) (by decide) rfl) ?_
          refine w_iload (i := 4) (npc := 83) rfl rfl ?_
          refine w_const (n := 1) (npc := 84) rfl ?_
          refine w_iadd (npc := 85) rfl (by omega) ?_
          refine w_iload (i := 3) (npc := 86) rfl rfl ?_
          refine w_iadd (npc := 87) rfl (by omega) ?_
          refine w_const (n := 10) (npc := 89) rfl ?_
          refine w_isub (npc := 90) rfl (by omega) ?_
          obtain ⟨z72, hz72, hz72a, hz72b⟩ := hI16.int 82 (z30 + 1 + c - 10 : Int).toNat (lo := 0) (hi := 65540) (by decide) (show (z30 + 1 + c - 10 : Int).toNat < 531366 by omega) rfl
          have ghz72 := gv_eq hz72
          have g0hz72 : gv E 82 (z30 + 1 + c - 10 : Int).toNat = z72 := (gv_fr hF19 (by simp)).trans ghz72
          refine w_ald (i := 82) (t := 1) (n := 531366) (npc := 91) rfl (hI16.pl (by decide)) (hI16.T (by decide) rfl) (by decide) rfl (by omega) hz72 ?_
          refine w_goto (pt := 99) rfl ?_
          exact w_iret rfl (⟨rfl, rfl, rfl, hI16, hF19, hR18, z72, rfl, trivial⟩) (by omega) (by omega)
    · replace hc28 : ¬ (z27 ≠ (0 : Int)) := hc28
      refine w_aload (i := 0) (npc := 39) rfl rfl rfl ?_
      refine w_const (n := 1) (npc := 40) rfl ?_
      refine w_virt (ci := 8) (i := 81) (npc := 43) (a := [cr 81, ai_i 1]) (rest := []) rfl rfl (hI16.pl (by decide)) (hI16.T (by decide) rfl) rfl rfl rfl rfl (ct_m_fail (sl := sl) (x := x) (d := d + 6) (1) hI16 (by omega)) (Or.inl rfl) (fun k9 v9 T9 E74 nx9 kc9 ks9 hq73 hk9 hs9 => ?_)
      obtain ⟨rfl, rfl, rfl, hI76, hG77, z75, rfl, hz75⟩ := hq73
      obtain rfl : kc = kc9 := by omega
      obtain rfl : ks = ks9 := by omega
      have hF78 := cm_fr.trans hF19 hG77 (by first | (simp; done) | (simp; omega) | (intro i k h; (try simp only at h); (try simp only); omega))
      have hR79 := rl.fr hR18 hG77 (by intro i k h; (try simp only at h); omega)
      have hx80 := tx.fr hx20 hG77 (by intro i k h; (try simp only at h); omega)
      have hz81 : E74 81 1 = ai_i z7 := (hG77 81 1 (by simp)).trans hz22
      have ghz81 := gv_eq hz81
      have hz82 : E74 81 13 = ai_i z23 := (hG77 81 13 (by simp)).trans hz23
      have ghz82 := gv_eq hz82
      refine Or.inr (Or.inl ⟨rfl, ?_⟩)
      exact w_iret rfl (⟨rfl, rfl, rfl, hI76, hF78, hR79, z75, rfl, trivial⟩) (by omega) (by omega)
  · replace hc12 : ¬ (z11 ≠ (0 : Int)) := hc12
    refine w_aload (i := 0) (npc := 14) rfl rfl rfl ?_
    refine w_const (n := 1) (npc := 15) rfl ?_
    refine w_virt (ci := 8) (i := 81) (npc := 18) (a := [cr 81, ai_i 1]) (rest := []) rfl rfl (hI2.pl (by decide)) (hI2.T (by decide) rfl) rfl rfl rfl rfl (ct_m_fail (sl := sl) (x := x) (d := d + 6) (1) hI2 (by omega)) (Or.inl rfl) (fun k9 v9 T9 E84 nx9 kc9 ks9 hq83 hk9 hs9 => ?_)
    obtain ⟨rfl, rfl, rfl, hI86, hG87, z85, rfl, hz85⟩ := hq83
    obtain rfl : kc = kc9 := by omega
    obtain rfl : ks = ks9 := by omega
    have hF88 := cm_fr.trans hF4 hG87 (by first | (simp; done) | (simp; omega) | (intro i k h; (try simp only at h); (try simp only); omega))
    have hR89 := rl.fr hR5 hG87 (by intro i k h; (try simp only at h); omega)
    have hz90 : E84 81 1 = ai_i z7 := (hG87 81 1 (by simp)).trans hz7
    have ghz90 := gv_eq hz90
    have hz91 : E84 81 13 = ai_i z8 := (hG87 81 13 (by simp)).trans hz8
    have ghz91 := gv_eq hz91
    refine Or.inr (Or.inl ⟨rfl, ?_⟩)
    exact w_iret rfl (⟨rfl, rfl, rfl, hI86, hF88, hR89, z85, rfl, trivial⟩) (by omega) (by omega)
set_option maxRecDepth 16384 in
theorem ct_m_step {sl : Int × Int} {x : ai_E} {d : Nat} {T : cm_T} {E : cm_E} {nx : Nat} (p w n c : Int) (hI : cs_I T E nx) (hR : rl E) (hp0 : -2147483648 ≤ p ∧ p ≤ 2147483647) (hp1 : -2147483648 ≤ w ∧ w ≤ 2147483647) (hp2 : -2147483648 ≤ n ∧ n ≤ 2147483647) (hp3 : -2147483648 ≤ c ∧ c ≤ 2147483647) : cm_ct (ai_ev sl (d + 8)) x 211 [cr 81, ai_i p, ai_i w, ai_i n, ai_i c] T E nx 0 0 (fun rk rv T' E' nx' => rk = 1 ∧ T = T' ∧ nx = nx' ∧ cs_I T E' nx ∧ cm_fr (fun i k => (i = 81 ∧ (k = 0 ∨ k = 12 ∨ k = 13)) ∨ i = 86 ∨ i = 87 ∨ i = 88 ∨ i = 89 ∨ i = 90 ∨ i = 91) E E' ∧ rl E' ∧ ∃ z : Int, rv = ai_i z ∧ (True)) := by
  refine cm_body (M := ai_m211) rfl rfl (fun kc ks => ?_)
  show cm_wp (ai_find ai_c211 sl) (ai_ev sl (d + 7)) x (kc + 0) (ks + 0) _ 0 [cr 81, ai_i p, ai_i w, ai_i n, ai_i c, ai_un, ai_un] [] T E nx kc ks
  have hF : cm_fr (fun i k => (i = 81 ∧ (k = 0 ∨ k = 12 ∨ k = 13)) ∨ i = 86 ∨ i = 87 ∨ i = 88 ∨ i = 89 ∨ i = 90 ∨ i = 91) E E := fun _ _ _ => rfl
  refine w_aload (i := 0) (npc := 1) rfl rfl rfl ?_
  refine w_const (n := 0) (npc := 2) rfl ?_
  refine w_putf (i := 81) (ci := 8) (k := 0) (t := 0) (npc := 5) rfl (hI.pl (by decide)) (hI.T (by decide) rfl) (by decide) cm_fit0 ?_
  have hI2 := hI.puti (i := 81) (k := 0) (z := 0) (lo := 0) (hi := 2) (by decide) rfl (by omega)
  have hF4 := cm_fr.up (i := 81) (k := 0) (v := ai_i 0) hF (by first | (simp; done) | (simp; omega) | (intro i k h; (try simp only at h); (try simp only); omega))
  have hR5 := rl.wr (i := 81) (k := 0) (v := ai_i 0) hR (by simp)
  generalize hE3 : cm_up E 81 0 (ai_i 0) = E1 at hI2 hF4 hR5  ⊢
  have hz6 : E1 81 0 = ai_i 0 := by rw [← hE3, cm_up_eq]
  have ghz6 := gv_eq hz6
  refine w_aload (i := 0) (npc := 6) rfl rfl rfl ?_
  refine w_iload (i := 1) (npc := 7) rfl rfl ?_
  obtain ⟨z7, hz7, hz7a, hz7b⟩ := hI2.int 81 1 (lo := 1) (hi := 5) (by decide) (by decide) rfl
  have ghz7 := gv_eq hz7
  have g0hz7 : gv E 81 1 = z7 := (gv_fr hF4 (by simp)).trans ghz7
  refine w_virt (ci := 8) (i := 81) (npc := 10) (a := [cr 81, ai_i p]) (rest := []) rfl rfl (hI2.pl (by decide)) (hI2.T (by decide) rfl) rfl rfl rfl rfl (ct_m_isWriter (sl := sl) (x := x) (d := d + 5) (p) hI2) (Or.inl rfl) (fun k9 v9 T9 E9 nx9 kc9 ks9 hq8 hk9 hs9 => ?_)
  obtain ⟨rfl, rfl, rfl, rfl, z10, rfl, hz10⟩ := hq8
  obtain rfl : kc = kc9 := by omega
  obtain rfl : ks = ks9 := by omega
  refine Or.inr (Or.inl ⟨rfl, ?_⟩)
  refine w_if (c := .eq) (npc := 13) (pt := 33) rfl (fun hc11 => ?_) (fun hc11 => ?_)
  · replace hc11 : z10 = (0 : Int) := hc11
    refine w_aload (i := 0) (npc := 34) rfl rfl rfl ?_
    refine w_const (n := 1) (npc := 35) rfl ?_
    refine w_virt (ci := 8) (i := 81) (npc := 38) (a := [cr 81, ai_i 1]) (rest := []) rfl rfl (hI2.pl (by decide)) (hI2.T (by decide) rfl) rfl rfl rfl rfl (ct_m_fail (sl := sl) (x := x) (d := d + 6) (1) hI2 (by omega)) (Or.inl rfl) (fun k9 v9 T9 E13 nx9 kc9 ks9 hq12 hk9 hs9 => ?_)
    obtain ⟨rfl, rfl, rfl, hI15, hG16, z14, rfl, hz14⟩ := hq12
    obtain rfl : kc = kc9 := by omega
    obtain rfl : ks = ks9 := by omega
    have hF17 := cm_fr.trans hF4 hG16 (by first | (simp; done) | (simp; omega) | (intro i k h; (try simp only at h); (try simp only); omega))
    have hR18 := rl.fr hR5 hG16 (by intro i k h; (try simp only at h); omega)
    have hz19 : E13 81 1 = ai_i z7 := (hG16 81 1 (by simp)).trans hz7
    have ghz19 := gv_eq hz19
    refine Or.inr (Or.inl ⟨rfl, ?_⟩)
    exact w_iret rfl (⟨rfl, rfl, rfl, hI15, hF17, hR18, z14, rfl, trivial⟩) (by omega) (by omega)
  · replace hc11 : ¬ (z10 = (0 : Int)) := hc11
    refine w_aload (i := 0) (npc := 14) rfl rfl rfl ?_
    refine w_iload (i := 1) (npc := 15) rfl rfl ?_
    refine w_iload (i := 2) (npc := 16) rfl rfl ?_
    refine w_iload (i := 3) (npc := 17) rfl rfl ?_
    refine w_virt (ci := 8) (i := 81) (npc := 20) (a := [cr 81, ai_i p, ai_i w, ai_i n]) (rest := []) rfl rfl (hI2.pl (by decide)) (hI2.T (by decide) rfl) rfl rfl rfl rfl (ct_m_hasStep (sl := sl) (x := x) (d := d + 4) (p) (w) (n) hI2 (by omega)) (Or.inl rfl) (fun k9 v9 T9 E21 nx9 kc9 ks9 hq20 hk9 hs9 => ?_)
    obtain ⟨rfl, rfl, rfl, rfl, z22, rfl, hz22⟩ := hq20
    obtain rfl : kc = kc9 := by omega
    obtain rfl : ks = ks9 := by omega
    refine Or.inr (Or.inl ⟨rfl, ?_⟩)
    refine w_if (c := .eq) (npc := 23) (pt := 33) rfl (fun hc23 => ?_) (fun hc23 => ?_)
    · replace hc23 : z22 = (0 : Int) := hc23
      refine w_aload (i := 0) (npc := 34) rfl rfl rfl ?_
      refine w_const (n := 1) (npc := 35) rfl ?_
      refine w_virt (ci := 8) (i := 81) (npc := 38) (a := [cr 81, ai_i 1]) (rest := []) rfl rfl (hI2.pl (by decide)) (hI2.T (by decide) rfl) rfl rfl rfl rfl (ct_m_fail (sl := sl) (x := x) (d := d + 6) (1) hI2 (by omega)) (Or.inl rfl) (fun k9 v9 T9 E25 nx9 kc9 ks9 hq24 hk9 hs9 => ?_)
      obtain ⟨rfl, rfl, rfl, hI27, hG28, z26, rfl, hz26⟩ := hq24
      obtain rfl : kc = kc9 := by omega
      obtain rfl : ks = ks9 := by omega
      have hF29 := cm_fr.trans hF4 hG28 (by first | (simp; done) | (simp; omega) | (intro i k h; (try simp only at h); (try simp only); omega))
      have hR30 := rl.fr hR5 hG28 (by intro i k h; (try simp only at h); omega)
      have hz31 : E25 81 1 = ai_i z7 := (hG28 81 1 (by simp)).trans hz7
      have ghz31 := gv_eq hz31
      refine Or.inr (Or.inl ⟨rfl, ?_⟩)
      exact w_iret rfl (⟨rfl, rfl, rfl, hI27, hF29, hR30, z26, rfl, trivial⟩) (by omega) (by omega)
    · replace hc23 : ¬ (z22 = (0 : Int)) := hc23
      refine w_iload (i := 4) (npc := 25) rfl rfl ?_
      refine w_const (n := 0) (npc := 26) rfl ?_
      refine w_const (n := 3) (npc := 27) rfl ?_
      refine w_call (npc := 30) (a := [ai_i c, ai_i 0, ai_i 3]) (rest := []) rfl rfl rfl rfl rfl (ct_m_isIn (sl := sl) (x := x) (d := d + 6) (c) (0) (3)) (Or.inr (fun _ _ _ _ _ hq => by have h1 := hq.1; omega)) (fun k9 v9 T9 E33 nx9 kc9 ks9 hq32 hk9 hs9 => ?_)
      obtain ⟨rfl, rfl, rfl, rfl, z34, rfl, hz34⟩ := hq32
      obtain rfl : kc = kc9 := by omega
      obtain rfl : ks = ks9 := by omega
      refine Or.inr (Or.inl ⟨rfl, ?_⟩)
      refine w_if (c := .ne) (npc := 33) (pt := 39) rfl (fun hc35 => ?_) (fun hc35 => ?_)
      · replace hc35 : z34 ≠ (0 : Int) := hc35
        refine w_aload (i := 0) (npc := 40) rfl rfl rfl ?_
        refine w_iload (i := 1) (npc := 41) rfl rfl ?_
        refine w_virt (ci := 8) (i := 81) (npc := 44) (a := [cr 81, ai_i p]) (rest := []) rfl rfl (hI2.pl (by decide)) (hI2.T (by decide) rfl) rfl rfl rfl rfl (ct_m_tellPage (sl := sl) (x := x) (d := d + 0) (p) hI2 hR5 (by omega)) (Or.inl rfl) (fun k9 v9 T9 E37 nx9 kc9 ks9 hq36 hk9 hs9 => ?_)
        obtain ⟨rfl, rfl, rfl, hI39, hG40, hR41, hz38⟩ := hq36
        obtain rfl : kc = kc9 := by omega
        obtain rfl : ks = ks9 := by omega
        have hF42 := cm_fr.trans hF4 hG40 (by first | (simp; done) | (simp; omega) | (intro i k h; (try simp only at h); (try simp only); omega))
        have hx43 : tx E37 := hz38
        have hz44 : E37 81 0 = ai_i 0 := (hG40 81 0 (by simp)).trans hz6
        have ghz44 := gv_eq hz44
        have hz45 : E37 81 1 = ai_i z7 := (hG40 81 1 (by simp)).trans hz7
        have ghz45 := gv_eq hz45
        refine Or.inl ⟨rfl, ?_⟩
        refine w_iload (i := 1) (npc := 45) rfl rfl ?_
        refine w_iload (i := 2) (npc := 46) rfl rfl ?_
        refine w_iload (i := 3) (npc := 47) rfl rfl ?_
        refine w_call (npc := 50) (a := [ai_i p, ai_i w, ai_i n]) (rest := []) rfl rfl rfl rfl rfl (ct_m_rowOf (sl := sl) (x := x) (d := d + 6) (p) (w) (n) (by omega) (by omega) (by omega)) (Or.inr (fun _ _ _ _ _ hq => by have h1 := hq.1; omega)) (fun k9 v9 T9 E47 nx9 kc9 ks9 hq46 hk9 hs9 => ?_)
        obtain ⟨rfl, rfl, rfl, rfl, z48, rfl, hz48⟩ := hq46
        obtain rfl : kc = kc9 := by omega
        obtain rfl : ks = ks9 := by omega
        refine Or.inr (Or.inl ⟨rfl, ?_⟩)
        refine w_istore (i := 5) (npc := 52) (loc' := [cr 81, ai_i p, ai_i w, ai_i n, ai_i c, ai_i z48, ai_un]) rfl rfl ?_
        refine w_aload (i := 0) (npc := 53) rfl rfl rfl ?_
        refine w_iload (i := 5) (npc := 55) rfl rfl ?_
        refine w_const (n := 0) (npc := 56) rfl ?_
        refine w_virt (ci := 8) (i := 81) (npc := 59) (a := [cr 81, ai_i z48, ai_i 0]) (rest := []) rfl rfl (hI39.pl (by decide)) (hI39.T (by decide) rfl) rfl rfl rfl rfl (ct_m_of (sl := sl) (x := x) (d := d + 6) (z48) (0) hI39 (by omega) (by omega) (by omega)) (Or.inl rfl) (fun k9 v9 T9 E50 nx9 kc9 ks9 hq49 hk9 hs9 => ?_)
        obtain ⟨rfl, rfl, rfl, rfl, z51, rfl, hz51⟩ := hq49
        obtain rfl : kc = kc9 := by omega
        obtain rfl : ks = ks9 := by omega
        refine Or.inr (Or.inl ⟨rfl, ?_⟩)
        have hl52 : gv E 82 (166 * z48 + 0).toNat = gv E37 82 (166 * z48 + 0).toNat := gv_fr hF42 (by simp)
        refine w_istore (i := 6) (npc := 61) (loc' := [cr 81, ai_i p, ai_i w, ai_i n, ai_i c, ai_i z48, ai_i z51]) rfl rfl ?_
        refine w_iload (i := 4) (npc := 63) rfl rfl ?_
        refine w_if (c := .ne) (npc := 66) (pt := 71) rfl (fun hc53 => ?_) (fun hc53 => ?_)
        · replace hc53 : c ≠ (0 : Int) := hc53
          refine w_iload (i := 4) (npc := 73) rfl rfl ?_
          refine w_const (n := 1) (npc := 74) rfl ?_
          refine w_icmp (c := .ne) (npc := 77) (pt := 88) rfl (fun hc54 => ?_) (fun hc54 => ?_)
          · replace hc54 : c ≠ (1 : Int) := hc54
            refine w_iload (i := 4) (npc := 90) rfl rfl ?_
            refine w_const (n := 2) (npc := 91) rfl ?_
            refine w_icmp (c := .ne) (npc := 94) (pt := 115) rfl (fun hc55 => ?_) (fun hc55 => ?_)
            · replace hc55 : c ≠ (2 : Int) := hc55
              refine w_iload (i := 6) (npc := 117) rfl rfl ?_
              refine w_const (n := 1) (npc := 118) rfl ?_
              refine w_icmp (c := .eq) (npc := 121) (pt := 127) rfl (fun hc56 => ?_) (fun hc56 => ?_)
              · replace hc56 : z51 = (1 : Int) := hc56
                refine w_aload (i := 0) (npc := 128) rfl rfl rfl ?_
                refine w_iload (i := 5) (npc := 130) rfl rfl ?_
                refine w_const (n := 9) (npc := 132) rfl ?_
                refine w_virt (ci := 8) (i := 81) (npc := 135) (a := [cr 81, ai_i z48, ai_i 9]) (rest := []) rfl rfl (hI39.pl (by decide)) (hI39.T (by decide) rfl) rfl rfl rfl rfl (ct_m_of (sl := sl) (x := x) (d := d + 6) (z48) (9) hI39 (by omega) (by omega) (by omega)) (Or.inl rfl) (fun k9 v9 T9 E58 nx9 kc9 ks9 hq57 hk9 hs9 => ?_)
                obtain ⟨rfl, rfl, rfl, rfl, z59, rfl, hz59⟩ := hq57
                obtain rfl : kc = kc9 := by omega
                obtain rfl : ks = ks9 := by omega
                refine Or.inr (Or.inl ⟨rfl, ?_⟩)
                have hl60 : gv E 82 (166 * z48 + 9).toNat = gv E37 82 (166 * z48 + 9).toNat := gv_fr hF42 (by simp)
                refine w_goto (pt := 139) rfl ?_
                exact w_iret rfl (⟨rfl, rfl, rfl, hI39, hF42, hR41, z59, rfl, trivial⟩) (by omega) (by omega)
              · replace hc56 : ¬ (z51 = (1 : Int)) := hc56
                refine w_iload (i := 6) (npc := 123) rfl rfl ?_
                refine w_const (n := 2) (npc := 124) rfl ?_
                refine w_icmp (c := .ne) (npc := 127) (pt := 138) rfl (fun hc61 => ?_) (fun hc61 => ?_)
                · replace hc61 : z51 ≠ (2 : Int) := hc61
                  refine w_const (n := 0) (npc := 139) rfl ?_
                  exact w_iret rfl (⟨rfl, rfl, rfl, hI39, hF42, hR41, 0, rfl, trivial⟩) (by omega) (by omega)
                · replace hc61 : ¬ (z51 ≠ (2 : Int)) := hc61
                  refine w_aload (i := 0) (npc := 128) rfl rfl rfl ?_
                  refine w_iload (i := 5) (npc := 130) rfl rfl ?_
                  refine w_const (n := 9) (npc := 132) rfl ?_
                  refine w_virt (ci := 8) (i := 81) (npc := 135) (a := [cr 81, ai_i z48, ai_i 9]) (rest := []) rfl rfl (hI39.pl (by decide)) (hI39.T (by decide) rfl) rfl rfl rfl rfl (ct_m_of (sl := sl) (x := x) (d := d + 6) (z48) (9) hI39 (by omega) (by omega) (by omega)) (Or.inl rfl) (fun k9 v9 T9 E63 nx9 kc9 ks9 hq62 hk9 hs9 => ?_)
                  obtain ⟨rfl, rfl, rfl, rfl, z64, rfl, hz64⟩ := hq62
                  obtain rfl : kc = kc9 := by omega
                  obtain rfl : ks = ks9 := by omega
                  refine Or.inr (Or.inl ⟨rfl, ?_⟩)
                  have hl65 : gv E 82 (166 * z48 + 9).toNat = gv E37 82 (166 * z48 + 9).toNat := gv_fr hF42 (by simp)
                  refine w_goto (pt := 139) rfl ?_
                  exact w_iret rfl (⟨rfl, rfl, rfl, hI39, hF42, hR41, z64, rfl, trivial⟩) (by omega) (by omega)
            · replace hc55 : ¬ (c ≠ (2 : Int)) := hc55
              refine w_aload (i := 0) (npc := 95) rfl rfl rfl ?_
              refine w_getf (i := 81) (ci := 8) (k := 6) (npc := 98) rfl (hI39.pl (by decide)) (hI39.T (by decide) rfl) (by decide) (hI39.ref 81 6 (p := 86) (by decide) (by decide) rfl) ?_
              refine w_iload (i := 2) (npc := 99) rfl rfl ?_
              refine w_iload (i := 3) (npc := 100) rfl rfl ?_
              refine w_call (npc := 103) (a := [ai_i w, ai_i n]) (rest := [cr 86]) rfl rfl rfl rfl rfl (ct_m_markOf (sl := sl) (x := x) (d := d + 6) (w) (n) (by omega) (by omega)) (Or.inr (fun _ _ _ _ _ hq => by have h1 := hq.1; omega)) (fun k9 v9 T9 E67 nx9 kc9 ks9 hq66 hk9 hs9 => ?_)
              obtain ⟨rfl, rfl, rfl, rfl, z68, rfl, hz68⟩ := hq66
              obtain rfl : kc = kc9 := by omega
              obtain rfl : ks = ks9 := by omega
              refine Or.inr (Or.inl ⟨rfl, ?_⟩)
              obtain ⟨z69, hz69, hz69a, hz69b⟩ := hI39.int 86 (z68 : Int).toNat (lo := 0) (hi := 1) (by decide) (show (z68 : Int).toNat < 300 by omega) rfl
              have ghz69 := gv_eq hz69
              refine w_ald (i := 86) (t := 2) (n := 300) (npc := 104) rfl (hI39.pl (by decide)) (hI39.T (by decide) rfl) (by decide) rfl (by omega) hz69 ?_
              refine w_if (c := .eq) (npc := 107) (pt := 111) rfl (fun hc70 => ?_) (fun hc70 => ?_)
              · replace hc70 : z69 = (0 : Int) := hc70
                refine w_const (n := 0) (npc := 112) rfl ?_
                refine w_goto (pt := 139) rfl ?_
                exact w_iret rfl (⟨rfl, rfl, rfl, hI39, hF42, hR41, 0, rfl, trivial⟩) (by omega) (by omega)
              · replace hc70 : ¬ (z69 = (0 : Int)) := hc70
                refine w_const (n := 1) (npc := 108) rfl ?_
                refine w_goto (pt := 139) rfl ?_
                exact w_iret rfl (⟨rfl, rfl, rfl, hI39, hF42, hR41, 1, rfl, trivial⟩) (by omega) (by omega)
          · replace hc54 : ¬ (c ≠ (1 : Int)) := hc54
            refine w_aload (i := 0) (npc := 78) rfl rfl rfl ?_
            refine w_iload (i := 5) (npc := 80) rfl rfl ?_
            refine w_const (n := 8) (npc := 82) rfl ?_
            refine w_virt (ci := 8) (i := 81) (npc := 85) (a := [cr 81, ai_i z48, ai_i 8]) (rest := []) rfl rfl (hI39.pl (by decide)) (hI39.T (by decide) rfl) rfl rfl rfl rfl (ct_m_of (sl := sl) (x := x) (d := d + 6) (z48) (8) hI39 (by omega) (by omega) (by omega)) (Or.inl rfl) (fun k9 v9 T9 E72 nx9 kc9 ks9 hq71 hk9 hs9 => ?_)
            obtain ⟨rfl, rfl, rfl, rfl, z73, rfl, hz73⟩ := hq71
            obtain rfl : kc = kc9 := by omega
            obtain rfl : ks = ks9 := by omega
            refine Or.inr (Or.inl ⟨rfl, ?_⟩)
            have hl74 : gv E 82 (166 * z48 + 8).toNat = gv E37 82 (166 * z48 + 8).toNat := gv_fr hF42 (by simp)
            refine w_goto (pt := 139) rfl ?_
            exact w_iret rfl (⟨rfl, rfl, rfl, hI39, hF42, hR41, z73, rfl, trivial⟩) (by omega) (by omega)
        · replace hc53 : ¬ (c ≠ (0 : Int)) := hc53
          refine w_iload (i := 6) (npc := 68) rfl rfl ?_
          refine w_goto (pt := 139) rfl ?_
          exact w_iret rfl (⟨rfl, rfl, rfl, hI39, hF42, hR41, z51, rfl, trivial⟩) (by omega) (by omega)
      · replace hc35 : ¬ (z34 ≠ (0 : Int)) := hc35
        refine w_aload (i := 0) (npc := 34) rfl rfl rfl ?_
        refine w_const (n := 1) (npc := 35) rfl ?_
        refine w_virt (ci := 8) (i := 81) (npc := 38) (a := [cr 81, ai_i 1]) (rest := []) rfl rfl (hI2.pl (by decide)) (hI2.T (by decide) rfl) rfl rfl rfl rfl (ct_m_fail (sl := sl) (x := x) (d := d + 6) (1) hI2 (by omega)) (Or.inl rfl) (fun k9 v9 T9 E76 nx9 kc9 ks9 hq75 hk9 hs9 => ?_)
        obtain ⟨rfl, rfl, rfl, hI78, hG79, z77, rfl, hz77⟩ := hq75
        obtain rfl : kc = kc9 := by omega
        obtain rfl : ks = ks9 := by omega
        have hF80 := cm_fr.trans hF4 hG79 (by first | (simp; done) | (simp; omega) | (intro i k h; (try simp only at h); (try simp only); omega))
        have hR81 := rl.fr hR5 hG79 (by intro i k h; (try simp only at h); omega)
        have hz82 : E76 81 1 = ai_i z7 := (hG79 81 1 (by simp)).trans hz7
        have ghz82 := gv_eq hz82
        refine Or.inr (Or.inl ⟨rfl, ?_⟩)
        exact w_iret rfl (⟨rfl, rfl, rfl, hI78, hF80, hR81, z77, rfl, trivial⟩) (by omega) (by omega)
set_option maxRecDepth 16384 in
theorem ct_m_whose {sl : Int × Int} {x : ai_E} {d : Nat} {T : cm_T} {E : cm_E} {nx : Nat} (p w : Int) (hI : cs_I T E nx) (hR : rl E) (hp0 : -2147483648 ≤ p ∧ p ≤ 2147483647) (hp1 : -2147483648 ≤ w ∧ w ≤ 2147483647) : cm_ct (ai_ev sl (d + 8)) x 220 [cr 81, ai_i p, ai_i w] T E nx 0 0 (fun rk rv T' E' nx' => rk = 1 ∧ T = T' ∧ nx = nx' ∧ cs_I T E' nx ∧ cm_fr (fun i k => (i = 81 ∧ (k = 0 ∨ k = 12 ∨ k = 13)) ∨ i = 86 ∨ i = 87 ∨ i = 88 ∨ i = 89 ∨ i = 90 ∨ i = 91) E E' ∧ rl E' ∧ ∃ z : Int, rv = ai_i z ∧ (True)) := by
  refine cm_body (M := ai_m220) rfl rfl (fun kc ks => ?_)
  show cm_wp (ai_find ai_c220 sl) (ai_ev sl (d + 7)) x (kc + 0) (ks + 0) _ 0 [cr 81, ai_i p, ai_i w, ai_un, ai_un] [] T E nx kc ks
  have hF : cm_fr (fun i k => (i = 81 ∧ (k = 0 ∨ k = 12 ∨ k = 13)) ∨ i = 86 ∨ i = 87 ∨ i = 88 ∨ i = 89 ∨ i = 90 ∨ i = 91) E E := fun _ _ _ => rfl
  refine w_aload (i := 0) (npc := 1) rfl rfl rfl ?_
  refine w_const (n := 0) (npc := 2) rfl ?_
  refine w_putf (i := 81) (ci := 8) (k := 0) (t := 0) (npc := 5) rfl (hI.pl (by decide)) (hI.T (by decide) rfl) (by decide) cm_fit0 ?_
  have hI2 := hI.puti (i := 81) (k := 0) (z := 0) (lo := 0) (hi := 2) (by decide) rfl (by omega)
  have hF4 := cm_fr.up (i := 81) (k := 0) (v := ai_i 0) hF (by first | (simp; done) | (simp; omega) | (intro i k h; (try simp only at h); (try simp only); omega))
  have hR5 := rl.wr (i := 81) (k := 0) (v := ai_i 0) hR (by simp)
  generalize hE3 : cm_up E 81 0 (ai_i 0) = E1 at hI2 hF4 hR5  ⊢
  have hz6 : E1 81 0 = ai_i 0 := by rw [← hE3, cm_up_eq]
  have ghz6 := gv_eq hz6
  refine w_aload (i := 0) (npc := 6) rfl rfl rfl ?_
  refine w_iload (i := 1) (npc := 7) rfl rfl ?_
  refine w_virt (ci := 8) (i := 81) (npc := 10) (a := [cr 81, ai_i p]) (rest := []) rfl rfl (hI2.pl (by decide)) (hI2.T (by decide) rfl) rfl rfl rfl rfl (ct_m_isWriter (sl := sl) (x := x) (d := d + 5) (p) hI2) (Or.inl rfl) (fun k9 v9 T9 E8 nx9 kc9 ks9 hq7 hk9 hs9 => ?_)
  obtain ⟨rfl, rfl, rfl, rfl, z9, rfl, hz9⟩ := hq7
  obtain rfl : kc = kc9 := by omega
  obtain rfl : ks = ks9 := by omega
  refine Or.inr (Or.inl ⟨rfl, ?_⟩)
  refine w_if (c := .eq) (npc := 13) (pt := 21) rfl (fun hc10 => ?_) (fun hc10 => ?_)
  · replace hc10 : z9 = (0 : Int) := hc10
    refine w_aload (i := 0) (npc := 22) rfl rfl rfl ?_
    refine w_const (n := 1) (npc := 23) rfl ?_
    refine w_virt (ci := 8) (i := 81) (npc := 26) (a := [cr 81, ai_i 1]) (rest := []) rfl rfl (hI2.pl (by decide)) (hI2.T (by decide) rfl) rfl rfl rfl rfl (ct_m_fail (sl := sl) (x := x) (d := d + 6) (1) hI2 (by omega)) (Or.inl rfl) (fun k9 v9 T9 E12 nx9 kc9 ks9 hq11 hk9 hs9 => ?_)
    obtain ⟨rfl, rfl, rfl, hI14, hG15, z13, rfl, hz13⟩ := hq11
    obtain rfl : kc = kc9 := by omega
    obtain rfl : ks = ks9 := by omega
    have hF16 := cm_fr.trans hF4 hG15 (by first | (simp; done) | (simp; omega) | (intro i k h; (try simp only at h); (try simp only); omega))
    have hR17 := rl.fr hR5 hG15 (by intro i k h; (try simp only at h); omega)
    refine Or.inr (Or.inl ⟨rfl, ?_⟩)
    exact w_iret rfl (⟨rfl, rfl, rfl, hI14, hF16, hR17, z13, rfl, trivial⟩) (by omega) (by omega)
  · replace hc10 : ¬ (z9 = (0 : Int)) := hc10
    refine w_aload (i := 0) (npc := 14) rfl rfl rfl ?_
    refine w_iload (i := 2) (npc := 15) rfl rfl ?_
    refine w_virt (ci := 8) (i := 81) (npc := 18) (a := [cr 81, ai_i w]) (rest := []) rfl rfl (hI2.pl (by decide)) (hI2.T (by decide) rfl) rfl rfl rfl rfl (ct_m_isWriter (sl := sl) (x := x) (d := d + 5) (w) hI2) (Or.inl rfl) (fun k9 v9 T9 E19 nx9 kc9 ks9 hq18 hk9 hs9 => ?_)
    obtain ⟨rfl, rfl, rfl, rfl, z20, rfl, hz20⟩ := hq18
    obtain rfl : kc = kc9 := by omega
    obtain rfl : ks = ks9 := by omega
    refine Or.inr (Or.inl ⟨rfl, ?_⟩)
    refine w_if (c := .ne) (npc := 21) (pt := 27) rfl (fun hc21 => ?_) (fun hc21 => ?_)
    · replace hc21 : z20 ≠ (0 : Int) := hc21
      refine w_aload (i := 0) (npc := 28) rfl rfl rfl ?_
      refine w_iload (i := 1) (npc := 29) rfl rfl ?_
      refine w_virt (ci := 8) (i := 81) (npc := 32) (a := [cr 81, ai_i p]) (rest := []) rfl rfl (hI2.pl (by decide)) (hI2.T (by decide) rfl) rfl rfl rfl rfl (ct_m_tellPage (sl := sl) (x := x) (d := d + 0) (p) hI2 hR5 (by omega)) (Or.inl rfl) (fun k9 v9 T9 E23 nx9 kc9 ks9 hq22 hk9 hs9 => ?_)
      obtain ⟨rfl, rfl, rfl, hI25, hG26, hR27, hz24⟩ := hq22
      obtain rfl : kc = kc9 := by omega
      obtain rfl : ks = ks9 := by omega
      have hF28 := cm_fr.trans hF4 hG26 (by first | (simp; done) | (simp; omega) | (intro i k h; (try simp only at h); (try simp only); omega))
      have hx29 : tx E23 := hz24
      have hz30 : E23 81 0 = ai_i 0 := (hG26 81 0 (by simp)).trans hz6
      have ghz30 := gv_eq hz30
      refine Or.inl ⟨rfl, ?_⟩
      refine w_const (n := 0) (npc := 33) rfl ?_
      refine w_istore (i := 3) (npc := 34) (loc' := [cr 81, ai_i p, ai_i w, ai_i 0, ai_un]) rfl rfl ?_
      refine w_const (n := 0) (npc := 35) rfl ?_
      refine w_istore (i := 4) (npc := 37) (loc' := [cr 81, ai_i p, ai_i w, ai_i 0, ai_i 0]) rfl rfl ?_
      have loop37 : ∀ (nf : Nat) (a : Int) (i : Int), ((300 - i).toNat) < nf → (0 ≤ i ∧ i ≤ 300 ∧ 0 ≤ a ∧ a ≤ i) → cm_wp (ai_find ai_c220 sl) (ai_ev sl (d + 7)) x (kc + 0) (ks + 0) (fun rk rv T' E' nx' => rk = 1 ∧ T = T' ∧ nx = nx' ∧ cs_I T E' nx ∧ cm_fr (fun i k => (i = 81 ∧ (k = 0 ∨ k = 12 ∨ k = 13)) ∨ i = 86 ∨ i = 87 ∨ i = 88 ∨ i = 89 ∨ i = 90 ∨ i = 91) E E' ∧ rl E' ∧ ∃ z : Int, rv = ai_i z ∧ (True)) 37 [cr 81, ai_i p, ai_i w, ai_i a, ai_i i] [] T E23 nx kc ks := by
        intro nf
        induction nf with
        | zero => intro a i hm; exact absurd hm (Nat.not_lt_zero _)
        | succ nf37 ih =>
          intro a i hm37 hv37
          have ih37 := ih; clear ih
          refine w_iload (i := 4) (npc := 39) rfl rfl ?_
          refine w_aload (i := 0) (npc := 40) rfl rfl rfl ?_
          obtain ⟨z31, hz31, hz31a, hz31b⟩ := hI25.int 81 13 (lo := 0) (hi := 300) (by decide) (by decide) rfl
          have ghz31 := gv_eq hz31
          refine w_getf (i := 81) (ci := 8) (k := 13) (npc := 43) rfl (hI25.pl (by decide)) (hI25.T (by decide) rfl) (by decide) hz31 ?_
          refine w_icmp (c := .ge) (npc := 46) (pt := 74) rfl (fun hc32 => ?_) (fun hc32 => ?_)
          · replace hc32 : z31 ≤ i := hc32
            refine w_iload (i := 3) (npc := 75) rfl rfl ?_
            exact w_iret rfl (⟨rfl, rfl, rfl, hI25, hF28, hR27, a, rfl, trivial⟩) (by omega) (by omega)
          · replace hc32 : ¬ (z31 ≤ i) := hc32
            refine w_iload (i := 3) (npc := 47) rfl rfl ?_
            refine w_aload (i := 0) (npc := 48) rfl rfl rfl ?_
            refine w_getf (i := 81) (ci := 8) (k := 11) (npc := 51) rfl (hI25.pl (by decide)) (hI25.T (by decide) rfl) (by decide) (hI25.ref 81 11 (p := 91) (by decide) (by decide) rfl) ?_
            refine w_iload (i := 4) (npc := 53) rfl rfl ?_
            obtain ⟨z33, hz33, hz33a, hz33b⟩ := hI25.int 91 (i : Int).toNat (lo := 0) (hi := 299) (by decide) (show (i : Int).toNat < 300 by omega) rfl
            have ghz33 := gv_eq hz33
            refine w_ald (i := 91) (t := 1) (n := 300) (npc := 54) rfl (hI25.pl (by decide)) (hI25.T (by decide) rfl) (by decide) rfl (by omega) hz33 ?_
            refine w_const (n := 60) (npc := 56) rfl ?_
            refine w_idiv (npc := 57) rfl (by omega) (by omega) (fun z34 hz34 hz34b hz34c => ?_)
            refine w_iload (i := 2) (npc := 58) rfl rfl ?_
            refine w_icmp (c := .ne) (npc := 61) (pt := 65) rfl (fun hc35 => ?_) (fun hc35 => ?_)
            · replace hc35 : z34 ≠ w := hc35
              refine w_const (n := 0) (npc := 66) rfl ?_
              refine w_iadd (npc := 67) rfl (by omega) ?_
              refine w_istore (i := 3) (npc := 68) (loc' := [cr 81, ai_i p, ai_i w, ai_i (a + 0), ai_i i]) rfl rfl ?_
              refine w_iinc (i := 4) (n := 1) (npc := 71) (loc' := [cr 81, ai_i p, ai_i w, ai_i (a + 0), ai_i (i + 1)]) rfl rfl (by omega) rfl ?_
              refine w_goto (pt := 37) rfl ?_
              exact ih37 (a + 0) (i + 1) (by omega) (by omega)
            · replace hc35 : ¬ (z34 ≠ w) := hc35
              refine w_const (n := 1) (npc := 62) rfl ?_
              refine w_goto (pt := 66) rfl ?_
              refine w_iadd (npc := 67) rfl (by omega) ?_
              refine w_istore (i := 3) (npc := 68) (loc' := [cr 81, ai_i p, ai_i w, ai_i (a + 1), ai_i i]) rfl rfl ?_
              refine w_iinc (i := 4) (n := 1) (npc := 71) (loc' := [cr 81, ai_i p, ai_i w, ai_i (a + 1), ai_i (i + 1)]) rfl rfl (by omega) rfl ?_
              refine w_goto (pt := 37) rfl ?_
              exact ih37 (a + 1) (i + 1) (by omega) (by omega)
      exact loop37 _ (0) (0) (Nat.lt_succ_self _) (by omega)
    · replace hc21 : ¬ (z20 ≠ (0 : Int)) := hc21
      refine w_aload (i := 0) (npc := 22) rfl rfl rfl ?_
      refine w_const (n := 1) (npc := 23) rfl ?_
      refine w_virt (ci := 8) (i := 81) (npc := 26) (a := [cr 81, ai_i 1]) (rest := []) rfl rfl (hI2.pl (by decide)) (hI2.T (by decide) rfl) rfl rfl rfl rfl (ct_m_fail (sl := sl) (x := x) (d := d + 6) (1) hI2 (by omega)) (Or.inl rfl) (fun k9 v9 T9 E41 nx9 kc9 ks9 hq40 hk9 hs9 => ?_)
      obtain ⟨rfl, rfl, rfl, hI43, hG44, z42, rfl, hz42⟩ := hq40
      obtain rfl : kc = kc9 := by omega
      obtain rfl : ks = ks9 := by omega
      have hF45 := cm_fr.trans hF4 hG44 (by first | (simp; done) | (simp; omega) | (intro i k h; (try simp only at h); (try simp only); omega))
      have hR46 := rl.fr hR5 hG44 (by intro i k h; (try simp only at h); omega)
      refine Or.inr (Or.inl ⟨rfl, ?_⟩)
      exact w_iret rfl (⟨rfl, rfl, rfl, hI43, hF45, hR46, z42, rfl, trivial⟩) (by omega) (by omega)
set_option maxRecDepth 16384 in
theorem ct_m_gone {sl : Int × Int} {x : ai_E} {d : Nat} {T : cm_T} {E : cm_E} {nx : Nat} (p a : Int) (hI : cs_I T E nx) (hR : rl E) (hp0 : -2147483648 ≤ p ∧ p ≤ 2147483647) (hp1 : -2147483648 ≤ a ∧ a ≤ 2147483647) : cm_ct (ai_ev sl (d + 8)) x 161 [cr 81, ai_i p, ai_i a] T E nx 0 0 (fun rk rv T' E' nx' => rk = 1 ∧ T = T' ∧ nx = nx' ∧ cs_I T E' nx ∧ cm_fr (fun i k => (i = 81 ∧ (k = 0 ∨ k = 12 ∨ k = 13)) ∨ i = 86 ∨ i = 87 ∨ i = 88 ∨ i = 89 ∨ i = 90 ∨ i = 91) E E' ∧ rl E' ∧ ∃ z : Int, rv = ai_i z ∧ (True)) := by
  refine cm_body (M := ai_m161) rfl rfl (fun kc ks => ?_)
  show cm_wp (ai_find ai_c161 sl) (ai_ev sl (d + 7)) x (kc + 0) (ks + 0) _ 0 [cr 81, ai_i p, ai_i a, ai_un] [] T E nx kc ks
  have hF : cm_fr (fun i k => (i = 81 ∧ (k = 0 ∨ k = 12 ∨ k = 13)) ∨ i = 86 ∨ i = 87 ∨ i = 88 ∨ i = 89 ∨ i = 90 ∨ i = 91) E E := fun _ _ _ => rfl
  refine w_aload (i := 0) (npc := 1) rfl rfl rfl ?_
  refine w_const (n := 0) (npc := 2) rfl ?_
  refine w_putf (i := 81) (ci := 8) (k := 0) (t := 0) (npc := 5) rfl (hI.pl (by decide)) (hI.T (by decide) rfl) (by decide) cm_fit0 ?_
  have hI2 := hI.puti (i := 81) (k := 0) (z := 0) (lo := 0) (hi := 2) (by decide) rfl (by omega)
  have hF4 := cm_fr.up (i := 81) (k := 0) (v := ai_i 0) hF (by first | (simp; done) | (simp; omega) | (intro i k h; (try simp only at h); (try simp only); omega))
  have hR5 := rl.wr (i := 81) (k := 0) (v := ai_i 0) hR (by simp)
  generalize hE3 : cm_up E 81 0 (ai_i 0) = E1 at hI2 hF4 hR5  ⊢
  have hz6 : E1 81 0 = ai_i 0 := by rw [← hE3, cm_up_eq]
  have ghz6 := gv_eq hz6
  refine w_aload (i := 0) (npc := 6) rfl rfl rfl ?_
  refine w_iload (i := 1) (npc := 7) rfl rfl ?_
  obtain ⟨z7, hz7, hz7a, hz7b⟩ := hI2.int 81 1 (lo := 1) (hi := 5) (by decide) (by decide) rfl
  have ghz7 := gv_eq hz7
  have g0hz7 : gv E 81 1 = z7 := (gv_fr hF4 (by simp)).trans ghz7
  refine w_virt (ci := 8) (i := 81) (npc := 10) (a := [cr 81, ai_i p]) (rest := []) rfl rfl (hI2.pl (by decide)) (hI2.T (by decide) rfl) rfl rfl rfl rfl (ct_m_isWriter (sl := sl) (x := x) (d := d + 5) (p) hI2) (Or.inl rfl) (fun k9 v9 T9 E9 nx9 kc9 ks9 hq8 hk9 hs9 => ?_)
  obtain ⟨rfl, rfl, rfl, rfl, z10, rfl, hz10⟩ := hq8
  obtain rfl : kc = kc9 := by omega
  obtain rfl : ks = ks9 := by omega
  refine Or.inr (Or.inl ⟨rfl, ?_⟩)
  refine w_if (c := .eq) (npc := 13) (pt := 22) rfl (fun hc11 => ?_) (fun hc11 => ?_)
  · replace hc11 : z10 = (0 : Int) := hc11
    refine w_const (n := (-1)) (npc := 23) rfl ?_
    refine w_istore (i := 3) (npc := 24) (loc' := [cr 81, ai_i p, ai_i a, ai_i ((-1))]) rfl rfl ?_
    refine w_iload (i := 3) (npc := 25) rfl rfl ?_
    refine w_const (n := (-1)) (npc := 26) rfl ?_
    refine w_icmp (c := .ne) (npc := 29) (pt := 36) rfl (fun hc12 => ?_) (fun hc12 => ?_)
    · replace hc12 : ((-1) : Int) ≠ (-1) := hc12
      refine w_aload (i := 0) (npc := 37) rfl rfl rfl ?_
      refine w_iload (i := 1) (npc := 38) rfl rfl ?_
      refine w_virt (ci := 8) (i := 81) (npc := 41) (a := [cr 81, ai_i p]) (rest := []) rfl rfl (hI2.pl (by decide)) (hI2.T (by decide) rfl) rfl rfl rfl rfl (ct_m_tellPage (sl := sl) (x := x) (d := d + 0) (p) hI2 hR5 (by omega)) (Or.inl rfl) (fun k9 v9 T9 E14 nx9 kc9 ks9 hq13 hk9 hs9 => ?_)
      obtain ⟨rfl, rfl, rfl, hI16, hG17, hR18, hz15⟩ := hq13
      obtain rfl : kc = kc9 := by omega
      obtain rfl : ks = ks9 := by omega
      have hF19 := cm_fr.trans hF4 hG17 (by first | (simp; done) | (simp; omega) | (intro i k h; (try simp only at h); (try simp only); omega))
      have hx20 : tx E14 := hz15
      have hz21 : E14 81 0 = ai_i 0 := (hG17 81 0 (by simp)).trans hz6
      have ghz21 := gv_eq hz21
      have hz22 : E14 81 1 = ai_i z7 := (hG17 81 1 (by simp)).trans hz7
      have ghz22 := gv_eq hz22
      refine Or.inl ⟨rfl, ?_⟩
      refine w_aload (i := 0) (npc := 42) rfl rfl rfl ?_
      refine w_iload (i := 1) (npc := 43) rfl rfl ?_
      refine w_iload (i := 3) (npc := 44) rfl rfl ?_
      refine w_virt (ci := 8) (i := 81) (npc := 47) (a := [cr 81, ai_i p, ai_i ((-1))]) (rest := []) rfl rfl (hI16.pl (by decide)) (hI16.T (by decide) rfl) rfl rfl rfl rfl (ct_m_isGone (sl := sl) (x := x) (d := d + 4) (p) ((-1)) hI16 (by omega) (by omega)) (Or.inl rfl) (fun k9 v9 T9 E24 nx9 kc9 ks9 hq23 hk9 hs9 => ?_)
      obtain ⟨rfl, rfl, rfl, rfl, z25, rfl, hz25⟩ := hq23
      obtain rfl : kc = kc9 := by omega
      obtain rfl : ks = ks9 := by omega
      refine Or.inr (Or.inl ⟨rfl, ?_⟩)
      exact w_zret rfl (by omega) (⟨rfl, rfl, rfl, hI16, hF19, hR18, z25, rfl, trivial⟩) (by omega) (by omega)
    · replace hc12 : ¬ (((-1) : Int) ≠ (-1)) := hc12
      refine w_aload (i := 0) (npc := 30) rfl rfl rfl ?_
      refine w_const (n := 1) (npc := 31) rfl ?_
      refine w_putf (i := 81) (ci := 8) (k := 0) (t := 0) (npc := 34) rfl (hI2.pl (by decide)) (hI2.T (by decide) rfl) (by decide) cm_fit0 ?_
      have hI27 := hI2.puti (i := 81) (k := 0) (z := 1) (lo := 0) (hi := 2) (by decide) rfl (by omega)
      have hF29 := cm_fr.up (i := 81) (k := 0) (v := ai_i 1) hF4 (by first | (simp; done) | (simp; omega) | (intro i k h; (try simp only at h); (try simp only); omega))
      have hR30 := rl.wr (i := 81) (k := 0) (v := ai_i 1) hR5 (by simp)
      generalize hE28 : cm_up E1 81 0 (ai_i 1) = E26 at hI27 hF29 hR30  ⊢
      have hz31 : E26 81 1 = ai_i z7 := by rw [← hE28, cm_up_ne _ _ (by decide)]; exact hz7
      have ghz31 := gv_eq hz31
      have hz32 : E26 81 0 = ai_i 1 := by rw [← hE28, cm_up_eq]
      have ghz32 := gv_eq hz32
      refine w_const (n := 0) (npc := 35) rfl ?_
      exact w_zret rfl (by omega) (⟨rfl, rfl, rfl, hI27, hF29, hR30, 0, rfl, trivial⟩) (by omega) (by omega)
  · replace hc11 : ¬ (z10 = (0 : Int)) := hc11
    refine w_aload (i := 0) (npc := 14) rfl rfl rfl ?_
    refine w_iload (i := 1) (npc := 15) rfl rfl ?_
    refine w_iload (i := 2) (npc := 16) rfl rfl ?_
    refine w_virt (ci := 8) (i := 81) (npc := 19) (a := [cr 81, ai_i p, ai_i a]) (rest := []) rfl rfl (hI2.pl (by decide)) (hI2.T (by decide) rfl) rfl rfl rfl rfl (ct_m_setNamed (sl := sl) (x := x) (d := d + 2) (p) (a) hI2 (by omega) (by omega)) (Or.inl rfl) (fun k9 v9 T9 E34 nx9 kc9 ks9 hq33 hk9 hs9 => ?_)
    obtain ⟨rfl, rfl, rfl, rfl, z35, rfl, hz35⟩ := hq33
    obtain rfl : kc = kc9 := by omega
    obtain rfl : ks = ks9 := by omega
    refine Or.inr (Or.inl ⟨rfl, ?_⟩)
    refine w_goto (pt := 23) rfl ?_
    refine w_istore (i := 3) (npc := 24) (loc' := [cr 81, ai_i p, ai_i a, ai_i z35]) rfl rfl ?_
    refine w_iload (i := 3) (npc := 25) rfl rfl ?_
    refine w_const (n := (-1)) (npc := 26) rfl ?_
    refine w_icmp (c := .ne) (npc := 29) (pt := 36) rfl (fun hc36 => ?_) (fun hc36 => ?_)
    · replace hc36 : z35 ≠ ((-1) : Int) := hc36
      refine w_aload (i := 0) (npc := 37) rfl rfl rfl ?_
      refine w_iload (i := 1) (npc := 38) rfl rfl ?_
      refine w_virt (ci := 8) (i := 81) (npc := 41) (a := [cr 81, ai_i p]) (rest := []) rfl rfl (hI2.pl (by decide)) (hI2.T (by decide) rfl) rfl rfl rfl rfl (ct_m_tellPage (sl := sl) (x := x) (d := d + 0) (p) hI2 hR5 (by omega)) (Or.inl rfl) (fun k9 v9 T9 E38 nx9 kc9 ks9 hq37 hk9 hs9 => ?_)
      obtain ⟨rfl, rfl, rfl, hI40, hG41, hR42, hz39⟩ := hq37
      obtain rfl : kc = kc9 := by omega
      obtain rfl : ks = ks9 := by omega
      have hF43 := cm_fr.trans hF4 hG41 (by first | (simp; done) | (simp; omega) | (intro i k h; (try simp only at h); (try simp only); omega))
      have hx44 : tx E38 := hz39
      have hz45 : E38 81 0 = ai_i 0 := (hG41 81 0 (by simp)).trans hz6
      have ghz45 := gv_eq hz45
      have hz46 : E38 81 1 = ai_i z7 := (hG41 81 1 (by simp)).trans hz7
      have ghz46 := gv_eq hz46
      refine Or.inl ⟨rfl, ?_⟩
      refine w_aload (i := 0) (npc := 42) rfl rfl rfl ?_
      refine w_iload (i := 1) (npc := 43) rfl rfl ?_
      refine w_iload (i := 3) (npc := 44) rfl rfl ?_
      refine w_virt (ci := 8) (i := 81) (npc := 47) (a := [cr 81, ai_i p, ai_i z35]) (rest := []) rfl rfl (hI40.pl (by decide)) (hI40.T (by decide) rfl) rfl rfl rfl rfl (ct_m_isGone (sl := sl) (x := x) (d := d + 4) (p) (z35) hI40 (by omega) (by omega)) (Or.inl rfl) (fun k9 v9 T9 E48 nx9 kc9 ks9 hq47 hk9 hs9 => ?_)
      obtain ⟨rfl, rfl, rfl, rfl, z49, rfl, hz49⟩ := hq47
      obtain rfl : kc = kc9 := by omega
      obtain rfl : ks = ks9 := by omega
      refine Or.inr (Or.inl ⟨rfl, ?_⟩)
      exact w_zret rfl (by omega) (⟨rfl, rfl, rfl, hI40, hF43, hR42, z49, rfl, trivial⟩) (by omega) (by omega)
    · replace hc36 : ¬ (z35 ≠ ((-1) : Int)) := hc36
      refine w_aload (i := 0) (npc := 30) rfl rfl rfl ?_
      refine w_const (n := 1) (npc := 31) rfl ?_
      refine w_putf (i := 81) (ci := 8) (k := 0) (t := 0) (npc := 34) rfl (hI2.pl (by decide)) (hI2.T (by decide) rfl) (by decide) cm_fit0 ?_
      have hI51 := hI2.puti (i := 81) (k := 0) (z := 1) (lo := 0) (hi := 2) (by decide) rfl (by omega)
      have hF53 := cm_fr.up (i := 81) (k := 0) (v := ai_i 1) hF4 (by first | (simp; done) | (simp; omega) | (intro i k h; (try simp only at h); (try simp only); omega))
      have hR54 := rl.wr (i := 81) (k := 0) (v := ai_i 1) hR5 (by simp)
      generalize hE52 : cm_up E1 81 0 (ai_i 1) = E50 at hI51 hF53 hR54  ⊢
      have hz55 : E50 81 1 = ai_i z7 := by rw [← hE52, cm_up_ne _ _ (by decide)]; exact hz7
      have ghz55 := gv_eq hz55
      have hz56 : E50 81 0 = ai_i 1 := by rw [← hE52, cm_up_eq]
      have ghz56 := gv_eq hz56
      refine w_const (n := 0) (npc := 35) rfl ?_
      exact w_zret rfl (by omega) (⟨rfl, rfl, rfl, hI51, hF53, hR54, 0, rfl, trivial⟩) (by omega) (by omega)
set_option maxRecDepth 16384 in
theorem ct_m_say {sl : Int × Int} {x : ai_E} {d : Nat} {T : cm_T} {E : cm_E} {nx : Nat} (g : Int) (hI : cs_I T E nx) (hR : rl E) (hp0 : -2147483648 ≤ g ∧ g ≤ 2147483647) : cm_ct (ai_ev sl (d + 2)) x 207 [cr 81, ai_i g] T E nx 0 0 (fun rk rv T' E' nx' => rk = 1 ∧ T = T' ∧ nx = nx' ∧ cs_I T E' nx ∧ cm_fr (fun i k => (i = 81 ∧ (k = 0 ∨ k = 23)) ∨ i = 85 ∨ i = 94) E E' ∧ rl E' ∧ ∃ z : Int, rv = ai_i z ∧ ((z = -1 ∧ (gv E 81 23 = 12 ∨ ¬ (32 ≤ g ∧ g ≤ 126)) ∧ gv E' 81 23 = gv E 81 23) ∨ (z = gv E 81 23 + 1 ∧ gv E 81 23 ≤ 11 ∧ 32 ≤ g ∧ g ≤ 126 ∧ gv E' 81 23 = gv E 81 23 + 1))) := by
  refine cm_body (M := ai_m207) rfl rfl (fun kc ks => ?_)
  show cm_wp (ai_find ai_c207 sl) (ai_ev sl (d + 1)) x (kc + 0) (ks + 0) _ 0 [cr 81, ai_i g] [] T E nx kc ks
  have hF : cm_fr (fun i k => (i = 81 ∧ (k = 0 ∨ k = 23)) ∨ i = 85 ∨ i = 94) E E := fun _ _ _ => rfl
  obtain ⟨z1, hz1, hz1a, hz1b⟩ := hI.int 81 23 (lo := 0) (hi := 12) (by decide) (by decide) rfl
  have ghz1 := gv_eq hz1
  refine w_aload (i := 0) (npc := 1) rfl rfl rfl ?_
  refine w_const (n := 0) (npc := 2) rfl ?_
  refine w_putf (i := 81) (ci := 8) (k := 0) (t := 0) (npc := 5) rfl (hI.pl (by decide)) (hI.T (by decide) rfl) (by decide) cm_fit0 ?_
  have hI3 := hI.puti (i := 81) (k := 0) (z := 0) (lo := 0) (hi := 2) (by decide) rfl (by omega)
  have hF5 := cm_fr.up (i := 81) (k := 0) (v := ai_i 0) hF (by first | (simp; done) | (simp; omega) | (intro i k h; (try simp only at h); (try simp only); omega))
  have hR6 := rl.wr (i := 81) (k := 0) (v := ai_i 0) hR (by simp)
  generalize hE4 : cm_up E 81 0 (ai_i 0) = E2 at hI3 hF5 hR6  ⊢
  have hz7 : E2 81 23 = ai_i z1 := by rw [← hE4, cm_up_ne _ _ (by decide)]; exact hz1
  have ghz7 := gv_eq hz7
  have hz8 : E2 81 0 = ai_i 0 := by rw [← hE4, cm_up_eq]
  have ghz8 := gv_eq hz8
  refine w_aload (i := 0) (npc := 6) rfl rfl rfl ?_
  refine w_getf (i := 81) (ci := 8) (k := 23) (npc := 9) rfl (hI3.pl (by decide)) (hI3.T (by decide) rfl) (by decide) hz7 ?_
  refine w_const (n := 12) (npc := 11) rfl ?_
  refine w_icmp (c := .eq) (npc := 14) (pt := 25) rfl (fun hc9 => ?_) (fun hc9 => ?_)
  · replace hc9 : z1 = (12 : Int) := hc9
    refine w_aload (i := 0) (npc := 26) rfl rfl rfl ?_
    refine w_getf (i := 81) (ci := 8) (k := 5) (npc := 29) rfl (hI3.pl (by decide)) (hI3.T (by decide) rfl) (by decide) (hI3.ref 81 5 (p := 85) (by decide) (by decide) rfl) ?_
    refine w_const (n := 2) (npc := 30) rfl ?_
    refine w_dup2 (npc := 31) rfl rfl rfl ?_
    obtain ⟨z10, hz10, hz10a, hz10b⟩ := hI3.int 85 (2 : Int).toNat (lo := (-2147483648)) (hi := 2147483647) (by decide) (show (2 : Int).toNat < 3 by omega) rfl
    have ghz10 := gv_eq hz10
    refine w_ald (i := 85) (t := 1) (n := 3) (npc := 32) rfl (hI3.pl (by decide)) (hI3.T (by decide) rfl) (by decide) rfl (by omega) hz10 ?_
    refine w_const (n := 1) (npc := 33) rfl ?_
    refine w_iaddw (npc := 34) rfl (fun z11 hz11 hz11b => ?_)
    refine w_ast (i := 85) (k := 1) (n := 3) (npc := 35) rfl (hI3.pl (by decide)) (hI3.T (by decide) rfl) (by decide) (by omega) cm_af1 ?_
    have hI13 := hI3.puti (i := 85) (k := (2 : Int).toNat) (z := z11) (lo := (-2147483648)) (hi := 2147483647) (by decide) rfl (by omega)
    have hF15 := cm_fr.up (i := 85) (k := (2 : Int).toNat) (v := ai_i z11) hF5 (by first | (simp; done) | (simp; omega) | (intro i k h; (try simp only at h); (try simp only); omega))
    have hR16 := rl.wr (i := 85) (k := (2 : Int).toNat) (v := ai_i z11) hR6 (by simp)
    generalize hE14 : cm_up E2 85 (2 : Int).toNat (ai_i z11) = E12 at hI13 hF15 hR16  ⊢
    have hz17 : E12 81 23 = ai_i z1 := by rw [← hE14, cm_up_nei _ _ (by decide)]; exact hz7
    have ghz17 := gv_eq hz17
    have hz18 : E12 81 0 = ai_i 0 := by rw [← hE14, cm_up_nei _ _ (by decide)]; exact hz8
    have ghz18 := gv_eq hz18
    have hz19 : E12 85 (2 : Int).toNat = ai_i z11 := by rw [← hE14, cm_up_eq]
    have ghz19 := gv_eq hz19
    refine w_const (n := (-1)) (npc := 36) rfl ?_
    exact w_iret rfl (⟨rfl, rfl, rfl, hI13, hF15, hR16, (-1), rfl, by omega⟩) (by omega) (by omega)
  · replace hc9 : ¬ (z1 = (12 : Int)) := hc9
    refine w_iload (i := 1) (npc := 15) rfl rfl ?_
    refine w_const (n := 32) (npc := 17) rfl ?_
    refine w_const (n := 126) (npc := 19) rfl ?_
    refine w_call (npc := 22) (a := [ai_i g, ai_i 32, ai_i 126]) (rest := []) rfl rfl rfl rfl rfl (ct_m_isIn (sl := sl) (x := x) (d := d + 0) (g) (32) (126)) (Or.inr (fun _ _ _ _ _ hq => by have h1 := hq.1; omega)) (fun k9 v9 T9 E21 nx9 kc9 ks9 hq20 hk9 hs9 => ?_)
    obtain ⟨rfl, rfl, rfl, rfl, z22, rfl, hz22⟩ := hq20
    obtain rfl : kc = kc9 := by omega
    obtain rfl : ks = ks9 := by omega
    refine Or.inr (Or.inl ⟨rfl, ?_⟩)
    refine w_if (c := .ne) (npc := 25) (pt := 37) rfl (fun hc23 => ?_) (fun hc23 => ?_)
    · replace hc23 : z22 ≠ (0 : Int) := hc23
      refine w_aload (i := 0) (npc := 38) rfl rfl rfl ?_
      refine w_getf (i := 81) (ci := 8) (k := 25) (npc := 41) rfl (hI3.pl (by decide)) (hI3.T (by decide) rfl) (by decide) (hI3.ref 81 25 (p := 94) (by decide) (by decide) rfl) ?_
      refine w_aload (i := 0) (npc := 42) rfl rfl rfl ?_
      refine w_getf (i := 81) (ci := 8) (k := 23) (npc := 45) rfl (hI3.pl (by decide)) (hI3.T (by decide) rfl) (by decide) hz7 ?_
      refine w_iload (i := 1) (npc := 46) rfl rfl ?_
      refine w_ast (i := 94) (k := 1) (n := 12) (npc := 47) rfl (hI3.pl (by decide)) (hI3.T (by decide) rfl) (by decide) (by omega) cm_af1 ?_
      have hI25 := hI3.puti (i := 94) (k := (z1 : Int).toNat) (z := g) (lo := 0) (hi := 126) (by decide) rfl (by omega)
      have hF27 := cm_fr.up (i := 94) (k := (z1 : Int).toNat) (v := ai_i g) hF5 (by first | (simp; done) | (simp; omega) | (intro i k h; (try simp only at h); (try simp only); omega))
      have hR28 := rl.wr (i := 94) (k := (z1 : Int).toNat) (v := ai_i g) hR6 (by simp)
      generalize hE26 : cm_up E2 94 (z1 : Int).toNat (ai_i g) = E24 at hI25 hF27 hR28  ⊢
      have hz29 : E24 81 23 = ai_i z1 := by rw [← hE26, cm_up_nei _ _ (by decide)]; exact hz7
      have ghz29 := gv_eq hz29
      have hz30 : E24 81 0 = ai_i 0 := by rw [← hE26, cm_up_nei _ _ (by decide)]; exact hz8
      have ghz30 := gv_eq hz30
      have hz31 : E24 94 (z1 : Int).toNat = ai_i g := by rw [← hE26, cm_up_eq]
      have ghz31 := gv_eq hz31
      refine w_aload (i := 0) (npc := 48) rfl rfl rfl ?_
      refine w_dup (npc := 49) rfl rfl ?_
      refine w_getf (i := 81) (ci := 8) (k := 23) (npc := 52) rfl (hI25.pl (by decide)) (hI25.T (by decide) rfl) (by decide) hz29 ?_
      refine w_const (n := 1) (npc := 53) rfl ?_
      refine w_iadd (npc := 54) rfl (by omega) ?_
      refine w_putf (i := 81) (ci := 8) (k := 23) (t := 0) (npc := 57) rfl (hI25.pl (by decide)) (hI25.T (by decide) rfl) (by decide) cm_fit0 ?_
      have hI34 := hI25.puti (i := 81) (k := 23) (z := z1 + 1) (lo := 0) (hi := 12) (by decide) rfl (by omega)
      have hF36 := cm_fr.up (i := 81) (k := 23) (v := ai_i (z1 + 1)) hF27 (by first | (simp; done) | (simp; omega) | (intro i k h; (try simp only at h); (try simp only); omega))
      have hR37 := rl.wr (i := 81) (k := 23) (v := ai_i (z1 + 1)) hR28 (by simp)
      generalize hE35 : cm_up E24 81 23 (ai_i (z1 + 1)) = E33 at hI34 hF36 hR37  ⊢
      have hz38 : E33 81 0 = ai_i 0 := by rw [← hE35, cm_up_ne _ _ (by decide)]; exact hz30
      have ghz38 := gv_eq hz38
      have hz39 : E33 94 (z1 : Int).toNat = ai_i g := by rw [← hE35, cm_up_nei _ _ (by decide)]; exact hz31
      have ghz39 := gv_eq hz39
      have hz40 : E33 81 23 = ai_i (z1 + 1) := by rw [← hE35, cm_up_eq]
      have ghz40 := gv_eq hz40
      refine w_aload (i := 0) (npc := 58) rfl rfl rfl ?_
      refine w_getf (i := 81) (ci := 8) (k := 23) (npc := 61) rfl (hI34.pl (by decide)) (hI34.T (by decide) rfl) (by decide) hz40 ?_
      exact w_iret rfl (⟨rfl, rfl, rfl, hI34, hF36, hR37, (z1 + 1), rfl, by omega⟩) (by omega) (by omega)
    · replace hc23 : ¬ (z22 ≠ (0 : Int)) := hc23
      refine w_aload (i := 0) (npc := 26) rfl rfl rfl ?_
      refine w_getf (i := 81) (ci := 8) (k := 5) (npc := 29) rfl (hI3.pl (by decide)) (hI3.T (by decide) rfl) (by decide) (hI3.ref 81 5 (p := 85) (by decide) (by decide) rfl) ?_
      refine w_const (n := 2) (npc := 30) rfl ?_
      refine w_dup2 (npc := 31) rfl rfl rfl ?_
      obtain ⟨z41, hz41, hz41a, hz41b⟩ := hI3.int 85 (2 : Int).toNat (lo := (-2147483648)) (hi := 2147483647) (by decide) (show (2 : Int).toNat < 3 by omega) rfl
      have ghz41 := gv_eq hz41
      refine w_ald (i := 85) (t := 1) (n := 3) (npc := 32) rfl (hI3.pl (by decide)) (hI3.T (by decide) rfl) (by decide) rfl (by omega) hz41 ?_
      refine w_const (n := 1) (npc := 33) rfl ?_
      refine w_iaddw (npc := 34) rfl (fun z42 hz42 hz42b => ?_)
      refine w_ast (i := 85) (k := 1) (n := 3) (npc := 35) rfl (hI3.pl (by decide)) (hI3.T (by decide) rfl) (by decide) (by omega) cm_af1 ?_
      have hI44 := hI3.puti (i := 85) (k := (2 : Int).toNat) (z := z42) (lo := (-2147483648)) (hi := 2147483647) (by decide) rfl (by omega)
      have hF46 := cm_fr.up (i := 85) (k := (2 : Int).toNat) (v := ai_i z42) hF5 (by first | (simp; done) | (simp; omega) | (intro i k h; (try simp only at h); (try simp only); omega))
      have hR47 := rl.wr (i := 85) (k := (2 : Int).toNat) (v := ai_i z42) hR6 (by simp)
      generalize hE45 : cm_up E2 85 (2 : Int).toNat (ai_i z42) = E43 at hI44 hF46 hR47  ⊢
      have hz48 : E43 81 23 = ai_i z1 := by rw [← hE45, cm_up_nei _ _ (by decide)]; exact hz7
      have ghz48 := gv_eq hz48
      have hz49 : E43 81 0 = ai_i 0 := by rw [← hE45, cm_up_nei _ _ (by decide)]; exact hz8
      have ghz49 := gv_eq hz49
      have hz50 : E43 85 (2 : Int).toNat = ai_i z42 := by rw [← hE45, cm_up_eq]
      have ghz50 := gv_eq hz50
      refine w_const (n := (-1)) (npc := 36) rfl ?_
      exact w_iret rfl (⟨rfl, rfl, rfl, hI44, hF46, hR47, (-1), rfl, by omega⟩) (by omega) (by omega)
set_option maxRecDepth 16384 in
theorem ct_m_act {sl : Int × Int} {x : ai_E} {d : Nat} {T : cm_T} {E : cm_E} {nx : Nat} (p l g : Int) (hI : cs_I T E nx) (hR : rl E) (hp0 : -2147483648 ≤ p ∧ p ≤ 2147483647) (hp1 : -2147483648 ≤ l ∧ l ≤ 2147483647) (hp2 : -2147483648 ≤ g ∧ g ≤ 2147483647) : cm_ct (ai_ev sl (d + 2)) x 144 [cr 81, ai_i p, ai_i l, ai_i g] T E nx 0 0 (fun rk rv T' E' nx' => rk = 1 ∧ T = T' ∧ nx = nx' ∧ cs_I T E' nx ∧ cm_fr (fun i k => (i = 81 ∧ (k = 0 ∨ k = 24)) ∨ i = 85 ∨ i = 95 ∨ i = 96 ∨ i = 97) E E' ∧ rl E' ∧ ∃ z : Int, rv = ai_i z ∧ ((z = -1 ∧ (gv E 81 24 = 8 ∨ ¬ (0 ≤ p ∧ p ≤ 2 ∧ 0 ≤ l ∧ l ≤ 7 ∧ (g = -1 ∨ (32 ≤ g ∧ g ≤ 126)))) ∧ gv E' 81 24 = gv E 81 24) ∨ (z = gv E 81 24 + 1 ∧ gv E 81 24 ≤ 7 ∧ (0 ≤ p ∧ p ≤ 2 ∧ 0 ≤ l ∧ l ≤ 7 ∧ (g = -1 ∨ (32 ≤ g ∧ g ≤ 126))) ∧ gv E' 81 24 = gv E 81 24 + 1))) := by
  refine cm_body (M := ai_m144) rfl rfl (fun kc ks => ?_)
  show cm_wp (ai_find ai_c144 sl) (ai_ev sl (d + 1)) x (kc + 0) (ks + 0) _ 0 [cr 81, ai_i p, ai_i l, ai_i g, ai_un] [] T E nx kc ks
  have hF : cm_fr (fun i k => (i = 81 ∧ (k = 0 ∨ k = 24)) ∨ i = 85 ∨ i = 95 ∨ i = 96 ∨ i = 97) E E := fun _ _ _ => rfl
  obtain ⟨z1, hz1, hz1a, hz1b⟩ := hI.int 81 24 (lo := 0) (hi := 8) (by decide) (by decide) rfl
  have ghz1 := gv_eq hz1
  refine w_aload (i := 0) (npc := 1) rfl rfl rfl ?_
  refine w_const (n := 0) (npc := 2) rfl ?_
  refine w_putf (i := 81) (ci := 8) (k := 0) (t := 0) (npc := 5) rfl (hI.pl (by decide)) (hI.T (by decide) rfl) (by decide) cm_fit0 ?_
  have hI3 := hI.puti (i := 81) (k := 0) (z := 0) (lo := 0) (hi := 2) (by decide) rfl (by omega)
  have hF5 := cm_fr.up (i := 81) (k := 0) (v := ai_i 0) hF (by first | (simp; done) | (simp; omega) | (intro i k h; (try simp only at h); (try simp only); omega))
  have hR6 := rl.wr (i := 81) (k := 0) (v := ai_i 0) hR (by simp)
  generalize hE4 : cm_up E 81 0 (ai_i 0) = E2 at hI3 hF5 hR6  ⊢
  have hz7 : E2 81 24 = ai_i z1 := by rw [← hE4, cm_up_ne _ _ (by decide)]; exact hz1
  have ghz7 := gv_eq hz7
  have hz8 : E2 81 0 = ai_i 0 := by rw [← hE4, cm_up_eq]
  have ghz8 := gv_eq hz8
  refine w_iload (i := 1) (npc := 6) rfl rfl ?_
  refine w_const (n := 0) (npc := 7) rfl ?_
  refine w_const (n := 2) (npc := 8) rfl ?_
  refine w_call (npc := 11) (a := [ai_i p, ai_i 0, ai_i 2]) (rest := []) rfl rfl rfl rfl rfl (ct_m_isIn (sl := sl) (x := x) (d := d + 0) (p) (0) (2)) (Or.inr (fun _ _ _ _ _ hq => by have h1 := hq.1; omega)) (fun k9 v9 T9 E10 nx9 kc9 ks9 hq9 hk9 hs9 => ?_)
  obtain ⟨rfl, rfl, rfl, rfl, z11, rfl, hz11⟩ := hq9
  obtain rfl : kc = kc9 := by omega
  obtain rfl : ks = ks9 := by omega
  refine Or.inr (Or.inl ⟨rfl, ?_⟩)
  refine w_if (c := .eq) (npc := 14) (pt := 44) rfl (fun hc12 => ?_) (fun hc12 => ?_)
  · replace hc12 : z11 = (0 : Int) := hc12
    refine w_const (n := 0) (npc := 45) rfl ?_
    refine w_istore (i := 4) (npc := 47) (loc' := [cr 81, ai_i p, ai_i l, ai_i g, ai_i 0]) rfl rfl ?_
    refine w_aload (i := 0) (npc := 48) rfl rfl rfl ?_
    refine w_getf (i := 81) (ci := 8) (k := 24) (npc := 51) rfl (hI3.pl (by decide)) (hI3.T (by decide) rfl) (by decide) hz7 ?_
    refine w_const (n := 8) (npc := 53) rfl ?_
    refine w_icmp (c := .eq) (npc := 56) (pt := 61) rfl (fun hc13 => ?_) (fun hc13 => ?_)
    · replace hc13 : z1 = (8 : Int) := hc13
      refine w_aload (i := 0) (npc := 62) rfl rfl rfl ?_
      refine w_getf (i := 81) (ci := 8) (k := 5) (npc := 65) rfl (hI3.pl (by decide)) (hI3.T (by decide) rfl) (by decide) (hI3.ref 81 5 (p := 85) (by decide) (by decide) rfl) ?_
      refine w_const (n := 2) (npc := 66) rfl ?_
      refine w_dup2 (npc := 67) rfl rfl rfl ?_
      obtain ⟨z14, hz14, hz14a, hz14b⟩ := hI3.int 85 (2 : Int).toNat (lo := (-2147483648)) (hi := 2147483647) (by decide) (show (2 : Int).toNat < 3 by omega) rfl
      have ghz14 := gv_eq hz14
      refine w_ald (i := 85) (t := 1) (n := 3) (npc := 68) rfl (hI3.pl (by decide)) (hI3.T (by decide) rfl) (by decide) rfl (by omega) hz14 ?_
      refine w_const (n := 1) (npc := 69) rfl ?_
      refine w_iaddw (npc := 70) rfl (fun z15 hz15 hz15b => ?_)
      refine w_ast (i := 85) (k := 1) (n := 3) (npc := 71) rfl (hI3.pl (by decide)) (hI3.T (by decide) rfl) (by decide) (by omega) cm_af1 ?_
      have hI17 := hI3.puti (i := 85) (k := (2 : Int).toNat) (z := z15) (lo := (-2147483648)) (hi := 2147483647) (by decide) rfl (by omega)
      have hF19 := cm_fr.up (i := 85) (k := (2 : Int).toNat) (v := ai_i z15) hF5 (by first | (simp; done) | (simp; omega) | (intro i k h; (try simp only at h); (try simp only); omega))
      have hR20 := rl.wr (i := 85) (k := (2 : Int).toNat) (v := ai_i z15) hR6 (by simp)
      generalize hE18 : cm_up E2 85 (2 : Int).toNat (ai_i z15) = E16 at hI17 hF19 hR20  ⊢
      have hz21 : E16 81 24 = ai_i z1 := by rw [← hE18, cm_up_nei _ _ (by decide)]; exact hz7
      have ghz21 := gv_eq hz21
      have hz22 : E16 81 0 = ai_i 0 := by rw [← hE18, cm_up_nei _ _ (by decide)]; exact hz8
      have ghz22 := gv_eq hz22
      have hz23 : E16 85 (2 : Int).toNat = ai_i z15 := by rw [← hE18, cm_up_eq]
      have ghz23 := gv_eq hz23
      refine w_const (n := (-1)) (npc := 72) rfl ?_
      exact w_iret rfl (⟨rfl, rfl, rfl, hI17, hF19, hR20, (-1), rfl, by omega⟩) (by omega) (by omega)
    · replace hc13 : ¬ (z1 = (8 : Int)) := hc13
      refine w_iload (i := 4) (npc := 58) rfl rfl ?_
      refine w_if (c := .ne) (npc := 61) (pt := 73) rfl (fun hc24 => ?_) (fun hc24 => ?_)
      · replace hc24 : (0 : Int) ≠ 0 := hc24
        refine w_aload (i := 0) (npc := 74) rfl rfl rfl ?_
        refine w_getf (i := 81) (ci := 8) (k := 26) (npc := 77) rfl (hI3.pl (by decide)) (hI3.T (by decide) rfl) (by decide) (hI3.ref 81 26 (p := 95) (by decide) (by decide) rfl) ?_
        refine w_aload (i := 0) (npc := 78) rfl rfl rfl ?_
        refine w_getf (i := 81) (ci := 8) (k := 24) (npc := 81) rfl (hI3.pl (by decide)) (hI3.T (by decide) rfl) (by decide) hz7 ?_
        refine w_iload (i := 1) (npc := 82) rfl rfl ?_
        refine w_ast (i := 95) (k := 1) (n := 8) (npc := 83) rfl (hI3.pl (by decide)) (hI3.T (by decide) rfl) (by decide) (by omega) cm_af1 ?_
        have hI26 := hI3.puti (i := 95) (k := (z1 : Int).toNat) (z := p) (lo := 0) (hi := 2) (by decide) rfl (by omega)
        have hF28 := cm_fr.up (i := 95) (k := (z1 : Int).toNat) (v := ai_i p) hF5 (by first | (simp; done) | (simp; omega) | (intro i k h; (try simp only at h); (try simp only); omega))
        have hR29 := rl.wr (i := 95) (k := (z1 : Int).toNat) (v := ai_i p) hR6 (by simp)
        generalize hE27 : cm_up E2 95 (z1 : Int).toNat (ai_i p) = E25 at hI26 hF28 hR29  ⊢
        have hz30 : E25 81 24 = ai_i z1 := by rw [← hE27, cm_up_nei _ _ (by decide)]; exact hz7
        have ghz30 := gv_eq hz30
        have hz31 : E25 81 0 = ai_i 0 := by rw [← hE27, cm_up_nei _ _ (by decide)]; exact hz8
        have ghz31 := gv_eq hz31
        have hz32 : E25 95 (z1 : Int).toNat = ai_i p := by rw [← hE27, cm_up_eq]
        have ghz32 := gv_eq hz32
        refine w_aload (i := 0) (npc := 84) rfl rfl rfl ?_
        refine w_getf (i := 81) (ci := 8) (k := 27) (npc := 87) rfl (hI26.pl (by decide)) (hI26.T (by decide) rfl) (by decide) (hI26.ref 81 27 (p := 96) (by decide) (by decide) rfl) ?_
        refine w_aload (i := 0) (npc := 88) rfl rfl rfl ?_
        refine w_getf (i := 81) (ci := 8) (k := 24) (npc := 91) rfl (hI26.pl (by decide)) (hI26.T (by decide) rfl) (by decide) hz30 ?_
        refine w_iload (i := 2) (npc := 92) rfl rfl ?_
        refine w_ast (i := 96) (k := 1) (n := 8) (npc := 93) rfl (hI26.pl (by decide)) (hI26.T (by decide) rfl) (by decide) (by omega) cm_af1 ?_
        have hI34 := hI26.puti (i := 96) (k := (z1 : Int).toNat) (z := l) (lo := 0) (hi := 7) (by decide) rfl (by omega)
        have hF36 := cm_fr.up (i := 96) (k := (z1 : Int).toNat) (v := ai_i l) hF28 (by first | (simp; done) | (simp; omega) | (intro i k h; (try simp only at h); (try simp only); omega))
        have hR37 := rl.wr (i := 96) (k := (z1 : Int).toNat) (v := ai_i l) hR29 (by simp)
        generalize hE35 : cm_up E25 96 (z1 : Int).toNat (ai_i l) = E33 at hI34 hF36 hR37  ⊢
        have hz38 : E33 81 24 = ai_i z1 := by rw [← hE35, cm_up_nei _ _ (by decide)]; exact hz30
        have ghz38 := gv_eq hz38
        have hz39 : E33 81 0 = ai_i 0 := by rw [← hE35, cm_up_nei _ _ (by decide)]; exact hz31
        have ghz39 := gv_eq hz39
        have hz40 : E33 95 (z1 : Int).toNat = ai_i p := by rw [← hE35, cm_up_nei _ _ (by decide)]; exact hz32
        have ghz40 := gv_eq hz40
        have hz41 : E33 96 (z1 : Int).toNat = ai_i l := by rw [← hE35, cm_up_eq]
        have ghz41 := gv_eq hz41
        refine w_aload (i := 0) (npc := 94) rfl rfl rfl ?_
        refine w_getf (i := 81) (ci := 8) (k := 28) (npc := 97) rfl (hI34.pl (by decide)) (hI34.T (by decide) rfl) (by decide) (hI34.ref 81 28 (p := 97) (by decide) (by decide) rfl) ?_
        refine w_aload (i := 0) (npc := 98) rfl rfl rfl ?_
        refine w_getf (i := 81) (ci := 8) (k := 24) (npc := 101) rfl (hI34.pl (by decide)) (hI34.T (by decide) rfl) (by decide) hz38 ?_
        refine w_iload (i := 3) (npc := 102) rfl rfl ?_
        refine w_ast (i := 97) (k := 1) (n := 8) (npc := 103) rfl (hI34.pl (by decide)) (hI34.T (by decide) rfl) (by decide) (by omega) cm_af1 ?_
        have hI43 := hI34.puti (i := 97) (k := (z1 : Int).toNat) (z := g) (lo := (-1)) (hi := 126) (by decide) rfl (by omega)
        have hF45 := cm_fr.up (i := 97) (k := (z1 : Int).toNat) (v := ai_i g) hF36 (by first | (simp; done) | (simp; omega) | (intro i k h; (try simp only at h); (try simp only); omega))
        have hR46 := rl.wr (i := 97) (k := (z1 : Int).toNat) (v := ai_i g) hR37 (by simp)
        generalize hE44 : cm_up E33 97 (z1 : Int).toNat (ai_i g) = E42 at hI43 hF45 hR46  ⊢
        have hz47 : E42 81 24 = ai_i z1 := by rw [← hE44, cm_up_nei _ _ (by decide)]; exact hz38
        have ghz47 := gv_eq hz47
        have hz48 : E42 81 0 = ai_i 0 := by rw [← hE44, cm_up_nei _ _ (by decide)]; exact hz39
        have ghz48 := gv_eq hz48
        have hz49 : E42 95 (z1 : Int).toNat = ai_i p := by rw [← hE44, cm_up_nei _ _ (by decide)]; exact hz40
        have ghz49 := gv_eq hz49
        have hz50 : E42 96 (z1 : Int).toNat = ai_i l := by rw [← hE44, cm_up_nei _ _ (by decide)]; exact hz41
        have ghz50 := gv_eq hz50
        have hz51 : E42 97 (z1 : Int).toNat = ai_i g := by rw [← hE44, cm_up_eq]
        have ghz51 := gv_eq hz51
        refine w_aload (i := 0) (npc := 104) rfl rfl rfl ?_
        refine w_dup (npc := 105) rfl rfl ?_
        refine w_getf (i := 81) (ci := 8) (k := 24) (npc := 108) rfl (hI43.pl (by decide)) (hI43.T (by decide) rfl) (by decide) hz47 ?_
        refine w_const (n := 1) (npc := 109) rfl ?_
        refine w_iadd (npc := 110) rfl (by omega) ?_
        refine w_putf (i := 81) (ci := 8) (k := 24) (t := 0) (npc := 113) rfl (hI43.pl (by decide)) (hI43.T (by decide) rfl) (by decide) cm_fit0 ?_
        have hI54 := hI43.puti (i := 81) (k := 24) (z := z1 + 1) (lo := 0) (hi := 8) (by decide) rfl (by omega)
        have hF56 := cm_fr.up (i := 81) (k := 24) (v := ai_i (z1 + 1)) hF45 (by first | (simp; done) | (simp; omega) | (intro i k h; (try simp only at h); (try simp only); omega))
        have hR57 := rl.wr (i := 81) (k := 24) (v := ai_i (z1 + 1)) hR46 (by simp)
        generalize hE55 : cm_up E42 81 24 (ai_i (z1 + 1)) = E53 at hI54 hF56 hR57  ⊢
        have hz58 : E53 81 0 = ai_i 0 := by rw [← hE55, cm_up_ne _ _ (by decide)]; exact hz48
        have ghz58 := gv_eq hz58
        have hz59 : E53 95 (z1 : Int).toNat = ai_i p := by rw [← hE55, cm_up_nei _ _ (by decide)]; exact hz49
        have ghz59 := gv_eq hz59
        have hz60 : E53 96 (z1 : Int).toNat = ai_i l := by rw [← hE55, cm_up_nei _ _ (by decide)]; exact hz50
        have ghz60 := gv_eq hz60
        have hz61 : E53 97 (z1 : Int).toNat = ai_i g := by rw [← hE55, cm_up_nei _ _ (by decide)]; exact hz51
        have ghz61 := gv_eq hz61
        have hz62 : E53 81 24 = ai_i (z1 + 1) := by rw [← hE55, cm_up_eq]
        have ghz62 := gv_eq hz62
        refine w_aload (i := 0) (npc := 114) rfl rfl rfl ?_
        refine w_getf (i := 81) (ci := 8) (k := 24) (npc := 117) rfl (hI54.pl (by decide)) (hI54.T (by decide) rfl) (by decide) hz62 ?_
        exact w_iret rfl (⟨rfl, rfl, rfl, hI54, hF56, hR57, (z1 + 1), rfl, by omega⟩) (by omega) (by omega)
      · replace hc24 : ¬ ((0 : Int) ≠ 0) := hc24
        refine w_aload (i := 0) (npc := 62) rfl rfl rfl ?_
        refine w_getf (i := 81) (ci := 8) (k := 5) (npc := 65) rfl (hI3.pl (by decide)) (hI3.T (by decide) rfl) (by decide) (hI3.ref 81 5 (p := 85) (by decide) (by decide) rfl) ?_
        refine w_const (n := 2) (npc := 66) rfl ?_
        refine w_dup2 (npc := 67) rfl rfl rfl ?_
        obtain ⟨z63, hz63, hz63a, hz63b⟩ := hI3.int 85 (2 : Int).toNat (lo := (-2147483648)) (hi := 2147483647) (by decide) (show (2 : Int).toNat < 3 by omega) rfl
        have ghz63 := gv_eq hz63
        refine w_ald (i := 85) (t := 1) (n := 3) (npc := 68) rfl (hI3.pl (by decide)) (hI3.T (by decide) rfl) (by decide) rfl (by omega) hz63 ?_
        refine w_const (n := 1) (npc := 69) rfl ?_
        refine w_iaddw (npc := 70) rfl (fun z64 hz64 hz64b => ?_)
        refine w_ast (i := 85) (k := 1) (n := 3) (npc := 71) rfl (hI3.pl (by decide)) (hI3.T (by decide) rfl) (by decide) (by omega) cm_af1 ?_
        have hI66 := hI3.puti (i := 85) (k := (2 : Int).toNat) (z := z64) (lo := (-2147483648)) (hi := 2147483647) (by decide) rfl (by omega)
        have hF68 := cm_fr.up (i := 85) (k := (2 : Int).toNat) (v := ai_i z64) hF5 (by first | (simp; done) | (simp; omega) | (intro i k h; (try simp only at h); (try simp only); omega))
        have hR69 := rl.wr (i := 85) (k := (2 : Int).toNat) (v := ai_i z64) hR6 (by simp)
        generalize hE67 : cm_up E2 85 (2 : Int).toNat (ai_i z64) = E65 at hI66 hF68 hR69  ⊢
        have hz70 : E65 81 24 = ai_i z1 := by rw [← hE67, cm_up_nei _ _ (by decide)]; exact hz7
        have ghz70 := gv_eq hz70
        have hz71 : E65 81 0 = ai_i 0 := by rw [← hE67, cm_up_nei _ _ (by decide)]; exact hz8
        have ghz71 := gv_eq hz71
        have hz72 : E65 85 (2 : Int).toNat = ai_i z64 := by rw [← hE67, cm_up_eq]
        have ghz72 := gv_eq hz72
        refine w_const (n := (-1)) (npc := 72) rfl ?_
        exact w_iret rfl (⟨rfl, rfl, rfl, hI66, hF68, hR69, (-1), rfl, by omega⟩) (by omega) (by omega)
  · replace hc12 : ¬ (z11 = (0 : Int)) := hc12
    refine w_iload (i := 2) (npc := 15) rfl rfl ?_
    refine w_const (n := 0) (npc := 16) rfl ?_
    refine w_const (n := 7) (npc := 18) rfl ?_
    refine w_call (npc := 21) (a := [ai_i l, ai_i 0, ai_i 7]) (rest := []) rfl rfl rfl rfl rfl (ct_m_isIn (sl := sl) (x := x) (d := d + 0) (l) (0) (7)) (Or.inr (fun _ _ _ _ _ hq => by have h1 := hq.1; omega)) (fun k9 v9 T9 E74 nx9 kc9 ks9 hq73 hk9 hs9 => ?_)
    obtain ⟨rfl, rfl, rfl, rfl, z75, rfl, hz75⟩ := hq73
    obtain rfl : kc = kc9 := by omega
    obtain rfl : ks = ks9 := by omega
    refine Or.inr (Or.inl ⟨rfl, ?_⟩)
    refine w_if (c := .eq) (npc := 24) (pt := 44) rfl (fun hc76 => ?_) (fun hc76 => ?_)
    · replace hc76 : z75 = (0 : Int) := hc76
      refine w_const (n := 0) (npc := 45) rfl ?_
      refine w_istore (i := 4) (npc := 47) (loc' := [cr 81, ai_i p, ai_i l, ai_i g, ai_i 0]) rfl rfl ?_
      refine w_aload (i := 0) (npc := 48) rfl rfl rfl ?_
      refine w_getf (i := 81) (ci := 8) (k := 24) (npc := 51) rfl (hI3.pl (by decide)) (hI3.T (by decide) rfl) (by decide) hz7 ?_
      refine w_const (n := 8) (npc := 53) rfl ?_
      refine w_icmp (c := .eq) (npc := 56) (pt := 61) rfl (fun hc77 => ?_) (fun hc77 => ?_)
      · replace hc77 : z1 = (8 : Int) := hc77
        refine w_aload (i := 0) (npc := 62) rfl rfl rfl ?_
        refine w_getf (i := 81) (ci := 8) (k := 5) (npc := 65) rfl (hI3.pl (by decide)) (hI3.T (by decide) rfl) (by decide) (hI3.ref 81 5 (p := 85) (by decide) (by decide) rfl) ?_
        refine w_const (n := 2) (npc := 66) rfl ?_
        refine w_dup2 (npc := 67) rfl rfl rfl ?_
        obtain ⟨z78, hz78, hz78a, hz78b⟩ := hI3.int 85 (2 : Int).toNat (lo := (-2147483648)) (hi := 2147483647) (by decide) (show (2 : Int).toNat < 3 by omega) rfl
        have ghz78 := gv_eq hz78
        refine w_ald (i := 85) (t := 1) (n := 3) (npc := 68) rfl (hI3.pl (by decide)) (hI3.T (by decide) rfl) (by decide) rfl (by omega) hz78 ?_
        refine w_const (n := 1) (npc := 69) rfl ?_
        refine w_iaddw (npc := 70) rfl (fun z79 hz79 hz79b => ?_)
        refine w_ast (i := 85) (k := 1) (n := 3) (npc := 71) rfl (hI3.pl (by decide)) (hI3.T (by decide) rfl) (by decide) (by omega) cm_af1 ?_
        have hI81 := hI3.puti (i := 85) (k := (2 : Int).toNat) (z := z79) (lo := (-2147483648)) (hi := 2147483647) (by decide) rfl (by omega)
        have hF83 := cm_fr.up (i := 85) (k := (2 : Int).toNat) (v := ai_i z79) hF5 (by first | (simp; done) | (simp; omega) | (intro i k h; (try simp only at h); (try simp only); omega))
        have hR84 := rl.wr (i := 85) (k := (2 : Int).toNat) (v := ai_i z79) hR6 (by simp)
        generalize hE82 : cm_up E2 85 (2 : Int).toNat (ai_i z79) = E80 at hI81 hF83 hR84  ⊢
        have hz85 : E80 81 24 = ai_i z1 := by rw [← hE82, cm_up_nei _ _ (by decide)]; exact hz7
        have ghz85 := gv_eq hz85
        have hz86 : E80 81 0 = ai_i 0 := by rw [← hE82, cm_up_nei _ _ (by decide)]; exact hz8
        have ghz86 := gv_eq hz86
        have hz87 : E80 85 (2 : Int).toNat = ai_i z79 := by rw [← hE82, cm_up_eq]
        have ghz87 := gv_eq hz87
        refine w_const (n := (-1)) (npc := 72) rfl ?_
        exact w_iret rfl (⟨rfl, rfl, rfl, hI81, hF83, hR84, (-1), rfl, by omega⟩) (by omega) (by omega)
      · replace hc77 : ¬ (z1 = (8 : Int)) := hc77
        refine w_iload (i := 4) (npc := 58) rfl rfl ?_
        refine w_if (c := .ne) (npc := 61) (pt := 73) rfl (fun hc88 => ?_) (fun hc88 => ?_)
        · replace hc88 : (0 : Int) ≠ 0 := hc88
          refine w_aload (i := 0) (npc := 74) rfl rfl rfl ?_
          refine w_getf (i := 81) (ci := 8) (k := 26) (npc := 77) rfl (hI3.pl (by decide)) (hI3.T (by decide) rfl) (by decide) (hI3.ref 81 26 (p := 95) (by decide) (by decide) rfl) ?_
          refine w_aload (i := 0) (npc := 78) rfl rfl rfl ?_
          refine w_getf (i := 81) (ci := 8) (k := 24) (npc := 81) rfl (hI3.pl (by decide)) (hI3.T (by decide) rfl) (by decide) hz7 ?_
          refine w_iload (i := 1) (npc := 82) rfl rfl ?_
          refine w_ast (i := 95) (k := 1) (n := 8) (npc := 83) rfl (hI3.pl (by decide)) (hI3.T (by decide) rfl) (by decide) (by omega) cm_af1 ?_
          have hI90 := hI3.puti (i := 95) (k := (z1 : Int).toNat) (z := p) (lo := 0) (hi := 2) (by decide) rfl (by omega)
          have hF92 := cm_fr.up (i := 95) (k := (z1 : Int).toNat) (v := ai_i p) hF5 (by first | (simp; done) | (simp; omega) | (intro i k h; (try simp only at h); (try simp only); omega))
          have hR93 := rl.wr (i := 95) (k := (z1 : Int).toNat) (v := ai_i p) hR6 (by simp)
          generalize hE91 : cm_up E2 95 (z1 : Int).toNat (ai_i p) = E89 at hI90 hF92 hR93  ⊢
          have hz94 : E89 81 24 = ai_i z1 := by rw [← hE91, cm_up_nei _ _ (by decide)]; exact hz7
          have ghz94 := gv_eq hz94
          have hz95 : E89 81 0 = ai_i 0 := by rw [← hE91, cm_up_nei _ _ (by decide)]; exact hz8
          have ghz95 := gv_eq hz95
          have hz96 : E89 95 (z1 : Int).toNat = ai_i p := by rw [← hE91, cm_up_eq]
          have ghz96 := gv_eq hz96
          refine w_aload (i := 0) (npc := 84) rfl rfl rfl ?_
          refine w_getf (i := 81) (ci := 8) (k := 27) (npc := 87) rfl (hI90.pl (by decide)) (hI90.T (by decide) rfl) (by decide) (hI90.ref 81 27 (p := 96) (by decide) (by decide) rfl) ?_
          refine w_aload (i := 0) (npc := 88) rfl rfl rfl ?_
          refine w_getf (i := 81) (ci := 8) (k := 24) (npc := 91) rfl (hI90.pl (by decide)) (hI90.T (by decide) rfl) (by decide) hz94 ?_
          refine w_iload (i := 2) (npc := 92) rfl rfl ?_
          refine w_ast (i := 96) (k := 1) (n := 8) (npc := 93) rfl (hI90.pl (by decide)) (hI90.T (by decide) rfl) (by decide) (by omega) cm_af1 ?_
          have hI98 := hI90.puti (i := 96) (k := (z1 : Int).toNat) (z := l) (lo := 0) (hi := 7) (by decide) rfl (by omega)
          have hF100 := cm_fr.up (i := 96) (k := (z1 : Int).toNat) (v := ai_i l) hF92 (by first | (simp; done) | (simp; omega) | (intro i k h; (try simp only at h); (try simp only); omega))
          have hR101 := rl.wr (i := 96) (k := (z1 : Int).toNat) (v := ai_i l) hR93 (by simp)
          generalize hE99 : cm_up E89 96 (z1 : Int).toNat (ai_i l) = E97 at hI98 hF100 hR101  ⊢
          have hz102 : E97 81 24 = ai_i z1 := by rw [← hE99, cm_up_nei _ _ (by decide)]; exact hz94
          have ghz102 := gv_eq hz102
          have hz103 : E97 81 0 = ai_i 0 := by rw [← hE99, cm_up_nei _ _ (by decide)]; exact hz95
          have ghz103 := gv_eq hz103
          have hz104 : E97 95 (z1 : Int).toNat = ai_i p := by rw [← hE99, cm_up_nei _ _ (by decide)]; exact hz96
          have ghz104 := gv_eq hz104
          have hz105 : E97 96 (z1 : Int).toNat = ai_i l := by rw [← hE99, cm_up_eq]
          have ghz105 := gv_eq hz105
          refine w_aload (i := 0) (npc := 94) rfl rfl rfl ?_
          refine w_getf (i := 81) (ci := 8) (k := 28) (npc := 97) rfl (hI98.pl (by decide)) (hI98.T (by decide) rfl) (by decide) (hI98.ref 81 28 (p := 97) (by decide) (by decide) rfl) ?_
          refine w_aload (i := 0) (npc := 98) rfl rfl rfl ?_
          refine w_getf (i := 81) (ci := 8) (k := 24) (npc := 101) rfl (hI98.pl (by decide)) (hI98.T (by decide) rfl) (by decide) hz102 ?_
          refine w_iload (i := 3) (npc := 102) rfl rfl ?_
          refine w_ast (i := 97) (k := 1) (n := 8) (npc := 103) rfl (hI98.pl (by decide)) (hI98.T (by decide) rfl) (by decide) (by omega) cm_af1 ?_
          have hI107 := hI98.puti (i := 97) (k := (z1 : Int).toNat) (z := g) (lo := (-1)) (hi := 126) (by decide) rfl (by omega)
          have hF109 := cm_fr.up (i := 97) (k := (z1 : Int).toNat) (v := ai_i g) hF100 (by first | (simp; done) | (simp; omega) | (intro i k h; (try simp only at h); (try simp only); omega))
          have hR110 := rl.wr (i := 97) (k := (z1 : Int).toNat) (v := ai_i g) hR101 (by simp)
          generalize hE108 : cm_up E97 97 (z1 : Int).toNat (ai_i g) = E106 at hI107 hF109 hR110  ⊢
          have hz111 : E106 81 24 = ai_i z1 := by rw [← hE108, cm_up_nei _ _ (by decide)]; exact hz102
          have ghz111 := gv_eq hz111
          have hz112 : E106 81 0 = ai_i 0 := by rw [← hE108, cm_up_nei _ _ (by decide)]; exact hz103
          have ghz112 := gv_eq hz112
          have hz113 : E106 95 (z1 : Int).toNat = ai_i p := by rw [← hE108, cm_up_nei _ _ (by decide)]; exact hz104
          have ghz113 := gv_eq hz113
          have hz114 : E106 96 (z1 : Int).toNat = ai_i l := by rw [← hE108, cm_up_nei _ _ (by decide)]; exact hz105
          have ghz114 := gv_eq hz114
          have hz115 : E106 97 (z1 : Int).toNat = ai_i g := by rw [← hE108, cm_up_eq]
          have ghz115 := gv_eq hz115
          refine w_aload (i := 0) (npc := 104) rfl rfl rfl ?_
          refine w_dup (npc := 105) rfl rfl ?_
          refine w_getf (i := 81) (ci := 8) (k := 24) (npc := 108) rfl (hI107.pl (by decide)) (hI107.T (by decide) rfl) (by decide) hz111 ?_
          refine w_const (n := 1) (npc := 109) rfl ?_
          refine w_iadd (npc := 110) rfl (by omega) ?_
          refine w_putf (i := 81) (ci := 8) (k := 24) (t := 0) (npc := 113) rfl (hI107.pl (by decide)) (hI107.T (by decide) rfl) (by decide) cm_fit0 ?_
          have hI118 := hI107.puti (i := 81) (k := 24) (z := z1 + 1) (lo := 0) (hi := 8) (by decide) rfl (by omega)
          have hF120 := cm_fr.up (i := 81) (k := 24) (v := ai_i (z1 + 1)) hF109 (by first | (simp; done) | (simp; omega) | (intro i k h; (try simp only at h); (try simp only); omega))
          have hR121 := rl.wr (i := 81) (k := 24) (v := ai_i (z1 + 1)) hR110 (by simp)
          generalize hE119 : cm_up E106 81 24 (ai_i (z1 + 1)) = E117 at hI118 hF120 hR121  ⊢
          have hz122 : E117 81 0 = ai_i 0 := by rw [← hE119, cm_up_ne _ _ (by decide)]; exact hz112
          have ghz122 := gv_eq hz122
          have hz123 : E117 95 (z1 : Int).toNat = ai_i p := by rw [← hE119, cm_up_nei _ _ (by decide)]; exact hz113
          have ghz123 := gv_eq hz123
          have hz124 : E117 96 (z1 : Int).toNat = ai_i l := by rw [← hE119, cm_up_nei _ _ (by decide)]; exact hz114
          have ghz124 := gv_eq hz124
          have hz125 : E117 97 (z1 : Int).toNat = ai_i g := by rw [← hE119, cm_up_nei _ _ (by decide)]; exact hz115
          have ghz125 := gv_eq hz125
          have hz126 : E117 81 24 = ai_i (z1 + 1) := by rw [← hE119, cm_up_eq]
          have ghz126 := gv_eq hz126
          refine w_aload (i := 0) (npc := 114) rfl rfl rfl ?_
          refine w_getf (i := 81) (ci := 8) (k := 24) (npc := 117) rfl (hI118.pl (by decide)) (hI118.T (by decide) rfl) (by decide) hz126 ?_
          exact w_iret rfl (⟨rfl, rfl, rfl, hI118, hF120, hR121, (z1 + 1), rfl, by omega⟩) (by omega) (by omega)
        · replace hc88 : ¬ ((0 : Int) ≠ 0) := hc88
          refine w_aload (i := 0) (npc := 62) rfl rfl rfl ?_
          refine w_getf (i := 81) (ci := 8) (k := 5) (npc := 65) rfl (hI3.pl (by decide)) (hI3.T (by decide) rfl) (by decide) (hI3.ref 81 5 (p := 85) (by decide) (by decide) rfl) ?_
          refine w_const (n := 2) (npc := 66) rfl ?_
          refine w_dup2 (npc := 67) rfl rfl rfl ?_
          obtain ⟨z127, hz127, hz127a, hz127b⟩ := hI3.int 85 (2 : Int).toNat (lo := (-2147483648)) (hi := 2147483647) (by decide) (show (2 : Int).toNat < 3 by omega) rfl
          have ghz127 := gv_eq hz127
          refine w_ald (i := 85) (t := 1) (n := 3) (npc := 68) rfl (hI3.pl (by decide)) (hI3.T (by decide) rfl) (by decide) rfl (by omega) hz127 ?_
          refine w_const (n := 1) (npc := 69) rfl ?_
          refine w_iaddw (npc := 70) rfl (fun z128 hz128 hz128b => ?_)
          refine w_ast (i := 85) (k := 1) (n := 3) (npc := 71) rfl (hI3.pl (by decide)) (hI3.T (by decide) rfl) (by decide) (by omega) cm_af1 ?_
          have hI130 := hI3.puti (i := 85) (k := (2 : Int).toNat) (z := z128) (lo := (-2147483648)) (hi := 2147483647) (by decide) rfl (by omega)
          have hF132 := cm_fr.up (i := 85) (k := (2 : Int).toNat) (v := ai_i z128) hF5 (by first | (simp; done) | (simp; omega) | (intro i k h; (try simp only at h); (try simp only); omega))
          have hR133 := rl.wr (i := 85) (k := (2 : Int).toNat) (v := ai_i z128) hR6 (by simp)
          generalize hE131 : cm_up E2 85 (2 : Int).toNat (ai_i z128) = E129 at hI130 hF132 hR133  ⊢
          have hz134 : E129 81 24 = ai_i z1 := by rw [← hE131, cm_up_nei _ _ (by decide)]; exact hz7
          have ghz134 := gv_eq hz134
          have hz135 : E129 81 0 = ai_i 0 := by rw [← hE131, cm_up_nei _ _ (by decide)]; exact hz8
          have ghz135 := gv_eq hz135
          have hz136 : E129 85 (2 : Int).toNat = ai_i z128 := by rw [← hE131, cm_up_eq]
          have ghz136 := gv_eq hz136
          refine w_const (n := (-1)) (npc := 72) rfl ?_
          exact w_iret rfl (⟨rfl, rfl, rfl, hI130, hF132, hR133, (-1), rfl, by omega⟩) (by omega) (by omega)
    · replace hc76 : ¬ (z75 = (0 : Int)) := hc76
      refine w_iload (i := 3) (npc := 25) rfl rfl ?_
      refine w_const (n := (-1)) (npc := 26) rfl ?_
      refine w_icmp (c := .eq) (npc := 29) (pt := 40) rfl (fun hc137 => ?_) (fun hc137 => ?_)
      · replace hc137 : g = ((-1) : Int) := hc137
        refine w_const (n := 1) (npc := 41) rfl ?_
        refine w_goto (pt := 45) rfl ?_
        refine w_istore (i := 4) (npc := 47) (loc' := [cr 81, ai_i p, ai_i l, ai_i g, ai_i 1]) rfl rfl ?_
        refine w_aload (i := 0) (npc := 48) rfl rfl rfl ?_
        refine w_getf (i := 81) (ci := 8) (k := 24) (npc := 51) rfl (hI3.pl (by decide)) (hI3.T (by decide) rfl) (by decide) hz7 ?_
        refine w_const (n := 8) (npc := 53) rfl ?_
        refine w_icmp (c := .eq) (npc := 56) (pt := 61) rfl (fun hc138 => ?_) (fun hc138 => ?_)
        · replace hc138 : z1 = (8 : Int) := hc138
          refine w_aload (i := 0) (npc := 62) rfl rfl rfl ?_
          refine w_getf (i := 81) (ci := 8) (k := 5) (npc := 65) rfl (hI3.pl (by decide)) (hI3.T (by decide) rfl) (by decide) (hI3.ref 81 5 (p := 85) (by decide) (by decide) rfl) ?_
          refine w_const (n := 2) (npc := 66) rfl ?_
          refine w_dup2 (npc := 67) rfl rfl rfl ?_
          obtain ⟨z139, hz139, hz139a, hz139b⟩ := hI3.int 85 (2 : Int).toNat (lo := (-2147483648)) (hi := 2147483647) (by decide) (show (2 : Int).toNat < 3 by omega) rfl
          have ghz139 := gv_eq hz139
          refine w_ald (i := 85) (t := 1) (n := 3) (npc := 68) rfl (hI3.pl (by decide)) (hI3.T (by decide) rfl) (by decide) rfl (by omega) hz139 ?_
          refine w_const (n := 1) (npc := 69) rfl ?_
          refine w_iaddw (npc := 70) rfl (fun z140 hz140 hz140b => ?_)
          refine w_ast (i := 85) (k := 1) (n := 3) (npc := 71) rfl (hI3.pl (by decide)) (hI3.T (by decide) rfl) (by decide) (by omega) cm_af1 ?_
          have hI142 := hI3.puti (i := 85) (k := (2 : Int).toNat) (z := z140) (lo := (-2147483648)) (hi := 2147483647) (by decide) rfl (by omega)
          have hF144 := cm_fr.up (i := 85) (k := (2 : Int).toNat) (v := ai_i z140) hF5 (by first | (simp; done) | (simp; omega) | (intro i k h; (try simp only at h); (try simp only); omega))
          have hR145 := rl.wr (i := 85) (k := (2 : Int).toNat) (v := ai_i z140) hR6 (by simp)
          generalize hE143 : cm_up E2 85 (2 : Int).toNat (ai_i z140) = E141 at hI142 hF144 hR145  ⊢
          have hz146 : E141 81 24 = ai_i z1 := by rw [← hE143, cm_up_nei _ _ (by decide)]; exact hz7
          have ghz146 := gv_eq hz146
          have hz147 : E141 81 0 = ai_i 0 := by rw [← hE143, cm_up_nei _ _ (by decide)]; exact hz8
          have ghz147 := gv_eq hz147
          have hz148 : E141 85 (2 : Int).toNat = ai_i z140 := by rw [← hE143, cm_up_eq]
          have ghz148 := gv_eq hz148
          refine w_const (n := (-1)) (npc := 72) rfl ?_
          exact w_iret rfl (⟨rfl, rfl, rfl, hI142, hF144, hR145, (-1), rfl, by omega⟩) (by omega) (by omega)
        · replace hc138 : ¬ (z1 = (8 : Int)) := hc138
          refine w_iload (i := 4) (npc := 58) rfl rfl ?_
          refine w_if (c := .ne) (npc := 61) (pt := 73) rfl (fun hc149 => ?_) (fun hc149 => ?_)
          · replace hc149 : (1 : Int) ≠ 0 := hc149
            refine w_aload (i := 0) (npc := 74) rfl rfl rfl ?_
            refine w_getf (i := 81) (ci := 8) (k := 26) (npc := 77) rfl (hI3.pl (by decide)) (hI3.T (by decide) rfl) (by decide) (hI3.ref 81 26 (p := 95) (by decide) (by decide) rfl) ?_
            refine w_aload (i := 0) (npc := 78) rfl rfl rfl ?_
            refine w_getf (i := 81) (ci := 8) (k := 24) (npc := 81) rfl (hI3.pl (by decide)) (hI3.T (by decide) rfl) (by decide) hz7 ?_
            refine w_iload (i := 1) (npc := 82) rfl rfl ?_
            refine w_ast (i := 95) (k := 1) (n := 8) (npc := 83) rfl (hI3.pl (by decide)) (hI3.T (by decide) rfl) (by decide) (by omega) cm_af1 ?_
            have hI151 := hI3.puti (i := 95) (k := (z1 : Int).toNat) (z := p) (lo := 0) (hi := 2) (by decide) rfl (by omega)
            have hF153 := cm_fr.up (i := 95) (k := (z1 : Int).toNat) (v := ai_i p) hF5 (by first | (simp; done) | (simp; omega) | (intro i k h; (try simp only at h); (try simp only); omega))
            have hR154 := rl.wr (i := 95) (k := (z1 : Int).toNat) (v := ai_i p) hR6 (by simp)
            generalize hE152 : cm_up E2 95 (z1 : Int).toNat (ai_i p) = E150 at hI151 hF153 hR154  ⊢
            have hz155 : E150 81 24 = ai_i z1 := by rw [← hE152, cm_up_nei _ _ (by decide)]; exact hz7
            have ghz155 := gv_eq hz155
            have hz156 : E150 81 0 = ai_i 0 := by rw [← hE152, cm_up_nei _ _ (by decide)]; exact hz8
            have ghz156 := gv_eq hz156
            have hz157 : E150 95 (z1 : Int).toNat = ai_i p := by rw [← hE152, cm_up_eq]
            have ghz157 := gv_eq hz157
            refine w_aload (i := 0) (npc := 84) rfl rfl rfl ?_
            refine w_getf (i := 81) (ci := 8) (k := 27) (npc := 87) rfl (hI151.pl (by decide)) (hI151.T (by decide) rfl) (by decide) (hI151.ref 81 27 (p := 96) (by decide) (by decide) rfl) ?_
            refine w_aload (i := 0) (npc := 88) rfl rfl rfl ?_
            refine w_getf (i := 81) (ci := 8) (k := 24) (npc := 91) rfl (hI151.pl (by decide)) (hI151.T (by decide) rfl) (by decide) hz155 ?_
            refine w_iload (i := 2) (npc := 92) rfl rfl ?_
            refine w_ast (i := 96) (k := 1) (n := 8) (npc := 93) rfl (hI151.pl (by decide)) (hI151.T (by decide) rfl) (by decide) (by omega) cm_af1 ?_
            have hI159 := hI151.puti (i := 96) (k := (z1 : Int).toNat) (z := l) (lo := 0) (hi := 7) (by decide) rfl (by omega)
            have hF161 := cm_fr.up (i := 96) (k := (z1 : Int).toNat) (v := ai_i l) hF153 (by first | (simp; done) | (simp; omega) | (intro i k h; (try simp only at h); (try simp only); omega))
            have hR162 := rl.wr (i := 96) (k := (z1 : Int).toNat) (v := ai_i l) hR154 (by simp)
            generalize hE160 : cm_up E150 96 (z1 : Int).toNat (ai_i l) = E158 at hI159 hF161 hR162  ⊢
            have hz163 : E158 81 24 = ai_i z1 := by rw [← hE160, cm_up_nei _ _ (by decide)]; exact hz155
            have ghz163 := gv_eq hz163
            have hz164 : E158 81 0 = ai_i 0 := by rw [← hE160, cm_up_nei _ _ (by decide)]; exact hz156
            have ghz164 := gv_eq hz164
            have hz165 : E158 95 (z1 : Int).toNat = ai_i p := by rw [← hE160, cm_up_nei _ _ (by decide)]; exact hz157
            have ghz165 := gv_eq hz165
            have hz166 : E158 96 (z1 : Int).toNat = ai_i l := by rw [← hE160, cm_up_eq]
            have ghz166 := gv_eq hz166
            refine w_aload (i := 0) (npc := 94) rfl rfl rfl ?_
            refine w_getf (i := 81) (ci := 8) (k := 28) (npc := 97) rfl (hI159.pl (by decide)) (hI159.T (by decide) rfl) (by decide) (hI159.ref 81 28 (p := 97) (by decide) (by decide) rfl) ?_
            refine w_aload (i := 0) (npc := 98) rfl rfl rfl ?_
            refine w_getf (i := 81) (ci := 8) (k := 24) (npc := 101) rfl (hI159.pl (by decide)) (hI159.T (by decide) rfl) (by decide) hz163 ?_
            refine w_iload (i := 3) (npc := 102) rfl rfl ?_
            refine w_ast (i := 97) (k := 1) (n := 8) (npc := 103) rfl (hI159.pl (by decide)) (hI159.T (by decide) rfl) (by decide) (by omega) cm_af1 ?_
            have hI168 := hI159.puti (i := 97) (k := (z1 : Int).toNat) (z := g) (lo := (-1)) (hi := 126) (by decide) rfl (by omega)
            have hF170 := cm_fr.up (i := 97) (k := (z1 : Int).toNat) (v := ai_i g) hF161 (by first | (simp; done) | (simp; omega) | (intro i k h; (try simp only at h); (try simp only); omega))
            have hR171 := rl.wr (i := 97) (k := (z1 : Int).toNat) (v := ai_i g) hR162 (by simp)
            generalize hE169 : cm_up E158 97 (z1 : Int).toNat (ai_i g) = E167 at hI168 hF170 hR171  ⊢
            have hz172 : E167 81 24 = ai_i z1 := by rw [← hE169, cm_up_nei _ _ (by decide)]; exact hz163
            have ghz172 := gv_eq hz172
            have hz173 : E167 81 0 = ai_i 0 := by rw [← hE169, cm_up_nei _ _ (by decide)]; exact hz164
            have ghz173 := gv_eq hz173
            have hz174 : E167 95 (z1 : Int).toNat = ai_i p := by rw [← hE169, cm_up_nei _ _ (by decide)]; exact hz165
            have ghz174 := gv_eq hz174
            have hz175 : E167 96 (z1 : Int).toNat = ai_i l := by rw [← hE169, cm_up_nei _ _ (by decide)]; exact hz166
            have ghz175 := gv_eq hz175
            have hz176 : E167 97 (z1 : Int).toNat = ai_i g := by rw [← hE169, cm_up_eq]
            have ghz176 := gv_eq hz176
            refine w_aload (i := 0) (npc := 104) rfl rfl rfl ?_
            refine w_dup (npc := 105) rfl rfl ?_
            refine w_getf (i := 81) (ci := 8) (k := 24) (npc := 108) rfl (hI168.pl (by decide)) (hI168.T (by decide) rfl) (by decide) hz172 ?_
            refine w_const (n := 1) (npc := 109) rfl ?_
            refine w_iadd (npc := 110) rfl (by omega) ?_
            refine w_putf (i := 81) (ci := 8) (k := 24) (t := 0) (npc := 113) rfl (hI168.pl (by decide)) (hI168.T (by decide) rfl) (by decide) cm_fit0 ?_
            have hI179 := hI168.puti (i := 81) (k := 24) (z := z1 + 1) (lo := 0) (hi := 8) (by decide) rfl (by omega)
            have hF181 := cm_fr.up (i := 81) (k := 24) (v := ai_i (z1 + 1)) hF170 (by first | (simp; done) | (simp; omega) | (intro i k h; (try simp only at h); (try simp only); omega))
            have hR182 := rl.wr (i := 81) (k := 24) (v := ai_i (z1 + 1)) hR171 (by simp)
            generalize hE180 : cm_up E167 81 24 (ai_i (z1 + 1)) = E178 at hI179 hF181 hR182  ⊢
            have hz183 : E178 81 0 = ai_i 0 := by rw [← hE180, cm_up_ne _ _ (by decide)]; exact hz173
            have ghz183 := gv_eq hz183
            have hz184 : E178 95 (z1 : Int).toNat = ai_i p := by rw [← hE180, cm_up_nei _ _ (by decide)]; exact hz174
            have ghz184 := gv_eq hz184
            have hz185 : E178 96 (z1 : Int).toNat = ai_i l := by rw [← hE180, cm_up_nei _ _ (by decide)]; exact hz175
            have ghz185 := gv_eq hz185
            have hz186 : E178 97 (z1 : Int).toNat = ai_i g := by rw [← hE180, cm_up_nei _ _ (by decide)]; exact hz176
            have ghz186 := gv_eq hz186
            have hz187 : E178 81 24 = ai_i (z1 + 1) := by rw [← hE180, cm_up_eq]
            have ghz187 := gv_eq hz187
            refine w_aload (i := 0) (npc := 114) rfl rfl rfl ?_
            refine w_getf (i := 81) (ci := 8) (k := 24) (npc := 117) rfl (hI179.pl (by decide)) (hI179.T (by decide) rfl) (by decide) hz187 ?_
            exact w_iret rfl (⟨rfl, rfl, rfl, hI179, hF181, hR182, (z1 + 1), rfl, by omega⟩) (by omega) (by omega)
          · replace hc149 : ¬ ((1 : Int) ≠ 0) := hc149
            refine w_aload (i := 0) (npc := 62) rfl rfl rfl ?_
            refine w_getf (i := 81) (ci := 8) (k := 5) (npc := 65) rfl (hI3.pl (by decide)) (hI3.T (by decide) rfl) (by decide) (hI3.ref 81 5 (p := 85) (by decide) (by decide) rfl) ?_
            refine w_const (n := 2) (npc := 66) rfl ?_
            refine w_dup2 (npc := 67) rfl rfl rfl ?_
            obtain ⟨z188, hz188, hz188a, hz188b⟩ := hI3.int 85 (2 : Int).toNat (lo := (-2147483648)) (hi := 2147483647) (by decide) (show (2 : Int).toNat < 3 by omega) rfl
            have ghz188 := gv_eq hz188
            refine w_ald (i := 85) (t := 1) (n := 3) (npc := 68) rfl (hI3.pl (by decide)) (hI3.T (by decide) rfl) (by decide) rfl (by omega) hz188 ?_
            refine w_const (n := 1) (npc := 69) rfl ?_
            refine w_iaddw (npc := 70) rfl (fun z189 hz189 hz189b => ?_)
            refine w_ast (i := 85) (k := 1) (n := 3) (npc := 71) rfl (hI3.pl (by decide)) (hI3.T (by decide) rfl) (by decide) (by omega) cm_af1 ?_
            have hI191 := hI3.puti (i := 85) (k := (2 : Int).toNat) (z := z189) (lo := (-2147483648)) (hi := 2147483647) (by decide) rfl (by omega)
            have hF193 := cm_fr.up (i := 85) (k := (2 : Int).toNat) (v := ai_i z189) hF5 (by first | (simp; done) | (simp; omega) | (intro i k h; (try simp only at h); (try simp only); omega))
            have hR194 := rl.wr (i := 85) (k := (2 : Int).toNat) (v := ai_i z189) hR6 (by simp)
            generalize hE192 : cm_up E2 85 (2 : Int).toNat (ai_i z189) = E190 at hI191 hF193 hR194  ⊢
            have hz195 : E190 81 24 = ai_i z1 := by rw [← hE192, cm_up_nei _ _ (by decide)]; exact hz7
            have ghz195 := gv_eq hz195
            have hz196 : E190 81 0 = ai_i 0 := by rw [← hE192, cm_up_nei _ _ (by decide)]; exact hz8
            have ghz196 := gv_eq hz196
            have hz197 : E190 85 (2 : Int).toNat = ai_i z189 := by rw [← hE192, cm_up_eq]
            have ghz197 := gv_eq hz197
            refine w_const (n := (-1)) (npc := 72) rfl ?_
            exact w_iret rfl (⟨rfl, rfl, rfl, hI191, hF193, hR194, (-1), rfl, by omega⟩) (by omega) (by omega)
      · replace hc137 : ¬ (g = ((-1) : Int)) := hc137
        refine w_iload (i := 3) (npc := 30) rfl rfl ?_
        refine w_const (n := 32) (npc := 32) rfl ?_
        refine w_const (n := 126) (npc := 34) rfl ?_
        refine w_call (npc := 37) (a := [ai_i g, ai_i 32, ai_i 126]) (rest := []) rfl rfl rfl rfl rfl (ct_m_isIn (sl := sl) (x := x) (d := d + 0) (g) (32) (126)) (Or.inr (fun _ _ _ _ _ hq => by have h1 := hq.1; omega)) (fun k9 v9 T9 E199 nx9 kc9 ks9 hq198 hk9 hs9 => ?_)
        obtain ⟨rfl, rfl, rfl, rfl, z200, rfl, hz200⟩ := hq198
        obtain rfl : kc = kc9 := by omega
        obtain rfl : ks = ks9 := by omega
        refine Or.inr (Or.inl ⟨rfl, ?_⟩)
        refine w_if (c := .eq) (npc := 40) (pt := 44) rfl (fun hc201 => ?_) (fun hc201 => ?_)
        · replace hc201 : z200 = (0 : Int) := hc201
          refine w_const (n := 0) (npc := 45) rfl ?_
          refine w_istore (i := 4) (npc := 47) (loc' := [cr 81, ai_i p, ai_i l, ai_i g, ai_i 0]) rfl rfl ?_
          refine w_aload (i := 0) (npc := 48) rfl rfl rfl ?_
          refine w_getf (i := 81) (ci := 8) (k := 24) (npc := 51) rfl (hI3.pl (by decide)) (hI3.T (by decide) rfl) (by decide) hz7 ?_
          refine w_const (n := 8) (npc := 53) rfl ?_
          refine w_icmp (c := .eq) (npc := 56) (pt := 61) rfl (fun hc202 => ?_) (fun hc202 => ?_)
          · replace hc202 : z1 = (8 : Int) := hc202
            refine w_aload (i := 0) (npc := 62) rfl rfl rfl ?_
            refine w_getf (i := 81) (ci := 8) (k := 5) (npc := 65) rfl (hI3.pl (by decide)) (hI3.T (by decide) rfl) (by decide) (hI3.ref 81 5 (p := 85) (by decide) (by decide) rfl) ?_
            refine w_const (n := 2) (npc := 66) rfl ?_
            refine w_dup2 (npc := 67) rfl rfl rfl ?_
            obtain ⟨z203, hz203, hz203a, hz203b⟩ := hI3.int 85 (2 : Int).toNat (lo := (-2147483648)) (hi := 2147483647) (by decide) (show (2 : Int).toNat < 3 by omega) rfl
            have ghz203 := gv_eq hz203
            refine w_ald (i := 85) (t := 1) (n := 3) (npc := 68) rfl (hI3.pl (by decide)) (hI3.T (by decide) rfl) (by decide) rfl (by omega) hz203 ?_
            refine w_const (n := 1) (npc := 69) rfl ?_
            refine w_iaddw (npc := 70) rfl (fun z204 hz204 hz204b => ?_)
            refine w_ast (i := 85) (k := 1) (n := 3) (npc := 71) rfl (hI3.pl (by decide)) (hI3.T (by decide) rfl) (by decide) (by omega) cm_af1 ?_
            have hI206 := hI3.puti (i := 85) (k := (2 : Int).toNat) (z := z204) (lo := (-2147483648)) (hi := 2147483647) (by decide) rfl (by omega)
            have hF208 := cm_fr.up (i := 85) (k := (2 : Int).toNat) (v := ai_i z204) hF5 (by first | (simp; done) | (simp; omega) | (intro i k h; (try simp only at h); (try simp only); omega))
            have hR209 := rl.wr (i := 85) (k := (2 : Int).toNat) (v := ai_i z204) hR6 (by simp)
            generalize hE207 : cm_up E2 85 (2 : Int).toNat (ai_i z204) = E205 at hI206 hF208 hR209  ⊢
            have hz210 : E205 81 24 = ai_i z1 := by rw [← hE207, cm_up_nei _ _ (by decide)]; exact hz7
            have ghz210 := gv_eq hz210
            have hz211 : E205 81 0 = ai_i 0 := by rw [← hE207, cm_up_nei _ _ (by decide)]; exact hz8
            have ghz211 := gv_eq hz211
            have hz212 : E205 85 (2 : Int).toNat = ai_i z204 := by rw [← hE207, cm_up_eq]
            have ghz212 := gv_eq hz212
            refine w_const (n := (-1)) (npc := 72) rfl ?_
            exact w_iret rfl (⟨rfl, rfl, rfl, hI206, hF208, hR209, (-1), rfl, by omega⟩) (by omega) (by omega)
          · replace hc202 : ¬ (z1 = (8 : Int)) := hc202
            refine w_iload (i := 4) (npc := 58) rfl rfl ?_
            refine w_if (c := .ne) (npc := 61) (pt := 73) rfl (fun hc213 => ?_) (fun hc213 => ?_)
            · replace hc213 : (0 : Int) ≠ 0 := hc213
              refine w_aload (i := 0) (npc := 74) rfl rfl rfl ?_
              refine w_getf (i := 81) (ci := 8) (k := 26) (npc := 77) rfl (hI3.pl (by decide)) (hI3.T (by decide) rfl) (by decide) (hI3.ref 81 26 (p := 95) (by decide) (by decide) rfl) ?_
              refine w_aload (i := 0) (npc := 78) rfl rfl rfl ?_
              refine w_getf (i := 81) (ci := 8) (k := 24) (npc := 81) rfl (hI3.pl (by decide)) (hI3.T (by decide) rfl) (by decide) hz7 ?_
              refine w_iload (i := 1) (npc := 82) rfl rfl ?_
              refine w_ast (i := 95) (k := 1) (n := 8) (npc := 83) rfl (hI3.pl (by decide)) (hI3.T (by decide) rfl) (by decide) (by omega) cm_af1 ?_
              have hI215 := hI3.puti (i := 95) (k := (z1 : Int).toNat) (z := p) (lo := 0) (hi := 2) (by decide) rfl (by omega)
              have hF217 := cm_fr.up (i := 95) (k := (z1 : Int).toNat) (v := ai_i p) hF5 (by first | (simp; done) | (simp; omega) | (intro i k h; (try simp only at h); (try simp only); omega))
              have hR218 := rl.wr (i := 95) (k := (z1 : Int).toNat) (v := ai_i p) hR6 (by simp)
              generalize hE216 : cm_up E2 95 (z1 : Int).toNat (ai_i p) = E214 at hI215 hF217 hR218  ⊢
              have hz219 : E214 81 24 = ai_i z1 := by rw [← hE216, cm_up_nei _ _ (by decide)]; exact hz7
              have ghz219 := gv_eq hz219
              have hz220 : E214 81 0 = ai_i 0 := by rw [← hE216, cm_up_nei _ _ (by decide)]; exact hz8
              have ghz220 := gv_eq hz220
              have hz221 : E214 95 (z1 : Int).toNat = ai_i p := by rw [← hE216, cm_up_eq]
              have ghz221 := gv_eq hz221
              refine w_aload (i := 0) (npc := 84) rfl rfl rfl ?_
              refine w_getf (i := 81) (ci := 8) (k := 27) (npc := 87) rfl (hI215.pl (by decide)) (hI215.T (by decide) rfl) (by decide) (hI215.ref 81 27 (p := 96) (by decide) (by decide) rfl) ?_
              refine w_aload (i := 0) (npc := 88) rfl rfl rfl ?_
              refine w_getf (i := 81) (ci := 8) (k := 24) (npc := 91) rfl (hI215.pl (by decide)) (hI215.T (by decide) rfl) (by decide) hz219 ?_
              refine w_iload (i := 2) (npc := 92) rfl rfl ?_
              refine w_ast (i := 96) (k := 1) (n := 8) (npc := 93) rfl (hI215.pl (by decide)) (hI215.T (by decide) rfl) (by decide) (by omega) cm_af1 ?_
              have hI223 := hI215.puti (i := 96) (k := (z1 : Int).toNat) (z := l) (lo := 0) (hi := 7) (by decide) rfl (by omega)
              have hF225 := cm_fr.up (i := 96) (k := (z1 : Int).toNat) (v := ai_i l) hF217 (by first | (simp; done) | (simp; omega) | (intro i k h; (try simp only at h); (try simp only); omega))
              have hR226 := rl.wr (i := 96) (k := (z1 : Int).toNat) (v := ai_i l) hR218 (by simp)
              generalize hE224 : cm_up E214 96 (z1 : Int).toNat (ai_i l) = E222 at hI223 hF225 hR226  ⊢
              have hz227 : E222 81 24 = ai_i z1 := by rw [← hE224, cm_up_nei _ _ (by decide)]; exact hz219
              have ghz227 := gv_eq hz227
              have hz228 : E222 81 0 = ai_i 0 := by rw [← hE224, cm_up_nei _ _ (by decide)]; exact hz220
              have ghz228 := gv_eq hz228
              have hz229 : E222 95 (z1 : Int).toNat = ai_i p := by rw [← hE224, cm_up_nei _ _ (by decide)]; exact hz221
              have ghz229 := gv_eq hz229
              have hz230 : E222 96 (z1 : Int).toNat = ai_i l := by rw [← hE224, cm_up_eq]
              have ghz230 := gv_eq hz230
              refine w_aload (i := 0) (npc := 94) rfl rfl rfl ?_
              refine w_getf (i := 81) (ci := 8) (k := 28) (npc := 97) rfl (hI223.pl (by decide)) (hI223.T (by decide) rfl) (by decide) (hI223.ref 81 28 (p := 97) (by decide) (by decide) rfl) ?_
              refine w_aload (i := 0) (npc := 98) rfl rfl rfl ?_
              refine w_getf (i := 81) (ci := 8) (k := 24) (npc := 101) rfl (hI223.pl (by decide)) (hI223.T (by decide) rfl) (by decide) hz227 ?_
              refine w_iload (i := 3) (npc := 102) rfl rfl ?_
              refine w_ast (i := 97) (k := 1) (n := 8) (npc := 103) rfl (hI223.pl (by decide)) (hI223.T (by decide) rfl) (by decide) (by omega) cm_af1 ?_
              have hI232 := hI223.puti (i := 97) (k := (z1 : Int).toNat) (z := g) (lo := (-1)) (hi := 126) (by decide) rfl (by omega)
              have hF234 := cm_fr.up (i := 97) (k := (z1 : Int).toNat) (v := ai_i g) hF225 (by first | (simp; done) | (simp; omega) | (intro i k h; (try simp only at h); (try simp only); omega))
              have hR235 := rl.wr (i := 97) (k := (z1 : Int).toNat) (v := ai_i g) hR226 (by simp)
              generalize hE233 : cm_up E222 97 (z1 : Int).toNat (ai_i g) = E231 at hI232 hF234 hR235  ⊢
              have hz236 : E231 81 24 = ai_i z1 := by rw [← hE233, cm_up_nei _ _ (by decide)]; exact hz227
              have ghz236 := gv_eq hz236
              have hz237 : E231 81 0 = ai_i 0 := by rw [← hE233, cm_up_nei _ _ (by decide)]; exact hz228
              have ghz237 := gv_eq hz237
              have hz238 : E231 95 (z1 : Int).toNat = ai_i p := by rw [← hE233, cm_up_nei _ _ (by decide)]; exact hz229
              have ghz238 := gv_eq hz238
              have hz239 : E231 96 (z1 : Int).toNat = ai_i l := by rw [← hE233, cm_up_nei _ _ (by decide)]; exact hz230
              have ghz239 := gv_eq hz239
              have hz240 : E231 97 (z1 : Int).toNat = ai_i g := by rw [← hE233, cm_up_eq]
              have ghz240 := gv_eq hz240
              refine w_aload (i := 0) (npc := 104) rfl rfl rfl ?_
              refine w_dup (npc := 105) rfl rfl ?_
              refine w_getf (i := 81) (ci := 8) (k := 24) (npc := 108) rfl (hI232.pl (by decide)) (hI232.T (by decide) rfl) (by decide) hz236 ?_
              refine w_const (n := 1) (npc := 109) rfl ?_
              refine w_iadd (npc := 110) rfl (by omega) ?_
              refine w_putf (i := 81) (ci := 8) (k := 24) (t := 0) (npc := 113) rfl (hI232.pl (by decide)) (hI232.T (by decide) rfl) (by decide) cm_fit0 ?_
              have hI243 := hI232.puti (i := 81) (k := 24) (z := z1 + 1) (lo := 0) (hi := 8) (by decide) rfl (by omega)
              have hF245 := cm_fr.up (i := 81) (k := 24) (v := ai_i (z1 + 1)) hF234 (by first | (simp; done) | (simp; omega) | (intro i k h; (try simp only at h); (try simp only); omega))
              have hR246 := rl.wr (i := 81) (k := 24) (v := ai_i (z1 + 1)) hR235 (by simp)
              generalize hE244 : cm_up E231 81 24 (ai_i (z1 + 1)) = E242 at hI243 hF245 hR246  ⊢
              have hz247 : E242 81 0 = ai_i 0 := by rw [← hE244, cm_up_ne _ _ (by decide)]; exact hz237
              have ghz247 := gv_eq hz247
              have hz248 : E242 95 (z1 : Int).toNat = ai_i p := by rw [← hE244, cm_up_nei _ _ (by decide)]; exact hz238
              have ghz248 := gv_eq hz248
              have hz249 : E242 96 (z1 : Int).toNat = ai_i l := by rw [← hE244, cm_up_nei _ _ (by decide)]; exact hz239
              have ghz249 := gv_eq hz249
              have hz250 : E242 97 (z1 : Int).toNat = ai_i g := by rw [← hE244, cm_up_nei _ _ (by decide)]; exact hz240
              have ghz250 := gv_eq hz250
              have hz251 : E242 81 24 = ai_i (z1 + 1) := by rw [← hE244, cm_up_eq]
              have ghz251 := gv_eq hz251
              refine w_aload (i := 0) (npc := 114) rfl rfl rfl ?_
              refine w_getf (i := 81) (ci := 8) (k := 24) (npc := 117) rfl (hI243.pl (by decide)) (hI243.T (by decide) rfl) (by decide) hz251 ?_
              exact w_iret rfl (⟨rfl, rfl, rfl, hI243, hF245, hR246, (z1 + 1), rfl, by omega⟩) (by omega) (by omega)
            · replace hc213 : ¬ ((0 : Int) ≠ 0) := hc213
              refine w_aload (i := 0) (npc := 62) rfl rfl rfl ?_
              refine w_getf (i := 81) (ci := 8) (k := 5) (npc := 65) rfl (hI3.pl (by decide)) (hI3.T (by decide) rfl) (by decide) (hI3.ref 81 5 (p := 85) (by decide) (by decide) rfl) ?_
              refine w_const (n := 2) (npc := 66) rfl ?_
              refine w_dup2 (npc := 67) rfl rfl rfl ?_
              obtain ⟨z252, hz252, hz252a, hz252b⟩ := hI3.int 85 (2 : Int).toNat (lo := (-2147483648)) (hi := 2147483647) (by decide) (show (2 : Int).toNat < 3 by omega) rfl
              have ghz252 := gv_eq hz252
              refine w_ald (i := 85) (t := 1) (n := 3) (npc := 68) rfl (hI3.pl (by decide)) (hI3.T (by decide) rfl) (by decide) rfl (by omega) hz252 ?_
              refine w_const (n := 1) (npc := 69) rfl ?_
              refine w_iaddw (npc := 70) rfl (fun z253 hz253 hz253b => ?_)
              refine w_ast (i := 85) (k := 1) (n := 3) (npc := 71) rfl (hI3.pl (by decide)) (hI3.T (by decide) rfl) (by decide) (by omega) cm_af1 ?_
              have hI255 := hI3.puti (i := 85) (k := (2 : Int).toNat) (z := z253) (lo := (-2147483648)) (hi := 2147483647) (by decide) rfl (by omega)
              have hF257 := cm_fr.up (i := 85) (k := (2 : Int).toNat) (v := ai_i z253) hF5 (by first | (simp; done) | (simp; omega) | (intro i k h; (try simp only at h); (try simp only); omega))
              have hR258 := rl.wr (i := 85) (k := (2 : Int).toNat) (v := ai_i z253) hR6 (by simp)
              generalize hE256 : cm_up E2 85 (2 : Int).toNat (ai_i z253) = E254 at hI255 hF257 hR258  ⊢
              have hz259 : E254 81 24 = ai_i z1 := by rw [← hE256, cm_up_nei _ _ (by decide)]; exact hz7
              have ghz259 := gv_eq hz259
              have hz260 : E254 81 0 = ai_i 0 := by rw [← hE256, cm_up_nei _ _ (by decide)]; exact hz8
              have ghz260 := gv_eq hz260
              have hz261 : E254 85 (2 : Int).toNat = ai_i z253 := by rw [← hE256, cm_up_eq]
              have ghz261 := gv_eq hz261
              refine w_const (n := (-1)) (npc := 72) rfl ?_
              exact w_iret rfl (⟨rfl, rfl, rfl, hI255, hF257, hR258, (-1), rfl, by omega⟩) (by omega) (by omega)
        · replace hc201 : ¬ (z200 = (0 : Int)) := hc201
          refine w_const (n := 1) (npc := 41) rfl ?_
          refine w_goto (pt := 45) rfl ?_
          refine w_istore (i := 4) (npc := 47) (loc' := [cr 81, ai_i p, ai_i l, ai_i g, ai_i 1]) rfl rfl ?_
          refine w_aload (i := 0) (npc := 48) rfl rfl rfl ?_
          refine w_getf (i := 81) (ci := 8) (k := 24) (npc := 51) rfl (hI3.pl (by decide)) (hI3.T (by decide) rfl) (by decide) hz7 ?_
          refine w_const (n := 8) (npc := 53) rfl ?_
          refine w_icmp (c := .eq) (npc := 56) (pt := 61) rfl (fun hc262 => ?_) (fun hc262 => ?_)
          · replace hc262 : z1 = (8 : Int) := hc262
            refine w_aload (i := 0) (npc := 62) rfl rfl rfl ?_
            refine w_getf (i := 81) (ci := 8) (k := 5) (npc := 65) rfl (hI3.pl (by decide)) (hI3.T (by decide) rfl) (by decide) (hI3.ref 81 5 (p := 85) (by decide) (by decide) rfl) ?_
            refine w_const (n := 2) (npc := 66) rfl ?_
            refine w_dup2 (npc := 67) rfl rfl rfl ?_
            obtain ⟨z263, hz263, hz263a, hz263b⟩ := hI3.int 85 (2 : Int).toNat (lo := (-2147483648)) (hi := 2147483647) (by decide) (show (2 : Int).toNat < 3 by omega) rfl
            have ghz263 := gv_eq hz263
            refine w_ald (i := 85) (t := 1) (n := 3) (npc := 68) rfl (hI3.pl (by decide)) (hI3.T (by decide) rfl) (by decide) rfl (by omega) hz263 ?_
            refine w_const (n := 1) (npc := 69) rfl ?_
            refine w_iaddw (npc := 70) rfl (fun z264 hz264 hz264b => ?_)
            refine w_ast (i := 85) (k := 1) (n := 3) (npc := 71) rfl (hI3.pl (by decide)) (hI3.T (by decide) rfl) (by decide) (by omega) cm_af1 ?_
            have hI266 := hI3.puti (i := 85) (k := (2 : Int).toNat) (z := z264) (lo := (-2147483648)) (hi := 2147483647) (by decide) rfl (by omega)
            have hF268 := cm_fr.up (i := 85) (k := (2 : Int).toNat) (v := ai_i z264) hF5 (by first | (simp; done) | (simp; omega) | (intro i k h; (try simp only at h); (try simp only); omega))
            have hR269 := rl.wr (i := 85) (k := (2 : Int).toNat) (v := ai_i z264) hR6 (by simp)
            generalize hE267 : cm_up E2 85 (2 : Int).toNat (ai_i z264) = E265 at hI266 hF268 hR269  ⊢
            have hz270 : E265 81 24 = ai_i z1 := by rw [← hE267, cm_up_nei _ _ (by decide)]; exact hz7
            have ghz270 := gv_eq hz270
            have hz271 : E265 81 0 = ai_i 0 := by rw [← hE267, cm_up_nei _ _ (by decide)]; exact hz8
            have ghz271 := gv_eq hz271
            have hz272 : E265 85 (2 : Int).toNat = ai_i z264 := by rw [← hE267, cm_up_eq]
            have ghz272 := gv_eq hz272
            refine w_const (n := (-1)) (npc := 72) rfl ?_
            exact w_iret rfl (⟨rfl, rfl, rfl, hI266, hF268, hR269, (-1), rfl, by omega⟩) (by omega) (by omega)
          · replace hc262 : ¬ (z1 = (8 : Int)) := hc262
            refine w_iload (i := 4) (npc := 58) rfl rfl ?_
            refine w_if (c := .ne) (npc := 61) (pt := 73) rfl (fun hc273 => ?_) (fun hc273 => ?_)
            · replace hc273 : (1 : Int) ≠ 0 := hc273
              refine w_aload (i := 0) (npc := 74) rfl rfl rfl ?_
              refine w_getf (i := 81) (ci := 8) (k := 26) (npc := 77) rfl (hI3.pl (by decide)) (hI3.T (by decide) rfl) (by decide) (hI3.ref 81 26 (p := 95) (by decide) (by decide) rfl) ?_
              refine w_aload (i := 0) (npc := 78) rfl rfl rfl ?_
              refine w_getf (i := 81) (ci := 8) (k := 24) (npc := 81) rfl (hI3.pl (by decide)) (hI3.T (by decide) rfl) (by decide) hz7 ?_
              refine w_iload (i := 1) (npc := 82) rfl rfl ?_
              refine w_ast (i := 95) (k := 1) (n := 8) (npc := 83) rfl (hI3.pl (by decide)) (hI3.T (by decide) rfl) (by decide) (by omega) cm_af1 ?_
              have hI275 := hI3.puti (i := 95) (k := (z1 : Int).toNat) (z := p) (lo := 0) (hi := 2) (by decide) rfl (by omega)
              have hF277 := cm_fr.up (i := 95) (k := (z1 : Int).toNat) (v := ai_i p) hF5 (by first | (simp; done) | (simp; omega) | (intro i k h; (try simp only at h); (try simp only); omega))
              have hR278 := rl.wr (i := 95) (k := (z1 : Int).toNat) (v := ai_i p) hR6 (by simp)
              generalize hE276 : cm_up E2 95 (z1 : Int).toNat (ai_i p) = E274 at hI275 hF277 hR278  ⊢
              have hz279 : E274 81 24 = ai_i z1 := by rw [← hE276, cm_up_nei _ _ (by decide)]; exact hz7
              have ghz279 := gv_eq hz279
              have hz280 : E274 81 0 = ai_i 0 := by rw [← hE276, cm_up_nei _ _ (by decide)]; exact hz8
              have ghz280 := gv_eq hz280
              have hz281 : E274 95 (z1 : Int).toNat = ai_i p := by rw [← hE276, cm_up_eq]
              have ghz281 := gv_eq hz281
              refine w_aload (i := 0) (npc := 84) rfl rfl rfl ?_
              refine w_getf (i := 81) (ci := 8) (k := 27) (npc := 87) rfl (hI275.pl (by decide)) (hI275.T (by decide) rfl) (by decide) (hI275.ref 81 27 (p := 96) (by decide) (by decide) rfl) ?_
              refine w_aload (i := 0) (npc := 88) rfl rfl rfl ?_
              refine w_getf (i := 81) (ci := 8) (k := 24) (npc := 91) rfl (hI275.pl (by decide)) (hI275.T (by decide) rfl) (by decide) hz279 ?_
              refine w_iload (i := 2) (npc := 92) rfl rfl ?_
              refine w_ast (i := 96) (k := 1) (n := 8) (npc := 93) rfl (hI275.pl (by decide)) (hI275.T (by decide) rfl) (by decide) (by omega) cm_af1 ?_
              have hI283 := hI275.puti (i := 96) (k := (z1 : Int).toNat) (z := l) (lo := 0) (hi := 7) (by decide) rfl (by omega)
              have hF285 := cm_fr.up (i := 96) (k := (z1 : Int).toNat) (v := ai_i l) hF277 (by first | (simp; done) | (simp; omega) | (intro i k h; (try simp only at h); (try simp only); omega))
              have hR286 := rl.wr (i := 96) (k := (z1 : Int).toNat) (v := ai_i l) hR278 (by simp)
              generalize hE284 : cm_up E274 96 (z1 : Int).toNat (ai_i l) = E282 at hI283 hF285 hR286  ⊢
              have hz287 : E282 81 24 = ai_i z1 := by rw [← hE284, cm_up_nei _ _ (by decide)]; exact hz279
              have ghz287 := gv_eq hz287
              have hz288 : E282 81 0 = ai_i 0 := by rw [← hE284, cm_up_nei _ _ (by decide)]; exact hz280
              have ghz288 := gv_eq hz288
              have hz289 : E282 95 (z1 : Int).toNat = ai_i p := by rw [← hE284, cm_up_nei _ _ (by decide)]; exact hz281
              have ghz289 := gv_eq hz289
              have hz290 : E282 96 (z1 : Int).toNat = ai_i l := by rw [← hE284, cm_up_eq]
              have ghz290 := gv_eq hz290
              refine w_aload (i := 0) (npc := 94) rfl rfl rfl ?_
              refine w_getf (i := 81) (ci := 8) (k := 28) (npc := 97) rfl (hI283.pl (by decide)) (hI283.T (by decide) rfl) (by decide) (hI283.ref 81 28 (p := 97) (by decide) (by decide) rfl) ?_
              refine w_aload (i := 0) (npc := 98) rfl rfl rfl ?_
              refine w_getf (i := 81) (ci := 8) (k := 24) (npc := 101) rfl (hI283.pl (by decide)) (hI283.T (by decide) rfl) (by decide) hz287 ?_
              refine w_iload (i := 3) (npc := 102) rfl rfl ?_
              refine w_ast (i := 97) (k := 1) (n := 8) (npc := 103) rfl (hI283.pl (by decide)) (hI283.T (by decide) rfl) (by decide) (by omega) cm_af1 ?_
              have hI292 := hI283.puti (i := 97) (k := (z1 : Int).toNat) (z := g) (lo := (-1)) (hi := 126) (by decide) rfl (by omega)
              have hF294 := cm_fr.up (i := 97) (k := (z1 : Int).toNat) (v := ai_i g) hF285 (by first | (simp; done) | (simp; omega) | (intro i k h; (try simp only at h); (try simp only); omega))
              have hR295 := rl.wr (i := 97) (k := (z1 : Int).toNat) (v := ai_i g) hR286 (by simp)
              generalize hE293 : cm_up E282 97 (z1 : Int).toNat (ai_i g) = E291 at hI292 hF294 hR295  ⊢
              have hz296 : E291 81 24 = ai_i z1 := by rw [← hE293, cm_up_nei _ _ (by decide)]; exact hz287
              have ghz296 := gv_eq hz296
              have hz297 : E291 81 0 = ai_i 0 := by rw [← hE293, cm_up_nei _ _ (by decide)]; exact hz288
              have ghz297 := gv_eq hz297
              have hz298 : E291 95 (z1 : Int).toNat = ai_i p := by rw [← hE293, cm_up_nei _ _ (by decide)]; exact hz289
              have ghz298 := gv_eq hz298
              have hz299 : E291 96 (z1 : Int).toNat = ai_i l := by rw [← hE293, cm_up_nei _ _ (by decide)]; exact hz290
              have ghz299 := gv_eq hz299
              have hz300 : E291 97 (z1 : Int).toNat = ai_i g := by rw [← hE293, cm_up_eq]
              have ghz300 := gv_eq hz300
              refine w_aload (i := 0) (npc := 104) rfl rfl rfl ?_
              refine w_dup (npc := 105) rfl rfl ?_
              refine w_getf (i := 81) (ci := 8) (k := 24) (npc := 108) rfl (hI292.pl (by decide)) (hI292.T (by decide) rfl) (by decide) hz296 ?_
              refine w_const (n := 1) (npc := 109) rfl ?_
              refine w_iadd (npc := 110) rfl (by omega) ?_
              refine w_putf (i := 81) (ci := 8) (k := 24) (t := 0) (npc := 113) rfl (hI292.pl (by decide)) (hI292.T (by decide) rfl) (by decide) cm_fit0 ?_
              have hI303 := hI292.puti (i := 81) (k := 24) (z := z1 + 1) (lo := 0) (hi := 8) (by decide) rfl (by omega)
              have hF305 := cm_fr.up (i := 81) (k := 24) (v := ai_i (z1 + 1)) hF294 (by first | (simp; done) | (simp; omega) | (intro i k h; (try simp only at h); (try simp only); omega))
              have hR306 := rl.wr (i := 81) (k := 24) (v := ai_i (z1 + 1)) hR295 (by simp)
              generalize hE304 : cm_up E291 81 24 (ai_i (z1 + 1)) = E302 at hI303 hF305 hR306  ⊢
              have hz307 : E302 81 0 = ai_i 0 := by rw [← hE304, cm_up_ne _ _ (by decide)]; exact hz297
              have ghz307 := gv_eq hz307
              have hz308 : E302 95 (z1 : Int).toNat = ai_i p := by rw [← hE304, cm_up_nei _ _ (by decide)]; exact hz298
              have ghz308 := gv_eq hz308
              have hz309 : E302 96 (z1 : Int).toNat = ai_i l := by rw [← hE304, cm_up_nei _ _ (by decide)]; exact hz299
              have ghz309 := gv_eq hz309
              have hz310 : E302 97 (z1 : Int).toNat = ai_i g := by rw [← hE304, cm_up_nei _ _ (by decide)]; exact hz300
              have ghz310 := gv_eq hz310
              have hz311 : E302 81 24 = ai_i (z1 + 1) := by rw [← hE304, cm_up_eq]
              have ghz311 := gv_eq hz311
              refine w_aload (i := 0) (npc := 114) rfl rfl rfl ?_
              refine w_getf (i := 81) (ci := 8) (k := 24) (npc := 117) rfl (hI303.pl (by decide)) (hI303.T (by decide) rfl) (by decide) hz311 ?_
              exact w_iret rfl (⟨rfl, rfl, rfl, hI303, hF305, hR306, (z1 + 1), rfl, by omega⟩) (by omega) (by omega)
            · replace hc273 : ¬ ((1 : Int) ≠ 0) := hc273
              refine w_aload (i := 0) (npc := 62) rfl rfl rfl ?_
              refine w_getf (i := 81) (ci := 8) (k := 5) (npc := 65) rfl (hI3.pl (by decide)) (hI3.T (by decide) rfl) (by decide) (hI3.ref 81 5 (p := 85) (by decide) (by decide) rfl) ?_
              refine w_const (n := 2) (npc := 66) rfl ?_
              refine w_dup2 (npc := 67) rfl rfl rfl ?_
              obtain ⟨z312, hz312, hz312a, hz312b⟩ := hI3.int 85 (2 : Int).toNat (lo := (-2147483648)) (hi := 2147483647) (by decide) (show (2 : Int).toNat < 3 by omega) rfl
              have ghz312 := gv_eq hz312
              refine w_ald (i := 85) (t := 1) (n := 3) (npc := 68) rfl (hI3.pl (by decide)) (hI3.T (by decide) rfl) (by decide) rfl (by omega) hz312 ?_
              refine w_const (n := 1) (npc := 69) rfl ?_
              refine w_iaddw (npc := 70) rfl (fun z313 hz313 hz313b => ?_)
              refine w_ast (i := 85) (k := 1) (n := 3) (npc := 71) rfl (hI3.pl (by decide)) (hI3.T (by decide) rfl) (by decide) (by omega) cm_af1 ?_
              have hI315 := hI3.puti (i := 85) (k := (2 : Int).toNat) (z := z313) (lo := (-2147483648)) (hi := 2147483647) (by decide) rfl (by omega)
              have hF317 := cm_fr.up (i := 85) (k := (2 : Int).toNat) (v := ai_i z313) hF5 (by first | (simp; done) | (simp; omega) | (intro i k h; (try simp only at h); (try simp only); omega))
              have hR318 := rl.wr (i := 85) (k := (2 : Int).toNat) (v := ai_i z313) hR6 (by simp)
              generalize hE316 : cm_up E2 85 (2 : Int).toNat (ai_i z313) = E314 at hI315 hF317 hR318  ⊢
              have hz319 : E314 81 24 = ai_i z1 := by rw [← hE316, cm_up_nei _ _ (by decide)]; exact hz7
              have ghz319 := gv_eq hz319
              have hz320 : E314 81 0 = ai_i 0 := by rw [← hE316, cm_up_nei _ _ (by decide)]; exact hz8
              have ghz320 := gv_eq hz320
              have hz321 : E314 85 (2 : Int).toNat = ai_i z313 := by rw [← hE316, cm_up_eq]
              have ghz321 := gv_eq hz321
              refine w_const (n := (-1)) (npc := 72) rfl ?_
              exact w_iret rfl (⟨rfl, rfl, rfl, hI315, hF317, hR318, (-1), rfl, by omega⟩) (by omega) (by omega)
set_option maxRecDepth 16384 in
theorem ct_m_clear {sl : Int × Int} {x : ai_E} {d : Nat} {T : cm_T} {E : cm_E} {nx : Nat}  (hI : cs_I T E nx) (hR : rl E) : cm_ct (ai_ev sl (d + 1)) x 151 [cr 81] T E nx 0 0 (fun rk rv T' E' nx' => rk = 0 ∧ T = T' ∧ nx = nx' ∧ cs_I T E' nx ∧ cm_fr (fun i k => (i = 81 ∧ (k = 0 ∨ k = 23 ∨ k = 24))) E E' ∧ rl E' ∧ (gv E' 81 23 = 0 ∧ gv E' 81 24 = 0)) := by
  refine cm_body (M := ai_m151) rfl rfl (fun kc ks => ?_)
  show cm_wp (ai_find ai_c151 sl) (ai_ev sl (d + 0)) x (kc + 0) (ks + 0) _ 0 [cr 81] [] T E nx kc ks
  have hF : cm_fr (fun i k => (i = 81 ∧ (k = 0 ∨ k = 23 ∨ k = 24))) E E := fun _ _ _ => rfl
  refine w_aload (i := 0) (npc := 1) rfl rfl rfl ?_
  refine w_const (n := 0) (npc := 2) rfl ?_
  refine w_putf (i := 81) (ci := 8) (k := 0) (t := 0) (npc := 5) rfl (hI.pl (by decide)) (hI.T (by decide) rfl) (by decide) cm_fit0 ?_
  have hI2 := hI.puti (i := 81) (k := 0) (z := 0) (lo := 0) (hi := 2) (by decide) rfl (by omega)
  have hF4 := cm_fr.up (i := 81) (k := 0) (v := ai_i 0) hF (by first | (simp; done) | (simp; omega) | (intro i k h; (try simp only at h); (try simp only); omega))
  have hR5 := rl.wr (i := 81) (k := 0) (v := ai_i 0) hR (by simp)
  generalize hE3 : cm_up E 81 0 (ai_i 0) = E1 at hI2 hF4 hR5  ⊢
  have hz6 : E1 81 0 = ai_i 0 := by rw [← hE3, cm_up_eq]
  have ghz6 := gv_eq hz6
  refine w_aload (i := 0) (npc := 6) rfl rfl rfl ?_
  refine w_const (n := 0) (npc := 7) rfl ?_
  refine w_putf (i := 81) (ci := 8) (k := 23) (t := 0) (npc := 10) rfl (hI2.pl (by decide)) (hI2.T (by decide) rfl) (by decide) cm_fit0 ?_
  have hI8 := hI2.puti (i := 81) (k := 23) (z := 0) (lo := 0) (hi := 12) (by decide) rfl (by omega)
  have hF10 := cm_fr.up (i := 81) (k := 23) (v := ai_i 0) hF4 (by first | (simp; done) | (simp; omega) | (intro i k h; (try simp only at h); (try simp only); omega))
  have hR11 := rl.wr (i := 81) (k := 23) (v := ai_i 0) hR5 (by simp)
  generalize hE9 : cm_up E1 81 23 (ai_i 0) = E7 at hI8 hF10 hR11  ⊢
  have hz12 : E7 81 0 = ai_i 0 := by rw [← hE9, cm_up_ne _ _ (by decide)]; exact hz6
  have ghz12 := gv_eq hz12
  have hz13 : E7 81 23 = ai_i 0 := by rw [← hE9, cm_up_eq]
  have ghz13 := gv_eq hz13
  refine w_aload (i := 0) (npc := 11) rfl rfl rfl ?_
  refine w_const (n := 0) (npc := 12) rfl ?_
  refine w_putf (i := 81) (ci := 8) (k := 24) (t := 0) (npc := 15) rfl (hI8.pl (by decide)) (hI8.T (by decide) rfl) (by decide) cm_fit0 ?_
  have hI15 := hI8.puti (i := 81) (k := 24) (z := 0) (lo := 0) (hi := 8) (by decide) rfl (by omega)
  have hF17 := cm_fr.up (i := 81) (k := 24) (v := ai_i 0) hF10 (by first | (simp; done) | (simp; omega) | (intro i k h; (try simp only at h); (try simp only); omega))
  have hR18 := rl.wr (i := 81) (k := 24) (v := ai_i 0) hR11 (by simp)
  generalize hE16 : cm_up E7 81 24 (ai_i 0) = E14 at hI15 hF17 hR18  ⊢
  have hz19 : E14 81 0 = ai_i 0 := by rw [← hE16, cm_up_ne _ _ (by decide)]; exact hz12
  have ghz19 := gv_eq hz19
  have hz20 : E14 81 23 = ai_i 0 := by rw [← hE16, cm_up_ne _ _ (by decide)]; exact hz13
  have ghz20 := gv_eq hz20
  have hz21 : E14 81 24 = ai_i 0 := by rw [← hE16, cm_up_eq]
  have ghz21 := gv_eq hz21
  exact w_vret rfl (⟨rfl, rfl, rfl, hI15, hF17, hR18, by omega⟩) (by omega) (by omega)
set_option maxRecDepth 16384 in
theorem ct_m_feed {sl : Int × Int} {x : ai_E} {d : Nat} {T : cm_T} {E : cm_E} {nx : Nat} (a b c e f : Int) (hI : cs_I T E nx) (hR : rl E) (hp0 : -2147483648 ≤ a ∧ a ≤ 2147483647) (hp1 : -2147483648 ≤ b ∧ b ≤ 2147483647) (hp2 : -2147483648 ≤ c ∧ c ≤ 2147483647) (hp3 : -2147483648 ≤ e ∧ e ≤ 2147483647) (hp4 : -2147483648 ≤ f ∧ f ≤ 2147483647) : cm_ct (ai_ev sl (d + 1)) x 159 [cr 81, ai_i a, ai_i b, ai_i c, ai_i e, ai_i f] T E nx 0 0 (fun rk rv T' E' nx' => rk = 1 ∧ T = T' ∧ nx = nx' ∧ cs_I T E' nx ∧ cm_fr (fun i k => (i = 81 ∧ (k = 0 ∨ k = 17)) ∨ i = 93) E E' ∧ rl E' ∧ ∃ z : Int, rv = ai_i z ∧ ((gv E 81 17 + 20 ≤ 400 → z = gv E 81 17 + 20 ∧ gv E' 81 17 = gv E 81 17 + 20) ∧ (¬ gv E 81 17 + 20 ≤ 400 → z = -1 ∧ gv E' 81 17 = gv E 81 17))) := by
  refine cm_body (M := ai_m159) rfl rfl (fun kc ks => ?_)
  show cm_wp (ai_find ai_c159 sl) (ai_ev sl (d + 0)) x (kc + 0) (ks + 0) _ 0 [cr 81, ai_i a, ai_i b, ai_i c, ai_i e, ai_i f, ai_un, ai_un] [] T E nx kc ks
  have hF : cm_fr (fun i k => (i = 81 ∧ (k = 0 ∨ k = 17)) ∨ i = 93) E E := fun _ _ _ => rfl
  obtain ⟨z1, hz1, hz1a, hz1b⟩ := hI.int 81 17 (lo := 0) (hi := 400) (by decide) (by decide) rfl
  have ghz1 := gv_eq hz1
  refine w_aload (i := 0) (npc := 1) rfl rfl rfl ?_
  refine w_const (n := 0) (npc := 2) rfl ?_
  refine w_putf (i := 81) (ci := 8) (k := 0) (t := 0) (npc := 5) rfl (hI.pl (by decide)) (hI.T (by decide) rfl) (by decide) cm_fit0 ?_
  have hI3 := hI.puti (i := 81) (k := 0) (z := 0) (lo := 0) (hi := 2) (by decide) rfl (by omega)
  have hF5 := cm_fr.up (i := 81) (k := 0) (v := ai_i 0) hF (by first | (simp; done) | (simp; omega) | (intro i k h; (try simp only at h); (try simp only); omega))
  have hR6 := rl.wr (i := 81) (k := 0) (v := ai_i 0) hR (by simp)
  generalize hE4 : cm_up E 81 0 (ai_i 0) = E2 at hI3 hF5 hR6  ⊢
  have hz7 : E2 81 17 = ai_i z1 := by rw [← hE4, cm_up_ne _ _ (by decide)]; exact hz1
  have ghz7 := gv_eq hz7
  have hz8 : E2 81 0 = ai_i 0 := by rw [← hE4, cm_up_eq]
  have ghz8 := gv_eq hz8
  refine w_aload (i := 0) (npc := 6) rfl rfl rfl ?_
  refine w_getf (i := 81) (ci := 8) (k := 17) (npc := 9) rfl (hI3.pl (by decide)) (hI3.T (by decide) rfl) (by decide) hz7 ?_
  refine w_const (n := 20) (npc := 11) rfl ?_
  refine w_iadd (npc := 12) rfl (by omega) ?_
  refine w_const (n := 400) (npc := 15) rfl ?_
  refine w_icmp (c := .le) (npc := 18) (pt := 20) rfl (fun hc10 => ?_) (fun hc10 => ?_)
  · replace hc10 : z1 + 20 ≤ (400 : Int) := hc10
    refine w_const (n := 0) (npc := 21) rfl ?_
    refine w_istore (i := 6) (npc := 23) (loc' := [cr 81, ai_i a, ai_i b, ai_i c, ai_i e, ai_i f, ai_i 0, ai_un]) rfl rfl ?_
    have loop23 : ∀ (nf : Nat) (i : Int) (u23_7 : ai_V) (Eq23 : cm_E), ((20 - i).toNat) < nf → cs_I T Eq23 nx → cm_fr (fun i k => (i = 81 ∧ (k = 0 ∨ k = 17)) ∨ i = 93) E Eq23 → rl Eq23 → (0 ≤ i ∧ i ≤ 20 ∧ gv Eq23 81 17 = gv E 81 17 + i ∧ gv E 81 17 + 20 ≤ 400) → cm_wp (ai_find ai_c159 sl) (ai_ev sl (d + 0)) x (kc + 0) (ks + 0) (fun rk rv T' E' nx' => rk = 1 ∧ T = T' ∧ nx = nx' ∧ cs_I T E' nx ∧ cm_fr (fun i k => (i = 81 ∧ (k = 0 ∨ k = 17)) ∨ i = 93) E E' ∧ rl E' ∧ ∃ z : Int, rv = ai_i z ∧ ((gv E 81 17 + 20 ≤ 400 → z = gv E 81 17 + 20 ∧ gv E' 81 17 = gv E 81 17 + 20) ∧ (¬ gv E 81 17 + 20 ≤ 400 → z = -1 ∧ gv E' 81 17 = gv E 81 17))) 23 [cr 81, ai_i a, ai_i b, ai_i c, ai_i e, ai_i f, ai_i i, u23_7] [] T Eq23 nx kc ks := by
      intro nf
      induction nf with
      | zero => intro i u23_7 Eq23 hm; exact absurd hm (Nat.not_lt_zero _)
      | succ nf23 ih =>
        intro i u23_7 Eq23 hm23 hI23 hF23 hR23 hv23
        obtain ⟨z11, hz11, hz11a, hz11b⟩ := hI23.int 81 17 (lo := 0) (hi := 400) (by decide) (by decide) rfl
        have ghz11 := gv_eq hz11
        have ih23 := ih; clear ih
        refine w_iload (i := 6) (npc := 25) rfl rfl ?_
        refine w_const (n := 20) (npc := 27) rfl ?_
        refine w_icmp (c := .ge) (npc := 30) (pt := 120) rfl (fun hc12 => ?_) (fun hc12 => ?_)
        · replace hc12 : (20 : Int) ≤ i := hc12
          refine w_aload (i := 0) (npc := 121) rfl rfl rfl ?_
          refine w_getf (i := 81) (ci := 8) (k := 17) (npc := 124) rfl (hI23.pl (by decide)) (hI23.T (by decide) rfl) (by decide) hz11 ?_
          exact w_iret rfl (⟨rfl, rfl, rfl, hI23, hF23, hR23, z11, rfl, by omega⟩) (by omega) (by omega)
        · replace hc12 : ¬ ((20 : Int) ≤ i) := hc12
          refine w_iload (i := 6) (npc := 32) rfl rfl ?_
          refine w_const (n := 4) (npc := 33) rfl ?_
          refine w_icmp (c := .ge) (npc := 36) (pt := 40) rfl (fun hc13 => ?_) (fun hc13 => ?_)
          · replace hc13 : (4 : Int) ≤ i := hc13
            refine w_iload (i := 6) (npc := 42) rfl rfl ?_
            refine w_const (n := 8) (npc := 44) rfl ?_
            refine w_icmp (c := .ge) (npc := 47) (pt := 51) rfl (fun hc14 => ?_) (fun hc14 => ?_)
            · replace hc14 : (8 : Int) ≤ i := hc14
              refine w_iload (i := 6) (npc := 53) rfl rfl ?_
              refine w_const (n := 12) (npc := 55) rfl ?_
              refine w_icmp (c := .ge) (npc := 58) (pt := 62) rfl (fun hc15 => ?_) (fun hc15 => ?_)
              · replace hc15 : (12 : Int) ≤ i := hc15
                refine w_iload (i := 6) (npc := 64) rfl rfl ?_
                refine w_const (n := 16) (npc := 66) rfl ?_
                refine w_icmp (c := .ge) (npc := 69) (pt := 74) rfl (fun hc16 => ?_) (fun hc16 => ?_)
                · replace hc16 : (16 : Int) ≤ i := hc16
                  refine w_iload (i := 5) (npc := 76) rfl rfl ?_
                  refine w_istore (i := 7) (npc := 78) (loc' := [cr 81, ai_i a, ai_i b, ai_i c, ai_i e, ai_i f, ai_i i, ai_i f]) rfl rfl ?_
                  refine w_aload (i := 0) (npc := 79) rfl rfl rfl ?_
                  refine w_getf (i := 81) (ci := 8) (k := 15) (npc := 82) rfl (hI23.pl (by decide)) (hI23.T (by decide) rfl) (by decide) (hI23.ref 81 15 (p := 93) (by decide) (by decide) rfl) ?_
                  refine w_aload (i := 0) (npc := 83) rfl rfl rfl ?_
                  refine w_getf (i := 81) (ci := 8) (k := 17) (npc := 86) rfl (hI23.pl (by decide)) (hI23.T (by decide) rfl) (by decide) hz11 ?_
                  refine w_iload (i := 7) (npc := 88) rfl rfl ?_
                  refine w_const (n := 24) (npc := 90) rfl ?_
                  refine w_const (n := 8) (npc := 92) rfl ?_
                  refine w_iload (i := 6) (npc := 94) rfl rfl ?_
                  refine w_const (n := 4) (npc := 95) rfl ?_
                  refine w_irem (npc := 96) rfl (by omega) (by omega) (fun z17 hz17 hz17b => ?_)
                  refine w_imul (npc := 97) rfl (by omega) ?_
                  refine w_isub (npc := 98) rfl (by omega) ?_
                  refine w_con (npc := 99) rfl (fun z20 hz20 hz20b => ?_)
                  refine w_const (n := 255) (npc := 102) rfl ?_
                  refine w_iand (npc := 103) rfl (by omega) (fun z21 hz21 hz21b => ?_)
                  refine w_ast (i := 93) (k := 1) (n := 400) (npc := 104) rfl (hI23.pl (by decide)) (hI23.T (by decide) rfl) (by decide) (by omega) cm_af1 ?_
                  have hI23 := hI23.puti (i := 93) (k := (z11 : Int).toNat) (z := z21) (lo := 0) (hi := 255) (by decide) rfl (by omega)
                  have hF25 := cm_fr.up (i := 93) (k := (z11 : Int).toNat) (v := ai_i z21) hF23 (by first | (simp; done) | (simp; omega) | (intro i k h; (try simp only at h); (try simp only); omega))
                  have hR26 := rl.wr (i := 93) (k := (z11 : Int).toNat) (v := ai_i z21) hR23 (by simp)
                  generalize hE24 : cm_up Eq23 93 (z11 : Int).toNat (ai_i z21) = E22 at hI23 hF25 hR26  ⊢
                  have hz27 : E22 81 17 = ai_i z11 := by rw [← hE24, cm_up_nei _ _ (by decide)]; exact hz11
                  have ghz27 := gv_eq hz27
                  have hz28 : E22 93 (z11 : Int).toNat = ai_i z21 := by rw [← hE24, cm_up_eq]
                  have ghz28 := gv_eq hz28
                  refine w_aload (i := 0) (npc := 105) rfl rfl rfl ?_
                  refine w_dup (npc := 106) rfl rfl ?_
                  refine w_getf (i := 81) (ci := 8) (k := 17) (npc := 109) rfl (hI23.pl (by decide)) (hI23.T (by decide) rfl) (by decide) hz27 ?_
                  refine w_const (n := 1) (npc := 110) rfl ?_
                  refine w_iadd (npc := 111) rfl (by omega) ?_
                  refine w_putf (i := 81) (ci := 8) (k := 17) (t := 0) (npc := 114) rfl (hI23.pl (by decide)) (hI23.T (by decide) rfl) (by decide) cm_fit0 ?_
                  have hI31 := hI23.puti (i := 81) (k := 17) (z := z11 + 1) (lo := 0) (hi := 400) (by decide) rfl (by omega)
                  have hF33 := cm_fr.up (i := 81) (k := 17) (v := ai_i (z11 + 1)) hF25 (by first | (simp; done) | (simp; omega) | (intro i k h; (try simp only at h); (try simp only); omega))
                  have hR34 := rl.wr (i := 81) (k := 17) (v := ai_i (z11 + 1)) hR26 (by simp)
                  generalize hE32 : cm_up E22 81 17 (ai_i (z11 + 1)) = E30 at hI31 hF33 hR34  ⊢
                  have hz35 : E30 93 (z11 : Int).toNat = ai_i z21 := by rw [← hE32, cm_up_nei _ _ (by decide)]; exact hz28
                  have ghz35 := gv_eq hz35
                  have hz36 : E30 81 17 = ai_i (z11 + 1) := by rw [← hE32, cm_up_eq]
                  have ghz36 := gv_eq hz36
                  refine w_iinc (i := 6) (n := 1) (npc := 117) (loc' := [cr 81, ai_i a, ai_i b, ai_i c, ai_i e, ai_i f, ai_i (i + 1), ai_i f]) rfl rfl (by omega) rfl ?_
                  refine w_goto (pt := 23) rfl ?_
                  exact ih23 (i + 1) (ai_i f) E30 (by omega) hI31 hF33 hR34 (by omega)
                · replace hc16 : ¬ ((16 : Int) ≤ i) := hc16
                  refine w_iload (i := 4) (npc := 71) rfl rfl ?_
                  refine w_goto (pt := 76) rfl ?_
                  refine w_istore (i := 7) (npc := 78) (loc' := [cr 81, ai_i a, ai_i b, ai_i c, ai_i e, ai_i f, ai_i i, ai_i e]) rfl rfl ?_
                  refine w_aload (i := 0) (npc := 79) rfl rfl rfl ?_
                  refine w_getf (i := 81) (ci := 8) (k := 15) (npc := 82) rfl (hI23.pl (by decide)) (hI23.T (by decide) rfl) (by decide) (hI23.ref 81 15 (p := 93) (by decide) (by decide) rfl) ?_
                  refine w_aload (i := 0) (npc := 83) rfl rfl rfl ?_
                  refine w_getf (i := 81) (ci := 8) (k := 17) (npc := 86) rfl (hI23.pl (by decide)) (hI23.T (by decide) rfl) (by decide) hz11 ?_
                  refine w_iload (i := 7) (npc := 88) rfl rfl ?_
                  refine w_const (n := 24) (npc := 90) rfl ?_
                  refine w_const (n := 8) (npc := 92) rfl ?_
                  refine w_iload (i := 6) (npc := 94) rfl rfl ?_
                  refine w_const (n := 4) (npc := 95) rfl ?_
                  refine w_irem (npc := 96) rfl (by omega) (by omega) (fun z38 hz38 hz38b => ?_)
                  refine w_imul (npc := 97) rfl (by omega) ?_
                  refine w_isub (npc := 98) rfl (by omega) ?_
                  refine w_con (npc := 99) rfl (fun z41 hz41 hz41b => ?_)
                  refine w_const (n := 255) (npc := 102) rfl ?_
                  refine w_iand (npc := 103) rfl (by omega) (fun z42 hz42 hz42b => ?_)
                  refine w_ast (i := 93) (k := 1) (n := 400) (npc := 104) rfl (hI23.pl (by decide)) (hI23.T (by decide) rfl) (by decide) (by omega) cm_af1 ?_
                  have hI44 := hI23.puti (i := 93) (k := (z11 : Int).toNat) (z := z42) (lo := 0) (hi := 255) (by decide) rfl (by omega)
                  have hF46 := cm_fr.up (i := 93) (k := (z11 : Int).toNat) (v := ai_i z42) hF23 (by first | (simp; done) | (simp; omega) | (intro i k h; (try simp only at h); (try simp only); omega))
                  have hR47 := rl.wr (i := 93) (k := (z11 : Int).toNat) (v := ai_i z42) hR23 (by simp)
                  generalize hE45 : cm_up Eq23 93 (z11 : Int).toNat (ai_i z42) = E43 at hI44 hF46 hR47  ⊢
                  have hz48 : E43 81 17 = ai_i z11 := by rw [← hE45, cm_up_nei _ _ (by decide)]; exact hz11
                  have ghz48 := gv_eq hz48
                  have hz49 : E43 93 (z11 : Int).toNat = ai_i z42 := by rw [← hE45, cm_up_eq]
                  have ghz49 := gv_eq hz49
                  refine w_aload (i := 0) (npc := 105) rfl rfl rfl ?_
                  refine w_dup (npc := 106) rfl rfl ?_
                  refine w_getf (i := 81) (ci := 8) (k := 17) (npc := 109) rfl (hI44.pl (by decide)) (hI44.T (by decide) rfl) (by decide) hz48 ?_
                  refine w_const (n := 1) (npc := 110) rfl ?_
                  refine w_iadd (npc := 111) rfl (by omega) ?_
                  refine w_putf (i := 81) (ci := 8) (k := 17) (t := 0) (npc := 114) rfl (hI44.pl (by decide)) (hI44.T (by decide) rfl) (by decide) cm_fit0 ?_
                  have hI52 := hI44.puti (i := 81) (k := 17) (z := z11 + 1) (lo := 0) (hi := 400) (by decide) rfl (by omega)
                  have hF54 := cm_fr.up (i := 81) (k := 17) (v := ai_i (z11 + 1)) hF46 (by first | (simp; done) | (simp; omega) | (intro i k h; (try simp only at h); (try simp only); omega))
                  have hR55 := rl.wr (i := 81) (k := 17) (v := ai_i (z11 + 1)) hR47 (by simp)
                  generalize hE53 : cm_up E43 81 17 (ai_i (z11 + 1)) = E51 at hI52 hF54 hR55  ⊢
                  have hz56 : E51 93 (z11 : Int).toNat = ai_i z42 := by rw [← hE53, cm_up_nei _ _ (by decide)]; exact hz49
                  have ghz56 := gv_eq hz56
                  have hz57 : E51 81 17 = ai_i (z11 + 1) := by rw [← hE53, cm_up_eq]
                  have ghz57 := gv_eq hz57
                  refine w_iinc (i := 6) (n := 1) (npc := 117) (loc' := [cr 81, ai_i a, ai_i b, ai_i c, ai_i e, ai_i f, ai_i (i + 1), ai_i e]) rfl rfl (by omega) rfl ?_
                  refine w_goto (pt := 23) rfl ?_
                  exact ih23 (i + 1) (ai_i e) E51 (by omega) hI52 hF54 hR55 (by omega)
              · replace hc15 : ¬ ((12 : Int) ≤ i) := hc15
                refine w_iload (i := 3) (npc := 59) rfl rfl ?_
                refine w_goto (pt := 76) rfl ?_
                refine w_istore (i := 7) (npc := 78) (loc' := [cr 81, ai_i a, ai_i b, ai_i c, ai_i e, ai_i f, ai_i i, ai_i c]) rfl rfl ?_
                refine w_aload (i := 0) (npc := 79) rfl rfl rfl ?_
                refine w_getf (i := 81) (ci := 8) (k := 15) (npc := 82) rfl (hI23.pl (by decide)) (hI23.T (by decide) rfl) (by decide) (hI23.ref 81 15 (p := 93) (by decide) (by decide) rfl) ?_
                refine w_aload (i := 0) (npc := 83) rfl rfl rfl ?_
                refine w_getf (i := 81) (ci := 8) (k := 17) (npc := 86) rfl (hI23.pl (by decide)) (hI23.T (by decide) rfl) (by decide) hz11 ?_
                refine w_iload (i := 7) (npc := 88) rfl rfl ?_
                refine w_const (n := 24) (npc := 90) rfl ?_
                refine w_const (n := 8) (npc := 92) rfl ?_
                refine w_iload (i := 6) (npc := 94) rfl rfl ?_
                refine w_const (n := 4) (npc := 95) rfl ?_
                refine w_irem (npc := 96) rfl (by omega) (by omega) (fun z59 hz59 hz59b => ?_)
                refine w_imul (npc := 97) rfl (by omega) ?_
                refine w_isub (npc := 98) rfl (by omega) ?_
                refine w_con (npc := 99) rfl (fun z62 hz62 hz62b => ?_)
                refine w_const (n := 255) (npc := 102) rfl ?_
                refine w_iand (npc := 103) rfl (by omega) (fun z63 hz63 hz63b => ?_)
                refine w_ast (i := 93) (k := 1) (n := 400) (npc := 104) rfl (hI23.pl (by decide)) (hI23.T (by decide) rfl) (by decide) (by omega) cm_af1 ?_
                have hI65 := hI23.puti (i := 93) (k := (z11 : Int).toNat) (z := z63) (lo := 0) (hi := 255) (by decide) rfl (by omega)
                have hF67 := cm_fr.up (i := 93) (k := (z11 : Int).toNat) (v := ai_i z63) hF23 (by first | (simp; done) | (simp; omega) | (intro i k h; (try simp only at h); (try simp only); omega))
                have hR68 := rl.wr (i := 93) (k := (z11 : Int).toNat) (v := ai_i z63) hR23 (by simp)
                generalize hE66 : cm_up Eq23 93 (z11 : Int).toNat (ai_i z63) = E64 at hI65 hF67 hR68  ⊢
                have hz69 : E64 81 17 = ai_i z11 := by rw [← hE66, cm_up_nei _ _ (by decide)]; exact hz11
                have ghz69 := gv_eq hz69
                have hz70 : E64 93 (z11 : Int).toNat = ai_i z63 := by rw [← hE66, cm_up_eq]
                have ghz70 := gv_eq hz70
                refine w_aload (i := 0) (npc := 105) rfl rfl rfl ?_
                refine w_dup (npc := 106) rfl rfl ?_
                refine w_getf (i := 81) (ci := 8) (k := 17) (npc := 109) rfl (hI65.pl (by decide)) (hI65.T (by decide) rfl) (by decide) hz69 ?_
                refine w_const (n := 1) (npc := 110) rfl ?_
                refine w_iadd (npc := 111) rfl (by omega) ?_
                refine w_putf (i := 81) (ci := 8) (k := 17) (t := 0) (npc := 114) rfl (hI65.pl (by decide)) (hI65.T (by decide) rfl) (by decide) cm_fit0 ?_
                have hI73 := hI65.puti (i := 81) (k := 17) (z := z11 + 1) (lo := 0) (hi := 400) (by decide) rfl (by omega)
                have hF75 := cm_fr.up (i := 81) (k := 17) (v := ai_i (z11 + 1)) hF67 (by first | (simp; done) | (simp; omega) | (intro i k h; (try simp only at h); (try simp only); omega))
                have hR76 := rl.wr (i := 81) (k := 17) (v := ai_i (z11 + 1)) hR68 (by simp)
                generalize hE74 : cm_up E64 81 17 (ai_i (z11 + 1)) = E72 at hI73 hF75 hR76  ⊢
                have hz77 : E72 93 (z11 : Int).toNat = ai_i z63 := by rw [← hE74, cm_up_nei _ _ (by decide)]; exact hz70
                have ghz77 := gv_eq hz77
                have hz78 : E72 81 17 = ai_i (z11 + 1) := by rw [← hE74, cm_up_eq]
                have ghz78 := gv_eq hz78
                refine w_iinc (i := 6) (n := 1) (npc := 117) (loc' := [cr 81, ai_i a, ai_i b, ai_i c, ai_i e, ai_i f, ai_i (i + 1), ai_i c]) rfl rfl (by omega) rfl ?_
                refine w_goto (pt := 23) rfl ?_
                exact ih23 (i + 1) (ai_i c) E72 (by omega) hI73 hF75 hR76 (by omega)
            · replace hc14 : ¬ ((8 : Int) ≤ i) := hc14
              refine w_iload (i := 2) (npc := 48) rfl rfl ?_
              refine w_goto (pt := 76) rfl ?_
              refine w_istore (i := 7) (npc := 78) (loc' := [cr 81, ai_i a, ai_i b, ai_i c, ai_i e, ai_i f, ai_i i, ai_i b]) rfl rfl ?_
              refine w_aload (i := 0) (npc := 79) rfl rfl rfl ?_
              refine w_getf (i := 81) (ci := 8) (k := 15) (npc := 82) rfl (hI23.pl (by decide)) (hI23.T (by decide) rfl) (by decide) (hI23.ref 81 15 (p := 93) (by decide) (by decide) rfl) ?_
              refine w_aload (i := 0) (npc := 83) rfl rfl rfl ?_
              refine w_getf (i := 81) (ci := 8) (k := 17) (npc := 86) rfl (hI23.pl (by decide)) (hI23.T (by decide) rfl) (by decide) hz11 ?_
              refine w_iload (i := 7) (npc := 88) rfl rfl ?_
              refine w_const (n := 24) (npc := 90) rfl ?_
              refine w_const (n := 8) (npc := 92) rfl ?_
              refine w_iload (i := 6) (npc := 94) rfl rfl ?_
              refine w_const (n := 4) (npc := 95) rfl ?_
              refine w_irem (npc := 96) rfl (by omega) (by omega) (fun z80 hz80 hz80b => ?_)
              refine w_imul (npc := 97) rfl (by omega) ?_
              refine w_isub (npc := 98) rfl (by omega) ?_
              refine w_con (npc := 99) rfl (fun z83 hz83 hz83b => ?_)
              refine w_const (n := 255) (npc := 102) rfl ?_
              refine w_iand (npc := 103) rfl (by omega) (fun z84 hz84 hz84b => ?_)
              refine w_ast (i := 93) (k := 1) (n := 400) (npc := 104) rfl (hI23.pl (by decide)) (hI23.T (by decide) rfl) (by decide) (by omega) cm_af1 ?_
              have hI86 := hI23.puti (i := 93) (k := (z11 : Int).toNat) (z := z84) (lo := 0) (hi := 255) (by decide) rfl (by omega)
              have hF88 := cm_fr.up (i := 93) (k := (z11 : Int).toNat) (v := ai_i z84) hF23 (by first | (simp; done) | (simp; omega) | (intro i k h; (try simp only at h); (try simp only); omega))
              have hR89 := rl.wr (i := 93) (k := (z11 : Int).toNat) (v := ai_i z84) hR23 (by simp)
              generalize hE87 : cm_up Eq23 93 (z11 : Int).toNat (ai_i z84) = E85 at hI86 hF88 hR89  ⊢
              have hz90 : E85 81 17 = ai_i z11 := by rw [← hE87, cm_up_nei _ _ (by decide)]; exact hz11
              have ghz90 := gv_eq hz90
              have hz91 : E85 93 (z11 : Int).toNat = ai_i z84 := by rw [← hE87, cm_up_eq]
              have ghz91 := gv_eq hz91
              refine w_aload (i := 0) (npc := 105) rfl rfl rfl ?_
              refine w_dup (npc := 106) rfl rfl ?_
              refine w_getf (i := 81) (ci := 8) (k := 17) (npc := 109) rfl (hI86.pl (by decide)) (hI86.T (by decide) rfl) (by decide) hz90 ?_
              refine w_const (n := 1) (npc := 110) rfl ?_
              refine w_iadd (npc := 111) rfl (by omega) ?_
              refine w_putf (i := 81) (ci := 8) (k := 17) (t := 0) (npc := 114) rfl (hI86.pl (by decide)) (hI86.T (by decide) rfl) (by decide) cm_fit0 ?_
              have hI94 := hI86.puti (i := 81) (k := 17) (z := z11 + 1) (lo := 0) (hi := 400) (by decide) rfl (by omega)
              have hF96 := cm_fr.up (i := 81) (k := 17) (v := ai_i (z11 + 1)) hF88 (by first | (simp; done) | (simp; omega) | (intro i k h; (try simp only at h); (try simp only); omega))
              have hR97 := rl.wr (i := 81) (k := 17) (v := ai_i (z11 + 1)) hR89 (by simp)
              generalize hE95 : cm_up E85 81 17 (ai_i (z11 + 1)) = E93 at hI94 hF96 hR97  ⊢
              have hz98 : E93 93 (z11 : Int).toNat = ai_i z84 := by rw [← hE95, cm_up_nei _ _ (by decide)]; exact hz91
              have ghz98 := gv_eq hz98
              have hz99 : E93 81 17 = ai_i (z11 + 1) := by rw [← hE95, cm_up_eq]
              have ghz99 := gv_eq hz99
              refine w_iinc (i := 6) (n := 1) (npc := 117) (loc' := [cr 81, ai_i a, ai_i b, ai_i c, ai_i e, ai_i f, ai_i (i + 1), ai_i b]) rfl rfl (by omega) rfl ?_
              refine w_goto (pt := 23) rfl ?_
              exact ih23 (i + 1) (ai_i b) E93 (by omega) hI94 hF96 hR97 (by omega)
          · replace hc13 : ¬ ((4 : Int) ≤ i) := hc13
            refine w_iload (i := 1) (npc := 37) rfl rfl ?_
            refine w_goto (pt := 76) rfl ?_
            refine w_istore (i := 7) (npc := 78) (loc' := [cr 81, ai_i a, ai_i b, ai_i c, ai_i e, ai_i f, ai_i i, ai_i a]) rfl rfl ?_
            refine w_aload (i := 0) (npc := 79) rfl rfl rfl ?_
            refine w_getf (i := 81) (ci := 8) (k := 15) (npc := 82) rfl (hI23.pl (by decide)) (hI23.T (by decide) rfl) (by decide) (hI23.ref 81 15 (p := 93) (by decide) (by decide) rfl) ?_
            refine w_aload (i := 0) (npc := 83) rfl rfl rfl ?_
            refine w_getf (i := 81) (ci := 8) (k := 17) (npc := 86) rfl (hI23.pl (by decide)) (hI23.T (by decide) rfl) (by decide) hz11 ?_
            refine w_iload (i := 7) (npc := 88) rfl rfl ?_
            refine w_const (n := 24) (npc := 90) rfl ?_
            refine w_const (n := 8) (npc := 92) rfl ?_
            refine w_iload (i := 6) (npc := 94) rfl rfl ?_
            refine w_const (n := 4) (npc := 95) rfl ?_
            refine w_irem (npc := 96) rfl (by omega) (by omega) (fun z101 hz101 hz101b => ?_)
            refine w_imul (npc := 97) rfl (by omega) ?_
            refine w_isub (npc := 98) rfl (by omega) ?_
            refine w_con (npc := 99) rfl (fun z104 hz104 hz104b => ?_)
            refine w_const (n := 255) (npc := 102) rfl ?_
            refine w_iand (npc := 103) rfl (by omega) (fun z105 hz105 hz105b => ?_)
            refine w_ast (i := 93) (k := 1) (n := 400) (npc := 104) rfl (hI23.pl (by decide)) (hI23.T (by decide) rfl) (by decide) (by omega) cm_af1 ?_
            have hI107 := hI23.puti (i := 93) (k := (z11 : Int).toNat) (z := z105) (lo := 0) (hi := 255) (by decide) rfl (by omega)
            have hF109 := cm_fr.up (i := 93) (k := (z11 : Int).toNat) (v := ai_i z105) hF23 (by first | (simp; done) | (simp; omega) | (intro i k h; (try simp only at h); (try simp only); omega))
            have hR110 := rl.wr (i := 93) (k := (z11 : Int).toNat) (v := ai_i z105) hR23 (by simp)
            generalize hE108 : cm_up Eq23 93 (z11 : Int).toNat (ai_i z105) = E106 at hI107 hF109 hR110  ⊢
            have hz111 : E106 81 17 = ai_i z11 := by rw [← hE108, cm_up_nei _ _ (by decide)]; exact hz11
            have ghz111 := gv_eq hz111
            have hz112 : E106 93 (z11 : Int).toNat = ai_i z105 := by rw [← hE108, cm_up_eq]
            have ghz112 := gv_eq hz112
            refine w_aload (i := 0) (npc := 105) rfl rfl rfl ?_
            refine w_dup (npc := 106) rfl rfl ?_
            refine w_getf (i := 81) (ci := 8) (k := 17) (npc := 109) rfl (hI107.pl (by decide)) (hI107.T (by decide) rfl) (by decide) hz111 ?_
            refine w_const (n := 1) (npc := 110) rfl ?_
            refine w_iadd (npc := 111) rfl (by omega) ?_
            refine w_putf (i := 81) (ci := 8) (k := 17) (t := 0) (npc := 114) rfl (hI107.pl (by decide)) (hI107.T (by decide) rfl) (by decide) cm_fit0 ?_
            have hI115 := hI107.puti (i := 81) (k := 17) (z := z11 + 1) (lo := 0) (hi := 400) (by decide) rfl (by omega)
            have hF117 := cm_fr.up (i := 81) (k := 17) (v := ai_i (z11 + 1)) hF109 (by first | (simp; done) | (simp; omega) | (intro i k h; (try simp only at h); (try simp only); omega))
            have hR118 := rl.wr (i := 81) (k := 17) (v := ai_i (z11 + 1)) hR110 (by simp)
            generalize hE116 : cm_up E106 81 17 (ai_i (z11 + 1)) = E114 at hI115 hF117 hR118  ⊢
            have hz119 : E114 93 (z11 : Int).toNat = ai_i z105 := by rw [← hE116, cm_up_nei _ _ (by decide)]; exact hz112
            have ghz119 := gv_eq hz119
            have hz120 : E114 81 17 = ai_i (z11 + 1) := by rw [← hE116, cm_up_eq]
            have ghz120 := gv_eq hz120
            refine w_iinc (i := 6) (n := 1) (npc := 117) (loc' := [cr 81, ai_i a, ai_i b, ai_i c, ai_i e, ai_i f, ai_i (i + 1), ai_i a]) rfl rfl (by omega) rfl ?_
            refine w_goto (pt := 23) rfl ?_
            exact ih23 (i + 1) (ai_i a) E114 (by omega) hI115 hF117 hR118 (by omega)
    exact loop23 _ (0) (ai_un) E2 (Nat.lt_succ_self _) hI3 hF5 hR6 (by omega)
  · replace hc10 : ¬ (z1 + 20 ≤ (400 : Int)) := hc10
    refine w_const (n := (-1)) (npc := 19) rfl ?_
    exact w_iret rfl (⟨rfl, rfl, rfl, hI3, hF5, hR6, (-1), rfl, by omega⟩) (by omega) (by omega)
