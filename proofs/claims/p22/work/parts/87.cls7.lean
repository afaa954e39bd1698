set_option maxRecDepth 16384 in
theorem ct_ck_fail {sl : Int × Int} {x : ai_E} {d : Nat} {T : cm_T} {E : cm_E} {nx : Nat} (a p : Int)  (hI : cs_I T E nx) (hp0 : 1 ≤ a ∧ a ≤ 3) (hp1 : 0 ≤ p ∧ p ≤ 400) : cm_ct (ai_ev sl (d + 1)) x 46 [cr 19, ai_i a, ai_i p] T E nx 0 0 (fun rk rv T' E' nx' => rk = 0 ∧ T = T' ∧ nx = nx' ∧ cs_I T E' nx ∧ cm_fr (fun i k => i = 19 ∧ (k = 6 ∨ k = 7)) E E' ∧ (1 ≤ gv E' 19 6)) := by
  refine cm_body (M := ai_m46) rfl rfl (fun kc ks => ?_)
  show cm_wp (ai_find ai_c46 sl) (ai_ev sl (d + 0)) x (kc + 0) (ks + 0) _ 0 [cr 19, ai_i a, ai_i p] [] T E nx kc ks
  have hF : cm_fr (fun i k => i = 19 ∧ (k = 6 ∨ k = 7)) E E := fun _ _ _ => rfl
  refine w_aload (i := 0) (npc := 1) (v := cr 19) rfl rfl rfl ?_
  obtain ⟨z1, hz1, hz1a, hz1b⟩ := hI.int 19 6 (lo := 0) (hi := 3) (by decide) (by decide) rfl
  have ghz1 := gv_eq hz1
  refine w_getf (i := 19) (ci := 0) (k := 6) (npc := 4) rfl (hI.pl (by decide)) (hI.T (by decide) rfl) (by decide) hz1 ?_
  refine w_if (c := .ne) (npc := 7) (pt := 17) rfl (fun hc2 => ?_) (fun hc2 => ?_)
  · replace hc2 : z1 ≠ (0 : Int) := hc2
    exact w_vret rfl (⟨rfl, rfl, rfl, hI, hF, by omega⟩) (by omega) (by omega)
  · replace hc2 : ¬ (z1 ≠ (0 : Int)) := hc2
    refine w_aload (i := 0) (npc := 8) (v := cr 19) rfl rfl rfl ?_
    refine w_iload (i := 1) (npc := 9) rfl rfl ?_
    refine w_putf (i := 19) (ci := 0) (k := 6) (t := 0) (npc := 12) rfl (hI.pl (by decide)) (hI.T (by decide) rfl) (by decide) cm_fit0 ?_
    have hI4 := hI.puti (i := 19) (k := 6) (z := a) (lo := 0) (hi := 3) (by decide) rfl (by omega)
    have hF6 := cm_fr.up (i := 19) (k := 6) (v := ai_i a) hF (by first | omega | (simp; done) | (simp; omega) | (simp only; omega))
    generalize hE5 : cm_up E 19 6 (ai_i a) = E3 at hI4 hF6 ⊢
    have hz7 : E3 19 6 = ai_i a := by rw [← hE5, cm_up_eq]
    have ghz7 := gv_eq hz7
    refine w_aload (i := 0) (npc := 13) (v := cr 19) rfl rfl rfl ?_
    refine w_iload (i := 2) (npc := 14) rfl rfl ?_
    refine w_putf (i := 19) (ci := 0) (k := 7) (t := 0) (npc := 17) rfl (hI4.pl (by decide)) (hI4.T (by decide) rfl) (by decide) cm_fit0 ?_
    have hI9 := hI4.puti (i := 19) (k := 7) (z := p) (lo := 0) (hi := 400) (by decide) rfl (by omega)
    have hF11 := cm_fr.up (i := 19) (k := 7) (v := ai_i p) hF6 (by first | omega | (simp; done) | (simp; omega) | (simp only; omega))
    generalize hE10 : cm_up E3 19 7 (ai_i p) = E8 at hI9 hF11 ⊢
    have hz12 : E8 19 6 = ai_i a := by rw [← hE10, cm_up_ne _ _ (by decide)]; exact hz7
    have ghz12 := gv_eq hz12
    have hz13 : E8 19 7 = ai_i p := by rw [← hE10, cm_up_eq]
    have ghz13 := gv_eq hz13
    exact w_vret rfl (⟨rfl, rfl, rfl, hI9, hF11, by omega⟩) (by omega) (by omega)
set_option maxRecDepth 16384 in
theorem ct_ck_read {sl : Int × Int} {x : ai_E} {d : Nat} {T : cm_T} {E : cm_E} {nx : Nat}  (hI : cs_I T E nx) (hcb : E 19 2 = cr 5) : cm_ct (ai_ev sl (d + 2)) x 47 [cr 19] T E nx 0 0 (fun rk rv T' E' nx' => rk = 1 ∧ T = T' ∧ nx = nx' ∧ cs_I T E' nx ∧ cm_fr (fun i k => i = 19 ∧ (k = 4 ∨ k = 6 ∨ k = 7)) E E' ∧ ∃ z : Int, rv = ai_i z ∧ (0 ≤ z ∧ z ≤ 255 ∧ gv E 19 4 ≤ gv E' 19 4 ∧ gv E' 19 4 ≤ gv E 19 4 + 1 ∧ (gv E' 19 6 = 0 → gv E 19 6 = 0 ∧ gv E 19 4 < gv E 19 3 ∧ gv E' 19 4 = gv E 19 4 + 1 ∧ z = gv E 5 (gv E 19 4).toNat))) := by
  refine cm_body (M := ai_m47) rfl rfl (fun kc ks => ?_)
  show cm_wp (ai_find ai_c47 sl) (ai_ev sl (d + 1)) x (kc + 0) (ks + 0) _ 0 [cr 19, ai_un] [] T E nx kc ks
  have hF : cm_fr (fun i k => i = 19 ∧ (k = 4 ∨ k = 6 ∨ k = 7)) E E := fun _ _ _ => rfl
  refine w_aload (i := 0) (npc := 1) (v := cr 19) rfl rfl rfl ?_
  obtain ⟨z1, hz1, hz1a, hz1b⟩ := hI.int 19 6 (lo := 0) (hi := 3) (by decide) (by decide) rfl
  have ghz1 := gv_eq hz1
  refine w_getf (i := 19) (ci := 0) (k := 6) (npc := 4) rfl (hI.pl (by decide)) (hI.T (by decide) rfl) (by decide) hz1 ?_
  refine w_if (c := .eq) (npc := 7) (pt := 9) rfl (fun hc2 => ?_) (fun hc2 => ?_)
  · replace hc2 : z1 = (0 : Int) := hc2
    refine w_aload (i := 0) (npc := 10) (v := cr 19) rfl rfl rfl ?_
    obtain ⟨z3, hz3, hz3a, hz3b⟩ := hI.int 19 4 (lo := 0) (hi := 400) (by decide) (by decide) rfl
    have ghz3 := gv_eq hz3
    refine w_getf (i := 19) (ci := 0) (k := 4) (npc := 13) rfl (hI.pl (by decide)) (hI.T (by decide) rfl) (by decide) hz3 ?_
    refine w_if (c := .lt) (npc := 16) (pt := 27) rfl (fun hc4 => ?_) (fun hc4 => ?_)
    · replace hc4 : z3 < (0 : Int) := hc4
      refine w_aload (i := 0) (npc := 28) (v := cr 19) rfl rfl rfl ?_
      refine w_const (n := 1) (npc := 29) rfl ?_
      refine w_aload (i := 0) (npc := 30) (v := cr 19) rfl rfl rfl ?_
      obtain ⟨z5, hz5, hz5a, hz5b⟩ := hI.int 19 3 (lo := 0) (hi := 400) (by decide) (by decide) rfl
      have ghz5 := gv_eq hz5
      refine w_getf (i := 19) (ci := 0) (k := 3) (npc := 33) rfl (hI.pl (by decide)) (hI.T (by decide) rfl) (by decide) hz5 ?_
      refine w_virt (ci := 0) (i := 19) (npc := 36) (a := [cr 19, ai_i 1, ai_i z5]) (rest := []) rfl rfl (hI.pl (by decide)) (hI.T (by decide) rfl) rfl rfl rfl rfl (ct_ck_fail (sl := sl) (x := x) (d := d + 0) (1) (z5) hI (by omega) (by omega)) (Or.inl rfl) (fun k9 v9 T7 E7 nx7 kc7 ks7 hq6 hk7 hv7 => ?_)
      obtain ⟨rfl, rfl, rfl, hI9, hG10, hz8⟩ := hq6
      obtain rfl : kc = kc7 := by omega
      obtain rfl : ks = ks7 := by omega
      have hF12 := cm_fr.trans hF hG10 (by intro i k h; (try simp only at h); (try simp only); omega)
      have hz13 : E7 19 2 = cr 5 := (hG10 19 2 (by first | omega | (simp; done) | (simp; omega) | (simp only; omega))).trans hcb
      have hz14 : E7 19 4 = ai_i z3 := (hG10 19 4 (by first | omega | (simp; done) | (simp; omega) | (simp only; omega))).trans hz3
      have ghz14 := gv_eq hz14
      have hz15 : E7 19 3 = ai_i z5 := (hG10 19 3 (by first | omega | (simp; done) | (simp; omega) | (simp only; omega))).trans hz5
      have ghz15 := gv_eq hz15
      refine Or.inl ⟨rfl, ?_⟩
      refine w_const (n := 0) (npc := 37) rfl ?_
      exact w_iret rfl (⟨rfl, rfl, rfl, hI9, hF12, 0, rfl, by omega⟩) (by omega) (by omega)
    · replace hc4 : ¬ (z3 < (0 : Int)) := hc4
      refine w_aload (i := 0) (npc := 17) (v := cr 19) rfl rfl rfl ?_
      refine w_getf (i := 19) (ci := 0) (k := 4) (npc := 20) rfl (hI.pl (by decide)) (hI.T (by decide) rfl) (by decide) hz3 ?_
      refine w_aload (i := 0) (npc := 21) (v := cr 19) rfl rfl rfl ?_
      obtain ⟨z16, hz16, hz16a, hz16b⟩ := hI.int 19 3 (lo := 0) (hi := 400) (by decide) (by decide) rfl
      have ghz16 := gv_eq hz16
      refine w_getf (i := 19) (ci := 0) (k := 3) (npc := 24) rfl (hI.pl (by decide)) (hI.T (by decide) rfl) (by decide) hz16 ?_
      refine w_icmp (c := .lt) (npc := 27) (pt := 38) rfl (fun hc17 => ?_) (fun hc17 => ?_)
      · replace hc17 : z3 < z16 := hc17
        refine w_aload (i := 0) (npc := 39) (v := cr 19) rfl rfl rfl ?_
        refine w_getf (i := 19) (ci := 0) (k := 2) (npc := 42) rfl (hI.pl (by decide)) (hI.T (by decide) rfl) (by decide) hcb ?_
        refine w_aload (i := 0) (npc := 43) (v := cr 19) rfl rfl rfl ?_
        refine w_getf (i := 19) (ci := 0) (k := 4) (npc := 46) rfl (hI.pl (by decide)) (hI.T (by decide) rfl) (by decide) hz3 ?_
        obtain ⟨z18, hz18, hz18a, hz18b⟩ := hI.int 5 (z3 : Int).toNat (lo := 0) (hi := 255) (by decide) (show (z3 : Int).toNat < 400 by omega) rfl
        have ghz18 := gv_eq hz18
        refine w_ald (i := 5) (t := 1) (n := 400) (npc := 47) rfl (hI.pl (by decide)) (hI.T (by decide) rfl) (by decide) rfl (by omega) hz18 ?_
        refine w_istore (i := 1) (npc := 48) (loc' := [cr 19, ai_i z18]) rfl rfl ?_
        refine w_aload (i := 0) (npc := 49) (v := cr 19) rfl rfl rfl ?_
        refine w_dup (npc := 50) rfl rfl ?_
        refine w_getf (i := 19) (ci := 0) (k := 4) (npc := 53) rfl (hI.pl (by decide)) (hI.T (by decide) rfl) (by decide) hz3 ?_
        refine w_const (n := 1) (npc := 54) rfl ?_
        refine w_iadd (npc := 55) rfl (by omega) ?_
        refine w_putf (i := 19) (ci := 0) (k := 4) (t := 0) (npc := 58) rfl (hI.pl (by decide)) (hI.T (by decide) rfl) (by decide) cm_fit0 ?_
        have hI21 := hI.puti (i := 19) (k := 4) (z := z3 + 1) (lo := 0) (hi := 400) (by decide) rfl (by omega)
        have hF23 := cm_fr.up (i := 19) (k := 4) (v := ai_i (z3 + 1)) hF (by first | omega | (simp; done) | (simp; omega) | (simp only; omega))
        generalize hE22 : cm_up E 19 4 (ai_i (z3 + 1)) = E20 at hI21 hF23 ⊢
        have hz24 : E20 19 2 = cr 5 := by rw [← hE22, cm_up_ne _ _ (by decide)]; exact hcb
        have hz25 : E20 19 6 = ai_i z1 := by rw [← hE22, cm_up_ne _ _ (by decide)]; exact hz1
        have ghz25 := gv_eq hz25
        have hz26 : E20 19 3 = ai_i z16 := by rw [← hE22, cm_up_ne _ _ (by decide)]; exact hz16
        have ghz26 := gv_eq hz26
        have hz27 : E20 5 ((z3 : Int).toNat) = ai_i z18 := by rw [← hE22, cm_up_nei _ _ (by decide)]; exact hz18
        have ghz27 := gv_eq hz27
        have hz28 : E20 19 4 = ai_i (z3 + 1) := by rw [← hE22, cm_up_eq]
        have ghz28 := gv_eq hz28
        refine w_iload (i := 1) (npc := 59) rfl rfl ?_
        exact w_iret rfl (⟨rfl, rfl, rfl, hI21, hF23, z18, rfl, ⟨by omega, by omega, by omega, by omega, fun _ => ⟨by omega, by omega, by omega, by rw [show gv E 19 4 = z3 by omega]; omega⟩⟩⟩) (by omega) (by omega)
      · replace hc17 : ¬ (z3 < z16) := hc17
        refine w_aload (i := 0) (npc := 28) (v := cr 19) rfl rfl rfl ?_
        refine w_const (n := 1) (npc := 29) rfl ?_
        refine w_aload (i := 0) (npc := 30) (v := cr 19) rfl rfl rfl ?_
        refine w_getf (i := 19) (ci := 0) (k := 3) (npc := 33) rfl (hI.pl (by decide)) (hI.T (by decide) rfl) (by decide) hz16 ?_
        refine w_virt (ci := 0) (i := 19) (npc := 36) (a := [cr 19, ai_i 1, ai_i z16]) (rest := []) rfl rfl (hI.pl (by decide)) (hI.T (by decide) rfl) rfl rfl rfl rfl (ct_ck_fail (sl := sl) (x := x) (d := d + 0) (1) (z16) hI (by omega) (by omega)) (Or.inl rfl) (fun k9 v9 T30 E30 nx30 kc30 ks30 hq29 hk30 hv30 => ?_)
        obtain ⟨rfl, rfl, rfl, hI32, hG33, hz31⟩ := hq29
        obtain rfl : kc = kc30 := by omega
        obtain rfl : ks = ks30 := by omega
        have hF35 := cm_fr.trans hF hG33 (by intro i k h; (try simp only at h); (try simp only); omega)
        have hz36 : E30 19 2 = cr 5 := (hG33 19 2 (by first | omega | (simp; done) | (simp; omega) | (simp only; omega))).trans hcb
        have hz37 : E30 19 4 = ai_i z3 := (hG33 19 4 (by first | omega | (simp; done) | (simp; omega) | (simp only; omega))).trans hz3
        have ghz37 := gv_eq hz37
        have hz38 : E30 19 3 = ai_i z16 := (hG33 19 3 (by first | omega | (simp; done) | (simp; omega) | (simp only; omega))).trans hz16
        have ghz38 := gv_eq hz38
        refine Or.inl ⟨rfl, ?_⟩
        refine w_const (n := 0) (npc := 37) rfl ?_
        exact w_iret rfl (⟨rfl, rfl, rfl, hI32, hF35, 0, rfl, by omega⟩) (by omega) (by omega)
  · replace hc2 : ¬ (z1 = (0 : Int)) := hc2
    refine w_const (n := 0) (npc := 8) rfl ?_
    exact w_iret rfl (⟨rfl, rfl, rfl, hI, hF, 0, rfl, by omega⟩) (by omega) (by omega)
set_option maxRecDepth 16384 in
theorem ct_ck_take {sl : Int × Int} {x : ai_E} {d : Nat} {T : cm_T} {E : cm_E} {nx : Nat} (a m : Int)  (hI : cs_I T E nx) (hcb : E 19 2 = cr 5) : cm_ct (ai_ev sl (d + 3)) x 48 [cr 19, ai_i a, ai_i m] T E nx 0 0 (fun rk rv T' E' nx' => rk = 1 ∧ T = T' ∧ nx = nx' ∧ cs_I T E' nx ∧ cm_fr (fun i k => i = 19 ∧ (k = 4 ∨ k = 6 ∨ k = 7)) E E' ∧ ∃ z : Int, rv = ai_i z ∧ (0 ≤ z ∧ z ≤ 255 ∧ gv E 19 4 ≤ gv E' 19 4 ∧ gv E' 19 4 ≤ gv E 19 4 + 1 ∧ (gv E' 19 6 = 0 → gv E 19 6 = 0 ∧ gv E 19 4 < gv E 19 3 ∧ gv E' 19 4 = gv E 19 4 + 1 ∧ z = gv E 5 (gv E 19 4).toNat ∧ a ≤ z ∧ z ≤ m))) := by
  refine cm_body (M := ai_m48) rfl rfl (fun kc ks => ?_)
  show cm_wp (ai_find ai_c48 sl) (ai_ev sl (d + 2)) x (kc + 0) (ks + 0) _ 0 [cr 19, ai_i a, ai_i m, ai_un, ai_un] [] T E nx kc ks
  have hF : cm_fr (fun i k => i = 19 ∧ (k = 4 ∨ k = 6 ∨ k = 7)) E E := fun _ _ _ => rfl
  refine w_aload (i := 0) (npc := 1) (v := cr 19) rfl rfl rfl ?_
  obtain ⟨z1, hz1, hz1a, hz1b⟩ := hI.int 19 4 (lo := 0) (hi := 400) (by decide) (by decide) rfl
  have ghz1 := gv_eq hz1
  refine w_getf (i := 19) (ci := 0) (k := 4) (npc := 4) rfl (hI.pl (by decide)) (hI.T (by decide) rfl) (by decide) hz1 ?_
  refine w_istore (i := 3) (npc := 5) (loc' := [cr 19, ai_i a, ai_i m, ai_i z1, ai_un]) rfl rfl ?_
  refine w_aload (i := 0) (npc := 6) (v := cr 19) rfl rfl rfl ?_
  obtain ⟨z2, hz2, hz2a, hz2b⟩ := hI.int 19 6 (lo := 0) (hi := 3) (by decide) (by decide) rfl
  have ghz2 := gv_eq hz2
  obtain ⟨z3, hz3, hz3a, hz3b⟩ := hI.int 19 3 (lo := 0) (hi := 400) (by decide) (by decide) rfl
  have ghz3 := gv_eq hz3
  refine w_virt (ci := 0) (i := 19) (npc := 9) (a := [cr 19]) (rest := []) rfl rfl (hI.pl (by decide)) (hI.T (by decide) rfl) rfl rfl rfl rfl (ct_ck_read (sl := sl) (x := x) (d := d + 0)  hI hcb) (Or.inl rfl) (fun k9 v9 T5 E5 nx5 kc5 ks5 hq4 hk5 hv5 => ?_)
  obtain ⟨rfl, rfl, rfl, hI7, hG8, z6, rfl, hz6⟩ := hq4
  obtain rfl : kc = kc5 := by omega
  obtain rfl : ks = ks5 := by omega
  have hF10 := cm_fr.trans hF hG8 (by intro i k h; (try simp only at h); (try simp only); omega)
  have hz11 : E5 19 2 = cr 5 := (hG8 19 2 (by first | omega | (simp; done) | (simp; omega) | (simp only; omega))).trans hcb
  have hz12 : E5 19 3 = ai_i z3 := (hG8 19 3 (by first | omega | (simp; done) | (simp; omega) | (simp only; omega))).trans hz3
  have ghz12 := gv_eq hz12
  refine Or.inr (Or.inl ⟨rfl, ?_⟩)
  refine w_istore (i := 4) (npc := 11) (loc' := [cr 19, ai_i a, ai_i m, ai_i z1, ai_i z6]) rfl rfl ?_
  refine w_iload (i := 4) (npc := 13) rfl rfl ?_
  refine w_iload (i := 1) (npc := 14) rfl rfl ?_
  refine w_icmp (c := .lt) (npc := 17) (pt := 23) rfl (fun hc13 => ?_) (fun hc13 => ?_)
  · replace hc13 : z6 < a := hc13
    refine w_aload (i := 0) (npc := 24) (v := cr 19) rfl rfl rfl ?_
    refine w_const (n := 2) (npc := 25) rfl ?_
    refine w_iload (i := 3) (npc := 26) rfl rfl ?_
    obtain ⟨z14, hz14, hz14a, hz14b⟩ := hI7.int 19 4 (lo := 0) (hi := 400) (by decide) (by decide) rfl
    have ghz14 := gv_eq hz14
    obtain ⟨z15, hz15, hz15a, hz15b⟩ := hI7.int 19 6 (lo := 0) (hi := 3) (by decide) (by decide) rfl
    have ghz15 := gv_eq hz15
    refine w_virt (ci := 0) (i := 19) (npc := 29) (a := [cr 19, ai_i 2, ai_i z1]) (rest := []) rfl rfl (hI7.pl (by decide)) (hI7.T (by decide) rfl) rfl rfl rfl rfl (ct_ck_fail (sl := sl) (x := x) (d := d + 1) (2) (z1) hI7 (by omega) (by omega)) (Or.inl rfl) (fun k9 v9 T17 E17 nx17 kc17 ks17 hq16 hk17 hv17 => ?_)
    obtain ⟨rfl, rfl, rfl, hI19, hG20, hz18⟩ := hq16
    obtain rfl : kc = kc17 := by omega
    obtain rfl : ks = ks17 := by omega
    have hF22 := cm_fr.trans hF10 hG20 (by intro i k h; (try simp only at h); (try simp only); omega)
    have hz23 : E17 19 2 = cr 5 := (hG20 19 2 (by first | omega | (simp; done) | (simp; omega) | (simp only; omega))).trans hz11
    have hz24 : E17 19 3 = ai_i z3 := (hG20 19 3 (by first | omega | (simp; done) | (simp; omega) | (simp only; omega))).trans hz12
    have ghz24 := gv_eq hz24
    have hz25 : E17 19 4 = ai_i z14 := (hG20 19 4 (by first | omega | (simp; done) | (simp; omega) | (simp only; omega))).trans hz14
    have ghz25 := gv_eq hz25
    refine Or.inl ⟨rfl, ?_⟩
    refine w_iload (i := 4) (npc := 31) rfl rfl ?_
    exact w_iret rfl (⟨rfl, rfl, rfl, hI19, hF22, z6, rfl, by omega⟩) (by omega) (by omega)
  · replace hc13 : ¬ (z6 < a) := hc13
    refine w_iload (i := 4) (npc := 19) rfl rfl ?_
    refine w_iload (i := 2) (npc := 20) rfl rfl ?_
    refine w_icmp (c := .le) (npc := 23) (pt := 29) rfl (fun hc26 => ?_) (fun hc26 => ?_)
    · replace hc26 : z6 ≤ m := hc26
      refine w_iload (i := 4) (npc := 31) rfl rfl ?_
      exact w_iret rfl (⟨rfl, rfl, rfl, hI7, hF10, z6, rfl, by omega⟩) (by omega) (by omega)
    · replace hc26 : ¬ (z6 ≤ m) := hc26
      refine w_aload (i := 0) (npc := 24) (v := cr 19) rfl rfl rfl ?_
      refine w_const (n := 2) (npc := 25) rfl ?_
      refine w_iload (i := 3) (npc := 26) rfl rfl ?_
      obtain ⟨z27, hz27, hz27a, hz27b⟩ := hI7.int 19 4 (lo := 0) (hi := 400) (by decide) (by decide) rfl
      have ghz27 := gv_eq hz27
      obtain ⟨z28, hz28, hz28a, hz28b⟩ := hI7.int 19 6 (lo := 0) (hi := 3) (by decide) (by decide) rfl
      have ghz28 := gv_eq hz28
      refine w_virt (ci := 0) (i := 19) (npc := 29) (a := [cr 19, ai_i 2, ai_i z1]) (rest := []) rfl rfl (hI7.pl (by decide)) (hI7.T (by decide) rfl) rfl rfl rfl rfl (ct_ck_fail (sl := sl) (x := x) (d := d + 1) (2) (z1) hI7 (by omega) (by omega)) (Or.inl rfl) (fun k9 v9 T30 E30 nx30 kc30 ks30 hq29 hk30 hv30 => ?_)
      obtain ⟨rfl, rfl, rfl, hI32, hG33, hz31⟩ := hq29
      obtain rfl : kc = kc30 := by omega
      obtain rfl : ks = ks30 := by omega
      have hF35 := cm_fr.trans hF10 hG33 (by intro i k h; (try simp only at h); (try simp only); omega)
      have hz36 : E30 19 2 = cr 5 := (hG33 19 2 (by first | omega | (simp; done) | (simp; omega) | (simp only; omega))).trans hz11
      have hz37 : E30 19 3 = ai_i z3 := (hG33 19 3 (by first | omega | (simp; done) | (simp; omega) | (simp only; omega))).trans hz12
      have ghz37 := gv_eq hz37
      have hz38 : E30 19 4 = ai_i z27 := (hG33 19 4 (by first | omega | (simp; done) | (simp; omega) | (simp only; omega))).trans hz27
      have ghz38 := gv_eq hz38
      refine Or.inl ⟨rfl, ?_⟩
      refine w_iload (i := 4) (npc := 31) rfl rfl ?_
      exact w_iret rfl (⟨rfl, rfl, rfl, hI32, hF35, z6, rfl, by omega⟩) (by omega) (by omega)
set_option maxRecDepth 16384 in
theorem ct_ck_takePair {sl : Int × Int} {x : ai_E} {d : Nat} {T : cm_T} {E : cm_E} {nx : Nat} (a m : Int)  (hI : cs_I T E nx) (hcb : E 19 2 = cr 5) : cm_ct (ai_ev sl (d + 3)) x 53 [cr 19, ai_i a, ai_i m] T E nx 0 0 (fun rk rv T' E' nx' => rk = 0 ∧ T = T' ∧ nx = nx' ∧ cs_I T E' nx ∧ cm_fr (fun i k => i = 19 ∧ (k = 4 ∨ k = 6 ∨ k = 7)) E E' ∧ (gv E 19 4 ≤ gv E' 19 4 ∧ gv E' 19 4 ≤ gv E 19 4 + 2 ∧ (gv E' 19 6 = 0 → gv E 19 6 = 0))) := by
  refine cm_body (M := ai_m53) rfl rfl (fun kc ks => ?_)
  show cm_wp (ai_find ai_c53 sl) (ai_ev sl (d + 2)) x (kc + 0) (ks + 0) _ 0 [cr 19, ai_i a, ai_i m, ai_un, ai_un] [] T E nx kc ks
  have hF : cm_fr (fun i k => i = 19 ∧ (k = 4 ∨ k = 6 ∨ k = 7)) E E := fun _ _ _ => rfl
  refine w_aload (i := 0) (npc := 1) (v := cr 19) rfl rfl rfl ?_
  obtain ⟨z1, hz1, hz1a, hz1b⟩ := hI.int 19 4 (lo := 0) (hi := 400) (by decide) (by decide) rfl
  have ghz1 := gv_eq hz1
  refine w_getf (i := 19) (ci := 0) (k := 4) (npc := 4) rfl (hI.pl (by decide)) (hI.T (by decide) rfl) (by decide) hz1 ?_
  refine w_istore (i := 3) (npc := 5) (loc' := [cr 19, ai_i a, ai_i m, ai_i z1, ai_un]) rfl rfl ?_
  refine w_aload (i := 0) (npc := 6) (v := cr 19) rfl rfl rfl ?_
  obtain ⟨z2, hz2, hz2a, hz2b⟩ := hI.int 19 6 (lo := 0) (hi := 3) (by decide) (by decide) rfl
  have ghz2 := gv_eq hz2
  obtain ⟨z3, hz3, hz3a, hz3b⟩ := hI.int 19 3 (lo := 0) (hi := 400) (by decide) (by decide) rfl
  have ghz3 := gv_eq hz3
  refine w_virt (ci := 0) (i := 19) (npc := 9) (a := [cr 19]) (rest := []) rfl rfl (hI.pl (by decide)) (hI.T (by decide) rfl) rfl rfl rfl rfl (ct_ck_read (sl := sl) (x := x) (d := d + 0)  hI hcb) (Or.inl rfl) (fun k9 v9 T5 E5 nx5 kc5 ks5 hq4 hk5 hv5 => ?_)
  obtain ⟨rfl, rfl, rfl, hI7, hG8, z6, rfl, hz6⟩ := hq4
  obtain rfl : kc = kc5 := by omega
  obtain rfl : ks = ks5 := by omega
  have hF10 := cm_fr.trans hF hG8 (by intro i k h; (try simp only at h); (try simp only); omega)
  have hz11 : E5 19 2 = cr 5 := (hG8 19 2 (by first | omega | (simp; done) | (simp; omega) | (simp only; omega))).trans hcb
  have hz12 : E5 19 3 = ai_i z3 := (hG8 19 3 (by first | omega | (simp; done) | (simp; omega) | (simp only; omega))).trans hz3
  have ghz12 := gv_eq hz12
  refine Or.inr (Or.inl ⟨rfl, ?_⟩)
  refine w_const (n := 256) (npc := 12) rfl ?_
  refine w_imul (npc := 13) rfl (by omega) ?_
  refine w_istore (i := 4) (npc := 15) (loc' := [cr 19, ai_i a, ai_i m, ai_i z1, ai_i (z6 * 256)]) rfl rfl ?_
  refine w_iload (i := 4) (npc := 17) rfl rfl ?_
  refine w_aload (i := 0) (npc := 18) (v := cr 19) rfl rfl rfl ?_
  obtain ⟨z14, hz14, hz14a, hz14b⟩ := hI7.int 19 4 (lo := 0) (hi := 400) (by decide) (by decide) rfl
  have ghz14 := gv_eq hz14
  obtain ⟨z15, hz15, hz15a, hz15b⟩ := hI7.int 19 6 (lo := 0) (hi := 3) (by decide) (by decide) rfl
  have ghz15 := gv_eq hz15
  refine w_virt (ci := 0) (i := 19) (npc := 21) (a := [cr 19]) (rest := [ai_i (z6 * 256)]) rfl rfl (hI7.pl (by decide)) (hI7.T (by decide) rfl) rfl rfl rfl rfl (ct_ck_read (sl := sl) (x := x) (d := d + 0)  hI7 hz11) (Or.inl rfl) (fun k9 v9 T17 E17 nx17 kc17 ks17 hq16 hk17 hv17 => ?_)
  obtain ⟨rfl, rfl, rfl, hI19, hG20, z18, rfl, hz18⟩ := hq16
  obtain rfl : kc = kc17 := by omega
  obtain rfl : ks = ks17 := by omega
  have hF22 := cm_fr.trans hF10 hG20 (by intro i k h; (try simp only at h); (try simp only); omega)
  have hz23 : E17 19 2 = cr 5 := (hG20 19 2 (by first | omega | (simp; done) | (simp; omega) | (simp only; omega))).trans hz11
  have hz24 : E17 19 3 = ai_i z3 := (hG20 19 3 (by first | omega | (simp; done) | (simp; omega) | (simp only; omega))).trans hz12
  have ghz24 := gv_eq hz24
  refine Or.inr (Or.inl ⟨rfl, ?_⟩)
  refine w_iadd (npc := 22) rfl (by omega) ?_
  refine w_istore (i := 4) (npc := 24) (loc' := [cr 19, ai_i a, ai_i m, ai_i z1, ai_i (z6 * 256 + z18)]) rfl rfl ?_
  refine w_iload (i := 4) (npc := 26) rfl rfl ?_
  refine w_iload (i := 1) (npc := 27) rfl rfl ?_
  refine w_icmp (c := .lt) (npc := 30) (pt := 36) rfl (fun hc26 => ?_) (fun hc26 => ?_)
  · replace hc26 : z6 * 256 + z18 < a := hc26
    refine w_aload (i := 0) (npc := 37) (v := cr 19) rfl rfl rfl ?_
    refine w_const (n := 2) (npc := 38) rfl ?_
    refine w_iload (i := 3) (npc := 39) rfl rfl ?_
    obtain ⟨z27, hz27, hz27a, hz27b⟩ := hI19.int 19 4 (lo := 0) (hi := 400) (by decide) (by decide) rfl
    have ghz27 := gv_eq hz27
    obtain ⟨z28, hz28, hz28a, hz28b⟩ := hI19.int 19 6 (lo := 0) (hi := 3) (by decide) (by decide) rfl
    have ghz28 := gv_eq hz28
    refine w_virt (ci := 0) (i := 19) (npc := 42) (a := [cr 19, ai_i 2, ai_i z1]) (rest := []) rfl rfl (hI19.pl (by decide)) (hI19.T (by decide) rfl) rfl rfl rfl rfl (ct_ck_fail (sl := sl) (x := x) (d := d + 1) (2) (z1) hI19 (by omega) (by omega)) (Or.inl rfl) (fun k9 v9 T30 E30 nx30 kc30 ks30 hq29 hk30 hv30 => ?_)
    obtain ⟨rfl, rfl, rfl, hI32, hG33, hz31⟩ := hq29
    obtain rfl : kc = kc30 := by omega
    obtain rfl : ks = ks30 := by omega
    have hF35 := cm_fr.trans hF22 hG33 (by intro i k h; (try simp only at h); (try simp only); omega)
    have hz36 : E30 19 2 = cr 5 := (hG33 19 2 (by first | omega | (simp; done) | (simp; omega) | (simp only; omega))).trans hz23
    have hz37 : E30 19 3 = ai_i z3 := (hG33 19 3 (by first | omega | (simp; done) | (simp; omega) | (simp only; omega))).trans hz24
    have ghz37 := gv_eq hz37
    have hz38 : E30 19 4 = ai_i z27 := (hG33 19 4 (by first | omega | (simp; done) | (simp; omega) | (simp only; omega))).trans hz27
    have ghz38 := gv_eq hz38
    refine Or.inl ⟨rfl, ?_⟩
    exact w_vret rfl (⟨rfl, rfl, rfl, hI32, hF35, by omega⟩) (by omega) (by omega)
  · replace hc26 : ¬ (z6 * 256 + z18 < a) := hc26
    refine w_iload (i := 4) (npc := 32) rfl rfl ?_
    refine w_iload (i := 2) (npc := 33) rfl rfl ?_
    refine w_icmp (c := .le) (npc := 36) (pt := 42) rfl (fun hc39 => ?_) (fun hc39 => ?_)
    · replace hc39 : z6 * 256 + z18 ≤ m := hc39
      exact w_vret rfl (⟨rfl, rfl, rfl, hI19, hF22, by omega⟩) (by omega) (by omega)
    · replace hc39 : ¬ (z6 * 256 + z18 ≤ m) := hc39
      refine w_aload (i := 0) (npc := 37) (v := cr 19) rfl rfl rfl ?_
      refine w_const (n := 2) (npc := 38) rfl ?_
      refine w_iload (i := 3) (npc := 39) rfl rfl ?_
      obtain ⟨z40, hz40, hz40a, hz40b⟩ := hI19.int 19 4 (lo := 0) (hi := 400) (by decide) (by decide) rfl
      have ghz40 := gv_eq hz40
      obtain ⟨z41, hz41, hz41a, hz41b⟩ := hI19.int 19 6 (lo := 0) (hi := 3) (by decide) (by decide) rfl
      have ghz41 := gv_eq hz41
      refine w_virt (ci := 0) (i := 19) (npc := 42) (a := [cr 19, ai_i 2, ai_i z1]) (rest := []) rfl rfl (hI19.pl (by decide)) (hI19.T (by decide) rfl) rfl rfl rfl rfl (ct_ck_fail (sl := sl) (x := x) (d := d + 1) (2) (z1) hI19 (by omega) (by omega)) (Or.inl rfl) (fun k9 v9 T43 E43 nx43 kc43 ks43 hq42 hk43 hv43 => ?_)
      obtain ⟨rfl, rfl, rfl, hI45, hG46, hz44⟩ := hq42
      obtain rfl : kc = kc43 := by omega
      obtain rfl : ks = ks43 := by omega
      have hF48 := cm_fr.trans hF22 hG46 (by intro i k h; (try simp only at h); (try simp only); omega)
      have hz49 : E43 19 2 = cr 5 := (hG46 19 2 (by first | omega | (simp; done) | (simp; omega) | (simp only; omega))).trans hz23
      have hz50 : E43 19 3 = ai_i z3 := (hG46 19 3 (by first | omega | (simp; done) | (simp; omega) | (simp only; omega))).trans hz24
      have ghz50 := gv_eq hz50
      have hz51 : E43 19 4 = ai_i z40 := (hG46 19 4 (by first | omega | (simp; done) | (simp; omega) | (simp only; omega))).trans hz40
      have ghz51 := gv_eq hz51
      refine Or.inl ⟨rfl, ?_⟩
      exact w_vret rfl (⟨rfl, rfl, rfl, hI45, hF48, by omega⟩) (by omega) (by omega)
set_option maxRecDepth 16384 in
theorem ct_ck_takeSeen {sl : Int × Int} {x : ai_E} {d : Nat} {T : cm_T} {E : cm_E} {nx : Nat} (o w n : Int)  (hI : cs_I T E nx) (hcb : E 19 2 = cr 5) (hp0 : 0 ≤ n ∧ n ≤ 255) : cm_ct (ai_ev sl (d + 4)) x 54 [cr 19, ai_i o, ai_i w, ai_i n] T E nx 0 0 (fun rk rv T' E' nx' => rk = 1 ∧ T = T' ∧ nx = nx' ∧ cs_I T E' nx ∧ cm_fr (fun i k => i = 19 ∧ (k = 4 ∨ k = 6 ∨ k = 7)) E E' ∧ ∃ z : Int, rv = ai_i z ∧ (0 ≤ z ∧ z ≤ 255 ∧ gv E 19 4 ≤ gv E' 19 4 ∧ gv E' 19 4 ≤ gv E 19 4 + 1 ∧ (gv E' 19 6 = 0 → gv E 19 6 = 0))) := by
  refine cm_body (M := ai_m54) rfl rfl (fun kc ks => ?_)
  show cm_wp (ai_find ai_c54 sl) (ai_ev sl (d + 3)) x (kc + 0) (ks + 0) _ 0 [cr 19, ai_i o, ai_i w, ai_i n] [] T E nx kc ks
  have hF : cm_fr (fun i k => i = 19 ∧ (k = 4 ∨ k = 6 ∨ k = 7)) E E := fun _ _ _ => rfl
  refine w_iload (i := 1) (npc := 1) rfl rfl ?_
  refine w_iload (i := 2) (npc := 2) rfl rfl ?_
  refine w_icmp (c := .ne) (npc := 5) (pt := 16) rfl (fun hc1 => ?_) (fun hc1 => ?_)
  · replace hc1 : o ≠ w := hc1
    refine w_aload (i := 0) (npc := 17) (v := cr 19) rfl rfl rfl ?_
    refine w_const (n := 0) (npc := 18) rfl ?_
    refine w_iload (i := 1) (npc := 19) rfl rfl ?_
    refine w_aload (i := 0) (npc := 20) (v := cr 19) rfl rfl rfl ?_
    obtain ⟨z2, hz2, hz2a, hz2b⟩ := hI.int 19 5 (lo := 0) (hi := 5) (by decide) (by decide) rfl
    have ghz2 := gv_eq hz2
    refine w_getf (i := 19) (ci := 0) (k := 5) (npc := 23) rfl (hI.pl (by decide)) (hI.T (by decide) rfl) (by decide) hz2 ?_
    refine w_icmp (c := .ge) (npc := 26) (pt := 31) rfl (fun hc3 => ?_) (fun hc3 => ?_)
    · replace hc3 : z2 ≤ o := hc3
      refine w_const (n := 0) (npc := 32) rfl ?_
      obtain ⟨z4, hz4, hz4a, hz4b⟩ := hI.int 19 4 (lo := 0) (hi := 400) (by decide) (by decide) rfl
      have ghz4 := gv_eq hz4
      obtain ⟨z5, hz5, hz5a, hz5b⟩ := hI.int 19 6 (lo := 0) (hi := 3) (by decide) (by decide) rfl
      have ghz5 := gv_eq hz5
      obtain ⟨z6, hz6, hz6a, hz6b⟩ := hI.int 19 3 (lo := 0) (hi := 400) (by decide) (by decide) rfl
      have ghz6 := gv_eq hz6
      refine w_virt (ci := 0) (i := 19) (npc := 35) (a := [cr 19, ai_i 0, ai_i 0]) (rest := []) rfl rfl (hI.pl (by decide)) (hI.T (by decide) rfl) rfl rfl rfl rfl (ct_ck_take (sl := sl) (x := x) (d := d + 0) (0) (0) hI hcb) (Or.inl rfl) (fun k9 v9 T8 E8 nx8 kc8 ks8 hq7 hk8 hv8 => ?_)
      obtain ⟨rfl, rfl, rfl, hI10, hG11, z9, rfl, hz9⟩ := hq7
      obtain rfl : kc = kc8 := by omega
      obtain rfl : ks = ks8 := by omega
      have hF13 := cm_fr.trans hF hG11 (by intro i k h; (try simp only at h); (try simp only); omega)
      have hz14 : E8 19 2 = cr 5 := (hG11 19 2 (by first | omega | (simp; done) | (simp; omega) | (simp only; omega))).trans hcb
      have hz15 : E8 19 5 = ai_i z2 := (hG11 19 5 (by first | omega | (simp; done) | (simp; omega) | (simp only; omega))).trans hz2
      have ghz15 := gv_eq hz15
      have hz16 : E8 19 3 = ai_i z6 := (hG11 19 3 (by first | omega | (simp; done) | (simp; omega) | (simp only; omega))).trans hz6
      have ghz16 := gv_eq hz16
      refine Or.inr (Or.inl ⟨rfl, ?_⟩)
      exact w_iret rfl (⟨rfl, rfl, rfl, hI10, hF13, z9, rfl, by omega⟩) (by omega) (by omega)
    · replace hc3 : ¬ (z2 ≤ o) := hc3
      refine w_const (n := 60) (npc := 28) rfl ?_
      refine w_goto (pt := 32) rfl ?_
      obtain ⟨z17, hz17, hz17a, hz17b⟩ := hI.int 19 4 (lo := 0) (hi := 400) (by decide) (by decide) rfl
      have ghz17 := gv_eq hz17
      obtain ⟨z18, hz18, hz18a, hz18b⟩ := hI.int 19 6 (lo := 0) (hi := 3) (by decide) (by decide) rfl
      have ghz18 := gv_eq hz18
      obtain ⟨z19, hz19, hz19a, hz19b⟩ := hI.int 19 3 (lo := 0) (hi := 400) (by decide) (by decide) rfl
      have ghz19 := gv_eq hz19
      refine w_virt (ci := 0) (i := 19) (npc := 35) (a := [cr 19, ai_i 0, ai_i 60]) (rest := []) rfl rfl (hI.pl (by decide)) (hI.T (by decide) rfl) rfl rfl rfl rfl (ct_ck_take (sl := sl) (x := x) (d := d + 0) (0) (60) hI hcb) (Or.inl rfl) (fun k9 v9 T21 E21 nx21 kc21 ks21 hq20 hk21 hv21 => ?_)
      obtain ⟨rfl, rfl, rfl, hI23, hG24, z22, rfl, hz22⟩ := hq20
      obtain rfl : kc = kc21 := by omega
      obtain rfl : ks = ks21 := by omega
      have hF26 := cm_fr.trans hF hG24 (by intro i k h; (try simp only at h); (try simp only); omega)
      have hz27 : E21 19 2 = cr 5 := (hG24 19 2 (by first | omega | (simp; done) | (simp; omega) | (simp only; omega))).trans hcb
      have hz28 : E21 19 5 = ai_i z2 := (hG24 19 5 (by first | omega | (simp; done) | (simp; omega) | (simp only; omega))).trans hz2
      have ghz28 := gv_eq hz28
      have hz29 : E21 19 3 = ai_i z19 := (hG24 19 3 (by first | omega | (simp; done) | (simp; omega) | (simp only; omega))).trans hz19
      have ghz29 := gv_eq hz29
      refine Or.inr (Or.inl ⟨rfl, ?_⟩)
      exact w_iret rfl (⟨rfl, rfl, rfl, hI23, hF26, z22, rfl, by omega⟩) (by omega) (by omega)
  · replace hc1 : ¬ (o ≠ w) := hc1
    refine w_aload (i := 0) (npc := 6) (v := cr 19) rfl rfl rfl ?_
    refine w_iload (i := 3) (npc := 7) rfl rfl ?_
    refine w_const (n := 1) (npc := 8) rfl ?_
    refine w_isub (npc := 9) rfl (by omega) ?_
    refine w_iload (i := 3) (npc := 10) rfl rfl ?_
    refine w_const (n := 1) (npc := 11) rfl ?_
    refine w_isub (npc := 12) rfl (by omega) ?_
    obtain ⟨z32, hz32, hz32a, hz32b⟩ := hI.int 19 4 (lo := 0) (hi := 400) (by decide) (by decide) rfl
    have ghz32 := gv_eq hz32
    obtain ⟨z33, hz33, hz33a, hz33b⟩ := hI.int 19 6 (lo := 0) (hi := 3) (by decide) (by decide) rfl
    have ghz33 := gv_eq hz33
    obtain ⟨z34, hz34, hz34a, hz34b⟩ := hI.int 19 3 (lo := 0) (hi := 400) (by decide) (by decide) rfl
    have ghz34 := gv_eq hz34
    refine w_virt (ci := 0) (i := 19) (npc := 15) (a := [cr 19, ai_i (n - 1), ai_i (n - 1)]) (rest := []) rfl rfl (hI.pl (by decide)) (hI.T (by decide) rfl) rfl rfl rfl rfl (ct_ck_take (sl := sl) (x := x) (d := d + 0) (n - 1) (n - 1) hI hcb) (Or.inl rfl) (fun k9 v9 T36 E36 nx36 kc36 ks36 hq35 hk36 hv36 => ?_)
    obtain ⟨rfl, rfl, rfl, hI38, hG39, z37, rfl, hz37⟩ := hq35
    obtain rfl : kc = kc36 := by omega
    obtain rfl : ks = ks36 := by omega
    have hF41 := cm_fr.trans hF hG39 (by intro i k h; (try simp only at h); (try simp only); omega)
    have hz42 : E36 19 2 = cr 5 := (hG39 19 2 (by first | omega | (simp; done) | (simp; omega) | (simp only; omega))).trans hcb
    have hz43 : E36 19 3 = ai_i z34 := (hG39 19 3 (by first | omega | (simp; done) | (simp; omega) | (simp only; omega))).trans hz34
    have ghz43 := gv_eq hz43
    refine Or.inr (Or.inl ⟨rfl, ?_⟩)
    exact w_iret rfl (⟨rfl, rfl, rfl, hI38, hF41, z37, rfl, by omega⟩) (by omega) (by omega)
set_option maxRecDepth 16384 in
theorem ct_ck_takeMark {sl : Int × Int} {x : ai_E} {d : Nat} {T : cm_T} {E : cm_E} {nx : Nat}  (hI : cs_I T E nx) (hcb : E 19 2 = cr 5) : cm_ct (ai_ev sl (d + 4)) x 51 [cr 19] T E nx 0 0 (fun rk rv T' E' nx' => rk = 1 ∧ T = T' ∧ nx = nx' ∧ cs_I T E' nx ∧ cm_fr (fun i k => i = 19 ∧ (k = 4 ∨ k = 6 ∨ k = 7)) E E' ∧ ∃ z : Int, rv = ai_i z ∧ (-1 ≤ z ∧ z ≤ 1000 ∧ gv E 19 4 ≤ gv E' 19 4 ∧ gv E' 19 4 ≤ gv E 19 4 + 2 ∧ (gv E' 19 6 = 0 → gv E 19 6 = 0))) := by
  refine cm_body (M := ai_m51) rfl rfl (fun kc ks => ?_)
  show cm_wp (ai_find ai_c51 sl) (ai_ev sl (d + 3)) x (kc + 0) (ks + 0) _ 0 [cr 19, ai_un] [] T E nx kc ks
  have hF : cm_fr (fun i k => i = 19 ∧ (k = 4 ∨ k = 6 ∨ k = 7)) E E := fun _ _ _ => rfl
  refine w_aload (i := 0) (npc := 1) (v := cr 19) rfl rfl rfl ?_
  refine w_const (n := 0) (npc := 2) rfl ?_
  refine w_aload (i := 0) (npc := 3) (v := cr 19) rfl rfl rfl ?_
  obtain ⟨z1, hz1, hz1a, hz1b⟩ := hI.int 19 5 (lo := 0) (hi := 5) (by decide) (by decide) rfl
  have ghz1 := gv_eq hz1
  refine w_getf (i := 19) (ci := 0) (k := 5) (npc := 6) rfl (hI.pl (by decide)) (hI.T (by decide) rfl) (by decide) hz1 ?_
  refine w_const (n := 1) (npc := 7) rfl ?_
  refine w_isub (npc := 8) rfl (by omega) ?_
  obtain ⟨z3, hz3, hz3a, hz3b⟩ := hI.int 19 4 (lo := 0) (hi := 400) (by decide) (by decide) rfl
  have ghz3 := gv_eq hz3
  obtain ⟨z4, hz4, hz4a, hz4b⟩ := hI.int 19 6 (lo := 0) (hi := 3) (by decide) (by decide) rfl
  have ghz4 := gv_eq hz4
  obtain ⟨z5, hz5, hz5a, hz5b⟩ := hI.int 19 3 (lo := 0) (hi := 400) (by decide) (by decide) rfl
  have ghz5 := gv_eq hz5
  refine w_virt (ci := 0) (i := 19) (npc := 11) (a := [cr 19, ai_i 0, ai_i (z1 - 1)]) (rest := []) rfl rfl (hI.pl (by decide)) (hI.T (by decide) rfl) rfl rfl rfl rfl (ct_ck_take (sl := sl) (x := x) (d := d + 0) (0) (z1 - 1) hI hcb) (Or.inl rfl) (fun k9 v9 T7 E7 nx7 kc7 ks7 hq6 hk7 hv7 => ?_)
  obtain ⟨rfl, rfl, rfl, hI9, hG10, z8, rfl, hz8⟩ := hq6
  obtain rfl : kc = kc7 := by omega
  obtain rfl : ks = ks7 := by omega
  have hF12 := cm_fr.trans hF hG10 (by intro i k h; (try simp only at h); (try simp only); omega)
  have hz13 : E7 19 2 = cr 5 := (hG10 19 2 (by first | omega | (simp; done) | (simp; omega) | (simp only; omega))).trans hcb
  have hz14 : E7 19 5 = ai_i z1 := (hG10 19 5 (by first | omega | (simp; done) | (simp; omega) | (simp only; omega))).trans hz1
  have ghz14 := gv_eq hz14
  have hz15 : E7 19 3 = ai_i z5 := (hG10 19 3 (by first | omega | (simp; done) | (simp; omega) | (simp only; omega))).trans hz5
  have ghz15 := gv_eq hz15
  refine Or.inr (Or.inl ⟨rfl, ?_⟩)
  refine w_istore (i := 1) (npc := 12) (loc' := [cr 19, ai_i z8]) rfl rfl ?_
  refine w_aload (i := 0) (npc := 13) (v := cr 19) rfl rfl rfl ?_
  obtain ⟨z16, hz16, hz16a, hz16b⟩ := hI9.int 19 6 (lo := 0) (hi := 3) (by decide) (by decide) rfl
  have ghz16 := gv_eq hz16
  refine w_getf (i := 19) (ci := 0) (k := 6) (npc := 16) rfl (hI9.pl (by decide)) (hI9.T (by decide) rfl) (by decide) hz16 ?_
  refine w_if (c := .ne) (npc := 19) (pt := 24) rfl (fun hc17 => ?_) (fun hc17 => ?_)
  · replace hc17 : z16 ≠ (0 : Int) := hc17
    refine w_const (n := (-1)) (npc := 25) rfl ?_
    exact w_iret rfl (⟨rfl, rfl, rfl, hI9, hF12, (-1), rfl, by omega⟩) (by omega) (by omega)
  · replace hc17 : ¬ (z16 ≠ (0 : Int)) := hc17
    refine w_iload (i := 1) (npc := 20) rfl rfl ?_
    refine w_const (n := 5) (npc := 21) rfl ?_
    refine w_icmp (c := .lt) (npc := 24) (pt := 26) rfl (fun hc18 => ?_) (fun hc18 => ?_)
    · replace hc18 : z8 < (5 : Int) := hc18
      refine w_iload (i := 1) (npc := 27) rfl rfl ?_
      refine w_aload (i := 0) (npc := 28) (v := cr 19) rfl rfl rfl ?_
      refine w_const (n := 1) (npc := 29) rfl ?_
      refine w_aload (i := 0) (npc := 30) (v := cr 19) rfl rfl rfl ?_
      refine w_getf (i := 19) (ci := 0) (k := 0) (npc := 33) rfl (hI9.pl (by decide)) (hI9.T (by decide) rfl) (by decide) (hI9.ref 19 0 (p := 20) (by decide) (by decide) rfl) ?_
      refine w_iload (i := 1) (npc := 34) rfl rfl ?_
      obtain ⟨z19, hz19, hz19a, hz19b⟩ := hI9.int 20 (z8 : Int).toNat (lo := 0) (hi := 255) (by decide) (show (z8 : Int).toNat < 5 by omega) rfl
      have ghz19 := gv_eq hz19
      refine w_ald (i := 20) (t := 1) (n := 5) (npc := 35) rfl (hI9.pl (by decide)) (hI9.T (by decide) rfl) (by decide) rfl (by omega) hz19 ?_
      obtain ⟨z20, hz20, hz20a, hz20b⟩ := hI9.int 19 4 (lo := 0) (hi := 400) (by decide) (by decide) rfl
      have ghz20 := gv_eq hz20
      refine w_virt (ci := 0) (i := 19) (npc := 38) (a := [cr 19, ai_i 1, ai_i z19]) (rest := [ai_i z8]) rfl rfl (hI9.pl (by decide)) (hI9.T (by decide) rfl) rfl rfl rfl rfl (ct_ck_take (sl := sl) (x := x) (d := d + 0) (1) (z19) hI9 hz13) (Or.inl rfl) (fun k9 v9 T22 E22 nx22 kc22 ks22 hq21 hk22 hv22 => ?_)
      obtain ⟨rfl, rfl, rfl, hI24, hG25, z23, rfl, hz23⟩ := hq21
      obtain rfl : kc = kc22 := by omega
      obtain rfl : ks = ks22 := by omega
      have hF27 := cm_fr.trans hF12 hG25 (by intro i k h; (try simp only at h); (try simp only); omega)
      have hz28 : E22 19 2 = cr 5 := (hG25 19 2 (by first | omega | (simp; done) | (simp; omega) | (simp only; omega))).trans hz13
      have hz29 : E22 19 5 = ai_i z1 := (hG25 19 5 (by first | omega | (simp; done) | (simp; omega) | (simp only; omega))).trans hz14
      have ghz29 := gv_eq hz29
      have hz30 : E22 19 3 = ai_i z5 := (hG25 19 3 (by first | omega | (simp; done) | (simp; omega) | (simp only; omega))).trans hz15
      have ghz30 := gv_eq hz30
      refine Or.inr (Or.inl ⟨rfl, ?_⟩)
      obtain ⟨z31, hz31, hz31a, hz31b⟩ := hI24.int 19 4 (lo := 0) (hi := 400) (by decide) (by decide) rfl
      have ghz31 := gv_eq hz31
      obtain ⟨z32, hz32, hz32a, hz32b⟩ := hI24.int 19 6 (lo := 0) (hi := 3) (by decide) (by decide) rfl
      have ghz32 := gv_eq hz32
      refine w_call (npc := 41) (a := [ai_i z8, ai_i z23]) (rest := []) rfl rfl rfl rfl rfl (ct_c_slotOf (sl := sl) (x := x) (d := d + 2) (z8) (z23) (by omega) (by omega)) (Or.inr (fun _ _ _ _ _ hq => by have h1 := hq.1; omega)) (fun k9 v9 T34 E34 nx34 kc34 ks34 hq33 hk34 hv34 => ?_)
      obtain ⟨rfl, rfl, rfl, rfl, z35, rfl, hz35⟩ := hq33
      obtain rfl : kc = kc34 := by omega
      obtain rfl : ks = ks34 := by omega
      refine Or.inr (Or.inl ⟨rfl, ?_⟩)
      exact w_iret rfl (⟨rfl, rfl, rfl, hI24, hF27, z35, rfl, by omega⟩) (by omega) (by omega)
    · replace hc18 : ¬ (z8 < (5 : Int)) := hc18
      refine w_const (n := (-1)) (npc := 25) rfl ?_
      exact w_iret rfl (⟨rfl, rfl, rfl, hI9, hF12, (-1), rfl, by omega⟩) (by omega) (by omega)
set_option maxRecDepth 16384 in
theorem ct_ck_takeKey {sl : Int × Int} {x : ai_E} {d : Nat} {T : cm_T} {E : cm_E} {nx : Nat}  (hI : cs_I T E nx) (hcb : E 19 2 = cr 5) : cm_ct (ai_ev sl (d + 4)) x 50 [cr 19] T E nx 0 0 (fun rk rv T' E' nx' => rk = 0 ∧ T = T' ∧ nx = nx' ∧ cs_I T E' nx ∧ cm_fr (fun i k => i = 19 ∧ (k = 4 ∨ k = 6 ∨ k = 7)) E E' ∧ (gv E 19 4 ≤ gv E' 19 4 ∧ gv E' 19 4 ≤ gv E 19 4 + 49 ∧ (gv E' 19 6 = 0 → gv E 19 6 = 0))) := by
  refine cm_body (M := ai_m50) rfl rfl (fun kc ks => ?_)
  show cm_wp (ai_find ai_c50 sl) (ai_ev sl (d + 3)) x (kc + 0) (ks + 0) _ 0 [cr 19, ai_un, ai_un] [] T E nx kc ks
  have hF : cm_fr (fun i k => i = 19 ∧ (k = 4 ∨ k = 6 ∨ k = 7)) E E := fun _ _ _ => rfl
  refine w_aload (i := 0) (npc := 1) (v := cr 19) rfl rfl rfl ?_
  refine w_const (n := 1) (npc := 2) rfl ?_
  refine w_const (n := 24) (npc := 4) rfl ?_
  obtain ⟨z1, hz1, hz1a, hz1b⟩ := hI.int 19 4 (lo := 0) (hi := 400) (by decide) (by decide) rfl
  have ghz1 := gv_eq hz1
  obtain ⟨z2, hz2, hz2a, hz2b⟩ := hI.int 19 6 (lo := 0) (hi := 3) (by decide) (by decide) rfl
  have ghz2 := gv_eq hz2
  obtain ⟨z3, hz3, hz3a, hz3b⟩ := hI.int 19 3 (lo := 0) (hi := 400) (by decide) (by decide) rfl
  have ghz3 := gv_eq hz3
  refine w_virt (ci := 0) (i := 19) (npc := 7) (a := [cr 19, ai_i 1, ai_i 24]) (rest := []) rfl rfl (hI.pl (by decide)) (hI.T (by decide) rfl) rfl rfl rfl rfl (ct_ck_take (sl := sl) (x := x) (d := d + 0) (1) (24) hI hcb) (Or.inl rfl) (fun k9 v9 T5 E5 nx5 kc5 ks5 hq4 hk5 hv5 => ?_)
  obtain ⟨rfl, rfl, rfl, hI7, hG8, z6, rfl, hz6⟩ := hq4
  obtain rfl : kc = kc5 := by omega
  obtain rfl : ks = ks5 := by omega
  have hF10 := cm_fr.trans hF hG8 (by intro i k h; (try simp only at h); (try simp only); omega)
  have hz11 : E5 19 2 = cr 5 := (hG8 19 2 (by first | omega | (simp; done) | (simp; omega) | (simp only; omega))).trans hcb
  have hz12 : E5 19 3 = ai_i z3 := (hG8 19 3 (by first | omega | (simp; done) | (simp; omega) | (simp only; omega))).trans hz3
  have ghz12 := gv_eq hz12
  refine Or.inr (Or.inl ⟨rfl, ?_⟩)
  refine w_istore (i := 1) (npc := 8) (loc' := [cr 19, ai_i z6, ai_un]) rfl rfl ?_
  refine w_const (n := 0) (npc := 9) rfl ?_
  refine w_istore (i := 2) (npc := 10) (loc' := [cr 19, ai_i z6, ai_i 0]) rfl rfl ?_
  have loop10 : ∀ (nf : Nat) (k : Int) (Eq10 : cm_E), ((24 - k).toNat) < nf → cs_I T Eq10 nx → cm_fr (fun i k => i = 19 ∧ (k = 4 ∨ k = 6 ∨ k = 7)) E Eq10 → Eq10 19 2 = cr 5 → (0 ≤ k ∧ k ≤ 24 ∧ (gv Eq10 19 6 = 0 → (z6) ≤ 24 ∧ gv E 19 6 = 0) ∧ gv E 19 4 ≤ gv Eq10 19 4 ∧ gv Eq10 19 4 ≤ gv E 19 4 + 1 + 2 * k) → cm_wp (ai_find ai_c50 sl) (ai_ev sl (d + 3)) x (kc + 0) (ks + 0) (fun rk rv T' E' nx' => rk = 0 ∧ T = T' ∧ nx = nx' ∧ cs_I T E' nx ∧ cm_fr (fun i k => i = 19 ∧ (k = 4 ∨ k = 6 ∨ k = 7)) E E' ∧ (gv E 19 4 ≤ gv E' 19 4 ∧ gv E' 19 4 ≤ gv E 19 4 + 49 ∧ (gv E' 19 6 = 0 → gv E 19 6 = 0))) 10 [cr 19, ai_i z6, ai_i k] [] T Eq10 nx kc ks := by
    intro nf
    induction nf with
    | zero => intro k Eq10 hm; exact absurd hm (Nat.not_lt_zero _)
    | succ nf10 ih =>
      intro k Eq10 hm10 hI10 hF10 hcb10 hv10
      obtain ⟨z13, hz13, hz13a, hz13b⟩ := hI10.int 19 4 (lo := 0) (hi := 400) (by decide) (by decide) rfl
      have ghz13 := gv_eq hz13
      obtain ⟨z14, hz14, hz14a, hz14b⟩ := hI10.int 19 6 (lo := 0) (hi := 3) (by decide) (by decide) rfl
      have ghz14 := gv_eq hz14
      obtain ⟨z15, hz15, hz15a, hz15b⟩ := hI10.int 19 3 (lo := 0) (hi := 400) (by decide) (by decide) rfl
      have ghz15 := gv_eq hz15
      have ih10 := ih; clear ih
      refine w_iload (i := 2) (npc := 11) rfl rfl ?_
      refine w_iload (i := 1) (npc := 12) rfl rfl ?_
      refine w_icmp (c := .ge) (npc := 15) (pt := 48) rfl (fun hc16 => ?_) (fun hc16 => ?_)
      · replace hc16 : z6 ≤ k := hc16
        exact w_vret rfl (⟨rfl, rfl, rfl, hI10, hF10, by omega⟩) (by omega) (by omega)
      · replace hc16 : ¬ (z6 ≤ k) := hc16
        refine w_aload (i := 0) (npc := 16) (v := cr 19) rfl rfl rfl ?_
        refine w_getf (i := 19) (ci := 0) (k := 6) (npc := 19) rfl (hI10.pl (by decide)) (hI10.T (by decide) rfl) (by decide) hz14 ?_
        refine w_if (c := .ne) (npc := 22) (pt := 48) rfl (fun hc17 => ?_) (fun hc17 => ?_)
        · replace hc17 : z14 ≠ (0 : Int) := hc17
          exact w_vret rfl (⟨rfl, rfl, rfl, hI10, hF10, by omega⟩) (by omega) (by omega)
        · replace hc17 : ¬ (z14 ≠ (0 : Int)) := hc17
          refine w_aload (i := 0) (npc := 23) (v := cr 19) rfl rfl rfl ?_
          refine w_iload (i := 2) (npc := 24) rfl rfl ?_
          refine w_iload (i := 1) (npc := 25) rfl rfl ?_
          refine w_const (n := 1) (npc := 26) rfl ?_
          refine w_isub (npc := 27) rfl (by omega) ?_
          refine w_icmp (c := .ne) (npc := 30) (pt := 35) rfl (fun hc19 => ?_) (fun hc19 => ?_)
          · replace hc19 : k ≠ z6 - 1 := hc19
            refine w_const (n := 0) (npc := 36) rfl ?_
            refine w_const (n := 799) (npc := 39) rfl ?_
            refine w_virt (ci := 0) (i := 19) (npc := 42) (a := [cr 19, ai_i 0, ai_i 799]) (rest := []) rfl rfl (hI10.pl (by decide)) (hI10.T (by decide) rfl) rfl rfl rfl rfl (ct_ck_takePair (sl := sl) (x := x) (d := d + 0) (0) (799) hI10 hcb10) (Or.inl rfl) (fun k9 v9 T21 E21 nx21 kc21 ks21 hq20 hk21 hv21 => ?_)
            obtain ⟨rfl, rfl, rfl, hI23, hG24, hz22⟩ := hq20
            obtain rfl : kc = kc21 := by omega
            obtain rfl : ks = ks21 := by omega
            have hF26 := cm_fr.trans hF10 hG24 (by intro i k h; (try simp only at h); (try simp only); omega)
            have hz27 : E21 19 2 = cr 5 := (hG24 19 2 (by first | omega | (simp; done) | (simp; omega) | (simp only; omega))).trans hcb10
            have hz28 : E21 19 3 = ai_i z15 := (hG24 19 3 (by first | omega | (simp; done) | (simp; omega) | (simp only; omega))).trans hz15
            have ghz28 := gv_eq hz28
            refine Or.inl ⟨rfl, ?_⟩
            refine w_iinc (i := 2) (n := 1) (npc := 45) (loc' := [cr 19, ai_i z6, ai_i (k + 1)]) rfl rfl (by omega) rfl ?_
            refine w_goto (pt := 10) rfl ?_
            exact ih10 (k + 1) E21 (by omega) hI23 hF26 hz27 (by omega)
          · replace hc19 : ¬ (k ≠ z6 - 1) := hc19
            refine w_const (n := 8) (npc := 32) rfl ?_
            refine w_goto (pt := 36) rfl ?_
            refine w_const (n := 799) (npc := 39) rfl ?_
            refine w_virt (ci := 0) (i := 19) (npc := 42) (a := [cr 19, ai_i 8, ai_i 799]) (rest := []) rfl rfl (hI10.pl (by decide)) (hI10.T (by decide) rfl) rfl rfl rfl rfl (ct_ck_takePair (sl := sl) (x := x) (d := d + 0) (8) (799) hI10 hcb10) (Or.inl rfl) (fun k9 v9 T31 E31 nx31 kc31 ks31 hq30 hk31 hv31 => ?_)
            obtain ⟨rfl, rfl, rfl, hI33, hG34, hz32⟩ := hq30
            obtain rfl : kc = kc31 := by omega
            obtain rfl : ks = ks31 := by omega
            have hF36 := cm_fr.trans hF10 hG34 (by intro i k h; (try simp only at h); (try simp only); omega)
            have hz37 : E31 19 2 = cr 5 := (hG34 19 2 (by first | omega | (simp; done) | (simp; omega) | (simp only; omega))).trans hcb10
            have hz38 : E31 19 3 = ai_i z15 := (hG34 19 3 (by first | omega | (simp; done) | (simp; omega) | (simp only; omega))).trans hz15
            have ghz38 := gv_eq hz38
            refine Or.inl ⟨rfl, ?_⟩
            refine w_iinc (i := 2) (n := 1) (npc := 45) (loc' := [cr 19, ai_i z6, ai_i (k + 1)]) rfl rfl (by omega) rfl ?_
            refine w_goto (pt := 10) rfl ?_
            exact ih10 (k + 1) E31 (by omega) hI33 hF36 hz37 (by omega)
  exact loop10 _ (0) E5 (Nat.lt_succ_self _) hI7 hF10 hz11 (by omega)
set_option maxRecDepth 16384 in
theorem ct_ck_takeMoved {sl : Int × Int} {x : ai_E} {d : Nat} {T : cm_T} {E : cm_E} {nx : Nat}  (hI : cs_I T E nx) (hcb : E 19 2 = cr 5) : cm_ct (ai_ev sl (d + 5)) x 52 [cr 19] T E nx 0 0 (fun rk rv T' E' nx' => rk = 0 ∧ T = T' ∧ nx = nx' ∧ cs_I T E' nx ∧ cm_fr (fun i k => (i = 19 ∧ (k = 4 ∨ k = 6 ∨ k = 7)) ∨ i = 21) E E' ∧ (gv E 19 4 ≤ gv E' 19 4 ∧ gv E' 19 4 ≤ gv E 19 4 + 307 ∧ (gv E' 19 6 = 0 → gv E 19 6 = 0))) := by
  refine cm_body (M := ai_m52) rfl rfl (fun kc ks => ?_)
  show cm_wp (ai_find ai_c52 sl) (ai_ev sl (d + 4)) x (kc + 0) (ks + 0) _ 0 [cr 19, ai_un, ai_un, ai_un, ai_un] [] T E nx kc ks
  have hF : cm_fr (fun i k => (i = 19 ∧ (k = 4 ∨ k = 6 ∨ k = 7)) ∨ i = 21) E E := fun _ _ _ => rfl
  refine w_aload (i := 0) (npc := 1) (v := cr 19) rfl rfl rfl ?_
  refine w_const (n := 1) (npc := 2) rfl ?_
  refine w_const (n := 6) (npc := 4) rfl ?_
  obtain ⟨z1, hz1, hz1a, hz1b⟩ := hI.int 19 4 (lo := 0) (hi := 400) (by decide) (by decide) rfl
  have ghz1 := gv_eq hz1
  obtain ⟨z2, hz2, hz2a, hz2b⟩ := hI.int 19 6 (lo := 0) (hi := 3) (by decide) (by decide) rfl
  have ghz2 := gv_eq hz2
  obtain ⟨z3, hz3, hz3a, hz3b⟩ := hI.int 19 3 (lo := 0) (hi := 400) (by decide) (by decide) rfl
  have ghz3 := gv_eq hz3
  refine w_virt (ci := 0) (i := 19) (npc := 7) (a := [cr 19, ai_i 1, ai_i 6]) (rest := []) rfl rfl (hI.pl (by decide)) (hI.T (by decide) rfl) rfl rfl rfl rfl (ct_ck_take (sl := sl) (x := x) (d := d + 1) (1) (6) hI hcb) (Or.inl rfl) (fun k9 v9 T5 E5 nx5 kc5 ks5 hq4 hk5 hv5 => ?_)
  obtain ⟨rfl, rfl, rfl, hI7, hG8, z6, rfl, hz6⟩ := hq4
  obtain rfl : kc = kc5 := by omega
  obtain rfl : ks = ks5 := by omega
  have hF10 := cm_fr.trans hF hG8 (by intro i k h; (try simp only at h); (try simp only); omega)
  have hz11 : E5 19 2 = cr 5 := (hG8 19 2 (by first | omega | (simp; done) | (simp; omega) | (simp only; omega))).trans hcb
  have hz12 : E5 19 3 = ai_i z3 := (hG8 19 3 (by first | omega | (simp; done) | (simp; omega) | (simp only; omega))).trans hz3
  have ghz12 := gv_eq hz12
  refine Or.inr (Or.inl ⟨rfl, ?_⟩)
  refine w_istore (i := 1) (npc := 8) (loc' := [cr 19, ai_i z6, ai_un, ai_un, ai_un]) rfl rfl ?_
  refine w_const (n := 0) (npc := 9) rfl ?_
  refine w_istore (i := 2) (npc := 10) (loc' := [cr 19, ai_i z6, ai_i 0, ai_un, ai_un]) rfl rfl ?_
  have loop10 : ∀ (nf : Nat) (i : Int) (u10_3 : ai_V) (u10_4 : ai_V) (Eq10 : cm_E), ((6 - i).toNat) < nf → cs_I T Eq10 nx → cm_fr (fun i k => (i = 19 ∧ (k = 4 ∨ k = 6 ∨ k = 7)) ∨ i = 21) E Eq10 → Eq10 19 2 = cr 5 → (0 ≤ i ∧ i ≤ 6 ∧ (gv Eq10 19 6 = 0 → (z6) ≤ 6 ∧ gv E 19 6 = 0) ∧ gv E 19 4 ≤ gv Eq10 19 4 ∧ gv Eq10 19 4 ≤ gv E 19 4 + 1 + 51 * i) → cm_wp (ai_find ai_c52 sl) (ai_ev sl (d + 4)) x (kc + 0) (ks + 0) (fun rk rv T' E' nx' => rk = 0 ∧ T = T' ∧ nx = nx' ∧ cs_I T E' nx ∧ cm_fr (fun i k => (i = 19 ∧ (k = 4 ∨ k = 6 ∨ k = 7)) ∨ i = 21) E E' ∧ (gv E 19 4 ≤ gv E' 19 4 ∧ gv E' 19 4 ≤ gv E 19 4 + 307 ∧ (gv E' 19 6 = 0 → gv E 19 6 = 0))) 10 [cr 19, ai_i z6, ai_i i, u10_3, u10_4] [] T Eq10 nx kc ks := by
    intro nf
    induction nf with
    | zero => intro i u10_3 u10_4 Eq10 hm; exact absurd hm (Nat.not_lt_zero _)
    | succ nf10 ih =>
      intro i u10_3 u10_4 Eq10 hm10 hI10 hF10 hcb10 hv10
      obtain ⟨z13, hz13, hz13a, hz13b⟩ := hI10.int 19 4 (lo := 0) (hi := 400) (by decide) (by decide) rfl
      have ghz13 := gv_eq hz13
      obtain ⟨z14, hz14, hz14a, hz14b⟩ := hI10.int 19 6 (lo := 0) (hi := 3) (by decide) (by decide) rfl
      have ghz14 := gv_eq hz14
      obtain ⟨z15, hz15, hz15a, hz15b⟩ := hI10.int 19 3 (lo := 0) (hi := 400) (by decide) (by decide) rfl
      have ghz15 := gv_eq hz15
      have ih10 := ih; clear ih
      refine w_iload (i := 2) (npc := 11) rfl rfl ?_
      refine w_iload (i := 1) (npc := 12) rfl rfl ?_
      refine w_icmp (c := .ge) (npc := 15) (pt := 84) rfl (fun hc16 => ?_) (fun hc16 => ?_)
      · replace hc16 : z6 ≤ i := hc16
        exact w_vret rfl (⟨rfl, rfl, rfl, hI10, hF10, by omega⟩) (by omega) (by omega)
      · replace hc16 : ¬ (z6 ≤ i) := hc16
        refine w_aload (i := 0) (npc := 16) (v := cr 19) rfl rfl rfl ?_
        refine w_getf (i := 19) (ci := 0) (k := 6) (npc := 19) rfl (hI10.pl (by decide)) (hI10.T (by decide) rfl) (by decide) hz14 ?_
        refine w_if (c := .ne) (npc := 22) (pt := 84) rfl (fun hc17 => ?_) (fun hc17 => ?_)
        · replace hc17 : z14 ≠ (0 : Int) := hc17
          exact w_vret rfl (⟨rfl, rfl, rfl, hI10, hF10, by omega⟩) (by omega) (by omega)
        · replace hc17 : ¬ (z14 ≠ (0 : Int)) := hc17
          refine w_aload (i := 0) (npc := 23) (v := cr 19) rfl rfl rfl ?_
          refine w_getf (i := 19) (ci := 0) (k := 4) (npc := 26) rfl (hI10.pl (by decide)) (hI10.T (by decide) rfl) (by decide) hz13 ?_
          refine w_istore (i := 3) (npc := 27) (loc' := [cr 19, ai_i z6, ai_i i, ai_i z13, u10_4]) rfl rfl ?_
          refine w_aload (i := 0) (npc := 28) (v := cr 19) rfl rfl rfl ?_
          refine w_getf (i := 19) (ci := 0) (k := 1) (npc := 31) rfl (hI10.pl (by decide)) (hI10.T (by decide) rfl) (by decide) (hI10.ref 19 1 (p := 21) (by decide) (by decide) rfl) ?_
          refine w_iload (i := 2) (npc := 32) rfl rfl ?_
          refine w_aload (i := 0) (npc := 33) (v := cr 19) rfl rfl rfl ?_
          refine w_virt (ci := 0) (i := 19) (npc := 36) (a := [cr 19]) (rest := [ai_i i, cr 21]) rfl rfl (hI10.pl (by decide)) (hI10.T (by decide) rfl) rfl rfl rfl rfl (ct_ck_takeMark (sl := sl) (x := x) (d := d + 0)  hI10 hcb10) (Or.inl rfl) (fun k9 v9 T19 E19 nx19 kc19 ks19 hq18 hk19 hv19 => ?_)
          obtain ⟨rfl, rfl, rfl, hI21, hG22, z20, rfl, hz20⟩ := hq18
          obtain rfl : kc = kc19 := by omega
          obtain rfl : ks = ks19 := by omega
          have hF24 := cm_fr.trans hF10 hG22 (by intro i k h; (try simp only at h); (try simp only); omega)
          have hz25 : E19 19 2 = cr 5 := (hG22 19 2 (by first | omega | (simp; done) | (simp; omega) | (simp only; omega))).trans hcb10
          have hz26 : E19 19 3 = ai_i z15 := (hG22 19 3 (by first | omega | (simp; done) | (simp; omega) | (simp only; omega))).trans hz15
          have ghz26 := gv_eq hz26
          refine Or.inr (Or.inl ⟨rfl, ?_⟩)
          obtain ⟨z27, hz27, hz27a, hz27b⟩ := hI21.int 19 4 (lo := 0) (hi := 400) (by decide) (by decide) rfl
          have ghz27 := gv_eq hz27
          obtain ⟨z28, hz28, hz28a, hz28b⟩ := hI21.int 19 6 (lo := 0) (hi := 3) (by decide) (by decide) rfl
          have ghz28 := gv_eq hz28
          refine w_ast (i := 21) (k := 1) (n := 6) (npc := 37) rfl (hI21.pl (by decide)) (hI21.T (by decide) rfl) (by decide) (by omega) cm_af1 ?_
          have hI30 := hI21.puti (i := 21) (k := (i : Int).toNat) (z := z20) (lo := (-1)) (hi := 70000) (by decide) rfl (by omega)
          have hF32 := cm_fr.up (i := 21) (k := (i : Int).toNat) (v := ai_i z20) hF24 (by first | omega | (simp; done) | (simp; omega) | (simp only; omega))
          generalize hE31 : cm_up E19 21 ((i : Int).toNat) (ai_i z20) = E29 at hI30 hF32 ⊢
          have hz33 : E29 19 2 = cr 5 := by rw [← hE31, cm_up_nei _ _ (by decide)]; exact hz25
          have hz34 : E29 19 3 = ai_i z15 := by rw [← hE31, cm_up_nei _ _ (by decide)]; exact hz26
          have ghz34 := gv_eq hz34
          have hz35 : E29 19 4 = ai_i z27 := by rw [← hE31, cm_up_nei _ _ (by decide)]; exact hz27
          have ghz35 := gv_eq hz35
          have hz36 : E29 19 6 = ai_i z28 := by rw [← hE31, cm_up_nei _ _ (by decide)]; exact hz28
          have ghz36 := gv_eq hz36
          have hz37 : E29 21 ((i : Int).toNat) = ai_i z20 := by rw [← hE31, cm_up_eq]
          have ghz37 := gv_eq hz37
          refine w_const (n := 0) (npc := 38) rfl ?_
          refine w_istore (i := 4) (npc := 40) (loc' := [cr 19, ai_i z6, ai_i i, ai_i z13, ai_i 0]) rfl rfl ?_
          have loop40 : ∀ (nf : Nat) (j : Int) (Eq40 : cm_E), ((i - j).toNat) < nf → cs_I T Eq40 nx → cm_fr (fun i k => (i = 19 ∧ (k = 4 ∨ k = 6 ∨ k = 7)) ∨ i = 21) E Eq40 → Eq40 19 2 = cr 5 → (0 ≤ j ∧ j ≤ i ∧ gv E 19 4 ≤ gv Eq40 19 4 ∧ gv Eq40 19 4 ≤ gv E 19 4 + 3 + 51 * i) → cm_wp (ai_find ai_c52 sl) (ai_ev sl (d + 4)) x (kc + 0) (ks + 0) (fun rk rv T' E' nx' => rk = 0 ∧ T = T' ∧ nx = nx' ∧ cs_I T E' nx ∧ cm_fr (fun i k => (i = 19 ∧ (k = 4 ∨ k = 6 ∨ k = 7)) ∨ i = 21) E E' ∧ (gv E 19 4 ≤ gv E' 19 4 ∧ gv E' 19 4 ≤ gv E 19 4 + 307 ∧ (gv E' 19 6 = 0 → gv E 19 6 = 0))) 40 [cr 19, ai_i z6, ai_i i, ai_i z13, ai_i j] [] T Eq40 nx kc ks := by
            intro nf
            induction nf with
            | zero => intro j Eq40 hm; exact absurd hm (Nat.not_lt_zero _)
            | succ nf40 ih =>
              intro j Eq40 hm40 hI40 hF40 hcb40 hv40
              obtain ⟨z38, hz38, hz38a, hz38b⟩ := hI40.int 19 4 (lo := 0) (hi := 400) (by decide) (by decide) rfl
              have ghz38 := gv_eq hz38
              obtain ⟨z39, hz39, hz39a, hz39b⟩ := hI40.int 19 6 (lo := 0) (hi := 3) (by decide) (by decide) rfl
              have ghz39 := gv_eq hz39
              obtain ⟨z40, hz40, hz40a, hz40b⟩ := hI40.int 19 3 (lo := 0) (hi := 400) (by decide) (by decide) rfl
              have ghz40 := gv_eq hz40
              have ih40 := ih; clear ih
              refine w_iload (i := 4) (npc := 42) rfl rfl ?_
              refine w_iload (i := 2) (npc := 43) rfl rfl ?_
              refine w_icmp (c := .ge) (npc := 46) (pt := 74) rfl (fun hc41 => ?_) (fun hc41 => ?_)
              · replace hc41 : i ≤ j := hc41
                refine w_aload (i := 0) (npc := 75) (v := cr 19) rfl rfl rfl ?_
                refine w_virt (ci := 0) (i := 19) (npc := 78) (a := [cr 19]) (rest := []) rfl rfl (hI40.pl (by decide)) (hI40.T (by decide) rfl) rfl rfl rfl rfl (ct_ck_takeKey (sl := sl) (x := x) (d := d + 0)  hI40 hcb40) (Or.inl rfl) (fun k9 v9 T43 E43 nx43 kc43 ks43 hq42 hk43 hv43 => ?_)
                obtain ⟨rfl, rfl, rfl, hI45, hG46, hz44⟩ := hq42
                obtain rfl : kc = kc43 := by omega
                obtain rfl : ks = ks43 := by omega
                have hF48 := cm_fr.trans hF40 hG46 (by intro i k h; (try simp only at h); (try simp only); omega)
                have hz49 : E43 19 2 = cr 5 := (hG46 19 2 (by first | omega | (simp; done) | (simp; omega) | (simp only; omega))).trans hcb40
                have hz50 : E43 19 3 = ai_i z40 := (hG46 19 3 (by first | omega | (simp; done) | (simp; omega) | (simp only; omega))).trans hz40
                have ghz50 := gv_eq hz50
                refine Or.inl ⟨rfl, ?_⟩
                refine w_iinc (i := 2) (n := 1) (npc := 81) (loc' := [cr 19, ai_i z6, ai_i (i + 1), ai_i z13, ai_i j]) rfl rfl (by omega) rfl ?_
                refine w_goto (pt := 10) rfl ?_
                exact ih10 (i + 1) (ai_i z13) (ai_i j) E43 (by omega) hI45 hF48 hz49 (by omega)
              · replace hc41 : ¬ (i ≤ j) := hc41
                refine w_aload (i := 0) (npc := 47) (v := cr 19) rfl rfl rfl ?_
                refine w_getf (i := 19) (ci := 0) (k := 1) (npc := 50) rfl (hI40.pl (by decide)) (hI40.T (by decide) rfl) (by decide) (hI40.ref 19 1 (p := 21) (by decide) (by decide) rfl) ?_
                refine w_iload (i := 4) (npc := 52) rfl rfl ?_
                obtain ⟨z52, hz52, hz52a, hz52b⟩ := hI40.int 21 (j : Int).toNat (lo := (-1)) (hi := 70000) (by decide) (show (j : Int).toNat < 6 by omega) rfl
                have ghz52 := gv_eq hz52
                refine w_ald (i := 21) (t := 1) (n := 6) (npc := 53) rfl (hI40.pl (by decide)) (hI40.T (by decide) rfl) (by decide) rfl (by omega) hz52 ?_
                refine w_aload (i := 0) (npc := 54) (v := cr 19) rfl rfl rfl ?_
                refine w_getf (i := 19) (ci := 0) (k := 1) (npc := 57) rfl (hI40.pl (by decide)) (hI40.T (by decide) rfl) (by decide) (hI40.ref 19 1 (p := 21) (by decide) (by decide) rfl) ?_
                refine w_iload (i := 2) (npc := 58) rfl rfl ?_
                obtain ⟨z53, hz53, hz53a, hz53b⟩ := hI40.int 21 (i : Int).toNat (lo := (-1)) (hi := 70000) (by decide) (show (i : Int).toNat < 6 by omega) rfl
                have ghz53 := gv_eq hz53
                refine w_ald (i := 21) (t := 1) (n := 6) (npc := 59) rfl (hI40.pl (by decide)) (hI40.T (by decide) rfl) (by decide) rfl (by omega) hz53 ?_
                refine w_icmp (c := .ne) (npc := 62) (pt := 68) rfl (fun hc54 => ?_) (fun hc54 => ?_)
                · replace hc54 : z52 ≠ z53 := hc54
                  refine w_iinc (i := 4) (n := 1) (npc := 71) (loc' := [cr 19, ai_i z6, ai_i i, ai_i z13, ai_i (j + 1)]) rfl rfl (by omega) rfl ?_
                  refine w_goto (pt := 40) rfl ?_
                  exact ih40 (j + 1) Eq40 (by omega) hI40 hF40 hcb40 (by omega)
                · replace hc54 : ¬ (z52 ≠ z53) := hc54
                  refine w_aload (i := 0) (npc := 63) (v := cr 19) rfl rfl rfl ?_
                  refine w_const (n := 2) (npc := 64) rfl ?_
                  refine w_iload (i := 3) (npc := 65) rfl rfl ?_
                  refine w_virt (ci := 0) (i := 19) (npc := 68) (a := [cr 19, ai_i 2, ai_i z13]) (rest := []) rfl rfl (hI40.pl (by decide)) (hI40.T (by decide) rfl) rfl rfl rfl rfl (ct_ck_fail (sl := sl) (x := x) (d := d + 3) (2) (z13) hI40 (by omega) (by omega)) (Or.inl rfl) (fun k9 v9 T57 E57 nx57 kc57 ks57 hq56 hk57 hv57 => ?_)
                  obtain ⟨rfl, rfl, rfl, hI59, hG60, hz58⟩ := hq56
                  obtain rfl : kc = kc57 := by omega
                  obtain rfl : ks = ks57 := by omega
                  have hF62 := cm_fr.trans hF40 hG60 (by intro i k h; (try simp only at h); (try simp only); omega)
                  have hz63 : E57 19 2 = cr 5 := (hG60 19 2 (by first | omega | (simp; done) | (simp; omega) | (simp only; omega))).trans hcb40
                  have hz64 : E57 19 4 = ai_i z38 := (hG60 19 4 (by first | omega | (simp; done) | (simp; omega) | (simp only; omega))).trans hz38
                  have ghz64 := gv_eq hz64
                  have hz65 : E57 19 3 = ai_i z40 := (hG60 19 3 (by first | omega | (simp; done) | (simp; omega) | (simp only; omega))).trans hz40
                  have ghz65 := gv_eq hz65
                  refine Or.inl ⟨rfl, ?_⟩
                  refine w_iinc (i := 4) (n := 1) (npc := 71) (loc' := [cr 19, ai_i z6, ai_i i, ai_i z13, ai_i (j + 1)]) rfl rfl (by omega) rfl ?_
                  refine w_goto (pt := 40) rfl ?_
                  exact ih40 (j + 1) E57 (by omega) hI59 hF62 hz63 (by omega)
          exact loop40 _ (0) E29 (Nat.lt_succ_self _) hI30 hF32 hz33 (by omega)
  exact loop10 _ (0) (ai_un) (ai_un) E5 (Nat.lt_succ_self _) hI7 hF10 hz11 (by omega)
set_option maxRecDepth 16384 in
theorem ct_ck_takeBody {sl : Int × Int} {x : ai_E} {d : Nat} {T : cm_T} {E : cm_E} {nx : Nat} (c n : Int)  (hI : cs_I T E nx) (hcb : E 19 2 = cr 5) (hp0 : 0 ≤ n ∧ n ≤ 255) : cm_ct (ai_ev sl (d + 6)) x 49 [cr 19, ai_i c, ai_i n] T E nx 0 0 (fun rk rv T' E' nx' => rk = 0 ∧ T = T' ∧ nx = nx' ∧ cs_I T E' nx ∧ cm_fr (fun i k => (i = 19 ∧ (k = 4 ∨ k = 6 ∨ k = 7)) ∨ i = 21) E E' ∧ (gv E 19 4 ≤ gv E' 19 4 ∧ gv E' 19 4 ≤ gv E 19 4 + 307 ∧ (gv E' 19 6 = 0 → gv E 19 6 = 0))) := by
  refine cm_body (M := ai_m49) rfl rfl (fun kc ks => ?_)
  show cm_wp (ai_find ai_c49 sl) (ai_ev sl (d + 5)) x (kc + 0) (ks + 0) _ 0 [cr 19, ai_i c, ai_i n] [] T E nx kc ks
  have hF : cm_fr (fun i k => (i = 19 ∧ (k = 4 ∨ k = 6 ∨ k = 7)) ∨ i = 21) E E := fun _ _ _ => rfl
  refine w_aload (i := 0) (npc := 1) (v := cr 19) rfl rfl rfl ?_
  obtain ⟨z1, hz1, hz1a, hz1b⟩ := hI.int 19 6 (lo := 0) (hi := 3) (by decide) (by decide) rfl
  have ghz1 := gv_eq hz1
  refine w_getf (i := 19) (ci := 0) (k := 6) (npc := 4) rfl (hI.pl (by decide)) (hI.T (by decide) rfl) (by decide) hz1 ?_
  refine w_if (c := .eq) (npc := 7) (pt := 8) rfl (fun hc2 => ?_) (fun hc2 => ?_)
  · replace hc2 : z1 = (0 : Int) := hc2
    refine w_iload (i := 1) (npc := 9) rfl rfl ?_
    refine w_if (c := .ne) (npc := 12) (pt := 28) rfl (fun hc3 => ?_) (fun hc3 => ?_)
    · replace hc3 : c ≠ (0 : Int) := hc3
      refine w_iload (i := 1) (npc := 29) rfl rfl ?_
      refine w_const (n := 1) (npc := 30) rfl ?_
      refine w_icmp (c := .ne) (npc := 33) (pt := 41) rfl (fun hc4 => ?_) (fun hc4 => ?_)
      · replace hc4 : c ≠ (1 : Int) := hc4
        refine w_iload (i := 1) (npc := 42) rfl rfl ?_
        refine w_const (n := 2) (npc := 43) rfl ?_
        refine w_icmp (c := .ne) (npc := 46) (pt := 58) rfl (fun hc5 => ?_) (fun hc5 => ?_)
        · replace hc5 : c ≠ (2 : Int) := hc5
          refine w_aload (i := 0) (npc := 59) (v := cr 19) rfl rfl rfl ?_
          obtain ⟨z6, hz6, hz6a, hz6b⟩ := hI.int 19 4 (lo := 0) (hi := 400) (by decide) (by decide) rfl
          have ghz6 := gv_eq hz6
          obtain ⟨z7, hz7, hz7a, hz7b⟩ := hI.int 19 3 (lo := 0) (hi := 400) (by decide) (by decide) rfl
          have ghz7 := gv_eq hz7
          refine w_virt (ci := 0) (i := 19) (npc := 62) (a := [cr 19]) (rest := []) rfl rfl (hI.pl (by decide)) (hI.T (by decide) rfl) rfl rfl rfl rfl (ct_ck_takeMoved (sl := sl) (x := x) (d := d + 0)  hI hcb) (Or.inl rfl) (fun k9 v9 T9 E9 nx9 kc9 ks9 hq8 hk9 hv9 => ?_)
          obtain ⟨rfl, rfl, rfl, hI11, hG12, hz10⟩ := hq8
          obtain rfl : kc = kc9 := by omega
          obtain rfl : ks = ks9 := by omega
          have hF14 := cm_fr.trans hF hG12 (by intro i k h; (try simp only at h); (try simp only); omega)
          have hz15 : E9 19 2 = cr 5 := (hG12 19 2 (by first | omega | (simp; done) | (simp; omega) | (simp only; omega))).trans hcb
          have hz16 : E9 19 3 = ai_i z7 := (hG12 19 3 (by first | omega | (simp; done) | (simp; omega) | (simp only; omega))).trans hz7
          have ghz16 := gv_eq hz16
          refine Or.inl ⟨rfl, ?_⟩
          exact w_vret rfl (⟨rfl, rfl, rfl, hI11, hF14, by omega⟩) (by omega) (by omega)
        · replace hc5 : ¬ (c ≠ (2 : Int)) := hc5
          refine w_aload (i := 0) (npc := 47) (v := cr 19) rfl rfl rfl ?_
          refine w_const (n := 0) (npc := 48) rfl ?_
          refine w_iload (i := 2) (npc := 49) rfl rfl ?_
          refine w_const (n := 1) (npc := 50) rfl ?_
          refine w_isub (npc := 51) rfl (by omega) ?_
          obtain ⟨z18, hz18, hz18a, hz18b⟩ := hI.int 19 4 (lo := 0) (hi := 400) (by decide) (by decide) rfl
          have ghz18 := gv_eq hz18
          obtain ⟨z19, hz19, hz19a, hz19b⟩ := hI.int 19 3 (lo := 0) (hi := 400) (by decide) (by decide) rfl
          have ghz19 := gv_eq hz19
          refine w_virt (ci := 0) (i := 19) (npc := 54) (a := [cr 19, ai_i 0, ai_i (n - 1)]) (rest := []) rfl rfl (hI.pl (by decide)) (hI.T (by decide) rfl) rfl rfl rfl rfl (ct_ck_take (sl := sl) (x := x) (d := d + 2) (0) (n - 1) hI hcb) (Or.inl rfl) (fun k9 v9 T21 E21 nx21 kc21 ks21 hq20 hk21 hv21 => ?_)
          obtain ⟨rfl, rfl, rfl, hI23, hG24, z22, rfl, hz22⟩ := hq20
          obtain rfl : kc = kc21 := by omega
          obtain rfl : ks = ks21 := by omega
          have hF26 := cm_fr.trans hF hG24 (by intro i k h; (try simp only at h); (try simp only); omega)
          have hz27 : E21 19 2 = cr 5 := (hG24 19 2 (by first | omega | (simp; done) | (simp; omega) | (simp only; omega))).trans hcb
          have hz28 : E21 19 3 = ai_i z19 := (hG24 19 3 (by first | omega | (simp; done) | (simp; omega) | (simp only; omega))).trans hz19
          have ghz28 := gv_eq hz28
          refine Or.inr (Or.inl ⟨rfl, ?_⟩)
          refine w_pop (npc := 55) rfl rfl ?_
          refine w_goto (pt := 62) rfl ?_
          exact w_vret rfl (⟨rfl, rfl, rfl, hI23, hF26, by omega⟩) (by omega) (by omega)
      · replace hc4 : ¬ (c ≠ (1 : Int)) := hc4
        refine w_aload (i := 0) (npc := 34) (v := cr 19) rfl rfl rfl ?_
        obtain ⟨z29, hz29, hz29a, hz29b⟩ := hI.int 19 4 (lo := 0) (hi := 400) (by decide) (by decide) rfl
        have ghz29 := gv_eq hz29
        obtain ⟨z30, hz30, hz30a, hz30b⟩ := hI.int 19 3 (lo := 0) (hi := 400) (by decide) (by decide) rfl
        have ghz30 := gv_eq hz30
        refine w_virt (ci := 0) (i := 19) (npc := 37) (a := [cr 19]) (rest := []) rfl rfl (hI.pl (by decide)) (hI.T (by decide) rfl) rfl rfl rfl rfl (ct_ck_takeMark (sl := sl) (x := x) (d := d + 1)  hI hcb) (Or.inl rfl) (fun k9 v9 T32 E32 nx32 kc32 ks32 hq31 hk32 hv32 => ?_)
        obtain ⟨rfl, rfl, rfl, hI34, hG35, z33, rfl, hz33⟩ := hq31
        obtain rfl : kc = kc32 := by omega
        obtain rfl : ks = ks32 := by omega
        have hF37 := cm_fr.trans hF hG35 (by intro i k h; (try simp only at h); (try simp only); omega)
        have hz38 : E32 19 2 = cr 5 := (hG35 19 2 (by first | omega | (simp; done) | (simp; omega) | (simp only; omega))).trans hcb
        have hz39 : E32 19 3 = ai_i z30 := (hG35 19 3 (by first | omega | (simp; done) | (simp; omega) | (simp only; omega))).trans hz30
        have ghz39 := gv_eq hz39
        refine Or.inr (Or.inl ⟨rfl, ?_⟩)
        refine w_pop (npc := 38) rfl rfl ?_
        refine w_goto (pt := 62) rfl ?_
        exact w_vret rfl (⟨rfl, rfl, rfl, hI34, hF37, by omega⟩) (by omega) (by omega)
    · replace hc3 : ¬ (c ≠ (0 : Int)) := hc3
      refine w_aload (i := 0) (npc := 13) (v := cr 19) rfl rfl rfl ?_
      refine w_const (n := 32) (npc := 15) rfl ?_
      refine w_const (n := 126) (npc := 17) rfl ?_
      obtain ⟨z40, hz40, hz40a, hz40b⟩ := hI.int 19 4 (lo := 0) (hi := 400) (by decide) (by decide) rfl
      have ghz40 := gv_eq hz40
      obtain ⟨z41, hz41, hz41a, hz41b⟩ := hI.int 19 3 (lo := 0) (hi := 400) (by decide) (by decide) rfl
      have ghz41 := gv_eq hz41
      refine w_virt (ci := 0) (i := 19) (npc := 20) (a := [cr 19, ai_i 32, ai_i 126]) (rest := []) rfl rfl (hI.pl (by decide)) (hI.T (by decide) rfl) rfl rfl rfl rfl (ct_ck_take (sl := sl) (x := x) (d := d + 2) (32) (126) hI hcb) (Or.inl rfl) (fun k9 v9 T43 E43 nx43 kc43 ks43 hq42 hk43 hv43 => ?_)
      obtain ⟨rfl, rfl, rfl, hI45, hG46, z44, rfl, hz44⟩ := hq42
      obtain rfl : kc = kc43 := by omega
      obtain rfl : ks = ks43 := by omega
      have hF48 := cm_fr.trans hF hG46 (by intro i k h; (try simp only at h); (try simp only); omega)
      have hz49 : E43 19 2 = cr 5 := (hG46 19 2 (by first | omega | (simp; done) | (simp; omega) | (simp only; omega))).trans hcb
      have hz50 : E43 19 3 = ai_i z41 := (hG46 19 3 (by first | omega | (simp; done) | (simp; omega) | (simp only; omega))).trans hz41
      have ghz50 := gv_eq hz50
      refine Or.inr (Or.inl ⟨rfl, ?_⟩)
      refine w_pop (npc := 21) rfl rfl ?_
      refine w_aload (i := 0) (npc := 22) (v := cr 19) rfl rfl rfl ?_
      obtain ⟨z51, hz51, hz51a, hz51b⟩ := hI45.int 19 4 (lo := 0) (hi := 400) (by decide) (by decide) rfl
      have ghz51 := gv_eq hz51
      obtain ⟨z52, hz52, hz52a, hz52b⟩ := hI45.int 19 6 (lo := 0) (hi := 3) (by decide) (by decide) rfl
      have ghz52 := gv_eq hz52
      refine w_virt (ci := 0) (i := 19) (npc := 25) (a := [cr 19]) (rest := []) rfl rfl (hI45.pl (by decide)) (hI45.T (by decide) rfl) rfl rfl rfl rfl (ct_ck_takeKey (sl := sl) (x := x) (d := d + 1)  hI45 hz49) (Or.inl rfl) (fun k9 v9 T54 E54 nx54 kc54 ks54 hq53 hk54 hv54 => ?_)
      obtain ⟨rfl, rfl, rfl, hI56, hG57, hz55⟩ := hq53
      obtain rfl : kc = kc54 := by omega
      obtain rfl : ks = ks54 := by omega
      have hF59 := cm_fr.trans hF48 hG57 (by intro i k h; (try simp only at h); (try simp only); omega)
      have hz60 : E54 19 2 = cr 5 := (hG57 19 2 (by first | omega | (simp; done) | (simp; omega) | (simp only; omega))).trans hz49
      have hz61 : E54 19 3 = ai_i z41 := (hG57 19 3 (by first | omega | (simp; done) | (simp; omega) | (simp only; omega))).trans hz50
      have ghz61 := gv_eq hz61
      refine Or.inl ⟨rfl, ?_⟩
      refine w_goto (pt := 62) rfl ?_
      exact w_vret rfl (⟨rfl, rfl, rfl, hI56, hF59, by omega⟩) (by omega) (by omega)
  · replace hc2 : ¬ (z1 = (0 : Int)) := hc2
    exact w_vret rfl (⟨rfl, rfl, rfl, hI, hF, by omega⟩) (by omega) (by omega)
set_option maxRecDepth 16384 in
theorem ct_ck_takeSum {sl : Int × Int} {x : ai_E} {d : Nat} {T : cm_T} {E : cm_E} {nx : Nat}  (hI : cs_I T E nx) (hcb : E 19 2 = cr 5) : cm_ct (ai_ev sl (d + 3)) x 55 [cr 19] T E nx 0 0 (fun rk rv T' E' nx' => rk = 0 ∧ T = T' ∧ nx = nx' ∧ cs_I T E' nx ∧ cm_fr (fun i k => i = 19 ∧ (k = 4 ∨ k = 6 ∨ k = 7)) E E' ∧ (gv E 19 4 ≤ gv E' 19 4 ∧ gv E' 19 4 ≤ gv E 19 4 + 1 ∧ (gv E' 19 6 = 0 → gv E 19 6 = 0))) := by
  refine cm_body (M := ai_m55) rfl rfl (fun kc ks => ?_)
  show cm_wp (ai_find ai_c55 sl) (ai_ev sl (d + 2)) x (kc + 0) (ks + 0) _ 0 [cr 19, ai_un, ai_un] [] T E nx kc ks
  have hF : cm_fr (fun i k => i = 19 ∧ (k = 4 ∨ k = 6 ∨ k = 7)) E E := fun _ _ _ => rfl
  refine w_const (n := 0) (npc := 1) rfl ?_
  refine w_istore (i := 1) (npc := 2) (loc' := [cr 19, ai_i 0, ai_un]) rfl rfl ?_
  refine w_const (n := 0) (npc := 3) rfl ?_
  refine w_istore (i := 2) (npc := 4) (loc' := [cr 19, ai_i 0, ai_i 0]) rfl rfl ?_
  have loop4 : ∀ (nf : Nat) (s : Int) (i : Int), ((400 - i).toNat) < nf → (0 ≤ i ∧ i ≤ 400 ∧ 0 ≤ s ∧ s ≤ 255 * i) → cm_wp (ai_find ai_c55 sl) (ai_ev sl (d + 2)) x (kc + 0) (ks + 0) (fun rk rv T' E' nx' => rk = 0 ∧ T = T' ∧ nx = nx' ∧ cs_I T E' nx ∧ cm_fr (fun i k => i = 19 ∧ (k = 4 ∨ k = 6 ∨ k = 7)) E E' ∧ (gv E 19 4 ≤ gv E' 19 4 ∧ gv E' 19 4 ≤ gv E 19 4 + 1 ∧ (gv E' 19 6 = 0 → gv E 19 6 = 0))) 4 [cr 19, ai_i s, ai_i i] [] T E nx kc ks := by
    intro nf
    induction nf with
    | zero => intro s i hm; exact absurd hm (Nat.not_lt_zero _)
    | succ nf4 ih =>
      intro s i hm4 hv4
      have ih4 := ih; clear ih
      refine w_iload (i := 2) (npc := 5) rfl rfl ?_
      refine w_aload (i := 0) (npc := 6) (v := cr 19) rfl rfl rfl ?_
      obtain ⟨z1, hz1, hz1a, hz1b⟩ := hI.int 19 4 (lo := 0) (hi := 400) (by decide) (by decide) rfl
      have ghz1 := gv_eq hz1
      refine w_getf (i := 19) (ci := 0) (k := 4) (npc := 9) rfl (hI.pl (by decide)) (hI.T (by decide) rfl) (by decide) hz1 ?_
      refine w_icmp (c := .ge) (npc := 12) (pt := 27) rfl (fun hc2 => ?_) (fun hc2 => ?_)
      · replace hc2 : z1 ≤ i := hc2
        refine w_aload (i := 0) (npc := 28) (v := cr 19) rfl rfl rfl ?_
        refine w_getf (i := 19) (ci := 0) (k := 4) (npc := 31) rfl (hI.pl (by decide)) (hI.T (by decide) rfl) (by decide) hz1 ?_
        refine w_istore (i := 2) (npc := 32) (loc' := [cr 19, ai_i s, ai_i z1]) rfl rfl ?_
        refine w_aload (i := 0) (npc := 33) (v := cr 19) rfl rfl rfl ?_
        obtain ⟨z3, hz3, hz3a, hz3b⟩ := hI.int 19 6 (lo := 0) (hi := 3) (by decide) (by decide) rfl
        have ghz3 := gv_eq hz3
        obtain ⟨z4, hz4, hz4a, hz4b⟩ := hI.int 19 3 (lo := 0) (hi := 400) (by decide) (by decide) rfl
        have ghz4 := gv_eq hz4
        refine w_virt (ci := 0) (i := 19) (npc := 36) (a := [cr 19]) (rest := []) rfl rfl (hI.pl (by decide)) (hI.T (by decide) rfl) rfl rfl rfl rfl (ct_ck_read (sl := sl) (x := x) (d := d + 0)  hI hcb) (Or.inl rfl) (fun k9 v9 T6 E6 nx6 kc6 ks6 hq5 hk6 hv6 => ?_)
        obtain ⟨rfl, rfl, rfl, hI8, hG9, z7, rfl, hz7⟩ := hq5
        obtain rfl : kc = kc6 := by omega
        obtain rfl : ks = ks6 := by omega
        have hF11 := cm_fr.trans hF hG9 (by intro i k h; (try simp only at h); (try simp only); omega)
        have hz12 : E6 19 2 = cr 5 := (hG9 19 2 (by first | omega | (simp; done) | (simp; omega) | (simp only; omega))).trans hcb
        have hz13 : E6 19 3 = ai_i z4 := (hG9 19 3 (by first | omega | (simp; done) | (simp; omega) | (simp only; omega))).trans hz4
        have ghz13 := gv_eq hz13
        refine Or.inr (Or.inl ⟨rfl, ?_⟩)
        refine w_iload (i := 1) (npc := 37) rfl rfl ?_
        refine w_const (n := 256) (npc := 40) rfl ?_
        refine w_irem (npc := 41) rfl (by omega) (by omega) (fun z14 hz14 hz14b => ?_)
        refine w_icmp (c := .eq) (npc := 44) (pt := 50) rfl (fun hc15 => ?_) (fun hc15 => ?_)
        · replace hc15 : z7 = z14 := hc15
          exact w_vret rfl (⟨rfl, rfl, rfl, hI8, hF11, by omega⟩) (by omega) (by omega)
        · replace hc15 : ¬ (z7 = z14) := hc15
          refine w_aload (i := 0) (npc := 45) (v := cr 19) rfl rfl rfl ?_
          refine w_const (n := 3) (npc := 46) rfl ?_
          refine w_iload (i := 2) (npc := 47) rfl rfl ?_
          obtain ⟨z16, hz16, hz16a, hz16b⟩ := hI8.int 19 4 (lo := 0) (hi := 400) (by decide) (by decide) rfl
          have ghz16 := gv_eq hz16
          obtain ⟨z17, hz17, hz17a, hz17b⟩ := hI8.int 19 6 (lo := 0) (hi := 3) (by decide) (by decide) rfl
          have ghz17 := gv_eq hz17
          refine w_virt (ci := 0) (i := 19) (npc := 50) (a := [cr 19, ai_i 3, ai_i z1]) (rest := []) rfl rfl (hI8.pl (by decide)) (hI8.T (by decide) rfl) rfl rfl rfl rfl (ct_ck_fail (sl := sl) (x := x) (d := d + 1) (3) (z1) hI8 (by omega) (by omega)) (Or.inl rfl) (fun k9 v9 T19 E19 nx19 kc19 ks19 hq18 hk19 hv19 => ?_)
          obtain ⟨rfl, rfl, rfl, hI21, hG22, hz20⟩ := hq18
          obtain rfl : kc = kc19 := by omega
          obtain rfl : ks = ks19 := by omega
          have hF24 := cm_fr.trans hF11 hG22 (by intro i k h; (try simp only at h); (try simp only); omega)
          have hz25 : E19 19 2 = cr 5 := (hG22 19 2 (by first | omega | (simp; done) | (simp; omega) | (simp only; omega))).trans hz12
          have hz26 : E19 19 3 = ai_i z4 := (hG22 19 3 (by first | omega | (simp; done) | (simp; omega) | (simp only; omega))).trans hz13
          have ghz26 := gv_eq hz26
          have hz27 : E19 19 4 = ai_i z16 := (hG22 19 4 (by first | omega | (simp; done) | (simp; omega) | (simp only; omega))).trans hz16
          have ghz27 := gv_eq hz27
          refine Or.inl ⟨rfl, ?_⟩
          exact w_vret rfl (⟨rfl, rfl, rfl, hI21, hF24, by omega⟩) (by omega) (by omega)
      · replace hc2 : ¬ (z1 ≤ i) := hc2
        refine w_iload (i := 1) (npc := 13) rfl rfl ?_
        refine w_aload (i := 0) (npc := 14) (v := cr 19) rfl rfl rfl ?_
        refine w_getf (i := 19) (ci := 0) (k := 2) (npc := 17) rfl (hI.pl (by decide)) (hI.T (by decide) rfl) (by decide) hcb ?_
        refine w_iload (i := 2) (npc := 18) rfl rfl ?_
        obtain ⟨z28, hz28, hz28a, hz28b⟩ := hI.int 5 (i : Int).toNat (lo := 0) (hi := 255) (by decide) (show (i : Int).toNat < 400 by omega) rfl
        have ghz28 := gv_eq hz28
        refine w_ald (i := 5) (t := 1) (n := 400) (npc := 19) rfl (hI.pl (by decide)) (hI.T (by decide) rfl) (by decide) rfl (by omega) hz28 ?_
        refine w_iadd (npc := 20) rfl (by omega) ?_
        refine w_istore (i := 1) (npc := 21) (loc' := [cr 19, ai_i (s + z28), ai_i i]) rfl rfl ?_
        refine w_iinc (i := 2) (n := 1) (npc := 24) (loc' := [cr 19, ai_i (s + z28), ai_i (i + 1)]) rfl rfl (by omega) rfl ?_
        refine w_goto (pt := 4) rfl ?_
        exact ih4 (s + z28) (i + 1) (by omega) (by omega)
  exact loop4 _ (0) (0) (Nat.lt_succ_self _) (by omega)
set_option maxRecDepth 16384 in
theorem ct_ck_check {sl : Int × Int} {x : ai_E} {d : Nat} {T : cm_T} {E : cm_E} {nx : Nat} (n w : Int)  (hI : cs_I T E nx) (hp0 : 0 ≤ n ∧ n ≤ 400) (hp1 : 1 ≤ w ∧ w ≤ 5) : cm_ct (ai_ev sl (d + 7)) x 45 [cr 19, cr 5, ai_i n, ai_i w] T E nx 0 0 (fun rk rv T' E' nx' => rk = 1 ∧ T = T' ∧ nx = nx' ∧ cs_I T E' nx ∧ cm_fr (fun i k => 19 ≤ i ∧ i ≤ 21) E E' ∧ ∃ z : Int, rv = ai_i z ∧ (0 ≤ z ∧ z ≤ 3 ∧ (z = 0 → n ≤ 399 ∧ (3 ≤ n ∧ gv E 5 1 ≤ 4 ∧ 1 ≤ gv E 5 2 ∧ gv E 5 2 ≤ 60)))) := by
  refine cm_body (M := ai_m45) rfl rfl (fun kc ks => ?_)
  show cm_wp (ai_find ai_c45 sl) (ai_ev sl (d + 6)) x (kc + 0) (ks + 0) _ 0 [cr 19, cr 5, ai_i n, ai_i w, ai_un, ai_un, ai_un, ai_un] [] T E nx kc ks
  have hF : cm_fr (fun i k => 19 ≤ i ∧ i ≤ 21) E E := fun _ _ _ => rfl
  refine w_aload (i := 0) (npc := 1) (v := cr 19) rfl rfl rfl ?_
  refine w_aload (i := 1) (npc := 2) (v := cr 5) rfl rfl rfl ?_
  refine w_putf (i := 19) (ci := 0) (k := 2) (t := 2) (npc := 5) rfl (hI.pl (by decide)) (hI.T (by decide) rfl) (by decide) cm_fit2 ?_
  have hI2 := hI.put (i := 19) (k := 2) (v := cr 5) (by decide) (fun _ => Or.inr (Or.inr (Or.inr (Or.inr ⟨rfl, Or.inl rfl⟩))))
  have hF4 := cm_fr.up (i := 19) (k := 2) (v := cr 5) hF (by first | omega | (simp; done) | (simp; omega) | (simp only; omega))
  generalize hE3 : cm_up E 19 2 (cr 5) = E1 at hI2 hF4 ⊢
  have hz5 : E1 19 2 = cr 5 := by rw [← hE3, cm_up_eq]
  refine w_aload (i := 0) (npc := 6) (v := cr 19) rfl rfl rfl ?_
  refine w_iload (i := 2) (npc := 7) rfl rfl ?_
  refine w_aload (i := 1) (npc := 8) (v := cr 5) rfl rfl rfl ?_
  refine w_len (i := 5) (t := 1) (n := 400) (npc := 9) rfl (hI2.pl (by decide)) (hI2.T (by decide) rfl) (by decide) ?_
  refine w_min (npc := 12) rfl rfl ?_
  obtain ⟨z6, hz6⟩ : ∃ z6 : Int, z6 = min n (((400 : Nat) : Int)) := ⟨_, rfl⟩
  rw [← hz6]
  refine w_putf (i := 19) (ci := 0) (k := 3) (t := 0) (npc := 15) rfl (hI2.pl (by decide)) (hI2.T (by decide) rfl) (by decide) cm_fit0 ?_
  have hI8 := hI2.puti (i := 19) (k := 3) (z := z6) (lo := 0) (hi := 400) (by decide) rfl (by omega)
  have hF10 := cm_fr.up (i := 19) (k := 3) (v := ai_i z6) hF4 (by first | omega | (simp; done) | (simp; omega) | (simp only; omega))
  generalize hE9 : cm_up E1 19 3 (ai_i z6) = E7 at hI8 hF10 ⊢
  have hz11 : E7 19 2 = cr 5 := by rw [← hE9, cm_up_ne _ _ (by decide)]; exact hz5
  have hz12 : E7 19 3 = ai_i z6 := by rw [← hE9, cm_up_eq]
  have ghz12 := gv_eq hz12
  refine w_aload (i := 0) (npc := 16) (v := cr 19) rfl rfl rfl ?_
  refine w_const (n := 0) (npc := 17) rfl ?_
  refine w_putf (i := 19) (ci := 0) (k := 4) (t := 0) (npc := 20) rfl (hI8.pl (by decide)) (hI8.T (by decide) rfl) (by decide) cm_fit0 ?_
  have hI14 := hI8.puti (i := 19) (k := 4) (z := 0) (lo := 0) (hi := 400) (by decide) rfl (by omega)
  have hF16 := cm_fr.up (i := 19) (k := 4) (v := ai_i 0) hF10 (by first | omega | (simp; done) | (simp; omega) | (simp only; omega))
  generalize hE15 : cm_up E7 19 4 (ai_i 0) = E13 at hI14 hF16 ⊢
  have hz17 : E13 19 2 = cr 5 := by rw [← hE15, cm_up_ne _ _ (by decide)]; exact hz11
  have hz18 : E13 19 3 = ai_i z6 := by rw [← hE15, cm_up_ne _ _ (by decide)]; exact hz12
  have ghz18 := gv_eq hz18
  have hz19 : E13 19 4 = ai_i 0 := by rw [← hE15, cm_up_eq]
  have ghz19 := gv_eq hz19
  refine w_aload (i := 0) (npc := 21) (v := cr 19) rfl rfl rfl ?_
  refine w_iload (i := 3) (npc := 22) rfl rfl ?_
  refine w_putf (i := 19) (ci := 0) (k := 5) (t := 0) (npc := 25) rfl (hI14.pl (by decide)) (hI14.T (by decide) rfl) (by decide) cm_fit0 ?_
  have hI21 := hI14.puti (i := 19) (k := 5) (z := w) (lo := 0) (hi := 5) (by decide) rfl (by omega)
  have hF23 := cm_fr.up (i := 19) (k := 5) (v := ai_i w) hF16 (by first | omega | (simp; done) | (simp; omega) | (simp only; omega))
  generalize hE22 : cm_up E13 19 5 (ai_i w) = E20 at hI21 hF23 ⊢
  have hz24 : E20 19 2 = cr 5 := by rw [← hE22, cm_up_ne _ _ (by decide)]; exact hz17
  have hz25 : E20 19 3 = ai_i z6 := by rw [← hE22, cm_up_ne _ _ (by decide)]; exact hz18
  have ghz25 := gv_eq hz25
  have hz26 : E20 19 4 = ai_i 0 := by rw [← hE22, cm_up_ne _ _ (by decide)]; exact hz19
  have ghz26 := gv_eq hz26
  have hz27 : E20 19 5 = ai_i w := by rw [← hE22, cm_up_eq]
  have ghz27 := gv_eq hz27
  refine w_aload (i := 0) (npc := 26) (v := cr 19) rfl rfl rfl ?_
  refine w_const (n := 0) (npc := 27) rfl ?_
  refine w_putf (i := 19) (ci := 0) (k := 6) (t := 0) (npc := 30) rfl (hI21.pl (by decide)) (hI21.T (by decide) rfl) (by decide) cm_fit0 ?_
  have hI29 := hI21.puti (i := 19) (k := 6) (z := 0) (lo := 0) (hi := 3) (by decide) rfl (by omega)
  have hF31 := cm_fr.up (i := 19) (k := 6) (v := ai_i 0) hF23 (by first | omega | (simp; done) | (simp; omega) | (simp only; omega))
  generalize hE30 : cm_up E20 19 6 (ai_i 0) = E28 at hI29 hF31 ⊢
  have hz32 : E28 19 2 = cr 5 := by rw [← hE30, cm_up_ne _ _ (by decide)]; exact hz24
  have hz33 : E28 19 3 = ai_i z6 := by rw [← hE30, cm_up_ne _ _ (by decide)]; exact hz25
  have ghz33 := gv_eq hz33
  have hz34 : E28 19 4 = ai_i 0 := by rw [← hE30, cm_up_ne _ _ (by decide)]; exact hz26
  have ghz34 := gv_eq hz34
  have hz35 : E28 19 5 = ai_i w := by rw [← hE30, cm_up_ne _ _ (by decide)]; exact hz27
  have ghz35 := gv_eq hz35
  have hz36 : E28 19 6 = ai_i 0 := by rw [← hE30, cm_up_eq]
  have ghz36 := gv_eq hz36
  refine w_aload (i := 0) (npc := 31) (v := cr 19) rfl rfl rfl ?_
  refine w_const (n := 0) (npc := 32) rfl ?_
  refine w_putf (i := 19) (ci := 0) (k := 7) (t := 0) (npc := 35) rfl (hI29.pl (by decide)) (hI29.T (by decide) rfl) (by decide) cm_fit0 ?_
  have hI38 := hI29.puti (i := 19) (k := 7) (z := 0) (lo := 0) (hi := 400) (by decide) rfl (by omega)
  have hF40 := cm_fr.up (i := 19) (k := 7) (v := ai_i 0) hF31 (by first | omega | (simp; done) | (simp; omega) | (simp only; omega))
  generalize hE39 : cm_up E28 19 7 (ai_i 0) = E37 at hI38 hF40 ⊢
  have hz41 : E37 19 2 = cr 5 := by rw [← hE39, cm_up_ne _ _ (by decide)]; exact hz32
  have hz42 : E37 19 3 = ai_i z6 := by rw [← hE39, cm_up_ne _ _ (by decide)]; exact hz33
  have ghz42 := gv_eq hz42
  have hz43 : E37 19 4 = ai_i 0 := by rw [← hE39, cm_up_ne _ _ (by decide)]; exact hz34
  have ghz43 := gv_eq hz43
  have hz44 : E37 19 5 = ai_i w := by rw [← hE39, cm_up_ne _ _ (by decide)]; exact hz35
  have ghz44 := gv_eq hz44
  have hz45 : E37 19 6 = ai_i 0 := by rw [← hE39, cm_up_ne _ _ (by decide)]; exact hz36
  have ghz45 := gv_eq hz45
  have hz46 : E37 19 7 = ai_i 0 := by rw [← hE39, cm_up_eq]
  have ghz46 := gv_eq hz46
  refine w_aload (i := 0) (npc := 36) (v := cr 19) rfl rfl rfl ?_
  refine w_const (n := 0) (npc := 37) rfl ?_
  refine w_const (n := 3) (npc := 38) rfl ?_
  refine w_virt (ci := 0) (i := 19) (npc := 41) (a := [cr 19, ai_i 0, ai_i 3]) (rest := []) rfl rfl (hI38.pl (by decide)) (hI38.T (by decide) rfl) rfl rfl rfl rfl (ct_ck_take (sl := sl) (x := x) (d := d + 3) (0) (3) hI38 hz41) (Or.inl rfl) (fun k9 v9 T48 E48 nx48 kc48 ks48 hq47 hk48 hv48 => ?_)
  obtain ⟨rfl, rfl, rfl, hI50, hG51, z49, rfl, hz49⟩ := hq47
  obtain rfl : kc = kc48 := by omega
  obtain rfl : ks = ks48 := by omega
  have hF53 := cm_fr.trans hF40 hG51 (by intro i k h; (try simp only at h); (try simp only); omega)
  have hz54 : E48 19 2 = cr 5 := (hG51 19 2 (by first | omega | (simp; done) | (simp; omega) | (simp only; omega))).trans hz41
  have hz55 : E48 19 3 = ai_i z6 := (hG51 19 3 (by first | omega | (simp; done) | (simp; omega) | (simp only; omega))).trans hz42
  have ghz55 := gv_eq hz55
  have hz56 : E48 19 5 = ai_i w := (hG51 19 5 (by first | omega | (simp; done) | (simp; omega) | (simp only; omega))).trans hz44
  have ghz56 := gv_eq hz56
  refine Or.inr (Or.inl ⟨rfl, ?_⟩)
  refine w_istore (i := 4) (npc := 43) (loc' := [cr 19, cr 5, ai_i n, ai_i w, ai_i z49, ai_un, ai_un, ai_un]) rfl rfl ?_
  refine w_aload (i := 0) (npc := 44) (v := cr 19) rfl rfl rfl ?_
  refine w_const (n := 0) (npc := 45) rfl ?_
  refine w_iload (i := 3) (npc := 46) rfl rfl ?_
  refine w_const (n := 1) (npc := 47) rfl ?_
  refine w_isub (npc := 48) rfl (by omega) ?_
  obtain ⟨z58, hz58, hz58a, hz58b⟩ := hI50.int 19 4 (lo := 0) (hi := 400) (by decide) (by decide) rfl
  have ghz58 := gv_eq hz58
  obtain ⟨z59, hz59, hz59a, hz59b⟩ := hI50.int 19 6 (lo := 0) (hi := 3) (by decide) (by decide) rfl
  have ghz59 := gv_eq hz59
  refine w_virt (ci := 0) (i := 19) (npc := 51) (a := [cr 19, ai_i 0, ai_i (w - 1)]) (rest := []) rfl rfl (hI50.pl (by decide)) (hI50.T (by decide) rfl) rfl rfl rfl rfl (ct_ck_take (sl := sl) (x := x) (d := d + 3) (0) (w - 1) hI50 hz54) (Or.inl rfl) (fun k9 v9 T61 E61 nx61 kc61 ks61 hq60 hk61 hv61 => ?_)
  obtain ⟨rfl, rfl, rfl, hI63, hG64, z62, rfl, hz62⟩ := hq60
  obtain rfl : kc = kc61 := by omega
  obtain rfl : ks = ks61 := by omega
  have hF66 := cm_fr.trans hF53 hG64 (by intro i k h; (try simp only at h); (try simp only); omega)
  have hz67 : E61 19 2 = cr 5 := (hG64 19 2 (by first | omega | (simp; done) | (simp; omega) | (simp only; omega))).trans hz54
  have hz68 : E61 19 3 = ai_i z6 := (hG64 19 3 (by first | omega | (simp; done) | (simp; omega) | (simp only; omega))).trans hz55
  have ghz68 := gv_eq hz68
  have hz69 : E61 19 5 = ai_i w := (hG64 19 5 (by first | omega | (simp; done) | (simp; omega) | (simp only; omega))).trans hz56
  have ghz69 := gv_eq hz69
  refine Or.inr (Or.inl ⟨rfl, ?_⟩)
  refine w_istore (i := 5) (npc := 53) (loc' := [cr 19, cr 5, ai_i n, ai_i w, ai_i z49, ai_i z62, ai_un, ai_un]) rfl rfl ?_
  refine w_aload (i := 0) (npc := 54) (v := cr 19) rfl rfl rfl ?_
  refine w_const (n := 1) (npc := 55) rfl ?_
  refine w_const (n := 60) (npc := 57) rfl ?_
  obtain ⟨z70, hz70, hz70a, hz70b⟩ := hI63.int 19 4 (lo := 0) (hi := 400) (by decide) (by decide) rfl
  have ghz70 := gv_eq hz70
  obtain ⟨z71, hz71, hz71a, hz71b⟩ := hI63.int 19 6 (lo := 0) (hi := 3) (by decide) (by decide) rfl
  have ghz71 := gv_eq hz71
  refine w_virt (ci := 0) (i := 19) (npc := 60) (a := [cr 19, ai_i 1, ai_i 60]) (rest := []) rfl rfl (hI63.pl (by decide)) (hI63.T (by decide) rfl) rfl rfl rfl rfl (ct_ck_take (sl := sl) (x := x) (d := d + 3) (1) (60) hI63 hz67) (Or.inl rfl) (fun k9 v9 T73 E73 nx73 kc73 ks73 hq72 hk73 hv73 => ?_)
  obtain ⟨rfl, rfl, rfl, hI75, hG76, z74, rfl, hz74⟩ := hq72
  obtain rfl : kc = kc73 := by omega
  obtain rfl : ks = ks73 := by omega
  have hF78 := cm_fr.trans hF66 hG76 (by intro i k h; (try simp only at h); (try simp only); omega)
  have hz79 : E73 19 2 = cr 5 := (hG76 19 2 (by first | omega | (simp; done) | (simp; omega) | (simp only; omega))).trans hz67
  have hz80 : E73 19 3 = ai_i z6 := (hG76 19 3 (by first | omega | (simp; done) | (simp; omega) | (simp only; omega))).trans hz68
  have ghz80 := gv_eq hz80
  have hz81 : E73 19 5 = ai_i w := (hG76 19 5 (by first | omega | (simp; done) | (simp; omega) | (simp only; omega))).trans hz69
  have ghz81 := gv_eq hz81
  refine Or.inr (Or.inl ⟨rfl, ?_⟩)
  have hPB : gv E73 19 6 = 0 → (3 ≤ n ∧ gv E 5 1 ≤ 4 ∧ 1 ≤ gv E 5 2 ∧ gv E 5 2 ≤ 60) := fun hz9 => by
    have c3 := hz74.2.2.2.2 hz9
    have c2 := hz62.2.2.2.2 c3.1
    have c1 := hz49.2.2.2.2 c2.1
    rw [show (gv E48 19 4).toNat = 1 by omega] at c2
    rw [show (gv E61 19 4).toNat = 2 by omega] at c3
    have f1 := gv_fr hF53 (i := 5) (k := 1) (by omega)
    have f2 := gv_fr hF66 (i := 5) (k := 2) (by omega)
    omega
  refine w_istore (i := 6) (npc := 62) (loc' := [cr 19, cr 5, ai_i n, ai_i w, ai_i z49, ai_i z62, ai_i z74, ai_un]) rfl rfl ?_
  refine w_const (n := 0) (npc := 63) rfl ?_
  refine w_istore (i := 7) (npc := 65) (loc' := [cr 19, cr 5, ai_i n, ai_i w, ai_i z49, ai_i z62, ai_i z74, ai_i 0]) rfl rfl ?_
  have loop65 : ∀ (nf : Nat) (v : Int) (Eq65 : cm_E), ((5 - v).toNat) < nf → cs_I T Eq65 nx → cm_fr (fun i k => 19 ≤ i ∧ i ≤ 21) E Eq65 → Eq65 19 2 = cr 5 → (0 ≤ v ∧ v ≤ 5 ∧ gv Eq65 19 4 ≤ 3 + v ∧ gv Eq65 19 3 = n ∧ (gv Eq65 19 6 = 0 → (3 ≤ n ∧ gv E 5 1 ≤ 4 ∧ 1 ≤ gv E 5 2 ∧ gv E 5 2 ≤ 60))) → cm_wp (ai_find ai_c45 sl) (ai_ev sl (d + 6)) x (kc + 0) (ks + 0) (fun rk rv T' E' nx' => rk = 1 ∧ T = T' ∧ nx = nx' ∧ cs_I T E' nx ∧ cm_fr (fun i k => 19 ≤ i ∧ i ≤ 21) E E' ∧ ∃ z : Int, rv = ai_i z ∧ (0 ≤ z ∧ z ≤ 3 ∧ (z = 0 → n ≤ 399 ∧ (3 ≤ n ∧ gv E 5 1 ≤ 4 ∧ 1 ≤ gv E 5 2 ∧ gv E 5 2 ≤ 60)))) 65 [cr 19, cr 5, ai_i n, ai_i w, ai_i z49, ai_i z62, ai_i z74, ai_i v] [] T Eq65 nx kc ks := by
    intro nf
    induction nf with
    | zero => intro v Eq65 hm; exact absurd hm (Nat.not_lt_zero _)
    | succ nf65 ih =>
      intro v Eq65 hm65 hI65 hF65 hcb65 hv65
      obtain ⟨z82, hz82, hz82a, hz82b⟩ := hI65.int 19 4 (lo := 0) (hi := 400) (by decide) (by decide) rfl
      have ghz82 := gv_eq hz82
      obtain ⟨z83, hz83, hz83a, hz83b⟩ := hI65.int 19 6 (lo := 0) (hi := 3) (by decide) (by decide) rfl
      have ghz83 := gv_eq hz83
      obtain ⟨z84, hz84, hz84a, hz84b⟩ := hI65.int 19 3 (lo := 0) (hi := 400) (by decide) (by decide) rfl
      have ghz84 := gv_eq hz84
      have ih65 := ih; clear ih
      refine w_iload (i := 7) (npc := 67) rfl rfl ?_
      refine w_const (n := 5) (npc := 68) rfl ?_
      refine w_icmp (c := .ge) (npc := 71) (pt := 94) rfl (fun hc85 => ?_) (fun hc85 => ?_)
      · replace hc85 : (5 : Int) ≤ v := hc85
        refine w_aload (i := 0) (npc := 95) (v := cr 19) rfl rfl rfl ?_
        refine w_const (n := 1) (npc := 96) rfl ?_
        refine w_const (n := 65535) (npc := 98) rfl ?_
        refine w_virt (ci := 0) (i := 19) (npc := 101) (a := [cr 19, ai_i 1, ai_i 65535]) (rest := []) rfl rfl (hI65.pl (by decide)) (hI65.T (by decide) rfl) rfl rfl rfl rfl (ct_ck_takePair (sl := sl) (x := x) (d := d + 3) (1) (65535) hI65 hcb65) (Or.inl rfl) (fun k9 v9 T87 E87 nx87 kc87 ks87 hq86 hk87 hv87 => ?_)
        obtain ⟨rfl, rfl, rfl, hI89, hG90, hz88⟩ := hq86
        obtain rfl : kc = kc87 := by omega
        obtain rfl : ks = ks87 := by omega
        have hF92 := cm_fr.trans hF65 hG90 (by intro i k h; (try simp only at h); (try simp only); omega)
        have hz93 : E87 19 2 = cr 5 := (hG90 19 2 (by first | omega | (simp; done) | (simp; omega) | (simp only; omega))).trans hcb65
        have hz94 : E87 19 3 = ai_i z84 := (hG90 19 3 (by first | omega | (simp; done) | (simp; omega) | (simp only; omega))).trans hz84
        have ghz94 := gv_eq hz94
        refine Or.inl ⟨rfl, ?_⟩
        refine w_aload (i := 0) (npc := 102) (v := cr 19) rfl rfl rfl ?_
        refine w_iload (i := 4) (npc := 104) rfl rfl ?_
        refine w_iload (i := 6) (npc := 106) rfl rfl ?_
        obtain ⟨z95, hz95, hz95a, hz95b⟩ := hI89.int 19 4 (lo := 0) (hi := 400) (by decide) (by decide) rfl
        have ghz95 := gv_eq hz95
        obtain ⟨z96, hz96, hz96a, hz96b⟩ := hI89.int 19 6 (lo := 0) (hi := 3) (by decide) (by decide) rfl
        have ghz96 := gv_eq hz96
        refine w_virt (ci := 0) (i := 19) (npc := 109) (a := [cr 19, ai_i z49, ai_i z74]) (rest := []) rfl rfl (hI89.pl (by decide)) (hI89.T (by decide) rfl) rfl rfl rfl rfl (ct_ck_takeBody (sl := sl) (x := x) (d := d + 0) (z49) (z74) hI89 hz93 (by omega)) (Or.inl rfl) (fun k9 v9 T98 E98 nx98 kc98 ks98 hq97 hk98 hv98 => ?_)
        obtain ⟨rfl, rfl, rfl, hI100, hG101, hz99⟩ := hq97
        obtain rfl : kc = kc98 := by omega
        obtain rfl : ks = ks98 := by omega
        have hF103 := cm_fr.trans hF92 hG101 (by intro i k h; (try simp only at h); (try simp only); omega)
        have hz104 : E98 19 2 = cr 5 := (hG101 19 2 (by first | omega | (simp; done) | (simp; omega) | (simp only; omega))).trans hz93
        have hz105 : E98 19 3 = ai_i z84 := (hG101 19 3 (by first | omega | (simp; done) | (simp; omega) | (simp only; omega))).trans hz94
        have ghz105 := gv_eq hz105
        refine Or.inl ⟨rfl, ?_⟩
        refine w_aload (i := 0) (npc := 110) (v := cr 19) rfl rfl rfl ?_
        obtain ⟨z106, hz106, hz106a, hz106b⟩ := hI100.int 19 4 (lo := 0) (hi := 400) (by decide) (by decide) rfl
        have ghz106 := gv_eq hz106
        obtain ⟨z107, hz107, hz107a, hz107b⟩ := hI100.int 19 6 (lo := 0) (hi := 3) (by decide) (by decide) rfl
        have ghz107 := gv_eq hz107
        refine w_virt (ci := 0) (i := 19) (npc := 113) (a := [cr 19]) (rest := []) rfl rfl (hI100.pl (by decide)) (hI100.T (by decide) rfl) rfl rfl rfl rfl (ct_ck_takeSum (sl := sl) (x := x) (d := d + 3)  hI100 hz104) (Or.inl rfl) (fun k9 v9 T109 E109 nx109 kc109 ks109 hq108 hk109 hv109 => ?_)
        obtain ⟨rfl, rfl, rfl, hI111, hG112, hz110⟩ := hq108
        obtain rfl : kc = kc109 := by omega
        obtain rfl : ks = ks109 := by omega
        have hF114 := cm_fr.trans hF103 hG112 (by intro i k h; (try simp only at h); (try simp only); omega)
        have hz115 : E109 19 2 = cr 5 := (hG112 19 2 (by first | omega | (simp; done) | (simp; omega) | (simp only; omega))).trans hz104
        have hz116 : E109 19 3 = ai_i z84 := (hG112 19 3 (by first | omega | (simp; done) | (simp; omega) | (simp only; omega))).trans hz105
        have ghz116 := gv_eq hz116
        refine Or.inl ⟨rfl, ?_⟩
        refine w_aload (i := 0) (npc := 114) (v := cr 19) rfl rfl rfl ?_
        obtain ⟨z117, hz117, hz117a, hz117b⟩ := hI111.int 19 4 (lo := 0) (hi := 400) (by decide) (by decide) rfl
        have ghz117 := gv_eq hz117
        refine w_getf (i := 19) (ci := 0) (k := 4) (npc := 117) rfl (hI111.pl (by decide)) (hI111.T (by decide) rfl) (by decide) hz117 ?_
        refine w_aload (i := 0) (npc := 118) (v := cr 19) rfl rfl rfl ?_
        refine w_getf (i := 19) (ci := 0) (k := 3) (npc := 121) rfl (hI111.pl (by decide)) (hI111.T (by decide) rfl) (by decide) hz116 ?_
        refine w_icmp (c := .ge) (npc := 124) (pt := 133) rfl (fun hc118 => ?_) (fun hc118 => ?_)
        · replace hc118 : z84 ≤ z117 := hc118
          refine w_aload (i := 0) (npc := 134) (v := cr 19) rfl rfl rfl ?_
          obtain ⟨z119, hz119, hz119a, hz119b⟩ := hI111.int 19 6 (lo := 0) (hi := 3) (by decide) (by decide) rfl
          have ghz119 := gv_eq hz119
          refine w_getf (i := 19) (ci := 0) (k := 6) (npc := 137) rfl (hI111.pl (by decide)) (hI111.T (by decide) rfl) (by decide) hz119 ?_
          exact w_iret rfl (⟨rfl, rfl, rfl, hI111, hF114, z119, rfl, by omega⟩) (by omega) (by omega)
        · replace hc118 : ¬ (z84 ≤ z117) := hc118
          refine w_aload (i := 0) (npc := 125) (v := cr 19) rfl rfl rfl ?_
          refine w_const (n := 1) (npc := 126) rfl ?_
          refine w_aload (i := 0) (npc := 127) (v := cr 19) rfl rfl rfl ?_
          refine w_getf (i := 19) (ci := 0) (k := 4) (npc := 130) rfl (hI111.pl (by decide)) (hI111.T (by decide) rfl) (by decide) hz117 ?_
          obtain ⟨z120, hz120, hz120a, hz120b⟩ := hI111.int 19 6 (lo := 0) (hi := 3) (by decide) (by decide) rfl
          have ghz120 := gv_eq hz120
          refine w_virt (ci := 0) (i := 19) (npc := 133) (a := [cr 19, ai_i 1, ai_i z117]) (rest := []) rfl rfl (hI111.pl (by decide)) (hI111.T (by decide) rfl) rfl rfl rfl rfl (ct_ck_fail (sl := sl) (x := x) (d := d + 5) (1) (z117) hI111 (by omega) (by omega)) (Or.inl rfl) (fun k9 v9 T122 E122 nx122 kc122 ks122 hq121 hk122 hv122 => ?_)
          obtain ⟨rfl, rfl, rfl, hI124, hG125, hz123⟩ := hq121
          obtain rfl : kc = kc122 := by omega
          obtain rfl : ks = ks122 := by omega
          have hF127 := cm_fr.trans hF114 hG125 (by intro i k h; (try simp only at h); (try simp only); omega)
          have hz128 : E122 19 2 = cr 5 := (hG125 19 2 (by first | omega | (simp; done) | (simp; omega) | (simp only; omega))).trans hz115
          have hz129 : E122 19 3 = ai_i z84 := (hG125 19 3 (by first | omega | (simp; done) | (simp; omega) | (simp only; omega))).trans hz116
          have ghz129 := gv_eq hz129
          have hz130 : E122 19 4 = ai_i z117 := (hG125 19 4 (by first | omega | (simp; done) | (simp; omega) | (simp only; omega))).trans hz117
          have ghz130 := gv_eq hz130
          refine Or.inl ⟨rfl, ?_⟩
          refine w_aload (i := 0) (npc := 134) (v := cr 19) rfl rfl rfl ?_
          obtain ⟨z131, hz131, hz131a, hz131b⟩ := hI124.int 19 6 (lo := 0) (hi := 3) (by decide) (by decide) rfl
          have ghz131 := gv_eq hz131
          refine w_getf (i := 19) (ci := 0) (k := 6) (npc := 137) rfl (hI124.pl (by decide)) (hI124.T (by decide) rfl) (by decide) hz131 ?_
          exact w_iret rfl (⟨rfl, rfl, rfl, hI124, hF127, z131, rfl, by omega⟩) (by omega) (by omega)
      · replace hc85 : ¬ ((5 : Int) ≤ v) := hc85
        refine w_aload (i := 0) (npc := 72) (v := cr 19) rfl rfl rfl ?_
        refine w_getf (i := 19) (ci := 0) (k := 0) (npc := 75) rfl (hI65.pl (by decide)) (hI65.T (by decide) rfl) (by decide) (hI65.ref 19 0 (p := 20) (by decide) (by decide) rfl) ?_
        refine w_iload (i := 7) (npc := 77) rfl rfl ?_
        refine w_aload (i := 0) (npc := 78) (v := cr 19) rfl rfl rfl ?_
        refine w_iload (i := 7) (npc := 80) rfl rfl ?_
        refine w_iload (i := 5) (npc := 82) rfl rfl ?_
        refine w_iload (i := 6) (npc := 84) rfl rfl ?_
        refine w_virt (ci := 0) (i := 19) (npc := 87) (a := [cr 19, ai_i v, ai_i z62, ai_i z74]) (rest := [ai_i v, cr 20]) rfl rfl (hI65.pl (by decide)) (hI65.T (by decide) rfl) rfl rfl rfl rfl (ct_ck_takeSeen (sl := sl) (x := x) (d := d + 2) (v) (z62) (z74) hI65 hcb65 (by omega)) (Or.inl rfl) (fun k9 v9 T133 E133 nx133 kc133 ks133 hq132 hk133 hv133 => ?_)
        obtain ⟨rfl, rfl, rfl, hI135, hG136, z134, rfl, hz134⟩ := hq132
        obtain rfl : kc = kc133 := by omega
        obtain rfl : ks = ks133 := by omega
        have hF138 := cm_fr.trans hF65 hG136 (by intro i k h; (try simp only at h); (try simp only); omega)
        have hz139 : E133 19 2 = cr 5 := (hG136 19 2 (by first | omega | (simp; done) | (simp; omega) | (simp only; omega))).trans hcb65
        have hz140 : E133 19 3 = ai_i z84 := (hG136 19 3 (by first | omega | (simp; done) | (simp; omega) | (simp only; omega))).trans hz84
        have ghz140 := gv_eq hz140
        refine Or.inr (Or.inl ⟨rfl, ?_⟩)
        obtain ⟨z141, hz141, hz141a, hz141b⟩ := hI135.int 19 4 (lo := 0) (hi := 400) (by decide) (by decide) rfl
        have ghz141 := gv_eq hz141
        obtain ⟨z142, hz142, hz142a, hz142b⟩ := hI135.int 19 6 (lo := 0) (hi := 3) (by decide) (by decide) rfl
        have ghz142 := gv_eq hz142
        refine w_ast (i := 20) (k := 1) (n := 5) (npc := 88) rfl (hI135.pl (by decide)) (hI135.T (by decide) rfl) (by decide) (by omega) cm_af1 ?_
        have hI144 := hI135.puti (i := 20) (k := (v : Int).toNat) (z := z134) (lo := 0) (hi := 255) (by decide) rfl (by omega)
        have hF146 := cm_fr.up (i := 20) (k := (v : Int).toNat) (v := ai_i z134) hF138 (by first | omega | (simp; done) | (simp; omega) | (simp only; omega))
        generalize hE145 : cm_up E133 20 ((v : Int).toNat) (ai_i z134) = E143 at hI144 hF146 ⊢
        have hz147 : E143 19 2 = cr 5 := by rw [← hE145, cm_up_nei _ _ (by decide)]; exact hz139
        have hz148 : E143 19 3 = ai_i z84 := by rw [← hE145, cm_up_nei _ _ (by decide)]; exact hz140
        have ghz148 := gv_eq hz148
        have hz149 : E143 19 4 = ai_i z141 := by rw [← hE145, cm_up_nei _ _ (by decide)]; exact hz141
        have ghz149 := gv_eq hz149
        have hz150 : E143 19 6 = ai_i z142 := by rw [← hE145, cm_up_nei _ _ (by decide)]; exact hz142
        have ghz150 := gv_eq hz150
        have hz151 : E143 20 ((v : Int).toNat) = ai_i z134 := by rw [← hE145, cm_up_eq]
        have ghz151 := gv_eq hz151
        refine w_iinc (i := 7) (n := 1) (npc := 91) (loc' := [cr 19, cr 5, ai_i n, ai_i w, ai_i z49, ai_i z62, ai_i z74, ai_i (v + 1)]) rfl rfl (by omega) rfl ?_
        refine w_goto (pt := 65) rfl ?_
        exact ih65 (v + 1) E143 (by omega) hI144 hF146 hz147 (by omega)
  exact loop65 _ (0) E73 (Nat.lt_succ_self _) hI75 hF78 hz79 (by omega)
