set_option maxRecDepth 16384 in
theorem ct_ty_empty {sl : Int × Int} {x : ai_E} {d : Nat} {T : cm_T} {E : cm_E} {nx : Nat}  (hI : cs_I T E nx) : cm_ct (ai_ev sl (d + 1)) x 97 [cr 23] T E nx 0 0 (fun rk rv T' E' nx' => rk = 0 ∧ T = T' ∧ nx = nx' ∧ cs_I T E' nx ∧ cm_fr (fun i k => i = 23 ∧ (k = 8 ∨ k = 9 ∨ k = 12)) E E' ∧ (gv E' 23 8 = 0 ∧ gv E' 23 9 = 0)) := by
  refine cm_body (M := ai_m97) rfl rfl (fun kc ks => ?_)
  show cm_wp (ai_find ai_c97 sl) (ai_ev sl (d + 0)) x (kc + 0) (ks + 0) _ 0 [cr 23] [] T E nx kc ks
  have hF : cm_fr (fun i k => i = 23 ∧ (k = 8 ∨ k = 9 ∨ k = 12)) E E := fun _ _ _ => rfl
  refine w_aload (i := 0) (npc := 1) (v := cr 23) rfl rfl rfl ?_
  refine w_const (n := 0) (npc := 2) rfl ?_
  refine w_putf (i := 23) (ci := 5) (k := 8) (t := 0) (npc := 5) rfl (hI.pl (by decide)) (hI.T (by decide) rfl) (by decide) cm_fit0 ?_
  have hI2 := hI.puti (i := 23) (k := 8) (z := 0) (lo := 0) (hi := 12) (by decide) rfl (by omega)
  have hF4 := cm_fr.up (i := 23) (k := 8) (v := ai_i 0) hF (by first | omega | (simp; done) | (simp; omega) | (simp only; omega))
  generalize hE3 : cm_up E 23 8 (ai_i 0) = E1 at hI2 hF4 ⊢
  have hz5 : E1 23 8 = ai_i 0 := by rw [← hE3, cm_up_eq]
  have ghz5 := gv_eq hz5
  refine w_aload (i := 0) (npc := 6) (v := cr 23) rfl rfl rfl ?_
  refine w_const (n := 0) (npc := 7) rfl ?_
  refine w_putf (i := 23) (ci := 5) (k := 9) (t := 0) (npc := 10) rfl (hI2.pl (by decide)) (hI2.T (by decide) rfl) (by decide) cm_fit0 ?_
  have hI7 := hI2.puti (i := 23) (k := 9) (z := 0) (lo := 0) (hi := 8) (by decide) rfl (by omega)
  have hF9 := cm_fr.up (i := 23) (k := 9) (v := ai_i 0) hF4 (by first | omega | (simp; done) | (simp; omega) | (simp only; omega))
  generalize hE8 : cm_up E1 23 9 (ai_i 0) = E6 at hI7 hF9 ⊢
  have hz10 : E6 23 8 = ai_i 0 := by rw [← hE8, cm_up_ne _ _ (by decide)]; exact hz5
  have ghz10 := gv_eq hz10
  have hz11 : E6 23 9 = ai_i 0 := by rw [← hE8, cm_up_eq]
  have ghz11 := gv_eq hz11
  refine w_aload (i := 0) (npc := 11) (v := cr 23) rfl rfl rfl ?_
  refine w_const (n := 0) (npc := 12) rfl ?_
  refine w_putf (i := 23) (ci := 5) (k := 12) (t := 1) (npc := 15) rfl (hI7.pl (by decide)) (hI7.T (by decide) rfl) (by decide) (cm_fit1 (by omega)) ?_
  have hI13 := hI7.puti (i := 23) (k := 12) (z := 0) (lo := 0) (hi := 1) (by decide) rfl (by omega)
  have hF15 := cm_fr.up (i := 23) (k := 12) (v := ai_i 0) hF9 (by first | omega | (simp; done) | (simp; omega) | (simp only; omega))
  generalize hE14 : cm_up E6 23 12 (ai_i 0) = E12 at hI13 hF15 ⊢
  have hz16 : E12 23 8 = ai_i 0 := by rw [← hE14, cm_up_ne _ _ (by decide)]; exact hz10
  have ghz16 := gv_eq hz16
  have hz17 : E12 23 9 = ai_i 0 := by rw [← hE14, cm_up_ne _ _ (by decide)]; exact hz11
  have ghz17 := gv_eq hz17
  have hz18 : E12 23 12 = ai_i 0 := by rw [← hE14, cm_up_eq]
  have ghz18 := gv_eq hz18
  exact w_vret rfl (⟨rfl, rfl, rfl, hI13, hF15, by omega⟩) (by omega) (by omega)
set_option maxRecDepth 16384 in
theorem ct_ty_addSign {sl : Int × Int} {x : ai_E} {d : Nat} {T : cm_T} {E : cm_E} {nx : Nat} (g : Int)  (hI : cs_I T E nx) (hp0 : 0 ≤ g ∧ g ≤ 126) : cm_ct (ai_ev sl (d + 1)) x 96 [cr 23, ai_i g] T E nx 0 0 (fun rk rv T' E' nx' => rk = 1 ∧ T = T' ∧ nx = nx' ∧ cs_I T E' nx ∧ cm_fr (fun i k => (i = 23 ∧ (k = 8 ∨ k = 12)) ∨ i = 24) E E' ∧ ∃ z : Int, rv = ai_i z ∧ ((z = 1 ∧ gv E 23 8 ≤ 11 ∧ gv E' 23 8 = gv E 23 8 + 1) ∨ (z = 0 ∧ gv E 23 8 = 12 ∧ gv E' 23 8 = gv E 23 8))) := by
  refine cm_body (M := ai_m96) rfl rfl (fun kc ks => ?_)
  show cm_wp (ai_find ai_c96 sl) (ai_ev sl (d + 0)) x (kc + 0) (ks + 0) _ 0 [cr 23, ai_i g] [] T E nx kc ks
  have hF : cm_fr (fun i k => (i = 23 ∧ (k = 8 ∨ k = 12)) ∨ i = 24) E E := fun _ _ _ => rfl
  refine w_aload (i := 0) (npc := 1) (v := cr 23) rfl rfl rfl ?_
  obtain ⟨z1, hz1, hz1a, hz1b⟩ := hI.int 23 8 (lo := 0) (hi := 12) (by decide) (by decide) rfl
  have ghz1 := gv_eq hz1
  refine w_getf (i := 23) (ci := 5) (k := 8) (npc := 4) rfl (hI.pl (by decide)) (hI.T (by decide) rfl) (by decide) hz1 ?_
  refine w_const (n := 12) (npc := 6) rfl ?_
  refine w_icmp (c := .lt) (npc := 9) (pt := 11) rfl (fun hc2 => ?_) (fun hc2 => ?_)
  · replace hc2 : z1 < (12 : Int) := hc2
    refine w_aload (i := 0) (npc := 12) (v := cr 23) rfl rfl rfl ?_
    refine w_getf (i := 23) (ci := 5) (k := 0) (npc := 15) rfl (hI.pl (by decide)) (hI.T (by decide) rfl) (by decide) (hI.ref 23 0 (p := 24) (by decide) (by decide) rfl) ?_
    refine w_aload (i := 0) (npc := 16) (v := cr 23) rfl rfl rfl ?_
    refine w_getf (i := 23) (ci := 5) (k := 8) (npc := 19) rfl (hI.pl (by decide)) (hI.T (by decide) rfl) (by decide) hz1 ?_
    refine w_iload (i := 1) (npc := 20) rfl rfl ?_
    refine w_ast (i := 24) (k := 1) (n := 12) (npc := 21) rfl (hI.pl (by decide)) (hI.T (by decide) rfl) (by decide) (by omega) cm_af1 ?_
    have hI4 := hI.puti (i := 24) (k := (z1 : Int).toNat) (z := g) (lo := 0) (hi := 126) (by decide) rfl (by omega)
    have hF6 := cm_fr.up (i := 24) (k := (z1 : Int).toNat) (v := ai_i g) hF (by first | omega | (simp; done) | (simp; omega) | (simp only; omega))
    generalize hE5 : cm_up E 24 ((z1 : Int).toNat) (ai_i g) = E3 at hI4 hF6 ⊢
    have hz7 : E3 23 8 = ai_i z1 := by rw [← hE5, cm_up_nei _ _ (by decide)]; exact hz1
    have ghz7 := gv_eq hz7
    have hz8 : E3 24 ((z1 : Int).toNat) = ai_i g := by rw [← hE5, cm_up_eq]
    have ghz8 := gv_eq hz8
    refine w_aload (i := 0) (npc := 22) (v := cr 23) rfl rfl rfl ?_
    refine w_dup (npc := 23) rfl rfl ?_
    refine w_getf (i := 23) (ci := 5) (k := 8) (npc := 26) rfl (hI4.pl (by decide)) (hI4.T (by decide) rfl) (by decide) hz7 ?_
    refine w_const (n := 1) (npc := 27) rfl ?_
    refine w_iadd (npc := 28) rfl (by omega) ?_
    refine w_putf (i := 23) (ci := 5) (k := 8) (t := 0) (npc := 31) rfl (hI4.pl (by decide)) (hI4.T (by decide) rfl) (by decide) cm_fit0 ?_
    have hI11 := hI4.puti (i := 23) (k := 8) (z := z1 + 1) (lo := 0) (hi := 12) (by decide) rfl (by omega)
    have hF13 := cm_fr.up (i := 23) (k := 8) (v := ai_i (z1 + 1)) hF6 (by first | omega | (simp; done) | (simp; omega) | (simp only; omega))
    generalize hE12 : cm_up E3 23 8 (ai_i (z1 + 1)) = E10 at hI11 hF13 ⊢
    have hz14 : E10 24 ((z1 : Int).toNat) = ai_i g := by rw [← hE12, cm_up_nei _ _ (by decide)]; exact hz8
    have ghz14 := gv_eq hz14
    have hz15 : E10 23 8 = ai_i (z1 + 1) := by rw [← hE12, cm_up_eq]
    have ghz15 := gv_eq hz15
    refine w_aload (i := 0) (npc := 32) (v := cr 23) rfl rfl rfl ?_
    refine w_const (n := 0) (npc := 33) rfl ?_
    refine w_putf (i := 23) (ci := 5) (k := 12) (t := 1) (npc := 36) rfl (hI11.pl (by decide)) (hI11.T (by decide) rfl) (by decide) (cm_fit1 (by omega)) ?_
    have hI17 := hI11.puti (i := 23) (k := 12) (z := 0) (lo := 0) (hi := 1) (by decide) rfl (by omega)
    have hF19 := cm_fr.up (i := 23) (k := 12) (v := ai_i 0) hF13 (by first | omega | (simp; done) | (simp; omega) | (simp only; omega))
    generalize hE18 : cm_up E10 23 12 (ai_i 0) = E16 at hI17 hF19 ⊢
    have hz20 : E16 24 ((z1 : Int).toNat) = ai_i g := by rw [← hE18, cm_up_nei _ _ (by decide)]; exact hz14
    have ghz20 := gv_eq hz20
    have hz21 : E16 23 8 = ai_i (z1 + 1) := by rw [← hE18, cm_up_ne _ _ (by decide)]; exact hz15
    have ghz21 := gv_eq hz21
    have hz22 : E16 23 12 = ai_i 0 := by rw [← hE18, cm_up_eq]
    have ghz22 := gv_eq hz22
    refine w_const (n := 1) (npc := 37) rfl ?_
    exact w_zret rfl (by omega) (⟨rfl, rfl, rfl, hI17, hF19, 1, rfl, by omega⟩) (by omega) (by omega)
  · replace hc2 : ¬ (z1 < (12 : Int)) := hc2
    refine w_const (n := 0) (npc := 10) rfl ?_
    exact w_zret rfl (by omega) (⟨rfl, rfl, rfl, hI, hF, 0, rfl, by omega⟩) (by omega) (by omega)
set_option maxRecDepth 16384 in
theorem ct_ty_addAct {sl : Int × Int} {x : ai_E} {d : Nat} {T : cm_T} {E : cm_E} {nx : Nat} (p l g : Int)  (hI : cs_I T E nx) (hp0 : 0 ≤ p ∧ p ≤ 2) (hp1 : 0 ≤ l ∧ l ≤ 7) (hp2 : -1 ≤ g ∧ g ≤ 126) : cm_ct (ai_ev sl (d + 1)) x 95 [cr 23, ai_i p, ai_i l, ai_i g] T E nx 0 0 (fun rk rv T' E' nx' => rk = 1 ∧ T = T' ∧ nx = nx' ∧ cs_I T E' nx ∧ cm_fr (fun i k => (i = 23 ∧ (k = 9 ∨ k = 12)) ∨ i = 25 ∨ i = 26 ∨ i = 27) E E' ∧ ∃ z : Int, rv = ai_i z ∧ ((z = 1 ∧ gv E 23 9 ≤ 7 ∧ gv E' 23 9 = gv E 23 9 + 1) ∨ (z = 0 ∧ gv E 23 9 = 8 ∧ gv E' 23 9 = gv E 23 9))) := by
  refine cm_body (M := ai_m95) rfl rfl (fun kc ks => ?_)
  show cm_wp (ai_find ai_c95 sl) (ai_ev sl (d + 0)) x (kc + 0) (ks + 0) _ 0 [cr 23, ai_i p, ai_i l, ai_i g] [] T E nx kc ks
  have hF : cm_fr (fun i k => (i = 23 ∧ (k = 9 ∨ k = 12)) ∨ i = 25 ∨ i = 26 ∨ i = 27) E E := fun _ _ _ => rfl
  refine w_aload (i := 0) (npc := 1) (v := cr 23) rfl rfl rfl ?_
  obtain ⟨z1, hz1, hz1a, hz1b⟩ := hI.int 23 9 (lo := 0) (hi := 8) (by decide) (by decide) rfl
  have ghz1 := gv_eq hz1
  refine w_getf (i := 23) (ci := 5) (k := 9) (npc := 4) rfl (hI.pl (by decide)) (hI.T (by decide) rfl) (by decide) hz1 ?_
  refine w_const (n := 8) (npc := 6) rfl ?_
  refine w_icmp (c := .lt) (npc := 9) (pt := 11) rfl (fun hc2 => ?_) (fun hc2 => ?_)
  · replace hc2 : z1 < (8 : Int) := hc2
    refine w_aload (i := 0) (npc := 12) (v := cr 23) rfl rfl rfl ?_
    refine w_getf (i := 23) (ci := 5) (k := 1) (npc := 15) rfl (hI.pl (by decide)) (hI.T (by decide) rfl) (by decide) (hI.ref 23 1 (p := 25) (by decide) (by decide) rfl) ?_
    refine w_aload (i := 0) (npc := 16) (v := cr 23) rfl rfl rfl ?_
    refine w_getf (i := 23) (ci := 5) (k := 9) (npc := 19) rfl (hI.pl (by decide)) (hI.T (by decide) rfl) (by decide) hz1 ?_
    refine w_iload (i := 1) (npc := 20) rfl rfl ?_
    refine w_ast (i := 25) (k := 1) (n := 8) (npc := 21) rfl (hI.pl (by decide)) (hI.T (by decide) rfl) (by decide) (by omega) cm_af1 ?_
    have hI4 := hI.puti (i := 25) (k := (z1 : Int).toNat) (z := p) (lo := 0) (hi := 2) (by decide) rfl (by omega)
    have hF6 := cm_fr.up (i := 25) (k := (z1 : Int).toNat) (v := ai_i p) hF (by first | omega | (simp; done) | (simp; omega) | (simp only; omega))
    generalize hE5 : cm_up E 25 ((z1 : Int).toNat) (ai_i p) = E3 at hI4 hF6 ⊢
    have hz7 : E3 23 9 = ai_i z1 := by rw [← hE5, cm_up_nei _ _ (by decide)]; exact hz1
    have ghz7 := gv_eq hz7
    have hz8 : E3 25 ((z1 : Int).toNat) = ai_i p := by rw [← hE5, cm_up_eq]
    have ghz8 := gv_eq hz8
    refine w_aload (i := 0) (npc := 22) (v := cr 23) rfl rfl rfl ?_
    refine w_getf (i := 23) (ci := 5) (k := 2) (npc := 25) rfl (hI4.pl (by decide)) (hI4.T (by decide) rfl) (by decide) (hI4.ref 23 2 (p := 26) (by decide) (by decide) rfl) ?_
    refine w_aload (i := 0) (npc := 26) (v := cr 23) rfl rfl rfl ?_
    refine w_getf (i := 23) (ci := 5) (k := 9) (npc := 29) rfl (hI4.pl (by decide)) (hI4.T (by decide) rfl) (by decide) hz7 ?_
    refine w_iload (i := 2) (npc := 30) rfl rfl ?_
    refine w_ast (i := 26) (k := 1) (n := 8) (npc := 31) rfl (hI4.pl (by decide)) (hI4.T (by decide) rfl) (by decide) (by omega) cm_af1 ?_
    have hI10 := hI4.puti (i := 26) (k := (z1 : Int).toNat) (z := l) (lo := 0) (hi := 7) (by decide) rfl (by omega)
    have hF12 := cm_fr.up (i := 26) (k := (z1 : Int).toNat) (v := ai_i l) hF6 (by first | omega | (simp; done) | (simp; omega) | (simp only; omega))
    generalize hE11 : cm_up E3 26 ((z1 : Int).toNat) (ai_i l) = E9 at hI10 hF12 ⊢
    have hz13 : E9 23 9 = ai_i z1 := by rw [← hE11, cm_up_nei _ _ (by decide)]; exact hz7
    have ghz13 := gv_eq hz13
    have hz14 : E9 25 ((z1 : Int).toNat) = ai_i p := by rw [← hE11, cm_up_nei _ _ (by decide)]; exact hz8
    have ghz14 := gv_eq hz14
    have hz15 : E9 26 ((z1 : Int).toNat) = ai_i l := by rw [← hE11, cm_up_eq]
    have ghz15 := gv_eq hz15
    refine w_aload (i := 0) (npc := 32) (v := cr 23) rfl rfl rfl ?_
    refine w_getf (i := 23) (ci := 5) (k := 3) (npc := 35) rfl (hI10.pl (by decide)) (hI10.T (by decide) rfl) (by decide) (hI10.ref 23 3 (p := 27) (by decide) (by decide) rfl) ?_
    refine w_aload (i := 0) (npc := 36) (v := cr 23) rfl rfl rfl ?_
    refine w_getf (i := 23) (ci := 5) (k := 9) (npc := 39) rfl (hI10.pl (by decide)) (hI10.T (by decide) rfl) (by decide) hz13 ?_
    refine w_iload (i := 3) (npc := 40) rfl rfl ?_
    refine w_ast (i := 27) (k := 1) (n := 8) (npc := 41) rfl (hI10.pl (by decide)) (hI10.T (by decide) rfl) (by decide) (by omega) cm_af1 ?_
    have hI17 := hI10.puti (i := 27) (k := (z1 : Int).toNat) (z := g) (lo := (-1)) (hi := 126) (by decide) rfl (by omega)
    have hF19 := cm_fr.up (i := 27) (k := (z1 : Int).toNat) (v := ai_i g) hF12 (by first | omega | (simp; done) | (simp; omega) | (simp only; omega))
    generalize hE18 : cm_up E9 27 ((z1 : Int).toNat) (ai_i g) = E16 at hI17 hF19 ⊢
    have hz20 : E16 23 9 = ai_i z1 := by rw [← hE18, cm_up_nei _ _ (by decide)]; exact hz13
    have ghz20 := gv_eq hz20
    have hz21 : E16 25 ((z1 : Int).toNat) = ai_i p := by rw [← hE18, cm_up_nei _ _ (by decide)]; exact hz14
    have ghz21 := gv_eq hz21
    have hz22 : E16 26 ((z1 : Int).toNat) = ai_i l := by rw [← hE18, cm_up_nei _ _ (by decide)]; exact hz15
    have ghz22 := gv_eq hz22
    have hz23 : E16 27 ((z1 : Int).toNat) = ai_i g := by rw [← hE18, cm_up_eq]
    have ghz23 := gv_eq hz23
    refine w_aload (i := 0) (npc := 42) (v := cr 23) rfl rfl rfl ?_
    refine w_dup (npc := 43) rfl rfl ?_
    refine w_getf (i := 23) (ci := 5) (k := 9) (npc := 46) rfl (hI17.pl (by decide)) (hI17.T (by decide) rfl) (by decide) hz20 ?_
    refine w_const (n := 1) (npc := 47) rfl ?_
    refine w_iadd (npc := 48) rfl (by omega) ?_
    refine w_putf (i := 23) (ci := 5) (k := 9) (t := 0) (npc := 51) rfl (hI17.pl (by decide)) (hI17.T (by decide) rfl) (by decide) cm_fit0 ?_
    have hI26 := hI17.puti (i := 23) (k := 9) (z := z1 + 1) (lo := 0) (hi := 8) (by decide) rfl (by omega)
    have hF28 := cm_fr.up (i := 23) (k := 9) (v := ai_i (z1 + 1)) hF19 (by first | omega | (simp; done) | (simp; omega) | (simp only; omega))
    generalize hE27 : cm_up E16 23 9 (ai_i (z1 + 1)) = E25 at hI26 hF28 ⊢
    have hz29 : E25 25 ((z1 : Int).toNat) = ai_i p := by rw [← hE27, cm_up_nei _ _ (by decide)]; exact hz21
    have ghz29 := gv_eq hz29
    have hz30 : E25 26 ((z1 : Int).toNat) = ai_i l := by rw [← hE27, cm_up_nei _ _ (by decide)]; exact hz22
    have ghz30 := gv_eq hz30
    have hz31 : E25 27 ((z1 : Int).toNat) = ai_i g := by rw [← hE27, cm_up_nei _ _ (by decide)]; exact hz23
    have ghz31 := gv_eq hz31
    have hz32 : E25 23 9 = ai_i (z1 + 1) := by rw [← hE27, cm_up_eq]
    have ghz32 := gv_eq hz32
    refine w_aload (i := 0) (npc := 52) (v := cr 23) rfl rfl rfl ?_
    refine w_const (n := 0) (npc := 53) rfl ?_
    refine w_putf (i := 23) (ci := 5) (k := 12) (t := 1) (npc := 56) rfl (hI26.pl (by decide)) (hI26.T (by decide) rfl) (by decide) (cm_fit1 (by omega)) ?_
    have hI34 := hI26.puti (i := 23) (k := 12) (z := 0) (lo := 0) (hi := 1) (by decide) rfl (by omega)
    have hF36 := cm_fr.up (i := 23) (k := 12) (v := ai_i 0) hF28 (by first | omega | (simp; done) | (simp; omega) | (simp only; omega))
    generalize hE35 : cm_up E25 23 12 (ai_i 0) = E33 at hI34 hF36 ⊢
    have hz37 : E33 25 ((z1 : Int).toNat) = ai_i p := by rw [← hE35, cm_up_nei _ _ (by decide)]; exact hz29
    have ghz37 := gv_eq hz37
    have hz38 : E33 26 ((z1 : Int).toNat) = ai_i l := by rw [← hE35, cm_up_nei _ _ (by decide)]; exact hz30
    have ghz38 := gv_eq hz38
    have hz39 : E33 27 ((z1 : Int).toNat) = ai_i g := by rw [← hE35, cm_up_nei _ _ (by decide)]; exact hz31
    have ghz39 := gv_eq hz39
    have hz40 : E33 23 9 = ai_i (z1 + 1) := by rw [← hE35, cm_up_ne _ _ (by decide)]; exact hz32
    have ghz40 := gv_eq hz40
    have hz41 : E33 23 12 = ai_i 0 := by rw [← hE35, cm_up_eq]
    have ghz41 := gv_eq hz41
    refine w_const (n := 1) (npc := 57) rfl ?_
    exact w_zret rfl (by omega) (⟨rfl, rfl, rfl, hI34, hF36, 1, rfl, by omega⟩) (by omega) (by omega)
  · replace hc2 : ¬ (z1 < (8 : Int)) := hc2
    refine w_const (n := 0) (npc := 10) rfl ?_
    exact w_zret rfl (by omega) (⟨rfl, rfl, rfl, hI, hF, 0, rfl, by omega⟩) (by omega) (by omega)
set_option maxRecDepth 16384 in
theorem ct_ty_nextAct {sl : Int × Int} {x : ai_E} {d : Nat} {T : cm_T} {E : cm_E} {nx : Nat} (p t : Int)  (hI : cs_I T E nx) (hp0 : 0 ≤ t ∧ t ≤ 8) : cm_ct (ai_ev sl (d + 1)) x 99 [cr 23, ai_i p, ai_i t] T E nx 0 0 (fun rk rv T' E' nx' => rk = 1 ∧ T = T' ∧ E = E' ∧ nx = nx' ∧ ∃ z : Int, rv = ai_i z ∧ (-1 ≤ z ∧ z ≤ 7)) := by
  refine cm_body (M := ai_m99) rfl rfl (fun kc ks => ?_)
  show cm_wp (ai_find ai_c99 sl) (ai_ev sl (d + 0)) x (kc + 0) (ks + 0) _ 0 [cr 23, ai_i p, ai_i t, ai_un, ai_un] [] T E nx kc ks
  refine w_const (n := 0) (npc := 1) rfl ?_
  refine w_istore (i := 3) (npc := 2) (loc' := [cr 23, ai_i p, ai_i t, ai_i 0, ai_un]) rfl rfl ?_
  refine w_const (n := 0) (npc := 3) rfl ?_
  refine w_istore (i := 4) (npc := 5) (loc' := [cr 23, ai_i p, ai_i t, ai_i 0, ai_i 0]) rfl rfl ?_
  have loop5 : ∀ (nf : Nat) (c : Int) (i : Int), ((t - i).toNat) < nf → (0 ≤ c ∧ c ≤ i ∧ i ≤ t) → cm_wp (ai_find ai_c99 sl) (ai_ev sl (d + 0)) x (kc + 0) (ks + 0) (fun rk rv T' E' nx' => rk = 1 ∧ T = T' ∧ E = E' ∧ nx = nx' ∧ ∃ z : Int, rv = ai_i z ∧ (-1 ≤ z ∧ z ≤ 7)) 5 [cr 23, ai_i p, ai_i t, ai_i c, ai_i i] [] T E nx kc ks := by
    intro nf
    induction nf with
    | zero => intro c i hm; exact absurd hm (Nat.not_lt_zero _)
    | succ nf5 ih =>
      intro c i hm5 hv5
      have ih5 := ih; clear ih
      refine w_iload (i := 4) (npc := 7) rfl rfl ?_
      refine w_iload (i := 2) (npc := 8) rfl rfl ?_
      refine w_icmp (c := .ge) (npc := 11) (pt := 31) rfl (fun hc1 => ?_) (fun hc1 => ?_)
      · replace hc1 : t ≤ i := hc1
        refine w_const (n := 0) (npc := 32) rfl ?_
        refine w_istore (i := 4) (npc := 34) (loc' := [cr 23, ai_i p, ai_i t, ai_i c, ai_i 0]) rfl rfl ?_
        have loop34 : ∀ (nf : Nat) (e : Int) (a : Int), ((8 - a).toNat) < nf → (0 ≤ e ∧ e ≤ 8 ∧ 0 ≤ a ∧ a ≤ 8) → cm_wp (ai_find ai_c99 sl) (ai_ev sl (d + 0)) x (kc + 0) (ks + 0) (fun rk rv T' E' nx' => rk = 1 ∧ T = T' ∧ E = E' ∧ nx = nx' ∧ ∃ z : Int, rv = ai_i z ∧ (-1 ≤ z ∧ z ≤ 7)) 34 [cr 23, ai_i p, ai_i t, ai_i e, ai_i a] [] T E nx kc ks := by
          intro nf
          induction nf with
          | zero => intro e a hm; exact absurd hm (Nat.not_lt_zero _)
          | succ nf34 ih =>
            intro e a hm34 hv34
            have ih34 := ih; clear ih
            refine w_iload (i := 4) (npc := 36) rfl rfl ?_
            refine w_aload (i := 0) (npc := 37) (v := cr 23) rfl rfl rfl ?_
            obtain ⟨z2, hz2, hz2a, hz2b⟩ := hI.int 23 9 (lo := 0) (hi := 8) (by decide) (by decide) rfl
            have ghz2 := gv_eq hz2
            refine w_getf (i := 23) (ci := 5) (k := 9) (npc := 40) rfl (hI.pl (by decide)) (hI.T (by decide) rfl) (by decide) hz2 ?_
            refine w_icmp (c := .ge) (npc := 43) (pt := 70) rfl (fun hc3 => ?_) (fun hc3 => ?_)
            · replace hc3 : z2 ≤ a := hc3
              refine w_const (n := (-1)) (npc := 71) rfl ?_
              exact w_iret rfl (⟨rfl, rfl, rfl, rfl, (-1), rfl, by omega⟩) (by omega) (by omega)
            · replace hc3 : ¬ (z2 ≤ a) := hc3
              refine w_aload (i := 0) (npc := 44) (v := cr 23) rfl rfl rfl ?_
              refine w_getf (i := 23) (ci := 5) (k := 1) (npc := 47) rfl (hI.pl (by decide)) (hI.T (by decide) rfl) (by decide) (hI.ref 23 1 (p := 25) (by decide) (by decide) rfl) ?_
              refine w_iload (i := 4) (npc := 49) rfl rfl ?_
              obtain ⟨z4, hz4, hz4a, hz4b⟩ := hI.int 25 (a : Int).toNat (lo := 0) (hi := 2) (by decide) (show (a : Int).toNat < 8 by omega) rfl
              have ghz4 := gv_eq hz4
              refine w_ald (i := 25) (t := 1) (n := 8) (npc := 50) rfl (hI.pl (by decide)) (hI.T (by decide) rfl) (by decide) rfl (by omega) hz4 ?_
              refine w_iload (i := 1) (npc := 51) rfl rfl ?_
              refine w_icmp (c := .ne) (npc := 54) (pt := 64) rfl (fun hc5 => ?_) (fun hc5 => ?_)
              · replace hc5 : z4 ≠ p := hc5
                refine w_iinc (i := 4) (n := 1) (npc := 67) (loc' := [cr 23, ai_i p, ai_i t, ai_i e, ai_i (a + 1)]) rfl rfl (by omega) rfl ?_
                refine w_goto (pt := 34) rfl ?_
                exact ih34 (e) (a + 1) (by omega) (by omega)
              · replace hc5 : ¬ (z4 ≠ p) := hc5
                refine w_iload (i := 3) (npc := 55) rfl rfl ?_
                refine w_if (c := .ne) (npc := 58) (pt := 61) rfl (fun hc7 => ?_) (fun hc7 => ?_)
                · replace hc7 : e ≠ (0 : Int) := hc7
                  refine w_iinc (i := 3) (n := (-1)) (npc := 64) (loc' := [cr 23, ai_i p, ai_i t, ai_i (e + (-1)), ai_i a]) rfl rfl (by omega) rfl ?_
                  refine w_iinc (i := 4) (n := 1) (npc := 67) (loc' := [cr 23, ai_i p, ai_i t, ai_i (e + (-1)), ai_i (a + 1)]) rfl rfl (by omega) rfl ?_
                  refine w_goto (pt := 34) rfl ?_
                  exact ih34 (e + (-1)) (a + 1) (by omega) (by omega)
                · replace hc7 : ¬ (e ≠ (0 : Int)) := hc7
                  refine w_iload (i := 4) (npc := 60) rfl rfl ?_
                  exact w_iret rfl (⟨rfl, rfl, rfl, rfl, a, rfl, by omega⟩) (by omega) (by omega)
        exact loop34 _ (c) (0) (Nat.lt_succ_self _) (by omega)
      · replace hc1 : ¬ (t ≤ i) := hc1
        refine w_aload (i := 0) (npc := 12) (v := cr 23) rfl rfl rfl ?_
        refine w_getf (i := 23) (ci := 5) (k := 4) (npc := 15) rfl (hI.pl (by decide)) (hI.T (by decide) rfl) (by decide) (hI.ref 23 4 (p := 28) (by decide) (by decide) rfl) ?_
        refine w_iload (i := 4) (npc := 17) rfl rfl ?_
        obtain ⟨z10, hz10, hz10a, hz10b⟩ := hI.int 28 (i : Int).toNat (lo := 0) (hi := 2) (by decide) (show (i : Int).toNat < 8 by omega) rfl
        have ghz10 := gv_eq hz10
        refine w_ald (i := 28) (t := 1) (n := 8) (npc := 18) rfl (hI.pl (by decide)) (hI.T (by decide) rfl) (by decide) rfl (by omega) hz10 ?_
        refine w_iload (i := 1) (npc := 19) rfl rfl ?_
        refine w_icmp (c := .ne) (npc := 22) (pt := 25) rfl (fun hc11 => ?_) (fun hc11 => ?_)
        · replace hc11 : z10 ≠ p := hc11
          refine w_iinc (i := 4) (n := 1) (npc := 28) (loc' := [cr 23, ai_i p, ai_i t, ai_i c, ai_i (i + 1)]) rfl rfl (by omega) rfl ?_
          refine w_goto (pt := 5) rfl ?_
          exact ih5 (c) (i + 1) (by omega) (by omega)
        · replace hc11 : ¬ (z10 ≠ p) := hc11
          refine w_iinc (i := 3) (n := 1) (npc := 25) (loc' := [cr 23, ai_i p, ai_i t, ai_i (c + 1), ai_i i]) rfl rfl (by omega) rfl ?_
          refine w_iinc (i := 4) (n := 1) (npc := 28) (loc' := [cr 23, ai_i p, ai_i t, ai_i (c + 1), ai_i (i + 1)]) rfl rfl (by omega) rfl ?_
          refine w_goto (pt := 5) rfl ?_
          exact ih5 (c + 1) (i + 1) (by omega) (by omega)
  exact loop5 _ (0) (0) (Nat.lt_succ_self _) (by omega)
set_option maxRecDepth 16384 in
theorem ct_ty_perform {sl : Int × Int} {x : ai_E} {d : Nat} {T : cm_T} {E : cm_E} {nx : Nat} (a t : Int)  (hI : cs_I T E nx) (hp0 : 0 ≤ a ∧ a ≤ 7) (hp1 : 0 ≤ t ∧ t ≤ 7) : cm_ct (ai_ev sl (d + 1)) x 100 [cr 23, ai_i a, ai_i t] T E nx 0 0 (fun rk rv T' E' nx' => rk = 1 ∧ T = T' ∧ nx = nx' ∧ cs_I T E' nx ∧ cm_fr (fun i k => 31 ≤ i ∧ i ≤ 40) E E' ∧ ∃ z : Int, rv = ai_i z ∧ (0 ≤ z ∧ z ≤ 1)) := by
  refine cm_body (M := ai_m100) rfl rfl (fun kc ks => ?_)
  show cm_wp (ai_find ai_c100 sl) (ai_ev sl (d + 0)) x (kc + 0) (ks + 0) _ 0 [cr 23, ai_i a, ai_i t, ai_un, ai_un, ai_un, ai_un] [] T E nx kc ks
  have hF : cm_fr (fun i k => 31 ≤ i ∧ i ≤ 40) E E := fun _ _ _ => rfl
  refine w_aload (i := 0) (npc := 1) (v := cr 23) rfl rfl rfl ?_
  refine w_getf (i := 23) (ci := 5) (k := 7) (npc := 4) rfl (hI.pl (by decide)) (hI.T (by decide) rfl) (by decide) (hI.ref 23 7 (p := 40) (by decide) (by decide) rfl) ?_
  refine w_iload (i := 2) (npc := 5) rfl rfl ?_
  obtain ⟨z1, hz1, hz1a, hz1b⟩ := hI.int 40 (t : Int).toNat (lo := 0) (hi := 8) (by decide) (show (t : Int).toNat < 9 by omega) rfl
  have ghz1 := gv_eq hz1
  refine w_ald (i := 40) (t := 1) (n := 9) (npc := 6) rfl (hI.pl (by decide)) (hI.T (by decide) rfl) (by decide) rfl (by omega) hz1 ?_
  refine w_istore (i := 3) (npc := 7) (loc' := [cr 23, ai_i a, ai_i t, ai_i z1, ai_un, ai_un, ai_un]) rfl rfl ?_
  refine w_aload (i := 0) (npc := 8) (v := cr 23) rfl rfl rfl ?_
  refine w_getf (i := 23) (ci := 5) (k := 2) (npc := 11) rfl (hI.pl (by decide)) (hI.T (by decide) rfl) (by decide) (hI.ref 23 2 (p := 26) (by decide) (by decide) rfl) ?_
  refine w_iload (i := 1) (npc := 12) rfl rfl ?_
  obtain ⟨z2, hz2, hz2a, hz2b⟩ := hI.int 26 (a : Int).toNat (lo := 0) (hi := 7) (by decide) (show (a : Int).toNat < 8 by omega) rfl
  have ghz2 := gv_eq hz2
  refine w_ald (i := 26) (t := 1) (n := 8) (npc := 13) rfl (hI.pl (by decide)) (hI.T (by decide) rfl) (by decide) rfl (by omega) hz2 ?_
  refine w_istore (i := 4) (npc := 15) (loc' := [cr 23, ai_i a, ai_i t, ai_i z1, ai_i z2, ai_un, ai_un]) rfl rfl ?_
  refine w_aload (i := 0) (npc := 16) (v := cr 23) rfl rfl rfl ?_
  refine w_getf (i := 23) (ci := 5) (k := 6) (npc := 19) rfl (hI.pl (by decide)) (hI.T (by decide) rfl) (by decide) (hI.ref 23 6 (p := 30) (by decide) (by decide) rfl) ?_
  refine w_iload (i := 2) (npc := 20) rfl rfl ?_
  obtain ⟨c3, hb4e⟩ : ∃ c3 : Nat, c3 = 31 + (t : Int).toNat := ⟨_, rfl⟩
  have hb4 : 31 ≤ c3 ∧ c3 ≤ 39 := by omega
  refine w_ald (i := 30) (t := 6) (n := 9) (npc := 21) rfl (hI.pl (by decide)) (hI.T (by decide) rfl) (by decide) rfl (by omega) (v := cr c3) (by rw [hb4e]; exact hI.texts (by omega)) ?_
  refine w_astore (i := 5) (npc := 23) (loc' := [cr 23, ai_i a, ai_i t, ai_i z1, ai_i z2, cr c3, ai_un]) rfl rfl rfl ?_
  refine w_aload (i := 0) (npc := 24) (v := cr 23) rfl rfl rfl ?_
  refine w_getf (i := 23) (ci := 5) (k := 6) (npc := 27) rfl (hI.pl (by decide)) (hI.T (by decide) rfl) (by decide) (hI.ref 23 6 (p := 30) (by decide) (by decide) rfl) ?_
  refine w_iload (i := 2) (npc := 28) rfl rfl ?_
  refine w_const (n := 1) (npc := 29) rfl ?_
  refine w_iadd (npc := 30) rfl (by omega) ?_
  obtain ⟨c6, hb7e⟩ : ∃ c6 : Nat, c6 = 31 + (t + 1 : Int).toNat := ⟨_, rfl⟩
  have hb7 : 31 ≤ c6 ∧ c6 ≤ 39 := by omega
  refine w_ald (i := 30) (t := 6) (n := 9) (npc := 31) rfl (hI.pl (by decide)) (hI.T (by decide) rfl) (by decide) rfl (by omega) (v := cr c6) (by rw [hb7e]; exact hI.texts (by omega)) ?_
  refine w_astore (i := 6) (npc := 33) (loc' := [cr 23, ai_i a, ai_i t, ai_i z1, ai_i z2, cr c3, cr c6]) rfl rfl rfl ?_
  refine w_aload (i := 0) (npc := 34) (v := cr 23) rfl rfl rfl ?_
  refine w_getf (i := 23) (ci := 5) (k := 3) (npc := 37) rfl (hI.pl (by decide)) (hI.T (by decide) rfl) (by decide) (hI.ref 23 3 (p := 27) (by decide) (by decide) rfl) ?_
  refine w_iload (i := 1) (npc := 38) rfl rfl ?_
  obtain ⟨z8, hz8, hz8a, hz8b⟩ := hI.int 27 (a : Int).toNat (lo := (-1)) (hi := 126) (by decide) (show (a : Int).toNat < 8 by omega) rfl
  have ghz8 := gv_eq hz8
  refine w_ald (i := 27) (t := 1) (n := 8) (npc := 39) rfl (hI.pl (by decide)) (hI.T (by decide) rfl) (by decide) rfl (by omega) hz8 ?_
  refine w_const (n := (-1)) (npc := 40) rfl ?_
  refine w_icmp (c := .ne) (npc := 43) (pt := 94) rfl (fun hc9 => ?_) (fun hc9 => ?_)
  · replace hc9 : z8 ≠ ((-1) : Int) := hc9
    refine w_iload (i := 4) (npc := 96) rfl rfl ?_
    refine w_iload (i := 3) (npc := 97) rfl rfl ?_
    refine w_icmp (c := .gt) (npc := 100) (pt := 106) rfl (fun hc10 => ?_) (fun hc10 => ?_)
    · replace hc10 : z1 < z2 := hc10
      refine w_const (n := 0) (npc := 107) rfl ?_
      exact w_zret rfl (by omega) (⟨rfl, rfl, rfl, hI, hF, 0, rfl, by omega⟩) (by omega) (by omega)
    · replace hc10 : ¬ (z1 < z2) := hc10
      refine w_iload (i := 3) (npc := 101) rfl rfl ?_
      refine w_const (n := 8) (npc := 103) rfl ?_
      refine w_icmp (c := .lt) (npc := 106) (pt := 108) rfl (fun hc11 => ?_) (fun hc11 => ?_)
      · replace hc11 : z1 < (8 : Int) := hc11
        refine w_aload (i := 5) (npc := 110) (v := cr c3) rfl rfl rfl ?_
        refine w_const (n := 0) (npc := 111) rfl ?_
        refine w_aload (i := 6) (npc := 113) (v := cr c6) rfl rfl rfl ?_
        refine w_const (n := 0) (npc := 114) rfl ?_
        refine w_iload (i := 4) (npc := 116) rfl rfl ?_
        refine w_copy (i := c3) (j := c6) (ni := 8) (nj := 8) (npc := 119) rfl (hI.pl (by omega)) (hI.pl (by omega)) (hI.T (by omega) (tx_c hb4).1) (hI.T (by omega) (tx_c hb7).1) (by omega) (by omega) (by omega) (by omega) (by omega) (by omega) ?_
        have hI13 := hI.cp (i := c3) (j := c6) (sp := (0 : Int).toNat) (dp := (0 : Int).toNat) (n := (z2 : Int).toNat) (lo := (-1)) (hi := 126) (by omega) (by omega) (tx_c hb4).1 (tx_c hb4).2 (tx_c hb7).2 (by omega)
        have hF15 := cm_cp_fr (i := c3) (j := c6) (sp := (0 : Int).toNat) (dp := (0 : Int).toNat) (n := (z2 : Int).toNat) hF (fun k => by first | omega | (simp; done) | (simp; omega) | (simp only; omega))
        generalize hE14 : cm_cp E c3 c6 (0 : Int).toNat (0 : Int).toNat (z2 : Int).toNat = E12 at hI13 hF15 ⊢
        have hz16 : E12 40 ((t : Int).toNat) = ai_i z1 := by rw [← hE14, cm_cp_ne (by omega)]; exact hz1
        have ghz16 := gv_eq hz16
        have hz17 : E12 26 ((a : Int).toNat) = ai_i z2 := by rw [← hE14, cm_cp_ne (by omega)]; exact hz2
        have ghz17 := gv_eq hz17
        have hz18 : E12 27 ((a : Int).toNat) = ai_i z8 := by rw [← hE14, cm_cp_ne (by omega)]; exact hz8
        have ghz18 := gv_eq hz18
        refine w_aload (i := 6) (npc := 121) (v := cr c6) rfl rfl rfl ?_
        refine w_iload (i := 4) (npc := 123) rfl rfl ?_
        refine w_aload (i := 0) (npc := 124) (v := cr 23) rfl rfl rfl ?_
        refine w_getf (i := 23) (ci := 5) (k := 3) (npc := 127) rfl (hI13.pl (by decide)) (hI13.T (by decide) rfl) (by decide) (hI13.ref 23 3 (p := 27) (by decide) (by decide) rfl) ?_
        refine w_iload (i := 1) (npc := 128) rfl rfl ?_
        refine w_ald (i := 27) (t := 1) (n := 8) (npc := 129) rfl (hI13.pl (by decide)) (hI13.T (by decide) rfl) (by decide) rfl (by omega) hz18 ?_
        refine w_ast (i := c6) (k := 1) (n := 8) (npc := 130) rfl (hI13.pl (by omega)) (hI13.T (by omega) (tx_c hb7).1) (by decide) (by omega) cm_af1 ?_
        have hI20 := hI13.txw hb7 (k := (z2 : Int).toNat) (z := z8) (by omega)
        have hF22 := cm_fr.up (i := c6) (k := (z2 : Int).toNat) (v := ai_i z8) hF15 (by first | omega | (simp; done) | (simp; omega) | (simp only; omega))
        generalize hE21 : cm_up E12 c6 ((z2 : Int).toNat) (ai_i z8) = E19 at hI20 hF22 ⊢
        have hz23 : E19 40 ((t : Int).toNat) = ai_i z1 := by rw [← hE21, cm_up_nei _ _ (by omega)]; exact hz16
        have ghz23 := gv_eq hz23
        have hz24 : E19 26 ((a : Int).toNat) = ai_i z2 := by rw [← hE21, cm_up_nei _ _ (by omega)]; exact hz17
        have ghz24 := gv_eq hz24
        have hz25 : E19 27 ((a : Int).toNat) = ai_i z8 := by rw [← hE21, cm_up_nei _ _ (by omega)]; exact hz18
        have ghz25 := gv_eq hz25
        have hz26 : E19 c6 ((z2 : Int).toNat) = ai_i z8 := by rw [← hE21, cm_up_eq]
        have ghz26 := gv_eq hz26
        refine w_aload (i := 5) (npc := 132) (v := cr c3) rfl rfl rfl ?_
        refine w_iload (i := 4) (npc := 134) rfl rfl ?_
        refine w_aload (i := 6) (npc := 136) (v := cr c6) rfl rfl rfl ?_
        refine w_iload (i := 4) (npc := 138) rfl rfl ?_
        refine w_const (n := 1) (npc := 139) rfl ?_
        refine w_iadd (npc := 140) rfl (by omega) ?_
        refine w_iload (i := 3) (npc := 141) rfl rfl ?_
        refine w_iload (i := 4) (npc := 143) rfl rfl ?_
        refine w_isub (npc := 144) rfl (by omega) ?_
        refine w_copy (i := c3) (j := c6) (ni := 8) (nj := 8) (npc := 147) rfl (hI20.pl (by omega)) (hI20.pl (by omega)) (hI20.T (by omega) (tx_c hb4).1) (hI20.T (by omega) (tx_c hb7).1) (by omega) (by omega) (by omega) (by omega) (by omega) (by omega) ?_
        have hI30 := hI20.cp (i := c3) (j := c6) (sp := (z2 : Int).toNat) (dp := (z2 + 1 : Int).toNat) (n := (z1 - z2 : Int).toNat) (lo := (-1)) (hi := 126) (by omega) (by omega) (tx_c hb4).1 (tx_c hb4).2 (tx_c hb7).2 (by omega)
        have hF32 := cm_cp_fr (i := c3) (j := c6) (sp := (z2 : Int).toNat) (dp := (z2 + 1 : Int).toNat) (n := (z1 - z2 : Int).toNat) hF22 (fun k => by first | omega | (simp; done) | (simp; omega) | (simp only; omega))
        generalize hE31 : cm_cp E19 c3 c6 (z2 : Int).toNat (z2 + 1 : Int).toNat (z1 - z2 : Int).toNat = E29 at hI30 hF32 ⊢
        have hz33 : E29 40 ((t : Int).toNat) = ai_i z1 := by rw [← hE31, cm_cp_ne (by omega)]; exact hz23
        have ghz33 := gv_eq hz33
        have hz34 : E29 26 ((a : Int).toNat) = ai_i z2 := by rw [← hE31, cm_cp_ne (by omega)]; exact hz24
        have ghz34 := gv_eq hz34
        have hz35 : E29 27 ((a : Int).toNat) = ai_i z8 := by rw [← hE31, cm_cp_ne (by omega)]; exact hz25
        have ghz35 := gv_eq hz35
        refine w_aload (i := 0) (npc := 148) (v := cr 23) rfl rfl rfl ?_
        refine w_getf (i := 23) (ci := 5) (k := 7) (npc := 151) rfl (hI30.pl (by decide)) (hI30.T (by decide) rfl) (by decide) (hI30.ref 23 7 (p := 40) (by decide) (by decide) rfl) ?_
        refine w_iload (i := 2) (npc := 152) rfl rfl ?_
        refine w_const (n := 1) (npc := 153) rfl ?_
        refine w_iadd (npc := 154) rfl (by omega) ?_
        refine w_iload (i := 3) (npc := 155) rfl rfl ?_
        refine w_const (n := 1) (npc := 156) rfl ?_
        refine w_iadd (npc := 157) rfl (by omega) ?_
        refine w_ast (i := 40) (k := 1) (n := 9) (npc := 158) rfl (hI30.pl (by decide)) (hI30.T (by decide) rfl) (by decide) (by omega) cm_af1 ?_
        have hI39 := hI30.puti (i := 40) (k := (t + 1 : Int).toNat) (z := z1 + 1) (lo := 0) (hi := 8) (by decide) rfl (by omega)
        have hF41 := cm_fr.up (i := 40) (k := (t + 1 : Int).toNat) (v := ai_i (z1 + 1)) hF32 (by first | omega | (simp; done) | (simp; omega) | (simp only; omega))
        generalize hE40 : cm_up E29 40 ((t + 1 : Int).toNat) (ai_i (z1 + 1)) = E38 at hI39 hF41 ⊢
        have hz42 : E38 26 ((a : Int).toNat) = ai_i z2 := by rw [← hE40, cm_up_nei _ _ (by decide)]; exact hz34
        have ghz42 := gv_eq hz42
        have hz43 : E38 27 ((a : Int).toNat) = ai_i z8 := by rw [← hE40, cm_up_nei _ _ (by decide)]; exact hz35
        have ghz43 := gv_eq hz43
        have hz44 : E38 40 ((t + 1 : Int).toNat) = ai_i (z1 + 1) := by rw [← hE40, cm_up_eq]
        have ghz44 := gv_eq hz44
        refine w_const (n := 1) (npc := 159) rfl ?_
        exact w_zret rfl (by omega) (⟨rfl, rfl, rfl, hI39, hF41, 1, rfl, by omega⟩) (by omega) (by omega)
      · replace hc11 : ¬ (z1 < (8 : Int)) := hc11
        refine w_const (n := 0) (npc := 107) rfl ?_
        exact w_zret rfl (by omega) (⟨rfl, rfl, rfl, hI, hF, 0, rfl, by omega⟩) (by omega) (by omega)
  · replace hc9 : ¬ (z8 ≠ ((-1) : Int)) := hc9
    refine w_iload (i := 4) (npc := 45) rfl rfl ?_
    refine w_iload (i := 3) (npc := 46) rfl rfl ?_
    refine w_icmp (c := .lt) (npc := 49) (pt := 51) rfl (fun hc45 => ?_) (fun hc45 => ?_)
    · replace hc45 : z2 < z1 := hc45
      refine w_aload (i := 5) (npc := 53) (v := cr c3) rfl rfl rfl ?_
      refine w_const (n := 0) (npc := 54) rfl ?_
      refine w_aload (i := 6) (npc := 56) (v := cr c6) rfl rfl rfl ?_
      refine w_const (n := 0) (npc := 57) rfl ?_
      refine w_iload (i := 4) (npc := 59) rfl rfl ?_
      refine w_copy (i := c3) (j := c6) (ni := 8) (nj := 8) (npc := 62) rfl (hI.pl (by omega)) (hI.pl (by omega)) (hI.T (by omega) (tx_c hb4).1) (hI.T (by omega) (tx_c hb7).1) (by omega) (by omega) (by omega) (by omega) (by omega) (by omega) ?_
      have hI47 := hI.cp (i := c3) (j := c6) (sp := (0 : Int).toNat) (dp := (0 : Int).toNat) (n := (z2 : Int).toNat) (lo := (-1)) (hi := 126) (by omega) (by omega) (tx_c hb4).1 (tx_c hb4).2 (tx_c hb7).2 (by omega)
      have hF49 := cm_cp_fr (i := c3) (j := c6) (sp := (0 : Int).toNat) (dp := (0 : Int).toNat) (n := (z2 : Int).toNat) hF (fun k => by first | omega | (simp; done) | (simp; omega) | (simp only; omega))
      generalize hE48 : cm_cp E c3 c6 (0 : Int).toNat (0 : Int).toNat (z2 : Int).toNat = E46 at hI47 hF49 ⊢
      have hz50 : E46 40 ((t : Int).toNat) = ai_i z1 := by rw [← hE48, cm_cp_ne (by omega)]; exact hz1
      have ghz50 := gv_eq hz50
      have hz51 : E46 26 ((a : Int).toNat) = ai_i z2 := by rw [← hE48, cm_cp_ne (by omega)]; exact hz2
      have ghz51 := gv_eq hz51
      have hz52 : E46 27 ((a : Int).toNat) = ai_i z8 := by rw [← hE48, cm_cp_ne (by omega)]; exact hz8
      have ghz52 := gv_eq hz52
      refine w_aload (i := 5) (npc := 64) (v := cr c3) rfl rfl rfl ?_
      refine w_iload (i := 4) (npc := 66) rfl rfl ?_
      refine w_const (n := 1) (npc := 67) rfl ?_
      refine w_iadd (npc := 68) rfl (by omega) ?_
      refine w_aload (i := 6) (npc := 70) (v := cr c6) rfl rfl rfl ?_
      refine w_iload (i := 4) (npc := 72) rfl rfl ?_
      refine w_iload (i := 3) (npc := 73) rfl rfl ?_
      refine w_iload (i := 4) (npc := 75) rfl rfl ?_
      refine w_isub (npc := 76) rfl (by omega) ?_
      refine w_const (n := 1) (npc := 77) rfl ?_
      refine w_isub (npc := 78) rfl (by omega) ?_
      refine w_copy (i := c3) (j := c6) (ni := 8) (nj := 8) (npc := 81) rfl (hI47.pl (by omega)) (hI47.pl (by omega)) (hI47.T (by omega) (tx_c hb4).1) (hI47.T (by omega) (tx_c hb7).1) (by omega) (by omega) (by omega) (by omega) (by omega) (by omega) ?_
      have hI57 := hI47.cp (i := c3) (j := c6) (sp := (z2 + 1 : Int).toNat) (dp := (z2 : Int).toNat) (n := (z1 - z2 - 1 : Int).toNat) (lo := (-1)) (hi := 126) (by omega) (by omega) (tx_c hb4).1 (tx_c hb4).2 (tx_c hb7).2 (by omega)
      have hF59 := cm_cp_fr (i := c3) (j := c6) (sp := (z2 + 1 : Int).toNat) (dp := (z2 : Int).toNat) (n := (z1 - z2 - 1 : Int).toNat) hF49 (fun k => by first | omega | (simp; done) | (simp; omega) | (simp only; omega))
      generalize hE58 : cm_cp E46 c3 c6 (z2 + 1 : Int).toNat (z2 : Int).toNat (z1 - z2 - 1 : Int).toNat = E56 at hI57 hF59 ⊢
      have hz60 : E56 40 ((t : Int).toNat) = ai_i z1 := by rw [← hE58, cm_cp_ne (by omega)]; exact hz50
      have ghz60 := gv_eq hz60
      have hz61 : E56 26 ((a : Int).toNat) = ai_i z2 := by rw [← hE58, cm_cp_ne (by omega)]; exact hz51
      have ghz61 := gv_eq hz61
      have hz62 : E56 27 ((a : Int).toNat) = ai_i z8 := by rw [← hE58, cm_cp_ne (by omega)]; exact hz52
      have ghz62 := gv_eq hz62
      refine w_aload (i := 0) (npc := 82) (v := cr 23) rfl rfl rfl ?_
      refine w_getf (i := 23) (ci := 5) (k := 7) (npc := 85) rfl (hI57.pl (by decide)) (hI57.T (by decide) rfl) (by decide) (hI57.ref 23 7 (p := 40) (by decide) (by decide) rfl) ?_
      refine w_iload (i := 2) (npc := 86) rfl rfl ?_
      refine w_const (n := 1) (npc := 87) rfl ?_
      refine w_iadd (npc := 88) rfl (by omega) ?_
      refine w_iload (i := 3) (npc := 89) rfl rfl ?_
      refine w_const (n := 1) (npc := 90) rfl ?_
      refine w_isub (npc := 91) rfl (by omega) ?_
      refine w_ast (i := 40) (k := 1) (n := 9) (npc := 92) rfl (hI57.pl (by decide)) (hI57.T (by decide) rfl) (by decide) (by omega) cm_af1 ?_
      have hI66 := hI57.puti (i := 40) (k := (t + 1 : Int).toNat) (z := z1 - 1) (lo := 0) (hi := 8) (by decide) rfl (by omega)
      have hF68 := cm_fr.up (i := 40) (k := (t + 1 : Int).toNat) (v := ai_i (z1 - 1)) hF59 (by first | omega | (simp; done) | (simp; omega) | (simp only; omega))
      generalize hE67 : cm_up E56 40 ((t + 1 : Int).toNat) (ai_i (z1 - 1)) = E65 at hI66 hF68 ⊢
      have hz69 : E65 26 ((a : Int).toNat) = ai_i z2 := by rw [← hE67, cm_up_nei _ _ (by decide)]; exact hz61
      have ghz69 := gv_eq hz69
      have hz70 : E65 27 ((a : Int).toNat) = ai_i z8 := by rw [← hE67, cm_up_nei _ _ (by decide)]; exact hz62
      have ghz70 := gv_eq hz70
      have hz71 : E65 40 ((t + 1 : Int).toNat) = ai_i (z1 - 1) := by rw [← hE67, cm_up_eq]
      have ghz71 := gv_eq hz71
      refine w_const (n := 1) (npc := 93) rfl ?_
      exact w_zret rfl (by omega) (⟨rfl, rfl, rfl, hI66, hF68, 1, rfl, by omega⟩) (by omega) (by omega)
    · replace hc45 : ¬ (z2 < z1) := hc45
      refine w_const (n := 0) (npc := 50) rfl ?_
      exact w_zret rfl (by omega) (⟨rfl, rfl, rfl, hI, hF, 0, rfl, by omega⟩) (by omega) (by omega)
set_option maxRecDepth 16384 in
theorem ct_ty_finishOrder {sl : Int × Int} {x : ai_E} {d : Nat} {T : cm_T} {E : cm_E} {nx : Nat} (t : Int)  (hI : cs_I T E nx) (hp0 : 0 ≤ t ∧ t ≤ 8) : cm_ct (ai_ev sl (d + 1)) x 98 [cr 23, ai_i t] T E nx 0 0 (fun rk rv T' E' nx' => rk = 0 ∧ T = T' ∧ nx = nx' ∧ cs_I T E' nx ∧ cm_fr (fun i k => i = 29 ∨ (i = 23 ∧ k = 10)) E E' ∧ (True)) := by
  refine cm_body (M := ai_m98) rfl rfl (fun kc ks => ?_)
  show cm_wp (ai_find ai_c98 sl) (ai_ev sl (d + 0)) x (kc + 0) (ks + 0) _ 0 [cr 23, ai_i t, ai_un] [] T E nx kc ks
  have hF : cm_fr (fun i k => i = 29 ∨ (i = 23 ∧ k = 10)) E E := fun _ _ _ => rfl
  refine w_aload (i := 0) (npc := 1) (v := cr 23) rfl rfl rfl ?_
  refine w_getf (i := 23) (ci := 5) (k := 7) (npc := 4) rfl (hI.pl (by decide)) (hI.T (by decide) rfl) (by decide) (hI.ref 23 7 (p := 40) (by decide) (by decide) rfl) ?_
  refine w_iload (i := 1) (npc := 5) rfl rfl ?_
  obtain ⟨z1, hz1, hz1a, hz1b⟩ := hI.int 40 (t : Int).toNat (lo := 0) (hi := 8) (by decide) (show (t : Int).toNat < 9 by omega) rfl
  have ghz1 := gv_eq hz1
  refine w_ald (i := 40) (t := 1) (n := 9) (npc := 6) rfl (hI.pl (by decide)) (hI.T (by decide) rfl) (by decide) rfl (by omega) hz1 ?_
  refine w_aload (i := 0) (npc := 7) (v := cr 23) rfl rfl rfl ?_
  obtain ⟨z2, hz2, hz2a, hz2b⟩ := hI.int 23 8 (lo := 0) (hi := 12) (by decide) (by decide) rfl
  have ghz2 := gv_eq hz2
  refine w_getf (i := 23) (ci := 5) (k := 8) (npc := 10) rfl (hI.pl (by decide)) (hI.T (by decide) rfl) (by decide) hz2 ?_
  refine w_icmp (c := .eq) (npc := 13) (pt := 14) rfl (fun hc3 => ?_) (fun hc3 => ?_)
  · replace hc3 : z1 = z2 := hc3
    refine w_const (n := 0) (npc := 15) rfl ?_
    refine w_istore (i := 2) (npc := 16) (loc' := [cr 23, ai_i t, ai_i 0]) rfl rfl ?_
    have loop16 : ∀ (nf : Nat) (i : Int), ((8 - i).toNat) < nf → (0 ≤ i ∧ i ≤ 8) → cm_wp (ai_find ai_c98 sl) (ai_ev sl (d + 0)) x (kc + 0) (ks + 0) (fun rk rv T' E' nx' => rk = 0 ∧ T = T' ∧ nx = nx' ∧ cs_I T E' nx ∧ cm_fr (fun i k => i = 29 ∨ (i = 23 ∧ k = 10)) E E' ∧ (True)) 16 [cr 23, ai_i t, ai_i i] [] T E nx kc ks := by
      intro nf
      induction nf with
      | zero => intro i hm; exact absurd hm (Nat.not_lt_zero _)
      | succ nf16 ih =>
        intro i hm16 hv16
        have ih16 := ih; clear ih
        refine w_iload (i := 2) (npc := 17) rfl rfl ?_
        refine w_aload (i := 0) (npc := 18) (v := cr 23) rfl rfl rfl ?_
        refine w_getf (i := 23) (ci := 5) (k := 8) (npc := 21) rfl (hI.pl (by decide)) (hI.T (by decide) rfl) (by decide) hz2 ?_
        refine w_icmp (c := .ge) (npc := 24) (pt := 54) rfl (fun hc4 => ?_) (fun hc4 => ?_)
        · replace hc4 : z2 ≤ i := hc4
          refine w_aload (i := 0) (npc := 55) (v := cr 23) rfl rfl rfl ?_
          obtain ⟨z5, hz5, hz5a, hz5b⟩ := hI.int 23 10 (lo := (-2147483648)) (hi := 2147483647) (by decide) (by decide) rfl
          have ghz5 := gv_eq hz5
          refine w_getf (i := 23) (ci := 5) (k := 10) (npc := 58) rfl (hI.pl (by decide)) (hI.T (by decide) rfl) (by decide) hz5 ?_
          refine w_if (c := .ne) (npc := 61) (pt := 76) rfl (fun hc6 => ?_) (fun hc6 => ?_)
          · replace hc6 : z5 ≠ (0 : Int) := hc6
            refine w_aload (i := 0) (npc := 77) (v := cr 23) rfl rfl rfl ?_
            refine w_dup (npc := 78) rfl rfl ?_
            refine w_getf (i := 23) (ci := 5) (k := 10) (npc := 81) rfl (hI.pl (by decide)) (hI.T (by decide) rfl) (by decide) hz5 ?_
            refine w_const (n := 1) (npc := 82) rfl ?_
            refine w_iaddw (npc := 83) rfl (fun z7 hz7 hz7b => ?_)
            refine w_putf (i := 23) (ci := 5) (k := 10) (t := 0) (npc := 86) rfl (hI.pl (by decide)) (hI.T (by decide) rfl) (by decide) cm_fit0 ?_
            have hI9 := hI.puti (i := 23) (k := 10) (z := z7) (lo := (-2147483648)) (hi := 2147483647) (by decide) rfl (by omega)
            have hF11 := cm_fr.up (i := 23) (k := 10) (v := ai_i z7) hF (by first | omega | (simp; done) | (simp; omega) | (simp only; omega))
            generalize hE10 : cm_up E 23 10 (ai_i z7) = E8 at hI9 hF11 ⊢
            have hz12 : E8 40 ((t : Int).toNat) = ai_i z1 := by rw [← hE10, cm_up_nei _ _ (by decide)]; exact hz1
            have ghz12 := gv_eq hz12
            have hz13 : E8 23 8 = ai_i z2 := by rw [← hE10, cm_up_ne _ _ (by decide)]; exact hz2
            have ghz13 := gv_eq hz13
            have hz14 : E8 23 10 = ai_i z7 := by rw [← hE10, cm_up_eq]
            have ghz14 := gv_eq hz14
            exact w_vret rfl (⟨rfl, rfl, rfl, hI9, hF11, trivial⟩) (by omega) (by omega)
          · replace hc6 : ¬ (z5 ≠ (0 : Int)) := hc6
            refine w_aload (i := 0) (npc := 62) (v := cr 23) rfl rfl rfl ?_
            refine w_getf (i := 23) (ci := 5) (k := 4) (npc := 65) rfl (hI.pl (by decide)) (hI.T (by decide) rfl) (by decide) (hI.ref 23 4 (p := 28) (by decide) (by decide) rfl) ?_
            refine w_const (n := 0) (npc := 66) rfl ?_
            refine w_aload (i := 0) (npc := 67) (v := cr 23) rfl rfl rfl ?_
            refine w_getf (i := 23) (ci := 5) (k := 5) (npc := 70) rfl (hI.pl (by decide)) (hI.T (by decide) rfl) (by decide) (hI.ref 23 5 (p := 29) (by decide) (by decide) rfl) ?_
            refine w_const (n := 0) (npc := 71) rfl ?_
            refine w_const (n := 8) (npc := 73) rfl ?_
            refine w_copy (i := 28) (j := 29) (ni := 8) (nj := 8) (npc := 76) rfl (hI.pl (by decide)) (hI.pl (by decide)) (hI.T (by decide) rfl) (hI.T (by decide) rfl) (by omega) (by omega) (by omega) (by omega) (by omega) (by decide) ?_
            have hI16 := hI.cp (i := 28) (j := 29) (sp := (0 : Int).toNat) (dp := (0 : Int).toNat) (n := (8 : Int).toNat) (lo := 0) (hi := 2) (by decide) (by decide) rfl (fun _ => rfl) (fun _ => rfl) (by omega)
            have hF18 := cm_cp_fr (i := 28) (j := 29) (sp := (0 : Int).toNat) (dp := (0 : Int).toNat) (n := (8 : Int).toNat) hF (fun k => by first | omega | (simp; done) | (simp; omega) | (simp only; omega))
            generalize hE17 : cm_cp E 28 29 (0 : Int).toNat (0 : Int).toNat (8 : Int).toNat = E15 at hI16 hF18 ⊢
            have hz19 : E15 40 ((t : Int).toNat) = ai_i z1 := by rw [← hE17, cm_cp_ne (by omega)]; exact hz1
            have ghz19 := gv_eq hz19
            have hz20 : E15 23 8 = ai_i z2 := by rw [← hE17, cm_cp_ne (by omega)]; exact hz2
            have ghz20 := gv_eq hz20
            have hz21 : E15 23 10 = ai_i z5 := by rw [← hE17, cm_cp_ne (by omega)]; exact hz5
            have ghz21 := gv_eq hz21
            refine w_aload (i := 0) (npc := 77) (v := cr 23) rfl rfl rfl ?_
            refine w_dup (npc := 78) rfl rfl ?_
            refine w_getf (i := 23) (ci := 5) (k := 10) (npc := 81) rfl (hI16.pl (by decide)) (hI16.T (by decide) rfl) (by decide) hz21 ?_
            refine w_const (n := 1) (npc := 82) rfl ?_
            refine w_iaddw (npc := 83) rfl (fun z22 hz22 hz22b => ?_)
            refine w_putf (i := 23) (ci := 5) (k := 10) (t := 0) (npc := 86) rfl (hI16.pl (by decide)) (hI16.T (by decide) rfl) (by decide) cm_fit0 ?_
            have hI24 := hI16.puti (i := 23) (k := 10) (z := z22) (lo := (-2147483648)) (hi := 2147483647) (by decide) rfl (by omega)
            have hF26 := cm_fr.up (i := 23) (k := 10) (v := ai_i z22) hF18 (by first | omega | (simp; done) | (simp; omega) | (simp only; omega))
            generalize hE25 : cm_up E15 23 10 (ai_i z22) = E23 at hI24 hF26 ⊢
            have hz27 : E23 40 ((t : Int).toNat) = ai_i z1 := by rw [← hE25, cm_up_nei _ _ (by decide)]; exact hz19
            have ghz27 := gv_eq hz27
            have hz28 : E23 23 8 = ai_i z2 := by rw [← hE25, cm_up_ne _ _ (by decide)]; exact hz20
            have ghz28 := gv_eq hz28
            have hz29 : E23 23 10 = ai_i z22 := by rw [← hE25, cm_up_eq]
            have ghz29 := gv_eq hz29
            exact w_vret rfl (⟨rfl, rfl, rfl, hI24, hF26, trivial⟩) (by omega) (by omega)
        · replace hc4 : ¬ (z2 ≤ i) := hc4
          refine w_iload (i := 2) (npc := 25) rfl rfl ?_
          refine w_const (n := 8) (npc := 27) rfl ?_
          refine w_icmp (c := .ge) (npc := 30) (pt := 54) rfl (fun hc30 => ?_) (fun hc30 => ?_)
          · replace hc30 : (8 : Int) ≤ i := hc30
            refine w_aload (i := 0) (npc := 55) (v := cr 23) rfl rfl rfl ?_
            obtain ⟨z31, hz31, hz31a, hz31b⟩ := hI.int 23 10 (lo := (-2147483648)) (hi := 2147483647) (by decide) (by decide) rfl
            have ghz31 := gv_eq hz31
            refine w_getf (i := 23) (ci := 5) (k := 10) (npc := 58) rfl (hI.pl (by decide)) (hI.T (by decide) rfl) (by decide) hz31 ?_
            refine w_if (c := .ne) (npc := 61) (pt := 76) rfl (fun hc32 => ?_) (fun hc32 => ?_)
            · replace hc32 : z31 ≠ (0 : Int) := hc32
              refine w_aload (i := 0) (npc := 77) (v := cr 23) rfl rfl rfl ?_
              refine w_dup (npc := 78) rfl rfl ?_
              refine w_getf (i := 23) (ci := 5) (k := 10) (npc := 81) rfl (hI.pl (by decide)) (hI.T (by decide) rfl) (by decide) hz31 ?_
              refine w_const (n := 1) (npc := 82) rfl ?_
              refine w_iaddw (npc := 83) rfl (fun z33 hz33 hz33b => ?_)
              refine w_putf (i := 23) (ci := 5) (k := 10) (t := 0) (npc := 86) rfl (hI.pl (by decide)) (hI.T (by decide) rfl) (by decide) cm_fit0 ?_
              have hI35 := hI.puti (i := 23) (k := 10) (z := z33) (lo := (-2147483648)) (hi := 2147483647) (by decide) rfl (by omega)
              have hF37 := cm_fr.up (i := 23) (k := 10) (v := ai_i z33) hF (by first | omega | (simp; done) | (simp; omega) | (simp only; omega))
              generalize hE36 : cm_up E 23 10 (ai_i z33) = E34 at hI35 hF37 ⊢
              have hz38 : E34 40 ((t : Int).toNat) = ai_i z1 := by rw [← hE36, cm_up_nei _ _ (by decide)]; exact hz1
              have ghz38 := gv_eq hz38
              have hz39 : E34 23 8 = ai_i z2 := by rw [← hE36, cm_up_ne _ _ (by decide)]; exact hz2
              have ghz39 := gv_eq hz39
              have hz40 : E34 23 10 = ai_i z33 := by rw [← hE36, cm_up_eq]
              have ghz40 := gv_eq hz40
              exact w_vret rfl (⟨rfl, rfl, rfl, hI35, hF37, trivial⟩) (by omega) (by omega)
            · replace hc32 : ¬ (z31 ≠ (0 : Int)) := hc32
              refine w_aload (i := 0) (npc := 62) (v := cr 23) rfl rfl rfl ?_
              refine w_getf (i := 23) (ci := 5) (k := 4) (npc := 65) rfl (hI.pl (by decide)) (hI.T (by decide) rfl) (by decide) (hI.ref 23 4 (p := 28) (by decide) (by decide) rfl) ?_
              refine w_const (n := 0) (npc := 66) rfl ?_
              refine w_aload (i := 0) (npc := 67) (v := cr 23) rfl rfl rfl ?_
              refine w_getf (i := 23) (ci := 5) (k := 5) (npc := 70) rfl (hI.pl (by decide)) (hI.T (by decide) rfl) (by decide) (hI.ref 23 5 (p := 29) (by decide) (by decide) rfl) ?_
              refine w_const (n := 0) (npc := 71) rfl ?_
              refine w_const (n := 8) (npc := 73) rfl ?_
              refine w_copy (i := 28) (j := 29) (ni := 8) (nj := 8) (npc := 76) rfl (hI.pl (by decide)) (hI.pl (by decide)) (hI.T (by decide) rfl) (hI.T (by decide) rfl) (by omega) (by omega) (by omega) (by omega) (by omega) (by decide) ?_
              have hI42 := hI.cp (i := 28) (j := 29) (sp := (0 : Int).toNat) (dp := (0 : Int).toNat) (n := (8 : Int).toNat) (lo := 0) (hi := 2) (by decide) (by decide) rfl (fun _ => rfl) (fun _ => rfl) (by omega)
              have hF44 := cm_cp_fr (i := 28) (j := 29) (sp := (0 : Int).toNat) (dp := (0 : Int).toNat) (n := (8 : Int).toNat) hF (fun k => by first | omega | (simp; done) | (simp; omega) | (simp only; omega))
              generalize hE43 : cm_cp E 28 29 (0 : Int).toNat (0 : Int).toNat (8 : Int).toNat = E41 at hI42 hF44 ⊢
              have hz45 : E41 40 ((t : Int).toNat) = ai_i z1 := by rw [← hE43, cm_cp_ne (by omega)]; exact hz1
              have ghz45 := gv_eq hz45
              have hz46 : E41 23 8 = ai_i z2 := by rw [← hE43, cm_cp_ne (by omega)]; exact hz2
              have ghz46 := gv_eq hz46
              have hz47 : E41 23 10 = ai_i z31 := by rw [← hE43, cm_cp_ne (by omega)]; exact hz31
              have ghz47 := gv_eq hz47
              refine w_aload (i := 0) (npc := 77) (v := cr 23) rfl rfl rfl ?_
              refine w_dup (npc := 78) rfl rfl ?_
              refine w_getf (i := 23) (ci := 5) (k := 10) (npc := 81) rfl (hI42.pl (by decide)) (hI42.T (by decide) rfl) (by decide) hz47 ?_
              refine w_const (n := 1) (npc := 82) rfl ?_
              refine w_iaddw (npc := 83) rfl (fun z48 hz48 hz48b => ?_)
              refine w_putf (i := 23) (ci := 5) (k := 10) (t := 0) (npc := 86) rfl (hI42.pl (by decide)) (hI42.T (by decide) rfl) (by decide) cm_fit0 ?_
              have hI50 := hI42.puti (i := 23) (k := 10) (z := z48) (lo := (-2147483648)) (hi := 2147483647) (by decide) rfl (by omega)
              have hF52 := cm_fr.up (i := 23) (k := 10) (v := ai_i z48) hF44 (by first | omega | (simp; done) | (simp; omega) | (simp only; omega))
              generalize hE51 : cm_up E41 23 10 (ai_i z48) = E49 at hI50 hF52 ⊢
              have hz53 : E49 40 ((t : Int).toNat) = ai_i z1 := by rw [← hE51, cm_up_nei _ _ (by decide)]; exact hz45
              have ghz53 := gv_eq hz53
              have hz54 : E49 23 8 = ai_i z2 := by rw [← hE51, cm_up_ne _ _ (by decide)]; exact hz46
              have ghz54 := gv_eq hz54
              have hz55 : E49 23 10 = ai_i z48 := by rw [← hE51, cm_up_eq]
              have ghz55 := gv_eq hz55
              exact w_vret rfl (⟨rfl, rfl, rfl, hI50, hF52, trivial⟩) (by omega) (by omega)
          · replace hc30 : ¬ ((8 : Int) ≤ i) := hc30
            refine w_aload (i := 0) (npc := 31) (v := cr 23) rfl rfl rfl ?_
            refine w_getf (i := 23) (ci := 5) (k := 6) (npc := 34) rfl (hI.pl (by decide)) (hI.T (by decide) rfl) (by decide) (hI.ref 23 6 (p := 30) (by decide) (by decide) rfl) ?_
            refine w_iload (i := 1) (npc := 35) rfl rfl ?_
            obtain ⟨c56, hb57e⟩ : ∃ c56 : Nat, c56 = 31 + (t : Int).toNat := ⟨_, rfl⟩
            have hb57 : 31 ≤ c56 ∧ c56 ≤ 39 := by omega
            refine w_ald (i := 30) (t := 6) (n := 9) (npc := 36) rfl (hI.pl (by decide)) (hI.T (by decide) rfl) (by decide) rfl (by omega) (v := cr c56) (by rw [hb57e]; exact hI.texts (by omega)) ?_
            refine w_iload (i := 2) (npc := 37) rfl rfl ?_
            obtain ⟨z58, hz58, hz58a, hz58b⟩ := hI.txi hb57 (i : Int).toNat (by omega)
            have ghz58 := gv_eq hz58
            refine w_ald (i := c56) (t := 1) (n := 8) (npc := 38) rfl (hI.pl (by omega)) (hI.T (by omega) (tx_c hb57).1) (by decide) rfl (by omega) hz58 ?_
            refine w_aload (i := 0) (npc := 39) (v := cr 23) rfl rfl rfl ?_
            refine w_getf (i := 23) (ci := 5) (k := 0) (npc := 42) rfl (hI.pl (by decide)) (hI.T (by decide) rfl) (by decide) (hI.ref 23 0 (p := 24) (by decide) (by decide) rfl) ?_
            refine w_iload (i := 2) (npc := 43) rfl rfl ?_
            obtain ⟨z59, hz59, hz59a, hz59b⟩ := hI.int 24 (i : Int).toNat (lo := 0) (hi := 126) (by decide) (show (i : Int).toNat < 12 by omega) rfl
            have ghz59 := gv_eq hz59
            refine w_ald (i := 24) (t := 1) (n := 12) (npc := 44) rfl (hI.pl (by decide)) (hI.T (by decide) rfl) (by decide) rfl (by omega) hz59 ?_
            refine w_icmp (c := .eq) (npc := 47) (pt := 48) rfl (fun hc60 => ?_) (fun hc60 => ?_)
            · replace hc60 : z58 = z59 := hc60
              refine w_iinc (i := 2) (n := 1) (npc := 51) (loc' := [cr 23, ai_i t, ai_i (i + 1)]) rfl rfl (by omega) rfl ?_
              refine w_goto (pt := 16) rfl ?_
              exact ih16 (i + 1) (by omega) (by omega)
            · replace hc60 : ¬ (z58 = z59) := hc60
              exact w_vret rfl (⟨rfl, rfl, rfl, hI, hF, trivial⟩) (by omega) (by omega)
    exact loop16 _ (0) (Nat.lt_succ_self _) (by omega)
  · replace hc3 : ¬ (z1 = z2) := hc3
    exact w_vret rfl (⟨rfl, rfl, rfl, hI, hF, trivial⟩) (by omega) (by omega)
set_option maxRecDepth 16384 in
theorem ct_ty_walk_s {sl : Int × Int} {x : ai_E} {d : Nat} {T : cm_T} {E : cm_E} {nx : Nat} (t : Int)  (hI : cs_I T E nx) (hp0 : 0 ≤ t ∧ t ≤ 8) (hrec : t < 8 → ∀ E : cm_E, cs_I T E nx → cm_ct (ai_ev sl (d + 1)) x 102 [cr 23, ai_i (t + 1)] T E nx 0 0 (fun rk rv T' E' nx' => rk = 0 ∧ T = T' ∧ nx = nx' ∧ cs_I T E' nx ∧ cm_fr (fun i k => (28 ≤ i ∧ i ≤ 40) ∨ (i = 23 ∧ (k = 10 ∨ k = 11))) E E' ∧ (True))) : cm_ct (ai_ev sl (d + 2)) x 102 [cr 23, ai_i t] T E nx 0 0 (fun rk rv T' E' nx' => rk = 0 ∧ T = T' ∧ nx = nx' ∧ cs_I T E' nx ∧ cm_fr (fun i k => (28 ≤ i ∧ i ≤ 40) ∨ (i = 23 ∧ (k = 10 ∨ k = 11))) E E' ∧ (True)) := by
  refine cm_body (M := ai_m102) rfl rfl (fun kc ks => ?_)
  show cm_wp (ai_find ai_c102 sl) (ai_ev sl (d + 1)) x (kc + 0) (ks + 0) _ 0 [cr 23, ai_i t, ai_un, ai_un] [] T E nx kc ks
  have hF : cm_fr (fun i k => (28 ≤ i ∧ i ≤ 40) ∨ (i = 23 ∧ (k = 10 ∨ k = 11))) E E := fun _ _ _ => rfl
  refine w_aload (i := 0) (npc := 1) (v := cr 23) rfl rfl rfl ?_
  refine w_aload (i := 0) (npc := 2) (v := cr 23) rfl rfl rfl ?_
  obtain ⟨z1, hz1, hz1a, hz1b⟩ := hI.int 23 11 (lo := (-2147483648)) (hi := 2147483647) (by decide) (by decide) rfl
  have ghz1 := gv_eq hz1
  refine w_getf (i := 23) (ci := 5) (k := 11) (npc := 5) rfl (hI.pl (by decide)) (hI.T (by decide) rfl) (by decide) hz1 ?_
  refine w_iload (i := 1) (npc := 6) rfl rfl ?_
  refine w_max (npc := 9) rfl rfl ?_
  obtain ⟨z2, hz2⟩ : ∃ z2 : Int, z2 = max z1 t := ⟨_, rfl⟩
  rw [← hz2]
  refine w_putf (i := 23) (ci := 5) (k := 11) (t := 0) (npc := 12) rfl (hI.pl (by decide)) (hI.T (by decide) rfl) (by decide) cm_fit0 ?_
  have hI4 := hI.puti (i := 23) (k := 11) (z := z2) (lo := (-2147483648)) (hi := 2147483647) (by decide) rfl (by omega)
  have hF6 := cm_fr.up (i := 23) (k := 11) (v := ai_i z2) hF (by first | omega | (simp; done) | (simp; omega) | (simp only; omega))
  generalize hE5 : cm_up E 23 11 (ai_i z2) = E3 at hI4 hF6 ⊢
  have hz7 : E3 23 11 = ai_i z2 := by rw [← hE5, cm_up_eq]
  have ghz7 := gv_eq hz7
  refine w_iload (i := 1) (npc := 13) rfl rfl ?_
  refine w_aload (i := 0) (npc := 14) (v := cr 23) rfl rfl rfl ?_
  obtain ⟨z8, hz8, hz8a, hz8b⟩ := hI4.int 23 9 (lo := 0) (hi := 8) (by decide) (by decide) rfl
  have ghz8 := gv_eq hz8
  refine w_getf (i := 23) (ci := 5) (k := 9) (npc := 17) rfl (hI4.pl (by decide)) (hI4.T (by decide) rfl) (by decide) hz8 ?_
  refine w_icmp (c := .ge) (npc := 20) (pt := 26) rfl (fun hc9 => ?_) (fun hc9 => ?_)
  · replace hc9 : z8 ≤ t := hc9
    refine w_aload (i := 0) (npc := 27) (v := cr 23) rfl rfl rfl ?_
    refine w_iload (i := 1) (npc := 28) rfl rfl ?_
    refine w_virt (ci := 5) (i := 23) (npc := 31) (a := [cr 23, ai_i t]) (rest := []) rfl rfl (hI4.pl (by decide)) (hI4.T (by decide) rfl) rfl rfl rfl rfl (ct_ty_finishOrder (sl := sl) (x := x) (d := d + 0) (t) hI4 (by omega)) (Or.inl rfl) (fun k9 v9 T11 E11 nx11 kc11 ks11 hq10 hk11 hv11 => ?_)
    obtain ⟨rfl, rfl, rfl, hI13, hG14, hz12⟩ := hq10
    obtain rfl : kc = kc11 := by omega
    obtain rfl : ks = ks11 := by omega
    have hF16 := cm_fr.trans hF6 hG14 (by intro i k h; (try simp only at h); (try simp only); omega)
    have hz17 : E11 23 9 = ai_i z8 := (hG14 23 9 (by first | omega | (simp; done) | (simp; omega) | (simp only; omega))).trans hz8
    have ghz17 := gv_eq hz17
    refine Or.inl ⟨rfl, ?_⟩
    exact w_vret rfl (⟨rfl, rfl, rfl, hI13, hF16, trivial⟩) (by omega) (by omega)
  · replace hc9 : ¬ (z8 ≤ t) := hc9
    refine w_iload (i := 1) (npc := 21) rfl rfl ?_
    refine w_const (n := 8) (npc := 23) rfl ?_
    refine w_icmp (c := .lt) (npc := 26) (pt := 32) rfl (fun hc18 => ?_) (fun hc18 => ?_)
    · replace hc18 : t < (8 : Int) := hc18
      refine w_const (n := 0) (npc := 33) rfl ?_
      refine w_istore (i := 2) (npc := 34) (loc' := [cr 23, ai_i t, ai_i 0, ai_un]) rfl rfl ?_
      have loop34 : ∀ (nf : Nat) (p : Int) (u34_3 : ai_V) (Eq34 : cm_E), ((3 - p).toNat) < nf → cs_I T Eq34 nx → cm_fr (fun i k => (28 ≤ i ∧ i ≤ 40) ∨ (i = 23 ∧ (k = 10 ∨ k = 11))) E Eq34 → (0 ≤ p ∧ p ≤ 3) → cm_wp (ai_find ai_c102 sl) (ai_ev sl (d + 1)) x (kc + 0) (ks + 0) (fun rk rv T' E' nx' => rk = 0 ∧ T = T' ∧ nx = nx' ∧ cs_I T E' nx ∧ cm_fr (fun i k => (28 ≤ i ∧ i ≤ 40) ∨ (i = 23 ∧ (k = 10 ∨ k = 11))) E E' ∧ (True)) 34 [cr 23, ai_i t, ai_i p, u34_3] [] T Eq34 nx kc ks := by
        intro nf
        induction nf with
        | zero => intro p u34_3 Eq34 hm; exact absurd hm (Nat.not_lt_zero _)
        | succ nf34 ih =>
          intro p u34_3 Eq34 hm34 hI34 hF34 hv34
          have ih34 := ih; clear ih
          refine w_iload (i := 2) (npc := 35) rfl rfl ?_
          refine w_const (n := 3) (npc := 36) rfl ?_
          refine w_icmp (c := .ge) (npc := 39) (pt := 80) rfl (fun hc19 => ?_) (fun hc19 => ?_)
          · replace hc19 : (3 : Int) ≤ p := hc19
            exact w_vret rfl (⟨rfl, rfl, rfl, hI34, hF34, trivial⟩) (by omega) (by omega)
          · replace hc19 : ¬ ((3 : Int) ≤ p) := hc19
            refine w_aload (i := 0) (npc := 40) (v := cr 23) rfl rfl rfl ?_
            refine w_iload (i := 2) (npc := 41) rfl rfl ?_
            refine w_iload (i := 1) (npc := 42) rfl rfl ?_
            refine w_virt (ci := 5) (i := 23) (npc := 45) (a := [cr 23, ai_i p, ai_i t]) (rest := []) rfl rfl (hI34.pl (by decide)) (hI34.T (by decide) rfl) rfl rfl rfl rfl (ct_ty_nextAct (sl := sl) (x := x) (d := d + 0) (p) (t) hI34 (by omega)) (Or.inl rfl) (fun k9 v9 T21 E21 nx21 kc21 ks21 hq20 hk21 hv21 => ?_)
            obtain ⟨rfl, rfl, rfl, rfl, z22, rfl, hz22⟩ := hq20
            obtain rfl : kc = kc21 := by omega
            obtain rfl : ks = ks21 := by omega
            refine Or.inr (Or.inl ⟨rfl, ?_⟩)
            refine w_istore (i := 3) (npc := 46) (loc' := [cr 23, ai_i t, ai_i p, ai_i z22]) rfl rfl ?_
            refine w_iload (i := 3) (npc := 47) rfl rfl ?_
            refine w_const (n := (-1)) (npc := 48) rfl ?_
            refine w_icmp (c := .eq) (npc := 51) (pt := 74) rfl (fun hc26 => ?_) (fun hc26 => ?_)
            · replace hc26 : z22 = ((-1) : Int) := hc26
              refine w_iinc (i := 2) (n := 1) (npc := 77) (loc' := [cr 23, ai_i t, ai_i (p + 1), ai_i z22]) rfl rfl (by omega) rfl ?_
              refine w_goto (pt := 34) rfl ?_
              exact ih34 (p + 1) (ai_i z22) Eq34 (by omega) hI34 hF34 (by omega)
            · replace hc26 : ¬ (z22 = ((-1) : Int)) := hc26
              refine w_aload (i := 0) (npc := 52) (v := cr 23) rfl rfl rfl ?_
              refine w_iload (i := 3) (npc := 53) rfl rfl ?_
              refine w_iload (i := 1) (npc := 54) rfl rfl ?_
              refine w_virt (ci := 5) (i := 23) (npc := 57) (a := [cr 23, ai_i z22, ai_i t]) (rest := []) rfl rfl (hI34.pl (by decide)) (hI34.T (by decide) rfl) rfl rfl rfl rfl (ct_ty_perform (sl := sl) (x := x) (d := d + 0) (z22) (t) hI34 (by omega) (by omega)) (Or.inl rfl) (fun k9 v9 T29 E29 nx29 kc29 ks29 hq28 hk29 hv29 => ?_)
              obtain ⟨rfl, rfl, rfl, hI31, hG32, z30, rfl, hz30⟩ := hq28
              obtain rfl : kc = kc29 := by omega
              obtain rfl : ks = ks29 := by omega
              have hF34 := cm_fr.trans hF34 hG32 (by intro i k h; (try simp only at h); (try simp only); omega)
              refine Or.inr (Or.inl ⟨rfl, ?_⟩)
              refine w_if (c := .eq) (npc := 60) (pt := 74) rfl (fun hc35 => ?_) (fun hc35 => ?_)
              · replace hc35 : z30 = (0 : Int) := hc35
                refine w_iinc (i := 2) (n := 1) (npc := 77) (loc' := [cr 23, ai_i t, ai_i (p + 1), ai_i z22]) rfl rfl (by omega) rfl ?_
                refine w_goto (pt := 34) rfl ?_
                exact ih34 (p + 1) (ai_i z22) E29 (by omega) hI31 hF34 (by omega)
              · replace hc35 : ¬ (z30 = (0 : Int)) := hc35
                refine w_aload (i := 0) (npc := 61) (v := cr 23) rfl rfl rfl ?_
                refine w_getf (i := 23) (ci := 5) (k := 4) (npc := 64) rfl (hI31.pl (by decide)) (hI31.T (by decide) rfl) (by decide) (hI31.ref 23 4 (p := 28) (by decide) (by decide) rfl) ?_
                refine w_iload (i := 1) (npc := 65) rfl rfl ?_
                refine w_iload (i := 2) (npc := 66) rfl rfl ?_
                refine w_ast (i := 28) (k := 1) (n := 8) (npc := 67) rfl (hI31.pl (by decide)) (hI31.T (by decide) rfl) (by decide) (by omega) cm_af1 ?_
                have hI38 := hI31.puti (i := 28) (k := (t : Int).toNat) (z := p) (lo := 0) (hi := 2) (by decide) rfl (by omega)
                have hF40 := cm_fr.up (i := 28) (k := (t : Int).toNat) (v := ai_i p) hF34 (by first | omega | (simp; done) | (simp; omega) | (simp only; omega))
                generalize hE39 : cm_up E29 28 ((t : Int).toNat) (ai_i p) = E37 at hI38 hF40 ⊢
                have hz41 : E37 28 ((t : Int).toNat) = ai_i p := by rw [← hE39, cm_up_eq]
                have ghz41 := gv_eq hz41
                refine w_aload (i := 0) (npc := 68) (v := cr 23) rfl rfl rfl ?_
                refine w_iload (i := 1) (npc := 69) rfl rfl ?_
                refine w_const (n := 1) (npc := 70) rfl ?_
                refine w_iadd (npc := 71) rfl (by omega) ?_
                refine w_virt (ci := 5) (i := 23) (npc := 74) (a := [cr 23, ai_i (t + 1)]) (rest := []) rfl rfl (hI38.pl (by decide)) (hI38.T (by decide) rfl) rfl rfl rfl rfl (hrec (by omega) E37 hI38) (Or.inl rfl) (fun k9 v9 T44 E44 nx44 kc44 ks44 hq43 hk44 hv44 => ?_)
                obtain ⟨rfl, rfl, rfl, hI46, hG47, hz45⟩ := hq43
                obtain rfl : kc = kc44 := by omega
                obtain rfl : ks = ks44 := by omega
                have hF49 := cm_fr.trans hF40 hG47 (by intro i k h; (try simp only at h); (try simp only); omega)
                refine Or.inl ⟨rfl, ?_⟩
                refine w_iinc (i := 2) (n := 1) (npc := 77) (loc' := [cr 23, ai_i t, ai_i (p + 1), ai_i z22]) rfl rfl (by omega) rfl ?_
                refine w_goto (pt := 34) rfl ?_
                exact ih34 (p + 1) (ai_i z22) E44 (by omega) hI46 hF49 (by omega)
      exact loop34 _ (0) (ai_un) E3 (Nat.lt_succ_self _) hI4 hF6 (by omega)
    · replace hc18 : ¬ (t < (8 : Int)) := hc18
      refine w_aload (i := 0) (npc := 27) (v := cr 23) rfl rfl rfl ?_
      refine w_iload (i := 1) (npc := 28) rfl rfl ?_
      refine w_virt (ci := 5) (i := 23) (npc := 31) (a := [cr 23, ai_i t]) (rest := []) rfl rfl (hI4.pl (by decide)) (hI4.T (by decide) rfl) rfl rfl rfl rfl (ct_ty_finishOrder (sl := sl) (x := x) (d := d + 0) (t) hI4 (by omega)) (Or.inl rfl) (fun k9 v9 T52 E52 nx52 kc52 ks52 hq51 hk52 hv52 => ?_)
      obtain ⟨rfl, rfl, rfl, hI54, hG55, hz53⟩ := hq51
      obtain rfl : kc = kc52 := by omega
      obtain rfl : ks = ks52 := by omega
      have hF57 := cm_fr.trans hF6 hG55 (by intro i k h; (try simp only at h); (try simp only); omega)
      have hz58 : E52 23 9 = ai_i z8 := (hG55 23 9 (by first | omega | (simp; done) | (simp; omega) | (simp only; omega))).trans hz8
      have ghz58 := gv_eq hz58
      refine Or.inl ⟨rfl, ?_⟩
      exact w_vret rfl (⟨rfl, rfl, rfl, hI54, hF57, trivial⟩) (by omega) (by omega)
