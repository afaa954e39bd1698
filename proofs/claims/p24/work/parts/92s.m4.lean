set_option maxRecDepth 16384 in
theorem ct_ty_addSign2 {sl : Int × Int} {x : ai_E} {d : Nat} {T : cm_T} {E : cm_E} {nx : Nat} (g : Int)  (hI : cs_I T E nx) (hp0 : 0 ≤ g ∧ g ≤ 126) : cm_ct (ai_ev sl (d + 1)) x 96 [cr 23, ai_i g] T E nx 0 0 (fun rk rv T' E' nx' => rk = 1 ∧ T = T' ∧ nx = nx' ∧ cs_I T E' nx ∧ cm_fr (fun i k => (i = 23 ∧ (k = 8 ∨ k = 12)) ∨ (i = 24 ∧ k = (gv E 23 8).toNat)) E E' ∧ ∃ z : Int, rv = ai_i z ∧ ((z = 1 ∧ gv E 23 8 ≤ 11 ∧ gv E' 23 8 = gv E 23 8 + 1 ∧ gv E' 23 12 = 0 ∧ gv E' 24 (gv E 23 8).toNat = g) ∨ (z = 0 ∧ gv E 23 8 = 12 ∧ gv E' 23 8 = gv E 23 8 ∧ gv E' 23 12 = gv E 23 12 ∧ ∀ k : Nat, gv E' 24 k = gv E 24 k))) := by
  refine cm_body (M := ai_m96) rfl rfl (fun kc ks => ?_)
  show cm_wp (ai_find ai_c96 sl) (ai_ev sl (d + 0)) x (kc + 0) (ks + 0) _ 0 [cr 23, ai_i g] [] T E nx kc ks
  have hF : cm_fr (fun i k => (i = 23 ∧ (k = 8 ∨ k = 12)) ∨ (i = 24 ∧ k = (gv E 23 8).toNat)) E E := fun _ _ _ => rfl
  obtain ⟨z1, hz1, hz1a, hz1b⟩ := hI.int 23 8 (lo := 0) (hi := 12) (by decide) (by decide) rfl
  have ghz1 := gv_eq hz1
  refine w_aload (i := 0) (npc := 1) (v := cr 23) rfl rfl rfl ?_
  refine w_getf (i := 23) (ci := 5) (k := 8) (npc := 4) rfl (hI.pl (by decide)) (hI.T (by decide) rfl) (by decide) hz1 ?_
  refine w_const (n := 12) (npc := 6) rfl ?_
  refine w_icmp (c := .lt) (npc := 9) (pt := 11) rfl (fun hc2 => ?_) (fun hc2 => ?_)
  · replace hc2 : z1 < (12 : Int) := hc2
    refine w_aload (i := 0) (npc := 12) (v := cr 23) rfl rfl rfl ?_
    refine w_getf (i := 23) (ci := 5) (k := 0) (npc := 15) rfl (hI.pl (by decide)) (hI.T (by decide) rfl) (by decide) (hI.ref 23 0 (p := 24) (by decide) (by decide) rfl) ?_
    refine w_aload (i := 0) (npc := 16) (v := cr 23) rfl rfl rfl ?_
    refine w_getf (i := 23) (ci := 5) (k := 8) (npc := 19) rfl (hI.pl (by decide)) (hI.T (by decide) rfl) (by decide) hz1 ?_
    refine w_iload (i := 1) (npc := 20) rfl rfl ?_
    refine w_ast (i := 24) (k := 1) (n := 12) (npc := 21) rfl (hI.pl (by decide)) (hI.T (by decide) rfl) (by decide) (by omega) cm_af1 ?_
    have hI4 := hI.puti (i := 24) (k := (z1 : Int).toNat) (z := g) (lo := 0) (hi := 126) (by decide) rfl (by omega)
    have hF6 := cm_fr.up (i := 24) (k := (z1 : Int).toNat) (v := ai_i g) hF (by first | omega | (simp; done) | (simp; omega) | (simp only; omega))
    generalize hE5 : cm_up E 24 ((z1 : Int).toNat) (ai_i g) = E3 at hI4 hF6 ⊢
    have hz7 : E3 23 8 = ai_i z1 := by rw [← hE5, cm_up_nei _ _ (by decide)]; exact hz1
    have ghz7 := gv_eq hz7
    have hz8 : E3 24 ((z1 : Int).toNat) = ai_i g := by rw [← hE5, cm_up_eq]
    have ghz8 := gv_eq hz8
    refine w_aload (i := 0) (npc := 22) (v := cr 23) rfl rfl rfl ?_
    refine w_dup (npc := 23) rfl rfl ?_
    refine w_getf (i := 23) (ci := 5) (k := 8) (npc := 26) rfl (hI4.pl (by decide)) (hI4.T (by decide) rfl) (by decide) hz7 ?_
    refine w_const (n := 1) (npc := 27) rfl ?_
    refine w_iadd (npc := 28) rfl (by omega) ?_
    refine w_putf (i := 23) (ci := 5) (k := 8) (t := 0) (npc := 31) rfl (hI4.pl (by decide)) (hI4.T (by decide) rfl) (by decide) cm_fit0 ?_
    have hI11 := hI4.puti (i := 23) (k := 8) (z := z1 + 1) (lo := 0) (hi := 12) (by decide) rfl (by omega)
    have hF13 := cm_fr.up (i := 23) (k := 8) (v := ai_i (z1 + 1)) hF6 (by first | omega | (simp; done) | (simp; omega) | (simp only; omega))
    generalize hE12 : cm_up E3 23 8 (ai_i (z1 + 1)) = E10 at hI11 hF13 ⊢
    have hz14 : E10 24 ((z1 : Int).toNat) = ai_i g := by rw [← hE12, cm_up_nei _ _ (by decide)]; exact hz8
    have ghz14 := gv_eq hz14
    have hz15 : E10 23 8 = ai_i (z1 + 1) := by rw [← hE12, cm_up_eq]
    have ghz15 := gv_eq hz15
    refine w_aload (i := 0) (npc := 32) (v := cr 23) rfl rfl rfl ?_
    refine w_const (n := 0) (npc := 33) rfl ?_
    refine w_putf (i := 23) (ci := 5) (k := 12) (t := 1) (npc := 36) rfl (hI11.pl (by decide)) (hI11.T (by decide) rfl) (by decide) (cm_fit1 (by omega)) ?_
    have hI17 := hI11.puti (i := 23) (k := 12) (z := 0) (lo := 0) (hi := 1) (by decide) rfl (by omega)
    have hF19 := cm_fr.up (i := 23) (k := 12) (v := ai_i 0) hF13 (by first | omega | (simp; done) | (simp; omega) | (simp only; omega))
    generalize hE18 : cm_up E10 23 12 (ai_i 0) = E16 at hI17 hF19 ⊢
    have hz20 : E16 24 ((z1 : Int).toNat) = ai_i g := by rw [← hE18, cm_up_nei _ _ (by decide)]; exact hz14
    have ghz20 := gv_eq hz20
    have hz21 : E16 23 8 = ai_i (z1 + 1) := by rw [← hE18, cm_up_ne _ _ (by decide)]; exact hz15
    have ghz21 := gv_eq hz21
    have hz22 : E16 23 12 = ai_i 0 := by rw [← hE18, cm_up_eq]
    have ghz22 := gv_eq hz22
    refine w_const (n := 1) (npc := 37) rfl ?_
    exact w_zret rfl (by omega) (⟨rfl, rfl, rfl, hI17, hF19, 1, rfl, Or.inl ⟨rfl, by omega, by omega, by omega, by rw [← hE18, gv_ne _ _ (by omega), ← hE12, gv_ne _ _ (by omega), show gv E 23 8 = z1 by omega, ← hE5, gv_up]⟩⟩) (by omega) (by omega)
  · replace hc2 : ¬ (z1 < (12 : Int)) := hc2
    refine w_const (n := 0) (npc := 10) rfl ?_
    exact w_zret rfl (by omega) (⟨rfl, rfl, rfl, hI, hF, 0, rfl, Or.inr ⟨rfl, by omega, rfl, rfl, fun _ => rfl⟩⟩) (by omega) (by omega)
set_option maxRecDepth 16384 in
theorem ct_ty_addAct2 {sl : Int × Int} {x : ai_E} {d : Nat} {T : cm_T} {E : cm_E} {nx : Nat} (p l g : Int)  (hI : cs_I T E nx) (hp0 : 0 ≤ p ∧ p ≤ 2) (hp1 : 0 ≤ l ∧ l ≤ 7) (hp2 : -1 ≤ g ∧ g ≤ 126) : cm_ct (ai_ev sl (d + 1)) x 95 [cr 23, ai_i p, ai_i l, ai_i g] T E nx 0 0 (fun rk rv T' E' nx' => rk = 1 ∧ T = T' ∧ nx = nx' ∧ cs_I T E' nx ∧ cm_fr (fun i k => (i = 23 ∧ (k = 9 ∨ k = 12)) ∨ ((i = 25 ∨ i = 26 ∨ i = 27) ∧ k = (gv E 23 9).toNat)) E E' ∧ ∃ z : Int, rv = ai_i z ∧ ((z = 1 ∧ gv E 23 9 ≤ 7 ∧ gv E' 23 9 = gv E 23 9 + 1 ∧ gv E' 23 12 = 0 ∧ gv E' 25 (gv E 23 9).toNat = p ∧ gv E' 26 (gv E 23 9).toNat = l ∧ gv E' 27 (gv E 23 9).toNat = g) ∨ (z = 0 ∧ gv E 23 9 = 8 ∧ gv E' 23 9 = gv E 23 9 ∧ gv E' 23 12 = gv E 23 12 ∧ ∀ k : Nat, gv E' 25 k = gv E 25 k ∧ gv E' 26 k = gv E 26 k ∧ gv E' 27 k = gv E 27 k))) := by
  refine cm_body (M := ai_m95) rfl rfl (fun kc ks => ?_)
  show cm_wp (ai_find ai_c95 sl) (ai_ev sl (d + 0)) x (kc + 0) (ks + 0) _ 0 [cr 23, ai_i p, ai_i l, ai_i g] [] T E nx kc ks
  have hF : cm_fr (fun i k => (i = 23 ∧ (k = 9 ∨ k = 12)) ∨ ((i = 25 ∨ i = 26 ∨ i = 27) ∧ k = (gv E 23 9).toNat)) E E := fun _ _ _ => rfl
  obtain ⟨z1, hz1, hz1a, hz1b⟩ := hI.int 23 9 (lo := 0) (hi := 8) (by decide) (by decide) rfl
  have ghz1 := gv_eq hz1
  refine w_aload (i := 0) (npc := 1) (v := cr 23) rfl rfl rfl ?_
  refine w_getf (i := 23) (ci := 5) (k := 9) (npc := 4) rfl (hI.pl (by decide)) (hI.T (by decide) rfl) (by decide) hz1 ?_
  refine w_const (n := 8) (npc := 6) rfl ?_
  refine w_icmp (c := .lt) (npc := 9) (pt := 11) rfl (fun hc2 => ?_) (fun hc2 => ?_)
  · replace hc2 : z1 < (8 : Int) := hc2
    refine w_aload (i := 0) (npc := 12) (v := cr 23) rfl rfl rfl ?_
    refine w_getf (i := 23) (ci := 5) (k := 1) (npc := 15) rfl (hI.pl (by decide)) (hI.T (by decide) rfl) (by decide) (hI.ref 23 1 (p := 25) (by decide) (by decide) rfl) ?_
    refine w_aload (i := 0) (npc := 16) (v := cr 23) rfl rfl rfl ?_
    refine w_getf (i := 23) (ci := 5) (k := 9) (npc := 19) rfl (hI.pl (by decide)) (hI.T (by decide) rfl) (by decide) hz1 ?_
    refine w_iload (i := 1) (npc := 20) rfl rfl ?_
    refine w_ast (i := 25) (k := 1) (n := 8) (npc := 21) rfl (hI.pl (by decide)) (hI.T (by decide) rfl) (by decide) (by omega) cm_af1 ?_
    have hI4 := hI.puti (i := 25) (k := (z1 : Int).toNat) (z := p) (lo := 0) (hi := 2) (by decide) rfl (by omega)
    have hF6 := cm_fr.up (i := 25) (k := (z1 : Int).toNat) (v := ai_i p) hF (by first | omega | (simp; done) | (simp; omega) | (simp only; omega))
    generalize hE5 : cm_up E 25 ((z1 : Int).toNat) (ai_i p) = E3 at hI4 hF6 ⊢
    have hz7 : E3 23 9 = ai_i z1 := by rw [← hE5, cm_up_nei _ _ (by decide)]; exact hz1
    have ghz7 := gv_eq hz7
    have hz8 : E3 25 ((z1 : Int).toNat) = ai_i p := by rw [← hE5, cm_up_eq]
    have ghz8 := gv_eq hz8
    refine w_aload (i := 0) (npc := 22) (v := cr 23) rfl rfl rfl ?_
    refine w_getf (i := 23) (ci := 5) (k := 2) (npc := 25) rfl (hI4.pl (by decide)) (hI4.T (by decide) rfl) (by decide) (hI4.ref 23 2 (p := 26) (by decide) (by decide) rfl) ?_
    refine w_aload (i := 0) (npc := 26) (v := cr 23) rfl rfl rfl ?_
    refine w_getf (i := 23) (ci := 5) (k := 9) (npc := 29) rfl (hI4.pl (by decide)) (hI4.T (by decide) rfl) (by decide) hz7 ?_
    refine w_iload (i := 2) (npc := 30) rfl rfl ?_
    refine w_ast (i := 26) (k := 1) (n := 8) (npc := 31) rfl (hI4.pl (by decide)) (hI4.T (by decide) rfl) (by decide) (by omega) cm_af1 ?_
    have hI10 := hI4.puti (i := 26) (k := (z1 : Int).toNat) (z := l) (lo := 0) (hi := 7) (by decide) rfl (by omega)
    have hF12 := cm_fr.up (i := 26) (k := (z1 : Int).toNat) (v := ai_i l) hF6 (by first | omega | (simp; done) | (simp; omega) | (simp only; omega))
    generalize hE11 : cm_up E3 26 ((z1 : Int).toNat) (ai_i l) = E9 at hI10 hF12 ⊢
    have hz13 : E9 23 9 = ai_i z1 := by rw [← hE11, cm_up_nei _ _ (by decide)]; exact hz7
    have ghz13 := gv_eq hz13
    have hz14 : E9 25 ((z1 : Int).toNat) = ai_i p := by rw [← hE11, cm_up_nei _ _ (by decide)]; exact hz8
    have ghz14 := gv_eq hz14
    have hz15 : E9 26 ((z1 : Int).toNat) = ai_i l := by rw [← hE11, cm_up_eq]
    have ghz15 := gv_eq hz15
    refine w_aload (i := 0) (npc := 32) (v := cr 23) rfl rfl rfl ?_
    refine w_getf (i := 23) (ci := 5) (k := 3) (npc := 35) rfl (hI10.pl (by decide)) (hI10.T (by decide) rfl) (by decide) (hI10.ref 23 3 (p := 27) (by decide) (by decide) rfl) ?_
    refine w_aload (i := 0) (npc := 36) (v := cr 23) rfl rfl rfl ?_
    refine w_getf (i := 23) (ci := 5) (k := 9) (npc := 39) rfl (hI10.pl (by decide)) (hI10.T (by decide) rfl) (by decide) hz13 ?_
    refine w_iload (i := 3) (npc := 40) rfl rfl ?_
    refine w_ast (i := 27) (k := 1) (n := 8) (npc := 41) rfl (hI10.pl (by decide)) (hI10.T (by decide) rfl) (by decide) (by omega) cm_af1 ?_
    have hI17 := hI10.puti (i := 27) (k := (z1 : Int).toNat) (z := g) (lo := (-1)) (hi := 126) (by decide) rfl (by omega)
    have hF19 := cm_fr.up (i := 27) (k := (z1 : Int).toNat) (v := ai_i g) hF12 (by first | omega | (simp; done) | (simp; omega) | (simp only; omega))
    generalize hE18 : cm_up E9 27 ((z1 : Int).toNat) (ai_i g) = E16 at hI17 hF19 ⊢
    have hz20 : E16 23 9 = ai_i z1 := by rw [← hE18, cm_up_nei _ _ (by decide)]; exact hz13
    have ghz20 := gv_eq hz20
    have hz21 : E16 25 ((z1 : Int).toNat) = ai_i p := by rw [← hE18, cm_up_nei _ _ (by decide)]; exact hz14
    have ghz21 := gv_eq hz21
    have hz22 : E16 26 ((z1 : Int).toNat) = ai_i l := by rw [← hE18, cm_up_nei _ _ (by decide)]; exact hz15
    have ghz22 := gv_eq hz22
    have hz23 : E16 27 ((z1 : Int).toNat) = ai_i g := by rw [← hE18, cm_up_eq]
    have ghz23 := gv_eq hz23
    refine w_aload (i := 0) (npc := 42) (v := cr 23) rfl rfl rfl ?_
    refine w_dup (npc := 43) rfl rfl ?_
    refine w_getf (i := 23) (ci := 5) (k := 9) (npc := 46) rfl (hI17.pl (by decide)) (hI17.T (by decide) rfl) (by decide) hz20 ?_
    refine w_const (n := 1) (npc := 47) rfl ?_
    refine w_iadd (npc := 48) rfl (by omega) ?_
    refine w_putf (i := 23) (ci := 5) (k := 9) (t := 0) (npc := 51) rfl (hI17.pl (by decide)) (hI17.T (by decide) rfl) (by decide) cm_fit0 ?_
    have hI26 := hI17.puti (i := 23) (k := 9) (z := z1 + 1) (lo := 0) (hi := 8) (by decide) rfl (by omega)
    have hF28 := cm_fr.up (i := 23) (k := 9) (v := ai_i (z1 + 1)) hF19 (by first | omega | (simp; done) | (simp; omega) | (simp only; omega))
    generalize hE27 : cm_up E16 23 9 (ai_i (z1 + 1)) = E25 at hI26 hF28 ⊢
    have hz29 : E25 25 ((z1 : Int).toNat) = ai_i p := by rw [← hE27, cm_up_nei _ _ (by decide)]; exact hz21
    have ghz29 := gv_eq hz29
    have hz30 : E25 26 ((z1 : Int).toNat) = ai_i l := by rw [← hE27, cm_up_nei _ _ (by decide)]; exact hz22
    have ghz30 := gv_eq hz30
    have hz31 : E25 27 ((z1 : Int).toNat) = ai_i g := by rw [← hE27, cm_up_nei _ _ (by decide)]; exact hz23
    have ghz31 := gv_eq hz31
    have hz32 : E25 23 9 = ai_i (z1 + 1) := by rw [← hE27, cm_up_eq]
    have ghz32 := gv_eq hz32
    refine w_aload (i := 0) (npc := 52) (v := cr 23) rfl rfl rfl ?_
    refine w_const (n := 0) (npc := 53) rfl ?_
    refine w_putf (i := 23) (ci := 5) (k := 12) (t := 1) (npc := 56) rfl (hI26.pl (by decide)) (hI26.T (by decide) rfl) (by decide) (cm_fit1 (by omega)) ?_
    have hI34 := hI26.puti (i := 23) (k := 12) (z := 0) (lo := 0) (hi := 1) (by decide) rfl (by omega)
    have hF36 := cm_fr.up (i := 23) (k := 12) (v := ai_i 0) hF28 (by first | omega | (simp; done) | (simp; omega) | (simp only; omega))
    generalize hE35 : cm_up E25 23 12 (ai_i 0) = E33 at hI34 hF36 ⊢
    have hz37 : E33 25 ((z1 : Int).toNat) = ai_i p := by rw [← hE35, cm_up_nei _ _ (by decide)]; exact hz29
    have ghz37 := gv_eq hz37
    have hz38 : E33 26 ((z1 : Int).toNat) = ai_i l := by rw [← hE35, cm_up_nei _ _ (by decide)]; exact hz30
    have ghz38 := gv_eq hz38
    have hz39 : E33 27 ((z1 : Int).toNat) = ai_i g := by rw [← hE35, cm_up_nei _ _ (by decide)]; exact hz31
    have ghz39 := gv_eq hz39
    have hz40 : E33 23 9 = ai_i (z1 + 1) := by rw [← hE35, cm_up_ne _ _ (by decide)]; exact hz32
    have ghz40 := gv_eq hz40
    have hz41 : E33 23 12 = ai_i 0 := by rw [← hE35, cm_up_eq]
    have ghz41 := gv_eq hz41
    refine w_const (n := 1) (npc := 57) rfl ?_
    exact w_zret rfl (by omega) (⟨rfl, rfl, rfl, hI34, hF36, 1, rfl, Or.inl ⟨rfl, by omega, by omega, by omega, by rw [← hE35, gv_ne _ _ (by omega), ← hE27, gv_ne _ _ (by omega), ← hE18, gv_ne _ _ (by omega), ← hE11, gv_ne _ _ (by omega), show gv E 23 9 = z1 by omega, ← hE5, gv_up], by rw [← hE35, gv_ne _ _ (by omega), ← hE27, gv_ne _ _ (by omega), ← hE18, gv_ne _ _ (by omega), show gv E 23 9 = z1 by omega, ← hE11, gv_up], by rw [← hE35, gv_ne _ _ (by omega), ← hE27, gv_ne _ _ (by omega), show gv E 23 9 = z1 by omega, ← hE18, gv_up]⟩⟩) (by omega) (by omega)
  · replace hc2 : ¬ (z1 < (8 : Int)) := hc2
    refine w_const (n := 0) (npc := 10) rfl ?_
    exact w_zret rfl (by omega) (⟨rfl, rfl, rfl, hI, hF, 0, rfl, Or.inr ⟨rfl, by omega, rfl, rfl, fun _ => ⟨rfl, rfl, rfl⟩⟩⟩) (by omega) (by omega)
set_option maxRecDepth 16384 in
theorem ct_c_say2 {sl : Int × Int} {x : ai_E} {d : Nat} {T : cm_T} {E : cm_E} {nx : Nat} (g : Int)  (hI : cs_I T E nx) (hN : hn E) : cm_ct (ai_ev sl (d + 2)) x 30 [cr 0, ai_i g] T E nx 4 430 (fun rk rv T' E' nx' => rk = 1 ∧ T = T' ∧ nx = nx' ∧ cs_I T E' nx ∧ cm_fr (fun i k => i = 3 ∨ (i = 23 ∧ (k = 8 ∨ k = 12)) ∨ (i = 24 ∧ k = (gv E 23 8).toNat)) E E' ∧ hn E' ∧ ∃ z : Int, rv = ai_i z ∧ ((z = -1 ∧ (gv E 23 8 = 12 ∨ ¬ (32 ≤ g ∧ g ≤ 126)) ∧ gv E' 23 8 = gv E 23 8 ∧ gv E' 23 12 = gv E 23 12 ∧ ∀ k : Nat, gv E' 24 k = gv E 24 k) ∨ (z = gv E 23 8 + 1 ∧ gv E 23 8 ≤ 11 ∧ (32 ≤ g ∧ g ≤ 126) ∧ gv E' 23 8 = gv E 23 8 + 1 ∧ gv E' 23 12 = 0 ∧ gv E' 24 (gv E 23 8).toNat = g))) := by
  refine cm_body (M := ai_m30) rfl rfl (fun kc ks => ?_)
  show cm_wp (ai_find ai_c30 sl) (ai_ev sl (d + 1)) x (kc + 4) (ks + 430) _ 0 [cr 0, ai_i g] [] T E nx kc ks
  have hF : cm_fr (fun i k => i = 3 ∨ (i = 23 ∧ (k = 8 ∨ k = 12)) ∨ (i = 24 ∧ k = (gv E 23 8).toNat)) E E := fun _ _ _ => rfl
  obtain ⟨z1, hz1, hz1a, hz1b⟩ := hI.int 23 8 (lo := 0) (hi := 12) (by decide) (by decide) rfl
  have ghz1 := gv_eq hz1
  refine w_iload (i := 1) (npc := 1) rfl rfl ?_
  refine w_call (npc := 4) (a := [ai_i g]) (rest := []) rfl rfl rfl rfl rfl (ct_c_isSign (sl := sl) (x := x) (d := d + 0) (g)) (Or.inr (fun _ _ _ _ _ hq => by have h1 := hq.1; omega)) (fun k9 v9 T3 E3 nx3 kc3 ks3 hq2 hk3 hv3 => ?_)
  obtain ⟨rfl, rfl, rfl, rfl, z4, rfl, hz4⟩ := hq2
  obtain rfl : kc = kc3 := by omega
  obtain rfl : ks = ks3 := by omega
  refine Or.inr (Or.inl ⟨rfl, ?_⟩)
  refine w_if (c := .eq) (npc := 7) (pt := 28) rfl (fun hc8 => ?_) (fun hc8 => ?_)
  · replace hc8 : z4 = (0 : Int) := hc8
    refine w_aload (i := 0) (npc := 29) (v := cr 0) rfl rfl rfl ?_
    refine w_const (n := 2) (npc := 30) rfl ?_
    refine w_virt (ci := 7) (i := 0) (npc := 33) (a := [cr 0, ai_i 2]) (rest := []) rfl rfl (hI.pl (by decide)) (hI.T (by decide) rfl) rfl rfl rfl rfl (ct_c_refuse (sl := sl) (x := x) (d := d + 0) (2) hI (by omega)) (Or.inl rfl) (fun k9 v9 T10 E10 nx10 kc10 ks10 hq9 hk10 hv10 => ?_)
    obtain ⟨rfl, rfl, rfl, hI12, hG13, z11, rfl, hz11⟩ := hq9
    obtain rfl : kc = kc10 := by omega
    obtain rfl : ks = ks10 := by omega
    have hF15 := cm_fr.trans hF hG13 (by intro i k h; (try simp only at h); (try simp only); omega)
    have hN16 := hN.fr hG13 (by intro i k h; (try simp only at h); omega)
    have hz17 : E10 23 8 = ai_i z1 := (hG13 23 8 (by first | omega | (simp; done) | (simp; omega) | (simp only; omega))).trans hz1
    have ghz17 := gv_eq hz17
    refine Or.inr (Or.inl ⟨rfl, ?_⟩)
    exact w_iret rfl (⟨rfl, rfl, rfl, hI12, hF15, hN16, z11, rfl, Or.inl ⟨by omega, by omega, (gv_fr hG13 (by omega)).symm, (gv_fr hG13 (by omega)).symm, fun k => (gv_fr hG13 (by omega)).symm⟩⟩) (by omega) (by omega)
  · replace hc8 : ¬ (z4 = (0 : Int)) := hc8
    refine w_aload (i := 0) (npc := 8) (v := cr 0) rfl rfl rfl ?_
    refine w_getf (i := 0) (ci := 7) (k := 9) (npc := 11) rfl (hI.pl (by decide)) (hI.T (by decide) rfl) (by decide) (hI.ref 0 9 (p := 23) (by decide) (by decide) rfl) ?_
    refine w_iload (i := 1) (npc := 12) rfl rfl ?_
    refine w_virt (ci := 5) (i := 23) (npc := 15) (a := [cr 23, ai_i g]) (rest := []) rfl rfl (hI.pl (by decide)) (hI.T (by decide) rfl) rfl rfl rfl rfl (ct_ty_addSign2 (sl := sl) (x := x) (d := d + 0) (g) hI (by omega)) (Or.inl rfl) (fun k9 v9 T19 E19 nx19 kc19 ks19 hq18 hk19 hv19 => ?_)
    obtain ⟨rfl, rfl, rfl, hI21, hG22, z20, rfl, hz20⟩ := hq18
    obtain rfl : kc = kc19 := by omega
    obtain rfl : ks = ks19 := by omega
    have hF24 := cm_fr.trans hF hG22 (by intro i k h; (try simp only at h); (try simp only); omega)
    have hN25 := hN.fr hG22 (by intro i k h; (try simp only at h); omega)
    refine Or.inr (Or.inl ⟨rfl, ?_⟩)
    refine w_if (c := .eq) (npc := 18) (pt := 28) rfl (fun hc26 => ?_) (fun hc26 => ?_)
    · replace hc26 : z20 = (0 : Int) := hc26
      refine w_aload (i := 0) (npc := 29) (v := cr 0) rfl rfl rfl ?_
      refine w_const (n := 2) (npc := 30) rfl ?_
      obtain ⟨z27, hz27, hz27a, hz27b⟩ := hI21.int 23 8 (lo := 0) (hi := 12) (by decide) (by decide) rfl
      have ghz27 := gv_eq hz27
      refine w_virt (ci := 7) (i := 0) (npc := 33) (a := [cr 0, ai_i 2]) (rest := []) rfl rfl (hI21.pl (by decide)) (hI21.T (by decide) rfl) rfl rfl rfl rfl (ct_c_refuse (sl := sl) (x := x) (d := d + 0) (2) hI21 (by omega)) (Or.inl rfl) (fun k9 v9 T29 E29 nx29 kc29 ks29 hq28 hk29 hv29 => ?_)
      obtain ⟨rfl, rfl, rfl, hI31, hG32, z30, rfl, hz30⟩ := hq28
      obtain rfl : kc = kc29 := by omega
      obtain rfl : ks = ks29 := by omega
      have hF34 := cm_fr.trans hF24 hG32 (by intro i k h; (try simp only at h); (try simp only); omega)
      have hN35 := hN25.fr hG32 (by intro i k h; (try simp only at h); omega)
      have hz36 : E29 23 8 = ai_i z27 := (hG32 23 8 (by first | omega | (simp; done) | (simp; omega) | (simp only; omega))).trans hz27
      have ghz36 := gv_eq hz36
      refine Or.inr (Or.inl ⟨rfl, ?_⟩)
      exact w_iret rfl (⟨rfl, rfl, rfl, hI31, hF34, hN35, z30, rfl, by rcases hz20 with h8 | h8 <;> first | (exfalso; omega) | exact Or.inl ⟨by omega, by omega, by rw [← gv_fr hG32 (by omega)]; exact h8.2.2.1, by rw [← gv_fr hG32 (by omega)]; exact h8.2.2.2.1, fun k => by rw [← gv_fr hG32 (by omega)]; exact h8.2.2.2.2 k⟩⟩) (by omega) (by omega)
    · replace hc26 : ¬ (z20 = (0 : Int)) := hc26
      refine w_aload (i := 0) (npc := 19) (v := cr 0) rfl rfl rfl ?_
      refine w_getf (i := 0) (ci := 7) (k := 9) (npc := 22) rfl (hI21.pl (by decide)) (hI21.T (by decide) rfl) (by decide) (hI21.ref 0 9 (p := 23) (by decide) (by decide) rfl) ?_
      obtain ⟨z37, hz37, hz37a, hz37b⟩ := hI21.int 23 8 (lo := 0) (hi := 12) (by decide) (by decide) rfl
      have ghz37 := gv_eq hz37
      refine w_getf (i := 23) (ci := 5) (k := 8) (npc := 25) rfl (hI21.pl (by decide)) (hI21.T (by decide) rfl) (by decide) hz37 ?_
      refine w_goto (pt := 33) rfl ?_
      exact w_iret rfl (⟨rfl, rfl, rfl, hI21, hF24, hN25, z37, rfl, by rcases hz20 with h8 | h8 <;> first | exact Or.inr ⟨by omega, by omega, by omega, h8.2.2.1, h8.2.2.2.1, h8.2.2.2.2⟩ | (exfalso; omega)⟩) (by omega) (by omega)
set_option maxRecDepth 16384 in
theorem ct_c_act2 {sl : Int × Int} {x : ai_E} {d : Nat} {T : cm_T} {E : cm_E} {nx : Nat} (p l g : Int)  (hI : cs_I T E nx) (hN : hn E) : cm_ct (ai_ev sl (d + 2)) x 2 [cr 0, ai_i p, ai_i l, ai_i g] T E nx 4 430 (fun rk rv T' E' nx' => rk = 1 ∧ T = T' ∧ nx = nx' ∧ cs_I T E' nx ∧ cm_fr (fun i k => i = 3 ∨ (i = 23 ∧ (k = 9 ∨ k = 12)) ∨ ((i = 25 ∨ i = 26 ∨ i = 27) ∧ k = (gv E 23 9).toNat)) E E' ∧ hn E' ∧ ∃ z : Int, rv = ai_i z ∧ ((z = -1 ∧ (gv E 23 9 = 8 ∨ ¬ (0 ≤ p ∧ p ≤ 2 ∧ 0 ≤ l ∧ l ≤ 7 ∧ (g = -1 ∨ (32 ≤ g ∧ g ≤ 126)))) ∧ gv E' 23 9 = gv E 23 9 ∧ gv E' 23 12 = gv E 23 12 ∧ ∀ k : Nat, gv E' 25 k = gv E 25 k ∧ gv E' 26 k = gv E 26 k ∧ gv E' 27 k = gv E 27 k) ∨ (z = gv E 23 9 + 1 ∧ gv E 23 9 ≤ 7 ∧ (0 ≤ p ∧ p ≤ 2 ∧ 0 ≤ l ∧ l ≤ 7 ∧ (g = -1 ∨ (32 ≤ g ∧ g ≤ 126))) ∧ gv E' 23 9 = gv E 23 9 + 1 ∧ gv E' 23 12 = 0 ∧ gv E' 25 (gv E 23 9).toNat = p ∧ gv E' 26 (gv E 23 9).toNat = l ∧ gv E' 27 (gv E 23 9).toNat = g))) := by
  refine cm_body (M := ai_m2) rfl rfl (fun kc ks => ?_)
  show cm_wp (ai_find ai_c2 sl) (ai_ev sl (d + 1)) x (kc + 4) (ks + 430) _ 0 [cr 0, ai_i p, ai_i l, ai_i g, ai_un] [] T E nx kc ks
  have hF : cm_fr (fun i k => i = 3 ∨ (i = 23 ∧ (k = 9 ∨ k = 12)) ∨ ((i = 25 ∨ i = 26 ∨ i = 27) ∧ k = (gv E 23 9).toNat)) E E := fun _ _ _ => rfl
  obtain ⟨z1, hz1, hz1a, hz1b⟩ := hI.int 23 9 (lo := 0) (hi := 8) (by decide) (by decide) rfl
  have ghz1 := gv_eq hz1
  refine w_iload (i := 1) (npc := 1) rfl rfl ?_
  refine w_if (c := .lt) (npc := 4) (pt := 35) rfl (fun hc2 => ?_) (fun hc2 => ?_)
  · replace hc2 : p < (0 : Int) := hc2
    refine w_const (n := 0) (npc := 36) rfl ?_
    refine w_istore (i := 4) (npc := 38) (loc' := [cr 0, ai_i p, ai_i l, ai_i g, ai_i 0]) rfl rfl ?_
    refine w_iload (i := 4) (npc := 40) rfl rfl ?_
    refine w_if (c := .eq) (npc := 43) (pt := 66) rfl (fun hc3 => ?_) (fun hc3 => ?_)
    · replace hc3 : (0 : Int) = 0 := hc3
      refine w_aload (i := 0) (npc := 67) (v := cr 0) rfl rfl rfl ?_
      refine w_const (n := 2) (npc := 68) rfl ?_
      refine w_virt (ci := 7) (i := 0) (npc := 71) (a := [cr 0, ai_i 2]) (rest := []) rfl rfl (hI.pl (by decide)) (hI.T (by decide) rfl) rfl rfl rfl rfl (ct_c_refuse (sl := sl) (x := x) (d := d + 0) (2) hI (by omega)) (Or.inl rfl) (fun k9 v9 T5 E5 nx5 kc5 ks5 hq4 hk5 hv5 => ?_)
      obtain ⟨rfl, rfl, rfl, hI7, hG8, z6, rfl, hz6⟩ := hq4
      obtain rfl : kc = kc5 := by omega
      obtain rfl : ks = ks5 := by omega
      have hF10 := cm_fr.trans hF hG8 (by intro i k h; (try simp only at h); (try simp only); omega)
      have hN11 := hN.fr hG8 (by intro i k h; (try simp only at h); omega)
      have hz12 : E5 23 9 = ai_i z1 := (hG8 23 9 (by first | omega | (simp; done) | (simp; omega) | (simp only; omega))).trans hz1
      have ghz12 := gv_eq hz12
      refine Or.inr (Or.inl ⟨rfl, ?_⟩)
      exact w_iret rfl (⟨rfl, rfl, rfl, hI7, hF10, hN11, z6, rfl, Or.inl ⟨by omega, by omega, (gv_fr hG8 (by omega)).symm, (gv_fr hG8 (by omega)).symm, fun k => ⟨(gv_fr hG8 (by omega)).symm, (gv_fr hG8 (by omega)).symm, (gv_fr hG8 (by omega)).symm⟩⟩⟩) (by omega) (by omega)
    · replace hc3 : ¬ ((0 : Int) = 0) := hc3
      refine w_aload (i := 0) (npc := 44) (v := cr 0) rfl rfl rfl ?_
      refine w_getf (i := 0) (ci := 7) (k := 9) (npc := 47) rfl (hI.pl (by decide)) (hI.T (by decide) rfl) (by decide) (hI.ref 0 9 (p := 23) (by decide) (by decide) rfl) ?_
      refine w_iload (i := 1) (npc := 48) rfl rfl ?_
      refine w_iload (i := 2) (npc := 49) rfl rfl ?_
      refine w_iload (i := 3) (npc := 50) rfl rfl ?_
      refine w_virt (ci := 5) (i := 23) (npc := 53) (a := [cr 23, ai_i p, ai_i l, ai_i g]) (rest := []) rfl rfl (hI.pl (by decide)) (hI.T (by decide) rfl) rfl rfl rfl rfl (ct_ty_addAct2 (sl := sl) (x := x) (d := d + 0) (p) (l) (g) hI (by omega) (by omega) (by omega)) (Or.inl rfl) (fun k9 v9 T14 E14 nx14 kc14 ks14 hq13 hk14 hv14 => ?_)
      obtain ⟨rfl, rfl, rfl, hI16, hG17, z15, rfl, hz15⟩ := hq13
      obtain rfl : kc = kc14 := by omega
      obtain rfl : ks = ks14 := by omega
      have hF19 := cm_fr.trans hF hG17 (by intro i k h; (try simp only at h); (try simp only); omega)
      have hN20 := hN.fr hG17 (by intro i k h; (try simp only at h); omega)
      refine Or.inr (Or.inl ⟨rfl, ?_⟩)
      refine w_if (c := .eq) (npc := 56) (pt := 66) rfl (fun hc21 => ?_) (fun hc21 => ?_)
      · replace hc21 : z15 = (0 : Int) := hc21
        refine w_aload (i := 0) (npc := 67) (v := cr 0) rfl rfl rfl ?_
        refine w_const (n := 2) (npc := 68) rfl ?_
        obtain ⟨z22, hz22, hz22a, hz22b⟩ := hI16.int 23 9 (lo := 0) (hi := 8) (by decide) (by decide) rfl
        have ghz22 := gv_eq hz22
        refine w_virt (ci := 7) (i := 0) (npc := 71) (a := [cr 0, ai_i 2]) (rest := []) rfl rfl (hI16.pl (by decide)) (hI16.T (by decide) rfl) rfl rfl rfl rfl (ct_c_refuse (sl := sl) (x := x) (d := d + 0) (2) hI16 (by omega)) (Or.inl rfl) (fun k9 v9 T24 E24 nx24 kc24 ks24 hq23 hk24 hv24 => ?_)
        obtain ⟨rfl, rfl, rfl, hI26, hG27, z25, rfl, hz25⟩ := hq23
        obtain rfl : kc = kc24 := by omega
        obtain rfl : ks = ks24 := by omega
        have hF29 := cm_fr.trans hF19 hG27 (by intro i k h; (try simp only at h); (try simp only); omega)
        have hN30 := hN20.fr hG27 (by intro i k h; (try simp only at h); omega)
        have hz31 : E24 23 9 = ai_i z22 := (hG27 23 9 (by first | omega | (simp; done) | (simp; omega) | (simp only; omega))).trans hz22
        have ghz31 := gv_eq hz31
        refine Or.inr (Or.inl ⟨rfl, ?_⟩)
        exact w_iret rfl (⟨rfl, rfl, rfl, hI26, hF29, hN30, z25, rfl, by rcases hz15 with h8 | h8 <;> first | (exfalso; omega) | exact Or.inl ⟨by omega, by omega, by rw [← gv_fr hG27 (by omega)]; exact h8.2.2.1, by rw [← gv_fr hG27 (by omega)]; exact h8.2.2.2.1, fun k => ⟨by rw [← gv_fr hG27 (by omega)]; exact (h8.2.2.2.2 k).1, by rw [← gv_fr hG27 (by omega)]; exact (h8.2.2.2.2 k).2.1, by rw [← gv_fr hG27 (by omega)]; exact (h8.2.2.2.2 k).2.2⟩⟩⟩) (by omega) (by omega)
      · replace hc21 : ¬ (z15 = (0 : Int)) := hc21
        refine w_aload (i := 0) (npc := 57) (v := cr 0) rfl rfl rfl ?_
        refine w_getf (i := 0) (ci := 7) (k := 9) (npc := 60) rfl (hI16.pl (by decide)) (hI16.T (by decide) rfl) (by decide) (hI16.ref 0 9 (p := 23) (by decide) (by decide) rfl) ?_
        obtain ⟨z32, hz32, hz32a, hz32b⟩ := hI16.int 23 9 (lo := 0) (hi := 8) (by decide) (by decide) rfl
        have ghz32 := gv_eq hz32
        refine w_getf (i := 23) (ci := 5) (k := 9) (npc := 63) rfl (hI16.pl (by decide)) (hI16.T (by decide) rfl) (by decide) hz32 ?_
        refine w_goto (pt := 71) rfl ?_
        exact w_iret rfl (⟨rfl, rfl, rfl, hI16, hF19, hN20, z32, rfl, by rcases hz15 with h8 | h8 <;> first | exact Or.inr ⟨by omega, by omega, by omega, h8.2.2.1, h8.2.2.2.1, h8.2.2.2.2⟩ | (exfalso; omega)⟩) (by omega) (by omega)
  · replace hc2 : ¬ (p < (0 : Int)) := hc2
    refine w_iload (i := 1) (npc := 5) rfl rfl ?_
    refine w_const (n := 3) (npc := 6) rfl ?_
    refine w_icmp (c := .ge) (npc := 9) (pt := 35) rfl (fun hc33 => ?_) (fun hc33 => ?_)
    · replace hc33 : (3 : Int) ≤ p := hc33
      refine w_const (n := 0) (npc := 36) rfl ?_
      refine w_istore (i := 4) (npc := 38) (loc' := [cr 0, ai_i p, ai_i l, ai_i g, ai_i 0]) rfl rfl ?_
      refine w_iload (i := 4) (npc := 40) rfl rfl ?_
      refine w_if (c := .eq) (npc := 43) (pt := 66) rfl (fun hc34 => ?_) (fun hc34 => ?_)
      · replace hc34 : (0 : Int) = 0 := hc34
        refine w_aload (i := 0) (npc := 67) (v := cr 0) rfl rfl rfl ?_
        refine w_const (n := 2) (npc := 68) rfl ?_
        refine w_virt (ci := 7) (i := 0) (npc := 71) (a := [cr 0, ai_i 2]) (rest := []) rfl rfl (hI.pl (by decide)) (hI.T (by decide) rfl) rfl rfl rfl rfl (ct_c_refuse (sl := sl) (x := x) (d := d + 0) (2) hI (by omega)) (Or.inl rfl) (fun k9 v9 T36 E36 nx36 kc36 ks36 hq35 hk36 hv36 => ?_)
        obtain ⟨rfl, rfl, rfl, hI38, hG39, z37, rfl, hz37⟩ := hq35
        obtain rfl : kc = kc36 := by omega
        obtain rfl : ks = ks36 := by omega
        have hF41 := cm_fr.trans hF hG39 (by intro i k h; (try simp only at h); (try simp only); omega)
        have hN42 := hN.fr hG39 (by intro i k h; (try simp only at h); omega)
        have hz43 : E36 23 9 = ai_i z1 := (hG39 23 9 (by first | omega | (simp; done) | (simp; omega) | (simp only; omega))).trans hz1
        have ghz43 := gv_eq hz43
        refine Or.inr (Or.inl ⟨rfl, ?_⟩)
        exact w_iret rfl (⟨rfl, rfl, rfl, hI38, hF41, hN42, z37, rfl, Or.inl ⟨by omega, by omega, (gv_fr hG39 (by omega)).symm, (gv_fr hG39 (by omega)).symm, fun k => ⟨(gv_fr hG39 (by omega)).symm, (gv_fr hG39 (by omega)).symm, (gv_fr hG39 (by omega)).symm⟩⟩⟩) (by omega) (by omega)
      · replace hc34 : ¬ ((0 : Int) = 0) := hc34
        refine w_aload (i := 0) (npc := 44) (v := cr 0) rfl rfl rfl ?_
        refine w_getf (i := 0) (ci := 7) (k := 9) (npc := 47) rfl (hI.pl (by decide)) (hI.T (by decide) rfl) (by decide) (hI.ref 0 9 (p := 23) (by decide) (by decide) rfl) ?_
        refine w_iload (i := 1) (npc := 48) rfl rfl ?_
        refine w_iload (i := 2) (npc := 49) rfl rfl ?_
        refine w_iload (i := 3) (npc := 50) rfl rfl ?_
        refine w_virt (ci := 5) (i := 23) (npc := 53) (a := [cr 23, ai_i p, ai_i l, ai_i g]) (rest := []) rfl rfl (hI.pl (by decide)) (hI.T (by decide) rfl) rfl rfl rfl rfl (ct_ty_addAct2 (sl := sl) (x := x) (d := d + 0) (p) (l) (g) hI (by omega) (by omega) (by omega)) (Or.inl rfl) (fun k9 v9 T45 E45 nx45 kc45 ks45 hq44 hk45 hv45 => ?_)
        obtain ⟨rfl, rfl, rfl, hI47, hG48, z46, rfl, hz46⟩ := hq44
        obtain rfl : kc = kc45 := by omega
        obtain rfl : ks = ks45 := by omega
        have hF50 := cm_fr.trans hF hG48 (by intro i k h; (try simp only at h); (try simp only); omega)
        have hN51 := hN.fr hG48 (by intro i k h; (try simp only at h); omega)
        refine Or.inr (Or.inl ⟨rfl, ?_⟩)
        refine w_if (c := .eq) (npc := 56) (pt := 66) rfl (fun hc52 => ?_) (fun hc52 => ?_)
        · replace hc52 : z46 = (0 : Int) := hc52
          refine w_aload (i := 0) (npc := 67) (v := cr 0) rfl rfl rfl ?_
          refine w_const (n := 2) (npc := 68) rfl ?_
          obtain ⟨z53, hz53, hz53a, hz53b⟩ := hI47.int 23 9 (lo := 0) (hi := 8) (by decide) (by decide) rfl
          have ghz53 := gv_eq hz53
          refine w_virt (ci := 7) (i := 0) (npc := 71) (a := [cr 0, ai_i 2]) (rest := []) rfl rfl (hI47.pl (by decide)) (hI47.T (by decide) rfl) rfl rfl rfl rfl (ct_c_refuse (sl := sl) (x := x) (d := d + 0) (2) hI47 (by omega)) (Or.inl rfl) (fun k9 v9 T55 E55 nx55 kc55 ks55 hq54 hk55 hv55 => ?_)
          obtain ⟨rfl, rfl, rfl, hI57, hG58, z56, rfl, hz56⟩ := hq54
          obtain rfl : kc = kc55 := by omega
          obtain rfl : ks = ks55 := by omega
          have hF60 := cm_fr.trans hF50 hG58 (by intro i k h; (try simp only at h); (try simp only); omega)
          have hN61 := hN51.fr hG58 (by intro i k h; (try simp only at h); omega)
          have hz62 : E55 23 9 = ai_i z53 := (hG58 23 9 (by first | omega | (simp; done) | (simp; omega) | (simp only; omega))).trans hz53
          have ghz62 := gv_eq hz62
          refine Or.inr (Or.inl ⟨rfl, ?_⟩)
          exact w_iret rfl (⟨rfl, rfl, rfl, hI57, hF60, hN61, z56, rfl, by rcases hz46 with h8 | h8 <;> first | (exfalso; omega) | exact Or.inl ⟨by omega, by omega, by rw [← gv_fr hG58 (by omega)]; exact h8.2.2.1, by rw [← gv_fr hG58 (by omega)]; exact h8.2.2.2.1, fun k => ⟨by rw [← gv_fr hG58 (by omega)]; exact (h8.2.2.2.2 k).1, by rw [← gv_fr hG58 (by omega)]; exact (h8.2.2.2.2 k).2.1, by rw [← gv_fr hG58 (by omega)]; exact (h8.2.2.2.2 k).2.2⟩⟩⟩) (by omega) (by omega)
        · replace hc52 : ¬ (z46 = (0 : Int)) := hc52
          refine w_aload (i := 0) (npc := 57) (v := cr 0) rfl rfl rfl ?_
          refine w_getf (i := 0) (ci := 7) (k := 9) (npc := 60) rfl (hI47.pl (by decide)) (hI47.T (by decide) rfl) (by decide) (hI47.ref 0 9 (p := 23) (by decide) (by decide) rfl) ?_
          obtain ⟨z63, hz63, hz63a, hz63b⟩ := hI47.int 23 9 (lo := 0) (hi := 8) (by decide) (by decide) rfl
          have ghz63 := gv_eq hz63
          refine w_getf (i := 23) (ci := 5) (k := 9) (npc := 63) rfl (hI47.pl (by decide)) (hI47.T (by decide) rfl) (by decide) hz63 ?_
          refine w_goto (pt := 71) rfl ?_
          exact w_iret rfl (⟨rfl, rfl, rfl, hI47, hF50, hN51, z63, rfl, by rcases hz46 with h8 | h8 <;> first | exact Or.inr ⟨by omega, by omega, by omega, h8.2.2.1, h8.2.2.2.1, h8.2.2.2.2⟩ | (exfalso; omega)⟩) (by omega) (by omega)
    · replace hc33 : ¬ ((3 : Int) ≤ p) := hc33
      refine w_iload (i := 2) (npc := 10) rfl rfl ?_
      refine w_if (c := .lt) (npc := 13) (pt := 35) rfl (fun hc64 => ?_) (fun hc64 => ?_)
      · replace hc64 : l < (0 : Int) := hc64
        refine w_const (n := 0) (npc := 36) rfl ?_
        refine w_istore (i := 4) (npc := 38) (loc' := [cr 0, ai_i p, ai_i l, ai_i g, ai_i 0]) rfl rfl ?_
        refine w_iload (i := 4) (npc := 40) rfl rfl ?_
        refine w_if (c := .eq) (npc := 43) (pt := 66) rfl (fun hc65 => ?_) (fun hc65 => ?_)
        · replace hc65 : (0 : Int) = 0 := hc65
          refine w_aload (i := 0) (npc := 67) (v := cr 0) rfl rfl rfl ?_
          refine w_const (n := 2) (npc := 68) rfl ?_
          refine w_virt (ci := 7) (i := 0) (npc := 71) (a := [cr 0, ai_i 2]) (rest := []) rfl rfl (hI.pl (by decide)) (hI.T (by decide) rfl) rfl rfl rfl rfl (ct_c_refuse (sl := sl) (x := x) (d := d + 0) (2) hI (by omega)) (Or.inl rfl) (fun k9 v9 T67 E67 nx67 kc67 ks67 hq66 hk67 hv67 => ?_)
          obtain ⟨rfl, rfl, rfl, hI69, hG70, z68, rfl, hz68⟩ := hq66
          obtain rfl : kc = kc67 := by omega
          obtain rfl : ks = ks67 := by omega
          have hF72 := cm_fr.trans hF hG70 (by intro i k h; (try simp only at h); (try simp only); omega)
          have hN73 := hN.fr hG70 (by intro i k h; (try simp only at h); omega)
          have hz74 : E67 23 9 = ai_i z1 := (hG70 23 9 (by first | omega | (simp; done) | (simp; omega) | (simp only; omega))).trans hz1
          have ghz74 := gv_eq hz74
          refine Or.inr (Or.inl ⟨rfl, ?_⟩)
          exact w_iret rfl (⟨rfl, rfl, rfl, hI69, hF72, hN73, z68, rfl, Or.inl ⟨by omega, by omega, (gv_fr hG70 (by omega)).symm, (gv_fr hG70 (by omega)).symm, fun k => ⟨(gv_fr hG70 (by omega)).symm, (gv_fr hG70 (by omega)).symm, (gv_fr hG70 (by omega)).symm⟩⟩⟩) (by omega) (by omega)
        · replace hc65 : ¬ ((0 : Int) = 0) := hc65
          refine w_aload (i := 0) (npc := 44) (v := cr 0) rfl rfl rfl ?_
          refine w_getf (i := 0) (ci := 7) (k := 9) (npc := 47) rfl (hI.pl (by decide)) (hI.T (by decide) rfl) (by decide) (hI.ref 0 9 (p := 23) (by decide) (by decide) rfl) ?_
          refine w_iload (i := 1) (npc := 48) rfl rfl ?_
          refine w_iload (i := 2) (npc := 49) rfl rfl ?_
          refine w_iload (i := 3) (npc := 50) rfl rfl ?_
          refine w_virt (ci := 5) (i := 23) (npc := 53) (a := [cr 23, ai_i p, ai_i l, ai_i g]) (rest := []) rfl rfl (hI.pl (by decide)) (hI.T (by decide) rfl) rfl rfl rfl rfl (ct_ty_addAct2 (sl := sl) (x := x) (d := d + 0) (p) (l) (g) hI (by omega) (by omega) (by omega)) (Or.inl rfl) (fun k9 v9 T76 E76 nx76 kc76 ks76 hq75 hk76 hv76 => ?_)
          obtain ⟨rfl, rfl, rfl, hI78, hG79, z77, rfl, hz77⟩ := hq75
          obtain rfl : kc = kc76 := by omega
          obtain rfl : ks = ks76 := by omega
          have hF81 := cm_fr.trans hF hG79 (by intro i k h; (try simp only at h); (try simp only); omega)
          have hN82 := hN.fr hG79 (by intro i k h; (try simp only at h); omega)
          refine Or.inr (Or.inl ⟨rfl, ?_⟩)
          refine w_if (c := .eq) (npc := 56) (pt := 66) rfl (fun hc83 => ?_) (fun hc83 => ?_)
          · replace hc83 : z77 = (0 : Int) := hc83
            refine w_aload (i := 0) (npc := 67) (v := cr 0) rfl rfl rfl ?_
            refine w_const (n := 2) (npc := 68) rfl ?_
            obtain ⟨z84, hz84, hz84a, hz84b⟩ := hI78.int 23 9 (lo := 0) (hi := 8) (by decide) (by decide) rfl
            have ghz84 := gv_eq hz84
            refine w_virt (ci := 7) (i := 0) (npc := 71) (a := [cr 0, ai_i 2]) (rest := []) rfl rfl (hI78.pl (by decide)) (hI78.T (by decide) rfl) rfl rfl rfl rfl (ct_c_refuse (sl := sl) (x := x) (d := d + 0) (2) hI78 (by omega)) (Or.inl rfl) (fun k9 v9 T86 E86 nx86 kc86 ks86 hq85 hk86 hv86 => ?_)
            obtain ⟨rfl, rfl, rfl, hI88, hG89, z87, rfl, hz87⟩ := hq85
            obtain rfl : kc = kc86 := by omega
            obtain rfl : ks = ks86 := by omega
            have hF91 := cm_fr.trans hF81 hG89 (by intro i k h; (try simp only at h); (try simp only); omega)
            have hN92 := hN82.fr hG89 (by intro i k h; (try simp only at h); omega)
            have hz93 : E86 23 9 = ai_i z84 := (hG89 23 9 (by first | omega | (simp; done) | (simp; omega) | (simp only; omega))).trans hz84
            have ghz93 := gv_eq hz93
            refine Or.inr (Or.inl ⟨rfl, ?_⟩)
            exact w_iret rfl (⟨rfl, rfl, rfl, hI88, hF91, hN92, z87, rfl, by rcases hz77 with h8 | h8 <;> first | (exfalso; omega) | exact Or.inl ⟨by omega, by omega, by rw [← gv_fr hG89 (by omega)]; exact h8.2.2.1, by rw [← gv_fr hG89 (by omega)]; exact h8.2.2.2.1, fun k => ⟨by rw [← gv_fr hG89 (by omega)]; exact (h8.2.2.2.2 k).1, by rw [← gv_fr hG89 (by omega)]; exact (h8.2.2.2.2 k).2.1, by rw [← gv_fr hG89 (by omega)]; exact (h8.2.2.2.2 k).2.2⟩⟩⟩) (by omega) (by omega)
          · replace hc83 : ¬ (z77 = (0 : Int)) := hc83
            refine w_aload (i := 0) (npc := 57) (v := cr 0) rfl rfl rfl ?_
            refine w_getf (i := 0) (ci := 7) (k := 9) (npc := 60) rfl (hI78.pl (by decide)) (hI78.T (by decide) rfl) (by decide) (hI78.ref 0 9 (p := 23) (by decide) (by decide) rfl) ?_
            obtain ⟨z94, hz94, hz94a, hz94b⟩ := hI78.int 23 9 (lo := 0) (hi := 8) (by decide) (by decide) rfl
            have ghz94 := gv_eq hz94
            refine w_getf (i := 23) (ci := 5) (k := 9) (npc := 63) rfl (hI78.pl (by decide)) (hI78.T (by decide) rfl) (by decide) hz94 ?_
            refine w_goto (pt := 71) rfl ?_
            exact w_iret rfl (⟨rfl, rfl, rfl, hI78, hF81, hN82, z94, rfl, by rcases hz77 with h8 | h8 <;> first | exact Or.inr ⟨by omega, by omega, by omega, h8.2.2.1, h8.2.2.2.1, h8.2.2.2.2⟩ | (exfalso; omega)⟩) (by omega) (by omega)
      · replace hc64 : ¬ (l < (0 : Int)) := hc64
        refine w_iload (i := 2) (npc := 14) rfl rfl ?_
        refine w_const (n := 8) (npc := 16) rfl ?_
        refine w_icmp (c := .ge) (npc := 19) (pt := 35) rfl (fun hc95 => ?_) (fun hc95 => ?_)
        · replace hc95 : (8 : Int) ≤ l := hc95
          refine w_const (n := 0) (npc := 36) rfl ?_
          refine w_istore (i := 4) (npc := 38) (loc' := [cr 0, ai_i p, ai_i l, ai_i g, ai_i 0]) rfl rfl ?_
          refine w_iload (i := 4) (npc := 40) rfl rfl ?_
          refine w_if (c := .eq) (npc := 43) (pt := 66) rfl (fun hc96 => ?_) (fun hc96 => ?_)
          · replace hc96 : (0 : Int) = 0 := hc96
            refine w_aload (i := 0) (npc := 67) (v := cr 0) rfl rfl rfl ?_
            refine w_const (n := 2) (npc := 68) rfl ?_
            refine w_virt (ci := 7) (i := 0) (npc := 71) (a := [cr 0, ai_i 2]) (rest := []) rfl rfl (hI.pl (by decide)) (hI.T (by decide) rfl) rfl rfl rfl rfl (ct_c_refuse (sl := sl) (x := x) (d := d + 0) (2) hI (by omega)) (Or.inl rfl) (fun k9 v9 T98 E98 nx98 kc98 ks98 hq97 hk98 hv98 => ?_)
            obtain ⟨rfl, rfl, rfl, hI100, hG101, z99, rfl, hz99⟩ := hq97
            obtain rfl : kc = kc98 := by omega
            obtain rfl : ks = ks98 := by omega
            have hF103 := cm_fr.trans hF hG101 (by intro i k h; (try simp only at h); (try simp only); omega)
            have hN104 := hN.fr hG101 (by intro i k h; (try simp only at h); omega)
            have hz105 : E98 23 9 = ai_i z1 := (hG101 23 9 (by first | omega | (simp; done) | (simp; omega) | (simp only; omega))).trans hz1
            have ghz105 := gv_eq hz105
            refine Or.inr (Or.inl ⟨rfl, ?_⟩)
            exact w_iret rfl (⟨rfl, rfl, rfl, hI100, hF103, hN104, z99, rfl, Or.inl ⟨by omega, by omega, (gv_fr hG101 (by omega)).symm, (gv_fr hG101 (by omega)).symm, fun k => ⟨(gv_fr hG101 (by omega)).symm, (gv_fr hG101 (by omega)).symm, (gv_fr hG101 (by omega)).symm⟩⟩⟩) (by omega) (by omega)
          · replace hc96 : ¬ ((0 : Int) = 0) := hc96
            refine w_aload (i := 0) (npc := 44) (v := cr 0) rfl rfl rfl ?_
            refine w_getf (i := 0) (ci := 7) (k := 9) (npc := 47) rfl (hI.pl (by decide)) (hI.T (by decide) rfl) (by decide) (hI.ref 0 9 (p := 23) (by decide) (by decide) rfl) ?_
            refine w_iload (i := 1) (npc := 48) rfl rfl ?_
            refine w_iload (i := 2) (npc := 49) rfl rfl ?_
            refine w_iload (i := 3) (npc := 50) rfl rfl ?_
            refine w_virt (ci := 5) (i := 23) (npc := 53) (a := [cr 23, ai_i p, ai_i l, ai_i g]) (rest := []) rfl rfl (hI.pl (by decide)) (hI.T (by decide) rfl) rfl rfl rfl rfl (ct_ty_addAct2 (sl := sl) (x := x) (d := d + 0) (p) (l) (g) hI (by omega) (by omega) (by omega)) (Or.inl rfl) (fun k9 v9 T107 E107 nx107 kc107 ks107 hq106 hk107 hv107 => ?_)
            obtain ⟨rfl, rfl, rfl, hI109, hG110, z108, rfl, hz108⟩ := hq106
            obtain rfl : kc = kc107 := by omega
            obtain rfl : ks = ks107 := by omega
            have hF112 := cm_fr.trans hF hG110 (by intro i k h; (try simp only at h); (try simp only); omega)
            have hN113 := hN.fr hG110 (by intro i k h; (try simp only at h); omega)
            refine Or.inr (Or.inl ⟨rfl, ?_⟩)
            refine w_if (c := .eq) (npc := 56) (pt := 66) rfl (fun hc114 => ?_) (fun hc114 => ?_)
            · replace hc114 : z108 = (0 : Int) := hc114
              refine w_aload (i := 0) (npc := 67) (v := cr 0) rfl rfl rfl ?_
              refine w_const (n := 2) (npc := 68) rfl ?_
              obtain ⟨z115, hz115, hz115a, hz115b⟩ := hI109.int 23 9 (lo := 0) (hi := 8) (by decide) (by decide) rfl
              have ghz115 := gv_eq hz115
              refine w_virt (ci := 7) (i := 0) (npc := 71) (a := [cr 0, ai_i 2]) (rest := []) rfl rfl (hI109.pl (by decide)) (hI109.T (by decide) rfl) rfl rfl rfl rfl (ct_c_refuse (sl := sl) (x := x) (d := d + 0) (2) hI109 (by omega)) (Or.inl rfl) (fun k9 v9 T117 E117 nx117 kc117 ks117 hq116 hk117 hv117 => ?_)
              obtain ⟨rfl, rfl, rfl, hI119, hG120, z118, rfl, hz118⟩ := hq116
              obtain rfl : kc = kc117 := by omega
              obtain rfl : ks = ks117 := by omega
              have hF122 := cm_fr.trans hF112 hG120 (by intro i k h; (try simp only at h); (try simp only); omega)
              have hN123 := hN113.fr hG120 (by intro i k h; (try simp only at h); omega)
              have hz124 : E117 23 9 = ai_i z115 := (hG120 23 9 (by first | omega | (simp; done) | (simp; omega) | (simp only; omega))).trans hz115
              have ghz124 := gv_eq hz124
              refine Or.inr (Or.inl ⟨rfl, ?_⟩)
              exact w_iret rfl (⟨rfl, rfl, rfl, hI119, hF122, hN123, z118, rfl, by rcases hz108 with h8 | h8 <;> first | (exfalso; omega) | exact Or.inl ⟨by omega, by omega, by rw [← gv_fr hG120 (by omega)]; exact h8.2.2.1, by rw [← gv_fr hG120 (by omega)]; exact h8.2.2.2.1, fun k => ⟨by rw [← gv_fr hG120 (by omega)]; exact (h8.2.2.2.2 k).1, by rw [← gv_fr hG120 (by omega)]; exact (h8.2.2.2.2 k).2.1, by rw [← gv_fr hG120 (by omega)]; exact (h8.2.2.2.2 k).2.2⟩⟩⟩) (by omega) (by omega)
            · replace hc114 : ¬ (z108 = (0 : Int)) := hc114
              refine w_aload (i := 0) (npc := 57) (v := cr 0) rfl rfl rfl ?_
              refine w_getf (i := 0) (ci := 7) (k := 9) (npc := 60) rfl (hI109.pl (by decide)) (hI109.T (by decide) rfl) (by decide) (hI109.ref 0 9 (p := 23) (by decide) (by decide) rfl) ?_
              obtain ⟨z125, hz125, hz125a, hz125b⟩ := hI109.int 23 9 (lo := 0) (hi := 8) (by decide) (by decide) rfl
              have ghz125 := gv_eq hz125
              refine w_getf (i := 23) (ci := 5) (k := 9) (npc := 63) rfl (hI109.pl (by decide)) (hI109.T (by decide) rfl) (by decide) hz125 ?_
              refine w_goto (pt := 71) rfl ?_
              exact w_iret rfl (⟨rfl, rfl, rfl, hI109, hF112, hN113, z125, rfl, by rcases hz108 with h8 | h8 <;> first | exact Or.inr ⟨by omega, by omega, by omega, h8.2.2.1, h8.2.2.2.1, h8.2.2.2.2⟩ | (exfalso; omega)⟩) (by omega) (by omega)
        · replace hc95 : ¬ ((8 : Int) ≤ l) := hc95
          refine w_iload (i := 3) (npc := 20) rfl rfl ?_
          refine w_const (n := (-1)) (npc := 21) rfl ?_
          refine w_icmp (c := .eq) (npc := 24) (pt := 31) rfl (fun hc126 => ?_) (fun hc126 => ?_)
          · replace hc126 : g = ((-1) : Int) := hc126
            refine w_const (n := 1) (npc := 32) rfl ?_
            refine w_goto (pt := 36) rfl ?_
            refine w_istore (i := 4) (npc := 38) (loc' := [cr 0, ai_i p, ai_i l, ai_i g, ai_i 1]) rfl rfl ?_
            refine w_iload (i := 4) (npc := 40) rfl rfl ?_
            refine w_if (c := .eq) (npc := 43) (pt := 66) rfl (fun hc127 => ?_) (fun hc127 => ?_)
            · replace hc127 : (1 : Int) = 0 := hc127
              refine w_aload (i := 0) (npc := 67) (v := cr 0) rfl rfl rfl ?_
              refine w_const (n := 2) (npc := 68) rfl ?_
              refine w_virt (ci := 7) (i := 0) (npc := 71) (a := [cr 0, ai_i 2]) (rest := []) rfl rfl (hI.pl (by decide)) (hI.T (by decide) rfl) rfl rfl rfl rfl (ct_c_refuse (sl := sl) (x := x) (d := d + 0) (2) hI (by omega)) (Or.inl rfl) (fun k9 v9 T129 E129 nx129 kc129 ks129 hq128 hk129 hv129 => ?_)
              obtain ⟨rfl, rfl, rfl, hI131, hG132, z130, rfl, hz130⟩ := hq128
              obtain rfl : kc = kc129 := by omega
              obtain rfl : ks = ks129 := by omega
              have hF134 := cm_fr.trans hF hG132 (by intro i k h; (try simp only at h); (try simp only); omega)
              have hN135 := hN.fr hG132 (by intro i k h; (try simp only at h); omega)
              have hz136 : E129 23 9 = ai_i z1 := (hG132 23 9 (by first | omega | (simp; done) | (simp; omega) | (simp only; omega))).trans hz1
              have ghz136 := gv_eq hz136
              refine Or.inr (Or.inl ⟨rfl, ?_⟩)
              exact w_iret rfl (⟨rfl, rfl, rfl, hI131, hF134, hN135, z130, rfl, Or.inl ⟨by omega, by omega, (gv_fr hG132 (by omega)).symm, (gv_fr hG132 (by omega)).symm, fun k => ⟨(gv_fr hG132 (by omega)).symm, (gv_fr hG132 (by omega)).symm, (gv_fr hG132 (by omega)).symm⟩⟩⟩) (by omega) (by omega)
            · replace hc127 : ¬ ((1 : Int) = 0) := hc127
              refine w_aload (i := 0) (npc := 44) (v := cr 0) rfl rfl rfl ?_
              refine w_getf (i := 0) (ci := 7) (k := 9) (npc := 47) rfl (hI.pl (by decide)) (hI.T (by decide) rfl) (by decide) (hI.ref 0 9 (p := 23) (by decide) (by decide) rfl) ?_
              refine w_iload (i := 1) (npc := 48) rfl rfl ?_
              refine w_iload (i := 2) (npc := 49) rfl rfl ?_
              refine w_iload (i := 3) (npc := 50) rfl rfl ?_
              refine w_virt (ci := 5) (i := 23) (npc := 53) (a := [cr 23, ai_i p, ai_i l, ai_i g]) (rest := []) rfl rfl (hI.pl (by decide)) (hI.T (by decide) rfl) rfl rfl rfl rfl (ct_ty_addAct2 (sl := sl) (x := x) (d := d + 0) (p) (l) (g) hI (by omega) (by omega) (by omega)) (Or.inl rfl) (fun k9 v9 T138 E138 nx138 kc138 ks138 hq137 hk138 hv138 => ?_)
              obtain ⟨rfl, rfl, rfl, hI140, hG141, z139, rfl, hz139⟩ := hq137
              obtain rfl : kc = kc138 := by omega
              obtain rfl : ks = ks138 := by omega
              have hF143 := cm_fr.trans hF hG141 (by intro i k h; (try simp only at h); (try simp only); omega)
              have hN144 := hN.fr hG141 (by intro i k h; (try simp only at h); omega)
              refine Or.inr (Or.inl ⟨rfl, ?_⟩)
              refine w_if (c := .eq) (npc := 56) (pt := 66) rfl (fun hc145 => ?_) (fun hc145 => ?_)
              · replace hc145 : z139 = (0 : Int) := hc145
                refine w_aload (i := 0) (npc := 67) (v := cr 0) rfl rfl rfl ?_
                refine w_const (n := 2) (npc := 68) rfl ?_
                obtain ⟨z146, hz146, hz146a, hz146b⟩ := hI140.int 23 9 (lo := 0) (hi := 8) (by decide) (by decide) rfl
                have ghz146 := gv_eq hz146
                refine w_virt (ci := 7) (i := 0) (npc := 71) (a := [cr 0, ai_i 2]) (rest := []) rfl rfl (hI140.pl (by decide)) (hI140.T (by decide) rfl) rfl rfl rfl rfl (ct_c_refuse (sl := sl) (x := x) (d := d + 0) (2) hI140 (by omega)) (Or.inl rfl) (fun k9 v9 T148 E148 nx148 kc148 ks148 hq147 hk148 hv148 => ?_)
                obtain ⟨rfl, rfl, rfl, hI150, hG151, z149, rfl, hz149⟩ := hq147
                obtain rfl : kc = kc148 := by omega
                obtain rfl : ks = ks148 := by omega
                have hF153 := cm_fr.trans hF143 hG151 (by intro i k h; (try simp only at h); (try simp only); omega)
                have hN154 := hN144.fr hG151 (by intro i k h; (try simp only at h); omega)
                have hz155 : E148 23 9 = ai_i z146 := (hG151 23 9 (by first | omega | (simp; done) | (simp; omega) | (simp only; omega))).trans hz146
                have ghz155 := gv_eq hz155
                refine Or.inr (Or.inl ⟨rfl, ?_⟩)
                exact w_iret rfl (⟨rfl, rfl, rfl, hI150, hF153, hN154, z149, rfl, by rcases hz139 with h8 | h8 <;> first | (exfalso; omega) | exact Or.inl ⟨by omega, by omega, by rw [← gv_fr hG151 (by omega)]; exact h8.2.2.1, by rw [← gv_fr hG151 (by omega)]; exact h8.2.2.2.1, fun k => ⟨by rw [← gv_fr hG151 (by omega)]; exact (h8.2.2.2.2 k).1, by rw [← gv_fr hG151 (by omega)]; exact (h8.2.2.2.2 k).2.1, by rw [← gv_fr hG151 (by omega)]; exact (h8.2.2.2.2 k).2.2⟩⟩⟩) (by omega) (by omega)
              · replace hc145 : ¬ (z139 = (0 : Int)) := hc145
                refine w_aload (i := 0) (npc := 57) (v := cr 0) rfl rfl rfl ?_
                refine w_getf (i := 0) (ci := 7) (k := 9) (npc := 60) rfl (hI140.pl (by decide)) (hI140.T (by decide) rfl) (by decide) (hI140.ref 0 9 (p := 23) (by decide) (by decide) rfl) ?_
                obtain ⟨z156, hz156, hz156a, hz156b⟩ := hI140.int 23 9 (lo := 0) (hi := 8) (by decide) (by decide) rfl
                have ghz156 := gv_eq hz156
                refine w_getf (i := 23) (ci := 5) (k := 9) (npc := 63) rfl (hI140.pl (by decide)) (hI140.T (by decide) rfl) (by decide) hz156 ?_
                refine w_goto (pt := 71) rfl ?_
                exact w_iret rfl (⟨rfl, rfl, rfl, hI140, hF143, hN144, z156, rfl, by rcases hz139 with h8 | h8 <;> first | exact Or.inr ⟨by omega, by omega, by omega, h8.2.2.1, h8.2.2.2.1, h8.2.2.2.2⟩ | (exfalso; omega)⟩) (by omega) (by omega)
          · replace hc126 : ¬ (g = ((-1) : Int)) := hc126
            refine w_iload (i := 3) (npc := 25) rfl rfl ?_
            refine w_call (npc := 28) (a := [ai_i g]) (rest := []) rfl rfl rfl rfl rfl (ct_c_isSign (sl := sl) (x := x) (d := d + 0) (g)) (Or.inr (fun _ _ _ _ _ hq => by have h1 := hq.1; omega)) (fun k9 v9 T158 E158 nx158 kc158 ks158 hq157 hk158 hv158 => ?_)
            obtain ⟨rfl, rfl, rfl, rfl, z159, rfl, hz159⟩ := hq157
            obtain rfl : kc = kc158 := by omega
            obtain rfl : ks = ks158 := by omega
            refine Or.inr (Or.inl ⟨rfl, ?_⟩)
            refine w_if (c := .eq) (npc := 31) (pt := 35) rfl (fun hc163 => ?_) (fun hc163 => ?_)
            · replace hc163 : z159 = (0 : Int) := hc163
              refine w_const (n := 0) (npc := 36) rfl ?_
              refine w_istore (i := 4) (npc := 38) (loc' := [cr 0, ai_i p, ai_i l, ai_i g, ai_i 0]) rfl rfl ?_
              refine w_iload (i := 4) (npc := 40) rfl rfl ?_
              refine w_if (c := .eq) (npc := 43) (pt := 66) rfl (fun hc164 => ?_) (fun hc164 => ?_)
              · replace hc164 : (0 : Int) = 0 := hc164
                refine w_aload (i := 0) (npc := 67) (v := cr 0) rfl rfl rfl ?_
                refine w_const (n := 2) (npc := 68) rfl ?_
                refine w_virt (ci := 7) (i := 0) (npc := 71) (a := [cr 0, ai_i 2]) (rest := []) rfl rfl (hI.pl (by decide)) (hI.T (by decide) rfl) rfl rfl rfl rfl (ct_c_refuse (sl := sl) (x := x) (d := d + 0) (2) hI (by omega)) (Or.inl rfl) (fun k9 v9 T166 E166 nx166 kc166 ks166 hq165 hk166 hv166 => ?_)
                obtain ⟨rfl, rfl, rfl, hI168, hG169, z167, rfl, hz167⟩ := hq165
                obtain rfl : kc = kc166 := by omega
                obtain rfl : ks = ks166 := by omega
                have hF171 := cm_fr.trans hF hG169 (by intro i k h; (try simp only at h); (try simp only); omega)
                have hN172 := hN.fr hG169 (by intro i k h; (try simp only at h); omega)
                have hz173 : E166 23 9 = ai_i z1 := (hG169 23 9 (by first | omega | (simp; done) | (simp; omega) | (simp only; omega))).trans hz1
                have ghz173 := gv_eq hz173
                refine Or.inr (Or.inl ⟨rfl, ?_⟩)
                exact w_iret rfl (⟨rfl, rfl, rfl, hI168, hF171, hN172, z167, rfl, Or.inl ⟨by omega, by omega, (gv_fr hG169 (by omega)).symm, (gv_fr hG169 (by omega)).symm, fun k => ⟨(gv_fr hG169 (by omega)).symm, (gv_fr hG169 (by omega)).symm, (gv_fr hG169 (by omega)).symm⟩⟩⟩) (by omega) (by omega)
              · replace hc164 : ¬ ((0 : Int) = 0) := hc164
                refine w_aload (i := 0) (npc := 44) (v := cr 0) rfl rfl rfl ?_
                refine w_getf (i := 0) (ci := 7) (k := 9) (npc := 47) rfl (hI.pl (by decide)) (hI.T (by decide) rfl) (by decide) (hI.ref 0 9 (p := 23) (by decide) (by decide) rfl) ?_
                refine w_iload (i := 1) (npc := 48) rfl rfl ?_
                refine w_iload (i := 2) (npc := 49) rfl rfl ?_
                refine w_iload (i := 3) (npc := 50) rfl rfl ?_
                refine w_virt (ci := 5) (i := 23) (npc := 53) (a := [cr 23, ai_i p, ai_i l, ai_i g]) (rest := []) rfl rfl (hI.pl (by decide)) (hI.T (by decide) rfl) rfl rfl rfl rfl (ct_ty_addAct2 (sl := sl) (x := x) (d := d + 0) (p) (l) (g) hI (by omega) (by omega) (by omega)) (Or.inl rfl) (fun k9 v9 T175 E175 nx175 kc175 ks175 hq174 hk175 hv175 => ?_)
                obtain ⟨rfl, rfl, rfl, hI177, hG178, z176, rfl, hz176⟩ := hq174
                obtain rfl : kc = kc175 := by omega
                obtain rfl : ks = ks175 := by omega
                have hF180 := cm_fr.trans hF hG178 (by intro i k h; (try simp only at h); (try simp only); omega)
                have hN181 := hN.fr hG178 (by intro i k h; (try simp only at h); omega)
                refine Or.inr (Or.inl ⟨rfl, ?_⟩)
                refine w_if (c := .eq) (npc := 56) (pt := 66) rfl (fun hc182 => ?_) (fun hc182 => ?_)
                · replace hc182 : z176 = (0 : Int) := hc182
                  refine w_aload (i := 0) (npc := 67) (v := cr 0) rfl rfl rfl ?_
                  refine w_const (n := 2) (npc := 68) rfl ?_
                  obtain ⟨z183, hz183, hz183a, hz183b⟩ := hI177.int 23 9 (lo := 0) (hi := 8) (by decide) (by decide) rfl
                  have ghz183 := gv_eq hz183
                  refine w_virt (ci := 7) (i := 0) (npc := 71) (a := [cr 0, ai_i 2]) (rest := []) rfl rfl (hI177.pl (by decide)) (hI177.T (by decide) rfl) rfl rfl rfl rfl (ct_c_refuse (sl := sl) (x := x) (d := d + 0) (2) hI177 (by omega)) (Or.inl rfl) (fun k9 v9 T185 E185 nx185 kc185 ks185 hq184 hk185 hv185 => ?_)
                  obtain ⟨rfl, rfl, rfl, hI187, hG188, z186, rfl, hz186⟩ := hq184
                  obtain rfl : kc = kc185 := by omega
                  obtain rfl : ks = ks185 := by omega
                  have hF190 := cm_fr.trans hF180 hG188 (by intro i k h; (try simp only at h); (try simp only); omega)
                  have hN191 := hN181.fr hG188 (by intro i k h; (try simp only at h); omega)
                  have hz192 : E185 23 9 = ai_i z183 := (hG188 23 9 (by first | omega | (simp; done) | (simp; omega) | (simp only; omega))).trans hz183
                  have ghz192 := gv_eq hz192
                  refine Or.inr (Or.inl ⟨rfl, ?_⟩)
                  exact w_iret rfl (⟨rfl, rfl, rfl, hI187, hF190, hN191, z186, rfl, by rcases hz176 with h8 | h8 <;> first | (exfalso; omega) | exact Or.inl ⟨by omega, by omega, by rw [← gv_fr hG188 (by omega)]; exact h8.2.2.1, by rw [← gv_fr hG188 (by omega)]; exact h8.2.2.2.1, fun k => ⟨by rw [← gv_fr hG188 (by omega)]; exact (h8.2.2.2.2 k).1, by rw [← gv_fr hG188 (by omega)]; exact (h8.2.2.2.2 k).2.1, by rw [← gv_fr hG188 (by omega)]; exact (h8.2.2.2.2 k).2.2⟩⟩⟩) (by omega) (by omega)
                · replace hc182 : ¬ (z176 = (0 : Int)) := hc182
                  refine w_aload (i := 0) (npc := 57) (v := cr 0) rfl rfl rfl ?_
                  refine w_getf (i := 0) (ci := 7) (k := 9) (npc := 60) rfl (hI177.pl (by decide)) (hI177.T (by decide) rfl) (by decide) (hI177.ref 0 9 (p := 23) (by decide) (by decide) rfl) ?_
                  obtain ⟨z193, hz193, hz193a, hz193b⟩ := hI177.int 23 9 (lo := 0) (hi := 8) (by decide) (by decide) rfl
                  have ghz193 := gv_eq hz193
                  refine w_getf (i := 23) (ci := 5) (k := 9) (npc := 63) rfl (hI177.pl (by decide)) (hI177.T (by decide) rfl) (by decide) hz193 ?_
                  refine w_goto (pt := 71) rfl ?_
                  exact w_iret rfl (⟨rfl, rfl, rfl, hI177, hF180, hN181, z193, rfl, by rcases hz176 with h8 | h8 <;> first | exact Or.inr ⟨by omega, by omega, by omega, h8.2.2.1, h8.2.2.2.1, h8.2.2.2.2⟩ | (exfalso; omega)⟩) (by omega) (by omega)
            · replace hc163 : ¬ (z159 = (0 : Int)) := hc163
              refine w_const (n := 1) (npc := 32) rfl ?_
              refine w_goto (pt := 36) rfl ?_
              refine w_istore (i := 4) (npc := 38) (loc' := [cr 0, ai_i p, ai_i l, ai_i g, ai_i 1]) rfl rfl ?_
              refine w_iload (i := 4) (npc := 40) rfl rfl ?_
              refine w_if (c := .eq) (npc := 43) (pt := 66) rfl (fun hc194 => ?_) (fun hc194 => ?_)
              · replace hc194 : (1 : Int) = 0 := hc194
                refine w_aload (i := 0) (npc := 67) (v := cr 0) rfl rfl rfl ?_
                refine w_const (n := 2) (npc := 68) rfl ?_
                refine w_virt (ci := 7) (i := 0) (npc := 71) (a := [cr 0, ai_i 2]) (rest := []) rfl rfl (hI.pl (by decide)) (hI.T (by decide) rfl) rfl rfl rfl rfl (ct_c_refuse (sl := sl) (x := x) (d := d + 0) (2) hI (by omega)) (Or.inl rfl) (fun k9 v9 T196 E196 nx196 kc196 ks196 hq195 hk196 hv196 => ?_)
                obtain ⟨rfl, rfl, rfl, hI198, hG199, z197, rfl, hz197⟩ := hq195
                obtain rfl : kc = kc196 := by omega
                obtain rfl : ks = ks196 := by omega
                have hF201 := cm_fr.trans hF hG199 (by intro i k h; (try simp only at h); (try simp only); omega)
                have hN202 := hN.fr hG199 (by intro i k h; (try simp only at h); omega)
                have hz203 : E196 23 9 = ai_i z1 := (hG199 23 9 (by first | omega | (simp; done) | (simp; omega) | (simp only; omega))).trans hz1
                have ghz203 := gv_eq hz203
                refine Or.inr (Or.inl ⟨rfl, ?_⟩)
                exact w_iret rfl (⟨rfl, rfl, rfl, hI198, hF201, hN202, z197, rfl, Or.inl ⟨by omega, by omega, (gv_fr hG199 (by omega)).symm, (gv_fr hG199 (by omega)).symm, fun k => ⟨(gv_fr hG199 (by omega)).symm, (gv_fr hG199 (by omega)).symm, (gv_fr hG199 (by omega)).symm⟩⟩⟩) (by omega) (by omega)
              · replace hc194 : ¬ ((1 : Int) = 0) := hc194
                refine w_aload (i := 0) (npc := 44) (v := cr 0) rfl rfl rfl ?_
                refine w_getf (i := 0) (ci := 7) (k := 9) (npc := 47) rfl (hI.pl (by decide)) (hI.T (by decide) rfl) (by decide) (hI.ref 0 9 (p := 23) (by decide) (by decide) rfl) ?_
                refine w_iload (i := 1) (npc := 48) rfl rfl ?_
                refine w_iload (i := 2) (npc := 49) rfl rfl ?_
                refine w_iload (i := 3) (npc := 50) rfl rfl ?_
                refine w_virt (ci := 5) (i := 23) (npc := 53) (a := [cr 23, ai_i p, ai_i l, ai_i g]) (rest := []) rfl rfl (hI.pl (by decide)) (hI.T (by decide) rfl) rfl rfl rfl rfl (ct_ty_addAct2 (sl := sl) (x := x) (d := d + 0) (p) (l) (g) hI (by omega) (by omega) (by omega)) (Or.inl rfl) (fun k9 v9 T205 E205 nx205 kc205 ks205 hq204 hk205 hv205 => ?_)
                obtain ⟨rfl, rfl, rfl, hI207, hG208, z206, rfl, hz206⟩ := hq204
                obtain rfl : kc = kc205 := by omega
                obtain rfl : ks = ks205 := by omega
                have hF210 := cm_fr.trans hF hG208 (by intro i k h; (try simp only at h); (try simp only); omega)
                have hN211 := hN.fr hG208 (by intro i k h; (try simp only at h); omega)
                refine Or.inr (Or.inl ⟨rfl, ?_⟩)
                refine w_if (c := .eq) (npc := 56) (pt := 66) rfl (fun hc212 => ?_) (fun hc212 => ?_)
                · replace hc212 : z206 = (0 : Int) := hc212
                  refine w_aload (i := 0) (npc := 67) (v := cr 0) rfl rfl rfl ?_
                  refine w_const (n := 2) (npc := 68) rfl ?_
                  obtain ⟨z213, hz213, hz213a, hz213b⟩ := hI207.int 23 9 (lo := 0) (hi := 8) (by decide) (by decide) rfl
                  have ghz213 := gv_eq hz213
                  refine w_virt (ci := 7) (i := 0) (npc := 71) (a := [cr 0, ai_i 2]) (rest := []) rfl rfl (hI207.pl (by decide)) (hI207.T (by decide) rfl) rfl rfl rfl rfl (ct_c_refuse (sl := sl) (x := x) (d := d + 0) (2) hI207 (by omega)) (Or.inl rfl) (fun k9 v9 T215 E215 nx215 kc215 ks215 hq214 hk215 hv215 => ?_)
                  obtain ⟨rfl, rfl, rfl, hI217, hG218, z216, rfl, hz216⟩ := hq214
                  obtain rfl : kc = kc215 := by omega
                  obtain rfl : ks = ks215 := by omega
                  have hF220 := cm_fr.trans hF210 hG218 (by intro i k h; (try simp only at h); (try simp only); omega)
                  have hN221 := hN211.fr hG218 (by intro i k h; (try simp only at h); omega)
                  have hz222 : E215 23 9 = ai_i z213 := (hG218 23 9 (by first | omega | (simp; done) | (simp; omega) | (simp only; omega))).trans hz213
                  have ghz222 := gv_eq hz222
                  refine Or.inr (Or.inl ⟨rfl, ?_⟩)
                  exact w_iret rfl (⟨rfl, rfl, rfl, hI217, hF220, hN221, z216, rfl, by rcases hz206 with h8 | h8 <;> first | (exfalso; omega) | exact Or.inl ⟨by omega, by omega, by rw [← gv_fr hG218 (by omega)]; exact h8.2.2.1, by rw [← gv_fr hG218 (by omega)]; exact h8.2.2.2.1, fun k => ⟨by rw [← gv_fr hG218 (by omega)]; exact (h8.2.2.2.2 k).1, by rw [← gv_fr hG218 (by omega)]; exact (h8.2.2.2.2 k).2.1, by rw [← gv_fr hG218 (by omega)]; exact (h8.2.2.2.2 k).2.2⟩⟩⟩) (by omega) (by omega)
                · replace hc212 : ¬ (z206 = (0 : Int)) := hc212
                  refine w_aload (i := 0) (npc := 57) (v := cr 0) rfl rfl rfl ?_
                  refine w_getf (i := 0) (ci := 7) (k := 9) (npc := 60) rfl (hI207.pl (by decide)) (hI207.T (by decide) rfl) (by decide) (hI207.ref 0 9 (p := 23) (by decide) (by decide) rfl) ?_
                  obtain ⟨z223, hz223, hz223a, hz223b⟩ := hI207.int 23 9 (lo := 0) (hi := 8) (by decide) (by decide) rfl
                  have ghz223 := gv_eq hz223
                  refine w_getf (i := 23) (ci := 5) (k := 9) (npc := 63) rfl (hI207.pl (by decide)) (hI207.T (by decide) rfl) (by decide) hz223 ?_
                  refine w_goto (pt := 71) rfl ?_
                  exact w_iret rfl (⟨rfl, rfl, rfl, hI207, hF210, hN211, z223, rfl, by rcases hz206 with h8 | h8 <;> first | exact Or.inr ⟨by omega, by omega, by omega, h8.2.2.1, h8.2.2.2.1, h8.2.2.2.2⟩ | (exfalso; omega)⟩) (by omega) (by omega)
set_option maxRecDepth 16384 in
theorem ct_ty_empty2 {sl : Int × Int} {x : ai_E} {d : Nat} {T : cm_T} {E : cm_E} {nx : Nat}  (hI : cs_I T E nx) : cm_ct (ai_ev sl (d + 1)) x 97 [cr 23] T E nx 0 0 (fun rk rv T' E' nx' => rk = 0 ∧ T = T' ∧ nx = nx' ∧ cs_I T E' nx ∧ cm_fr (fun i k => i = 23 ∧ (k = 8 ∨ k = 9 ∨ k = 12)) E E' ∧ (gv E' 23 8 = 0 ∧ gv E' 23 9 = 0 ∧ gv E' 23 12 = 0)) := by
  refine cm_body (M := ai_m97) rfl rfl (fun kc ks => ?_)
  show cm_wp (ai_find ai_c97 sl) (ai_ev sl (d + 0)) x (kc + 0) (ks + 0) _ 0 [cr 23] [] T E nx kc ks
  have hF : cm_fr (fun i k => i = 23 ∧ (k = 8 ∨ k = 9 ∨ k = 12)) E E := fun _ _ _ => rfl
  refine w_aload (i := 0) (npc := 1) (v := cr 23) rfl rfl rfl ?_
  refine w_const (n := 0) (npc := 2) rfl ?_
  refine w_putf (i := 23) (ci := 5) (k := 8) (t := 0) (npc := 5) rfl (hI.pl (by decide)) (hI.T (by decide) rfl) (by decide) cm_fit0 ?_
  have hI2 := hI.puti (i := 23) (k := 8) (z := 0) (lo := 0) (hi := 12) (by decide) rfl (by omega)
  have hF4 := cm_fr.up (i := 23) (k := 8) (v := ai_i 0) hF (by first | omega | (simp; done) | (simp; omega) | (simp only; omega))
  generalize hE3 : cm_up E 23 8 (ai_i 0) = E1 at hI2 hF4 ⊢
  have hz5 : E1 23 8 = ai_i 0 := by rw [← hE3, cm_up_eq]
  have ghz5 := gv_eq hz5
  refine w_aload (i := 0) (npc := 6) (v := cr 23) rfl rfl rfl ?_
  refine w_const (n := 0) (npc := 7) rfl ?_
  refine w_putf (i := 23) (ci := 5) (k := 9) (t := 0) (npc := 10) rfl (hI2.pl (by decide)) (hI2.T (by decide) rfl) (by decide) cm_fit0 ?_
  have hI7 := hI2.puti (i := 23) (k := 9) (z := 0) (lo := 0) (hi := 8) (by decide) rfl (by omega)
  have hF9 := cm_fr.up (i := 23) (k := 9) (v := ai_i 0) hF4 (by first | omega | (simp; done) | (simp; omega) | (simp only; omega))
  generalize hE8 : cm_up E1 23 9 (ai_i 0) = E6 at hI7 hF9 ⊢
  have hz10 : E6 23 8 = ai_i 0 := by rw [← hE8, cm_up_ne _ _ (by decide)]; exact hz5
  have ghz10 := gv_eq hz10
  have hz11 : E6 23 9 = ai_i 0 := by rw [← hE8, cm_up_eq]
  have ghz11 := gv_eq hz11
  refine w_aload (i := 0) (npc := 11) (v := cr 23) rfl rfl rfl ?_
  refine w_const (n := 0) (npc := 12) rfl ?_
  refine w_putf (i := 23) (ci := 5) (k := 12) (t := 1) (npc := 15) rfl (hI7.pl (by decide)) (hI7.T (by decide) rfl) (by decide) (cm_fit1 (by omega)) ?_
  have hI13 := hI7.puti (i := 23) (k := 12) (z := 0) (lo := 0) (hi := 1) (by decide) rfl (by omega)
  have hF15 := cm_fr.up (i := 23) (k := 12) (v := ai_i 0) hF9 (by first | omega | (simp; done) | (simp; omega) | (simp only; omega))
  generalize hE14 : cm_up E6 23 12 (ai_i 0) = E12 at hI13 hF15 ⊢
  have hz16 : E12 23 8 = ai_i 0 := by rw [← hE14, cm_up_ne _ _ (by decide)]; exact hz10
  have ghz16 := gv_eq hz16
  have hz17 : E12 23 9 = ai_i 0 := by rw [← hE14, cm_up_ne _ _ (by decide)]; exact hz11
  have ghz17 := gv_eq hz17
  have hz18 : E12 23 12 = ai_i 0 := by rw [← hE14, cm_up_eq]
  have ghz18 := gv_eq hz18
  exact w_vret rfl (⟨rfl, rfl, rfl, hI13, hF15, by omega⟩) (by omega) (by omega)
set_option maxRecDepth 16384 in
theorem ct_c_clear2 {sl : Int × Int} {x : ai_E} {d : Nat} {T : cm_T} {E : cm_E} {nx : Nat}  (hI : cs_I T E nx) (hN : hn E) : cm_ct (ai_ev sl (d + 2)) x 6 [cr 0] T E nx 4 430 (fun rk rv T' E' nx' => rk = 0 ∧ T = T' ∧ nx = nx' ∧ cs_I T E' nx ∧ cm_fr (fun i k => i = 23 ∧ (k = 8 ∨ k = 9 ∨ k = 12)) E E' ∧ hn E' ∧ (gv E' 23 8 = 0 ∧ gv E' 23 9 = 0 ∧ gv E' 23 12 = 0)) := by
  refine cm_body (M := ai_m6) rfl rfl (fun kc ks => ?_)
  show cm_wp (ai_find ai_c6 sl) (ai_ev sl (d + 1)) x (kc + 4) (ks + 430) _ 0 [cr 0] [] T E nx kc ks
  have hF : cm_fr (fun i k => i = 23 ∧ (k = 8 ∨ k = 9 ∨ k = 12)) E E := fun _ _ _ => rfl
  refine w_aload (i := 0) (npc := 1) (v := cr 0) rfl rfl rfl ?_
  refine w_getf (i := 0) (ci := 7) (k := 9) (npc := 4) rfl (hI.pl (by decide)) (hI.T (by decide) rfl) (by decide) (hI.ref 0 9 (p := 23) (by decide) (by decide) rfl) ?_
  refine w_virt (ci := 5) (i := 23) (npc := 7) (a := [cr 23]) (rest := []) rfl rfl (hI.pl (by decide)) (hI.T (by decide) rfl) rfl rfl rfl rfl (ct_ty_empty2 (sl := sl) (x := x) (d := d + 0)  hI) (Or.inl rfl) (fun k9 v9 T2 E2 nx2 kc2 ks2 hq1 hk2 hv2 => ?_)
  obtain ⟨rfl, rfl, rfl, hI4, hG5, hz3⟩ := hq1
  obtain rfl : kc = kc2 := by omega
  obtain rfl : ks = ks2 := by omega
  have hF7 := cm_fr.trans hF hG5 (by intro i k h; (try simp only at h); (try simp only); omega)
  have hN8 := hN.fr hG5 (by intro i k h; (try simp only at h); omega)
  refine Or.inl ⟨rfl, ?_⟩
  exact w_vret rfl (⟨rfl, rfl, rfl, hI4, hF7, hN8, by omega⟩) (by omega) (by omega)
set_option maxRecDepth 16384 in
theorem ct_m_say2 {sl : Int × Int} {x : ai_E} {d : Nat} {T : cm_T} {E : cm_E} {nx : Nat} (g : Int)  (hI : cs_I T E nx) (hR : rl E) : cm_ct (ai_ev sl (d + 2)) x 207 [cr 81, ai_i g] T E nx 0 0 (fun rk rv T' E' nx' => rk = 1 ∧ T = T' ∧ nx = nx' ∧ cs_I T E' nx ∧ cm_fr (fun i k => (i = 81 ∧ (k = 0 ∨ k = 23)) ∨ i = 85 ∨ (i = 94 ∧ k = (gv E 81 23).toNat)) E E' ∧ rl E' ∧ ∃ z : Int, rv = ai_i z ∧ ((z = -1 ∧ (gv E 81 23 = 12 ∨ ¬ (32 ≤ g ∧ g ≤ 126)) ∧ gv E' 81 23 = gv E 81 23 ∧ ∀ k : Nat, gv E' 94 k = gv E 94 k) ∨ (z = gv E 81 23 + 1 ∧ gv E 81 23 ≤ 11 ∧ (32 ≤ g ∧ g ≤ 126) ∧ gv E' 81 23 = gv E 81 23 + 1 ∧ gv E' 94 (gv E 81 23).toNat = g))) := by
  refine cm_body (M := ai_m207) rfl rfl (fun kc ks => ?_)
  show cm_wp (ai_find ai_c207 sl) (ai_ev sl (d + 1)) x (kc + 0) (ks + 0) _ 0 [cr 81, ai_i g] [] T E nx kc ks
  have hF : cm_fr (fun i k => (i = 81 ∧ (k = 0 ∨ k = 23)) ∨ i = 85 ∨ (i = 94 ∧ k = (gv E 81 23).toNat)) E E := fun _ _ _ => rfl
  obtain ⟨z1, hz1, hz1a, hz1b⟩ := hI.int 81 23 (lo := 0) (hi := 12) (by decide) (by decide) rfl
  have ghz1 := gv_eq hz1
  refine w_aload (i := 0) (npc := 1) (v := cr 81) rfl rfl rfl ?_
  refine w_const (n := 0) (npc := 2) rfl ?_
  refine w_putf (i := 81) (ci := 8) (k := 0) (t := 0) (npc := 5) rfl (hI.pl (by decide)) (hI.T (by decide) rfl) (by decide) cm_fit0 ?_
  have hI3 := hI.puti (i := 81) (k := 0) (z := 0) (lo := 0) (hi := 2) (by decide) rfl (by omega)
  have hF5 := cm_fr.up (i := 81) (k := 0) (v := ai_i 0) hF (by first | omega | (simp; done) | (simp; omega) | (simp only; omega))
  have hR6 := rl.wr (i := 81) (k := 0) (v := ai_i 0) hR (by omega)
  generalize hE4 : cm_up E 81 0 (ai_i 0) = E2 at hI3 hF5 hR6 ⊢
  have hz7 : E2 81 23 = ai_i z1 := by rw [← hE4, cm_up_ne _ _ (by decide)]; exact hz1
  have ghz7 := gv_eq hz7
  have hz8 : E2 81 0 = ai_i 0 := by rw [← hE4, cm_up_eq]
  have ghz8 := gv_eq hz8
  refine w_aload (i := 0) (npc := 6) (v := cr 81) rfl rfl rfl ?_
  refine w_getf (i := 81) (ci := 8) (k := 23) (npc := 9) rfl (hI3.pl (by decide)) (hI3.T (by decide) rfl) (by decide) hz7 ?_
  refine w_const (n := 12) (npc := 11) rfl ?_
  refine w_icmp (c := .eq) (npc := 14) (pt := 25) rfl (fun hc9 => ?_) (fun hc9 => ?_)
  · replace hc9 : z1 = (12 : Int) := hc9
    refine w_aload (i := 0) (npc := 26) (v := cr 81) rfl rfl rfl ?_
    refine w_getf (i := 81) (ci := 8) (k := 5) (npc := 29) rfl (hI3.pl (by decide)) (hI3.T (by decide) rfl) (by decide) (hI3.ref 81 5 (p := 85) (by decide) (by decide) rfl) ?_
    refine w_const (n := 2) (npc := 30) rfl ?_
    refine w_dup2 (npc := 31) rfl rfl rfl ?_
    obtain ⟨z10, hz10, hz10a, hz10b⟩ := hI3.int 85 (2 : Int).toNat (lo := (-2147483648)) (hi := 2147483647) (by decide) (show (2 : Int).toNat < 3 by omega) rfl
    have ghz10 := gv_eq hz10
    refine w_ald (i := 85) (t := 1) (n := 3) (npc := 32) rfl (hI3.pl (by decide)) (hI3.T (by decide) rfl) (by decide) rfl (by omega) hz10 ?_
    refine w_const (n := 1) (npc := 33) rfl ?_
    refine w_iaddw (npc := 34) rfl (fun z11 hz11 hz11b => ?_)
    refine w_ast (i := 85) (k := 1) (n := 3) (npc := 35) rfl (hI3.pl (by decide)) (hI3.T (by decide) rfl) (by decide) (by omega) cm_af1 ?_
    have hI13 := hI3.puti (i := 85) (k := (2 : Int).toNat) (z := z11) (lo := (-2147483648)) (hi := 2147483647) (by decide) rfl (by omega)
    have hF15 := cm_fr.up (i := 85) (k := (2 : Int).toNat) (v := ai_i z11) hF5 (by first | omega | (simp; done) | (simp; omega) | (simp only; omega))
    have hR16 := rl.wr (i := 85) (k := (2 : Int).toNat) (v := ai_i z11) hR6 (by omega)
    generalize hE14 : cm_up E2 85 ((2 : Int).toNat) (ai_i z11) = E12 at hI13 hF15 hR16 ⊢
    have hz17 : E12 81 23 = ai_i z1 := by rw [← hE14, cm_up_nei _ _ (by decide)]; exact hz7
    have ghz17 := gv_eq hz17
    have hz18 : E12 81 0 = ai_i 0 := by rw [← hE14, cm_up_nei _ _ (by decide)]; exact hz8
    have ghz18 := gv_eq hz18
    have hz19 : E12 85 ((2 : Int).toNat) = ai_i z11 := by rw [← hE14, cm_up_eq]
    have ghz19 := gv_eq hz19
    refine w_const (n := (-1)) (npc := 36) rfl ?_
    exact w_iret rfl (⟨rfl, rfl, rfl, hI13, hF15, hR16, (-1), rfl, Or.inl ⟨by omega, by omega, by omega, fun k => by rw [← hE14, gv_ne _ _ (by omega), ← hE4, gv_ne _ _ (by omega)]⟩⟩) (by omega) (by omega)
  · replace hc9 : ¬ (z1 = (12 : Int)) := hc9
    refine w_iload (i := 1) (npc := 15) rfl rfl ?_
    refine w_const (n := 32) (npc := 17) rfl ?_
    refine w_const (n := 126) (npc := 19) rfl ?_
    refine w_call (npc := 22) (a := [ai_i g, ai_i 32, ai_i 126]) (rest := []) rfl rfl rfl rfl rfl (ct_m_isIn (sl := sl) (x := x) (d := d + 0) (g) (32) (126)) (Or.inr (fun _ _ _ _ _ hq => by have h1 := hq.1; omega)) (fun k9 v9 T21 E21 nx21 kc21 ks21 hq20 hk21 hv21 => ?_)
    obtain ⟨rfl, rfl, rfl, rfl, z22, rfl, hz22⟩ := hq20
    obtain rfl : kc = kc21 := by omega
    obtain rfl : ks = ks21 := by omega
    refine Or.inr (Or.inl ⟨rfl, ?_⟩)
    refine w_if (c := .ne) (npc := 25) (pt := 37) rfl (fun hc26 => ?_) (fun hc26 => ?_)
    · replace hc26 : z22 ≠ (0 : Int) := hc26
      refine w_aload (i := 0) (npc := 38) (v := cr 81) rfl rfl rfl ?_
      refine w_getf (i := 81) (ci := 8) (k := 25) (npc := 41) rfl (hI3.pl (by decide)) (hI3.T (by decide) rfl) (by decide) (hI3.ref 81 25 (p := 94) (by decide) (by decide) rfl) ?_
      refine w_aload (i := 0) (npc := 42) (v := cr 81) rfl rfl rfl ?_
      refine w_getf (i := 81) (ci := 8) (k := 23) (npc := 45) rfl (hI3.pl (by decide)) (hI3.T (by decide) rfl) (by decide) hz7 ?_
      refine w_iload (i := 1) (npc := 46) rfl rfl ?_
      refine w_ast (i := 94) (k := 1) (n := 12) (npc := 47) rfl (hI3.pl (by decide)) (hI3.T (by decide) rfl) (by decide) (by omega) cm_af1 ?_
      have hI28 := hI3.puti (i := 94) (k := (z1 : Int).toNat) (z := g) (lo := 0) (hi := 126) (by decide) rfl (by omega)
      have hF30 := cm_fr.up (i := 94) (k := (z1 : Int).toNat) (v := ai_i g) hF5 (by first | omega | (simp; done) | (simp; omega) | (simp only; omega))
      have hR31 := rl.wr (i := 94) (k := (z1 : Int).toNat) (v := ai_i g) hR6 (by omega)
      generalize hE29 : cm_up E2 94 ((z1 : Int).toNat) (ai_i g) = E27 at hI28 hF30 hR31 ⊢
      have hz32 : E27 81 23 = ai_i z1 := by rw [← hE29, cm_up_nei _ _ (by decide)]; exact hz7
      have ghz32 := gv_eq hz32
      have hz33 : E27 81 0 = ai_i 0 := by rw [← hE29, cm_up_nei _ _ (by decide)]; exact hz8
      have ghz33 := gv_eq hz33
      have hz34 : E27 94 ((z1 : Int).toNat) = ai_i g := by rw [← hE29, cm_up_eq]
      have ghz34 := gv_eq hz34
      refine w_aload (i := 0) (npc := 48) (v := cr 81) rfl rfl rfl ?_
      refine w_dup (npc := 49) rfl rfl ?_
      refine w_getf (i := 81) (ci := 8) (k := 23) (npc := 52) rfl (hI28.pl (by decide)) (hI28.T (by decide) rfl) (by decide) hz32 ?_
      refine w_const (n := 1) (npc := 53) rfl ?_
      refine w_iadd (npc := 54) rfl (by omega) ?_
      refine w_putf (i := 81) (ci := 8) (k := 23) (t := 0) (npc := 57) rfl (hI28.pl (by decide)) (hI28.T (by decide) rfl) (by decide) cm_fit0 ?_
      have hI37 := hI28.puti (i := 81) (k := 23) (z := z1 + 1) (lo := 0) (hi := 12) (by decide) rfl (by omega)
      have hF39 := cm_fr.up (i := 81) (k := 23) (v := ai_i (z1 + 1)) hF30 (by first | omega | (simp; done) | (simp; omega) | (simp only; omega))
      have hR40 := rl.wr (i := 81) (k := 23) (v := ai_i (z1 + 1)) hR31 (by omega)
      generalize hE38 : cm_up E27 81 23 (ai_i (z1 + 1)) = E36 at hI37 hF39 hR40 ⊢
      have hz41 : E36 81 0 = ai_i 0 := by rw [← hE38, cm_up_ne _ _ (by decide)]; exact hz33
      have ghz41 := gv_eq hz41
      have hz42 : E36 94 ((z1 : Int).toNat) = ai_i g := by rw [← hE38, cm_up_nei _ _ (by decide)]; exact hz34
      have ghz42 := gv_eq hz42
      have hz43 : E36 81 23 = ai_i (z1 + 1) := by rw [← hE38, cm_up_eq]
      have ghz43 := gv_eq hz43
      refine w_aload (i := 0) (npc := 58) (v := cr 81) rfl rfl rfl ?_
      refine w_getf (i := 81) (ci := 8) (k := 23) (npc := 61) rfl (hI37.pl (by decide)) (hI37.T (by decide) rfl) (by decide) hz43 ?_
      exact w_iret rfl (⟨rfl, rfl, rfl, hI37, hF39, hR40, z1 + 1, rfl, Or.inr ⟨by omega, by omega, by omega, by omega, by rw [← hE38, gv_ne _ _ (by omega), show gv E 81 23 = z1 by omega, ← hE29, gv_up]⟩⟩) (by omega) (by omega)
    · replace hc26 : ¬ (z22 ≠ (0 : Int)) := hc26
      refine w_aload (i := 0) (npc := 26) (v := cr 81) rfl rfl rfl ?_
      refine w_getf (i := 81) (ci := 8) (k := 5) (npc := 29) rfl (hI3.pl (by decide)) (hI3.T (by decide) rfl) (by decide) (hI3.ref 81 5 (p := 85) (by decide) (by decide) rfl) ?_
      refine w_const (n := 2) (npc := 30) rfl ?_
      refine w_dup2 (npc := 31) rfl rfl rfl ?_
      obtain ⟨z44, hz44, hz44a, hz44b⟩ := hI3.int 85 (2 : Int).toNat (lo := (-2147483648)) (hi := 2147483647) (by decide) (show (2 : Int).toNat < 3 by omega) rfl
      have ghz44 := gv_eq hz44
      refine w_ald (i := 85) (t := 1) (n := 3) (npc := 32) rfl (hI3.pl (by decide)) (hI3.T (by decide) rfl) (by decide) rfl (by omega) hz44 ?_
      refine w_const (n := 1) (npc := 33) rfl ?_
      refine w_iaddw (npc := 34) rfl (fun z45 hz45 hz45b => ?_)
      refine w_ast (i := 85) (k := 1) (n := 3) (npc := 35) rfl (hI3.pl (by decide)) (hI3.T (by decide) rfl) (by decide) (by omega) cm_af1 ?_
      have hI47 := hI3.puti (i := 85) (k := (2 : Int).toNat) (z := z45) (lo := (-2147483648)) (hi := 2147483647) (by decide) rfl (by omega)
      have hF49 := cm_fr.up (i := 85) (k := (2 : Int).toNat) (v := ai_i z45) hF5 (by first | omega | (simp; done) | (simp; omega) | (simp only; omega))
      have hR50 := rl.wr (i := 85) (k := (2 : Int).toNat) (v := ai_i z45) hR6 (by omega)
      generalize hE48 : cm_up E2 85 ((2 : Int).toNat) (ai_i z45) = E46 at hI47 hF49 hR50 ⊢
      have hz51 : E46 81 23 = ai_i z1 := by rw [← hE48, cm_up_nei _ _ (by decide)]; exact hz7
      have ghz51 := gv_eq hz51
      have hz52 : E46 81 0 = ai_i 0 := by rw [← hE48, cm_up_nei _ _ (by decide)]; exact hz8
      have ghz52 := gv_eq hz52
      have hz53 : E46 85 ((2 : Int).toNat) = ai_i z45 := by rw [← hE48, cm_up_eq]
      have ghz53 := gv_eq hz53
      refine w_const (n := (-1)) (npc := 36) rfl ?_
      exact w_iret rfl (⟨rfl, rfl, rfl, hI47, hF49, hR50, (-1), rfl, Or.inl ⟨by omega, by omega, by omega, fun k => by rw [← hE48, gv_ne _ _ (by omega), ← hE4, gv_ne _ _ (by omega)]⟩⟩) (by omega) (by omega)
set_option maxRecDepth 16384 in
theorem ct_m_act2 {sl : Int × Int} {x : ai_E} {d : Nat} {T : cm_T} {E : cm_E} {nx : Nat} (p l g : Int)  (hI : cs_I T E nx) (hR : rl E) : cm_ct (ai_ev sl (d + 2)) x 144 [cr 81, ai_i p, ai_i l, ai_i g] T E nx 0 0 (fun rk rv T' E' nx' => rk = 1 ∧ T = T' ∧ nx = nx' ∧ cs_I T E' nx ∧ cm_fr (fun i k => (i = 81 ∧ (k = 0 ∨ k = 24)) ∨ i = 85 ∨ ((i = 95 ∨ i = 96 ∨ i = 97) ∧ k = (gv E 81 24).toNat)) E E' ∧ rl E' ∧ ∃ z : Int, rv = ai_i z ∧ ((z = -1 ∧ (gv E 81 24 = 8 ∨ ¬ (0 ≤ p ∧ p ≤ 2 ∧ 0 ≤ l ∧ l ≤ 7 ∧ (g = -1 ∨ (32 ≤ g ∧ g ≤ 126)))) ∧ gv E' 81 24 = gv E 81 24 ∧ ∀ k : Nat, gv E' 95 k = gv E 95 k ∧ gv E' 96 k = gv E 96 k ∧ gv E' 97 k = gv E 97 k) ∨ (z = gv E 81 24 + 1 ∧ gv E 81 24 ≤ 7 ∧ (0 ≤ p ∧ p ≤ 2 ∧ 0 ≤ l ∧ l ≤ 7 ∧ (g = -1 ∨ (32 ≤ g ∧ g ≤ 126))) ∧ gv E' 81 24 = gv E 81 24 + 1 ∧ gv E' 95 (gv E 81 24).toNat = p ∧ gv E' 96 (gv E 81 24).toNat = l ∧ gv E' 97 (gv E 81 24).toNat = g))) := by
  refine cm_body (M := ai_m144) rfl rfl (fun kc ks => ?_)
  show cm_wp (ai_find ai_c144 sl) (ai_ev sl (d + 1)) x (kc + 0) (ks + 0) _ 0 [cr 81, ai_i p, ai_i l, ai_i g, ai_un] [] T E nx kc ks
  have hF : cm_fr (fun i k => (i = 81 ∧ (k = 0 ∨ k = 24)) ∨ i = 85 ∨ ((i = 95 ∨ i = 96 ∨ i = 97) ∧ k = (gv E 81 24).toNat)) E E := fun _ _ _ => rfl
  obtain ⟨z1, hz1, hz1a, hz1b⟩ := hI.int 81 24 (lo := 0) (hi := 8) (by decide) (by decide) rfl
  have ghz1 := gv_eq hz1
  refine w_aload (i := 0) (npc := 1) (v := cr 81) rfl rfl rfl ?_
  refine w_const (n := 0) (npc := 2) rfl ?_
  refine w_putf (i := 81) (ci := 8) (k := 0) (t := 0) (npc := 5) rfl (hI.pl (by decide)) (hI.T (by decide) rfl) (by decide) cm_fit0 ?_
  have hI3 := hI.puti (i := 81) (k := 0) (z := 0) (lo := 0) (hi := 2) (by decide) rfl (by omega)
  have hF5 := cm_fr.up (i := 81) (k := 0) (v := ai_i 0) hF (by first | omega | (simp; done) | (simp; omega) | (simp only; omega))
  have hR6 := rl.wr (i := 81) (k := 0) (v := ai_i 0) hR (by omega)
  generalize hE4 : cm_up E 81 0 (ai_i 0) = E2 at hI3 hF5 hR6 ⊢
  have hz7 : E2 81 24 = ai_i z1 := by rw [← hE4, cm_up_ne _ _ (by decide)]; exact hz1
  have ghz7 := gv_eq hz7
  have hz8 : E2 81 0 = ai_i 0 := by rw [← hE4, cm_up_eq]
  have ghz8 := gv_eq hz8
  refine w_iload (i := 1) (npc := 6) rfl rfl ?_
  refine w_const (n := 0) (npc := 7) rfl ?_
  refine w_const (n := 2) (npc := 8) rfl ?_
  refine w_call (npc := 11) (a := [ai_i p, ai_i 0, ai_i 2]) (rest := []) rfl rfl rfl rfl rfl (ct_m_isIn (sl := sl) (x := x) (d := d + 0) (p) (0) (2)) (Or.inr (fun _ _ _ _ _ hq => by have h1 := hq.1; omega)) (fun k9 v9 T10 E10 nx10 kc10 ks10 hq9 hk10 hv10 => ?_)
  obtain ⟨rfl, rfl, rfl, rfl, z11, rfl, hz11⟩ := hq9
  obtain rfl : kc = kc10 := by omega
  obtain rfl : ks = ks10 := by omega
  refine Or.inr (Or.inl ⟨rfl, ?_⟩)
  refine w_if (c := .eq) (npc := 14) (pt := 44) rfl (fun hc15 => ?_) (fun hc15 => ?_)
  · replace hc15 : z11 = (0 : Int) := hc15
    refine w_const (n := 0) (npc := 45) rfl ?_
    refine w_istore (i := 4) (npc := 47) (loc' := [cr 81, ai_i p, ai_i l, ai_i g, ai_i 0]) rfl rfl ?_
    refine w_aload (i := 0) (npc := 48) (v := cr 81) rfl rfl rfl ?_
    refine w_getf (i := 81) (ci := 8) (k := 24) (npc := 51) rfl (hI3.pl (by decide)) (hI3.T (by decide) rfl) (by decide) hz7 ?_
    refine w_const (n := 8) (npc := 53) rfl ?_
    refine w_icmp (c := .eq) (npc := 56) (pt := 61) rfl (fun hc16 => ?_) (fun hc16 => ?_)
    · replace hc16 : z1 = (8 : Int) := hc16
      refine w_aload (i := 0) (npc := 62) (v := cr 81) rfl rfl rfl ?_
      refine w_getf (i := 81) (ci := 8) (k := 5) (npc := 65) rfl (hI3.pl (by decide)) (hI3.T (by decide) rfl) (by decide) (hI3.ref 81 5 (p := 85) (by decide) (by decide) rfl) ?_
      refine w_const (n := 2) (npc := 66) rfl ?_
      refine w_dup2 (npc := 67) rfl rfl rfl ?_
      obtain ⟨z17, hz17, hz17a, hz17b⟩ := hI3.int 85 (2 : Int).toNat (lo := (-2147483648)) (hi := 2147483647) (by decide) (show (2 : Int).toNat < 3 by omega) rfl
      have ghz17 := gv_eq hz17
      refine w_ald (i := 85) (t := 1) (n := 3) (npc := 68) rfl (hI3.pl (by decide)) (hI3.T (by decide) rfl) (by decide) rfl (by omega) hz17 ?_
      refine w_const (n := 1) (npc := 69) rfl ?_
      refine w_iaddw (npc := 70) rfl (fun z18 hz18 hz18b => ?_)
      refine w_ast (i := 85) (k := 1) (n := 3) (npc := 71) rfl (hI3.pl (by decide)) (hI3.T (by decide) rfl) (by decide) (by omega) cm_af1 ?_
      have hI20 := hI3.puti (i := 85) (k := (2 : Int).toNat) (z := z18) (lo := (-2147483648)) (hi := 2147483647) (by decide) rfl (by omega)
      have hF22 := cm_fr.up (i := 85) (k := (2 : Int).toNat) (v := ai_i z18) hF5 (by first | omega | (simp; done) | (simp; omega) | (simp only; omega))
      have hR23 := rl.wr (i := 85) (k := (2 : Int).toNat) (v := ai_i z18) hR6 (by omega)
      generalize hE21 : cm_up E2 85 ((2 : Int).toNat) (ai_i z18) = E19 at hI20 hF22 hR23 ⊢
      have hz24 : E19 81 24 = ai_i z1 := by rw [← hE21, cm_up_nei _ _ (by decide)]; exact hz7
      have ghz24 := gv_eq hz24
      have hz25 : E19 81 0 = ai_i 0 := by rw [← hE21, cm_up_nei _ _ (by decide)]; exact hz8
      have ghz25 := gv_eq hz25
      have hz26 : E19 85 ((2 : Int).toNat) = ai_i z18 := by rw [← hE21, cm_up_eq]
      have ghz26 := gv_eq hz26
      refine w_const (n := (-1)) (npc := 72) rfl ?_
      exact w_iret rfl (⟨rfl, rfl, rfl, hI20, hF22, hR23, (-1), rfl, Or.inl ⟨by omega, by omega, by omega, fun k => ⟨by rw [← hE21, gv_ne _ _ (by omega), ← hE4, gv_ne _ _ (by omega)], by rw [← hE21, gv_ne _ _ (by omega), ← hE4, gv_ne _ _ (by omega)], by rw [← hE21, gv_ne _ _ (by omega), ← hE4, gv_ne _ _ (by omega)]⟩⟩⟩) (by omega) (by omega)
    · replace hc16 : ¬ (z1 = (8 : Int)) := hc16
      refine w_iload (i := 4) (npc := 58) rfl rfl ?_
      refine w_if (c := .ne) (npc := 61) (pt := 73) rfl (fun hc27 => ?_) (fun hc27 => ?_)
      · replace hc27 : (0 : Int) ≠ 0 := hc27
        refine w_aload (i := 0) (npc := 74) (v := cr 81) rfl rfl rfl ?_
        refine w_getf (i := 81) (ci := 8) (k := 26) (npc := 77) rfl (hI3.pl (by decide)) (hI3.T (by decide) rfl) (by decide) (hI3.ref 81 26 (p := 95) (by decide) (by decide) rfl) ?_
        refine w_aload (i := 0) (npc := 78) (v := cr 81) rfl rfl rfl ?_
        refine w_getf (i := 81) (ci := 8) (k := 24) (npc := 81) rfl (hI3.pl (by decide)) (hI3.T (by decide) rfl) (by decide) hz7 ?_
        refine w_iload (i := 1) (npc := 82) rfl rfl ?_
        refine w_ast (i := 95) (k := 1) (n := 8) (npc := 83) rfl (hI3.pl (by decide)) (hI3.T (by decide) rfl) (by decide) (by omega) cm_af1 ?_
        have hI29 := hI3.puti (i := 95) (k := (z1 : Int).toNat) (z := p) (lo := 0) (hi := 2) (by decide) rfl (by omega)
        have hF31 := cm_fr.up (i := 95) (k := (z1 : Int).toNat) (v := ai_i p) hF5 (by first | omega | (simp; done) | (simp; omega) | (simp only; omega))
        have hR32 := rl.wr (i := 95) (k := (z1 : Int).toNat) (v := ai_i p) hR6 (by omega)
        generalize hE30 : cm_up E2 95 ((z1 : Int).toNat) (ai_i p) = E28 at hI29 hF31 hR32 ⊢
        have hz33 : E28 81 24 = ai_i z1 := by rw [← hE30, cm_up_nei _ _ (by decide)]; exact hz7
        have ghz33 := gv_eq hz33
        have hz34 : E28 81 0 = ai_i 0 := by rw [← hE30, cm_up_nei _ _ (by decide)]; exact hz8
        have ghz34 := gv_eq hz34
        have hz35 : E28 95 ((z1 : Int).toNat) = ai_i p := by rw [← hE30, cm_up_eq]
        have ghz35 := gv_eq hz35
        refine w_aload (i := 0) (npc := 84) (v := cr 81) rfl rfl rfl ?_
        refine w_getf (i := 81) (ci := 8) (k := 27) (npc := 87) rfl (hI29.pl (by decide)) (hI29.T (by decide) rfl) (by decide) (hI29.ref 81 27 (p := 96) (by decide) (by decide) rfl) ?_
        refine w_aload (i := 0) (npc := 88) (v := cr 81) rfl rfl rfl ?_
        refine w_getf (i := 81) (ci := 8) (k := 24) (npc := 91) rfl (hI29.pl (by decide)) (hI29.T (by decide) rfl) (by decide) hz33 ?_
        refine w_iload (i := 2) (npc := 92) rfl rfl ?_
        refine w_ast (i := 96) (k := 1) (n := 8) (npc := 93) rfl (hI29.pl (by decide)) (hI29.T (by decide) rfl) (by decide) (by omega) cm_af1 ?_
        have hI37 := hI29.puti (i := 96) (k := (z1 : Int).toNat) (z := l) (lo := 0) (hi := 7) (by decide) rfl (by omega)
        have hF39 := cm_fr.up (i := 96) (k := (z1 : Int).toNat) (v := ai_i l) hF31 (by first | omega | (simp; done) | (simp; omega) | (simp only; omega))
        have hR40 := rl.wr (i := 96) (k := (z1 : Int).toNat) (v := ai_i l) hR32 (by omega)
        generalize hE38 : cm_up E28 96 ((z1 : Int).toNat) (ai_i l) = E36 at hI37 hF39 hR40 ⊢
        have hz41 : E36 81 24 = ai_i z1 := by rw [← hE38, cm_up_nei _ _ (by decide)]; exact hz33
        have ghz41 := gv_eq hz41
        have hz42 : E36 81 0 = ai_i 0 := by rw [← hE38, cm_up_nei _ _ (by decide)]; exact hz34
        have ghz42 := gv_eq hz42
        have hz43 : E36 95 ((z1 : Int).toNat) = ai_i p := by rw [← hE38, cm_up_nei _ _ (by decide)]; exact hz35
        have ghz43 := gv_eq hz43
        have hz44 : E36 96 ((z1 : Int).toNat) = ai_i l := by rw [← hE38, cm_up_eq]
        have ghz44 := gv_eq hz44
        refine w_aload (i := 0) (npc := 94) (v := cr 81) rfl rfl rfl ?_
        refine w_getf (i := 81) (ci := 8) (k := 28) (npc := 97) rfl (hI37.pl (by decide)) (hI37.T (by decide) rfl) (by decide) (hI37.ref 81 28 (p := 97) (by decide) (by decide) rfl) ?_
        refine w_aload (i := 0) (npc := 98) (v := cr 81) rfl rfl rfl ?_
        refine w_getf (i := 81) (ci := 8) (k := 24) (npc := 101) rfl (hI37.pl (by decide)) (hI37.T (by decide) rfl) (by decide) hz41 ?_
        refine w_iload (i := 3) (npc := 102) rfl rfl ?_
        refine w_ast (i := 97) (k := 1) (n := 8) (npc := 103) rfl (hI37.pl (by decide)) (hI37.T (by decide) rfl) (by decide) (by omega) cm_af1 ?_
        have hI46 := hI37.puti (i := 97) (k := (z1 : Int).toNat) (z := g) (lo := (-1)) (hi := 126) (by decide) rfl (by omega)
        have hF48 := cm_fr.up (i := 97) (k := (z1 : Int).toNat) (v := ai_i g) hF39 (by first | omega | (simp; done) | (simp; omega) | (simp only; omega))
        have hR49 := rl.wr (i := 97) (k := (z1 : Int).toNat) (v := ai_i g) hR40 (by omega)
        generalize hE47 : cm_up E36 97 ((z1 : Int).toNat) (ai_i g) = E45 at hI46 hF48 hR49 ⊢
        have hz50 : E45 81 24 = ai_i z1 := by rw [← hE47, cm_up_nei _ _ (by decide)]; exact hz41
        have ghz50 := gv_eq hz50
        have hz51 : E45 81 0 = ai_i 0 := by rw [← hE47, cm_up_nei _ _ (by decide)]; exact hz42
        have ghz51 := gv_eq hz51
        have hz52 : E45 95 ((z1 : Int).toNat) = ai_i p := by rw [← hE47, cm_up_nei _ _ (by decide)]; exact hz43
        have ghz52 := gv_eq hz52
        have hz53 : E45 96 ((z1 : Int).toNat) = ai_i l := by rw [← hE47, cm_up_nei _ _ (by decide)]; exact hz44
        have ghz53 := gv_eq hz53
        have hz54 : E45 97 ((z1 : Int).toNat) = ai_i g := by rw [← hE47, cm_up_eq]
        have ghz54 := gv_eq hz54
        refine w_aload (i := 0) (npc := 104) (v := cr 81) rfl rfl rfl ?_
        refine w_dup (npc := 105) rfl rfl ?_
        refine w_getf (i := 81) (ci := 8) (k := 24) (npc := 108) rfl (hI46.pl (by decide)) (hI46.T (by decide) rfl) (by decide) hz50 ?_
        refine w_const (n := 1) (npc := 109) rfl ?_
        refine w_iadd (npc := 110) rfl (by omega) ?_
        refine w_putf (i := 81) (ci := 8) (k := 24) (t := 0) (npc := 113) rfl (hI46.pl (by decide)) (hI46.T (by decide) rfl) (by decide) cm_fit0 ?_
        have hI57 := hI46.puti (i := 81) (k := 24) (z := z1 + 1) (lo := 0) (hi := 8) (by decide) rfl (by omega)
        have hF59 := cm_fr.up (i := 81) (k := 24) (v := ai_i (z1 + 1)) hF48 (by first | omega | (simp; done) | (simp; omega) | (simp only; omega))
        have hR60 := rl.wr (i := 81) (k := 24) (v := ai_i (z1 + 1)) hR49 (by omega)
        generalize hE58 : cm_up E45 81 24 (ai_i (z1 + 1)) = E56 at hI57 hF59 hR60 ⊢
        have hz61 : E56 81 0 = ai_i 0 := by rw [← hE58, cm_up_ne _ _ (by decide)]; exact hz51
        have ghz61 := gv_eq hz61
        have hz62 : E56 95 ((z1 : Int).toNat) = ai_i p := by rw [← hE58, cm_up_nei _ _ (by decide)]; exact hz52
        have ghz62 := gv_eq hz62
        have hz63 : E56 96 ((z1 : Int).toNat) = ai_i l := by rw [← hE58, cm_up_nei _ _ (by decide)]; exact hz53
        have ghz63 := gv_eq hz63
        have hz64 : E56 97 ((z1 : Int).toNat) = ai_i g := by rw [← hE58, cm_up_nei _ _ (by decide)]; exact hz54
        have ghz64 := gv_eq hz64
        have hz65 : E56 81 24 = ai_i (z1 + 1) := by rw [← hE58, cm_up_eq]
        have ghz65 := gv_eq hz65
        refine w_aload (i := 0) (npc := 114) (v := cr 81) rfl rfl rfl ?_
        refine w_getf (i := 81) (ci := 8) (k := 24) (npc := 117) rfl (hI57.pl (by decide)) (hI57.T (by decide) rfl) (by decide) hz65 ?_
        exact w_iret rfl (⟨rfl, rfl, rfl, hI57, hF59, hR60, z1 + 1, rfl, Or.inr ⟨by omega, by omega, by omega, by omega, by rw [← hE58, gv_ne _ _ (by omega), ← hE47, gv_ne _ _ (by omega), ← hE38, gv_ne _ _ (by omega), show gv E 81 24 = z1 by omega, ← hE30, gv_up], by rw [← hE58, gv_ne _ _ (by omega), ← hE47, gv_ne _ _ (by omega), show gv E 81 24 = z1 by omega, ← hE38, gv_up], by rw [← hE58, gv_ne _ _ (by omega), show gv E 81 24 = z1 by omega, ← hE47, gv_up]⟩⟩) (by omega) (by omega)
      · replace hc27 : ¬ ((0 : Int) ≠ 0) := hc27
        refine w_aload (i := 0) (npc := 62) (v := cr 81) rfl rfl rfl ?_
        refine w_getf (i := 81) (ci := 8) (k := 5) (npc := 65) rfl (hI3.pl (by decide)) (hI3.T (by decide) rfl) (by decide) (hI3.ref 81 5 (p := 85) (by decide) (by decide) rfl) ?_
        refine w_const (n := 2) (npc := 66) rfl ?_
        refine w_dup2 (npc := 67) rfl rfl rfl ?_
        obtain ⟨z66, hz66, hz66a, hz66b⟩ := hI3.int 85 (2 : Int).toNat (lo := (-2147483648)) (hi := 2147483647) (by decide) (show (2 : Int).toNat < 3 by omega) rfl
        have ghz66 := gv_eq hz66
        refine w_ald (i := 85) (t := 1) (n := 3) (npc := 68) rfl (hI3.pl (by decide)) (hI3.T (by decide) rfl) (by decide) rfl (by omega) hz66 ?_
        refine w_const (n := 1) (npc := 69) rfl ?_
        refine w_iaddw (npc := 70) rfl (fun z67 hz67 hz67b => ?_)
        refine w_ast (i := 85) (k := 1) (n := 3) (npc := 71) rfl (hI3.pl (by decide)) (hI3.T (by decide) rfl) (by decide) (by omega) cm_af1 ?_
        have hI69 := hI3.puti (i := 85) (k := (2 : Int).toNat) (z := z67) (lo := (-2147483648)) (hi := 2147483647) (by decide) rfl (by omega)
        have hF71 := cm_fr.up (i := 85) (k := (2 : Int).toNat) (v := ai_i z67) hF5 (by first | omega | (simp; done) | (simp; omega) | (simp only; omega))
        have hR72 := rl.wr (i := 85) (k := (2 : Int).toNat) (v := ai_i z67) hR6 (by omega)
        generalize hE70 : cm_up E2 85 ((2 : Int).toNat) (ai_i z67) = E68 at hI69 hF71 hR72 ⊢
        have hz73 : E68 81 24 = ai_i z1 := by rw [← hE70, cm_up_nei _ _ (by decide)]; exact hz7
        have ghz73 := gv_eq hz73
        have hz74 : E68 81 0 = ai_i 0 := by rw [← hE70, cm_up_nei _ _ (by decide)]; exact hz8
        have ghz74 := gv_eq hz74
        have hz75 : E68 85 ((2 : Int).toNat) = ai_i z67 := by rw [← hE70, cm_up_eq]
        have ghz75 := gv_eq hz75
        refine w_const (n := (-1)) (npc := 72) rfl ?_
        exact w_iret rfl (⟨rfl, rfl, rfl, hI69, hF71, hR72, (-1), rfl, Or.inl ⟨by omega, by omega, by omega, fun k => ⟨by rw [← hE70, gv_ne _ _ (by omega), ← hE4, gv_ne _ _ (by omega)], by rw [← hE70, gv_ne _ _ (by omega), ← hE4, gv_ne _ _ (by omega)], by rw [← hE70, gv_ne _ _ (by omega), ← hE4, gv_ne _ _ (by omega)]⟩⟩⟩) (by omega) (by omega)
  · replace hc15 : ¬ (z11 = (0 : Int)) := hc15
    refine w_iload (i := 2) (npc := 15) rfl rfl ?_
    refine w_const (n := 0) (npc := 16) rfl ?_
    refine w_const (n := 7) (npc := 18) rfl ?_
    refine w_call (npc := 21) (a := [ai_i l, ai_i 0, ai_i 7]) (rest := []) rfl rfl rfl rfl rfl (ct_m_isIn (sl := sl) (x := x) (d := d + 0) (l) (0) (7)) (Or.inr (fun _ _ _ _ _ hq => by have h1 := hq.1; omega)) (fun k9 v9 T77 E77 nx77 kc77 ks77 hq76 hk77 hv77 => ?_)
    obtain ⟨rfl, rfl, rfl, rfl, z78, rfl, hz78⟩ := hq76
    obtain rfl : kc = kc77 := by omega
    obtain rfl : ks = ks77 := by omega
    refine Or.inr (Or.inl ⟨rfl, ?_⟩)
    refine w_if (c := .eq) (npc := 24) (pt := 44) rfl (fun hc82 => ?_) (fun hc82 => ?_)
    · replace hc82 : z78 = (0 : Int) := hc82
      refine w_const (n := 0) (npc := 45) rfl ?_
      refine w_istore (i := 4) (npc := 47) (loc' := [cr 81, ai_i p, ai_i l, ai_i g, ai_i 0]) rfl rfl ?_
      refine w_aload (i := 0) (npc := 48) (v := cr 81) rfl rfl rfl ?_
      refine w_getf (i := 81) (ci := 8) (k := 24) (npc := 51) rfl (hI3.pl (by decide)) (hI3.T (by decide) rfl) (by decide) hz7 ?_
      refine w_const (n := 8) (npc := 53) rfl ?_
      refine w_icmp (c := .eq) (npc := 56) (pt := 61) rfl (fun hc83 => ?_) (fun hc83 => ?_)
      · replace hc83 : z1 = (8 : Int) := hc83
        refine w_aload (i := 0) (npc := 62) (v := cr 81) rfl rfl rfl ?_
        refine w_getf (i := 81) (ci := 8) (k := 5) (npc := 65) rfl (hI3.pl (by decide)) (hI3.T (by decide) rfl) (by decide) (hI3.ref 81 5 (p := 85) (by decide) (by decide) rfl) ?_
        refine w_const (n := 2) (npc := 66) rfl ?_
        refine w_dup2 (npc := 67) rfl rfl rfl ?_
        obtain ⟨z84, hz84, hz84a, hz84b⟩ := hI3.int 85 (2 : Int).toNat (lo := (-2147483648)) (hi := 2147483647) (by decide) (show (2 : Int).toNat < 3 by omega) rfl
        have ghz84 := gv_eq hz84
        refine w_ald (i := 85) (t := 1) (n := 3) (npc := 68) rfl (hI3.pl (by decide)) (hI3.T (by decide) rfl) (by decide) rfl (by omega) hz84 ?_
        refine w_const (n := 1) (npc := 69) rfl ?_
        refine w_iaddw (npc := 70) rfl (fun z85 hz85 hz85b => ?_)
        refine w_ast (i := 85) (k := 1) (n := 3) (npc := 71) rfl (hI3.pl (by decide)) (hI3.T (by decide) rfl) (by decide) (by omega) cm_af1 ?_
        have hI87 := hI3.puti (i := 85) (k := (2 : Int).toNat) (z := z85) (lo := (-2147483648)) (hi := 2147483647) (by decide) rfl (by omega)
        have hF89 := cm_fr.up (i := 85) (k := (2 : Int).toNat) (v := ai_i z85) hF5 (by first | omega | (simp; done) | (simp; omega) | (simp only; omega))
        have hR90 := rl.wr (i := 85) (k := (2 : Int).toNat) (v := ai_i z85) hR6 (by omega)
        generalize hE88 : cm_up E2 85 ((2 : Int).toNat) (ai_i z85) = E86 at hI87 hF89 hR90 ⊢
        have hz91 : E86 81 24 = ai_i z1 := by rw [← hE88, cm_up_nei _ _ (by decide)]; exact hz7
        have ghz91 := gv_eq hz91
        have hz92 : E86 81 0 = ai_i 0 := by rw [← hE88, cm_up_nei _ _ (by decide)]; exact hz8
        have ghz92 := gv_eq hz92
        have hz93 : E86 85 ((2 : Int).toNat) = ai_i z85 := by rw [← hE88, cm_up_eq]
        have ghz93 := gv_eq hz93
        refine w_const (n := (-1)) (npc := 72) rfl ?_
        exact w_iret rfl (⟨rfl, rfl, rfl, hI87, hF89, hR90, (-1), rfl, Or.inl ⟨by omega, by omega, by omega, fun k => ⟨by rw [← hE88, gv_ne _ _ (by omega), ← hE4, gv_ne _ _ (by omega)], by rw [← hE88, gv_ne _ _ (by omega), ← hE4, gv_ne _ _ (by omega)], by rw [← hE88, gv_ne _ _ (by omega), ← hE4, gv_ne _ _ (by omega)]⟩⟩⟩) (by omega) (by omega)
      · replace hc83 : ¬ (z1 = (8 : Int)) := hc83
        refine w_iload (i := 4) (npc := 58) rfl rfl ?_
        refine w_if (c := .ne) (npc := 61) (pt := 73) rfl (fun hc94 => ?_) (fun hc94 => ?_)
        · replace hc94 : (0 : Int) ≠ 0 := hc94
          refine w_aload (i := 0) (npc := 74) (v := cr 81) rfl rfl rfl ?_
          refine w_getf (i := 81) (ci := 8) (k := 26) (npc := 77) rfl (hI3.pl (by decide)) (hI3.T (by decide) rfl) (by decide) (hI3.ref 81 26 (p := 95) (by decide) (by decide) rfl) ?_
          refine w_aload (i := 0) (npc := 78) (v := cr 81) rfl rfl rfl ?_
          refine w_getf (i := 81) (ci := 8) (k := 24) (npc := 81) rfl (hI3.pl (by decide)) (hI3.T (by decide) rfl) (by decide) hz7 ?_
          refine w_iload (i := 1) (npc := 82) rfl rfl ?_
          refine w_ast (i := 95) (k := 1) (n := 8) (npc := 83) rfl (hI3.pl (by decide)) (hI3.T (by decide) rfl) (by decide) (by omega) cm_af1 ?_
          have hI96 := hI3.puti (i := 95) (k := (z1 : Int).toNat) (z := p) (lo := 0) (hi := 2) (by decide) rfl (by omega)
          have hF98 := cm_fr.up (i := 95) (k := (z1 : Int).toNat) (v := ai_i p) hF5 (by first | omega | (simp; done) | (simp; omega) | (simp only; omega))
          have hR99 := rl.wr (i := 95) (k := (z1 : Int).toNat) (v := ai_i p) hR6 (by omega)
          generalize hE97 : cm_up E2 95 ((z1 : Int).toNat) (ai_i p) = E95 at hI96 hF98 hR99 ⊢
          have hz100 : E95 81 24 = ai_i z1 := by rw [← hE97, cm_up_nei _ _ (by decide)]; exact hz7
          have ghz100 := gv_eq hz100
          have hz101 : E95 81 0 = ai_i 0 := by rw [← hE97, cm_up_nei _ _ (by decide)]; exact hz8
          have ghz101 := gv_eq hz101
          have hz102 : E95 95 ((z1 : Int).toNat) = ai_i p := by rw [← hE97, cm_up_eq]
          have ghz102 := gv_eq hz102
          refine w_aload (i := 0) (npc := 84) (v := cr 81) rfl rfl rfl ?_
          refine w_getf (i := 81) (ci := 8) (k := 27) (npc := 87) rfl (hI96.pl (by decide)) (hI96.T (by decide) rfl) (by decide) (hI96.ref 81 27 (p := 96) (by decide) (by decide) rfl) ?_
          refine w_aload (i := 0) (npc := 88) (v := cr 81) rfl rfl rfl ?_
          refine w_getf (i := 81) (ci := 8) (k := 24) (npc := 91) rfl (hI96.pl (by decide)) (hI96.T (by decide) rfl) (by decide) hz100 ?_
          refine w_iload (i := 2) (npc := 92) rfl rfl ?_
          refine w_ast (i := 96) (k := 1) (n := 8) (npc := 93) rfl (hI96.pl (by decide)) (hI96.T (by decide) rfl) (by decide) (by omega) cm_af1 ?_
          have hI104 := hI96.puti (i := 96) (k := (z1 : Int).toNat) (z := l) (lo := 0) (hi := 7) (by decide) rfl (by omega)
          have hF106 := cm_fr.up (i := 96) (k := (z1 : Int).toNat) (v := ai_i l) hF98 (by first | omega | (simp; done) | (simp; omega) | (simp only; omega))
          have hR107 := rl.wr (i := 96) (k := (z1 : Int).toNat) (v := ai_i l) hR99 (by omega)
          generalize hE105 : cm_up E95 96 ((z1 : Int).toNat) (ai_i l) = E103 at hI104 hF106 hR107 ⊢
          have hz108 : E103 81 24 = ai_i z1 := by rw [← hE105, cm_up_nei _ _ (by decide)]; exact hz100
          have ghz108 := gv_eq hz108
          have hz109 : E103 81 0 = ai_i 0 := by rw [← hE105, cm_up_nei _ _ (by decide)]; exact hz101
          have ghz109 := gv_eq hz109
          have hz110 : E103 95 ((z1 : Int).toNat) = ai_i p := by rw [← hE105, cm_up_nei _ _ (by decide)]; exact hz102
          have ghz110 := gv_eq hz110
          have hz111 : E103 96 ((z1 : Int).toNat) = ai_i l := by rw [← hE105, cm_up_eq]
          have ghz111 := gv_eq hz111
          refine w_aload (i := 0) (npc := 94) (v := cr 81) rfl rfl rfl ?_
          refine w_getf (i := 81) (ci := 8) (k := 28) (npc := 97) rfl (hI104.pl (by decide)) (hI104.T (by decide) rfl) (by decide) (hI104.ref 81 28 (p := 97) (by decide) (by decide) rfl) ?_
          refine w_aload (i := 0) (npc := 98) (v := cr 81) rfl rfl rfl ?_
          refine w_getf (i := 81) (ci := 8) (k := 24) (npc := 101) rfl (hI104.pl (by decide)) (hI104.T (by decide) rfl) (by decide) hz108 ?_
          refine w_iload (i := 3) (npc := 102) rfl rfl ?_
          refine w_ast (i := 97) (k := 1) (n := 8) (npc := 103) rfl (hI104.pl (by decide)) (hI104.T (by decide) rfl) (by decide) (by omega) cm_af1 ?_
          have hI113 := hI104.puti (i := 97) (k := (z1 : Int).toNat) (z := g) (lo := (-1)) (hi := 126) (by decide) rfl (by omega)
          have hF115 := cm_fr.up (i := 97) (k := (z1 : Int).toNat) (v := ai_i g) hF106 (by first | omega | (simp; done) | (simp; omega) | (simp only; omega))
          have hR116 := rl.wr (i := 97) (k := (z1 : Int).toNat) (v := ai_i g) hR107 (by omega)
          generalize hE114 : cm_up E103 97 ((z1 : Int).toNat) (ai_i g) = E112 at hI113 hF115 hR116 ⊢
          have hz117 : E112 81 24 = ai_i z1 := by rw [← hE114, cm_up_nei _ _ (by decide)]; exact hz108
          have ghz117 := gv_eq hz117
          have hz118 : E112 81 0 = ai_i 0 := by rw [← hE114, cm_up_nei _ _ (by decide)]; exact hz109
          have ghz118 := gv_eq hz118
          have hz119 : E112 95 ((z1 : Int).toNat) = ai_i p := by rw [← hE114, cm_up_nei _ _ (by decide)]; exact hz110
          have ghz119 := gv_eq hz119
          have hz120 : E112 96 ((z1 : Int).toNat) = ai_i l := by rw [← hE114, cm_up_nei _ _ (by decide)]; exact hz111
          have ghz120 := gv_eq hz120
          have hz121 : E112 97 ((z1 : Int).toNat) = ai_i g := by rw [← hE114, cm_up_eq]
          have ghz121 := gv_eq hz121
          refine w_aload (i := 0) (npc := 104) (v := cr 81) rfl rfl rfl ?_
          refine w_dup (npc := 105) rfl rfl ?_
          refine w_getf (i := 81) (ci := 8) (k := 24) (npc := 108) rfl (hI113.pl (by decide)) (hI113.T (by decide) rfl) (by decide) hz117 ?_
          refine w_const (n := 1) (npc := 109) rfl ?_
          refine w_iadd (npc := 110) rfl (by omega) ?_
          refine w_putf (i := 81) (ci := 8) (k := 24) (t := 0) (npc := 113) rfl (hI113.pl (by decide)) (hI113.T (by decide) rfl) (by decide) cm_fit0 ?_
          have hI124 := hI113.puti (i := 81) (k := 24) (z := z1 + 1) (lo := 0) (hi := 8) (by decide) rfl (by omega)
          have hF126 := cm_fr.up (i := 81) (k := 24) (v := ai_i (z1 + 1)) hF115 (by first | omega | (simp; done) | (simp; omega) | (simp only; omega))
          have hR127 := rl.wr (i := 81) (k := 24) (v := ai_i (z1 + 1)) hR116 (by omega)
          generalize hE125 : cm_up E112 81 24 (ai_i (z1 + 1)) = E123 at hI124 hF126 hR127 ⊢
          have hz128 : E123 81 0 = ai_i 0 := by rw [← hE125, cm_up_ne _ _ (by decide)]; exact hz118
          have ghz128 := gv_eq hz128
          have hz129 : E123 95 ((z1 : Int).toNat) = ai_i p := by rw [← hE125, cm_up_nei _ _ (by decide)]; exact hz119
          have ghz129 := gv_eq hz129
          have hz130 : E123 96 ((z1 : Int).toNat) = ai_i l := by rw [← hE125, cm_up_nei _ _ (by decide)]; exact hz120
          have ghz130 := gv_eq hz130
          have hz131 : E123 97 ((z1 : Int).toNat) = ai_i g := by rw [← hE125, cm_up_nei _ _ (by decide)]; exact hz121
          have ghz131 := gv_eq hz131
          have hz132 : E123 81 24 = ai_i (z1 + 1) := by rw [← hE125, cm_up_eq]
          have ghz132 := gv_eq hz132
          refine w_aload (i := 0) (npc := 114) (v := cr 81) rfl rfl rfl ?_
          refine w_getf (i := 81) (ci := 8) (k := 24) (npc := 117) rfl (hI124.pl (by decide)) (hI124.T (by decide) rfl) (by decide) hz132 ?_
          exact w_iret rfl (⟨rfl, rfl, rfl, hI124, hF126, hR127, z1 + 1, rfl, Or.inr ⟨by omega, by omega, by omega, by omega, by rw [← hE125, gv_ne _ _ (by omega), ← hE114, gv_ne _ _ (by omega), ← hE105, gv_ne _ _ (by omega), show gv E 81 24 = z1 by omega, ← hE97, gv_up], by rw [← hE125, gv_ne _ _ (by omega), ← hE114, gv_ne _ _ (by omega), show gv E 81 24 = z1 by omega, ← hE105, gv_up], by rw [← hE125, gv_ne _ _ (by omega), show gv E 81 24 = z1 by omega, ← hE114, gv_up]⟩⟩) (by omega) (by omega)
        · replace hc94 : ¬ ((0 : Int) ≠ 0) := hc94
          refine w_aload (i := 0) (npc := 62) (v := cr 81) rfl rfl rfl ?_
          refine w_getf (i := 81) (ci := 8) (k := 5) (npc := 65) rfl (hI3.pl (by decide)) (hI3.T (by decide) rfl) (by decide) (hI3.ref 81 5 (p := 85) (by decide) (by decide) rfl) ?_
          refine w_const (n := 2) (npc := 66) rfl ?_
          refine w_dup2 (npc := 67) rfl rfl rfl ?_
          obtain ⟨z133, hz133, hz133a, hz133b⟩ := hI3.int 85 (2 : Int).toNat (lo := (-2147483648)) (hi := 2147483647) (by decide) (show (2 : Int).toNat < 3 by omega) rfl
          have ghz133 := gv_eq hz133
          refine w_ald (i := 85) (t := 1) (n := 3) (npc := 68) rfl (hI3.pl (by decide)) (hI3.T (by decide) rfl) (by decide) rfl (by omega) hz133 ?_
          refine w_const (n := 1) (npc := 69) rfl ?_
          refine w_iaddw (npc := 70) rfl (fun z134 hz134 hz134b => ?_)
          refine w_ast (i := 85) (k := 1) (n := 3) (npc := 71) rfl (hI3.pl (by decide)) (hI3.T (by decide) rfl) (by decide) (by omega) cm_af1 ?_
          have hI136 := hI3.puti (i := 85) (k := (2 : Int).toNat) (z := z134) (lo := (-2147483648)) (hi := 2147483647) (by decide) rfl (by omega)
          have hF138 := cm_fr.up (i := 85) (k := (2 : Int).toNat) (v := ai_i z134) hF5 (by first | omega | (simp; done) | (simp; omega) | (simp only; omega))
          have hR139 := rl.wr (i := 85) (k := (2 : Int).toNat) (v := ai_i z134) hR6 (by omega)
          generalize hE137 : cm_up E2 85 ((2 : Int).toNat) (ai_i z134) = E135 at hI136 hF138 hR139 ⊢
          have hz140 : E135 81 24 = ai_i z1 := by rw [← hE137, cm_up_nei _ _ (by decide)]; exact hz7
          have ghz140 := gv_eq hz140
          have hz141 : E135 81 0 = ai_i 0 := by rw [← hE137, cm_up_nei _ _ (by decide)]; exact hz8
          have ghz141 := gv_eq hz141
          have hz142 : E135 85 ((2 : Int).toNat) = ai_i z134 := by rw [← hE137, cm_up_eq]
          have ghz142 := gv_eq hz142
          refine w_const (n := (-1)) (npc := 72) rfl ?_
          exact w_iret rfl (⟨rfl, rfl, rfl, hI136, hF138, hR139, (-1), rfl, Or.inl ⟨by omega, by omega, by omega, fun k => ⟨by rw [← hE137, gv_ne _ _ (by omega), ← hE4, gv_ne _ _ (by omega)], by rw [← hE137, gv_ne _ _ (by omega), ← hE4, gv_ne _ _ (by omega)], by rw [← hE137, gv_ne _ _ (by omega), ← hE4, gv_ne _ _ (by omega)]⟩⟩⟩) (by omega) (by omega)
    · replace hc82 : ¬ (z78 = (0 : Int)) := hc82
      refine w_iload (i := 3) (npc := 25) rfl rfl ?_
      refine w_const (n := (-1)) (npc := 26) rfl ?_
      refine w_icmp (c := .eq) (npc := 29) (pt := 40) rfl (fun hc143 => ?_) (fun hc143 => ?_)
      · replace hc143 : g = ((-1) : Int) := hc143
        refine w_const (n := 1) (npc := 41) rfl ?_
        refine w_goto (pt := 45) rfl ?_
        refine w_istore (i := 4) (npc := 47) (loc' := [cr 81, ai_i p, ai_i l, ai_i g, ai_i 1]) rfl rfl ?_
        refine w_aload (i := 0) (npc := 48) (v := cr 81) rfl rfl rfl ?_
        refine w_getf (i := 81) (ci := 8) (k := 24) (npc := 51) rfl (hI3.pl (by decide)) (hI3.T (by decide) rfl) (by decide) hz7 ?_
        refine w_const (n := 8) (npc := 53) rfl ?_
        refine w_icmp (c := .eq) (npc := 56) (pt := 61) rfl (fun hc144 => ?_) (fun hc144 => ?_)
        · replace hc144 : z1 = (8 : Int) := hc144
          refine w_aload (i := 0) (npc := 62) (v := cr 81) rfl rfl rfl ?_
          refine w_getf (i := 81) (ci := 8) (k := 5) (npc := 65) rfl (hI3.pl (by decide)) (hI3.T (by decide) rfl) (by decide) (hI3.ref 81 5 (p := 85) (by decide) (by decide) rfl) ?_
          refine w_const (n := 2) (npc := 66) rfl ?_
          refine w_dup2 (npc := 67) rfl rfl rfl ?_
          obtain ⟨z145, hz145, hz145a, hz145b⟩ := hI3.int 85 (2 : Int).toNat (lo := (-2147483648)) (hi := 2147483647) (by decide) (show (2 : Int).toNat < 3 by omega) rfl
          have ghz145 := gv_eq hz145
          refine w_ald (i := 85) (t := 1) (n := 3) (npc := 68) rfl (hI3.pl (by decide)) (hI3.T (by decide) rfl) (by decide) rfl (by omega) hz145 ?_
          refine w_const (n := 1) (npc := 69) rfl ?_
          refine w_iaddw (npc := 70) rfl (fun z146 hz146 hz146b => ?_)
          refine w_ast (i := 85) (k := 1) (n := 3) (npc := 71) rfl (hI3.pl (by decide)) (hI3.T (by decide) rfl) (by decide) (by omega) cm_af1 ?_
          have hI148 := hI3.puti (i := 85) (k := (2 : Int).toNat) (z := z146) (lo := (-2147483648)) (hi := 2147483647) (by decide) rfl (by omega)
          have hF150 := cm_fr.up (i := 85) (k := (2 : Int).toNat) (v := ai_i z146) hF5 (by first | omega | (simp; done) | (simp; omega) | (simp only; omega))
          have hR151 := rl.wr (i := 85) (k := (2 : Int).toNat) (v := ai_i z146) hR6 (by omega)
          generalize hE149 : cm_up E2 85 ((2 : Int).toNat) (ai_i z146) = E147 at hI148 hF150 hR151 ⊢
          have hz152 : E147 81 24 = ai_i z1 := by rw [← hE149, cm_up_nei _ _ (by decide)]; exact hz7
          have ghz152 := gv_eq hz152
          have hz153 : E147 81 0 = ai_i 0 := by rw [← hE149, cm_up_nei _ _ (by decide)]; exact hz8
          have ghz153 := gv_eq hz153
          have hz154 : E147 85 ((2 : Int).toNat) = ai_i z146 := by rw [← hE149, cm_up_eq]
          have ghz154 := gv_eq hz154
          refine w_const (n := (-1)) (npc := 72) rfl ?_
          exact w_iret rfl (⟨rfl, rfl, rfl, hI148, hF150, hR151, (-1), rfl, Or.inl ⟨by omega, by omega, by omega, fun k => ⟨by rw [← hE149, gv_ne _ _ (by omega), ← hE4, gv_ne _ _ (by omega)], by rw [← hE149, gv_ne _ _ (by omega), ← hE4, gv_ne _ _ (by omega)], by rw [← hE149, gv_ne _ _ (by omega), ← hE4, gv_ne _ _ (by omega)]⟩⟩⟩) (by omega) (by omega)
        · replace hc144 : ¬ (z1 = (8 : Int)) := hc144
          refine w_iload (i := 4) (npc := 58) rfl rfl ?_
          refine w_if (c := .ne) (npc := 61) (pt := 73) rfl (fun hc155 => ?_) (fun hc155 => ?_)
          · replace hc155 : (1 : Int) ≠ 0 := hc155
            refine w_aload (i := 0) (npc := 74) (v := cr 81) rfl rfl rfl ?_
            refine w_getf (i := 81) (ci := 8) (k := 26) (npc := 77) rfl (hI3.pl (by decide)) (hI3.T (by decide) rfl) (by decide) (hI3.ref 81 26 (p := 95) (by decide) (by decide) rfl) ?_
            refine w_aload (i := 0) (npc := 78) (v := cr 81) rfl rfl rfl ?_
            refine w_getf (i := 81) (ci := 8) (k := 24) (npc := 81) rfl (hI3.pl (by decide)) (hI3.T (by decide) rfl) (by decide) hz7 ?_
            refine w_iload (i := 1) (npc := 82) rfl rfl ?_
            refine w_ast (i := 95) (k := 1) (n := 8) (npc := 83) rfl (hI3.pl (by decide)) (hI3.T (by decide) rfl) (by decide) (by omega) cm_af1 ?_
            have hI157 := hI3.puti (i := 95) (k := (z1 : Int).toNat) (z := p) (lo := 0) (hi := 2) (by decide) rfl (by omega)
            have hF159 := cm_fr.up (i := 95) (k := (z1 : Int).toNat) (v := ai_i p) hF5 (by first | omega | (simp; done) | (simp; omega) | (simp only; omega))
            have hR160 := rl.wr (i := 95) (k := (z1 : Int).toNat) (v := ai_i p) hR6 (by omega)
            generalize hE158 : cm_up E2 95 ((z1 : Int).toNat) (ai_i p) = E156 at hI157 hF159 hR160 ⊢
            have hz161 : E156 81 24 = ai_i z1 := by rw [← hE158, cm_up_nei _ _ (by decide)]; exact hz7
            have ghz161 := gv_eq hz161
            have hz162 : E156 81 0 = ai_i 0 := by rw [← hE158, cm_up_nei _ _ (by decide)]; exact hz8
            have ghz162 := gv_eq hz162
            have hz163 : E156 95 ((z1 : Int).toNat) = ai_i p := by rw [← hE158, cm_up_eq]
            have ghz163 := gv_eq hz163
            refine w_aload (i := 0) (npc := 84) (v := cr 81) rfl rfl rfl ?_
            refine w_getf (i := 81) (ci := 8) (k := 27) (npc := 87) rfl (hI157.pl (by decide)) (hI157.T (by decide) rfl) (by decide) (hI157.ref 81 27 (p := 96) (by decide) (by decide) rfl) ?_
            refine w_aload (i := 0) (npc := 88) (v := cr 81) rfl rfl rfl ?_
            refine w_getf (i := 81) (ci := 8) (k := 24) (npc := 91) rfl (hI157.pl (by decide)) (hI157.T (by decide) rfl) (by decide) hz161 ?_
            refine w_iload (i := 2) (npc := 92) rfl rfl ?_
            refine w_ast (i := 96) (k := 1) (n := 8) (npc := 93) rfl (hI157.pl (by decide)) (hI157.T (by decide) rfl) (by decide) (by omega) cm_af1 ?_
            have hI165 := hI157.puti (i := 96) (k := (z1 : Int).toNat) (z := l) (lo := 0) (hi := 7) (by decide) rfl (by omega)
            have hF167 := cm_fr.up (i := 96) (k := (z1 : Int).toNat) (v := ai_i l) hF159 (by first | omega | (simp; done) | (simp; omega) | (simp only; omega))
            have hR168 := rl.wr (i := 96) (k := (z1 : Int).toNat) (v := ai_i l) hR160 (by omega)
            generalize hE166 : cm_up E156 96 ((z1 : Int).toNat) (ai_i l) = E164 at hI165 hF167 hR168 ⊢
            have hz169 : E164 81 24 = ai_i z1 := by rw [← hE166, cm_up_nei _ _ (by decide)]; exact hz161
            have ghz169 := gv_eq hz169
            have hz170 : E164 81 0 = ai_i 0 := by rw [← hE166, cm_up_nei _ _ (by decide)]; exact hz162
            have ghz170 := gv_eq hz170
            have hz171 : E164 95 ((z1 : Int).toNat) = ai_i p := by rw [← hE166, cm_up_nei _ _ (by decide)]; exact hz163
            have ghz171 := gv_eq hz171
            have hz172 : E164 96 ((z1 : Int).toNat) = ai_i l := by rw [← hE166, cm_up_eq]
            have ghz172 := gv_eq hz172
            refine w_aload (i := 0) (npc := 94) (v := cr 81) rfl rfl rfl ?_
            refine w_getf (i := 81) (ci := 8) (k := 28) (npc := 97) rfl (hI165.pl (by decide)) (hI165.T (by decide) rfl) (by decide) (hI165.ref 81 28 (p := 97) (by decide) (by decide) rfl) ?_
            refine w_aload (i := 0) (npc := 98) (v := cr 81) rfl rfl rfl ?_
            refine w_getf (i := 81) (ci := 8) (k := 24) (npc := 101) rfl (hI165.pl (by decide)) (hI165.T (by decide) rfl) (by decide) hz169 ?_
            refine w_iload (i := 3) (npc := 102) rfl rfl ?_
            refine w_ast (i := 97) (k := 1) (n := 8) (npc := 103) rfl (hI165.pl (by decide)) (hI165.T (by decide) rfl) (by decide) (by omega) cm_af1 ?_
            have hI174 := hI165.puti (i := 97) (k := (z1 : Int).toNat) (z := g) (lo := (-1)) (hi := 126) (by decide) rfl (by omega)
            have hF176 := cm_fr.up (i := 97) (k := (z1 : Int).toNat) (v := ai_i g) hF167 (by first | omega | (simp; done) | (simp; omega) | (simp only; omega))
            have hR177 := rl.wr (i := 97) (k := (z1 : Int).toNat) (v := ai_i g) hR168 (by omega)
            generalize hE175 : cm_up E164 97 ((z1 : Int).toNat) (ai_i g) = E173 at hI174 hF176 hR177 ⊢
            have hz178 : E173 81 24 = ai_i z1 := by rw [← hE175, cm_up_nei _ _ (by decide)]; exact hz169
            have ghz178 := gv_eq hz178
            have hz179 : E173 81 0 = ai_i 0 := by rw [← hE175, cm_up_nei _ _ (by decide)]; exact hz170
            have ghz179 := gv_eq hz179
            have hz180 : E173 95 ((z1 : Int).toNat) = ai_i p := by rw [← hE175, cm_up_nei _ _ (by decide)]; exact hz171
            have ghz180 := gv_eq hz180
            have hz181 : E173 96 ((z1 : Int).toNat) = ai_i l := by rw [← hE175, cm_up_nei _ _ (by decide)]; exact hz172
            have ghz181 := gv_eq hz181
            have hz182 : E173 97 ((z1 : Int).toNat) = ai_i g := by rw [← hE175, cm_up_eq]
            have ghz182 := gv_eq hz182
            refine w_aload (i := 0) (npc := 104) (v := cr 81) rfl rfl rfl ?_
            refine w_dup (npc := 105) rfl rfl ?_
            refine w_getf (i := 81) (ci := 8) (k := 24) (npc := 108) rfl (hI174.pl (by decide)) (hI174.T (by decide) rfl) (by decide) hz178 ?_
            refine w_const (n := 1) (npc := 109) rfl ?_
            refine w_iadd (npc := 110) rfl (by omega) ?_
            refine w_putf (i := 81) (ci := 8) (k := 24) (t := 0) (npc := 113) rfl (hI174.pl (by decide)) (hI174.T (by decide) rfl) (by decide) cm_fit0 ?_
            have hI185 := hI174.puti (i := 81) (k := 24) (z := z1 + 1) (lo := 0) (hi := 8) (by decide) rfl (by omega)
            have hF187 := cm_fr.up (i := 81) (k := 24) (v := ai_i (z1 + 1)) hF176 (by first | omega | (simp; done) | (simp; omega) | (simp only; omega))
            have hR188 := rl.wr (i := 81) (k := 24) (v := ai_i (z1 + 1)) hR177 (by omega)
            generalize hE186 : cm_up E173 81 24 (ai_i (z1 + 1)) = E184 at hI185 hF187 hR188 ⊢
            have hz189 : E184 81 0 = ai_i 0 := by rw [← hE186, cm_up_ne _ _ (by decide)]; exact hz179
            have ghz189 := gv_eq hz189
            have hz190 : E184 95 ((z1 : Int).toNat) = ai_i p := by rw [← hE186, cm_up_nei _ _ (by decide)]; exact hz180
            have ghz190 := gv_eq hz190
            have hz191 : E184 96 ((z1 : Int).toNat) = ai_i l := by rw [← hE186, cm_up_nei _ _ (by decide)]; exact hz181
            have ghz191 := gv_eq hz191
            have hz192 : E184 97 ((z1 : Int).toNat) = ai_i g := by rw [← hE186, cm_up_nei _ _ (by decide)]; exact hz182
            have ghz192 := gv_eq hz192
            have hz193 : E184 81 24 = ai_i (z1 + 1) := by rw [← hE186, cm_up_eq]
            have ghz193 := gv_eq hz193
            refine w_aload (i := 0) (npc := 114) (v := cr 81) rfl rfl rfl ?_
            refine w_getf (i := 81) (ci := 8) (k := 24) (npc := 117) rfl (hI185.pl (by decide)) (hI185.T (by decide) rfl) (by decide) hz193 ?_
            exact w_iret rfl (⟨rfl, rfl, rfl, hI185, hF187, hR188, z1 + 1, rfl, Or.inr ⟨by omega, by omega, by omega, by omega, by rw [← hE186, gv_ne _ _ (by omega), ← hE175, gv_ne _ _ (by omega), ← hE166, gv_ne _ _ (by omega), show gv E 81 24 = z1 by omega, ← hE158, gv_up], by rw [← hE186, gv_ne _ _ (by omega), ← hE175, gv_ne _ _ (by omega), show gv E 81 24 = z1 by omega, ← hE166, gv_up], by rw [← hE186, gv_ne _ _ (by omega), show gv E 81 24 = z1 by omega, ← hE175, gv_up]⟩⟩) (by omega) (by omega)
          · replace hc155 : ¬ ((1 : Int) ≠ 0) := hc155
            refine w_aload (i := 0) (npc := 62) (v := cr 81) rfl rfl rfl ?_
            refine w_getf (i := 81) (ci := 8) (k := 5) (npc := 65) rfl (hI3.pl (by decide)) (hI3.T (by decide) rfl) (by decide) (hI3.ref 81 5 (p := 85) (by decide) (by decide) rfl) ?_
            refine w_const (n := 2) (npc := 66) rfl ?_
            refine w_dup2 (npc := 67) rfl rfl rfl ?_
            obtain ⟨z194, hz194, hz194a, hz194b⟩ := hI3.int 85 (2 : Int).toNat (lo := (-2147483648)) (hi := 2147483647) (by decide) (show (2 : Int).toNat < 3 by omega) rfl
            have ghz194 := gv_eq hz194
            refine w_ald (i := 85) (t := 1) (n := 3) (npc := 68) rfl (hI3.pl (by decide)) (hI3.T (by decide) rfl) (by decide) rfl (by omega) hz194 ?_
            refine w_const (n := 1) (npc := 69) rfl ?_
            refine w_iaddw (npc := 70) rfl (fun z195 hz195 hz195b => ?_)
            refine w_ast (i := 85) (k := 1) (n := 3) (npc := 71) rfl (hI3.pl (by decide)) (hI3.T (by decide) rfl) (by decide) (by omega) cm_af1 ?_
            have hI197 := hI3.puti (i := 85) (k := (2 : Int).toNat) (z := z195) (lo := (-2147483648)) (hi := 2147483647) (by decide) rfl (by omega)
            have hF199 := cm_fr.up (i := 85) (k := (2 : Int).toNat) (v := ai_i z195) hF5 (by first | omega | (simp; done) | (simp; omega) | (simp only; omega))
            have hR200 := rl.wr (i := 85) (k := (2 : Int).toNat) (v := ai_i z195) hR6 (by omega)
            generalize hE198 : cm_up E2 85 ((2 : Int).toNat) (ai_i z195) = E196 at hI197 hF199 hR200 ⊢
            have hz201 : E196 81 24 = ai_i z1 := by rw [← hE198, cm_up_nei _ _ (by decide)]; exact hz7
            have ghz201 := gv_eq hz201
            have hz202 : E196 81 0 = ai_i 0 := by rw [← hE198, cm_up_nei _ _ (by decide)]; exact hz8
            have ghz202 := gv_eq hz202
            have hz203 : E196 85 ((2 : Int).toNat) = ai_i z195 := by rw [← hE198, cm_up_eq]
            have ghz203 := gv_eq hz203
            refine w_const (n := (-1)) (npc := 72) rfl ?_
            exact w_iret rfl (⟨rfl, rfl, rfl, hI197, hF199, hR200, (-1), rfl, Or.inl ⟨by omega, by omega, by omega, fun k => ⟨by rw [← hE198, gv_ne _ _ (by omega), ← hE4, gv_ne _ _ (by omega)], by rw [← hE198, gv_ne _ _ (by omega), ← hE4, gv_ne _ _ (by omega)], by rw [← hE198, gv_ne _ _ (by omega), ← hE4, gv_ne _ _ (by omega)]⟩⟩⟩) (by omega) (by omega)
      · replace hc143 : ¬ (g = ((-1) : Int)) := hc143
        refine w_iload (i := 3) (npc := 30) rfl rfl ?_
        refine w_const (n := 32) (npc := 32) rfl ?_
        refine w_const (n := 126) (npc := 34) rfl ?_
        refine w_call (npc := 37) (a := [ai_i g, ai_i 32, ai_i 126]) (rest := []) rfl rfl rfl rfl rfl (ct_m_isIn (sl := sl) (x := x) (d := d + 0) (g) (32) (126)) (Or.inr (fun _ _ _ _ _ hq => by have h1 := hq.1; omega)) (fun k9 v9 T205 E205 nx205 kc205 ks205 hq204 hk205 hv205 => ?_)
        obtain ⟨rfl, rfl, rfl, rfl, z206, rfl, hz206⟩ := hq204
        obtain rfl : kc = kc205 := by omega
        obtain rfl : ks = ks205 := by omega
        refine Or.inr (Or.inl ⟨rfl, ?_⟩)
        refine w_if (c := .eq) (npc := 40) (pt := 44) rfl (fun hc210 => ?_) (fun hc210 => ?_)
        · replace hc210 : z206 = (0 : Int) := hc210
          refine w_const (n := 0) (npc := 45) rfl ?_
          refine w_istore (i := 4) (npc := 47) (loc' := [cr 81, ai_i p, ai_i l, ai_i g, ai_i 0]) rfl rfl ?_
          refine w_aload (i := 0) (npc := 48) (v := cr 81) rfl rfl rfl ?_
          refine w_getf (i := 81) (ci := 8) (k := 24) (npc := 51) rfl (hI3.pl (by decide)) (hI3.T (by decide) rfl) (by decide) hz7 ?_
          refine w_const (n := 8) (npc := 53) rfl ?_
          refine w_icmp (c := .eq) (npc := 56) (pt := 61) rfl (fun hc211 => ?_) (fun hc211 => ?_)
          · replace hc211 : z1 = (8 : Int) := hc211
            refine w_aload (i := 0) (npc := 62) (v := cr 81) rfl rfl rfl ?_
            refine w_getf (i := 81) (ci := 8) (k := 5) (npc := 65) rfl (hI3.pl (by decide)) (hI3.T (by decide) rfl) (by decide) (hI3.ref 81 5 (p := 85) (by decide) (by decide) rfl) ?_
            refine w_const (n := 2) (npc := 66) rfl ?_
            refine w_dup2 (npc := 67) rfl rfl rfl ?_
            obtain ⟨z212, hz212, hz212a, hz212b⟩ := hI3.int 85 (2 : Int).toNat (lo := (-2147483648)) (hi := 2147483647) (by decide) (show (2 : Int).toNat < 3 by omega) rfl
            have ghz212 := gv_eq hz212
            refine w_ald (i := 85) (t := 1) (n := 3) (npc := 68) rfl (hI3.pl (by decide)) (hI3.T (by decide) rfl) (by decide) rfl (by omega) hz212 ?_
            refine w_const (n := 1) (npc := 69) rfl ?_
            refine w_iaddw (npc := 70) rfl (fun z213 hz213 hz213b => ?_)
            refine w_ast (i := 85) (k := 1) (n := 3) (npc := 71) rfl (hI3.pl (by decide)) (hI3.T (by decide) rfl) (by decide) (by omega) cm_af1 ?_
            have hI215 := hI3.puti (i := 85) (k := (2 : Int).toNat) (z := z213) (lo := (-2147483648)) (hi := 2147483647) (by decide) rfl (by omega)
            have hF217 := cm_fr.up (i := 85) (k := (2 : Int).toNat) (v := ai_i z213) hF5 (by first | omega | (simp; done) | (simp; omega) | (simp only; omega))
            have hR218 := rl.wr (i := 85) (k := (2 : Int).toNat) (v := ai_i z213) hR6 (by omega)
            generalize hE216 : cm_up E2 85 ((2 : Int).toNat) (ai_i z213) = E214 at hI215 hF217 hR218 ⊢
            have hz219 : E214 81 24 = ai_i z1 := by rw [← hE216, cm_up_nei _ _ (by decide)]; exact hz7
            have ghz219 := gv_eq hz219
            have hz220 : E214 81 0 = ai_i 0 := by rw [← hE216, cm_up_nei _ _ (by decide)]; exact hz8
            have ghz220 := gv_eq hz220
            have hz221 : E214 85 ((2 : Int).toNat) = ai_i z213 := by rw [← hE216, cm_up_eq]
            have ghz221 := gv_eq hz221
            refine w_const (n := (-1)) (npc := 72) rfl ?_
            exact w_iret rfl (⟨rfl, rfl, rfl, hI215, hF217, hR218, (-1), rfl, Or.inl ⟨by omega, by omega, by omega, fun k => ⟨by rw [← hE216, gv_ne _ _ (by omega), ← hE4, gv_ne _ _ (by omega)], by rw [← hE216, gv_ne _ _ (by omega), ← hE4, gv_ne _ _ (by omega)], by rw [← hE216, gv_ne _ _ (by omega), ← hE4, gv_ne _ _ (by omega)]⟩⟩⟩) (by omega) (by omega)
          · replace hc211 : ¬ (z1 = (8 : Int)) := hc211
            refine w_iload (i := 4) (npc := 58) rfl rfl ?_
            refine w_if (c := .ne) (npc := 61) (pt := 73) rfl (fun hc222 => ?_) (fun hc222 => ?_)
            · replace hc222 : (0 : Int) ≠ 0 := hc222
              refine w_aload (i := 0) (npc := 74) (v := cr 81) rfl rfl rfl ?_
              refine w_getf (i := 81) (ci := 8) (k := 26) (npc := 77) rfl (hI3.pl (by decide)) (hI3.T (by decide) rfl) (by decide) (hI3.ref 81 26 (p := 95) (by decide) (by decide) rfl) ?_
              refine w_aload (i := 0) (npc := 78) (v := cr 81) rfl rfl rfl ?_
              refine w_getf (i := 81) (ci := 8) (k := 24) (npc := 81) rfl (hI3.pl (by decide)) (hI3.T (by decide) rfl) (by decide) hz7 ?_
              refine w_iload (i := 1) (npc := 82) rfl rfl ?_
              refine w_ast (i := 95) (k := 1) (n := 8) (npc := 83) rfl (hI3.pl (by decide)) (hI3.T (by decide) rfl) (by decide) (by omega) cm_af1 ?_
              have hI224 := hI3.puti (i := 95) (k := (z1 : Int).toNat) (z := p) (lo := 0) (hi := 2) (by decide) rfl (by omega)
              have hF226 := cm_fr.up (i := 95) (k := (z1 : Int).toNat) (v := ai_i p) hF5 (by first | omega | (simp; done) | (simp; omega) | (simp only; omega))
              have hR227 := rl.wr (i := 95) (k := (z1 : Int).toNat) (v := ai_i p) hR6 (by omega)
              generalize hE225 : cm_up E2 95 ((z1 : Int).toNat) (ai_i p) = E223 at hI224 hF226 hR227 ⊢
              have hz228 : E223 81 24 = ai_i z1 := by rw [← hE225, cm_up_nei _ _ (by decide)]; exact hz7
              have ghz228 := gv_eq hz228
              have hz229 : E223 81 0 = ai_i 0 := by rw [← hE225, cm_up_nei _ _ (by decide)]; exact hz8
              have ghz229 := gv_eq hz229
              have hz230 : E223 95 ((z1 : Int).toNat) = ai_i p := by rw [← hE225, cm_up_eq]
              have ghz230 := gv_eq hz230
              refine w_aload (i := 0) (npc := 84) (v := cr 81) rfl rfl rfl ?_
              refine w_getf (i := 81) (ci := 8) (k := 27) (npc := 87) rfl (hI224.pl (by decide)) (hI224.T (by decide) rfl) (by decide) (hI224.ref 81 27 (p := 96) (by decide) (by decide) rfl) ?_
              refine w_aload (i := 0) (npc := 88) (v := cr 81) rfl rfl rfl ?_
              refine w_getf (i := 81) (ci := 8) (k := 24) (npc := 91) rfl (hI224.pl (by decide)) (hI224.T (by decide) rfl) (by decide) hz228 ?_
              refine w_iload (i := 2) (npc := 92) rfl rfl ?_
              refine w_ast (i := 96) (k := 1) (n := 8) (npc := 93) rfl (hI224.pl (by decide)) (hI224.T (by decide) rfl) (by decide) (by omega) cm_af1 ?_
              have hI232 := hI224.puti (i := 96) (k := (z1 : Int).toNat) (z := l) (lo := 0) (hi := 7) (by decide) rfl (by omega)
              have hF234 := cm_fr.up (i := 96) (k := (z1 : Int).toNat) (v := ai_i l) hF226 (by first | omega | (simp; done) | (simp; omega) | (simp only; omega))
              have hR235 := rl.wr (i := 96) (k := (z1 : Int).toNat) (v := ai_i l) hR227 (by omega)
              generalize hE233 : cm_up E223 96 ((z1 : Int).toNat) (ai_i l) = E231 at hI232 hF234 hR235 ⊢
              have hz236 : E231 81 24 = ai_i z1 := by rw [← hE233, cm_up_nei _ _ (by decide)]; exact hz228
              have ghz236 := gv_eq hz236
              have hz237 : E231 81 0 = ai_i 0 := by rw [← hE233, cm_up_nei _ _ (by decide)]; exact hz229
              have ghz237 := gv_eq hz237
              have hz238 : E231 95 ((z1 : Int).toNat) = ai_i p := by rw [← hE233, cm_up_nei _ _ (by decide)]; exact hz230
              have ghz238 := gv_eq hz238
              have hz239 : E231 96 ((z1 : Int).toNat) = ai_i l := by rw [← hE233, cm_up_eq]
              have ghz239 := gv_eq hz239
              refine w_aload (i := 0) (npc := 94) (v := cr 81) rfl rfl rfl ?_
              refine w_getf (i := 81) (ci := 8) (k := 28) (npc := 97) rfl (hI232.pl (by decide)) (hI232.T (by decide) rfl) (by decide) (hI232.ref 81 28 (p := 97) (by decide) (by decide) rfl) ?_
              refine w_aload (i := 0) (npc := 98) (v := cr 81) rfl rfl rfl ?_
              refine w_getf (i := 81) (ci := 8) (k := 24) (npc := 101) rfl (hI232.pl (by decide)) (hI232.T (by decide) rfl) (by decide) hz236 ?_
              refine w_iload (i := 3) (npc := 102) rfl rfl ?_
              refine w_ast (i := 97) (k := 1) (n := 8) (npc := 103) rfl (hI232.pl (by decide)) (hI232.T (by decide) rfl) (by decide) (by omega) cm_af1 ?_
              have hI241 := hI232.puti (i := 97) (k := (z1 : Int).toNat) (z := g) (lo := (-1)) (hi := 126) (by decide) rfl (by omega)
              have hF243 := cm_fr.up (i := 97) (k := (z1 : Int).toNat) (v := ai_i g) hF234 (by first | omega | (simp; done) | (simp; omega) | (simp only; omega))
              have hR244 := rl.wr (i := 97) (k := (z1 : Int).toNat) (v := ai_i g) hR235 (by omega)
              generalize hE242 : cm_up E231 97 ((z1 : Int).toNat) (ai_i g) = E240 at hI241 hF243 hR244 ⊢
              have hz245 : E240 81 24 = ai_i z1 := by rw [← hE242, cm_up_nei _ _ (by decide)]; exact hz236
              have ghz245 := gv_eq hz245
              have hz246 : E240 81 0 = ai_i 0 := by rw [← hE242, cm_up_nei _ _ (by decide)]; exact hz237
              have ghz246 := gv_eq hz246
              have hz247 : E240 95 ((z1 : Int).toNat) = ai_i p := by rw [← hE242, cm_up_nei _ _ (by decide)]; exact hz238
              have ghz247 := gv_eq hz247
              have hz248 : E240 96 ((z1 : Int).toNat) = ai_i l := by rw [← hE242, cm_up_nei _ _ (by decide)]; exact hz239
              have ghz248 := gv_eq hz248
              have hz249 : E240 97 ((z1 : Int).toNat) = ai_i g := by rw [← hE242, cm_up_eq]
              have ghz249 := gv_eq hz249
              refine w_aload (i := 0) (npc := 104) (v := cr 81) rfl rfl rfl ?_
              refine w_dup (npc := 105) rfl rfl ?_
              refine w_getf (i := 81) (ci := 8) (k := 24) (npc := 108) rfl (hI241.pl (by decide)) (hI241.T (by decide) rfl) (by decide) hz245 ?_
              refine w_const (n := 1) (npc := 109) rfl ?_
              refine w_iadd (npc := 110) rfl (by omega) ?_
              refine w_putf (i := 81) (ci := 8) (k := 24) (t := 0) (npc := 113) rfl (hI241.pl (by decide)) (hI241.T (by decide) rfl) (by decide) cm_fit0 ?_
              have hI252 := hI241.puti (i := 81) (k := 24) (z := z1 + 1) (lo := 0) (hi := 8) (by decide) rfl (by omega)
              have hF254 := cm_fr.up (i := 81) (k := 24) (v := ai_i (z1 + 1)) hF243 (by first | omega | (simp; done) | (simp; omega) | (simp only; omega))
              have hR255 := rl.wr (i := 81) (k := 24) (v := ai_i (z1 + 1)) hR244 (by omega)
              generalize hE253 : cm_up E240 81 24 (ai_i (z1 + 1)) = E251 at hI252 hF254 hR255 ⊢
              have hz256 : E251 81 0 = ai_i 0 := by rw [← hE253, cm_up_ne _ _ (by decide)]; exact hz246
              have ghz256 := gv_eq hz256
              have hz257 : E251 95 ((z1 : Int).toNat) = ai_i p := by rw [← hE253, cm_up_nei _ _ (by decide)]; exact hz247
              have ghz257 := gv_eq hz257
              have hz258 : E251 96 ((z1 : Int).toNat) = ai_i l := by rw [← hE253, cm_up_nei _ _ (by decide)]; exact hz248
              have ghz258 := gv_eq hz258
              have hz259 : E251 97 ((z1 : Int).toNat) = ai_i g := by rw [← hE253, cm_up_nei _ _ (by decide)]; exact hz249
              have ghz259 := gv_eq hz259
              have hz260 : E251 81 24 = ai_i (z1 + 1) := by rw [← hE253, cm_up_eq]
              have ghz260 := gv_eq hz260
              refine w_aload (i := 0) (npc := 114) (v := cr 81) rfl rfl rfl ?_
              refine w_getf (i := 81) (ci := 8) (k := 24) (npc := 117) rfl (hI252.pl (by decide)) (hI252.T (by decide) rfl) (by decide) hz260 ?_
              exact w_iret rfl (⟨rfl, rfl, rfl, hI252, hF254, hR255, z1 + 1, rfl, Or.inr ⟨by omega, by omega, by omega, by omega, by rw [← hE253, gv_ne _ _ (by omega), ← hE242, gv_ne _ _ (by omega), ← hE233, gv_ne _ _ (by omega), show gv E 81 24 = z1 by omega, ← hE225, gv_up], by rw [← hE253, gv_ne _ _ (by omega), ← hE242, gv_ne _ _ (by omega), show gv E 81 24 = z1 by omega, ← hE233, gv_up], by rw [← hE253, gv_ne _ _ (by omega), show gv E 81 24 = z1 by omega, ← hE242, gv_up]⟩⟩) (by omega) (by omega)
            · replace hc222 : ¬ ((0 : Int) ≠ 0) := hc222
              refine w_aload (i := 0) (npc := 62) (v := cr 81) rfl rfl rfl ?_
              refine w_getf (i := 81) (ci := 8) (k := 5) (npc := 65) rfl (hI3.pl (by decide)) (hI3.T (by decide) rfl) (by decide) (hI3.ref 81 5 (p := 85) (by decide) (by decide) rfl) ?_
              refine w_const (n := 2) (npc := 66) rfl ?_
              refine w_dup2 (npc := 67) rfl rfl rfl ?_
              obtain ⟨z261, hz261, hz261a, hz261b⟩ := hI3.int 85 (2 : Int).toNat (lo := (-2147483648)) (hi := 2147483647) (by decide) (show (2 : Int).toNat < 3 by omega) rfl
              have ghz261 := gv_eq hz261
              refine w_ald (i := 85) (t := 1) (n := 3) (npc := 68) rfl (hI3.pl (by decide)) (hI3.T (by decide) rfl) (by decide) rfl (by omega) hz261 ?_
              refine w_const (n := 1) (npc := 69) rfl ?_
              refine w_iaddw (npc := 70) rfl (fun z262 hz262 hz262b => ?_)
              refine w_ast (i := 85) (k := 1) (n := 3) (npc := 71) rfl (hI3.pl (by decide)) (hI3.T (by decide) rfl) (by decide) (by omega) cm_af1 ?_
              have hI264 := hI3.puti (i := 85) (k := (2 : Int).toNat) (z := z262) (lo := (-2147483648)) (hi := 2147483647) (by decide) rfl (by omega)
              have hF266 := cm_fr.up (i := 85) (k := (2 : Int).toNat) (v := ai_i z262) hF5 (by first | omega | (simp; done) | (simp; omega) | (simp only; omega))
              have hR267 := rl.wr (i := 85) (k := (2 : Int).toNat) (v := ai_i z262) hR6 (by omega)
              generalize hE265 : cm_up E2 85 ((2 : Int).toNat) (ai_i z262) = E263 at hI264 hF266 hR267 ⊢
              have hz268 : E263 81 24 = ai_i z1 := by rw [← hE265, cm_up_nei _ _ (by decide)]; exact hz7
              have ghz268 := gv_eq hz268
              have hz269 : E263 81 0 = ai_i 0 := by rw [← hE265, cm_up_nei _ _ (by decide)]; exact hz8
              have ghz269 := gv_eq hz269
              have hz270 : E263 85 ((2 : Int).toNat) = ai_i z262 := by rw [← hE265, cm_up_eq]
              have ghz270 := gv_eq hz270
              refine w_const (n := (-1)) (npc := 72) rfl ?_
              exact w_iret rfl (⟨rfl, rfl, rfl, hI264, hF266, hR267, (-1), rfl, Or.inl ⟨by omega, by omega, by omega, fun k => ⟨by rw [← hE265, gv_ne _ _ (by omega), ← hE4, gv_ne _ _ (by omega)], by rw [← hE265, gv_ne _ _ (by omega), ← hE4, gv_ne _ _ (by omega)], by rw [← hE265, gv_ne _ _ (by omega), ← hE4, gv_ne _ _ (by omega)]⟩⟩⟩) (by omega) (by omega)
        · replace hc210 : ¬ (z206 = (0 : Int)) := hc210
          refine w_const (n := 1) (npc := 41) rfl ?_
          refine w_goto (pt := 45) rfl ?_
          refine w_istore (i := 4) (npc := 47) (loc' := [cr 81, ai_i p, ai_i l, ai_i g, ai_i 1]) rfl rfl ?_
          refine w_aload (i := 0) (npc := 48) (v := cr 81) rfl rfl rfl ?_
          refine w_getf (i := 81) (ci := 8) (k := 24) (npc := 51) rfl (hI3.pl (by decide)) (hI3.T (by decide) rfl) (by decide) hz7 ?_
          refine w_const (n := 8) (npc := 53) rfl ?_
          refine w_icmp (c := .eq) (npc := 56) (pt := 61) rfl (fun hc271 => ?_) (fun hc271 => ?_)
          · replace hc271 : z1 = (8 : Int) := hc271
            refine w_aload (i := 0) (npc := 62) (v := cr 81) rfl rfl rfl ?_
            refine w_getf (i := 81) (ci := 8) (k := 5) (npc := 65) rfl (hI3.pl (by decide)) (hI3.T (by decide) rfl) (by decide) (hI3.ref 81 5 (p := 85) (by decide) (by decide) rfl) ?_
            refine w_const (n := 2) (npc := 66) rfl ?_
            refine w_dup2 (npc := 67) rfl rfl rfl ?_
            obtain ⟨z272, hz272, hz272a, hz272b⟩ := hI3.int 85 (2 : Int).toNat (lo := (-2147483648)) (hi := 2147483647) (by decide) (show (2 : Int).toNat < 3 by omega) rfl
            have ghz272 := gv_eq hz272
            refine w_ald (i := 85) (t := 1) (n := 3) (npc := 68) rfl (hI3.pl (by decide)) (hI3.T (by decide) rfl) (by decide) rfl (by omega) hz272 ?_
            refine w_const (n := 1) (npc := 69) rfl ?_
            refine w_iaddw (npc := 70) rfl (fun z273 hz273 hz273b => ?_)
            refine w_ast (i := 85) (k := 1) (n := 3) (npc := 71) rfl (hI3.pl (by decide)) (hI3.T (by decide) rfl) (by decide) (by omega) cm_af1 ?_
            have hI275 := hI3.puti (i := 85) (k := (2 : Int).toNat) (z := z273) (lo := (-2147483648)) (hi := 2147483647) (by decide) rfl (by omega)
            have hF277 := cm_fr.up (i := 85) (k := (2 : Int).toNat) (v := ai_i z273) hF5 (by first | omega | (simp; done) | (simp; omega) | (simp only; omega))
            have hR278 := rl.wr (i := 85) (k := (2 : Int).toNat) (v := ai_i z273) hR6 (by omega)
            generalize hE276 : cm_up E2 85 ((2 : Int).toNat) (ai_i z273) = E274 at hI275 hF277 hR278 ⊢
            have hz279 : E274 81 24 = ai_i z1 := by rw [← hE276, cm_up_nei _ _ (by decide)]; exact hz7
            have ghz279 := gv_eq hz279
            have hz280 : E274 81 0 = ai_i 0 := by rw [← hE276, cm_up_nei _ _ (by decide)]; exact hz8
            have ghz280 := gv_eq hz280
            have hz281 : E274 85 ((2 : Int).toNat) = ai_i z273 := by rw [← hE276, cm_up_eq]
            have ghz281 := gv_eq hz281
            refine w_const (n := (-1)) (npc := 72) rfl ?_
            exact w_iret rfl (⟨rfl, rfl, rfl, hI275, hF277, hR278, (-1), rfl, Or.inl ⟨by omega, by omega, by omega, fun k => ⟨by rw [← hE276, gv_ne _ _ (by omega), ← hE4, gv_ne _ _ (by omega)], by rw [← hE276, gv_ne _ _ (by omega), ← hE4, gv_ne _ _ (by omega)], by rw [← hE276, gv_ne _ _ (by omega), ← hE4, gv_ne _ _ (by omega)]⟩⟩⟩) (by omega) (by omega)
          · replace hc271 : ¬ (z1 = (8 : Int)) := hc271
            refine w_iload (i := 4) (npc := 58) rfl rfl ?_
            refine w_if (c := .ne) (npc := 61) (pt := 73) rfl (fun hc282 => ?_) (fun hc282 => ?_)
            · replace hc282 : (1 : Int) ≠ 0 := hc282
              refine w_aload (i := 0) (npc := 74) (v := cr 81) rfl rfl rfl ?_
              refine w_getf (i := 81) (ci := 8) (k := 26) (npc := 77) rfl (hI3.pl (by decide)) (hI3.T (by decide) rfl) (by decide) (hI3.ref 81 26 (p := 95) (by decide) (by decide) rfl) ?_
              refine w_aload (i := 0) (npc := 78) (v := cr 81) rfl rfl rfl ?_
              refine w_getf (i := 81) (ci := 8) (k := 24) (npc := 81) rfl (hI3.pl (by decide)) (hI3.T (by decide) rfl) (by decide) hz7 ?_
              refine w_iload (i := 1) (npc := 82) rfl rfl ?_
              refine w_ast (i := 95) (k := 1) (n := 8) (npc := 83) rfl (hI3.pl (by decide)) (hI3.T (by decide) rfl) (by decide) (by omega) cm_af1 ?_
              have hI284 := hI3.puti (i := 95) (k := (z1 : Int).toNat) (z := p) (lo := 0) (hi := 2) (by decide) rfl (by omega)
              have hF286 := cm_fr.up (i := 95) (k := (z1 : Int).toNat) (v := ai_i p) hF5 (by first | omega | (simp; done) | (simp; omega) | (simp only; omega))
              have hR287 := rl.wr (i := 95) (k := (z1 : Int).toNat) (v := ai_i p) hR6 (by omega)
              generalize hE285 : cm_up E2 95 ((z1 : Int).toNat) (ai_i p) = E283 at hI284 hF286 hR287 ⊢
              have hz288 : E283 81 24 = ai_i z1 := by rw [← hE285, cm_up_nei _ _ (by decide)]; exact hz7
              have ghz288 := gv_eq hz288
              have hz289 : E283 81 0 = ai_i 0 := by rw [← hE285, cm_up_nei _ _ (by decide)]; exact hz8
              have ghz289 := gv_eq hz289
              have hz290 : E283 95 ((z1 : Int).toNat) = ai_i p := by rw [← hE285, cm_up_eq]
              have ghz290 := gv_eq hz290
              refine w_aload (i := 0) (npc := 84) (v := cr 81) rfl rfl rfl ?_
              refine w_getf (i := 81) (ci := 8) (k := 27) (npc := 87) rfl (hI284.pl (by decide)) (hI284.T (by decide) rfl) (by decide) (hI284.ref 81 27 (p := 96) (by decide) (by decide) rfl) ?_
              refine w_aload (i := 0) (npc := 88) (v := cr 81) rfl rfl rfl ?_
              refine w_getf (i := 81) (ci := 8) (k := 24) (npc := 91) rfl (hI284.pl (by decide)) (hI284.T (by decide) rfl) (by decide) hz288 ?_
              refine w_iload (i := 2) (npc := 92) rfl rfl ?_
              refine w_ast (i := 96) (k := 1) (n := 8) (npc := 93) rfl (hI284.pl (by decide)) (hI284.T (by decide) rfl) (by decide) (by omega) cm_af1 ?_
              have hI292 := hI284.puti (i := 96) (k := (z1 : Int).toNat) (z := l) (lo := 0) (hi := 7) (by decide) rfl (by omega)
              have hF294 := cm_fr.up (i := 96) (k := (z1 : Int).toNat) (v := ai_i l) hF286 (by first | omega | (simp; done) | (simp; omega) | (simp only; omega))
              have hR295 := rl.wr (i := 96) (k := (z1 : Int).toNat) (v := ai_i l) hR287 (by omega)
              generalize hE293 : cm_up E283 96 ((z1 : Int).toNat) (ai_i l) = E291 at hI292 hF294 hR295 ⊢
              have hz296 : E291 81 24 = ai_i z1 := by rw [← hE293, cm_up_nei _ _ (by decide)]; exact hz288
              have ghz296 := gv_eq hz296
              have hz297 : E291 81 0 = ai_i 0 := by rw [← hE293, cm_up_nei _ _ (by decide)]; exact hz289
              have ghz297 := gv_eq hz297
              have hz298 : E291 95 ((z1 : Int).toNat) = ai_i p := by rw [← hE293, cm_up_nei _ _ (by decide)]; exact hz290
              have ghz298 := gv_eq hz298
              have hz299 : E291 96 ((z1 : Int).toNat) = ai_i l := by rw [← hE293, cm_up_eq]
              have ghz299 := gv_eq hz299
              refine w_aload (i := 0) (npc := 94) (v := cr 81) rfl rfl rfl ?_
              refine w_getf (i := 81) (ci := 8) (k := 28) (npc := 97) rfl (hI292.pl (by decide)) (hI292.T (by decide) rfl) (by decide) (hI292.ref 81 28 (p := 97) (by decide) (by decide) rfl) ?_
              refine w_aload (i := 0) (npc := 98) (v := cr 81) rfl rfl rfl ?_
              refine w_getf (i := 81) (ci := 8) (k := 24) (npc := 101) rfl (hI292.pl (by decide)) (hI292.T (by decide) rfl) (by decide) hz296 ?_
              refine w_iload (i := 3) (npc := 102) rfl rfl ?_
              refine w_ast (i := 97) (k := 1) (n := 8) (npc := 103) rfl (hI292.pl (by decide)) (hI292.T (by decide) rfl) (by decide) (by omega) cm_af1 ?_
              have hI301 := hI292.puti (i := 97) (k := (z1 : Int).toNat) (z := g) (lo := (-1)) (hi := 126) (by decide) rfl (by omega)
              have hF303 := cm_fr.up (i := 97) (k := (z1 : Int).toNat) (v := ai_i g) hF294 (by first | omega | (simp; done) | (simp; omega) | (simp only; omega))
              have hR304 := rl.wr (i := 97) (k := (z1 : Int).toNat) (v := ai_i g) hR295 (by omega)
              generalize hE302 : cm_up E291 97 ((z1 : Int).toNat) (ai_i g) = E300 at hI301 hF303 hR304 ⊢
              have hz305 : E300 81 24 = ai_i z1 := by rw [← hE302, cm_up_nei _ _ (by decide)]; exact hz296
              have ghz305 := gv_eq hz305
              have hz306 : E300 81 0 = ai_i 0 := by rw [← hE302, cm_up_nei _ _ (by decide)]; exact hz297
              have ghz306 := gv_eq hz306
              have hz307 : E300 95 ((z1 : Int).toNat) = ai_i p := by rw [← hE302, cm_up_nei _ _ (by decide)]; exact hz298
              have ghz307 := gv_eq hz307
              have hz308 : E300 96 ((z1 : Int).toNat) = ai_i l := by rw [← hE302, cm_up_nei _ _ (by decide)]; exact hz299
              have ghz308 := gv_eq hz308
              have hz309 : E300 97 ((z1 : Int).toNat) = ai_i g := by rw [← hE302, cm_up_eq]
              have ghz309 := gv_eq hz309
              refine w_aload (i := 0) (npc := 104) (v := cr 81) rfl rfl rfl ?_
              refine w_dup (npc := 105) rfl rfl ?_
              refine w_getf (i := 81) (ci := 8) (k := 24) (npc := 108) rfl (hI301.pl (by decide)) (hI301.T (by decide) rfl) (by decide) hz305 ?_
              refine w_const (n := 1) (npc := 109) rfl ?_
              refine w_iadd (npc := 110) rfl (by omega) ?_
              refine w_putf (i := 81) (ci := 8) (k := 24) (t := 0) (npc := 113) rfl (hI301.pl (by decide)) (hI301.T (by decide) rfl) (by decide) cm_fit0 ?_
              have hI312 := hI301.puti (i := 81) (k := 24) (z := z1 + 1) (lo := 0) (hi := 8) (by decide) rfl (by omega)
              have hF314 := cm_fr.up (i := 81) (k := 24) (v := ai_i (z1 + 1)) hF303 (by first | omega | (simp; done) | (simp; omega) | (simp only; omega))
              have hR315 := rl.wr (i := 81) (k := 24) (v := ai_i (z1 + 1)) hR304 (by omega)
              generalize hE313 : cm_up E300 81 24 (ai_i (z1 + 1)) = E311 at hI312 hF314 hR315 ⊢
              have hz316 : E311 81 0 = ai_i 0 := by rw [← hE313, cm_up_ne _ _ (by decide)]; exact hz306
              have ghz316 := gv_eq hz316
              have hz317 : E311 95 ((z1 : Int).toNat) = ai_i p := by rw [← hE313, cm_up_nei _ _ (by decide)]; exact hz307
              have ghz317 := gv_eq hz317
              have hz318 : E311 96 ((z1 : Int).toNat) = ai_i l := by rw [← hE313, cm_up_nei _ _ (by decide)]; exact hz308
              have ghz318 := gv_eq hz318
              have hz319 : E311 97 ((z1 : Int).toNat) = ai_i g := by rw [← hE313, cm_up_nei _ _ (by decide)]; exact hz309
              have ghz319 := gv_eq hz319
              have hz320 : E311 81 24 = ai_i (z1 + 1) := by rw [← hE313, cm_up_eq]
              have ghz320 := gv_eq hz320
              refine w_aload (i := 0) (npc := 114) (v := cr 81) rfl rfl rfl ?_
              refine w_getf (i := 81) (ci := 8) (k := 24) (npc := 117) rfl (hI312.pl (by decide)) (hI312.T (by decide) rfl) (by decide) hz320 ?_
              exact w_iret rfl (⟨rfl, rfl, rfl, hI312, hF314, hR315, z1 + 1, rfl, Or.inr ⟨by omega, by omega, by omega, by omega, by rw [← hE313, gv_ne _ _ (by omega), ← hE302, gv_ne _ _ (by omega), ← hE293, gv_ne _ _ (by omega), show gv E 81 24 = z1 by omega, ← hE285, gv_up], by rw [← hE313, gv_ne _ _ (by omega), ← hE302, gv_ne _ _ (by omega), show gv E 81 24 = z1 by omega, ← hE293, gv_up], by rw [← hE313, gv_ne _ _ (by omega), show gv E 81 24 = z1 by omega, ← hE302, gv_up]⟩⟩) (by omega) (by omega)
            · replace hc282 : ¬ ((1 : Int) ≠ 0) := hc282
              refine w_aload (i := 0) (npc := 62) (v := cr 81) rfl rfl rfl ?_
              refine w_getf (i := 81) (ci := 8) (k := 5) (npc := 65) rfl (hI3.pl (by decide)) (hI3.T (by decide) rfl) (by decide) (hI3.ref 81 5 (p := 85) (by decide) (by decide) rfl) ?_
              refine w_const (n := 2) (npc := 66) rfl ?_
              refine w_dup2 (npc := 67) rfl rfl rfl ?_
              obtain ⟨z321, hz321, hz321a, hz321b⟩ := hI3.int 85 (2 : Int).toNat (lo := (-2147483648)) (hi := 2147483647) (by decide) (show (2 : Int).toNat < 3 by omega) rfl
              have ghz321 := gv_eq hz321
              refine w_ald (i := 85) (t := 1) (n := 3) (npc := 68) rfl (hI3.pl (by decide)) (hI3.T (by decide) rfl) (by decide) rfl (by omega) hz321 ?_
              refine w_const (n := 1) (npc := 69) rfl ?_
              refine w_iaddw (npc := 70) rfl (fun z322 hz322 hz322b => ?_)
              refine w_ast (i := 85) (k := 1) (n := 3) (npc := 71) rfl (hI3.pl (by decide)) (hI3.T (by decide) rfl) (by decide) (by omega) cm_af1 ?_
              have hI324 := hI3.puti (i := 85) (k := (2 : Int).toNat) (z := z322) (lo := (-2147483648)) (hi := 2147483647) (by decide) rfl (by omega)
              have hF326 := cm_fr.up (i := 85) (k := (2 : Int).toNat) (v := ai_i z322) hF5 (by first | omega | (simp; done) | (simp; omega) | (simp only; omega))
              have hR327 := rl.wr (i := 85) (k := (2 : Int).toNat) (v := ai_i z322) hR6 (by omega)
              generalize hE325 : cm_up E2 85 ((2 : Int).toNat) (ai_i z322) = E323 at hI324 hF326 hR327 ⊢
              have hz328 : E323 81 24 = ai_i z1 := by rw [← hE325, cm_up_nei _ _ (by decide)]; exact hz7
              have ghz328 := gv_eq hz328
              have hz329 : E323 81 0 = ai_i 0 := by rw [← hE325, cm_up_nei _ _ (by decide)]; exact hz8
              have ghz329 := gv_eq hz329
              have hz330 : E323 85 ((2 : Int).toNat) = ai_i z322 := by rw [← hE325, cm_up_eq]
              have ghz330 := gv_eq hz330
              refine w_const (n := (-1)) (npc := 72) rfl ?_
              exact w_iret rfl (⟨rfl, rfl, rfl, hI324, hF326, hR327, (-1), rfl, Or.inl ⟨by omega, by omega, by omega, fun k => ⟨by rw [← hE325, gv_ne _ _ (by omega), ← hE4, gv_ne _ _ (by omega)], by rw [← hE325, gv_ne _ _ (by omega), ← hE4, gv_ne _ _ (by omega)], by rw [← hE325, gv_ne _ _ (by omega), ← hE4, gv_ne _ _ (by omega)]⟩⟩⟩) (by omega) (by omega)
