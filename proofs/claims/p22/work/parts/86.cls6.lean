set_option maxRecDepth 16384 in
theorem ct_pk_put {sl : Int × Int} {x : ai_E} {d : Nat} {T : cm_T} {E : cm_E} {nx : Nat} (v : Int)  (hI : cs_I T E nx) : cm_ct (ai_ev sl (d + 1)) x 64 [cr 17, ai_i v] T E nx 0 0 (fun rk rv T' E' nx' => rk = 0 ∧ T = T' ∧ nx = nx' ∧ cs_I T E' nx ∧ cm_fr (fun i k => (i = 17 ∧ k = 1) ∨ (i = 18 ∧ k = (gv E 17 1).toNat)) E E' ∧ (gv E 17 1 ≤ gv E' 17 1 ∧ gv E' 17 1 ≤ gv E 17 1 + 1 ∧ (gv E 17 1 ≤ 399 → gv E' 17 1 = gv E 17 1 + 1 ∧ (0 ≤ v → v ≤ 255 → gv E' 18 (gv E 17 1).toNat = v)))) := by
  refine cm_body (M := ai_m64) rfl rfl (fun kc ks => ?_)
  show cm_wp (ai_find ai_c64 sl) (ai_ev sl (d + 0)) x (kc + 0) (ks + 0) _ 0 [cr 17, ai_i v] [] T E nx kc ks
  have hF : cm_fr (fun i k => (i = 17 ∧ k = 1) ∨ (i = 18 ∧ k = (gv E 17 1).toNat)) E E := fun _ _ _ => rfl
  refine w_aload (i := 0) (npc := 1) (v := cr 17) rfl rfl rfl ?_
  obtain ⟨z1, hz1, hz1a, hz1b⟩ := hI.int 17 1 (lo := 0) (hi := 400) (by decide) (by decide) rfl
  have ghz1 := gv_eq hz1
  refine w_getf (i := 17) (ci := 2) (k := 1) (npc := 4) rfl (hI.pl (by decide)) (hI.T (by decide) rfl) (by decide) hz1 ?_
  refine w_aload (i := 0) (npc := 5) (v := cr 17) rfl rfl rfl ?_
  refine w_getf (i := 17) (ci := 2) (k := 0) (npc := 8) rfl (hI.pl (by decide)) (hI.T (by decide) rfl) (by decide) (hI.ref 17 0 (p := 18) (by decide) (by decide) rfl) ?_
  refine w_len (i := 18) (t := 1) (n := 400) (npc := 9) rfl (hI.pl (by decide)) (hI.T (by decide) rfl) (by decide) ?_
  refine w_icmp (c := .ge) (npc := 12) (pt := 36) rfl (fun hc2 => ?_) (fun hc2 => ?_)
  · replace hc2 : ((400 : Nat) : Int) ≤ z1 := hc2
    exact w_vret rfl (⟨rfl, rfl, rfl, hI, hF, by omega⟩) (by omega) (by omega)
  · replace hc2 : ¬ (((400 : Nat) : Int) ≤ z1) := hc2
    refine w_aload (i := 0) (npc := 13) (v := cr 17) rfl rfl rfl ?_
    refine w_getf (i := 17) (ci := 2) (k := 0) (npc := 16) rfl (hI.pl (by decide)) (hI.T (by decide) rfl) (by decide) (hI.ref 17 0 (p := 18) (by decide) (by decide) rfl) ?_
    refine w_aload (i := 0) (npc := 17) (v := cr 17) rfl rfl rfl ?_
    refine w_getf (i := 17) (ci := 2) (k := 1) (npc := 20) rfl (hI.pl (by decide)) (hI.T (by decide) rfl) (by decide) hz1 ?_
    refine w_iload (i := 1) (npc := 21) rfl rfl ?_
    refine w_const (n := 255) (npc := 24) rfl ?_
    refine w_iand (npc := 25) rfl (by omega) (fun z3 hz3 hz3b => ?_)
    refine w_ast (i := 18) (k := 1) (n := 400) (npc := 26) rfl (hI.pl (by decide)) (hI.T (by decide) rfl) (by decide) (by omega) cm_af1 ?_
    have hI5 := hI.puti (i := 18) (k := (z1 : Int).toNat) (z := z3) (lo := 0) (hi := 255) (by decide) rfl (by omega)
    have hF7 := cm_fr.up (i := 18) (k := (z1 : Int).toNat) (v := ai_i z3) hF (by first | omega | (simp; done) | (simp; omega) | (simp only; omega))
    generalize hE6 : cm_up E 18 ((z1 : Int).toNat) (ai_i z3) = E4 at hI5 hF7 ⊢
    have hz8 : E4 17 1 = ai_i z1 := by rw [← hE6, cm_up_nei _ _ (by decide)]; exact hz1
    have ghz8 := gv_eq hz8
    have hz9 : E4 18 ((z1 : Int).toNat) = ai_i z3 := by rw [← hE6, cm_up_eq]
    have ghz9 := gv_eq hz9
    refine w_aload (i := 0) (npc := 27) (v := cr 17) rfl rfl rfl ?_
    refine w_dup (npc := 28) rfl rfl ?_
    refine w_getf (i := 17) (ci := 2) (k := 1) (npc := 31) rfl (hI5.pl (by decide)) (hI5.T (by decide) rfl) (by decide) hz8 ?_
    refine w_const (n := 1) (npc := 32) rfl ?_
    refine w_iadd (npc := 33) rfl (by omega) ?_
    refine w_putf (i := 17) (ci := 2) (k := 1) (t := 0) (npc := 36) rfl (hI5.pl (by decide)) (hI5.T (by decide) rfl) (by decide) cm_fit0 ?_
    have hI12 := hI5.puti (i := 17) (k := 1) (z := z1 + 1) (lo := 0) (hi := 400) (by decide) rfl (by omega)
    have hF14 := cm_fr.up (i := 17) (k := 1) (v := ai_i (z1 + 1)) hF7 (by first | omega | (simp; done) | (simp; omega) | (simp only; omega))
    generalize hE13 : cm_up E4 17 1 (ai_i (z1 + 1)) = E11 at hI12 hF14 ⊢
    have hz15 : E11 18 ((z1 : Int).toNat) = ai_i z3 := by rw [← hE13, cm_up_nei _ _ (by decide)]; exact hz9
    have ghz15 := gv_eq hz15
    have hz16 : E11 17 1 = ai_i (z1 + 1) := by rw [← hE13, cm_up_eq]
    have ghz16 := gv_eq hz16
    exact w_vret rfl (⟨rfl, rfl, rfl, hI12, hF14, ⟨by omega, by omega, fun _ => ⟨by omega, fun a1 a2 => by rw [← hE13, gv_ne _ _ (by omega), ghz1, ← hE6, gv_up]; exact and255 hz3b ⟨a1, a2⟩⟩⟩⟩) (by omega) (by omega)
set_option maxRecDepth 16384 in
theorem ct_pk_putPair {sl : Int × Int} {x : ai_E} {d : Nat} {T : cm_T} {E : cm_E} {nx : Nat} (v : Int)  (hI : cs_I T E nx) (hp0 : 3 ≤ gv E 17 1) : cm_ct (ai_ev sl (d + 2)) x 67 [cr 17, ai_i v] T E nx 0 0 (fun rk rv T' E' nx' => rk = 0 ∧ T = T' ∧ nx = nx' ∧ cs_I T E' nx ∧ cm_fr (fun i k => (i = 17 ∧ k = 1) ∨ (i = 18 ∧ 3 ≤ k)) E E' ∧ (gv E 17 1 ≤ gv E' 17 1 ∧ gv E' 17 1 ≤ gv E 17 1 + 2)) := by
  refine cm_body (M := ai_m67) rfl rfl (fun kc ks => ?_)
  show cm_wp (ai_find ai_c67 sl) (ai_ev sl (d + 1)) x (kc + 0) (ks + 0) _ 0 [cr 17, ai_i v] [] T E nx kc ks
  have hF : cm_fr (fun i k => (i = 17 ∧ k = 1) ∨ (i = 18 ∧ 3 ≤ k)) E E := fun _ _ _ => rfl
  refine w_aload (i := 0) (npc := 1) (v := cr 17) rfl rfl rfl ?_
  refine w_iload (i := 1) (npc := 2) rfl rfl ?_
  refine w_const (n := 8) (npc := 4) rfl ?_
  refine w_con (npc := 5) rfl (fun z1 hz1 hz1b => ?_)
  refine w_virt (ci := 2) (i := 17) (npc := 8) (a := [cr 17, ai_i z1]) (rest := []) rfl rfl (hI.pl (by decide)) (hI.T (by decide) rfl) rfl rfl rfl rfl (ct_pk_put (sl := sl) (x := x) (d := d + 0) (z1) hI) (Or.inl rfl) (fun k9 v9 T3 E3 nx3 kc3 ks3 hq2 hk3 hv3 => ?_)
  obtain ⟨rfl, rfl, rfl, hI5, hG6, hz4⟩ := hq2
  obtain rfl : kc = kc3 := by omega
  obtain rfl : ks = ks3 := by omega
  have hF8 := cm_fr.trans hF hG6 (by intro i k h; (try simp only at h); (try simp only); omega)
  refine Or.inl ⟨rfl, ?_⟩
  refine w_aload (i := 0) (npc := 9) (v := cr 17) rfl rfl rfl ?_
  refine w_iload (i := 1) (npc := 10) rfl rfl ?_
  refine w_virt (ci := 2) (i := 17) (npc := 13) (a := [cr 17, ai_i v]) (rest := []) rfl rfl (hI5.pl (by decide)) (hI5.T (by decide) rfl) rfl rfl rfl rfl (ct_pk_put (sl := sl) (x := x) (d := d + 0) (v) hI5) (Or.inl rfl) (fun k9 v9 T10 E10 nx10 kc10 ks10 hq9 hk10 hv10 => ?_)
  obtain ⟨rfl, rfl, rfl, hI12, hG13, hz11⟩ := hq9
  obtain rfl : kc = kc10 := by omega
  obtain rfl : ks = ks10 := by omega
  have hF15 := cm_fr.trans hF8 hG13 (by intro i k h; (try simp only at h); (try simp only); omega)
  refine Or.inl ⟨rfl, ?_⟩
  exact w_vret rfl (⟨rfl, rfl, rfl, hI12, hF15, by omega⟩) (by omega) (by omega)
set_option maxRecDepth 16384 in
theorem ct_pk_putMark {sl : Int × Int} {x : ai_E} {d : Nat} {T : cm_T} {E : cm_E} {nx : Nat} (s : Int)  (hI : cs_I T E nx) (hp0 : 3 ≤ gv E 17 1) (hp1 : -1 ≤ s ∧ s ≤ 299) : cm_ct (ai_ev sl (d + 2)) x 66 [cr 17, ai_i s] T E nx 0 0 (fun rk rv T' E' nx' => rk = 0 ∧ T = T' ∧ nx = nx' ∧ cs_I T E' nx ∧ cm_fr (fun i k => (i = 17 ∧ k = 1) ∨ (i = 18 ∧ 3 ≤ k)) E E' ∧ (gv E 17 1 ≤ gv E' 17 1 ∧ gv E' 17 1 ≤ gv E 17 1 + 2)) := by
  refine cm_body (M := ai_m66) rfl rfl (fun kc ks => ?_)
  show cm_wp (ai_find ai_c66 sl) (ai_ev sl (d + 1)) x (kc + 0) (ks + 0) _ 0 [cr 17, ai_i s] [] T E nx kc ks
  have hF : cm_fr (fun i k => (i = 17 ∧ k = 1) ∨ (i = 18 ∧ 3 ≤ k)) E E := fun _ _ _ => rfl
  refine w_aload (i := 0) (npc := 1) (v := cr 17) rfl rfl rfl ?_
  refine w_iload (i := 1) (npc := 2) rfl rfl ?_
  refine w_const (n := 60) (npc := 4) rfl ?_
  refine w_idiv (npc := 5) rfl (by omega) (by omega) (fun z1 hz1 hz1b hz1c => ?_)
  refine w_virt (ci := 2) (i := 17) (npc := 8) (a := [cr 17, ai_i z1]) (rest := []) rfl rfl (hI.pl (by decide)) (hI.T (by decide) rfl) rfl rfl rfl rfl (ct_pk_put (sl := sl) (x := x) (d := d + 0) (z1) hI) (Or.inl rfl) (fun k9 v9 T3 E3 nx3 kc3 ks3 hq2 hk3 hv3 => ?_)
  obtain ⟨rfl, rfl, rfl, hI5, hG6, hz4⟩ := hq2
  obtain rfl : kc = kc3 := by omega
  obtain rfl : ks = ks3 := by omega
  have hF8 := cm_fr.trans hF hG6 (by intro i k h; (try simp only at h); (try simp only); omega)
  refine Or.inl ⟨rfl, ?_⟩
  refine w_aload (i := 0) (npc := 9) (v := cr 17) rfl rfl rfl ?_
  refine w_iload (i := 1) (npc := 10) rfl rfl ?_
  refine w_const (n := 60) (npc := 12) rfl ?_
  refine w_irem (npc := 13) rfl (by omega) (by omega) (fun z9 hz9 hz9b => ?_)
  refine w_const (n := 1) (npc := 14) rfl ?_
  refine w_iaddw (npc := 15) rfl (fun z10 hz10 hz10b => ?_)
  refine w_virt (ci := 2) (i := 17) (npc := 18) (a := [cr 17, ai_i z10]) (rest := []) rfl rfl (hI5.pl (by decide)) (hI5.T (by decide) rfl) rfl rfl rfl rfl (ct_pk_put (sl := sl) (x := x) (d := d + 0) (z10) hI5) (Or.inl rfl) (fun k9 v9 T12 E12 nx12 kc12 ks12 hq11 hk12 hv12 => ?_)
  obtain ⟨rfl, rfl, rfl, hI14, hG15, hz13⟩ := hq11
  obtain rfl : kc = kc12 := by omega
  obtain rfl : ks = ks12 := by omega
  have hF17 := cm_fr.trans hF8 hG15 (by intro i k h; (try simp only at h); (try simp only); omega)
  refine Or.inl ⟨rfl, ?_⟩
  exact w_vret rfl (⟨rfl, rfl, rfl, hI14, hF17, by omega⟩) (by omega) (by omega)
set_option maxRecDepth 16384 in
theorem ct_pk_putKey {sl : Int × Int} {x : ai_E} {d : Nat} {T : cm_T} {E : cm_E} {nx : Nat}  (hI : cs_I T E nx) (hp0 : 3 ≤ gv E 17 1) : cm_ct (ai_ev sl (d + 3)) x 65 [cr 17, cr 14] T E nx 0 0 (fun rk rv T' E' nx' => rk = 0 ∧ T = T' ∧ nx = nx' ∧ cs_I T E' nx ∧ cm_fr (fun i k => (i = 17 ∧ k = 1) ∨ (i = 18 ∧ 3 ≤ k)) E E' ∧ (gv E 17 1 ≤ gv E' 17 1 ∧ gv E' 17 1 ≤ gv E 17 1 + 49)) := by
  refine cm_body (M := ai_m65) rfl rfl (fun kc ks => ?_)
  show cm_wp (ai_find ai_c65 sl) (ai_ev sl (d + 2)) x (kc + 0) (ks + 0) _ 0 [cr 17, cr 14, ai_un] [] T E nx kc ks
  have hF : cm_fr (fun i k => (i = 17 ∧ k = 1) ∨ (i = 18 ∧ 3 ≤ k)) E E := fun _ _ _ => rfl
  refine w_aload (i := 0) (npc := 1) (v := cr 17) rfl rfl rfl ?_
  refine w_aload (i := 1) (npc := 2) (v := cr 14) rfl rfl rfl ?_
  obtain ⟨z1, hz1, hz1a, hz1b⟩ := hI.int 14 2 (lo := 0) (hi := 24) (by decide) (by decide) rfl
  have ghz1 := gv_eq hz1
  refine w_getf (i := 14) (ci := 1) (k := 2) (npc := 5) rfl (hI.pl (by decide)) (hI.T (by decide) rfl) (by decide) hz1 ?_
  refine w_virt (ci := 2) (i := 17) (npc := 8) (a := [cr 17, ai_i z1]) (rest := []) rfl rfl (hI.pl (by decide)) (hI.T (by decide) rfl) rfl rfl rfl rfl (ct_pk_put (sl := sl) (x := x) (d := d + 1) (z1) hI) (Or.inl rfl) (fun k9 v9 T3 E3 nx3 kc3 ks3 hq2 hk3 hv3 => ?_)
  obtain ⟨rfl, rfl, rfl, hI5, hG6, hz4⟩ := hq2
  obtain rfl : kc = kc3 := by omega
  obtain rfl : ks = ks3 := by omega
  have hF8 := cm_fr.trans hF hG6 (by intro i k h; (try simp only at h); (try simp only); omega)
  have hz9 : E3 14 2 = ai_i z1 := (hG6 14 2 (by first | omega | (simp; done) | (simp; omega) | (simp only; omega))).trans hz1
  have ghz9 := gv_eq hz9
  refine Or.inl ⟨rfl, ?_⟩
  refine w_const (n := 0) (npc := 9) rfl ?_
  refine w_istore (i := 2) (npc := 10) (loc' := [cr 17, cr 14, ai_i 0]) rfl rfl ?_
  have loop10 : ∀ (nf : Nat) (k : Int) (Eq10 : cm_E), ((24 - k).toNat) < nf → cs_I T Eq10 nx → cm_fr (fun i k => (i = 17 ∧ k = 1) ∨ (i = 18 ∧ 3 ≤ k)) E Eq10 → (0 ≤ k ∧ k ≤ 24 ∧ gv E 17 1 ≤ gv Eq10 17 1 ∧ gv Eq10 17 1 ≤ gv E 17 1 + 1 + 2 * k) → cm_wp (ai_find ai_c65 sl) (ai_ev sl (d + 2)) x (kc + 0) (ks + 0) (fun rk rv T' E' nx' => rk = 0 ∧ T = T' ∧ nx = nx' ∧ cs_I T E' nx ∧ cm_fr (fun i k => (i = 17 ∧ k = 1) ∨ (i = 18 ∧ 3 ≤ k)) E E' ∧ (gv E 17 1 ≤ gv E' 17 1 ∧ gv E' 17 1 ≤ gv E 17 1 + 49)) 10 [cr 17, cr 14, ai_i k] [] T Eq10 nx kc ks := by
    intro nf
    induction nf with
    | zero => intro k Eq10 hm; exact absurd hm (Nat.not_lt_zero _)
    | succ nf10 ih =>
      intro k Eq10 hm10 hI10 hF10 hv10
      have ih10 := ih; clear ih
      refine w_iload (i := 2) (npc := 11) rfl rfl ?_
      refine w_aload (i := 1) (npc := 12) (v := cr 14) rfl rfl rfl ?_
      obtain ⟨z10, hz10, hz10a, hz10b⟩ := hI10.int 14 2 (lo := 0) (hi := 24) (by decide) (by decide) rfl
      have ghz10 := gv_eq hz10
      refine w_getf (i := 14) (ci := 1) (k := 2) (npc := 15) rfl (hI10.pl (by decide)) (hI10.T (by decide) rfl) (by decide) hz10 ?_
      refine w_icmp (c := .ge) (npc := 18) (pt := 34) rfl (fun hc11 => ?_) (fun hc11 => ?_)
      · replace hc11 : z10 ≤ k := hc11
        exact w_vret rfl (⟨rfl, rfl, rfl, hI10, hF10, by omega⟩) (by omega) (by omega)
      · replace hc11 : ¬ (z10 ≤ k) := hc11
        refine w_aload (i := 0) (npc := 19) (v := cr 17) rfl rfl rfl ?_
        refine w_aload (i := 1) (npc := 20) (v := cr 14) rfl rfl rfl ?_
        refine w_getf (i := 14) (ci := 1) (k := 0) (npc := 23) rfl (hI10.pl (by decide)) (hI10.T (by decide) rfl) (by decide) (hI10.ref 14 0 (p := 15) (by decide) (by decide) rfl) ?_
        refine w_iload (i := 2) (npc := 24) rfl rfl ?_
        obtain ⟨z12, hz12, hz12a, hz12b⟩ := hI10.int 15 (k : Int).toNat (lo := 0) (hi := 65535) (by decide) (show (k : Int).toNat < 24 by omega) rfl
        have ghz12 := gv_eq hz12
        refine w_ald (i := 15) (t := 1) (n := 24) (npc := 25) rfl (hI10.pl (by decide)) (hI10.T (by decide) rfl) (by decide) rfl (by omega) hz12 ?_
        refine w_virt (ci := 2) (i := 17) (npc := 28) (a := [cr 17, ai_i z12]) (rest := []) rfl rfl (hI10.pl (by decide)) (hI10.T (by decide) rfl) rfl rfl rfl rfl (ct_pk_putPair (sl := sl) (x := x) (d := d + 0) (z12) hI10 (by omega)) (Or.inl rfl) (fun k9 v9 T14 E14 nx14 kc14 ks14 hq13 hk14 hv14 => ?_)
        obtain ⟨rfl, rfl, rfl, hI16, hG17, hz15⟩ := hq13
        obtain rfl : kc = kc14 := by omega
        obtain rfl : ks = ks14 := by omega
        have hF19 := cm_fr.trans hF10 hG17 (by intro i k h; (try simp only at h); (try simp only); omega)
        have hz20 : E14 14 2 = ai_i z10 := (hG17 14 2 (by first | omega | (simp; done) | (simp; omega) | (simp only; omega))).trans hz10
        have ghz20 := gv_eq hz20
        refine Or.inl ⟨rfl, ?_⟩
        refine w_iinc (i := 2) (n := 1) (npc := 31) (loc' := [cr 17, cr 14, ai_i (k + 1)]) rfl rfl (by omega) rfl ?_
        refine w_goto (pt := 10) rfl ?_
        exact ih10 (k + 1) E14 (by omega) hI16 hF19 (by omega)
  exact loop10 _ (0) E3 (Nat.lt_succ_self _) hI5 hF8 (by omega)
set_option maxRecDepth 16384 in
theorem ct_pk_begin {sl : Int × Int} {x : ai_E} {d : Nat} {T : cm_T} {E : cm_E} {nx : Nat} (c : Int) {b : Nat} (hb_b : 41 ≤ b ∧ b ≤ 77 ∧ b % 4 = 1) (hI : cs_I T E nx) (hp0 : 0 ≤ c ∧ c ≤ 3) (hp1 : gv E (b + 2) (gv E b 0).toNat ≤ 59) : cm_ct (ai_ev sl (d + 3)) x 62 [cr 17, ai_i c, cr b] T E nx 0 0 (fun rk rv T' E' nx' => rk = 0 ∧ T = T' ∧ nx = nx' ∧ cs_I T E' nx ∧ cm_fr (fun i k => (i = 17 ∧ k = 1) ∨ i = 18) E E' ∧ ((3 ≤ gv E' 17 1 ∧ gv E' 17 1 ≤ 10) ∧ gv E' 18 1 ≤ 4 ∧ 1 ≤ gv E' 18 2 ∧ gv E' 18 2 ≤ 60)) := by
  refine cm_body (M := ai_m62) rfl rfl (fun kc ks => ?_)
  show cm_wp (ai_find ai_c62 sl) (ai_ev sl (d + 2)) x (kc + 0) (ks + 0) _ 0 [cr 17, ai_i c, cr b, ai_un] [] T E nx kc ks
  have hF : cm_fr (fun i k => (i = 17 ∧ k = 1) ∨ i = 18) E E := fun _ _ _ => rfl
  refine w_aload (i := 0) (npc := 1) (v := cr 17) rfl rfl rfl ?_
  refine w_const (n := 0) (npc := 2) rfl ?_
  refine w_putf (i := 17) (ci := 2) (k := 1) (t := 0) (npc := 5) rfl (hI.pl (by decide)) (hI.T (by decide) rfl) (by decide) cm_fit0 ?_
  have hI2 := hI.puti (i := 17) (k := 1) (z := 0) (lo := 0) (hi := 400) (by decide) rfl (by omega)
  have hF4 := cm_fr.up (i := 17) (k := 1) (v := ai_i 0) hF (by first | omega | (simp; done) | (simp; omega) | (simp only; omega))
  generalize hE3 : cm_up E 17 1 (ai_i 0) = E1 at hI2 hF4 ⊢
  have hz5 : E1 17 1 = ai_i 0 := by rw [← hE3, cm_up_eq]
  have ghz5 := gv_eq hz5
  refine w_aload (i := 0) (npc := 6) (v := cr 17) rfl rfl rfl ?_
  refine w_iload (i := 1) (npc := 7) rfl rfl ?_
  refine w_virt (ci := 2) (i := 17) (npc := 10) (a := [cr 17, ai_i c]) (rest := []) rfl rfl (hI2.pl (by decide)) (hI2.T (by decide) rfl) rfl rfl rfl rfl (ct_pk_put (sl := sl) (x := x) (d := d + 1) (c) hI2) (Or.inl rfl) (fun k9 v9 T7 E7 nx7 kc7 ks7 hq6 hk7 hv7 => ?_)
  obtain ⟨rfl, rfl, rfl, hI9, hG10, hz8⟩ := hq6
  obtain rfl : kc = kc7 := by omega
  obtain rfl : ks = ks7 := by omega
  have hF12 := cm_fr.trans hF4 hG10 (by intro i k h; (try simp only at h); (try simp only); omega)
  refine Or.inl ⟨rfl, ?_⟩
  refine w_aload (i := 0) (npc := 11) (v := cr 17) rfl rfl rfl ?_
  refine w_aload (i := 2) (npc := 12) (v := cr b) rfl rfl rfl ?_
  obtain ⟨z13, hz13, hz13a, hz13b⟩ := hI9.pg0 hb_b
  have ghz13 := gv_eq hz13
  have g0hz13 : gv E b 0 = z13 := (gv_fr hF12 (by first | omega | (simp; done) | (simp; omega) | (simp only; omega))).trans ghz13
  refine w_getf (i := b) (ci := 3) (k := 0) (npc := 15) rfl (hI9.pl (by omega)) (hI9.pgT0 hb_b) (by decide) hz13 ?_
  refine w_virt (ci := 2) (i := 17) (npc := 18) (a := [cr 17, ai_i z13]) (rest := []) rfl rfl (hI9.pl (by decide)) (hI9.T (by decide) rfl) rfl rfl rfl rfl (ct_pk_put (sl := sl) (x := x) (d := d + 1) (z13) hI9) (Or.inl rfl) (fun k9 v9 T15 E15 nx15 kc15 ks15 hq14 hk15 hv15 => ?_)
  obtain ⟨rfl, rfl, rfl, hI17, hG18, hz16⟩ := hq14
  obtain rfl : kc = kc15 := by omega
  obtain rfl : ks = ks15 := by omega
  have hF20 := cm_fr.trans hF12 hG18 (by intro i k h; (try simp only at h); (try simp only); omega)
  have hz21 : E15 b 0 = ai_i z13 := (hG18 b 0 (by first | omega | (simp; done) | (simp; omega) | (simp only; omega))).trans hz13
  have ghz21 := gv_eq hz21
  refine Or.inl ⟨rfl, ?_⟩
  refine w_aload (i := 0) (npc := 19) (v := cr 17) rfl rfl rfl ?_
  refine w_aload (i := 2) (npc := 20) (v := cr b) rfl rfl rfl ?_
  refine w_aload (i := 2) (npc := 21) (v := cr b) rfl rfl rfl ?_
  refine w_getf (i := b) (ci := 3) (k := 0) (npc := 24) rfl (hI17.pl (by omega)) (hI17.pgT0 hb_b) (by decide) hz21 ?_
  refine w_virt (ci := 3) (i := b) (npc := 27) (a := [cr b, ai_i z13]) (rest := [cr 17]) rfl rfl (hI17.pl (by omega)) (hI17.pgT0 hb_b) rfl rfl rfl rfl (ct_pg_stepsOf (sl := sl) (x := x) (d := d + 1) (z13) (b := b) hb_b hI17) (Or.inl rfl) (fun k9 v9 T23 E23 nx23 kc23 ks23 hq22 hk23 hv23 => ?_)
  obtain ⟨rfl, rfl, rfl, rfl, z24, rfl, hz24⟩ := hq22
  obtain rfl : kc = kc23 := by omega
  obtain rfl : ks = ks23 := by omega
  refine Or.inr (Or.inl ⟨rfl, ?_⟩)
  have h59 : gv E15 (b + 2) (z13 : Int).toNat ≤ 59 := by
    have e1 := gv_fr hF20 (i := b + 2) (k := (z13 : Int).toNat) (by omega)
    have e2 : gv E (b + 2) (z13 : Int).toNat = gv E (b + 2) (gv E b 0).toNat := by rw [show gv E b 0 = z13 by omega]
    omega
  refine w_const (n := 1) (npc := 28) rfl ?_
  refine w_iadd (npc := 29) rfl (by omega) ?_
  refine w_virt (ci := 2) (i := 17) (npc := 32) (a := [cr 17, ai_i (z24 + 1)]) (rest := []) rfl rfl (hI17.pl (by decide)) (hI17.T (by decide) rfl) rfl rfl rfl rfl (ct_pk_put (sl := sl) (x := x) (d := d + 1) (z24 + 1) hI17) (Or.inl rfl) (fun k9 v9 T30 E30 nx30 kc30 ks30 hq29 hk30 hv30 => ?_)
  obtain ⟨rfl, rfl, rfl, hI32, hG33, hz31⟩ := hq29
  obtain rfl : kc = kc30 := by omega
  obtain rfl : ks = ks30 := by omega
  have hF35 := cm_fr.trans hF20 hG33 (by intro i k h; (try simp only at h); (try simp only); omega)
  have hz36 : E30 b 0 = ai_i z13 := (hG33 b 0 (by first | omega | (simp; done) | (simp; omega) | (simp only; omega))).trans hz21
  have ghz36 := gv_eq hz36
  refine Or.inl ⟨rfl, ?_⟩
  refine w_const (n := 0) (npc := 33) rfl ?_
  refine w_istore (i := 3) (npc := 34) (loc' := [cr 17, ai_i c, cr b, ai_i 0]) rfl rfl ?_
  have loop34 : ∀ (nf : Nat) (w : Int) (Eq34 : cm_E), ((5 - w).toNat) < nf → cs_I T Eq34 nx → cm_fr (fun i k => (i = 17 ∧ k = 1) ∨ i = 18) E Eq34 → (0 ≤ w ∧ w ≤ 5 ∧ gv Eq34 17 1 = 3 + w ∧ gv Eq34 18 1 ≤ 4 ∧ 1 ≤ gv Eq34 18 2 ∧ gv Eq34 18 2 ≤ 60) → cm_wp (ai_find ai_c62 sl) (ai_ev sl (d + 2)) x (kc + 0) (ks + 0) (fun rk rv T' E' nx' => rk = 0 ∧ T = T' ∧ nx = nx' ∧ cs_I T E' nx ∧ cm_fr (fun i k => (i = 17 ∧ k = 1) ∨ i = 18) E E' ∧ ((3 ≤ gv E' 17 1 ∧ gv E' 17 1 ≤ 10) ∧ gv E' 18 1 ≤ 4 ∧ 1 ≤ gv E' 18 2 ∧ gv E' 18 2 ≤ 60)) 34 [cr 17, ai_i c, cr b, ai_i w] [] T Eq34 nx kc ks := by
    intro nf
    induction nf with
    | zero => intro w Eq34 hm; exact absurd hm (Nat.not_lt_zero _)
    | succ nf34 ih =>
      intro w Eq34 hm34 hI34 hF34 hv34
      have ih34 := ih; clear ih
      refine w_iload (i := 3) (npc := 35) rfl rfl ?_
      refine w_const (n := 5) (npc := 36) rfl ?_
      refine w_icmp (c := .ge) (npc := 39) (pt := 54) rfl (fun hc37 => ?_) (fun hc37 => ?_)
      · replace hc37 : (5 : Int) ≤ w := hc37
        refine w_aload (i := 0) (npc := 55) (v := cr 17) rfl rfl rfl ?_
        refine w_aload (i := 2) (npc := 56) (v := cr b) rfl rfl rfl ?_
        obtain ⟨z38, hz38, hz38a, hz38b⟩ := hI34.pg5 hb_b
        have ghz38 := gv_eq hz38
        refine w_getf (i := b) (ci := 3) (k := 5) (npc := 59) rfl (hI34.pl (by omega)) (hI34.pgT0 hb_b) (by decide) hz38 ?_
        refine w_const (n := 1) (npc := 60) rfl ?_
        refine w_iadd (npc := 61) rfl (by omega) ?_
        refine w_virt (ci := 2) (i := 17) (npc := 64) (a := [cr 17, ai_i (z38 + 1)]) (rest := []) rfl rfl (hI34.pl (by decide)) (hI34.T (by decide) rfl) rfl rfl rfl rfl (ct_pk_putPair (sl := sl) (x := x) (d := d + 0) (z38 + 1) hI34 (by omega)) (Or.inl rfl) (fun k9 v9 T41 E41 nx41 kc41 ks41 hq40 hk41 hv41 => ?_)
        obtain ⟨rfl, rfl, rfl, hI43, hG44, hz42⟩ := hq40
        obtain rfl : kc = kc41 := by omega
        obtain rfl : ks = ks41 := by omega
        have hF46 := cm_fr.trans hF34 hG44 (by intro i k h; (try simp only at h); (try simp only); omega)
        have hz47 : E41 b 5 = ai_i z38 := (hG44 b 5 (by first | omega | (simp; done) | (simp; omega) | (simp only; omega))).trans hz38
        have ghz47 := gv_eq hz47
        refine Or.inl ⟨rfl, ?_⟩
        exact w_vret rfl (⟨rfl, rfl, rfl, hI43, hF46, by have e1 := gv_fr hG44 (i := 18) (k := 1) (by omega); have e2 := gv_fr hG44 (i := 18) (k := 2) (by omega); omega⟩) (by omega) (by omega)
      · replace hc37 : ¬ ((5 : Int) ≤ w) := hc37
        refine w_aload (i := 0) (npc := 40) (v := cr 17) rfl rfl rfl ?_
        refine w_aload (i := 2) (npc := 41) (v := cr b) rfl rfl rfl ?_
        refine w_iload (i := 3) (npc := 42) rfl rfl ?_
        refine w_virt (ci := 3) (i := b) (npc := 45) (a := [cr b, ai_i w]) (rest := [cr 17]) rfl rfl (hI34.pl (by omega)) (hI34.pgT0 hb_b) rfl rfl rfl rfl (ct_pg_stepsOf (sl := sl) (x := x) (d := d + 1) (w) (b := b) hb_b hI34) (Or.inl rfl) (fun k9 v9 T49 E49 nx49 kc49 ks49 hq48 hk49 hv49 => ?_)
        obtain ⟨rfl, rfl, rfl, rfl, z50, rfl, hz50⟩ := hq48
        obtain rfl : kc = kc49 := by omega
        obtain rfl : ks = ks49 := by omega
        refine Or.inr (Or.inl ⟨rfl, ?_⟩)
        refine w_virt (ci := 2) (i := 17) (npc := 48) (a := [cr 17, ai_i z50]) (rest := []) rfl rfl (hI34.pl (by decide)) (hI34.T (by decide) rfl) rfl rfl rfl rfl (ct_pk_put (sl := sl) (x := x) (d := d + 1) (z50) hI34) (Or.inl rfl) (fun k9 v9 T55 E55 nx55 kc55 ks55 hq54 hk55 hv55 => ?_)
        obtain ⟨rfl, rfl, rfl, hI57, hG58, hz56⟩ := hq54
        obtain rfl : kc = kc55 := by omega
        obtain rfl : ks = ks55 := by omega
        have hF60 := cm_fr.trans hF34 hG58 (by intro i k h; (try simp only at h); (try simp only); omega)
        refine Or.inl ⟨rfl, ?_⟩
        refine w_iinc (i := 3) (n := 1) (npc := 51) (loc' := [cr 17, ai_i c, cr b, ai_i (w + 1)]) rfl rfl (by omega) rfl ?_
        refine w_goto (pt := 34) rfl ?_
        exact ih34 (w + 1) E55 (by omega) hI57 hF60 (by have e1 := gv_fr hG58 (i := 18) (k := 1) (by omega); have e2 := gv_fr hG58 (i := 18) (k := 2) (by omega); omega)
  exact loop34 _ (0) E30 (Nat.lt_succ_self _) hI32 hF35 (by
      have e1 := gv_fr hG33 (i := 18) (k := 1) (by omega)
      have e2 := (hz16.2.2 (by omega)).2 (by omega) (by omega)
      rw [show (gv E7 17 1).toNat = 1 by omega] at e2
      have e3 := (hz31.2.2 (by omega)).2 (by omega) (by omega)
      rw [show (gv E15 17 1).toNat = 2 by omega] at e3
      omega)
