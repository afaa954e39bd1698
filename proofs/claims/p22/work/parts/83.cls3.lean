set_option maxRecDepth 16384 in
theorem ct_ar_fill {sl : Int × Int} {x : ai_E} {d : Nat} {T : cm_T} {E : cm_E} {nx : Nat} (v : Int) {b : Nat} (hb_b : 41 ≤ b ∧ b ≤ 77 ∧ b % 4 = 1) (hI : cs_I T E nx) (hp0 : 0 ≤ v ∧ v ≤ 60) : cm_ct (ai_ev sl (d + 1)) x 225 [cr (b + 2), ai_i v] T E nx 0 0 (fun rk rv T' E' nx' => rk = 0 ∧ T = T' ∧ nx = nx' ∧ cs_I T E' nx ∧ cm_fr (fun i k => i = b + 2) E E' ∧ (True)) := by
  refine cm_body (M := ai_m225) rfl rfl (fun kc ks => ?_)
  show cm_wp (ai_find ai_c225 sl) (ai_ev sl (d + 0)) x (kc + 0) (ks + 0) _ 0 [cr (b + 2), ai_i v, ai_un, ai_un] [] T E nx kc ks
  have hF : cm_fr (fun i k => i = b + 2) E E := fun _ _ _ => rfl
  refine w_const (n := 0) (npc := 1) rfl ?_
  refine w_istore (i := 2) (npc := 2) (loc' := [cr (b + 2), ai_i v, ai_i 0, ai_un]) rfl rfl ?_
  refine w_aload (i := 0) (npc := 3) (v := cr (b + 2)) rfl rfl rfl ?_
  refine w_len (i := b + 2) (t := 1) (n := 5) (npc := 4) rfl (hI.pl (by omega)) (hI.pgT2 hb_b) (by decide) ?_
  refine w_istore (i := 3) (npc := 5) (loc' := [cr (b + 2), ai_i v, ai_i 0, ai_i (((5 : Nat) : Int))]) rfl rfl ?_
  have loop5 : ∀ (nf : Nat) (i : Int) (Eq5 : cm_E), ((5 - i).toNat) < nf → cs_I T Eq5 nx → cm_fr (fun i k => i = b + 2) E Eq5 → (0 ≤ i ∧ i ≤ 5) → cm_wp (ai_find ai_c225 sl) (ai_ev sl (d + 0)) x (kc + 0) (ks + 0) (fun rk rv T' E' nx' => rk = 0 ∧ T = T' ∧ nx = nx' ∧ cs_I T E' nx ∧ cm_fr (fun i k => i = b + 2) E E' ∧ (True)) 5 [cr (b + 2), ai_i v, ai_i i, ai_i (((5 : Nat) : Int))] [] T Eq5 nx kc ks := by
    intro nf
    induction nf with
    | zero => intro i Eq5 hm; exact absurd hm (Nat.not_lt_zero _)
    | succ nf5 ih =>
      intro i Eq5 hm5 hI5 hF5 hv5
      have ih5 := ih; clear ih
      refine w_iload (i := 2) (npc := 6) rfl rfl ?_
      refine w_iload (i := 3) (npc := 7) rfl rfl ?_
      refine w_icmp (c := .ge) (npc := 10) (pt := 20) rfl (fun hc1 => ?_) (fun hc1 => ?_)
      · replace hc1 : ((5 : Nat) : Int) ≤ i := hc1
        exact w_vret rfl (⟨rfl, rfl, rfl, hI5, hF5, trivial⟩) (by omega) (by omega)
      · replace hc1 : ¬ (((5 : Nat) : Int) ≤ i) := hc1
        refine w_aload (i := 0) (npc := 11) (v := cr (b + 2)) rfl rfl rfl ?_
        refine w_iload (i := 2) (npc := 12) rfl rfl ?_
        refine w_iload (i := 1) (npc := 13) rfl rfl ?_
        refine w_ast (i := b + 2) (k := 1) (n := 5) (npc := 14) rfl (hI5.pl (by omega)) (hI5.pgT2 hb_b) (by decide) (by omega) cm_af1 ?_
        have hI3 := hI5.pgcw hb_b (k := (i : Int).toNat) (z := v) (by omega)
        have hF5 := cm_fr.up (i := b + 2) (k := (i : Int).toNat) (v := ai_i v) hF5 (by first | omega | (simp; done) | (simp; omega) | (simp only; omega))
        generalize hE4 : cm_up Eq5 (b + 2) ((i : Int).toNat) (ai_i v) = E2 at hI3 hF5 ⊢
        have hz6 : E2 (b + 2) ((i : Int).toNat) = ai_i v := by rw [← hE4, cm_up_eq]
        have ghz6 := gv_eq hz6
        refine w_iinc (i := 2) (n := 1) (npc := 17) (loc' := [cr (b + 2), ai_i v, ai_i (i + 1), ai_i (((5 : Nat) : Int))]) rfl rfl (by omega) rfl ?_
        refine w_goto (pt := 5) rfl ?_
        exact ih5 (i + 1) E2 (by omega) hI3 hF5 (by omega)
  exact loop5 _ (0) E (Nat.lt_succ_self _) hI hF (by omega)
set_option maxRecDepth 16384 in
theorem ct_pg_have {sl : Int × Int} {x : ai_E} {d : Nat} {T : cm_T} {E : cm_E} {nx : Nat} {b : Nat} (hb_b : 41 ≤ b ∧ b ≤ 77 ∧ b % 4 = 1) {q : Nat} (hs_q : cs_st T E nx q) (hI : cs_I T E nx) (hN : hn E) : cm_ct (ai_ev sl (d + 3)) x 73 [cr b, cr q] T E nx 0 0 (fun rk rv T' E' nx' => rk = 0 ∧ T = T' ∧ nx = nx' ∧ cs_I T E' nx ∧ cm_fr (fun i k => b ≤ i ∧ i ≤ b + 3) E E' ∧ hn E' ∧ (True)) := by
  refine cm_body (M := ai_m73) rfl rfl (fun kc ks => ?_)
  show cm_wp (ai_find ai_c73 sl) (ai_ev sl (d + 2)) x (kc + 0) (ks + 0) _ 0 [cr b, cr q, ai_un] [] T E nx kc ks
  have hF : cm_fr (fun i k => b ≤ i ∧ i ≤ b + 3) E E := fun _ _ _ => rfl
  refine w_aload (i := 1) (npc := 1) (v := cr q) rfl rfl rfl ?_
  refine w_virt (ci := 4) (i := q) (npc := 4) (a := [cr q]) (rest := []) rfl rfl hs_q.lt hs_q.T0 rfl rfl rfl rfl (ct_sp_writer (sl := sl) (x := x) (d := d + 0)  hs_q) (Or.inl rfl) (fun k9 v9 T2 E2 nx2 kc2 ks2 hq1 hk2 hv2 => ?_)
  obtain ⟨rfl, rfl, rfl, rfl, z3, rfl, hz3⟩ := hq1
  obtain rfl : kc = kc2 := by omega
  obtain rfl : ks = ks2 := by omega
  refine Or.inr (Or.inl ⟨rfl, ?_⟩)
  refine w_istore (i := 2) (npc := 5) (loc' := [cr b, cr q, ai_i z3]) rfl rfl ?_
  refine w_iload (i := 2) (npc := 6) rfl rfl ?_
  refine w_const (n := 5) (npc := 7) rfl ?_
  refine w_icmp (c := .ge) (npc := 10) (pt := 62) rfl (fun hc7 => ?_) (fun hc7 => ?_)
  · replace hc7 : (5 : Int) ≤ z3 := hc7
    exact w_vret rfl (⟨rfl, rfl, rfl, hI, hF, hN, trivial⟩) (by omega) (by omega)
  · replace hc7 : ¬ ((5 : Int) ≤ z3) := hc7
    refine w_aload (i := 0) (npc := 11) (v := cr b) rfl rfl rfl ?_
    refine w_getf (i := b) (ci := 3) (k := 2) (npc := 14) rfl (hI.pl (by omega)) (hI.pgT0 hb_b) (by decide) (hI.pg2 hb_b) ?_
    refine w_iload (i := 2) (npc := 15) rfl rfl ?_
    obtain ⟨z8, hz8, hz8a, hz8b⟩ := hI.pgc hb_b (z3 : Int).toNat (by omega)
    have ghz8 := gv_eq hz8
    refine w_ald (i := b + 2) (t := 1) (n := 5) (npc := 16) rfl (hI.pl (by omega)) (hI.pgT2 hb_b) (by decide) rfl (by omega) hz8 ?_
    refine w_const (n := 60) (npc := 18) rfl ?_
    refine w_icmp (c := .ge) (npc := 21) (pt := 62) rfl (fun hc9 => ?_) (fun hc9 => ?_)
    · replace hc9 : (60 : Int) ≤ z8 := hc9
      exact w_vret rfl (⟨rfl, rfl, rfl, hI, hF, hN, trivial⟩) (by omega) (by omega)
    · replace hc9 : ¬ ((60 : Int) ≤ z8) := hc9
      refine w_aload (i := 0) (npc := 22) (v := cr b) rfl rfl rfl ?_
      refine w_getf (i := b) (ci := 3) (k := 2) (npc := 25) rfl (hI.pl (by omega)) (hI.pgT0 hb_b) (by decide) (hI.pg2 hb_b) ?_
      refine w_iload (i := 2) (npc := 26) rfl rfl ?_
      refine w_dup2 (npc := 27) rfl rfl rfl ?_
      refine w_ald (i := b + 2) (t := 1) (n := 5) (npc := 28) rfl (hI.pl (by omega)) (hI.pgT2 hb_b) (by decide) rfl (by omega) hz8 ?_
      refine w_const (n := 1) (npc := 29) rfl ?_
      refine w_iadd (npc := 30) rfl (by omega) ?_
      refine w_ast (i := b + 2) (k := 1) (n := 5) (npc := 31) rfl (hI.pl (by omega)) (hI.pgT2 hb_b) (by decide) (by omega) cm_af1 ?_
      have hI12 := hI.pgcw hb_b (k := (z3 : Int).toNat) (z := z8 + 1) (by omega)
      have hF14 := cm_fr.up (i := b + 2) (k := (z3 : Int).toNat) (v := ai_i (z8 + 1)) hF (by first | omega | (simp; done) | (simp; omega) | (simp only; omega))
      have hN15 := hn.wr (i := b + 2) (k := (z3 : Int).toNat) (v := ai_i (z8 + 1)) hN (by omega)
      have hs16 := hs_q.up (i := b + 2) (k := (z3 : Int).toNat) (v := ai_i (z8 + 1)) (by omega)
      generalize hE13 : cm_up E (b + 2) ((z3 : Int).toNat) (ai_i (z8 + 1)) = E11 at hI12 hF14 hN15 hs16 ⊢
      have hz17 : E11 (b + 2) ((z3 : Int).toNat) = ai_i (z8 + 1) := by rw [← hE13, cm_up_eq]
      have ghz17 := gv_eq hz17
      refine w_aload (i := 0) (npc := 32) (v := cr b) rfl rfl rfl ?_
      refine w_getf (i := b) (ci := 3) (k := 1) (npc := 35) rfl (hI12.pl (by omega)) (hI12.pgT0 hb_b) (by decide) (hI12.pg1 hb_b) ?_
      refine w_iload (i := 2) (npc := 36) rfl rfl ?_
      refine w_aload (i := 0) (npc := 37) (v := cr b) rfl rfl rfl ?_
      refine w_getf (i := b) (ci := 3) (k := 2) (npc := 40) rfl (hI12.pl (by omega)) (hI12.pgT0 hb_b) (by decide) (hI12.pg2 hb_b) ?_
      refine w_iload (i := 2) (npc := 41) rfl rfl ?_
      refine w_ald (i := b + 2) (t := 1) (n := 5) (npc := 42) rfl (hI12.pl (by omega)) (hI12.pgT2 hb_b) (by decide) rfl (by omega) hz17 ?_
      refine w_call (npc := 45) (a := [ai_i z3, ai_i (z8 + 1)]) (rest := [cr (b + 1)]) rfl rfl rfl rfl rfl (ct_c_slotOf (sl := sl) (x := x) (d := d + 1) (z3) (z8 + 1) (by omega) (by omega)) (Or.inr (fun _ _ _ _ _ hq => by have h1 := hq.1; omega)) (fun k9 v9 T19 E19 nx19 kc19 ks19 hq18 hk19 hv19 => ?_)
      obtain ⟨rfl, rfl, rfl, rfl, z20, rfl, hz20⟩ := hq18
      obtain rfl : kc = kc19 := by omega
      obtain rfl : ks = ks19 := by omega
      refine Or.inr (Or.inl ⟨rfl, ?_⟩)
      refine w_aload (i := 1) (npc := 46) (v := cr q) rfl rfl rfl ?_
      refine w_aast (i := b + 1) (k := 5) (n := 300) (npc := 47) rfl (hI12.pl (by omega)) (hI12.pgT1 hb_b) (Or.inr rfl) (by omega) (Or.inr ⟨q, rfl, hs16.lt, hs16.T0⟩) ?_
      have hI25 := hI12.pgsw hb_b (k := (z20 : Int).toNat) hs16
      have hF27 := cm_fr.up (i := b + 1) (k := (z20 : Int).toNat) (v := cr q) hF14 (by first | omega | (simp; done) | (simp; omega) | (simp only; omega))
      have hN28 := hn.wr (i := b + 1) (k := (z20 : Int).toNat) (v := cr q) hN15 (by omega)
      have hs29 := hs16.up (i := b + 1) (k := (z20 : Int).toNat) (v := cr q) (by omega)
      generalize hE26 : cm_up E11 (b + 1) ((z20 : Int).toNat) (cr q) = E24 at hI25 hF27 hN28 hs29 ⊢
      have hz30 : E24 (b + 2) ((z3 : Int).toNat) = ai_i (z8 + 1) := by rw [← hE26, cm_up_nei _ _ (by omega)]; exact hz17
      have ghz30 := gv_eq hz30
      have hz31 : E24 (b + 1) ((z20 : Int).toNat) = cr q := by rw [← hE26, cm_up_eq]
      refine w_aload (i := 0) (npc := 48) (v := cr b) rfl rfl rfl ?_
      refine w_aload (i := 0) (npc := 49) (v := cr b) rfl rfl rfl ?_
      obtain ⟨z32, hz32, hz32a, hz32b⟩ := hI25.pg5 hb_b
      have ghz32 := gv_eq hz32
      refine w_getf (i := b) (ci := 3) (k := 5) (npc := 52) rfl (hI25.pl (by omega)) (hI25.pgT0 hb_b) (by decide) hz32 ?_
      refine w_aload (i := 1) (npc := 53) (v := cr q) rfl rfl rfl ?_
      refine w_virt (ci := 4) (i := q) (npc := 56) (a := [cr q]) (rest := [ai_i z32, cr b]) rfl rfl hs29.lt hs29.T0 rfl rfl rfl rfl (ct_sp_age (sl := sl) (x := x) (d := d + 0)  hs29) (Or.inl rfl) (fun k9 v9 T34 E34 nx34 kc34 ks34 hq33 hk34 hv34 => ?_)
      obtain ⟨rfl, rfl, rfl, rfl, z35, rfl, hz35⟩ := hq33
      obtain rfl : kc = kc34 := by omega
      obtain rfl : ks = ks34 := by omega
      refine Or.inr (Or.inl ⟨rfl, ?_⟩)
      refine w_max (npc := 59) rfl rfl ?_
      obtain ⟨z39, hz39⟩ : ∃ z39 : Int, z39 = max z32 z35 := ⟨_, rfl⟩
      rw [← hz39]
      refine w_putf (i := b) (ci := 3) (k := 5) (t := 0) (npc := 62) rfl (hI25.pl (by omega)) (hI25.pgT0 hb_b) (by decide) cm_fit0 ?_
      have hI41 := hI25.pg5w hb_b (z := z39) (by omega)
      have hF43 := cm_fr.up (i := b) (k := 5) (v := ai_i z39) hF27 (by first | omega | (simp; done) | (simp; omega) | (simp only; omega))
      have hN44 := hn.wr (i := b) (k := 5) (v := ai_i z39) hN28 (by omega)
      have hs45 := hs29.up (i := b) (k := 5) (v := ai_i z39) (by omega)
      generalize hE42 : cm_up E24 b 5 (ai_i z39) = E40 at hI41 hF43 hN44 hs45 ⊢
      have hz46 : E40 (b + 2) ((z3 : Int).toNat) = ai_i (z8 + 1) := by rw [← hE42, cm_up_nei _ _ (by omega)]; exact hz30
      have ghz46 := gv_eq hz46
      have hz47 : E40 (b + 1) ((z20 : Int).toNat) = cr q := by rw [← hE42, cm_up_nei _ _ (by omega)]; exact hz31
      have hz48 : E40 b 5 = ai_i z39 := by rw [← hE42, cm_up_eq]
      have ghz48 := gv_eq hz48
      exact w_vret rfl (⟨rfl, rfl, rfl, hI41, hF43, hN44, trivial⟩) (by omega) (by omega)
set_option maxRecDepth 16384 in
theorem ct_pg_dropOvertaken {sl : Int × Int} {x : ai_E} {d : Nat} {T : cm_T} {E : cm_E} {nx : Nat} {b : Nat} (hb_b : 41 ≤ b ∧ b ≤ 77 ∧ b % 4 = 1) (hI : cs_I T E nx) (hN : hn E) : cm_ct (ai_ev sl (d + 3)) x 71 [cr b] T E nx 0 0 (fun rk rv T' E' nx' => rk = 0 ∧ T = T' ∧ nx = nx' ∧ cs_I T E' nx ∧ cm_fr (fun i k => b ≤ i ∧ i ≤ b + 3) E E' ∧ hn E' ∧ (True)) := by
  refine cm_body (M := ai_m71) rfl rfl (fun kc ks => ?_)
  show cm_wp (ai_find ai_c71 sl) (ai_ev sl (d + 2)) x (kc + 0) (ks + 0) _ 0 [cr b, ai_un, ai_un] [] T E nx kc ks
  have hF : cm_fr (fun i k => b ≤ i ∧ i ≤ b + 3) E E := fun _ _ _ => rfl
  obtain ⟨z1, hz1, hz1a, hz1b⟩ := hI.pg4 hb_b
  have ghz1 := gv_eq hz1
  refine w_const (n := 0) (npc := 1) rfl ?_
  refine w_istore (i := 1) (npc := 2) (loc' := [cr b, ai_i 0, ai_un]) rfl rfl ?_
  refine w_const (n := 0) (npc := 3) rfl ?_
  refine w_istore (i := 2) (npc := 4) (loc' := [cr b, ai_i 0, ai_i 0]) rfl rfl ?_
  have loop4 : ∀ (nf : Nat) (l : Int) (i : Int) (Eq4 : cm_E), ((20 - i).toNat) < nf → cs_I T Eq4 nx → cm_fr (fun i k => b ≤ i ∧ i ≤ b + 3) E Eq4 → hn Eq4 → (0 ≤ l ∧ l ≤ i ∧ i ≤ gv Eq4 b 4) → cm_wp (ai_find ai_c71 sl) (ai_ev sl (d + 2)) x (kc + 0) (ks + 0) (fun rk rv T' E' nx' => rk = 0 ∧ T = T' ∧ nx = nx' ∧ cs_I T E' nx ∧ cm_fr (fun i k => b ≤ i ∧ i ≤ b + 3) E E' ∧ hn E' ∧ (True)) 4 [cr b, ai_i l, ai_i i] [] T Eq4 nx kc ks := by
    intro nf
    induction nf with
    | zero => intro l i Eq4 hm; exact absurd hm (Nat.not_lt_zero _)
    | succ nf4 ih =>
      intro l i Eq4 hm4 hI4 hF4 hN4 hv4
      obtain ⟨z2, hz2, hz2a, hz2b⟩ := hI4.pg4 hb_b
      have ghz2 := gv_eq hz2
      have ih4 := ih; clear ih
      refine w_iload (i := 2) (npc := 5) rfl rfl ?_
      refine w_aload (i := 0) (npc := 6) (v := cr b) rfl rfl rfl ?_
      refine w_getf (i := b) (ci := 3) (k := 4) (npc := 9) rfl (hI4.pl (by omega)) (hI4.pgT0 hb_b) (by decide) hz2 ?_
      refine w_icmp (c := .ge) (npc := 12) (pt := 58) rfl (fun hc3 => ?_) (fun hc3 => ?_)
      · replace hc3 : z2 ≤ i := hc3
        refine w_iload (i := 1) (npc := 59) rfl rfl ?_
        refine w_istore (i := 2) (npc := 60) (loc' := [cr b, ai_i l, ai_i l]) rfl rfl ?_
        have loop60 : ∀ (nf : Nat) (j : Int) (Eq60 : cm_E), ((20 - j).toNat) < nf → cs_I T Eq60 nx → cm_fr (fun i k => b ≤ i ∧ i ≤ b + 3) E Eq60 → (0 ≤ l ∧ l ≤ j ∧ j ≤ 20 ∧ ∀ k : Nat, (k : Int) < l → Eq60 (b + 3) k ≠ ai_nul) → cm_wp (ai_find ai_c71 sl) (ai_ev sl (d + 2)) x (kc + 0) (ks + 0) (fun rk rv T' E' nx' => rk = 0 ∧ T = T' ∧ nx = nx' ∧ cs_I T E' nx ∧ cm_fr (fun i k => b ≤ i ∧ i ≤ b + 3) E E' ∧ hn E' ∧ (True)) 60 [cr b, ai_i l, ai_i j] [] T Eq60 nx kc ks := by
          intro nf
          induction nf with
          | zero => intro j Eq60 hm; exact absurd hm (Nat.not_lt_zero _)
          | succ nf60 ih =>
            intro j Eq60 hm60 hI60 hF60 hv60
            have ih60 := ih; clear ih
            refine w_iload (i := 2) (npc := 61) rfl rfl ?_
            refine w_aload (i := 0) (npc := 62) (v := cr b) rfl rfl rfl ?_
            obtain ⟨z4, hz4, hz4a, hz4b⟩ := hI60.pg4 hb_b
            have ghz4 := gv_eq hz4
            refine w_getf (i := b) (ci := 3) (k := 4) (npc := 65) rfl (hI60.pl (by omega)) (hI60.pgT0 hb_b) (by decide) hz4 ?_
            refine w_icmp (c := .ge) (npc := 68) (pt := 81) rfl (fun hc5 => ?_) (fun hc5 => ?_)
            · replace hc5 : z4 ≤ j := hc5
              refine w_aload (i := 0) (npc := 82) (v := cr b) rfl rfl rfl ?_
              refine w_iload (i := 1) (npc := 83) rfl rfl ?_
              refine w_putf (i := b) (ci := 3) (k := 4) (t := 0) (npc := 86) rfl (hI60.pl (by omega)) (hI60.pgT0 hb_b) (by decide) cm_fit0 ?_
              have hI7 := hI60.pg4w hb_b (z := l) (by omega)
              have hF9 := cm_fr.up (i := b) (k := 4) (v := ai_i l) hF60 (by first | omega | (simp; done) | (simp; omega) | (simp only; omega))
              generalize hE8 : cm_up Eq60 b 4 (ai_i l) = E6 at hI7 hF9 ⊢
              have hz10 : E6 b 4 = ai_i l := by rw [← hE8, cm_up_eq]
              have ghz10 := gv_eq hz10
              have hN11 : hn E6 := hN.of hb_b hF9 (fun i hi => by
                rw [← hE8, cm_up_nei _ _ (by omega)]
                exact hv60.2.2.2 i (by omega))
              exact w_vret rfl (⟨rfl, rfl, rfl, hI7, hF9, hN11, trivial⟩) (by omega) (by omega)
            · replace hc5 : ¬ (z4 ≤ j) := hc5
              refine w_aload (i := 0) (npc := 69) (v := cr b) rfl rfl rfl ?_
              refine w_getf (i := b) (ci := 3) (k := 3) (npc := 72) rfl (hI60.pl (by omega)) (hI60.pgT0 hb_b) (by decide) (hI60.pg3 hb_b) ?_
              refine w_iload (i := 2) (npc := 73) rfl rfl ?_
              refine w_null (npc := 74) rfl ?_
              refine w_aast (i := b + 3) (k := 5) (n := 20) (npc := 75) rfl (hI60.pl (by omega)) (hI60.pgT3 hb_b) (Or.inr rfl) (by omega) (Or.inl rfl) ?_
              have hI13 := hI60.pghn hb_b (k := (j : Int).toNat)
              have hF15 := cm_fr.up (i := b + 3) (k := (j : Int).toNat) (v := ai_nul) hF60 (by first | omega | (simp; done) | (simp; omega) | (simp only; omega))
              generalize hE14 : cm_up Eq60 (b + 3) ((j : Int).toNat) (ai_nul) = E12 at hI13 hF15 ⊢
              have hz16 : E12 b 4 = ai_i z4 := by rw [← hE14, cm_up_nei _ _ (by omega)]; exact hz4
              have ghz16 := gv_eq hz16
              refine w_iinc (i := 2) (n := 1) (npc := 78) (loc' := [cr b, ai_i l, ai_i (j + 1)]) rfl rfl (by omega) rfl ?_
              refine w_goto (pt := 60) rfl ?_
              exact ih60 (j + 1) E12 (by omega) hI13 hF15 (⟨by omega, by omega, by omega, fun k hk => by rw [← hE14, cm_up_ne _ _ (by omega)]; exact hv60.2.2.2 k hk⟩)
        exact loop60 _ (l) Eq4 (Nat.lt_succ_self _) hI4 hF4 (⟨by omega, by omega, by omega, fun k hk => hN4 b k hb_b.1 hb_b.2.1 hb_b.2.2 (by omega)⟩)
      · replace hc3 : ¬ (z2 ≤ i) := hc3
        refine w_aload (i := 0) (npc := 13) (v := cr b) rfl rfl rfl ?_
        refine w_getf (i := b) (ci := 3) (k := 3) (npc := 16) rfl (hI4.pl (by omega)) (hI4.pgT0 hb_b) (by decide) (hI4.pg3 hb_b) ?_
        refine w_iload (i := 2) (npc := 17) rfl rfl ?_
        obtain ⟨q18, hq18, hs19⟩ := hN4.st hI4 hb_b (i := i) (by omega) (by omega)
        refine w_ald (i := b + 3) (t := 5) (n := 20) (npc := 18) rfl (hI4.pl (by omega)) (hI4.pgT3 hb_b) (by decide) rfl (by omega) hq18 ?_
        refine w_virt (ci := 4) (i := q18) (npc := 21) (a := [cr q18]) (rest := []) rfl rfl hs19.lt hs19.T0 rfl rfl rfl rfl (ct_sp_number (sl := sl) (x := x) (d := d + 0)  hs19) (Or.inl rfl) (fun k9 v9 T21 E21 nx21 kc21 ks21 hq20 hk21 hv21 => ?_)
        obtain ⟨rfl, rfl, rfl, rfl, z22, rfl, hz22⟩ := hq20
        obtain rfl : kc = kc21 := by omega
        obtain rfl : ks = ks21 := by omega
        refine Or.inr (Or.inl ⟨rfl, ?_⟩)
        refine w_aload (i := 0) (npc := 22) (v := cr b) rfl rfl rfl ?_
        refine w_aload (i := 0) (npc := 23) (v := cr b) rfl rfl rfl ?_
        refine w_getf (i := b) (ci := 3) (k := 3) (npc := 26) rfl (hI4.pl (by omega)) (hI4.pgT0 hb_b) (by decide) (hI4.pg3 hb_b) ?_
        refine w_iload (i := 2) (npc := 27) rfl rfl ?_
        obtain ⟨q26, hq26, hs27⟩ := hN4.st hI4 hb_b (i := i) (by omega) (by omega)
        refine w_ald (i := b + 3) (t := 5) (n := 20) (npc := 28) rfl (hI4.pl (by omega)) (hI4.pgT3 hb_b) (by decide) rfl (by omega) hq26 ?_
        refine w_virt (ci := 4) (i := q26) (npc := 31) (a := [cr q26]) (rest := [cr b, ai_i z22]) rfl rfl hs27.lt hs27.T0 rfl rfl rfl rfl (ct_sp_writer (sl := sl) (x := x) (d := d + 0)  hs27) (Or.inl rfl) (fun k9 v9 T29 E29 nx29 kc29 ks29 hq28 hk29 hv29 => ?_)
        obtain ⟨rfl, rfl, rfl, rfl, z30, rfl, hz30⟩ := hq28
        obtain rfl : kc = kc29 := by omega
        obtain rfl : ks = ks29 := by omega
        refine Or.inr (Or.inl ⟨rfl, ?_⟩)
        refine w_virt (ci := 3) (i := b) (npc := 34) (a := [cr b, ai_i z30]) (rest := [ai_i z22]) rfl rfl (hI4.pl (by omega)) (hI4.pgT0 hb_b) rfl rfl rfl rfl (ct_pg_stepsOf (sl := sl) (x := x) (d := d + 1) (z30) (b := b) hb_b hI4) (Or.inl rfl) (fun k9 v9 T35 E35 nx35 kc35 ks35 hq34 hk35 hv35 => ?_)
        obtain ⟨rfl, rfl, rfl, rfl, z36, rfl, hz36⟩ := hq34
        obtain rfl : kc = kc35 := by omega
        obtain rfl : ks = ks35 := by omega
        refine Or.inr (Or.inl ⟨rfl, ?_⟩)
        refine w_icmp (c := .le) (npc := 37) (pt := 52) rfl (fun hc40 => ?_) (fun hc40 => ?_)
        · replace hc40 : z22 ≤ z36 := hc40
          refine w_iinc (i := 2) (n := 1) (npc := 55) (loc' := [cr b, ai_i l, ai_i (i + 1)]) rfl rfl (by omega) rfl ?_
          refine w_goto (pt := 4) rfl ?_
          exact ih4 (l) (i + 1) Eq4 (by omega) hI4 hF4 hN4 (by omega)
        · replace hc40 : ¬ (z22 ≤ z36) := hc40
          refine w_aload (i := 0) (npc := 38) (v := cr b) rfl rfl rfl ?_
          refine w_getf (i := b) (ci := 3) (k := 3) (npc := 41) rfl (hI4.pl (by omega)) (hI4.pgT0 hb_b) (by decide) (hI4.pg3 hb_b) ?_
          refine w_iload (i := 1) (npc := 42) rfl rfl ?_
          refine w_aload (i := 0) (npc := 43) (v := cr b) rfl rfl rfl ?_
          refine w_getf (i := b) (ci := 3) (k := 3) (npc := 46) rfl (hI4.pl (by omega)) (hI4.pgT0 hb_b) (by decide) (hI4.pg3 hb_b) ?_
          refine w_iload (i := 2) (npc := 47) rfl rfl ?_
          obtain ⟨q42, hq42, hs43⟩ := hN4.st hI4 hb_b (i := i) (by omega) (by omega)
          refine w_ald (i := b + 3) (t := 5) (n := 20) (npc := 48) rfl (hI4.pl (by omega)) (hI4.pgT3 hb_b) (by decide) rfl (by omega) hq42 ?_
          refine w_aast (i := b + 3) (k := 5) (n := 20) (npc := 49) rfl (hI4.pl (by omega)) (hI4.pgT3 hb_b) (Or.inr rfl) (by omega) (Or.inr ⟨q42, rfl, hs43.lt, hs43.T0⟩) ?_
          have hI45 := hI4.pghw hb_b (k := (l : Int).toNat) hs43
          have hF47 := cm_fr.up (i := b + 3) (k := (l : Int).toNat) (v := cr q42) hF4 (by first | omega | (simp; done) | (simp; omega) | (simp only; omega))
          have hN48 := hn.wrs (i := b + 3) (k := (l : Int).toNat) (q := q42) hN4 (by omega)
          generalize hE46 : cm_up Eq4 (b + 3) ((l : Int).toNat) (cr q42) = E44 at hI45 hF47 hN48 ⊢
          have hz49 : E44 b 4 = ai_i z2 := by rw [← hE46, cm_up_nei _ _ (by omega)]; exact hz2
          have ghz49 := gv_eq hz49
          have hz50 : E44 (b + 3) ((l : Int).toNat) = cr q42 := by rw [← hE46, cm_up_eq]
          refine w_iinc (i := 1) (n := 1) (npc := 52) (loc' := [cr b, ai_i (l + 1), ai_i i]) rfl rfl (by omega) rfl ?_
          refine w_iinc (i := 2) (n := 1) (npc := 55) (loc' := [cr b, ai_i (l + 1), ai_i (i + 1)]) rfl rfl (by omega) rfl ?_
          refine w_goto (pt := 4) rfl ?_
          exact ih4 (l + 1) (i + 1) E44 (by omega) hI45 hF47 hN48 (by omega)
  exact loop4 _ (0) (0) E (Nat.lt_succ_self _) hI hF hN (by omega)
set_option maxRecDepth 16384 in
theorem ct_pg_settle {sl : Int × Int} {x : ai_E} {d : Nat} {T : cm_T} {E : cm_E} {nx : Nat} {b : Nat} (hb_b : 41 ≤ b ∧ b ≤ 77 ∧ b % 4 = 1) (hI : cs_I T E nx) (hN : hn E) : cm_ct (ai_ev sl (d + 5)) x 78 [cr b] T E nx 0 0 (fun rk rv T' E' nx' => rk = 0 ∧ T = T' ∧ nx = nx' ∧ cs_I T E' nx ∧ cm_fr (fun i k => b ≤ i ∧ i ≤ b + 3) E E' ∧ hn E' ∧ (True)) := by
  refine cm_body (M := ai_m78) rfl rfl (fun kc ks => ?_)
  show cm_wp (ai_find ai_c78 sl) (ai_ev sl (d + 4)) x (kc + 0) (ks + 0) _ 0 [cr b, ai_un, ai_un] [] T E nx kc ks
  have hF : cm_fr (fun i k => b ≤ i ∧ i ≤ b + 3) E E := fun _ _ _ => rfl
  refine w_aload (i := 0) (npc := 1) (v := cr b) rfl rfl rfl ?_
  refine w_virt (ci := 3) (i := b) (npc := 4) (a := [cr b]) (rest := []) rfl rfl (hI.pl (by omega)) (hI.pgT0 hb_b) rfl rfl rfl rfl (ct_pg_dropOvertaken (sl := sl) (x := x) (d := d + 1)  (b := b) hb_b hI hN) (Or.inl rfl) (fun k9 v9 T2 E2 nx2 kc2 ks2 hq1 hk2 hv2 => ?_)
  obtain ⟨rfl, rfl, rfl, hI4, hG5, hN6, hz3⟩ := hq1
  obtain rfl : kc = kc2 := by omega
  obtain rfl : ks = ks2 := by omega
  have hF7 := cm_fr.trans hF hG5 (by intro i k h; (try simp only at h); (try simp only); omega)
  refine Or.inl ⟨rfl, ?_⟩
  refine w_const (n := 0) (npc := 5) rfl ?_
  refine w_istore (i := 1) (npc := 6) (loc' := [cr b, ai_i 0, ai_un]) rfl rfl ?_
  have loop6 : ∀ (nf : Nat) (i : Int) (u6_2 : ai_V) (Eq6 : cm_E), ((20 - i).toNat) < nf → cs_I T Eq6 nx → cm_fr (fun i k => b ≤ i ∧ i ≤ b + 3) E Eq6 → hn Eq6 → (0 ≤ i ∧ i ≤ 20) → cm_wp (ai_find ai_c78 sl) (ai_ev sl (d + 4)) x (kc + 0) (ks + 0) (fun rk rv T' E' nx' => rk = 0 ∧ T = T' ∧ nx = nx' ∧ cs_I T E' nx ∧ cm_fr (fun i k => b ≤ i ∧ i ≤ b + 3) E E' ∧ hn E' ∧ (True)) 6 [cr b, ai_i i, u6_2] [] T Eq6 nx kc ks := by
    intro nf
    induction nf with
    | zero => intro i u6_2 Eq6 hm; exact absurd hm (Nat.not_lt_zero _)
    | succ nf6 ih =>
      intro i u6_2 Eq6 hm6 hI6 hF6 hN6 hv6
      have ih6 := ih; clear ih
      refine w_iload (i := 1) (npc := 7) rfl rfl ?_
      refine w_const (n := 20) (npc := 9) rfl ?_
      refine w_icmp (c := .ge) (npc := 12) (pt := 43) rfl (fun hc8 => ?_) (fun hc8 => ?_)
      · replace hc8 : (20 : Int) ≤ i := hc8
        exact w_vret rfl (⟨rfl, rfl, rfl, hI6, hF6, hN6, trivial⟩) (by omega) (by omega)
      · replace hc8 : ¬ ((20 : Int) ≤ i) := hc8
        refine w_aload (i := 0) (npc := 13) (v := cr b) rfl rfl rfl ?_
        refine w_virt (ci := 3) (i := b) (npc := 16) (a := [cr b]) (rest := []) rfl rfl (hI6.pl (by omega)) (hI6.pgT0 hb_b) rfl rfl rfl rfl (ct_pg_leastReady (sl := sl) (x := x) (d := d + 0)  (b := b) hb_b hI6 hN6) (Or.inl rfl) (fun k9 v9 T10 E10 nx10 kc10 ks10 hq9 hk10 hv10 => ?_)
        obtain ⟨rfl, rfl, rfl, rfl, z11, rfl, hz11⟩ := hq9
        obtain rfl : kc = kc10 := by omega
        obtain rfl : ks = ks10 := by omega
        refine Or.inr (Or.inl ⟨rfl, ?_⟩)
        refine w_istore (i := 2) (npc := 17) (loc' := [cr b, ai_i i, ai_i z11]) rfl rfl ?_
        refine w_iload (i := 2) (npc := 18) rfl rfl ?_
        refine w_const (n := (-1)) (npc := 19) rfl ?_
        refine w_icmp (c := .ne) (npc := 22) (pt := 23) rfl (fun hc15 => ?_) (fun hc15 => ?_)
        · replace hc15 : z11 ≠ ((-1) : Int) := hc15
          refine w_aload (i := 0) (npc := 24) (v := cr b) rfl rfl rfl ?_
          refine w_aload (i := 0) (npc := 25) (v := cr b) rfl rfl rfl ?_
          refine w_getf (i := b) (ci := 3) (k := 3) (npc := 28) rfl (hI6.pl (by omega)) (hI6.pgT0 hb_b) (by decide) (hI6.pg3 hb_b) ?_
          refine w_iload (i := 2) (npc := 29) rfl rfl ?_
          obtain ⟨z18, hz18, hz18a, hz18b⟩ := hI6.pg4 hb_b
          have ghz18 := gv_eq hz18
          obtain ⟨q16, hq16, hs17⟩ := hN6.st hI6 hb_b (i := z11) (by omega) (by omega)
          refine w_ald (i := b + 3) (t := 5) (n := 20) (npc := 30) rfl (hI6.pl (by omega)) (hI6.pgT3 hb_b) (by decide) rfl (by omega) hq16 ?_
          refine w_virt (ci := 3) (i := b) (npc := 33) (a := [cr b, cr q16]) (rest := []) rfl rfl (hI6.pl (by omega)) (hI6.pgT0 hb_b) rfl rfl rfl rfl (ct_pg_have (sl := sl) (x := x) (d := d + 1)  (b := b) hb_b hs17 hI6 hN6) (Or.inl rfl) (fun k9 v9 T20 E20 nx20 kc20 ks20 hq19 hk20 hv20 => ?_)
          obtain ⟨rfl, rfl, rfl, hI22, hG23, hN24, hz21⟩ := hq19
          obtain rfl : kc = kc20 := by omega
          obtain rfl : ks = ks20 := by omega
          have hF25 := cm_fr.trans hF6 hG23 (by intro i k h; (try simp only at h); (try simp only); omega)
          refine Or.inl ⟨rfl, ?_⟩
          refine w_aload (i := 0) (npc := 34) (v := cr b) rfl rfl rfl ?_
          refine w_virt (ci := 3) (i := b) (npc := 37) (a := [cr b]) (rest := []) rfl rfl (hI22.pl (by omega)) (hI22.pgT0 hb_b) rfl rfl rfl rfl (ct_pg_dropOvertaken (sl := sl) (x := x) (d := d + 1)  (b := b) hb_b hI22 hN24) (Or.inl rfl) (fun k9 v9 T27 E27 nx27 kc27 ks27 hq26 hk27 hv27 => ?_)
          obtain ⟨rfl, rfl, rfl, hI29, hG30, hN31, hz28⟩ := hq26
          obtain rfl : kc = kc27 := by omega
          obtain rfl : ks = ks27 := by omega
          have hF32 := cm_fr.trans hF25 hG30 (by intro i k h; (try simp only at h); (try simp only); omega)
          refine Or.inl ⟨rfl, ?_⟩
          refine w_iinc (i := 1) (n := 1) (npc := 40) (loc' := [cr b, ai_i (i + 1), ai_i z11]) rfl rfl (by omega) rfl ?_
          refine w_goto (pt := 6) rfl ?_
          exact ih6 (i + 1) (ai_i z11) E27 (by omega) hI29 hF32 hN31 (by omega)
        · replace hc15 : ¬ (z11 ≠ ((-1) : Int)) := hc15
          exact w_vret rfl (⟨rfl, rfl, rfl, hI6, hF6, hN6, trivial⟩) (by omega) (by omega)
  exact loop6 _ (0) (ai_un) E2 (Nat.lt_succ_self _) hI4 hF7 hN6 (by omega)
set_option maxRecDepth 16384 in
theorem ct_pg_receive {sl : Int × Int} {x : ai_E} {d : Nat} {T : cm_T} {E : cm_E} {nx : Nat} {b : Nat} (hb_b : 41 ≤ b ∧ b ≤ 77 ∧ b % 4 = 1) {q : Nat} (hs_q : cs_st T E nx q) (hI : cs_I T E nx) (hN : hn E) : cm_ct (ai_ev sl (d + 6)) x 77 [cr b, cr q] T E nx 0 0 (fun rk rv T' E' nx' => rk = 1 ∧ T = T' ∧ nx = nx' ∧ cs_I T E' nx ∧ cm_fr (fun i k => b ≤ i ∧ i ≤ b + 3) E E' ∧ hn E' ∧ ∃ z : Int, rv = ai_i z ∧ (0 ≤ z ∧ z ≤ 15)) := by
  refine cm_body (M := ai_m77) rfl rfl (fun kc ks => ?_)
  show cm_wp (ai_find ai_c77 sl) (ai_ev sl (d + 5)) x (kc + 0) (ks + 0) _ 0 [cr b, cr q, ai_un] [] T E nx kc ks
  have hF : cm_fr (fun i k => b ≤ i ∧ i ≤ b + 3) E E := fun _ _ _ => rfl
  refine w_aload (i := 0) (npc := 1) (v := cr b) rfl rfl rfl ?_
  refine w_aload (i := 1) (npc := 2) (v := cr q) rfl rfl rfl ?_
  refine w_virt (ci := 4) (i := q) (npc := 5) (a := [cr q]) (rest := [cr b]) rfl rfl hs_q.lt hs_q.T0 rfl rfl rfl rfl (ct_sp_writer (sl := sl) (x := x) (d := d + 3)  hs_q) (Or.inl rfl) (fun k9 v9 T2 E2 nx2 kc2 ks2 hq1 hk2 hv2 => ?_)
  obtain ⟨rfl, rfl, rfl, rfl, z3, rfl, hz3⟩ := hq1
  obtain rfl : kc = kc2 := by omega
  obtain rfl : ks = ks2 := by omega
  refine Or.inr (Or.inl ⟨rfl, ?_⟩)
  refine w_aload (i := 1) (npc := 6) (v := cr q) rfl rfl rfl ?_
  refine w_virt (ci := 4) (i := q) (npc := 9) (a := [cr q]) (rest := [ai_i z3, cr b]) rfl rfl hs_q.lt hs_q.T0 rfl rfl rfl rfl (ct_sp_number (sl := sl) (x := x) (d := d + 3)  hs_q) (Or.inl rfl) (fun k9 v9 T8 E8 nx8 kc8 ks8 hq7 hk8 hv8 => ?_)
  obtain ⟨rfl, rfl, rfl, rfl, z9, rfl, hz9⟩ := hq7
  obtain rfl : kc = kc8 := by omega
  obtain rfl : ks = ks8 := by omega
  refine Or.inr (Or.inl ⟨rfl, ?_⟩)
  refine w_virt (ci := 3) (i := b) (npc := 12) (a := [cr b, ai_i z3, ai_i z9]) (rest := []) rfl rfl (hI.pl (by omega)) (hI.pgT0 hb_b) rfl rfl rfl rfl (ct_pg_stepOf (sl := sl) (x := x) (d := d + 3) (z3) (z9) (b := b) hb_b hI) (Or.inl rfl) (fun k9 v9 T14 E14 nx14 kc14 ks14 hq13 hk14 hv14 => ?_)
  obtain ⟨rfl, rfl, rfl, rfl, hq13⟩ := hq13
  obtain rfl : kc = kc14 := by omega
  obtain rfl : ks = ks14 := by omega
  rcases hq13 with rfl | ⟨q19, rfl, hs20, hz15⟩
  · refine Or.inr (Or.inl ⟨rfl, ?_⟩)
    refine w_astore (i := 2) (npc := 13) (loc' := [cr b, cr q, ai_nul]) rfl rfl rfl ?_
    refine w_aload (i := 2) (npc := 14) (v := ai_nul) rfl rfl rfl ?_
    refine w_isnullN (pt := 17) (npc := 30) rfl ?_
    refine w_aload (i := 0) (npc := 18) (v := cr b) rfl rfl rfl ?_
    refine w_aload (i := 1) (npc := 19) (v := cr q) rfl rfl rfl ?_
    refine w_virt (ci := 4) (i := q) (npc := 22) (a := [cr q]) (rest := [cr b]) rfl rfl hs_q.lt hs_q.T0 rfl rfl rfl rfl (ct_sp_writer (sl := sl) (x := x) (d := d + 3)  hs_q) (Or.inl rfl) (fun k9 v9 T22 E22 nx22 kc22 ks22 hq21 hk22 hv22 => ?_)
    obtain ⟨rfl, rfl, rfl, rfl, z23, rfl, hz23⟩ := hq21
    obtain rfl : kc = kc22 := by omega
    obtain rfl : ks = ks22 := by omega
    refine Or.inr (Or.inl ⟨rfl, ?_⟩)
    refine w_aload (i := 1) (npc := 23) (v := cr q) rfl rfl rfl ?_
    refine w_virt (ci := 4) (i := q) (npc := 26) (a := [cr q]) (rest := [ai_i z23, cr b]) rfl rfl hs_q.lt hs_q.T0 rfl rfl rfl rfl (ct_sp_number (sl := sl) (x := x) (d := d + 3)  hs_q) (Or.inl rfl) (fun k9 v9 T28 E28 nx28 kc28 ks28 hq27 hk28 hv28 => ?_)
    obtain ⟨rfl, rfl, rfl, rfl, z29, rfl, hz29⟩ := hq27
    obtain rfl : kc = kc28 := by omega
    obtain rfl : ks = ks28 := by omega
    refine Or.inr (Or.inl ⟨rfl, ?_⟩)
    refine w_virt (ci := 3) (i := b) (npc := 29) (a := [cr b, ai_i z23, ai_i z29]) (rest := []) rfl rfl (hI.pl (by omega)) (hI.pgT0 hb_b) rfl rfl rfl rfl (ct_pg_heldOf (sl := sl) (x := x) (d := d + 2) (z23) (z29) (b := b) hb_b hI hN) (Or.inl rfl) (fun k9 v9 T34 E34 nx34 kc34 ks34 hq33 hk34 hv34 => ?_)
    obtain ⟨rfl, rfl, rfl, rfl, hq33⟩ := hq33
    obtain rfl : kc = kc34 := by omega
    obtain rfl : ks = ks34 := by omega
    rcases hq33 with rfl | ⟨q39, rfl, hs40, hz35⟩
    · refine Or.inr (Or.inl ⟨rfl, ?_⟩)
      refine w_astore (i := 2) (npc := 30) (loc' := [cr b, cr q, ai_nul]) rfl rfl rfl ?_
      refine w_aload (i := 2) (npc := 31) (v := ai_nul) rfl rfl rfl ?_
      refine w_isnullN (pt := 49) (npc := 34) rfl ?_
      refine w_aload (i := 0) (npc := 50) (v := cr b) rfl rfl rfl ?_
      refine w_aload (i := 1) (npc := 51) (v := cr q) rfl rfl rfl ?_
      refine w_virt (ci := 3) (i := b) (npc := 54) (a := [cr b, cr q]) (rest := []) rfl rfl (hI.pl (by omega)) (hI.pgT0 hb_b) rfl rfl rfl rfl (ct_pg_isReady (sl := sl) (x := x) (d := d + 2)  (b := b) hb_b hs_q hI) (Or.inl rfl) (fun k9 v9 T42 E42 nx42 kc42 ks42 hq41 hk42 hv42 => ?_)
      obtain ⟨rfl, rfl, rfl, rfl, z43, rfl, hz43⟩ := hq41
      obtain rfl : kc = kc42 := by omega
      obtain rfl : ks = ks42 := by omega
      refine Or.inr (Or.inl ⟨rfl, ?_⟩)
      refine w_if (c := .eq) (npc := 57) (pt := 68) rfl (fun hc47 => ?_) (fun hc47 => ?_)
      · replace hc47 : z43 = (0 : Int) := hc47
        refine w_aload (i := 0) (npc := 69) (v := cr b) rfl rfl rfl ?_
        obtain ⟨z48, hz48, hz48a, hz48b⟩ := hI.pg4 hb_b
        have ghz48 := gv_eq hz48
        refine w_getf (i := b) (ci := 3) (k := 4) (npc := 72) rfl (hI.pl (by omega)) (hI.pgT0 hb_b) (by decide) hz48 ?_
        refine w_const (n := 20) (npc := 74) rfl ?_
        refine w_icmp (c := .lt) (npc := 77) (pt := 80) rfl (fun hc49 => ?_) (fun hc49 => ?_)
        · replace hc49 : z48 < (20 : Int) := hc49
          refine w_aload (i := 0) (npc := 81) (v := cr b) rfl rfl rfl ?_
          refine w_getf (i := b) (ci := 3) (k := 3) (npc := 84) rfl (hI.pl (by omega)) (hI.pgT0 hb_b) (by decide) (hI.pg3 hb_b) ?_
          refine w_aload (i := 0) (npc := 85) (v := cr b) rfl rfl rfl ?_
          refine w_getf (i := b) (ci := 3) (k := 4) (npc := 88) rfl (hI.pl (by omega)) (hI.pgT0 hb_b) (by decide) hz48 ?_
          refine w_aload (i := 1) (npc := 89) (v := cr q) rfl rfl rfl ?_
          refine w_aast (i := b + 3) (k := 5) (n := 20) (npc := 90) rfl (hI.pl (by omega)) (hI.pgT3 hb_b) (Or.inr rfl) (by omega) (Or.inr ⟨q, rfl, hs_q.lt, hs_q.T0⟩) ?_
          have hI51 := hI.pghw hb_b (k := (z48 : Int).toNat) hs_q
          have hF53 := cm_fr.up (i := b + 3) (k := (z48 : Int).toNat) (v := cr q) hF (by first | omega | (simp; done) | (simp; omega) | (simp only; omega))
          have hN54 := hn.wrs (i := b + 3) (k := (z48 : Int).toNat) (q := q) hN (by omega)
          have hs55 := hs_q.up (i := b + 3) (k := (z48 : Int).toNat) (v := cr q) (by omega)
          generalize hE52 : cm_up E (b + 3) ((z48 : Int).toNat) (cr q) = E50 at hI51 hF53 hN54 hs55 ⊢
          have hz56 : E50 b 4 = ai_i z48 := by rw [← hE52, cm_up_nei _ _ (by omega)]; exact hz48
          have ghz56 := gv_eq hz56
          have hz57 : E50 (b + 3) ((z48 : Int).toNat) = cr q := by rw [← hE52, cm_up_eq]
          refine w_aload (i := 0) (npc := 91) (v := cr b) rfl rfl rfl ?_
          refine w_dup (npc := 92) rfl rfl ?_
          refine w_getf (i := b) (ci := 3) (k := 4) (npc := 95) rfl (hI51.pl (by omega)) (hI51.pgT0 hb_b) (by decide) hz56 ?_
          refine w_const (n := 1) (npc := 96) rfl ?_
          refine w_iadd (npc := 97) rfl (by omega) ?_
          refine w_putf (i := b) (ci := 3) (k := 4) (t := 0) (npc := 100) rfl (hI51.pl (by omega)) (hI51.pgT0 hb_b) (by decide) cm_fit0 ?_
          have hI60 := hI51.pg4w hb_b (z := z48 + 1) (by omega)
          have hF62 := cm_fr.up (i := b) (k := 4) (v := ai_i (z48 + 1)) hF53 (by first | omega | (simp; done) | (simp; omega) | (simp only; omega))
          have hs64 := hs55.up (i := b) (k := 4) (v := ai_i (z48 + 1)) (by omega)
          generalize hE61 : cm_up E50 b 4 (ai_i (z48 + 1)) = E59 at hI60 hF62 hs64 ⊢
          have hz65 : E59 (b + 3) ((z48 : Int).toNat) = cr q := by rw [← hE61, cm_up_nei _ _ (by omega)]; exact hz57
          have hz66 : E59 b 4 = ai_i (z48 + 1) := by rw [← hE61, cm_up_eq]
          have ghz66 := gv_eq hz66
          refine w_const (n := 1) (npc := 101) rfl ?_
          have hN67 : hn E59 := hN.of hb_b hF62 (fun i hi => by
            rw [← hE61, cm_up_nei _ _ (by omega)]
            by_cases hq : (i : Int) < z48
            · exact hN54 b i hb_b.1 hb_b.2.1 hb_b.2.2 (by omega)
            · rw [show i = (z48 : Int).toNat by omega, ← hE52, cm_up_eq]; intro q9; cases q9)
          exact w_iret rfl (⟨rfl, rfl, rfl, hI60, hF62, hN67, 1, rfl, by omega⟩) (by omega) (by omega)
        · replace hc49 : ¬ (z48 < (20 : Int)) := hc49
          refine w_const (n := 15) (npc := 79) rfl ?_
          exact w_iret rfl (⟨rfl, rfl, rfl, hI, hF, hN, 15, rfl, by omega⟩) (by omega) (by omega)
      · replace hc47 : ¬ (z43 = (0 : Int)) := hc47
        refine w_aload (i := 0) (npc := 58) (v := cr b) rfl rfl rfl ?_
        refine w_aload (i := 1) (npc := 59) (v := cr q) rfl rfl rfl ?_
        refine w_virt (ci := 3) (i := b) (npc := 62) (a := [cr b, cr q]) (rest := []) rfl rfl (hI.pl (by omega)) (hI.pgT0 hb_b) rfl rfl rfl rfl (ct_pg_have (sl := sl) (x := x) (d := d + 2)  (b := b) hb_b hs_q hI hN) (Or.inl rfl) (fun k9 v9 T69 E69 nx69 kc69 ks69 hq68 hk69 hv69 => ?_)
        obtain ⟨rfl, rfl, rfl, hI71, hG72, hN73, hz70⟩ := hq68
        obtain rfl : kc = kc69 := by omega
        obtain rfl : ks = ks69 := by omega
        have hF74 := cm_fr.trans hF hG72 (by intro i k h; (try simp only at h); (try simp only); omega)
        have hs75 := hs_q.fr hG72 (by intro i k h; (try simp only at h); omega)
        refine Or.inl ⟨rfl, ?_⟩
        refine w_aload (i := 0) (npc := 63) (v := cr b) rfl rfl rfl ?_
        refine w_virt (ci := 3) (i := b) (npc := 66) (a := [cr b]) (rest := []) rfl rfl (hI71.pl (by omega)) (hI71.pgT0 hb_b) rfl rfl rfl rfl (ct_pg_settle (sl := sl) (x := x) (d := d + 0)  (b := b) hb_b hI71 hN73) (Or.inl rfl) (fun k9 v9 T77 E77 nx77 kc77 ks77 hq76 hk77 hv77 => ?_)
        obtain ⟨rfl, rfl, rfl, hI79, hG80, hN81, hz78⟩ := hq76
        obtain rfl : kc = kc77 := by omega
        obtain rfl : ks = ks77 := by omega
        have hF82 := cm_fr.trans hF74 hG80 (by intro i k h; (try simp only at h); (try simp only); omega)
        have hs83 := hs75.fr hG80 (by intro i k h; (try simp only at h); omega)
        refine Or.inl ⟨rfl, ?_⟩
        refine w_const (n := 2) (npc := 67) rfl ?_
        exact w_iret rfl (⟨rfl, rfl, rfl, hI79, hF82, hN81, 2, rfl, by omega⟩) (by omega) (by omega)
    refine Or.inr (Or.inl ⟨rfl, ?_⟩)
    refine w_astore (i := 2) (npc := 30) (loc' := [cr b, cr q, cr q39]) rfl rfl rfl ?_
    refine w_aload (i := 2) (npc := 31) (v := cr q39) rfl rfl rfl ?_
    refine w_isnullR (pt := 49) (npc := 34) rfl ?_
    refine w_aload (i := 2) (npc := 35) (v := cr q39) rfl rfl rfl ?_
    refine w_aload (i := 1) (npc := 36) (v := cr q) rfl rfl rfl ?_
    refine w_virt (ci := 4) (i := q39) (npc := 39) (a := [cr q39, cr q]) (rest := []) rfl rfl hs40.lt hs40.T0 rfl rfl rfl rfl (ct_sp_sameAs (sl := sl) (x := x) (d := d + 4)  hs40 hs_q) (Or.inl rfl) (fun k9 v9 T85 E85 nx85 kc85 ks85 hq84 hk85 hv85 => ?_)
    obtain ⟨rfl, rfl, rfl, rfl, z86, rfl, hz86⟩ := hq84
    obtain rfl : kc = kc85 := by omega
    obtain rfl : ks = ks85 := by omega
    refine Or.inr (Or.inl ⟨rfl, ?_⟩)
    refine w_if (c := .eq) (npc := 42) (pt := 46) rfl (fun hc90 => ?_) (fun hc90 => ?_)
    · replace hc90 : z86 = (0 : Int) := hc90
      refine w_const (n := 14) (npc := 48) rfl ?_
      exact w_iret rfl (⟨rfl, rfl, rfl, hI, hF, hN, 14, rfl, by omega⟩) (by omega) (by omega)
    · replace hc90 : ¬ (z86 = (0 : Int)) := hc90
      refine w_const (n := 0) (npc := 43) rfl ?_
      refine w_goto (pt := 48) rfl ?_
      exact w_iret rfl (⟨rfl, rfl, rfl, hI, hF, hN, 0, rfl, by omega⟩) (by omega) (by omega)
  refine Or.inr (Or.inl ⟨rfl, ?_⟩)
  refine w_astore (i := 2) (npc := 13) (loc' := [cr b, cr q, cr q19]) rfl rfl rfl ?_
  refine w_aload (i := 2) (npc := 14) (v := cr q19) rfl rfl rfl ?_
  refine w_isnullR (pt := 17) (npc := 30) rfl ?_
  refine w_aload (i := 2) (npc := 31) (v := cr q19) rfl rfl rfl ?_
  refine w_isnullR (pt := 49) (npc := 34) rfl ?_
  refine w_aload (i := 2) (npc := 35) (v := cr q19) rfl rfl rfl ?_
  refine w_aload (i := 1) (npc := 36) (v := cr q) rfl rfl rfl ?_
  refine w_virt (ci := 4) (i := q19) (npc := 39) (a := [cr q19, cr q]) (rest := []) rfl rfl hs20.lt hs20.T0 rfl rfl rfl rfl (ct_sp_sameAs (sl := sl) (x := x) (d := d + 4)  hs20 hs_q) (Or.inl rfl) (fun k9 v9 T92 E92 nx92 kc92 ks92 hq91 hk92 hv92 => ?_)
  obtain ⟨rfl, rfl, rfl, rfl, z93, rfl, hz93⟩ := hq91
  obtain rfl : kc = kc92 := by omega
  obtain rfl : ks = ks92 := by omega
  refine Or.inr (Or.inl ⟨rfl, ?_⟩)
  refine w_if (c := .eq) (npc := 42) (pt := 46) rfl (fun hc97 => ?_) (fun hc97 => ?_)
  · replace hc97 : z93 = (0 : Int) := hc97
    refine w_const (n := 14) (npc := 48) rfl ?_
    exact w_iret rfl (⟨rfl, rfl, rfl, hI, hF, hN, 14, rfl, by omega⟩) (by omega) (by omega)
  · replace hc97 : ¬ (z93 = (0 : Int)) := hc97
    refine w_const (n := 0) (npc := 43) rfl ?_
    refine w_goto (pt := 48) rfl ?_
    exact w_iret rfl (⟨rfl, rfl, rfl, hI, hF, hN, 0, rfl, by omega⟩) (by omega) (by omega)
set_option maxRecDepth 16384 in
theorem ct_pg_empty {sl : Int × Int} {x : ai_E} {d : Nat} {T : cm_T} {E : cm_E} {nx : Nat} {b : Nat} (hb_b : 41 ≤ b ∧ b ≤ 77 ∧ b % 4 = 1) (hI : cs_I T E nx) (hN : hn E) : cm_ct (ai_ev sl (d + 2)) x 72 [cr b] T E nx 0 0 (fun rk rv T' E' nx' => rk = 0 ∧ T = T' ∧ nx = nx' ∧ cs_I T E' nx ∧ cm_fr (fun i k => b ≤ i ∧ i ≤ b + 3) E E' ∧ hn E' ∧ (True)) := by
  refine cm_body (M := ai_m72) rfl rfl (fun kc ks => ?_)
  show cm_wp (ai_find ai_c72 sl) (ai_ev sl (d + 1)) x (kc + 0) (ks + 0) _ 0 [cr b, ai_un] [] T E nx kc ks
  have hF : cm_fr (fun i k => b ≤ i ∧ i ≤ b + 3) E E := fun _ _ _ => rfl
  refine w_const (n := 0) (npc := 1) rfl ?_
  refine w_istore (i := 1) (npc := 2) (loc' := [cr b, ai_i 0]) rfl rfl ?_
  have loop2 : ∀ (nf : Nat) (i : Int) (Eq2 : cm_E), ((300 - i).toNat) < nf → cs_I T Eq2 nx → cm_fr (fun i k => b ≤ i ∧ i ≤ b + 3) E Eq2 → hn Eq2 → (0 ≤ i ∧ i ≤ 300) → cm_wp (ai_find ai_c72 sl) (ai_ev sl (d + 1)) x (kc + 0) (ks + 0) (fun rk rv T' E' nx' => rk = 0 ∧ T = T' ∧ nx = nx' ∧ cs_I T E' nx ∧ cm_fr (fun i k => b ≤ i ∧ i ≤ b + 3) E E' ∧ hn E' ∧ (True)) 2 [cr b, ai_i i] [] T Eq2 nx kc ks := by
    intro nf
    induction nf with
    | zero => intro i Eq2 hm; exact absurd hm (Nat.not_lt_zero _)
    | succ nf2 ih =>
      intro i Eq2 hm2 hI2 hF2 hN2 hv2
      have ih2 := ih; clear ih
      refine w_iload (i := 1) (npc := 3) rfl rfl ?_
      refine w_const (n := 300) (npc := 6) rfl ?_
      refine w_icmp (c := .ge) (npc := 9) (pt := 22) rfl (fun hc1 => ?_) (fun hc1 => ?_)
      · replace hc1 : (300 : Int) ≤ i := hc1
        refine w_const (n := 0) (npc := 23) rfl ?_
        refine w_istore (i := 1) (npc := 24) (loc' := [cr b, ai_i 0]) rfl rfl ?_
        have loop24 : ∀ (nf : Nat) (i : Int) (Eq24 : cm_E), ((20 - i).toNat) < nf → cs_I T Eq24 nx → cm_fr (fun i k => b ≤ i ∧ i ≤ b + 3) E Eq24 → (0 ≤ i ∧ i ≤ 20) → cm_wp (ai_find ai_c72 sl) (ai_ev sl (d + 1)) x (kc + 0) (ks + 0) (fun rk rv T' E' nx' => rk = 0 ∧ T = T' ∧ nx = nx' ∧ cs_I T E' nx ∧ cm_fr (fun i k => b ≤ i ∧ i ≤ b + 3) E E' ∧ hn E' ∧ (True)) 24 [cr b, ai_i i] [] T Eq24 nx kc ks := by
          intro nf
          induction nf with
          | zero => intro i Eq24 hm; exact absurd hm (Nat.not_lt_zero _)
          | succ nf24 ih =>
            intro i Eq24 hm24 hI24 hF24 hv24
            have ih24 := ih; clear ih
            refine w_iload (i := 1) (npc := 25) rfl rfl ?_
            refine w_const (n := 20) (npc := 27) rfl ?_
            refine w_icmp (c := .ge) (npc := 30) (pt := 43) rfl (fun hc2 => ?_) (fun hc2 => ?_)
            · replace hc2 : (20 : Int) ≤ i := hc2
              refine w_aload (i := 0) (npc := 44) (v := cr b) rfl rfl rfl ?_
              refine w_getf (i := b) (ci := 3) (k := 2) (npc := 47) rfl (hI24.pl (by omega)) (hI24.pgT0 hb_b) (by decide) (hI24.pg2 hb_b) ?_
              refine w_const (n := 0) (npc := 48) rfl ?_
              refine w_call (npc := 51) (a := [cr (b + 2), ai_i 0]) (rest := []) rfl rfl rfl rfl rfl (ct_ar_fill (sl := sl) (x := x) (d := d + 0) (0) hb_b hI24 (by omega)) (Or.inr (fun _ _ _ _ _ hq => by have h1 := hq.1; omega)) (fun k9 v9 T4 E4 nx4 kc4 ks4 hq3 hk4 hv4 => ?_)
              obtain ⟨rfl, rfl, rfl, hI6, hG7, hz5⟩ := hq3
              obtain rfl : kc = kc4 := by omega
              obtain rfl : ks = ks4 := by omega
              have hF9 := cm_fr.trans hF24 hG7 (by intro i k h; (try simp only at h); (try simp only); omega)
              refine Or.inl ⟨rfl, ?_⟩
              refine w_aload (i := 0) (npc := 52) (v := cr b) rfl rfl rfl ?_
              refine w_const (n := 0) (npc := 53) rfl ?_
              refine w_putf (i := b) (ci := 3) (k := 4) (t := 0) (npc := 56) rfl (hI6.pl (by omega)) (hI6.pgT0 hb_b) (by decide) cm_fit0 ?_
              have hI11 := hI6.pg4w hb_b (z := 0) (by omega)
              have hF13 := cm_fr.up (i := b) (k := 4) (v := ai_i 0) hF9 (by first | omega | (simp; done) | (simp; omega) | (simp only; omega))
              generalize hE12 : cm_up E4 b 4 (ai_i 0) = E10 at hI11 hF13 ⊢
              have hz14 : E10 b 4 = ai_i 0 := by rw [← hE12, cm_up_eq]
              have ghz14 := gv_eq hz14
              refine w_aload (i := 0) (npc := 57) (v := cr b) rfl rfl rfl ?_
              refine w_const (n := 0) (npc := 58) rfl ?_
              refine w_putf (i := b) (ci := 3) (k := 5) (t := 0) (npc := 61) rfl (hI11.pl (by omega)) (hI11.pgT0 hb_b) (by decide) cm_fit0 ?_
              have hI16 := hI11.pg5w hb_b (z := 0) (by omega)
              have hF18 := cm_fr.up (i := b) (k := 5) (v := ai_i 0) hF13 (by first | omega | (simp; done) | (simp; omega) | (simp only; omega))
              generalize hE17 : cm_up E10 b 5 (ai_i 0) = E15 at hI16 hF18 ⊢
              have hz19 : E15 b 4 = ai_i 0 := by rw [← hE17, cm_up_ne _ _ (by omega)]; exact hz14
              have ghz19 := gv_eq hz19
              have hz20 : E15 b 5 = ai_i 0 := by rw [← hE17, cm_up_eq]
              have ghz20 := gv_eq hz20
              have hN21 : hn E15 := hN.of hb_b hF18 (fun i hi => by
                omega)
              exact w_vret rfl (⟨rfl, rfl, rfl, hI16, hF18, hN21, trivial⟩) (by omega) (by omega)
            · replace hc2 : ¬ ((20 : Int) ≤ i) := hc2
              refine w_aload (i := 0) (npc := 31) (v := cr b) rfl rfl rfl ?_
              refine w_getf (i := b) (ci := 3) (k := 3) (npc := 34) rfl (hI24.pl (by omega)) (hI24.pgT0 hb_b) (by decide) (hI24.pg3 hb_b) ?_
              refine w_iload (i := 1) (npc := 35) rfl rfl ?_
              refine w_null (npc := 36) rfl ?_
              refine w_aast (i := b + 3) (k := 5) (n := 20) (npc := 37) rfl (hI24.pl (by omega)) (hI24.pgT3 hb_b) (Or.inr rfl) (by omega) (Or.inl rfl) ?_
              have hI23 := hI24.pghn hb_b (k := (i : Int).toNat)
              have hF25 := cm_fr.up (i := b + 3) (k := (i : Int).toNat) (v := ai_nul) hF24 (by first | omega | (simp; done) | (simp; omega) | (simp only; omega))
              generalize hE24 : cm_up Eq24 (b + 3) ((i : Int).toNat) (ai_nul) = E22 at hI23 hF25 ⊢
              refine w_iinc (i := 1) (n := 1) (npc := 40) (loc' := [cr b, ai_i (i + 1)]) rfl rfl (by omega) rfl ?_
              refine w_goto (pt := 24) rfl ?_
              exact ih24 (i + 1) E22 (by omega) hI23 hF25 (by omega)
        exact loop24 _ (0) Eq2 (Nat.lt_succ_self _) hI2 hF2 (by omega)
      · replace hc1 : ¬ ((300 : Int) ≤ i) := hc1
        refine w_aload (i := 0) (npc := 10) (v := cr b) rfl rfl rfl ?_
        refine w_getf (i := b) (ci := 3) (k := 1) (npc := 13) rfl (hI2.pl (by omega)) (hI2.pgT0 hb_b) (by decide) (hI2.pg1 hb_b) ?_
        refine w_iload (i := 1) (npc := 14) rfl rfl ?_
        refine w_null (npc := 15) rfl ?_
        refine w_aast (i := b + 1) (k := 5) (n := 300) (npc := 16) rfl (hI2.pl (by omega)) (hI2.pgT1 hb_b) (Or.inr rfl) (by omega) (Or.inl rfl) ?_
        have hI28 := hI2.pgsn hb_b (k := (i : Int).toNat)
        have hF30 := cm_fr.up (i := b + 1) (k := (i : Int).toNat) (v := ai_nul) hF2 (by first | omega | (simp; done) | (simp; omega) | (simp only; omega))
        have hN31 := hn.wr (i := b + 1) (k := (i : Int).toNat) (v := ai_nul) hN2 (by omega)
        generalize hE29 : cm_up Eq2 (b + 1) ((i : Int).toNat) (ai_nul) = E27 at hI28 hF30 hN31 ⊢
        refine w_iinc (i := 1) (n := 1) (npc := 19) (loc' := [cr b, ai_i (i + 1)]) rfl rfl (by omega) rfl ?_
        refine w_goto (pt := 2) rfl ?_
        exact ih2 (i + 1) E27 (by omega) hI28 hF30 hN31 (by omega)
  exact loop2 _ (0) E (Nat.lt_succ_self _) hI hF hN (by omega)
set_option maxRecDepth 16384 in
theorem ct_pg_copy {sl : Int × Int} {x : ai_E} {d : Nat} {T : cm_T} {E : cm_E} {nx : Nat} {b : Nat} (hb_b : 41 ≤ b ∧ b ≤ 77 ∧ b % 4 = 1) {a : Nat} (hb_a : 41 ≤ a ∧ a ≤ 77 ∧ a % 4 = 1) (hI : cs_I T E nx) (hN : hn E) (hp0 : a ≠ b) : cm_ct (ai_ev sl (d + 1)) x 70 [cr b, cr a] T E nx 0 0 (fun rk rv T' E' nx' => rk = 0 ∧ T = T' ∧ nx = nx' ∧ cs_I T E' nx ∧ cm_fr (fun i k => b ≤ i ∧ i ≤ b + 3) E E' ∧ hn E' ∧ (True)) := by
  refine cm_body (M := ai_m70) rfl rfl (fun kc ks => ?_)
  show cm_wp (ai_find ai_c70 sl) (ai_ev sl (d + 0)) x (kc + 0) (ks + 0) _ 0 [cr b, cr a, ai_un] [] T E nx kc ks
  have hF : cm_fr (fun i k => b ≤ i ∧ i ≤ b + 3) E E := fun _ _ _ => rfl
  refine w_const (n := 0) (npc := 1) rfl ?_
  refine w_istore (i := 2) (npc := 2) (loc' := [cr b, cr a, ai_i 0]) rfl rfl ?_
  have loop2 : ∀ (nf : Nat) (i : Int) (Eq2 : cm_E), ((300 - i).toNat) < nf → cs_I T Eq2 nx → cm_fr (fun i k => b ≤ i ∧ i ≤ b + 3) E Eq2 → hn Eq2 → (0 ≤ i ∧ i ≤ 300) → cm_wp (ai_find ai_c70 sl) (ai_ev sl (d + 0)) x (kc + 0) (ks + 0) (fun rk rv T' E' nx' => rk = 0 ∧ T = T' ∧ nx = nx' ∧ cs_I T E' nx ∧ cm_fr (fun i k => b ≤ i ∧ i ≤ b + 3) E E' ∧ hn E' ∧ (True)) 2 [cr b, cr a, ai_i i] [] T Eq2 nx kc ks := by
    intro nf
    induction nf with
    | zero => intro i Eq2 hm; exact absurd hm (Nat.not_lt_zero _)
    | succ nf2 ih =>
      intro i Eq2 hm2 hI2 hF2 hN2 hv2
      have ih2 := ih; clear ih
      refine w_iload (i := 2) (npc := 3) rfl rfl ?_
      refine w_const (n := 300) (npc := 6) rfl ?_
      refine w_icmp (c := .ge) (npc := 9) (pt := 27) rfl (fun hc1 => ?_) (fun hc1 => ?_)
      · replace hc1 : (300 : Int) ≤ i := hc1
        refine w_const (n := 0) (npc := 28) rfl ?_
        refine w_istore (i := 2) (npc := 29) (loc' := [cr b, cr a, ai_i 0]) rfl rfl ?_
        have loop29 : ∀ (nf : Nat) (i : Int) (Eq29 : cm_E), ((20 - i).toNat) < nf → cs_I T Eq29 nx → cm_fr (fun i k => b ≤ i ∧ i ≤ b + 3) E Eq29 → (0 ≤ i ∧ i ≤ 20 ∧ ∀ k : Nat, (k : Int) < i → Eq29 (b + 3) k = E (a + 3) k) → cm_wp (ai_find ai_c70 sl) (ai_ev sl (d + 0)) x (kc + 0) (ks + 0) (fun rk rv T' E' nx' => rk = 0 ∧ T = T' ∧ nx = nx' ∧ cs_I T E' nx ∧ cm_fr (fun i k => b ≤ i ∧ i ≤ b + 3) E E' ∧ hn E' ∧ (True)) 29 [cr b, cr a, ai_i i] [] T Eq29 nx kc ks := by
          intro nf
          induction nf with
          | zero => intro i Eq29 hm; exact absurd hm (Nat.not_lt_zero _)
          | succ nf29 ih =>
            intro i Eq29 hm29 hI29 hF29 hv29
            have ih29 := ih; clear ih
            refine w_iload (i := 2) (npc := 30) rfl rfl ?_
            refine w_const (n := 20) (npc := 32) rfl ?_
            refine w_icmp (c := .ge) (npc := 35) (pt := 53) rfl (fun hc2 => ?_) (fun hc2 => ?_)
            · replace hc2 : (20 : Int) ≤ i := hc2
              refine w_aload (i := 1) (npc := 54) (v := cr a) rfl rfl rfl ?_
              refine w_getf (i := a) (ci := 3) (k := 2) (npc := 57) rfl (hI29.pl (by omega)) (hI29.pgT0 hb_a) (by decide) (hI29.pg2 hb_a) ?_
              refine w_const (n := 0) (npc := 58) rfl ?_
              refine w_aload (i := 0) (npc := 59) (v := cr b) rfl rfl rfl ?_
              refine w_getf (i := b) (ci := 3) (k := 2) (npc := 62) rfl (hI29.pl (by omega)) (hI29.pgT0 hb_b) (by decide) (hI29.pg2 hb_b) ?_
              refine w_const (n := 0) (npc := 63) rfl ?_
              refine w_const (n := 5) (npc := 64) rfl ?_
              refine w_copy (i := a + 2) (j := b + 2) (ni := 5) (nj := 5) (npc := 67) rfl (hI29.pl (by omega)) (hI29.pl (by omega)) (hI29.pgT2 hb_a) (hI29.pgT2 hb_b) (by omega) (by omega) (by omega) (by omega) (by omega) (by omega) ?_
              have hI4 := hI29.cp (i := a + 2) (j := b + 2) (sp := (0 : Int).toNat) (dp := (0 : Int).toNat) (n := (5 : Int).toNat) (lo := 0) (hi := 60) (by omega) (by omega) (pg_T hb_a).2.2.1 (fun k => (pg_z hb_a k).2.1) (fun k => (pg_z hb_b k).2.1) (by omega)
              have hF6 := cm_cp_fr (i := (a + 2)) (j := b + 2) (sp := (0 : Int).toNat) (dp := (0 : Int).toNat) (n := (5 : Int).toNat) hF29 (fun k => by first | omega | (simp; done) | (simp; omega) | (simp only; omega))
              generalize hE5 : cm_cp Eq29 (a + 2) (b + 2) (0 : Int).toNat (0 : Int).toNat (5 : Int).toNat = E3 at hI4 hF6 ⊢
              refine w_aload (i := 0) (npc := 68) (v := cr b) rfl rfl rfl ?_
              refine w_aload (i := 1) (npc := 69) (v := cr a) rfl rfl rfl ?_
              obtain ⟨z7, hz7, hz7a, hz7b⟩ := hI4.pg4 hb_a
              have ghz7 := gv_eq hz7
              have g0hz7 : gv E a 4 = z7 := (gv_fr hF6 (by first | omega | (simp; done) | (simp; omega) | (simp only; omega))).trans ghz7
              refine w_getf (i := a) (ci := 3) (k := 4) (npc := 72) rfl (hI4.pl (by omega)) (hI4.pgT0 hb_a) (by decide) hz7 ?_
              refine w_putf (i := b) (ci := 3) (k := 4) (t := 0) (npc := 75) rfl (hI4.pl (by omega)) (hI4.pgT0 hb_b) (by decide) cm_fit0 ?_
              have hI9 := hI4.pg4w hb_b (z := z7) (by omega)
              have hF11 := cm_fr.up (i := b) (k := 4) (v := ai_i z7) hF6 (by first | omega | (simp; done) | (simp; omega) | (simp only; omega))
              generalize hE10 : cm_up E3 b 4 (ai_i z7) = E8 at hI9 hF11 ⊢
              have hz12 : E8 a 4 = ai_i z7 := by rw [← hE10, cm_up_nei _ _ (by omega)]; exact hz7
              have ghz12 := gv_eq hz12
              have hz13 : E8 b 4 = ai_i z7 := by rw [← hE10, cm_up_eq]
              have ghz13 := gv_eq hz13
              refine w_aload (i := 0) (npc := 76) (v := cr b) rfl rfl rfl ?_
              refine w_aload (i := 1) (npc := 77) (v := cr a) rfl rfl rfl ?_
              obtain ⟨z14, hz14, hz14a, hz14b⟩ := hI9.pg5 hb_a
              have ghz14 := gv_eq hz14
              refine w_getf (i := a) (ci := 3) (k := 5) (npc := 80) rfl (hI9.pl (by omega)) (hI9.pgT0 hb_a) (by decide) hz14 ?_
              refine w_putf (i := b) (ci := 3) (k := 5) (t := 0) (npc := 83) rfl (hI9.pl (by omega)) (hI9.pgT0 hb_b) (by decide) cm_fit0 ?_
              have hI16 := hI9.pg5w hb_b (z := z14) (by omega)
              have hF18 := cm_fr.up (i := b) (k := 5) (v := ai_i z14) hF11 (by first | omega | (simp; done) | (simp; omega) | (simp only; omega))
              generalize hE17 : cm_up E8 b 5 (ai_i z14) = E15 at hI16 hF18 ⊢
              have hz19 : E15 a 4 = ai_i z7 := by rw [← hE17, cm_up_nei _ _ (by omega)]; exact hz12
              have ghz19 := gv_eq hz19
              have hz20 : E15 b 4 = ai_i z7 := by rw [← hE17, cm_up_ne _ _ (by omega)]; exact hz13
              have ghz20 := gv_eq hz20
              have hz21 : E15 a 5 = ai_i z14 := by rw [← hE17, cm_up_nei _ _ (by omega)]; exact hz14
              have ghz21 := gv_eq hz21
              have hz22 : E15 b 5 = ai_i z14 := by rw [← hE17, cm_up_eq]
              have ghz22 := gv_eq hz22
              have hN23 : hn E15 := hN.of hb_b hF18 (fun i hi => by
                rw [← hE17, cm_up_nei _ _ (by omega), ← hE10, cm_up_nei _ _ (by omega), ← hE5, cm_cp_ne (by omega), hv29.2.2 i (by omega)]
                exact hN a i hb_a.1 hb_a.2.1 hb_a.2.2 (by omega))
              exact w_vret rfl (⟨rfl, rfl, rfl, hI16, hF18, hN23, trivial⟩) (by omega) (by omega)
            · replace hc2 : ¬ ((20 : Int) ≤ i) := hc2
              refine w_aload (i := 0) (npc := 36) (v := cr b) rfl rfl rfl ?_
              refine w_getf (i := b) (ci := 3) (k := 3) (npc := 39) rfl (hI29.pl (by omega)) (hI29.pgT0 hb_b) (by decide) (hI29.pg3 hb_b) ?_
              refine w_iload (i := 2) (npc := 40) rfl rfl ?_
              refine w_aload (i := 1) (npc := 41) (v := cr a) rfl rfl rfl ?_
              refine w_getf (i := a) (ci := 3) (k := 3) (npc := 44) rfl (hI29.pl (by omega)) (hI29.pgT0 hb_a) (by decide) (hI29.pg3 hb_a) ?_
              refine w_iload (i := 2) (npc := 45) rfl rfl ?_
              have hlt9 : (i : Int).toNat < 20 := by omega
              rcases hI29.pgh hb_a (i : Int).toNat hlt9 with hx26 | ⟨q24, hx26, hs25⟩
              · clear hlt9
                refine w_ald (i := a + 3) (t := 5) (n := 20) (npc := 46) rfl (hI29.pl (by omega)) (hI29.pgT3 hb_a) (by decide) rfl (by omega) hx26 ?_
                refine w_aast (i := b + 3) (k := 5) (n := 20) (npc := 47) rfl (hI29.pl (by omega)) (hI29.pgT3 hb_b) (Or.inr rfl) (by omega) (Or.inl rfl) ?_
                have hI28 := hI29.pghn hb_b (k := (i : Int).toNat)
                have hF30 := cm_fr.up (i := b + 3) (k := (i : Int).toNat) (v := ai_nul) hF29 (by first | omega | (simp; done) | (simp; omega) | (simp only; omega))
                generalize hE29 : cm_up Eq29 (b + 3) ((i : Int).toNat) (ai_nul) = E27 at hI28 hF30 ⊢
                have hz31 : E27 (a + 3) ((i : Int).toNat) = ai_nul := by rw [← hE29, cm_up_nei _ _ (by omega)]; exact hx26
                refine w_iinc (i := 2) (n := 1) (npc := 50) (loc' := [cr b, cr a, ai_i (i + 1)]) rfl rfl (by omega) rfl ?_
                refine w_goto (pt := 29) rfl ?_
                exact ih29 (i + 1) E27 (by omega) hI28 hF30 (⟨by omega, by omega, fun k hk => by
      by_cases hk2 : (k : Int) = i
      · rw [show k = (i : Int).toNat by omega, ← hE29, cm_up_eq]; exact hz31.symm.trans (hF30 (a + 3) _ (by omega))
      · rw [← hE29, cm_up_ne _ _ (by omega)]; exact hv29.2.2 k (by omega)⟩)
              clear hlt9
              refine w_ald (i := a + 3) (t := 5) (n := 20) (npc := 46) rfl (hI29.pl (by omega)) (hI29.pgT3 hb_a) (by decide) rfl (by omega) hx26 ?_
              refine w_aast (i := b + 3) (k := 5) (n := 20) (npc := 47) rfl (hI29.pl (by omega)) (hI29.pgT3 hb_b) (Or.inr rfl) (by omega) (Or.inr ⟨q24, rfl, hs25.lt, hs25.T0⟩) ?_
              have hI34 := hI29.pghw hb_b (k := (i : Int).toNat) hs25
              have hF36 := cm_fr.up (i := b + 3) (k := (i : Int).toNat) (v := cr q24) hF29 (by first | omega | (simp; done) | (simp; omega) | (simp only; omega))
              generalize hE35 : cm_up Eq29 (b + 3) ((i : Int).toNat) (cr q24) = E33 at hI34 hF36 ⊢
              have hz37 : E33 (a + 3) ((i : Int).toNat) = cr q24 := by rw [← hE35, cm_up_nei _ _ (by omega)]; exact hx26
              have hz38 : E33 (b + 3) ((i : Int).toNat) = cr q24 := by rw [← hE35, cm_up_eq]
              refine w_iinc (i := 2) (n := 1) (npc := 50) (loc' := [cr b, cr a, ai_i (i + 1)]) rfl rfl (by omega) rfl ?_
              refine w_goto (pt := 29) rfl ?_
              exact ih29 (i + 1) E33 (by omega) hI34 hF36 (⟨by omega, by omega, fun k hk => by
      by_cases hk2 : (k : Int) = i
      · rw [show k = (i : Int).toNat by omega, ← hE35, cm_up_eq]; exact hz37.symm.trans (hF36 (a + 3) _ (by omega))
      · rw [← hE35, cm_up_ne _ _ (by omega)]; exact hv29.2.2 k (by omega)⟩)
        exact loop29 _ (0) Eq2 (Nat.lt_succ_self _) hI2 hF2 (⟨by omega, by omega, fun k hk => by omega⟩)
      · replace hc1 : ¬ ((300 : Int) ≤ i) := hc1
        refine w_aload (i := 0) (npc := 10) (v := cr b) rfl rfl rfl ?_
        refine w_getf (i := b) (ci := 3) (k := 1) (npc := 13) rfl (hI2.pl (by omega)) (hI2.pgT0 hb_b) (by decide) (hI2.pg1 hb_b) ?_
        refine w_iload (i := 2) (npc := 14) rfl rfl ?_
        refine w_aload (i := 1) (npc := 15) (v := cr a) rfl rfl rfl ?_
        refine w_getf (i := a) (ci := 3) (k := 1) (npc := 18) rfl (hI2.pl (by omega)) (hI2.pgT0 hb_a) (by decide) (hI2.pg1 hb_a) ?_
        refine w_iload (i := 2) (npc := 19) rfl rfl ?_
        have hlt9 : (i : Int).toNat < 300 := by omega
        rcases hI2.pgs hb_a (i : Int).toNat hlt9 with hx42 | ⟨q40, hx42, hs41⟩
        · clear hlt9
          refine w_ald (i := a + 1) (t := 5) (n := 300) (npc := 20) rfl (hI2.pl (by omega)) (hI2.pgT1 hb_a) (by decide) rfl (by omega) hx42 ?_
          refine w_aast (i := b + 1) (k := 5) (n := 300) (npc := 21) rfl (hI2.pl (by omega)) (hI2.pgT1 hb_b) (Or.inr rfl) (by omega) (Or.inl rfl) ?_
          have hI44 := hI2.pgsn hb_b (k := (i : Int).toNat)
          have hF46 := cm_fr.up (i := b + 1) (k := (i : Int).toNat) (v := ai_nul) hF2 (by first | omega | (simp; done) | (simp; omega) | (simp only; omega))
          have hN47 := hn.wr (i := b + 1) (k := (i : Int).toNat) (v := ai_nul) hN2 (by omega)
          generalize hE45 : cm_up Eq2 (b + 1) ((i : Int).toNat) (ai_nul) = E43 at hI44 hF46 hN47 ⊢
          have hz48 : E43 (a + 1) ((i : Int).toNat) = ai_nul := by rw [← hE45, cm_up_nei _ _ (by omega)]; exact hx42
          refine w_iinc (i := 2) (n := 1) (npc := 24) (loc' := [cr b, cr a, ai_i (i + 1)]) rfl rfl (by omega) rfl ?_
          refine w_goto (pt := 2) rfl ?_
          exact ih2 (i + 1) E43 (by omega) hI44 hF46 hN47 (by omega)
        clear hlt9
        refine w_ald (i := a + 1) (t := 5) (n := 300) (npc := 20) rfl (hI2.pl (by omega)) (hI2.pgT1 hb_a) (by decide) rfl (by omega) hx42 ?_
        refine w_aast (i := b + 1) (k := 5) (n := 300) (npc := 21) rfl (hI2.pl (by omega)) (hI2.pgT1 hb_b) (Or.inr rfl) (by omega) (Or.inr ⟨q40, rfl, hs41.lt, hs41.T0⟩) ?_
        have hI51 := hI2.pgsw hb_b (k := (i : Int).toNat) hs41
        have hF53 := cm_fr.up (i := b + 1) (k := (i : Int).toNat) (v := cr q40) hF2 (by first | omega | (simp; done) | (simp; omega) | (simp only; omega))
        have hN54 := hn.wr (i := b + 1) (k := (i : Int).toNat) (v := cr q40) hN2 (by omega)
        generalize hE52 : cm_up Eq2 (b + 1) ((i : Int).toNat) (cr q40) = E50 at hI51 hF53 hN54 ⊢
        have hz55 : E50 (a + 1) ((i : Int).toNat) = cr q40 := by rw [← hE52, cm_up_nei _ _ (by omega)]; exact hx42
        have hz56 : E50 (b + 1) ((i : Int).toNat) = cr q40 := by rw [← hE52, cm_up_eq]
        refine w_iinc (i := 2) (n := 1) (npc := 24) (loc' := [cr b, cr a, ai_i (i + 1)]) rfl rfl (by omega) rfl ?_
        refine w_goto (pt := 2) rfl ?_
        exact ih2 (i + 1) E50 (by omega) hI51 hF53 hN54 (by omega)
  exact loop2 _ (0) E (Nat.lt_succ_self _) hI hF hN (by omega)
