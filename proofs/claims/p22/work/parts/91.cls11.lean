set_option maxRecDepth 16384 in
theorem ct_c_set {sl : Int × Int} {x : ai_E} {d : Nat} {T : cm_T} {E : cm_E} {nx : Nat} (p l g : Int)  (hI : cs_I T E nx) (hN : hn E) (hp0 : nx ≤ 1000) : cm_ct (ai_ev sl (d + 8)) x 32 [cr 0, ai_i p, ai_i l, ai_i g] T E nx 6 440 (fun rk rv T' E' nx' => (rk = 2 ∧ nx ≤ nx' ∧ nx' ≤ nx + 2 ∧ cs_I T' E' nx' ∧ cm_fr (fun i k => (i < 81 ∧ ¬ (i = 0 ∧ (k = 10 ∨ k = 11 ∨ k = 14)) ∧ ¬ (i = 23 ∧ (k = 8 ∨ k = 9))) ∨ 105 ≤ i) E E' ∧ hn E' ∧ (True)) ∨ (rk = 1 ∧ nx ≤ nx' ∧ nx' ≤ nx + 2 ∧ cs_I T' E' nx' ∧ cm_fr (fun i k => (i < 81 ∧ ¬ (i = 0 ∧ (k = 10 ∨ k = 11 ∨ k = 14)) ∧ ¬ (i = 23 ∧ (k = 8 ∨ k = 9))) ∨ 105 ≤ i) E E' ∧ hn E' ∧ ∃ z : Int, rv = ai_i z ∧ (True))) := by
  refine cm_body (M := ai_m32) rfl rfl (fun kc ks => ?_)
  show cm_wp (ai_find ai_c32 sl) (ai_ev sl (d + 7)) x (kc + 6) (ks + 440) _ 0 [cr 0, ai_i p, ai_i l, ai_i g, ai_un, ai_un] [] T E nx kc ks
  have hF : cm_fr (fun i k => (i < 81 ∧ ¬ (i = 0 ∧ (k = 10 ∨ k = 11 ∨ k = 14)) ∧ ¬ (i = 23 ∧ (k = 8 ∨ k = 9))) ∨ 105 ≤ i) E E := fun _ _ _ => rfl
  obtain ⟨z1, hz1, hz1a, hz1b⟩ := hI.int 0 10 (lo := 1) (hi := 5) (by decide) (by decide) rfl
  have ghz1 := gv_eq hz1
  refine w_aload (i := 0) (npc := 1) (v := cr 0) rfl rfl rfl ?_
  refine w_iload (i := 1) (npc := 2) rfl rfl ?_
  obtain ⟨z2, hz2, hz2a, hz2b⟩ := hI.int 6 8 (lo := 0) (hi := 300) (by decide) (by decide) rfl
  have ghz2 := gv_eq hz2
  refine w_virt (ci := 7) (i := 0) (npc := 5) (a := [cr 0, ai_i p]) (rest := []) rfl rfl (hI.pl (by decide)) (hI.T (by decide) rfl) rfl rfl rfl rfl (ct_c_pageAt (sl := sl) (x := x) (d := d + 6) (p) hI) (Or.inl rfl) (fun k9 v9 T4 E4 nx4 kc4 ks4 hq3 hk4 hv4 => ?_)
  rcases hq3 with hq3 | hq3
  · obtain ⟨rfl, rfl, rfl, rfl, hz5⟩ := hq3
    exact Or.inr (Or.inr (Or.inl ⟨rfl, rfl, Or.inl ⟨rfl, by omega, by omega, hI, hF, hN, trivial⟩, by omega, by omega⟩))
  obtain ⟨rfl, rfl, rfl, rfl, b9, rfl, hz5⟩ := hq3
  have hb10 : 41 ≤ b9 ∧ b9 ≤ 77 ∧ b9 % 4 = 1 := by omega
  refine Or.inr (Or.inl ⟨rfl, ?_⟩)
  refine w_astore (i := 4) (npc := 7) (loc' := [cr 0, ai_i p, ai_i l, ai_i g, cr b9, ai_un]) rfl rfl rfl ?_
  refine w_aload (i := 0) (npc := 8) (v := cr 0) rfl rfl rfl ?_
  refine w_iload (i := 1) (npc := 9) rfl rfl ?_
  refine w_virt (ci := 7) (i := 0) (npc := 12) (a := [cr 0, ai_i p]) (rest := []) rfl rfl (hI.pl (by decide)) (hI.T (by decide) rfl) rfl rfl rfl rfl (ct_c_viewOf (sl := sl) (x := x) (d := d + 0) (p) hI (by omega)) (Or.inl rfl) (fun k9 v9 T12 E12 nx12 kc12 ks12 hq11 hk12 hv12 => ?_)
  obtain ⟨rfl, rfl, rfl, hI14, hG15, rfl, hz13⟩ := hq11
  obtain rfl : kc4 = kc12 := by omega
  obtain rfl : ks4 = ks12 := by omega
  have hF17 := cm_fr.trans hF hG15 (by intro i k h; (try simp only at h); (try simp only); omega)
  have hN18 := hN.fr hG15 (by intro i k h; (try simp only at h); omega)
  have hz19 : E12 0 10 = ai_i z1 := (hG15 0 10 (by first | omega | (simp; done) | (simp; omega) | (simp only; omega))).trans hz1
  have ghz19 := gv_eq hz19
  refine Or.inr (Or.inl ⟨rfl, ?_⟩)
  refine w_astore (i := 5) (npc := 14) (loc' := [cr 0, ai_i p, ai_i l, ai_i g, cr b9, cr 6]) rfl rfl rfl ?_
  refine w_aload (i := 4) (npc := 16) (v := cr b9) rfl rfl rfl ?_
  obtain ⟨z20, hz20, hz20a, hz20b⟩ := hI14.int 6 8 (lo := 0) (hi := 300) (by decide) (by decide) rfl
  have ghz20 := gv_eq hz20
  refine w_virt (ci := 3) (i := b9) (npc := 19) (a := [cr b9]) (rest := []) rfl rfl (hI14.pl (by omega)) (hI14.pgT0 hb10) rfl rfl rfl rfl (ct_pg_canStep (sl := sl) (x := x) (d := d + 6)  (b := b9) hb10 hI14) (Or.inl rfl) (fun k9 v9 T22 E22 nx22 kc22 ks22 hq21 hk22 hv22 => ?_)
  obtain ⟨rfl, rfl, rfl, rfl, z23, rfl, hz23⟩ := hq21
  obtain rfl : kc4 = kc22 := by omega
  obtain rfl : ks4 = ks22 := by omega
  refine Or.inr (Or.inl ⟨rfl, ?_⟩)
  refine w_if (c := .eq) (npc := 22) (pt := 42) rfl (fun hc27 => ?_) (fun hc27 => ?_)
  · replace hc27 : z23 = (0 : Int) := hc27
    refine w_aload (i := 0) (npc := 43) (v := cr 0) rfl rfl rfl ?_
    refine w_const (n := 0) (npc := 44) rfl ?_
    refine w_virt (ci := 7) (i := 0) (npc := 47) (a := [cr 0, ai_i 0]) (rest := []) rfl rfl (hI14.pl (by decide)) (hI14.T (by decide) rfl) rfl rfl rfl rfl (ct_c_refuse (sl := sl) (x := x) (d := d + 6) (0) hI14 (by omega)) (Or.inl rfl) (fun k9 v9 T29 E29 nx29 kc29 ks29 hq28 hk29 hv29 => ?_)
    obtain ⟨rfl, rfl, rfl, hI31, hG32, z30, rfl, hz30⟩ := hq28
    obtain rfl : kc4 = kc29 := by omega
    obtain rfl : ks4 = ks29 := by omega
    have hF34 := cm_fr.trans hF17 hG32 (by intro i k h; (try simp only at h); (try simp only); omega)
    have hN35 := hN18.fr hG32 (by intro i k h; (try simp only at h); omega)
    have hz36 : E29 0 10 = ai_i z1 := (hG32 0 10 (by first | omega | (simp; done) | (simp; omega) | (simp only; omega))).trans hz19
    have ghz36 := gv_eq hz36
    have hz37 : E29 6 8 = ai_i z20 := (hG32 6 8 (by first | omega | (simp; done) | (simp; omega) | (simp only; omega))).trans hz20
    have ghz37 := gv_eq hz37
    refine Or.inr (Or.inl ⟨rfl, ?_⟩)
    exact w_iret rfl (Or.inr (⟨rfl, by omega, by omega, hI31, hF34, hN35, z30, rfl, trivial⟩)) (by omega) (by omega)
  · replace hc27 : ¬ (z23 = (0 : Int)) := hc27
    refine w_iload (i := 3) (npc := 23) rfl rfl ?_
    refine w_call (npc := 26) (a := [ai_i g]) (rest := []) rfl rfl rfl rfl rfl (ct_c_isSign (sl := sl) (x := x) (d := d + 6) (g)) (Or.inr (fun _ _ _ _ _ hq => by have h1 := hq.1; omega)) (fun k9 v9 T39 E39 nx39 kc39 ks39 hq38 hk39 hv39 => ?_)
    obtain ⟨rfl, rfl, rfl, rfl, z40, rfl, hz40⟩ := hq38
    obtain rfl : kc4 = kc39 := by omega
    obtain rfl : ks4 = ks39 := by omega
    refine Or.inr (Or.inl ⟨rfl, ?_⟩)
    refine w_if (c := .eq) (npc := 29) (pt := 42) rfl (fun hc44 => ?_) (fun hc44 => ?_)
    · replace hc44 : z40 = (0 : Int) := hc44
      refine w_aload (i := 0) (npc := 43) (v := cr 0) rfl rfl rfl ?_
      refine w_const (n := 0) (npc := 44) rfl ?_
      refine w_virt (ci := 7) (i := 0) (npc := 47) (a := [cr 0, ai_i 0]) (rest := []) rfl rfl (hI14.pl (by decide)) (hI14.T (by decide) rfl) rfl rfl rfl rfl (ct_c_refuse (sl := sl) (x := x) (d := d + 6) (0) hI14 (by omega)) (Or.inl rfl) (fun k9 v9 T46 E46 nx46 kc46 ks46 hq45 hk46 hv46 => ?_)
      obtain ⟨rfl, rfl, rfl, hI48, hG49, z47, rfl, hz47⟩ := hq45
      obtain rfl : kc4 = kc46 := by omega
      obtain rfl : ks4 = ks46 := by omega
      have hF51 := cm_fr.trans hF17 hG49 (by intro i k h; (try simp only at h); (try simp only); omega)
      have hN52 := hN18.fr hG49 (by intro i k h; (try simp only at h); omega)
      have hz53 : E46 0 10 = ai_i z1 := (hG49 0 10 (by first | omega | (simp; done) | (simp; omega) | (simp only; omega))).trans hz19
      have ghz53 := gv_eq hz53
      have hz54 : E46 6 8 = ai_i z20 := (hG49 6 8 (by first | omega | (simp; done) | (simp; omega) | (simp only; omega))).trans hz20
      have ghz54 := gv_eq hz54
      refine Or.inr (Or.inl ⟨rfl, ?_⟩)
      exact w_iret rfl (Or.inr (⟨rfl, by omega, by omega, hI48, hF51, hN52, z47, rfl, trivial⟩)) (by omega) (by omega)
    · replace hc44 : ¬ (z40 = (0 : Int)) := hc44
      refine w_iload (i := 2) (npc := 30) rfl rfl ?_
      refine w_if (c := .lt) (npc := 33) (pt := 42) rfl (fun hc55 => ?_) (fun hc55 => ?_)
      · replace hc55 : l < (0 : Int) := hc55
        refine w_aload (i := 0) (npc := 43) (v := cr 0) rfl rfl rfl ?_
        refine w_const (n := 0) (npc := 44) rfl ?_
        refine w_virt (ci := 7) (i := 0) (npc := 47) (a := [cr 0, ai_i 0]) (rest := []) rfl rfl (hI14.pl (by decide)) (hI14.T (by decide) rfl) rfl rfl rfl rfl (ct_c_refuse (sl := sl) (x := x) (d := d + 6) (0) hI14 (by omega)) (Or.inl rfl) (fun k9 v9 T57 E57 nx57 kc57 ks57 hq56 hk57 hv57 => ?_)
        obtain ⟨rfl, rfl, rfl, hI59, hG60, z58, rfl, hz58⟩ := hq56
        obtain rfl : kc4 = kc57 := by omega
        obtain rfl : ks4 = ks57 := by omega
        have hF62 := cm_fr.trans hF17 hG60 (by intro i k h; (try simp only at h); (try simp only); omega)
        have hN63 := hN18.fr hG60 (by intro i k h; (try simp only at h); omega)
        have hz64 : E57 0 10 = ai_i z1 := (hG60 0 10 (by first | omega | (simp; done) | (simp; omega) | (simp only; omega))).trans hz19
        have ghz64 := gv_eq hz64
        have hz65 : E57 6 8 = ai_i z20 := (hG60 6 8 (by first | omega | (simp; done) | (simp; omega) | (simp only; omega))).trans hz20
        have ghz65 := gv_eq hz65
        refine Or.inr (Or.inl ⟨rfl, ?_⟩)
        exact w_iret rfl (Or.inr (⟨rfl, by omega, by omega, hI59, hF62, hN63, z58, rfl, trivial⟩)) (by omega) (by omega)
      · replace hc55 : ¬ (l < (0 : Int)) := hc55
        refine w_iload (i := 2) (npc := 34) rfl rfl ?_
        refine w_aload (i := 5) (npc := 36) (v := cr 6) rfl rfl rfl ?_
        refine w_getf (i := 6) (ci := 6) (k := 8) (npc := 39) rfl (hI14.pl (by decide)) (hI14.T (by decide) rfl) (by decide) hz20 ?_
        refine w_icmp (c := .le) (npc := 42) (pt := 48) rfl (fun hc66 => ?_) (fun hc66 => ?_)
        · replace hc66 : l ≤ z20 := hc66
          refine w_aload (i := 0) (npc := 49) (v := cr 0) rfl rfl rfl ?_
          refine w_getf (i := 0) (ci := 7) (k := 6) (npc := 52) rfl (hI14.pl (by decide)) (hI14.T (by decide) rfl) (by decide) (hI14.ref 0 6 (p := 14) (by decide) (by decide) rfl) ?_
          refine w_aload (i := 5) (npc := 54) (v := cr 6) rfl rfl rfl ?_
          refine w_iload (i := 2) (npc := 55) rfl rfl ?_
          refine w_virt (ci := 1) (i := 14) (npc := 58) (a := [cr 14, cr 6, ai_i l]) (rest := []) rfl rfl (hI14.pl (by decide)) (hI14.T (by decide) rfl) rfl rfl rfl rfl (ct_nk_aim (sl := sl) (x := x) (d := d + 3) (l) hI14 (by omega)) (Or.inl rfl) (fun k9 v9 T68 E68 nx68 kc68 ks68 hq67 hk68 hv68 => ?_)
          obtain ⟨rfl, rfl, rfl, hI70, hG71, hz69⟩ := hq67
          obtain rfl : kc4 = kc68 := by omega
          obtain rfl : ks4 = ks68 := by omega
          have hF73 := cm_fr.trans hF17 hG71 (by intro i k h; (try simp only at h); (try simp only); omega)
          have hN74 := hN18.fr hG71 (by intro i k h; (try simp only at h); omega)
          have hz75 : E68 0 10 = ai_i z1 := (hG71 0 10 (by first | omega | (simp; done) | (simp; omega) | (simp only; omega))).trans hz19
          have ghz75 := gv_eq hz75
          have hz76 : E68 6 8 = ai_i z20 := (hG71 6 8 (by first | omega | (simp; done) | (simp; omega) | (simp only; omega))).trans hz20
          have ghz76 := gv_eq hz76
          refine Or.inl ⟨rfl, ?_⟩
          refine w_aload (i := 0) (npc := 59) (v := cr 0) rfl rfl rfl ?_
          refine w_getf (i := 0) (ci := 7) (k := 6) (npc := 62) rfl (hI70.pl (by decide)) (hI70.T (by decide) rfl) (by decide) (hI70.ref 0 6 (p := 14) (by decide) (by decide) rfl) ?_
          refine w_iload (i := 1) (npc := 63) rfl rfl ?_
          refine w_virt (ci := 1) (i := 14) (npc := 66) (a := [cr 14, ai_i p]) (rest := []) rfl rfl (hI70.pl (by decide)) (hI70.T (by decide) rfl) rfl rfl rfl rfl (ct_nk_grow (sl := sl) (x := x) (d := d + 6) (p) hI70 (by omega)) (Or.inl rfl) (fun k9 v9 T78 E78 nx78 kc78 ks78 hq77 hk78 hv78 => ?_)
          obtain ⟨rfl, rfl, rfl, hI80, hG81, z79, rfl, hz79⟩ := hq77
          obtain rfl : kc4 = kc78 := by omega
          obtain rfl : ks4 = ks78 := by omega
          have hF83 := cm_fr.trans hF73 hG81 (by intro i k h; (try simp only at h); (try simp only); omega)
          have hN84 := hN74.fr hG81 (by intro i k h; (try simp only at h); omega)
          have hz85 : E78 0 10 = ai_i z1 := (hG81 0 10 (by first | omega | (simp; done) | (simp; omega) | (simp only; omega))).trans hz75
          have ghz85 := gv_eq hz85
          have hz86 : E78 6 8 = ai_i z20 := (hG81 6 8 (by first | omega | (simp; done) | (simp; omega) | (simp only; omega))).trans hz76
          have ghz86 := gv_eq hz86
          refine Or.inr (Or.inl ⟨rfl, ?_⟩)
          refine w_if (c := .ne) (npc := 69) (pt := 75) rfl (fun hc87 => ?_) (fun hc87 => ?_)
          · replace hc87 : z79 ≠ (0 : Int) := hc87
            refine w_aload (i := 0) (npc := 76) (v := cr 0) rfl rfl rfl ?_
            refine w_getf (i := 0) (ci := 7) (k := 7) (npc := 79) rfl (hI80.pl (by decide)) (hI80.T (by decide) rfl) (by decide) (hI80.ref 0 7 (p := 17) (by decide) (by decide) rfl) ?_
            refine w_const (n := 0) (npc := 80) rfl ?_
            refine w_aload (i := 4) (npc := 82) (v := cr b9) rfl rfl rfl ?_
            refine w_virt (ci := 2) (i := 17) (npc := 85) (a := [cr 17, ai_i 0, cr b9]) (rest := []) rfl rfl (hI80.pl (by decide)) (hI80.T (by decide) rfl) rfl rfl rfl rfl (ct_pk_begin (sl := sl) (x := x) (d := d + 4) (0) (b := b9) hb10 hI80 (by omega) (by have c59 := hz23.2.2 (by omega); have i09 := gv_fr hG71 (i := b9) (k := 0) (by omega); have i19 := gv_fr hG81 (i := b9) (k := 0) (by omega); have j09 := gv_fr hG71 (i := b9 + 2) (k := (gv E12 b9 0).toNat) (by omega); have j19 := gv_fr hG81 (i := b9 + 2) (k := (gv E12 b9 0).toNat) (by omega); rw [show gv E78 b9 0 = gv E12 b9 0 by omega]; omega)) (Or.inl rfl) (fun k9 v9 T89 E89 nx89 kc89 ks89 hq88 hk89 hv89 => ?_)
            obtain ⟨rfl, rfl, rfl, hI91, hG92, hz90⟩ := hq88
            obtain rfl : kc4 = kc89 := by omega
            obtain rfl : ks4 = ks89 := by omega
            have hF94 := cm_fr.trans hF83 hG92 (by intro i k h; (try simp only at h); (try simp only); omega)
            have hN95 := hN84.fr hG92 (by intro i k h; (try simp only at h); omega)
            have hz96 : E89 0 10 = ai_i z1 := (hG92 0 10 (by first | omega | (simp; done) | (simp; omega) | (simp only; omega))).trans hz85
            have ghz96 := gv_eq hz96
            have hz97 : E89 6 8 = ai_i z20 := (hG92 6 8 (by first | omega | (simp; done) | (simp; omega) | (simp only; omega))).trans hz86
            have ghz97 := gv_eq hz97
            refine Or.inl ⟨rfl, ?_⟩
            refine w_aload (i := 0) (npc := 86) (v := cr 0) rfl rfl rfl ?_
            refine w_getf (i := 0) (ci := 7) (k := 7) (npc := 89) rfl (hI91.pl (by decide)) (hI91.T (by decide) rfl) (by decide) (hI91.ref 0 7 (p := 17) (by decide) (by decide) rfl) ?_
            refine w_iload (i := 3) (npc := 90) rfl rfl ?_
            refine w_virt (ci := 2) (i := 17) (npc := 93) (a := [cr 17, ai_i g]) (rest := []) rfl rfl (hI91.pl (by decide)) (hI91.T (by decide) rfl) rfl rfl rfl rfl (ct_pk_put (sl := sl) (x := x) (d := d + 6) (g) hI91) (Or.inl rfl) (fun k9 v9 T99 E99 nx99 kc99 ks99 hq98 hk99 hv99 => ?_)
            obtain ⟨rfl, rfl, rfl, hI101, hG102, hz100⟩ := hq98
            obtain rfl : kc4 = kc99 := by omega
            obtain rfl : ks4 = ks99 := by omega
            have hF104 := cm_fr.trans hF94 hG102 (by intro i k h; (try simp only at h); (try simp only); omega)
            have hN105 := hN95.fr hG102 (by intro i k h; (try simp only at h); omega)
            have hz106 : E99 0 10 = ai_i z1 := (hG102 0 10 (by first | omega | (simp; done) | (simp; omega) | (simp only; omega))).trans hz96
            have ghz106 := gv_eq hz106
            have hz107 : E99 6 8 = ai_i z20 := (hG102 6 8 (by first | omega | (simp; done) | (simp; omega) | (simp only; omega))).trans hz97
            have ghz107 := gv_eq hz107
            refine Or.inl ⟨rfl, ?_⟩
            refine w_aload (i := 0) (npc := 94) (v := cr 0) rfl rfl rfl ?_
            refine w_getf (i := 0) (ci := 7) (k := 7) (npc := 97) rfl (hI101.pl (by decide)) (hI101.T (by decide) rfl) (by decide) (hI101.ref 0 7 (p := 17) (by decide) (by decide) rfl) ?_
            refine w_aload (i := 0) (npc := 98) (v := cr 0) rfl rfl rfl ?_
            refine w_getf (i := 0) (ci := 7) (k := 6) (npc := 101) rfl (hI101.pl (by decide)) (hI101.T (by decide) rfl) (by decide) (hI101.ref 0 6 (p := 14) (by decide) (by decide) rfl) ?_
            refine w_virt (ci := 2) (i := 17) (npc := 104) (a := [cr 17, cr 14]) (rest := []) rfl rfl (hI101.pl (by decide)) (hI101.T (by decide) rfl) rfl rfl rfl rfl (ct_pk_putKey (sl := sl) (x := x) (d := d + 4)  hI101 (by omega)) (Or.inl rfl) (fun k9 v9 T109 E109 nx109 kc109 ks109 hq108 hk109 hv109 => ?_)
            obtain ⟨rfl, rfl, rfl, hI111, hG112, hz110⟩ := hq108
            obtain rfl : kc4 = kc109 := by omega
            obtain rfl : ks4 = ks109 := by omega
            have hF114 := cm_fr.trans hF104 hG112 (by intro i k h; (try simp only at h); (try simp only); omega)
            have hN115 := hN105.fr hG112 (by intro i k h; (try simp only at h); omega)
            have hz116 : E109 0 10 = ai_i z1 := (hG112 0 10 (by first | omega | (simp; done) | (simp; omega) | (simp only; omega))).trans hz106
            have ghz116 := gv_eq hz116
            have hz117 : E109 6 8 = ai_i z20 := (hG112 6 8 (by first | omega | (simp; done) | (simp; omega) | (simp only; omega))).trans hz107
            have ghz117 := gv_eq hz117
            refine Or.inl ⟨rfl, ?_⟩
            refine w_aload (i := 0) (npc := 105) (v := cr 0) rfl rfl rfl ?_
            refine w_aload (i := 4) (npc := 107) (v := cr b9) rfl rfl rfl ?_
            refine w_virt (ci := 7) (i := 0) (npc := 110) (a := [cr 0, cr b9]) (rest := []) rfl rfl (hI111.pl (by decide)) (hI111.T (by decide) rfl) rfl rfl rfl rfl (ct_c_perform (sl := sl) (x := x) (d := d + 1)  (b := b9) hb10 hI111 hN115 (by omega) (by omega) (by have e01 := gv_fr hG102 (i := 18) (k := 1) (by omega); have e02 := gv_fr hG102 (i := 18) (k := 2) (by omega); have e11 := gv_fr hG112 (i := 18) (k := 1) (by omega); have e12 := gv_fr hG112 (i := 18) (k := 2) (by omega); omega)) (Or.inl rfl) (fun k9 v9 T119 E119 nx119 kc119 ks119 hq118 hk119 hv119 => ?_)
            obtain ⟨rfl, hnxz120, hnyz120, hI121, hG122, hN123, z120, rfl, hz120⟩ := hq118
            have hF124 := cm_fr.trans hF114 hG122 (by intro i k h; (try simp only at h); (try simp only); omega)
            refine Or.inr (Or.inl ⟨rfl, ?_⟩)
            exact w_iret rfl (Or.inr (⟨rfl, by omega, by omega, hI121, hF124, hN123, z120, rfl, trivial⟩)) (by omega) (by omega)
          · replace hc87 : ¬ (z79 ≠ (0 : Int)) := hc87
            refine w_aload (i := 0) (npc := 70) (v := cr 0) rfl rfl rfl ?_
            refine w_const (n := 0) (npc := 71) rfl ?_
            refine w_virt (ci := 7) (i := 0) (npc := 74) (a := [cr 0, ai_i 0]) (rest := []) rfl rfl (hI80.pl (by decide)) (hI80.T (by decide) rfl) rfl rfl rfl rfl (ct_c_refuse (sl := sl) (x := x) (d := d + 6) (0) hI80 (by omega)) (Or.inl rfl) (fun k9 v9 T126 E126 nx126 kc126 ks126 hq125 hk126 hv126 => ?_)
            obtain ⟨rfl, rfl, rfl, hI128, hG129, z127, rfl, hz127⟩ := hq125
            obtain rfl : kc4 = kc126 := by omega
            obtain rfl : ks4 = ks126 := by omega
            have hF131 := cm_fr.trans hF83 hG129 (by intro i k h; (try simp only at h); (try simp only); omega)
            have hN132 := hN84.fr hG129 (by intro i k h; (try simp only at h); omega)
            have hz133 : E126 0 10 = ai_i z1 := (hG129 0 10 (by first | omega | (simp; done) | (simp; omega) | (simp only; omega))).trans hz85
            have ghz133 := gv_eq hz133
            have hz134 : E126 6 8 = ai_i z20 := (hG129 6 8 (by first | omega | (simp; done) | (simp; omega) | (simp only; omega))).trans hz86
            have ghz134 := gv_eq hz134
            refine Or.inr (Or.inl ⟨rfl, ?_⟩)
            exact w_iret rfl (Or.inr (⟨rfl, by omega, by omega, hI128, hF131, hN132, z127, rfl, trivial⟩)) (by omega) (by omega)
        · replace hc66 : ¬ (l ≤ z20) := hc66
          refine w_aload (i := 0) (npc := 43) (v := cr 0) rfl rfl rfl ?_
          refine w_const (n := 0) (npc := 44) rfl ?_
          refine w_virt (ci := 7) (i := 0) (npc := 47) (a := [cr 0, ai_i 0]) (rest := []) rfl rfl (hI14.pl (by decide)) (hI14.T (by decide) rfl) rfl rfl rfl rfl (ct_c_refuse (sl := sl) (x := x) (d := d + 6) (0) hI14 (by omega)) (Or.inl rfl) (fun k9 v9 T136 E136 nx136 kc136 ks136 hq135 hk136 hv136 => ?_)
          obtain ⟨rfl, rfl, rfl, hI138, hG139, z137, rfl, hz137⟩ := hq135
          obtain rfl : kc4 = kc136 := by omega
          obtain rfl : ks4 = ks136 := by omega
          have hF141 := cm_fr.trans hF17 hG139 (by intro i k h; (try simp only at h); (try simp only); omega)
          have hN142 := hN18.fr hG139 (by intro i k h; (try simp only at h); omega)
          have hz143 : E136 0 10 = ai_i z1 := (hG139 0 10 (by first | omega | (simp; done) | (simp; omega) | (simp only; omega))).trans hz19
          have ghz143 := gv_eq hz143
          have hz144 : E136 6 8 = ai_i z20 := (hG139 6 8 (by first | omega | (simp; done) | (simp; omega) | (simp only; omega))).trans hz20
          have ghz144 := gv_eq hz144
          refine Or.inr (Or.inl ⟨rfl, ?_⟩)
          exact w_iret rfl (Or.inr (⟨rfl, by omega, by omega, hI138, hF141, hN142, z137, rfl, trivial⟩)) (by omega) (by omega)
set_option maxRecDepth 16384 in
theorem ct_c_strike {sl : Int × Int} {x : ai_E} {d : Nat} {T : cm_T} {E : cm_E} {nx : Nat} (p l : Int)  (hI : cs_I T E nx) (hN : hn E) (hp0 : nx ≤ 1000) : cm_ct (ai_ev sl (d + 8)) x 38 [cr 0, ai_i p, ai_i l] T E nx 6 440 (fun rk rv T' E' nx' => (rk = 2 ∧ nx ≤ nx' ∧ nx' ≤ nx + 2 ∧ cs_I T' E' nx' ∧ cm_fr (fun i k => (i < 81 ∧ ¬ (i = 0 ∧ (k = 10 ∨ k = 11 ∨ k = 14)) ∧ ¬ (i = 23 ∧ (k = 8 ∨ k = 9))) ∨ 105 ≤ i) E E' ∧ hn E' ∧ (True)) ∨ (rk = 1 ∧ nx ≤ nx' ∧ nx' ≤ nx + 2 ∧ cs_I T' E' nx' ∧ cm_fr (fun i k => (i < 81 ∧ ¬ (i = 0 ∧ (k = 10 ∨ k = 11 ∨ k = 14)) ∧ ¬ (i = 23 ∧ (k = 8 ∨ k = 9))) ∨ 105 ≤ i) E E' ∧ hn E' ∧ ∃ z : Int, rv = ai_i z ∧ (True))) := by
  refine cm_body (M := ai_m38) rfl rfl (fun kc ks => ?_)
  show cm_wp (ai_find ai_c38 sl) (ai_ev sl (d + 7)) x (kc + 6) (ks + 440) _ 0 [cr 0, ai_i p, ai_i l, ai_un, ai_un] [] T E nx kc ks
  have hF : cm_fr (fun i k => (i < 81 ∧ ¬ (i = 0 ∧ (k = 10 ∨ k = 11 ∨ k = 14)) ∧ ¬ (i = 23 ∧ (k = 8 ∨ k = 9))) ∨ 105 ≤ i) E E := fun _ _ _ => rfl
  obtain ⟨z1, hz1, hz1a, hz1b⟩ := hI.int 0 10 (lo := 1) (hi := 5) (by decide) (by decide) rfl
  have ghz1 := gv_eq hz1
  refine w_aload (i := 0) (npc := 1) (v := cr 0) rfl rfl rfl ?_
  refine w_iload (i := 1) (npc := 2) rfl rfl ?_
  obtain ⟨z2, hz2, hz2a, hz2b⟩ := hI.int 6 8 (lo := 0) (hi := 300) (by decide) (by decide) rfl
  have ghz2 := gv_eq hz2
  refine w_virt (ci := 7) (i := 0) (npc := 5) (a := [cr 0, ai_i p]) (rest := []) rfl rfl (hI.pl (by decide)) (hI.T (by decide) rfl) rfl rfl rfl rfl (ct_c_pageAt (sl := sl) (x := x) (d := d + 6) (p) hI) (Or.inl rfl) (fun k9 v9 T4 E4 nx4 kc4 ks4 hq3 hk4 hv4 => ?_)
  rcases hq3 with hq3 | hq3
  · obtain ⟨rfl, rfl, rfl, rfl, hz5⟩ := hq3
    exact Or.inr (Or.inr (Or.inl ⟨rfl, rfl, Or.inl ⟨rfl, by omega, by omega, hI, hF, hN, trivial⟩, by omega, by omega⟩))
  obtain ⟨rfl, rfl, rfl, rfl, b9, rfl, hz5⟩ := hq3
  have hb10 : 41 ≤ b9 ∧ b9 ≤ 77 ∧ b9 % 4 = 1 := by omega
  refine Or.inr (Or.inl ⟨rfl, ?_⟩)
  refine w_astore (i := 3) (npc := 6) (loc' := [cr 0, ai_i p, ai_i l, cr b9, ai_un]) rfl rfl rfl ?_
  refine w_aload (i := 0) (npc := 7) (v := cr 0) rfl rfl rfl ?_
  refine w_iload (i := 1) (npc := 8) rfl rfl ?_
  refine w_virt (ci := 7) (i := 0) (npc := 11) (a := [cr 0, ai_i p]) (rest := []) rfl rfl (hI.pl (by decide)) (hI.T (by decide) rfl) rfl rfl rfl rfl (ct_c_viewOf (sl := sl) (x := x) (d := d + 0) (p) hI (by omega)) (Or.inl rfl) (fun k9 v9 T12 E12 nx12 kc12 ks12 hq11 hk12 hv12 => ?_)
  obtain ⟨rfl, rfl, rfl, hI14, hG15, rfl, hz13⟩ := hq11
  obtain rfl : kc4 = kc12 := by omega
  obtain rfl : ks4 = ks12 := by omega
  have hF17 := cm_fr.trans hF hG15 (by intro i k h; (try simp only at h); (try simp only); omega)
  have hN18 := hN.fr hG15 (by intro i k h; (try simp only at h); omega)
  have hz19 : E12 0 10 = ai_i z1 := (hG15 0 10 (by first | omega | (simp; done) | (simp; omega) | (simp only; omega))).trans hz1
  have ghz19 := gv_eq hz19
  refine Or.inr (Or.inl ⟨rfl, ?_⟩)
  refine w_iload (i := 2) (npc := 12) rfl rfl ?_
  obtain ⟨z20, hz20, hz20a, hz20b⟩ := hI14.int 6 8 (lo := 0) (hi := 300) (by decide) (by decide) rfl
  have ghz20 := gv_eq hz20
  refine w_virt (ci := 6) (i := 6) (npc := 15) (a := [cr 6, ai_i l]) (rest := []) rfl rfl (hI14.pl (by decide)) (hI14.T (by decide) rfl) rfl rfl rfl rfl (ct_vw_slotAt (sl := sl) (x := x) (d := d + 6) (l) hI14) (Or.inl rfl) (fun k9 v9 T22 E22 nx22 kc22 ks22 hq21 hk22 hv22 => ?_)
  obtain ⟨rfl, rfl, rfl, rfl, z23, rfl, hz23⟩ := hq21
  obtain rfl : kc4 = kc22 := by omega
  obtain rfl : ks4 = ks22 := by omega
  refine Or.inr (Or.inl ⟨rfl, ?_⟩)
  refine w_istore (i := 4) (npc := 17) (loc' := [cr 0, ai_i p, ai_i l, cr b9, ai_i z23]) rfl rfl ?_
  refine w_aload (i := 3) (npc := 18) (v := cr b9) rfl rfl rfl ?_
  refine w_virt (ci := 3) (i := b9) (npc := 21) (a := [cr b9]) (rest := []) rfl rfl (hI14.pl (by omega)) (hI14.pgT0 hb10) rfl rfl rfl rfl (ct_pg_canStep (sl := sl) (x := x) (d := d + 6)  (b := b9) hb10 hI14) (Or.inl rfl) (fun k9 v9 T28 E28 nx28 kc28 ks28 hq27 hk28 hv28 => ?_)
  obtain ⟨rfl, rfl, rfl, rfl, z29, rfl, hz29⟩ := hq27
  obtain rfl : kc4 = kc28 := by omega
  obtain rfl : ks4 = ks28 := by omega
  refine Or.inr (Or.inl ⟨rfl, ?_⟩)
  refine w_if (c := .eq) (npc := 24) (pt := 30) rfl (fun hc33 => ?_) (fun hc33 => ?_)
  · replace hc33 : z29 = (0 : Int) := hc33
    refine w_aload (i := 0) (npc := 31) (v := cr 0) rfl rfl rfl ?_
    refine w_const (n := 0) (npc := 32) rfl ?_
    refine w_virt (ci := 7) (i := 0) (npc := 35) (a := [cr 0, ai_i 0]) (rest := []) rfl rfl (hI14.pl (by decide)) (hI14.T (by decide) rfl) rfl rfl rfl rfl (ct_c_refuse (sl := sl) (x := x) (d := d + 6) (0) hI14 (by omega)) (Or.inl rfl) (fun k9 v9 T35 E35 nx35 kc35 ks35 hq34 hk35 hv35 => ?_)
    obtain ⟨rfl, rfl, rfl, hI37, hG38, z36, rfl, hz36⟩ := hq34
    obtain rfl : kc4 = kc35 := by omega
    obtain rfl : ks4 = ks35 := by omega
    have hF40 := cm_fr.trans hF17 hG38 (by intro i k h; (try simp only at h); (try simp only); omega)
    have hN41 := hN18.fr hG38 (by intro i k h; (try simp only at h); omega)
    have hz42 : E35 0 10 = ai_i z1 := (hG38 0 10 (by first | omega | (simp; done) | (simp; omega) | (simp only; omega))).trans hz19
    have ghz42 := gv_eq hz42
    have hz43 : E35 6 8 = ai_i z20 := (hG38 6 8 (by first | omega | (simp; done) | (simp; omega) | (simp only; omega))).trans hz20
    have ghz43 := gv_eq hz43
    refine Or.inr (Or.inl ⟨rfl, ?_⟩)
    exact w_iret rfl (Or.inr (⟨rfl, by omega, by omega, hI37, hF40, hN41, z36, rfl, trivial⟩)) (by omega) (by omega)
  · replace hc33 : ¬ (z29 = (0 : Int)) := hc33
    refine w_iload (i := 4) (npc := 26) rfl rfl ?_
    refine w_const (n := (-1)) (npc := 27) rfl ?_
    refine w_icmp (c := .ne) (npc := 30) (pt := 36) rfl (fun hc44 => ?_) (fun hc44 => ?_)
    · replace hc44 : z23 ≠ ((-1) : Int) := hc44
      refine w_aload (i := 0) (npc := 37) (v := cr 0) rfl rfl rfl ?_
      refine w_getf (i := 0) (ci := 7) (k := 7) (npc := 40) rfl (hI14.pl (by decide)) (hI14.T (by decide) rfl) (by decide) (hI14.ref 0 7 (p := 17) (by decide) (by decide) rfl) ?_
      refine w_const (n := 1) (npc := 41) rfl ?_
      refine w_aload (i := 3) (npc := 42) (v := cr b9) rfl rfl rfl ?_
      refine w_virt (ci := 2) (i := 17) (npc := 45) (a := [cr 17, ai_i 1, cr b9]) (rest := []) rfl rfl (hI14.pl (by decide)) (hI14.T (by decide) rfl) rfl rfl rfl rfl (ct_pk_begin (sl := sl) (x := x) (d := d + 4) (1) (b := b9) hb10 hI14 (by omega) (by have c59 := hz29.2.2 (by omega); rw [show gv E12 b9 0 = gv E12 b9 0 by omega]; omega)) (Or.inl rfl) (fun k9 v9 T46 E46 nx46 kc46 ks46 hq45 hk46 hv46 => ?_)
      obtain ⟨rfl, rfl, rfl, hI48, hG49, hz47⟩ := hq45
      obtain rfl : kc4 = kc46 := by omega
      obtain rfl : ks4 = ks46 := by omega
      have hF51 := cm_fr.trans hF17 hG49 (by intro i k h; (try simp only at h); (try simp only); omega)
      have hN52 := hN18.fr hG49 (by intro i k h; (try simp only at h); omega)
      have hz53 : E46 0 10 = ai_i z1 := (hG49 0 10 (by first | omega | (simp; done) | (simp; omega) | (simp only; omega))).trans hz19
      have ghz53 := gv_eq hz53
      have hz54 : E46 6 8 = ai_i z20 := (hG49 6 8 (by first | omega | (simp; done) | (simp; omega) | (simp only; omega))).trans hz20
      have ghz54 := gv_eq hz54
      refine Or.inl ⟨rfl, ?_⟩
      refine w_aload (i := 0) (npc := 46) (v := cr 0) rfl rfl rfl ?_
      refine w_getf (i := 0) (ci := 7) (k := 7) (npc := 49) rfl (hI48.pl (by decide)) (hI48.T (by decide) rfl) (by decide) (hI48.ref 0 7 (p := 17) (by decide) (by decide) rfl) ?_
      refine w_iload (i := 4) (npc := 51) rfl rfl ?_
      refine w_virt (ci := 2) (i := 17) (npc := 54) (a := [cr 17, ai_i z23]) (rest := []) rfl rfl (hI48.pl (by decide)) (hI48.T (by decide) rfl) rfl rfl rfl rfl (ct_pk_putMark (sl := sl) (x := x) (d := d + 5) (z23) hI48 (by omega) (by omega)) (Or.inl rfl) (fun k9 v9 T56 E56 nx56 kc56 ks56 hq55 hk56 hv56 => ?_)
      obtain ⟨rfl, rfl, rfl, hI58, hG59, hz57⟩ := hq55
      obtain rfl : kc4 = kc56 := by omega
      obtain rfl : ks4 = ks56 := by omega
      have hF61 := cm_fr.trans hF51 hG59 (by intro i k h; (try simp only at h); (try simp only); omega)
      have hN62 := hN52.fr hG59 (by intro i k h; (try simp only at h); omega)
      have hz63 : E56 0 10 = ai_i z1 := (hG59 0 10 (by first | omega | (simp; done) | (simp; omega) | (simp only; omega))).trans hz53
      have ghz63 := gv_eq hz63
      have hz64 : E56 6 8 = ai_i z20 := (hG59 6 8 (by first | omega | (simp; done) | (simp; omega) | (simp only; omega))).trans hz54
      have ghz64 := gv_eq hz64
      refine Or.inl ⟨rfl, ?_⟩
      refine w_aload (i := 0) (npc := 55) (v := cr 0) rfl rfl rfl ?_
      refine w_aload (i := 3) (npc := 56) (v := cr b9) rfl rfl rfl ?_
      refine w_virt (ci := 7) (i := 0) (npc := 59) (a := [cr 0, cr b9]) (rest := []) rfl rfl (hI58.pl (by decide)) (hI58.T (by decide) rfl) rfl rfl rfl rfl (ct_c_perform (sl := sl) (x := x) (d := d + 1)  (b := b9) hb10 hI58 hN62 (by omega) (by omega) (by have e01 := gv_fr hG59 (i := 18) (k := 1) (by omega); have e02 := gv_fr hG59 (i := 18) (k := 2) (by omega); omega)) (Or.inl rfl) (fun k9 v9 T66 E66 nx66 kc66 ks66 hq65 hk66 hv66 => ?_)
      obtain ⟨rfl, hnxz67, hnyz67, hI68, hG69, hN70, z67, rfl, hz67⟩ := hq65
      have hF71 := cm_fr.trans hF61 hG69 (by intro i k h; (try simp only at h); (try simp only); omega)
      refine Or.inr (Or.inl ⟨rfl, ?_⟩)
      exact w_iret rfl (Or.inr (⟨rfl, by omega, by omega, hI68, hF71, hN70, z67, rfl, trivial⟩)) (by omega) (by omega)
    · replace hc44 : ¬ (z23 ≠ ((-1) : Int)) := hc44
      refine w_aload (i := 0) (npc := 31) (v := cr 0) rfl rfl rfl ?_
      refine w_const (n := 0) (npc := 32) rfl ?_
      refine w_virt (ci := 7) (i := 0) (npc := 35) (a := [cr 0, ai_i 0]) (rest := []) rfl rfl (hI14.pl (by decide)) (hI14.T (by decide) rfl) rfl rfl rfl rfl (ct_c_refuse (sl := sl) (x := x) (d := d + 6) (0) hI14 (by omega)) (Or.inl rfl) (fun k9 v9 T73 E73 nx73 kc73 ks73 hq72 hk73 hv73 => ?_)
      obtain ⟨rfl, rfl, rfl, hI75, hG76, z74, rfl, hz74⟩ := hq72
      obtain rfl : kc4 = kc73 := by omega
      obtain rfl : ks4 = ks73 := by omega
      have hF78 := cm_fr.trans hF17 hG76 (by intro i k h; (try simp only at h); (try simp only); omega)
      have hN79 := hN18.fr hG76 (by intro i k h; (try simp only at h); omega)
      have hz80 : E73 0 10 = ai_i z1 := (hG76 0 10 (by first | omega | (simp; done) | (simp; omega) | (simp only; omega))).trans hz19
      have ghz80 := gv_eq hz80
      have hz81 : E73 6 8 = ai_i z20 := (hG76 6 8 (by first | omega | (simp; done) | (simp; omega) | (simp only; omega))).trans hz20
      have ghz81 := gv_eq hz81
      refine Or.inr (Or.inl ⟨rfl, ?_⟩)
      exact w_iret rfl (Or.inr (⟨rfl, by omega, by omega, hI75, hF78, hN79, z74, rfl, trivial⟩)) (by omega) (by omega)
set_option maxRecDepth 16384 in
theorem ct_c_undo {sl : Int × Int} {x : ai_E} {d : Nat} {T : cm_T} {E : cm_E} {nx : Nat} (p n : Int)  (hI : cs_I T E nx) (hN : hn E) (hp0 : nx ≤ 1000) : cm_ct (ai_ev sl (d + 8)) x 40 [cr 0, ai_i p, ai_i n] T E nx 6 440 (fun rk rv T' E' nx' => (rk = 2 ∧ nx ≤ nx' ∧ nx' ≤ nx + 2 ∧ cs_I T' E' nx' ∧ cm_fr (fun i k => (i < 81 ∧ ¬ (i = 0 ∧ (k = 10 ∨ k = 11 ∨ k = 14)) ∧ ¬ (i = 23 ∧ (k = 8 ∨ k = 9))) ∨ 105 ≤ i) E E' ∧ hn E' ∧ (True)) ∨ (rk = 1 ∧ nx ≤ nx' ∧ nx' ≤ nx + 2 ∧ cs_I T' E' nx' ∧ cm_fr (fun i k => (i < 81 ∧ ¬ (i = 0 ∧ (k = 10 ∨ k = 11 ∨ k = 14)) ∧ ¬ (i = 23 ∧ (k = 8 ∨ k = 9))) ∨ 105 ≤ i) E E' ∧ hn E' ∧ ∃ z : Int, rv = ai_i z ∧ (True))) := by
  refine cm_body (M := ai_m40) rfl rfl (fun kc ks => ?_)
  show cm_wp (ai_find ai_c40 sl) (ai_ev sl (d + 7)) x (kc + 6) (ks + 440) _ 0 [cr 0, ai_i p, ai_i n, ai_un, ai_un, ai_un] [] T E nx kc ks
  have hF : cm_fr (fun i k => (i < 81 ∧ ¬ (i = 0 ∧ (k = 10 ∨ k = 11 ∨ k = 14)) ∧ ¬ (i = 23 ∧ (k = 8 ∨ k = 9))) ∨ 105 ≤ i) E E := fun _ _ _ => rfl
  obtain ⟨z1, hz1, hz1a, hz1b⟩ := hI.int 0 10 (lo := 1) (hi := 5) (by decide) (by decide) rfl
  have ghz1 := gv_eq hz1
  refine w_aload (i := 0) (npc := 1) (v := cr 0) rfl rfl rfl ?_
  refine w_iload (i := 1) (npc := 2) rfl rfl ?_
  refine w_virt (ci := 7) (i := 0) (npc := 5) (a := [cr 0, ai_i p]) (rest := []) rfl rfl (hI.pl (by decide)) (hI.T (by decide) rfl) rfl rfl rfl rfl (ct_c_pageAt (sl := sl) (x := x) (d := d + 6) (p) hI) (Or.inl rfl) (fun k9 v9 T3 E3 nx3 kc3 ks3 hq2 hk3 hv3 => ?_)
  rcases hq2 with hq2 | hq2
  · obtain ⟨rfl, rfl, rfl, rfl, hz4⟩ := hq2
    exact Or.inr (Or.inr (Or.inl ⟨rfl, rfl, Or.inl ⟨rfl, by omega, by omega, hI, hF, hN, trivial⟩, by omega, by omega⟩))
  obtain ⟨rfl, rfl, rfl, rfl, b8, rfl, hz4⟩ := hq2
  have hb9 : 41 ≤ b8 ∧ b8 ≤ 77 ∧ b8 % 4 = 1 := by omega
  refine Or.inr (Or.inl ⟨rfl, ?_⟩)
  refine w_astore (i := 3) (npc := 6) (loc' := [cr 0, ai_i p, ai_i n, cr b8, ai_un, ai_un]) rfl rfl rfl ?_
  refine w_aload (i := 0) (npc := 7) (v := cr 0) rfl rfl rfl ?_
  refine w_iload (i := 1) (npc := 8) rfl rfl ?_
  refine w_virt (ci := 7) (i := 0) (npc := 11) (a := [cr 0, ai_i p]) (rest := []) rfl rfl (hI.pl (by decide)) (hI.T (by decide) rfl) rfl rfl rfl rfl (ct_c_viewOf (sl := sl) (x := x) (d := d + 0) (p) hI (by omega)) (Or.inl rfl) (fun k9 v9 T11 E11 nx11 kc11 ks11 hq10 hk11 hv11 => ?_)
  obtain ⟨rfl, rfl, rfl, hI13, hG14, rfl, hz12⟩ := hq10
  obtain rfl : kc3 = kc11 := by omega
  obtain rfl : ks3 = ks11 := by omega
  have hF16 := cm_fr.trans hF hG14 (by intro i k h; (try simp only at h); (try simp only); omega)
  have hN17 := hN.fr hG14 (by intro i k h; (try simp only at h); omega)
  have hz18 : E11 0 10 = ai_i z1 := (hG14 0 10 (by first | omega | (simp; done) | (simp; omega) | (simp only; omega))).trans hz1
  have ghz18 := gv_eq hz18
  refine Or.inr (Or.inl ⟨rfl, ?_⟩)
  refine w_astore (i := 4) (npc := 13) (loc' := [cr 0, ai_i p, ai_i n, cr b8, cr 6, ai_un]) rfl rfl rfl ?_
  refine w_aload (i := 3) (npc := 14) (v := cr b8) rfl rfl rfl ?_
  refine w_iload (i := 1) (npc := 15) rfl rfl ?_
  refine w_iload (i := 2) (npc := 16) rfl rfl ?_
  refine w_virt (ci := 3) (i := b8) (npc := 19) (a := [cr b8, ai_i p, ai_i n]) (rest := []) rfl rfl (hI13.pl (by omega)) (hI13.pgT0 hb9) rfl rfl rfl rfl (ct_pg_stepOf (sl := sl) (x := x) (d := d + 5) (p) (n) (b := b8) hb9 hI13) (Or.inl rfl) (fun k9 v9 T20 E20 nx20 kc20 ks20 hq19 hk20 hv20 => ?_)
  obtain ⟨rfl, rfl, rfl, rfl, hq19⟩ := hq19
  obtain rfl : kc3 = kc20 := by omega
  obtain rfl : ks3 = ks20 := by omega
  rcases hq19 with rfl | ⟨q25, rfl, hs26, hz21⟩
  · refine Or.inr (Or.inl ⟨rfl, ?_⟩)
    refine w_astore (i := 5) (npc := 21) (loc' := [cr 0, ai_i p, ai_i n, cr b8, cr 6, ai_nul]) rfl rfl rfl ?_
    refine w_aload (i := 3) (npc := 22) (v := cr b8) rfl rfl rfl ?_
    refine w_virt (ci := 3) (i := b8) (npc := 25) (a := [cr b8]) (rest := []) rfl rfl (hI13.pl (by omega)) (hI13.pgT0 hb9) rfl rfl rfl rfl (ct_pg_canStep (sl := sl) (x := x) (d := d + 6)  (b := b8) hb9 hI13) (Or.inl rfl) (fun k9 v9 T28 E28 nx28 kc28 ks28 hq27 hk28 hv28 => ?_)
    obtain ⟨rfl, rfl, rfl, rfl, z29, rfl, hz29⟩ := hq27
    obtain rfl : kc3 = kc28 := by omega
    obtain rfl : ks3 = ks28 := by omega
    refine Or.inr (Or.inl ⟨rfl, ?_⟩)
    refine w_if (c := .eq) (npc := 28) (pt := 45) rfl (fun hc33 => ?_) (fun hc33 => ?_)
    · replace hc33 : z29 = (0 : Int) := hc33
      refine w_aload (i := 0) (npc := 46) (v := cr 0) rfl rfl rfl ?_
      refine w_const (n := 0) (npc := 47) rfl ?_
      refine w_virt (ci := 7) (i := 0) (npc := 50) (a := [cr 0, ai_i 0]) (rest := []) rfl rfl (hI13.pl (by decide)) (hI13.T (by decide) rfl) rfl rfl rfl rfl (ct_c_refuse (sl := sl) (x := x) (d := d + 6) (0) hI13 (by omega)) (Or.inl rfl) (fun k9 v9 T35 E35 nx35 kc35 ks35 hq34 hk35 hv35 => ?_)
      obtain ⟨rfl, rfl, rfl, hI37, hG38, z36, rfl, hz36⟩ := hq34
      obtain rfl : kc3 = kc35 := by omega
      obtain rfl : ks3 = ks35 := by omega
      have hF40 := cm_fr.trans hF16 hG38 (by intro i k h; (try simp only at h); (try simp only); omega)
      have hN41 := hN17.fr hG38 (by intro i k h; (try simp only at h); omega)
      have hz42 : E35 0 10 = ai_i z1 := (hG38 0 10 (by first | omega | (simp; done) | (simp; omega) | (simp only; omega))).trans hz18
      have ghz42 := gv_eq hz42
      refine Or.inr (Or.inl ⟨rfl, ?_⟩)
      exact w_iret rfl (Or.inr (⟨rfl, by omega, by omega, hI37, hF40, hN41, z36, rfl, trivial⟩)) (by omega) (by omega)
    · replace hc33 : ¬ (z29 = (0 : Int)) := hc33
      refine w_aload (i := 5) (npc := 30) (v := ai_nul) rfl rfl rfl ?_
      refine w_isnullN (pt := 45) (npc := 33) rfl ?_
      refine w_aload (i := 0) (npc := 46) (v := cr 0) rfl rfl rfl ?_
      refine w_const (n := 0) (npc := 47) rfl ?_
      refine w_virt (ci := 7) (i := 0) (npc := 50) (a := [cr 0, ai_i 0]) (rest := []) rfl rfl (hI13.pl (by decide)) (hI13.T (by decide) rfl) rfl rfl rfl rfl (ct_c_refuse (sl := sl) (x := x) (d := d + 6) (0) hI13 (by omega)) (Or.inl rfl) (fun k9 v9 T44 E44 nx44 kc44 ks44 hq43 hk44 hv44 => ?_)
      obtain ⟨rfl, rfl, rfl, hI46, hG47, z45, rfl, hz45⟩ := hq43
      obtain rfl : kc3 = kc44 := by omega
      obtain rfl : ks3 = ks44 := by omega
      have hF49 := cm_fr.trans hF16 hG47 (by intro i k h; (try simp only at h); (try simp only); omega)
      have hN50 := hN17.fr hG47 (by intro i k h; (try simp only at h); omega)
      have hz51 : E44 0 10 = ai_i z1 := (hG47 0 10 (by first | omega | (simp; done) | (simp; omega) | (simp only; omega))).trans hz18
      have ghz51 := gv_eq hz51
      refine Or.inr (Or.inl ⟨rfl, ?_⟩)
      exact w_iret rfl (Or.inr (⟨rfl, by omega, by omega, hI46, hF49, hN50, z45, rfl, trivial⟩)) (by omega) (by omega)
  refine Or.inr (Or.inl ⟨rfl, ?_⟩)
  refine w_astore (i := 5) (npc := 21) (loc' := [cr 0, ai_i p, ai_i n, cr b8, cr 6, cr q25]) rfl rfl rfl ?_
  refine w_aload (i := 3) (npc := 22) (v := cr b8) rfl rfl rfl ?_
  refine w_virt (ci := 3) (i := b8) (npc := 25) (a := [cr b8]) (rest := []) rfl rfl (hI13.pl (by omega)) (hI13.pgT0 hb9) rfl rfl rfl rfl (ct_pg_canStep (sl := sl) (x := x) (d := d + 6)  (b := b8) hb9 hI13) (Or.inl rfl) (fun k9 v9 T53 E53 nx53 kc53 ks53 hq52 hk53 hv53 => ?_)
  obtain ⟨rfl, rfl, rfl, rfl, z54, rfl, hz54⟩ := hq52
  obtain rfl : kc3 = kc53 := by omega
  obtain rfl : ks3 = ks53 := by omega
  refine Or.inr (Or.inl ⟨rfl, ?_⟩)
  refine w_if (c := .eq) (npc := 28) (pt := 45) rfl (fun hc58 => ?_) (fun hc58 => ?_)
  · replace hc58 : z54 = (0 : Int) := hc58
    refine w_aload (i := 0) (npc := 46) (v := cr 0) rfl rfl rfl ?_
    refine w_const (n := 0) (npc := 47) rfl ?_
    refine w_virt (ci := 7) (i := 0) (npc := 50) (a := [cr 0, ai_i 0]) (rest := []) rfl rfl (hI13.pl (by decide)) (hI13.T (by decide) rfl) rfl rfl rfl rfl (ct_c_refuse (sl := sl) (x := x) (d := d + 6) (0) hI13 (by omega)) (Or.inl rfl) (fun k9 v9 T60 E60 nx60 kc60 ks60 hq59 hk60 hv60 => ?_)
    obtain ⟨rfl, rfl, rfl, hI62, hG63, z61, rfl, hz61⟩ := hq59
    obtain rfl : kc3 = kc60 := by omega
    obtain rfl : ks3 = ks60 := by omega
    have hF65 := cm_fr.trans hF16 hG63 (by intro i k h; (try simp only at h); (try simp only); omega)
    have hN66 := hN17.fr hG63 (by intro i k h; (try simp only at h); omega)
    have hs67 := hs26.fr hG63 (by intro i k h; (try simp only at h); omega)
    have hz68 : E60 0 10 = ai_i z1 := (hG63 0 10 (by first | omega | (simp; done) | (simp; omega) | (simp only; omega))).trans hz18
    have ghz68 := gv_eq hz68
    refine Or.inr (Or.inl ⟨rfl, ?_⟩)
    exact w_iret rfl (Or.inr (⟨rfl, by omega, by omega, hI62, hF65, hN66, z61, rfl, trivial⟩)) (by omega) (by omega)
  · replace hc58 : ¬ (z54 = (0 : Int)) := hc58
    refine w_aload (i := 5) (npc := 30) (v := cr q25) rfl rfl rfl ?_
    refine w_isnullR (pt := 45) (npc := 33) rfl ?_
    refine w_aload (i := 0) (npc := 34) (v := cr 0) rfl rfl rfl ?_
    refine w_aload (i := 4) (npc := 36) (v := cr 6) rfl rfl rfl ?_
    refine w_aload (i := 3) (npc := 37) (v := cr b8) rfl rfl rfl ?_
    refine w_aload (i := 5) (npc := 39) (v := cr q25) rfl rfl rfl ?_
    refine w_virt (ci := 7) (i := 0) (npc := 42) (a := [cr 0, cr 6, cr b8, cr q25]) (rest := []) rfl rfl (hI13.pl (by decide)) (hI13.T (by decide) rfl) rfl rfl rfl rfl (ct_c_canUndo (sl := sl) (x := x) (d := d + 1)  (b := b8) hb9 hs26 hI13) (Or.inl rfl) (fun k9 v9 T70 E70 nx70 kc70 ks70 hq69 hk70 hv70 => ?_)
    obtain ⟨rfl, rfl, rfl, hI72, hG73, z71, rfl, hz71⟩ := hq69
    obtain rfl : kc3 = kc70 := by omega
    obtain rfl : ks3 = ks70 := by omega
    have hF75 := cm_fr.trans hF16 hG73 (by intro i k h; (try simp only at h); (try simp only); omega)
    have hN76 := hN17.fr hG73 (by intro i k h; (try simp only at h); omega)
    have hs77 := hs26.fr hG73 (by intro i k h; (try simp only at h); omega)
    have hz78 : E70 0 10 = ai_i z1 := (hG73 0 10 (by first | omega | (simp; done) | (simp; omega) | (simp only; omega))).trans hz18
    have ghz78 := gv_eq hz78
    refine Or.inr (Or.inl ⟨rfl, ?_⟩)
    refine w_if (c := .ne) (npc := 45) (pt := 51) rfl (fun hc79 => ?_) (fun hc79 => ?_)
    · replace hc79 : z71 ≠ (0 : Int) := hc79
      refine w_aload (i := 0) (npc := 52) (v := cr 0) rfl rfl rfl ?_
      refine w_getf (i := 0) (ci := 7) (k := 7) (npc := 55) rfl (hI72.pl (by decide)) (hI72.T (by decide) rfl) (by decide) (hI72.ref 0 7 (p := 17) (by decide) (by decide) rfl) ?_
      refine w_const (n := 2) (npc := 56) rfl ?_
      refine w_aload (i := 3) (npc := 57) (v := cr b8) rfl rfl rfl ?_
      refine w_virt (ci := 2) (i := 17) (npc := 60) (a := [cr 17, ai_i 2, cr b8]) (rest := []) rfl rfl (hI72.pl (by decide)) (hI72.T (by decide) rfl) rfl rfl rfl rfl (ct_pk_begin (sl := sl) (x := x) (d := d + 4) (2) (b := b8) hb9 hI72 (by omega) (by have c59 := hz54.2.2 (by omega); have i09 := gv_fr hG73 (i := b8) (k := 0) (by omega); have j09 := gv_fr hG73 (i := b8 + 2) (k := (gv E11 b8 0).toNat) (by omega); rw [show gv E70 b8 0 = gv E11 b8 0 by omega]; omega)) (Or.inl rfl) (fun k9 v9 T81 E81 nx81 kc81 ks81 hq80 hk81 hv81 => ?_)
      obtain ⟨rfl, rfl, rfl, hI83, hG84, hz82⟩ := hq80
      obtain rfl : kc3 = kc81 := by omega
      obtain rfl : ks3 = ks81 := by omega
      have hF86 := cm_fr.trans hF75 hG84 (by intro i k h; (try simp only at h); (try simp only); omega)
      have hN87 := hN76.fr hG84 (by intro i k h; (try simp only at h); omega)
      have hs88 := hs77.fr hG84 (by intro i k h; (try simp only at h); omega)
      have hz89 : E81 0 10 = ai_i z1 := (hG84 0 10 (by first | omega | (simp; done) | (simp; omega) | (simp only; omega))).trans hz78
      have ghz89 := gv_eq hz89
      refine Or.inl ⟨rfl, ?_⟩
      refine w_aload (i := 0) (npc := 61) (v := cr 0) rfl rfl rfl ?_
      refine w_getf (i := 0) (ci := 7) (k := 7) (npc := 64) rfl (hI83.pl (by decide)) (hI83.T (by decide) rfl) (by decide) (hI83.ref 0 7 (p := 17) (by decide) (by decide) rfl) ?_
      refine w_iload (i := 2) (npc := 65) rfl rfl ?_
      refine w_virt (ci := 2) (i := 17) (npc := 68) (a := [cr 17, ai_i n]) (rest := []) rfl rfl (hI83.pl (by decide)) (hI83.T (by decide) rfl) rfl rfl rfl rfl (ct_pk_put (sl := sl) (x := x) (d := d + 6) (n) hI83) (Or.inl rfl) (fun k9 v9 T91 E91 nx91 kc91 ks91 hq90 hk91 hv91 => ?_)
      obtain ⟨rfl, rfl, rfl, hI93, hG94, hz92⟩ := hq90
      obtain rfl : kc3 = kc91 := by omega
      obtain rfl : ks3 = ks91 := by omega
      have hF96 := cm_fr.trans hF86 hG94 (by intro i k h; (try simp only at h); (try simp only); omega)
      have hN97 := hN87.fr hG94 (by intro i k h; (try simp only at h); omega)
      have hs98 := hs88.fr hG94 (by intro i k h; (try simp only at h); omega)
      have hz99 : E91 0 10 = ai_i z1 := (hG94 0 10 (by first | omega | (simp; done) | (simp; omega) | (simp only; omega))).trans hz89
      have ghz99 := gv_eq hz99
      refine Or.inl ⟨rfl, ?_⟩
      refine w_aload (i := 0) (npc := 69) (v := cr 0) rfl rfl rfl ?_
      refine w_aload (i := 3) (npc := 70) (v := cr b8) rfl rfl rfl ?_
      refine w_virt (ci := 7) (i := 0) (npc := 73) (a := [cr 0, cr b8]) (rest := []) rfl rfl (hI93.pl (by decide)) (hI93.T (by decide) rfl) rfl rfl rfl rfl (ct_c_perform (sl := sl) (x := x) (d := d + 1)  (b := b8) hb9 hI93 hN97 (by omega) (by omega) (by have e01 := gv_fr hG94 (i := 18) (k := 1) (by omega); have e02 := gv_fr hG94 (i := 18) (k := 2) (by omega); omega)) (Or.inl rfl) (fun k9 v9 T101 E101 nx101 kc101 ks101 hq100 hk101 hv101 => ?_)
      obtain ⟨rfl, hnxz102, hnyz102, hI103, hG104, hN105, z102, rfl, hz102⟩ := hq100
      have hF106 := cm_fr.trans hF96 hG104 (by intro i k h; (try simp only at h); (try simp only); omega)
      refine Or.inr (Or.inl ⟨rfl, ?_⟩)
      exact w_iret rfl (Or.inr (⟨rfl, by omega, by omega, hI103, hF106, hN105, z102, rfl, trivial⟩)) (by omega) (by omega)
    · replace hc79 : ¬ (z71 ≠ (0 : Int)) := hc79
      refine w_aload (i := 0) (npc := 46) (v := cr 0) rfl rfl rfl ?_
      refine w_const (n := 0) (npc := 47) rfl ?_
      refine w_virt (ci := 7) (i := 0) (npc := 50) (a := [cr 0, ai_i 0]) (rest := []) rfl rfl (hI72.pl (by decide)) (hI72.T (by decide) rfl) rfl rfl rfl rfl (ct_c_refuse (sl := sl) (x := x) (d := d + 6) (0) hI72 (by omega)) (Or.inl rfl) (fun k9 v9 T108 E108 nx108 kc108 ks108 hq107 hk108 hv108 => ?_)
      obtain ⟨rfl, rfl, rfl, hI110, hG111, z109, rfl, hz109⟩ := hq107
      obtain rfl : kc3 = kc108 := by omega
      obtain rfl : ks3 = ks108 := by omega
      have hF113 := cm_fr.trans hF75 hG111 (by intro i k h; (try simp only at h); (try simp only); omega)
      have hN114 := hN76.fr hG111 (by intro i k h; (try simp only at h); omega)
      have hs115 := hs77.fr hG111 (by intro i k h; (try simp only at h); omega)
      have hz116 : E108 0 10 = ai_i z1 := (hG111 0 10 (by first | omega | (simp; done) | (simp; omega) | (simp only; omega))).trans hz78
      have ghz116 := gv_eq hz116
      refine Or.inr (Or.inl ⟨rfl, ?_⟩)
      exact w_iret rfl (Or.inr (⟨rfl, by omega, by omega, hI110, hF113, hN114, z109, rfl, trivial⟩)) (by omega) (by omega)
set_option maxRecDepth 16384 in
theorem ct_c_move {sl : Int × Int} {x : ai_E} {d : Nat} {T : cm_T} {E : cm_E} {nx : Nat} (p f t a : Int)  (hI : cs_I T E nx) (hN : hn E) (hp0 : nx ≤ 1000) : cm_ct (ai_ev sl (d + 8)) x 22 [cr 0, ai_i p, ai_i f, ai_i t, ai_i a] T E nx 6 440 (fun rk rv T' E' nx' => (rk = 2 ∧ nx ≤ nx' ∧ nx' ≤ nx + 2 ∧ cs_I T' E' nx' ∧ cm_fr (fun i k => (i < 81 ∧ ¬ (i = 0 ∧ (k = 10 ∨ k = 11 ∨ k = 14)) ∧ ¬ (i = 23 ∧ (k = 8 ∨ k = 9))) ∨ 105 ≤ i) E E' ∧ hn E' ∧ (True)) ∨ (rk = 1 ∧ nx ≤ nx' ∧ nx' ≤ nx + 2 ∧ cs_I T' E' nx' ∧ cm_fr (fun i k => (i < 81 ∧ ¬ (i = 0 ∧ (k = 10 ∨ k = 11 ∨ k = 14)) ∧ ¬ (i = 23 ∧ (k = 8 ∨ k = 9))) ∨ 105 ≤ i) E E' ∧ hn E' ∧ ∃ z : Int, rv = ai_i z ∧ (True))) := by
  refine cm_body (M := ai_m22) rfl rfl (fun kc ks => ?_)
  show cm_wp (ai_find ai_c22 sl) (ai_ev sl (d + 7)) x (kc + 6) (ks + 440) _ 0 [cr 0, ai_i p, ai_i f, ai_i t, ai_i a, ai_un, ai_un, ai_un] [] T E nx kc ks
  have hF : cm_fr (fun i k => (i < 81 ∧ ¬ (i = 0 ∧ (k = 10 ∨ k = 11 ∨ k = 14)) ∧ ¬ (i = 23 ∧ (k = 8 ∨ k = 9))) ∨ 105 ≤ i) E E := fun _ _ _ => rfl
  obtain ⟨z1, hz1, hz1a, hz1b⟩ := hI.int 0 10 (lo := 1) (hi := 5) (by decide) (by decide) rfl
  have ghz1 := gv_eq hz1
  refine w_aload (i := 0) (npc := 1) (v := cr 0) rfl rfl rfl ?_
  refine w_iload (i := 1) (npc := 2) rfl rfl ?_
  obtain ⟨z2, hz2, hz2a, hz2b⟩ := hI.int 6 8 (lo := 0) (hi := 300) (by decide) (by decide) rfl
  have ghz2 := gv_eq hz2
  refine w_virt (ci := 7) (i := 0) (npc := 5) (a := [cr 0, ai_i p]) (rest := []) rfl rfl (hI.pl (by decide)) (hI.T (by decide) rfl) rfl rfl rfl rfl (ct_c_pageAt (sl := sl) (x := x) (d := d + 6) (p) hI) (Or.inl rfl) (fun k9 v9 T4 E4 nx4 kc4 ks4 hq3 hk4 hv4 => ?_)
  rcases hq3 with hq3 | hq3
  · obtain ⟨rfl, rfl, rfl, rfl, hz5⟩ := hq3
    exact Or.inr (Or.inr (Or.inl ⟨rfl, rfl, Or.inl ⟨rfl, by omega, by omega, hI, hF, hN, trivial⟩, by omega, by omega⟩))
  obtain ⟨rfl, rfl, rfl, rfl, b9, rfl, hz5⟩ := hq3
  have hb10 : 41 ≤ b9 ∧ b9 ≤ 77 ∧ b9 % 4 = 1 := by omega
  refine Or.inr (Or.inl ⟨rfl, ?_⟩)
  refine w_astore (i := 5) (npc := 7) (loc' := [cr 0, ai_i p, ai_i f, ai_i t, ai_i a, cr b9, ai_un, ai_un]) rfl rfl rfl ?_
  refine w_aload (i := 0) (npc := 8) (v := cr 0) rfl rfl rfl ?_
  refine w_iload (i := 1) (npc := 9) rfl rfl ?_
  refine w_virt (ci := 7) (i := 0) (npc := 12) (a := [cr 0, ai_i p]) (rest := []) rfl rfl (hI.pl (by decide)) (hI.T (by decide) rfl) rfl rfl rfl rfl (ct_c_viewOf (sl := sl) (x := x) (d := d + 0) (p) hI (by omega)) (Or.inl rfl) (fun k9 v9 T12 E12 nx12 kc12 ks12 hq11 hk12 hv12 => ?_)
  obtain ⟨rfl, rfl, rfl, hI14, hG15, rfl, hz13⟩ := hq11
  obtain rfl : kc4 = kc12 := by omega
  obtain rfl : ks4 = ks12 := by omega
  have hF17 := cm_fr.trans hF hG15 (by intro i k h; (try simp only at h); (try simp only); omega)
  have hN18 := hN.fr hG15 (by intro i k h; (try simp only at h); omega)
  have hz19 : E12 0 10 = ai_i z1 := (hG15 0 10 (by first | omega | (simp; done) | (simp; omega) | (simp only; omega))).trans hz1
  have ghz19 := gv_eq hz19
  refine Or.inr (Or.inl ⟨rfl, ?_⟩)
  refine w_astore (i := 6) (npc := 14) (loc' := [cr 0, ai_i p, ai_i f, ai_i t, ai_i a, cr b9, cr 6, ai_un]) rfl rfl rfl ?_
  refine w_aload (i := 5) (npc := 16) (v := cr b9) rfl rfl rfl ?_
  obtain ⟨z20, hz20, hz20a, hz20b⟩ := hI14.int 6 8 (lo := 0) (hi := 300) (by decide) (by decide) rfl
  have ghz20 := gv_eq hz20
  refine w_virt (ci := 3) (i := b9) (npc := 19) (a := [cr b9]) (rest := []) rfl rfl (hI14.pl (by omega)) (hI14.pgT0 hb10) rfl rfl rfl rfl (ct_pg_canStep (sl := sl) (x := x) (d := d + 6)  (b := b9) hb10 hI14) (Or.inl rfl) (fun k9 v9 T22 E22 nx22 kc22 ks22 hq21 hk22 hv22 => ?_)
  obtain ⟨rfl, rfl, rfl, rfl, z23, rfl, hz23⟩ := hq21
  obtain rfl : kc4 = kc22 := by omega
  obtain rfl : ks4 = ks22 := by omega
  refine Or.inr (Or.inl ⟨rfl, ?_⟩)
  refine w_if (c := .eq) (npc := 22) (pt := 37) rfl (fun hc27 => ?_) (fun hc27 => ?_)
  · replace hc27 : z23 = (0 : Int) := hc27
    refine w_aload (i := 0) (npc := 38) (v := cr 0) rfl rfl rfl ?_
    refine w_const (n := 0) (npc := 39) rfl ?_
    refine w_virt (ci := 7) (i := 0) (npc := 42) (a := [cr 0, ai_i 0]) (rest := []) rfl rfl (hI14.pl (by decide)) (hI14.T (by decide) rfl) rfl rfl rfl rfl (ct_c_refuse (sl := sl) (x := x) (d := d + 6) (0) hI14 (by omega)) (Or.inl rfl) (fun k9 v9 T29 E29 nx29 kc29 ks29 hq28 hk29 hv29 => ?_)
    obtain ⟨rfl, rfl, rfl, hI31, hG32, z30, rfl, hz30⟩ := hq28
    obtain rfl : kc4 = kc29 := by omega
    obtain rfl : ks4 = ks29 := by omega
    have hF34 := cm_fr.trans hF17 hG32 (by intro i k h; (try simp only at h); (try simp only); omega)
    have hN35 := hN18.fr hG32 (by intro i k h; (try simp only at h); omega)
    have hz36 : E29 0 10 = ai_i z1 := (hG32 0 10 (by first | omega | (simp; done) | (simp; omega) | (simp only; omega))).trans hz19
    have ghz36 := gv_eq hz36
    have hz37 : E29 6 8 = ai_i z20 := (hG32 6 8 (by first | omega | (simp; done) | (simp; omega) | (simp only; omega))).trans hz20
    have ghz37 := gv_eq hz37
    refine Or.inr (Or.inl ⟨rfl, ?_⟩)
    exact w_iret rfl (Or.inr (⟨rfl, by omega, by omega, hI31, hF34, hN35, z30, rfl, trivial⟩)) (by omega) (by omega)
  · replace hc27 : ¬ (z23 = (0 : Int)) := hc27
    refine w_aload (i := 6) (npc := 24) (v := cr 6) rfl rfl rfl ?_
    refine w_getf (i := 6) (ci := 6) (k := 8) (npc := 27) rfl (hI14.pl (by decide)) (hI14.T (by decide) rfl) (by decide) hz20 ?_
    refine w_iload (i := 2) (npc := 28) rfl rfl ?_
    refine w_iload (i := 3) (npc := 29) rfl rfl ?_
    refine w_iload (i := 4) (npc := 31) rfl rfl ?_
    refine w_call (npc := 34) (a := [ai_i z20, ai_i f, ai_i t, ai_i a]) (rest := []) rfl rfl rfl rfl rfl (ct_c_canMove (sl := sl) (x := x) (d := d + 6) (z20) (f) (t) (a) (by omega)) (Or.inr (fun _ _ _ _ _ hq => by have h1 := hq.1; omega)) (fun k9 v9 T39 E39 nx39 kc39 ks39 hq38 hk39 hv39 => ?_)
    obtain ⟨rfl, rfl, rfl, rfl, z40, rfl, hz40⟩ := hq38
    obtain rfl : kc4 = kc39 := by omega
    obtain rfl : ks4 = ks39 := by omega
    refine Or.inr (Or.inl ⟨rfl, ?_⟩)
    refine w_if (c := .ne) (npc := 37) (pt := 43) rfl (fun hc44 => ?_) (fun hc44 => ?_)
    · replace hc44 : z40 ≠ (0 : Int) := hc44
      refine w_aload (i := 0) (npc := 44) (v := cr 0) rfl rfl rfl ?_
      refine w_getf (i := 0) (ci := 7) (k := 7) (npc := 47) rfl (hI14.pl (by decide)) (hI14.T (by decide) rfl) (by decide) (hI14.ref 0 7 (p := 17) (by decide) (by decide) rfl) ?_
      refine w_const (n := 3) (npc := 48) rfl ?_
      refine w_aload (i := 5) (npc := 50) (v := cr b9) rfl rfl rfl ?_
      refine w_virt (ci := 2) (i := 17) (npc := 53) (a := [cr 17, ai_i 3, cr b9]) (rest := []) rfl rfl (hI14.pl (by decide)) (hI14.T (by decide) rfl) rfl rfl rfl rfl (ct_pk_begin (sl := sl) (x := x) (d := d + 4) (3) (b := b9) hb10 hI14 (by omega) (by have c59 := hz23.2.2 (by omega); rw [show gv E12 b9 0 = gv E12 b9 0 by omega]; omega)) (Or.inl rfl) (fun k9 v9 T46 E46 nx46 kc46 ks46 hq45 hk46 hv46 => ?_)
      obtain ⟨rfl, rfl, rfl, hI48, hG49, hz47⟩ := hq45
      obtain rfl : kc4 = kc46 := by omega
      obtain rfl : ks4 = ks46 := by omega
      have hF51 := cm_fr.trans hF17 hG49 (by intro i k h; (try simp only at h); (try simp only); omega)
      have hN52 := hN18.fr hG49 (by intro i k h; (try simp only at h); omega)
      have hz53 : E46 0 10 = ai_i z1 := (hG49 0 10 (by first | omega | (simp; done) | (simp; omega) | (simp only; omega))).trans hz19
      have ghz53 := gv_eq hz53
      have hz54 : E46 6 8 = ai_i z20 := (hG49 6 8 (by first | omega | (simp; done) | (simp; omega) | (simp only; omega))).trans hz20
      have ghz54 := gv_eq hz54
      refine Or.inl ⟨rfl, ?_⟩
      refine w_aload (i := 0) (npc := 54) (v := cr 0) rfl rfl rfl ?_
      refine w_getf (i := 0) (ci := 7) (k := 7) (npc := 57) rfl (hI48.pl (by decide)) (hI48.T (by decide) rfl) (by decide) (hI48.ref 0 7 (p := 17) (by decide) (by decide) rfl) ?_
      refine w_iload (i := 3) (npc := 58) rfl rfl ?_
      refine w_iload (i := 2) (npc := 59) rfl rfl ?_
      refine w_isub (npc := 60) rfl (by omega) ?_
      refine w_const (n := 1) (npc := 61) rfl ?_
      refine w_iadd (npc := 62) rfl (by omega) ?_
      refine w_virt (ci := 2) (i := 17) (npc := 65) (a := [cr 17, ai_i (t - f + 1)]) (rest := []) rfl rfl (hI48.pl (by decide)) (hI48.T (by decide) rfl) rfl rfl rfl rfl (ct_pk_put (sl := sl) (x := x) (d := d + 6) (t - f + 1) hI48) (Or.inl rfl) (fun k9 v9 T58 E58 nx58 kc58 ks58 hq57 hk58 hv58 => ?_)
      obtain ⟨rfl, rfl, rfl, hI60, hG61, hz59⟩ := hq57
      obtain rfl : kc4 = kc58 := by omega
      obtain rfl : ks4 = ks58 := by omega
      have hF63 := cm_fr.trans hF51 hG61 (by intro i k h; (try simp only at h); (try simp only); omega)
      have hN64 := hN52.fr hG61 (by intro i k h; (try simp only at h); omega)
      have hz65 : E58 0 10 = ai_i z1 := (hG61 0 10 (by first | omega | (simp; done) | (simp; omega) | (simp only; omega))).trans hz53
      have ghz65 := gv_eq hz65
      have hz66 : E58 6 8 = ai_i z20 := (hG61 6 8 (by first | omega | (simp; done) | (simp; omega) | (simp only; omega))).trans hz54
      have ghz66 := gv_eq hz66
      refine Or.inl ⟨rfl, ?_⟩
      refine w_aload (i := 0) (npc := 66) (v := cr 0) rfl rfl rfl ?_
      refine w_getf (i := 0) (ci := 7) (k := 6) (npc := 69) rfl (hI60.pl (by decide)) (hI60.T (by decide) rfl) (by decide) (hI60.ref 0 6 (p := 14) (by decide) (by decide) rfl) ?_
      refine w_aload (i := 6) (npc := 71) (v := cr 6) rfl rfl rfl ?_
      refine w_iload (i := 4) (npc := 73) rfl rfl ?_
      refine w_virt (ci := 1) (i := 14) (npc := 76) (a := [cr 14, cr 6, ai_i a]) (rest := []) rfl rfl (hI60.pl (by decide)) (hI60.T (by decide) rfl) rfl rfl rfl rfl (ct_nk_aim (sl := sl) (x := x) (d := d + 3) (a) hI60 (by omega)) (Or.inl rfl) (fun k9 v9 T68 E68 nx68 kc68 ks68 hq67 hk68 hv68 => ?_)
      obtain ⟨rfl, rfl, rfl, hI70, hG71, hz69⟩ := hq67
      obtain rfl : kc4 = kc68 := by omega
      obtain rfl : ks4 = ks68 := by omega
      have hF73 := cm_fr.trans hF63 hG71 (by intro i k h; (try simp only at h); (try simp only); omega)
      have hN74 := hN64.fr hG71 (by intro i k h; (try simp only at h); omega)
      have hz75 : E68 0 10 = ai_i z1 := (hG71 0 10 (by first | omega | (simp; done) | (simp; omega) | (simp only; omega))).trans hz65
      have ghz75 := gv_eq hz75
      have hz76 : E68 6 8 = ai_i z20 := (hG71 6 8 (by first | omega | (simp; done) | (simp; omega) | (simp only; omega))).trans hz66
      have ghz76 := gv_eq hz76
      refine Or.inl ⟨rfl, ?_⟩
      refine w_iload (i := 2) (npc := 77) rfl rfl ?_
      refine w_istore (i := 7) (npc := 79) (loc' := [cr 0, ai_i p, ai_i f, ai_i t, ai_i a, cr b9, cr 6, ai_i f]) rfl rfl ?_
      have loop79 : ∀ (nf : Nat) (i : Int) (Eq79 : cm_E), ((t + 1 - i).toNat) < nf → cs_I T Eq79 nx → cm_fr (fun i k => (i < 81 ∧ ¬ (i = 0 ∧ (k = 10 ∨ k = 11 ∨ k = 14)) ∧ ¬ (i = 23 ∧ (k = 8 ∨ k = 9))) ∨ 105 ≤ i) E Eq79 → hn Eq79 → (f ≤ i ∧ i ≤ t + 1 ∧ 3 ≤ gv Eq79 17 1 ∧ gv Eq79 17 1 ≤ 11 + 51 * (i - f) ∧ gv Eq79 18 1 ≤ 4 ∧ 1 ≤ gv Eq79 18 2 ∧ gv Eq79 18 2 ≤ 60) → cm_wp (ai_find ai_c22 sl) (ai_ev sl (d + 7)) x (kc + 6) (ks + 440) (fun rk rv T' E' nx' => (rk = 2 ∧ nx ≤ nx' ∧ nx' ≤ nx + 2 ∧ cs_I T' E' nx' ∧ cm_fr (fun i k => (i < 81 ∧ ¬ (i = 0 ∧ (k = 10 ∨ k = 11 ∨ k = 14)) ∧ ¬ (i = 23 ∧ (k = 8 ∨ k = 9))) ∨ 105 ≤ i) E E' ∧ hn E' ∧ (True)) ∨ (rk = 1 ∧ nx ≤ nx' ∧ nx' ≤ nx + 2 ∧ cs_I T' E' nx' ∧ cm_fr (fun i k => (i < 81 ∧ ¬ (i = 0 ∧ (k = 10 ∨ k = 11 ∨ k = 14)) ∧ ¬ (i = 23 ∧ (k = 8 ∨ k = 9))) ∨ 105 ≤ i) E E' ∧ hn E' ∧ ∃ z : Int, rv = ai_i z ∧ (True))) 79 [cr 0, ai_i p, ai_i f, ai_i t, ai_i a, cr b9, cr 6, ai_i i] [] T Eq79 nx kc4 ks4 := by
        intro nf
        induction nf with
        | zero => intro i Eq79 hm; exact absurd hm (Nat.not_lt_zero _)
        | succ nf79 ih =>
          intro i Eq79 hm79 hI79 hF79 hN79 hv79
          have ih79 := ih; clear ih
          refine w_iload (i := 7) (npc := 81) rfl rfl ?_
          refine w_iload (i := 3) (npc := 82) rfl rfl ?_
          refine w_icmp (c := .gt) (npc := 85) (pt := 133) rfl (fun hc77 => ?_) (fun hc77 => ?_)
          · replace hc77 : t < i := hc77
            refine w_aload (i := 0) (npc := 134) (v := cr 0) rfl rfl rfl ?_
            refine w_aload (i := 5) (npc := 136) (v := cr b9) rfl rfl rfl ?_
            obtain ⟨z78, hz78, hz78a, hz78b⟩ := hI79.int 6 8 (lo := 0) (hi := 300) (by decide) (by decide) rfl
            have ghz78 := gv_eq hz78
            refine w_virt (ci := 7) (i := 0) (npc := 139) (a := [cr 0, cr b9]) (rest := []) rfl rfl (hI79.pl (by decide)) (hI79.T (by decide) rfl) rfl rfl rfl rfl (ct_c_perform (sl := sl) (x := x) (d := d + 1)  (b := b9) hb10 hI79 hN79 (by omega) (by omega) (by omega)) (Or.inl rfl) (fun k9 v9 T80 E80 nx80 kc80 ks80 hq79 hk80 hv80 => ?_)
            obtain ⟨rfl, hnxz81, hnyz81, hI82, hG83, hN84, z81, rfl, hz81⟩ := hq79
            have hF85 := cm_fr.trans hF79 hG83 (by intro i k h; (try simp only at h); (try simp only); omega)
            refine Or.inr (Or.inl ⟨rfl, ?_⟩)
            exact w_iret rfl (Or.inr (⟨rfl, by omega, by omega, hI82, hF85, hN84, z81, rfl, trivial⟩)) (by omega) (by omega)
          · replace hc77 : ¬ (t < i) := hc77
            refine w_aload (i := 0) (npc := 86) (v := cr 0) rfl rfl rfl ?_
            refine w_getf (i := 0) (ci := 7) (k := 6) (npc := 89) rfl (hI79.pl (by decide)) (hI79.T (by decide) rfl) (by decide) (hI79.ref 0 6 (p := 14) (by decide) (by decide) rfl) ?_
            refine w_iload (i := 1) (npc := 90) rfl rfl ?_
            obtain ⟨z86, hz86, hz86a, hz86b⟩ := hI79.int 6 8 (lo := 0) (hi := 300) (by decide) (by decide) rfl
            have ghz86 := gv_eq hz86
            refine w_virt (ci := 1) (i := 14) (npc := 93) (a := [cr 14, ai_i p]) (rest := []) rfl rfl (hI79.pl (by decide)) (hI79.T (by decide) rfl) rfl rfl rfl rfl (ct_nk_grow (sl := sl) (x := x) (d := d + 6) (p) hI79 (by omega)) (Or.inl rfl) (fun k9 v9 T88 E88 nx88 kc88 ks88 hq87 hk88 hv88 => ?_)
            obtain ⟨rfl, rfl, rfl, hI90, hG91, z89, rfl, hz89⟩ := hq87
            obtain rfl : kc4 = kc88 := by omega
            obtain rfl : ks4 = ks88 := by omega
            have hF93 := cm_fr.trans hF79 hG91 (by intro i k h; (try simp only at h); (try simp only); omega)
            have hN94 := hN79.fr hG91 (by intro i k h; (try simp only at h); omega)
            have hz95 : E88 6 8 = ai_i z86 := (hG91 6 8 (by first | omega | (simp; done) | (simp; omega) | (simp only; omega))).trans hz86
            have ghz95 := gv_eq hz95
            refine Or.inr (Or.inl ⟨rfl, ?_⟩)
            refine w_if (c := .ne) (npc := 96) (pt := 102) rfl (fun hc96 => ?_) (fun hc96 => ?_)
            · replace hc96 : z89 ≠ (0 : Int) := hc96
              have hg17 := gv_fr hG91 (i := 17) (k := 1) (by omega)
              refine w_aload (i := 0) (npc := 103) rfl rfl rfl ?_
              refine w_getf (i := 0) (ci := 7) (k := 7) (npc := 106) rfl (hI90.pl (by decide)) (hI90.T (by decide) rfl) (by decide) (hI90.ref 0 7 (p := 17) (by decide) (by decide) rfl) ?_
              refine w_aload (i := 6) (npc := 108) (v := cr 6) rfl rfl rfl ?_
              refine w_iload (i := 7) (npc := 110) rfl rfl ?_
              refine w_virt (ci := 6) (i := 6) (npc := 113) (a := [cr 6, ai_i i]) (rest := [cr 17]) rfl rfl (hI90.pl (by decide)) (hI90.T (by decide) rfl) rfl rfl rfl rfl (ct_vw_slotAt (sl := sl) (x := x) (d := d + 6) (i) hI90) (Or.inl rfl) (fun k9 v9 T98 E98 nx98 kc98 ks98 hq97 hk98 hv98 => ?_)
              obtain ⟨rfl, rfl, rfl, rfl, z99, rfl, hz99⟩ := hq97
              obtain rfl : kc4 = kc98 := by omega
              obtain rfl : ks4 = ks98 := by omega
              refine Or.inr (Or.inl ⟨rfl, ?_⟩)
              refine w_virt (ci := 2) (i := 17) (npc := 116) (a := [cr 17, ai_i z99]) (rest := []) rfl rfl (hI90.pl (by decide)) (hI90.T (by decide) rfl) rfl rfl rfl rfl (ct_pk_putMark (sl := sl) (x := x) (d := d + 5) (z99) hI90 (by omega) (by omega)) (Or.inl rfl) (fun k9 v9 T104 E104 nx104 kc104 ks104 hq103 hk104 hv104 => ?_)
              obtain ⟨rfl, rfl, rfl, hI106, hG107, hz105⟩ := hq103
              obtain rfl : kc4 = kc104 := by omega
              obtain rfl : ks4 = ks104 := by omega
              have hF109 := cm_fr.trans hF93 hG107 (by intro i k h; (try simp only at h); (try simp only); omega)
              have hN110 := hN94.fr hG107 (by intro i k h; (try simp only at h); omega)
              have hz111 : E104 6 8 = ai_i z86 := (hG107 6 8 (by first | omega | (simp; done) | (simp; omega) | (simp only; omega))).trans hz95
              have ghz111 := gv_eq hz111
              refine Or.inl ⟨rfl, ?_⟩
              refine w_aload (i := 0) (npc := 117) (v := cr 0) rfl rfl rfl ?_
              refine w_getf (i := 0) (ci := 7) (k := 7) (npc := 120) rfl (hI106.pl (by decide)) (hI106.T (by decide) rfl) (by decide) (hI106.ref 0 7 (p := 17) (by decide) (by decide) rfl) ?_
              refine w_aload (i := 0) (npc := 121) (v := cr 0) rfl rfl rfl ?_
              refine w_getf (i := 0) (ci := 7) (k := 6) (npc := 124) rfl (hI106.pl (by decide)) (hI106.T (by decide) rfl) (by decide) (hI106.ref 0 6 (p := 14) (by decide) (by decide) rfl) ?_
              refine w_virt (ci := 2) (i := 17) (npc := 127) (a := [cr 17, cr 14]) (rest := []) rfl rfl (hI106.pl (by decide)) (hI106.T (by decide) rfl) rfl rfl rfl rfl (ct_pk_putKey (sl := sl) (x := x) (d := d + 4)  hI106 (by omega)) (Or.inl rfl) (fun k9 v9 T113 E113 nx113 kc113 ks113 hq112 hk113 hv113 => ?_)
              obtain ⟨rfl, rfl, rfl, hI115, hG116, hz114⟩ := hq112
              obtain rfl : kc4 = kc113 := by omega
              obtain rfl : ks4 = ks113 := by omega
              have hF118 := cm_fr.trans hF109 hG116 (by intro i k h; (try simp only at h); (try simp only); omega)
              have hN119 := hN110.fr hG116 (by intro i k h; (try simp only at h); omega)
              have hz120 : E113 6 8 = ai_i z86 := (hG116 6 8 (by first | omega | (simp; done) | (simp; omega) | (simp only; omega))).trans hz111
              have ghz120 := gv_eq hz120
              refine Or.inl ⟨rfl, ?_⟩
              refine w_iinc (i := 7) (n := 1) (npc := 130) (loc' := [cr 0, ai_i p, ai_i f, ai_i t, ai_i a, cr b9, cr 6, ai_i (i + 1)]) rfl rfl (by omega) rfl ?_
              refine w_goto (pt := 79) rfl ?_
              exact ih79 (i + 1) E113 (by omega) hI115 hF118 hN119 (by have e01 := gv_fr hG91 (i := 18) (k := 1) (by omega); have e02 := gv_fr hG91 (i := 18) (k := 2) (by omega); have e11 := gv_fr hG107 (i := 18) (k := 1) (by omega); have e12 := gv_fr hG107 (i := 18) (k := 2) (by omega); have e21 := gv_fr hG116 (i := 18) (k := 1) (by omega); have e22 := gv_fr hG116 (i := 18) (k := 2) (by omega); omega)
            · replace hc96 : ¬ (z89 ≠ (0 : Int)) := hc96
              refine w_aload (i := 0) (npc := 97) (v := cr 0) rfl rfl rfl ?_
              refine w_const (n := 0) (npc := 98) rfl ?_
              refine w_virt (ci := 7) (i := 0) (npc := 101) (a := [cr 0, ai_i 0]) (rest := []) rfl rfl (hI90.pl (by decide)) (hI90.T (by decide) rfl) rfl rfl rfl rfl (ct_c_refuse (sl := sl) (x := x) (d := d + 6) (0) hI90 (by omega)) (Or.inl rfl) (fun k9 v9 T123 E123 nx123 kc123 ks123 hq122 hk123 hv123 => ?_)
              obtain ⟨rfl, rfl, rfl, hI125, hG126, z124, rfl, hz124⟩ := hq122
              obtain rfl : kc4 = kc123 := by omega
              obtain rfl : ks4 = ks123 := by omega
              have hF128 := cm_fr.trans hF93 hG126 (by intro i k h; (try simp only at h); (try simp only); omega)
              have hN129 := hN94.fr hG126 (by intro i k h; (try simp only at h); omega)
              have hz130 : E123 6 8 = ai_i z86 := (hG126 6 8 (by first | omega | (simp; done) | (simp; omega) | (simp only; omega))).trans hz95
              have ghz130 := gv_eq hz130
              refine Or.inr (Or.inl ⟨rfl, ?_⟩)
              exact w_iret rfl (Or.inr (⟨rfl, by omega, by omega, hI125, hF128, hN129, z124, rfl, trivial⟩)) (by omega) (by omega)
      exact loop79 _ (f) E68 (Nat.lt_succ_self _) hI70 hF73 hN74 (by have e01 := gv_fr hG61 (i := 18) (k := 1) (by omega); have e02 := gv_fr hG61 (i := 18) (k := 2) (by omega); have e11 := gv_fr hG71 (i := 18) (k := 1) (by omega); have e12 := gv_fr hG71 (i := 18) (k := 2) (by omega); have e9 := gv_fr hG71 (i := 17) (k := 1) (by omega); omega)
    · replace hc44 : ¬ (z40 ≠ (0 : Int)) := hc44
      refine w_aload (i := 0) (npc := 38) (v := cr 0) rfl rfl rfl ?_
      refine w_const (n := 0) (npc := 39) rfl ?_
      refine w_virt (ci := 7) (i := 0) (npc := 42) (a := [cr 0, ai_i 0]) (rest := []) rfl rfl (hI14.pl (by decide)) (hI14.T (by decide) rfl) rfl rfl rfl rfl (ct_c_refuse (sl := sl) (x := x) (d := d + 6) (0) hI14 (by omega)) (Or.inl rfl) (fun k9 v9 T132 E132 nx132 kc132 ks132 hq131 hk132 hv132 => ?_)
      obtain ⟨rfl, rfl, rfl, hI134, hG135, z133, rfl, hz133⟩ := hq131
      obtain rfl : kc4 = kc132 := by omega
      obtain rfl : ks4 = ks132 := by omega
      have hF137 := cm_fr.trans hF17 hG135 (by intro i k h; (try simp only at h); (try simp only); omega)
      have hN138 := hN18.fr hG135 (by intro i k h; (try simp only at h); omega)
      have hz139 : E132 0 10 = ai_i z1 := (hG135 0 10 (by first | omega | (simp; done) | (simp; omega) | (simp only; omega))).trans hz19
      have ghz139 := gv_eq hz139
      have hz140 : E132 6 8 = ai_i z20 := (hG135 6 8 (by first | omega | (simp; done) | (simp; omega) | (simp only; omega))).trans hz20
      have ghz140 := gv_eq hz140
      refine Or.inr (Or.inl ⟨rfl, ?_⟩)
      exact w_iret rfl (Or.inr (⟨rfl, by omega, by omega, hI134, hF137, hN138, z133, rfl, trivial⟩)) (by omega) (by omega)
set_option maxRecDepth 16384 in
theorem ct_c_hear {sl : Int × Int} {x : ai_E} {d : Nat} {T : cm_T} {E : cm_E} {nx : Nat} (p n : Int)  (hI : cs_I T E nx) (hN : hn E) (hp0 : nx ≤ 1000) : cm_ct (ai_ev sl (d + 8)) x 15 [cr 0, ai_i p, ai_i n] T E nx 6 440 (fun rk rv T' E' nx' => (rk = 2 ∧ nx ≤ nx' ∧ nx' ≤ nx + 2 ∧ cs_I T' E' nx' ∧ cm_fr (fun i k => (i < 81 ∧ i ≠ 5 ∧ ¬ (i = 0 ∧ (k = 10 ∨ k = 14)) ∧ ¬ (i = 23 ∧ (k = 8 ∨ k = 9))) ∨ 105 ≤ i) E E' ∧ hn E' ∧ (¬ (0 ≤ p ∧ p < gv E 0 10) ∧ gv E' 0 11 = gv E 0 11)) ∨ (rk = 3 ∧ nx ≤ nx' ∧ nx' ≤ nx + 2 ∧ cs_I T' E' nx' ∧ cm_fr (fun i k => (i < 81 ∧ i ≠ 5 ∧ ¬ (i = 0 ∧ (k = 10 ∨ k = 14)) ∧ ¬ (i = 23 ∧ (k = 8 ∨ k = 9))) ∨ 105 ≤ i) E E' ∧ hn E' ∧ ((0 ≤ p ∧ p < gv E 0 10) ∧ ¬ (0 ≤ n ∧ n ≤ gv E 0 11) ∧ gv E' 0 11 = gv E 0 11)) ∨ (rk = 1 ∧ nx ≤ nx' ∧ nx' ≤ nx + 2 ∧ cs_I T' E' nx' ∧ cm_fr (fun i k => (i < 81 ∧ i ≠ 5 ∧ ¬ (i = 0 ∧ (k = 10 ∨ k = 14)) ∧ ¬ (i = 23 ∧ (k = 8 ∨ k = 9))) ∨ 105 ≤ i) E E' ∧ hn E' ∧ ∃ z : Int, rv = ai_i z ∧ ((0 ≤ p ∧ p < gv E 0 10) ∧ (0 ≤ n ∧ n ≤ gv E 0 11) ∧ gv E' 0 11 = 0))) := by
  refine cm_body (M := ai_m15) rfl rfl (fun kc ks => ?_)
  show cm_wp (ai_find ai_c15 sl) (ai_ev sl (d + 7)) x (kc + 6) (ks + 440) _ 0 [cr 0, ai_i p, ai_i n, ai_un, ai_un, ai_un] [] T E nx kc ks
  have hF : cm_fr (fun i k => (i < 81 ∧ i ≠ 5 ∧ ¬ (i = 0 ∧ (k = 10 ∨ k = 14)) ∧ ¬ (i = 23 ∧ (k = 8 ∨ k = 9))) ∨ 105 ≤ i) E E := fun _ _ _ => rfl
  obtain ⟨z1, hz1, hz1a, hz1b⟩ := hI.int 0 10 (lo := 1) (hi := 5) (by decide) (by decide) rfl
  have ghz1 := gv_eq hz1
  obtain ⟨z2, hz2, hz2a, hz2b⟩ := hI.int 0 11 (lo := 0) (hi := 400) (by decide) (by decide) rfl
  have ghz2 := gv_eq hz2
  refine w_aload (i := 0) (npc := 1) (v := cr 0) rfl rfl rfl ?_
  refine w_iload (i := 1) (npc := 2) rfl rfl ?_
  refine w_virt (ci := 7) (i := 0) (npc := 5) (a := [cr 0, ai_i p]) (rest := []) rfl rfl (hI.pl (by decide)) (hI.T (by decide) rfl) rfl rfl rfl rfl (ct_c_pageAt (sl := sl) (x := x) (d := d + 6) (p) hI) (Or.inl rfl) (fun k9 v9 T4 E4 nx4 kc4 ks4 hq3 hk4 hv4 => ?_)
  rcases hq3 with hq3 | hq3
  · obtain ⟨rfl, rfl, rfl, rfl, hz5⟩ := hq3
    exact Or.inr (Or.inr (Or.inl ⟨rfl, rfl, Or.inl ⟨rfl, by omega, by omega, hI, hF, hN, by omega⟩, by omega, by omega⟩))
  obtain ⟨rfl, rfl, rfl, rfl, b9, rfl, hz5⟩ := hq3
  have hb10 : 41 ≤ b9 ∧ b9 ≤ 77 ∧ b9 % 4 = 1 := by omega
  refine Or.inr (Or.inl ⟨rfl, ?_⟩)
  refine w_astore (i := 3) (npc := 6) (loc' := [cr 0, ai_i p, ai_i n, cr b9, ai_un, ai_un]) rfl rfl rfl ?_
  refine w_iload (i := 2) (npc := 7) rfl rfl ?_
  refine w_if (c := .lt) (npc := 10) (pt := 18) rfl (fun hc11 => ?_) (fun hc11 => ?_)
  · replace hc11 : n < (0 : Int) := hc11
    exact w_throw (k := 3) rfl (Or.inr (Or.inl ⟨rfl, by omega, by omega, hI, hF, hN, by omega⟩)) (by omega) (by omega)
  · replace hc11 : ¬ (n < (0 : Int)) := hc11
    refine w_iload (i := 2) (npc := 11) rfl rfl ?_
    refine w_aload (i := 0) (npc := 12) (v := cr 0) rfl rfl rfl ?_
    refine w_getf (i := 0) (ci := 7) (k := 11) (npc := 15) rfl (hI.pl (by decide)) (hI.T (by decide) rfl) (by decide) hz2 ?_
    refine w_icmp (c := .le) (npc := 18) (pt := 28) rfl (fun hc12 => ?_) (fun hc12 => ?_)
    · replace hc12 : n ≤ z2 := hc12
      refine w_aload (i := 0) (npc := 29) (v := cr 0) rfl rfl rfl ?_
      refine w_const (n := 0) (npc := 30) rfl ?_
      refine w_putf (i := 0) (ci := 7) (k := 11) (t := 0) (npc := 33) rfl (hI.pl (by decide)) (hI.T (by decide) rfl) (by decide) cm_fit0 ?_
      have hI14 := hI.puti (i := 0) (k := 11) (z := 0) (lo := 0) (hi := 400) (by decide) rfl (by omega)
      have hF16 := cm_fr.up (i := 0) (k := 11) (v := ai_i 0) hF (by first | omega | (simp; done) | (simp; omega) | (simp only; omega))
      have hN17 := hn.wr (i := 0) (k := 11) (v := ai_i 0) hN (by omega)
      generalize hE15 : cm_up E 0 11 (ai_i 0) = E13 at hI14 hF16 hN17 ⊢
      have hz18 : E13 0 10 = ai_i z1 := by rw [← hE15, cm_up_ne _ _ (by decide)]; exact hz1
      have ghz18 := gv_eq hz18
      have hz19 : E13 0 11 = ai_i 0 := by rw [← hE15, cm_up_eq]
      have ghz19 := gv_eq hz19
      refine w_aload (i := 0) (npc := 34) (v := cr 0) rfl rfl rfl ?_
      refine w_const (n := (-1)) (npc := 35) rfl ?_
      refine w_putf (i := 0) (ci := 7) (k := 12) (t := 0) (npc := 38) rfl (hI14.pl (by decide)) (hI14.T (by decide) rfl) (by decide) cm_fit0 ?_
      have hI21 := hI14.puti (i := 0) (k := 12) (z := (-1)) (lo := (-1)) (hi := 400) (by decide) rfl (by omega)
      have hF23 := cm_fr.up (i := 0) (k := 12) (v := ai_i ((-1))) hF16 (by first | omega | (simp; done) | (simp; omega) | (simp only; omega))
      have hN24 := hn.wr (i := 0) (k := 12) (v := ai_i ((-1))) hN17 (by omega)
      generalize hE22 : cm_up E13 0 12 (ai_i ((-1))) = E20 at hI21 hF23 hN24 ⊢
      have hz25 : E20 0 10 = ai_i z1 := by rw [← hE22, cm_up_ne _ _ (by decide)]; exact hz18
      have ghz25 := gv_eq hz25
      have hz26 : E20 0 11 = ai_i 0 := by rw [← hE22, cm_up_ne _ _ (by decide)]; exact hz19
      have ghz26 := gv_eq hz26
      have hz27 : E20 0 12 = ai_i ((-1)) := by rw [← hE22, cm_up_eq]
      have ghz27 := gv_eq hz27
      refine w_aload (i := 0) (npc := 39) (v := cr 0) rfl rfl rfl ?_
      refine w_getf (i := 0) (ci := 7) (k := 8) (npc := 42) rfl (hI21.pl (by decide)) (hI21.T (by decide) rfl) (by decide) (hI21.ref 0 8 (p := 19) (by decide) (by decide) rfl) ?_
      refine w_aload (i := 0) (npc := 43) (v := cr 0) rfl rfl rfl ?_
      refine w_getf (i := 0) (ci := 7) (k := 4) (npc := 46) rfl (hI21.pl (by decide)) (hI21.T (by decide) rfl) (by decide) (hI21.ref 0 4 (p := 5) (by decide) (by decide) rfl) ?_
      refine w_iload (i := 2) (npc := 47) rfl rfl ?_
      refine w_aload (i := 0) (npc := 48) (v := cr 0) rfl rfl rfl ?_
      refine w_getf (i := 0) (ci := 7) (k := 10) (npc := 51) rfl (hI21.pl (by decide)) (hI21.T (by decide) rfl) (by decide) hz25 ?_
      refine w_virt (ci := 0) (i := 19) (npc := 54) (a := [cr 19, cr 5, ai_i n, ai_i z1]) (rest := []) rfl rfl (hI21.pl (by decide)) (hI21.T (by decide) rfl) rfl rfl rfl rfl (ct_ck_check (sl := sl) (x := x) (d := d + 0) (n) (z1) hI21 (by omega) (by omega)) (Or.inl rfl) (fun k9 v9 T29 E29 nx29 kc29 ks29 hq28 hk29 hv29 => ?_)
      obtain ⟨rfl, rfl, rfl, hI31, hG32, z30, rfl, hz30⟩ := hq28
      obtain rfl : kc4 = kc29 := by omega
      obtain rfl : ks4 = ks29 := by omega
      have hF34 := cm_fr.trans hF23 hG32 (by intro i k h; (try simp only at h); (try simp only); omega)
      have hN35 := hN24.fr hG32 (by intro i k h; (try simp only at h); omega)
      have hz36 : E29 0 10 = ai_i z1 := (hG32 0 10 (by first | omega | (simp; done) | (simp; omega) | (simp only; omega))).trans hz25
      have ghz36 := gv_eq hz36
      have hz37 : E29 0 11 = ai_i 0 := (hG32 0 11 (by first | omega | (simp; done) | (simp; omega) | (simp only; omega))).trans hz26
      have ghz37 := gv_eq hz37
      have hz38 : E29 0 12 = ai_i ((-1)) := (hG32 0 12 (by first | omega | (simp; done) | (simp; omega) | (simp only; omega))).trans hz27
      have ghz38 := gv_eq hz38
      refine Or.inr (Or.inl ⟨rfl, ?_⟩)
      refine w_istore (i := 4) (npc := 56) (loc' := [cr 0, ai_i p, ai_i n, cr b9, ai_i z30, ai_un]) rfl rfl ?_
      refine w_iload (i := 4) (npc := 58) rfl rfl ?_
      refine w_if (c := .eq) (npc := 61) (pt := 78) rfl (fun hc39 => ?_) (fun hc39 => ?_)
      · replace hc39 : z30 = (0 : Int) := hc39
        refine w_aload (i := 0) (npc := 79) (v := cr 0) rfl rfl rfl ?_
        refine w_const (n := (-1)) (npc := 80) rfl ?_
        refine w_putf (i := 0) (ci := 7) (k := 13) (t := 0) (npc := 83) rfl (hI31.pl (by decide)) (hI31.T (by decide) rfl) (by decide) cm_fit0 ?_
        have hI41 := hI31.puti (i := 0) (k := 13) (z := (-1)) (lo := (-1)) (hi := 4) (by decide) rfl (by omega)
        have hF43 := cm_fr.up (i := 0) (k := 13) (v := ai_i ((-1))) hF34 (by first | omega | (simp; done) | (simp; omega) | (simp only; omega))
        have hN44 := hn.wr (i := 0) (k := 13) (v := ai_i ((-1))) hN35 (by omega)
        generalize hE42 : cm_up E29 0 13 (ai_i ((-1))) = E40 at hI41 hF43 hN44 ⊢
        have hz45 : E40 0 10 = ai_i z1 := by rw [← hE42, cm_up_ne _ _ (by decide)]; exact hz36
        have ghz45 := gv_eq hz45
        have hz46 : E40 0 11 = ai_i 0 := by rw [← hE42, cm_up_ne _ _ (by decide)]; exact hz37
        have ghz46 := gv_eq hz46
        have hz47 : E40 0 12 = ai_i ((-1)) := by rw [← hE42, cm_up_ne _ _ (by decide)]; exact hz38
        have ghz47 := gv_eq hz47
        have hz48 : E40 0 13 = ai_i ((-1)) := by rw [← hE42, cm_up_eq]
        have ghz48 := gv_eq hz48
        refine w_aload (i := 3) (npc := 84) (v := cr b9) rfl rfl rfl ?_
        have h105u49 := hI41.1
        refine w_new (ci := 4) (npc := 87) rfl (by omega) ?_
        obtain ⟨Tu49, hTu49⟩ : ∃ t : cm_T, t = (fun i => if i = nx then (0, 4) else T i) := ⟨_, rfl⟩
        rw [← hTu49]
        obtain ⟨Eu49, hEu49⟩ : ∃ t : cm_E, t = (fun i k => if i = nx then ai_nth ai_un (ai_fld 4) k else E40 i k) := ⟨_, rfl⟩
        rw [← hEu49]
        have hTou49 : ∀ i, i < nx → Tu49 i = T i := fun i hi => by rw [hTu49]; show (if i = nx then _ else _) = _; rw [if_neg (by omega)]
        have hTnu49 : Tu49 nx = (0, 4) := by rw [hTu49]; show (if nx = nx then _ else _) = _; rw [if_pos rfl]
        have hEou49 : ∀ i k, i < nx → Eu49 i k = E40 i k := fun i k hi => by rw [hEu49]; show (if i = nx then _ else _) = _; rw [if_neg (by omega)]
        have hIu49 := hI41.mv (nx' := nx + 1) (by omega) hTou49 hEou49
        have hfnu49 : cm_fn 4 = 1 := rfl
        have hz50 : Eu49 0 10 = ai_i z1 := (hEou49 _ _ (by omega)).trans hz45
        have ghz50 := gv_eq hz50
        have hz51 : Eu49 0 11 = ai_i 0 := (hEou49 _ _ (by omega)).trans hz46
        have ghz51 := gv_eq hz51
        have hz52 : Eu49 0 12 = ai_i ((-1)) := (hEou49 _ _ (by omega)).trans hz47
        have ghz52 := gv_eq hz52
        have hz53 : Eu49 0 13 = ai_i ((-1)) := (hEou49 _ _ (by omega)).trans hz48
        have ghz53 := gv_eq hz53
        refine w_dup (npc := 88) rfl rfl ?_
        refine w_aload (i := 0) (npc := 89) (v := cr 0) rfl rfl rfl ?_
        refine w_getf (i := 0) (ci := 7) (k := 4) (npc := 92) rfl (hIu49.pl (by decide)) (hIu49.T (by decide) rfl) (by decide) (hIu49.ref 0 4 (p := 5) (by decide) (by decide) rfl) ?_
        refine w_iload (i := 2) (npc := 93) rfl rfl ?_
        refine w_virt (ci := 4) (i := nx) (npc := 96) (a := [cr nx, cr 5, ai_i n]) (rest := [cr nx, cr b9]) rfl rfl (by omega) hTnu49 rfl rfl rfl rfl (ct_sp_init (sl := sl) (x := x) (d := d + 5) (n) (c := 5) (q := nx) (by omega) hIu49 (by omega) (by omega) hTnu49 (by omega)) (Or.inr (fun _ _ _ _ _ hq => by have h1 := hq.1; omega)) (fun k9 v9 Tv54 Ev54 nxv54 kcv54 ksv54 hqv54 hkv54 hvv54 => ?_)
        obtain ⟨rfl, hnv54, hTv54, hrv54, hev54, hk9v54⟩ := hqv54
        have hmv54 := st_new (c := 5) hI41 (by omega) (by omega) (by omega) hTu49 hTv54 hrv54 (fun i k hi => (hev54 i k (by omega) (by omega)).trans (hEou49 i k hi)) (fun k hk => (hk9v54 k hk).trans (hEou49 _ _ (by omega))) (by have e1 := gv_fr hF43 (i := 5) (k := 1) (by omega); have e2 := gv_fr hF43 (i := 5) (k := 2) (by omega); have e3 := gv_fr hF23 (i := 5) (k := 1) (by omega); have e4 := gv_fr hF23 (i := 5) (k := 2) (by omega); omega)
        have hEov54 : ∀ i k, i < nx → Ev54 i k = E40 i k := fun i k hi => (hev54 i k (by omega) (by omega)).trans (hEou49 i k hi)
        obtain ⟨hIv54, hsv54⟩ := hmv54
        have hFv54 : cm_fr (fun i k => (i < 81 ∧ i ≠ 5 ∧ ¬ (i = 0 ∧ (k = 10 ∨ k = 14)) ∧ ¬ (i = 23 ∧ (k = 8 ∨ k = 9))) ∨ 105 ≤ i) E Ev54 := fun i k hk => by
          (try simp only at hk)
          rw [hEov54 i k (by omega)]; exact hF43 i k hk
        have hNv54 : hn Ev54 := hN44.fr (P := fun i _ => nx ≤ i) (fun i k hk => hEov54 i k (by omega)) (by intro i k h; (try simp only at h); omega)
        have hz55 : Ev54 0 10 = ai_i z1 := (hEov54 _ _ (by omega)).trans hz45
        have ghz55 := gv_eq hz55
        have hz56 : Ev54 0 11 = ai_i 0 := (hEov54 _ _ (by omega)).trans hz46
        have ghz56 := gv_eq hz56
        have hz57 : Ev54 0 12 = ai_i ((-1)) := (hEov54 _ _ (by omega)).trans hz47
        have ghz57 := gv_eq hz57
        have hz58 : Ev54 0 13 = ai_i ((-1)) := (hEov54 _ _ (by omega)).trans hz48
        have ghz58 := gv_eq hz58
        refine Or.inl ⟨rfl, ?_⟩
        refine w_virt (ci := 3) (i := b9) (npc := 99) (a := [cr b9, cr nx]) (rest := []) rfl rfl (hIv54.pl (by omega)) (hIv54.pgT0 hb10) rfl rfl rfl rfl (ct_pg_receive (sl := sl) (x := x) (d := d + 1)  (b := b9) hb10 hsv54 hIv54 hNv54) (Or.inl rfl) (fun k9 v9 T60 E60 nx60 kc60 ks60 hq59 hk60 hv60 => ?_)
        obtain ⟨rfl, rfl, rfl, hI62, hG63, hN64, z61, rfl, hz61⟩ := hq59
        obtain rfl : kcv54 = kc60 := by omega
        obtain rfl : ksv54 = ks60 := by omega
        have hF65 := cm_fr.trans hFv54 hG63 (by intro i k h; (try simp only at h); (try simp only); omega)
        have hz66 : E60 0 10 = ai_i z1 := (hG63 0 10 (by first | omega | (simp; done) | (simp; omega) | (simp only; omega))).trans hz55
        have ghz66 := gv_eq hz66
        have hz67 : E60 0 11 = ai_i 0 := (hG63 0 11 (by first | omega | (simp; done) | (simp; omega) | (simp only; omega))).trans hz56
        have ghz67 := gv_eq hz67
        have hz68 : E60 0 12 = ai_i ((-1)) := (hG63 0 12 (by first | omega | (simp; done) | (simp; omega) | (simp only; omega))).trans hz57
        have ghz68 := gv_eq hz68
        have hz69 : E60 0 13 = ai_i ((-1)) := (hG63 0 13 (by first | omega | (simp; done) | (simp; omega) | (simp only; omega))).trans hz58
        have ghz69 := gv_eq hz69
        refine Or.inr (Or.inl ⟨rfl, ?_⟩)
        refine w_istore (i := 5) (npc := 101) (loc' := [cr 0, ai_i p, ai_i n, cr b9, ai_i z30, ai_i z61]) rfl rfl ?_
        refine w_iload (i := 5) (npc := 103) rfl rfl ?_
        refine w_const (n := 10) (npc := 105) rfl ?_
        refine w_icmp (c := .le) (npc := 108) (pt := 118) rfl (fun hc70 => ?_) (fun hc70 => ?_)
        · replace hc70 : z61 ≤ (10 : Int) := hc70
          refine w_iload (i := 5) (npc := 120) rfl rfl ?_
          exact w_iret rfl (Or.inr (Or.inr (⟨rfl, by omega, by omega, hI62, hF65, hN64, z61, rfl, by omega⟩))) (by omega) (by omega)
        · replace hc70 : ¬ (z61 ≤ (10 : Int)) := hc70
          refine w_aload (i := 0) (npc := 109) (v := cr 0) rfl rfl rfl ?_
          refine w_iload (i := 5) (npc := 111) rfl rfl ?_
          refine w_const (n := 0) (npc := 112) rfl ?_
          refine w_virt (ci := 7) (i := 0) (npc := 115) (a := [cr 0, ai_i z61, ai_i 0]) (rest := []) rfl rfl (hI62.pl (by decide)) (hI62.T (by decide) rfl) rfl rfl rfl rfl (ct_c_refuseHeard (sl := sl) (x := x) (d := d + 6) (z61) (0) hI62 (by omega)) (Or.inl rfl) (fun k9 v9 T72 E72 nx72 kc72 ks72 hq71 hk72 hv72 => ?_)
          obtain ⟨rfl, rfl, rfl, hI74, hG75, z73, rfl, hz73⟩ := hq71
          obtain rfl : kcv54 = kc72 := by omega
          obtain rfl : ksv54 = ks72 := by omega
          have hF77 := cm_fr.trans hF65 hG75 (by intro i k h; (try simp only at h); (try simp only); omega)
          have hN78 := hN64.fr hG75 (by intro i k h; (try simp only at h); omega)
          have hz79 : E72 0 10 = ai_i z1 := (hG75 0 10 (by first | omega | (simp; done) | (simp; omega) | (simp only; omega))).trans hz66
          have ghz79 := gv_eq hz79
          have hz80 : E72 0 11 = ai_i 0 := (hG75 0 11 (by first | omega | (simp; done) | (simp; omega) | (simp only; omega))).trans hz67
          have ghz80 := gv_eq hz80
          have hz81 : E72 0 13 = ai_i ((-1)) := (hG75 0 13 (by first | omega | (simp; done) | (simp; omega) | (simp only; omega))).trans hz69
          have ghz81 := gv_eq hz81
          refine Or.inr (Or.inl ⟨rfl, ?_⟩)
          refine w_goto (pt := 120) rfl ?_
          exact w_iret rfl (Or.inr (Or.inr (⟨rfl, by omega, by omega, hI74, hF77, hN78, z73, rfl, by omega⟩))) (by omega) (by omega)
      · replace hc39 : ¬ (z30 = (0 : Int)) := hc39
        refine w_aload (i := 0) (npc := 62) (v := cr 0) rfl rfl rfl ?_
        refine w_const (n := 10) (npc := 64) rfl ?_
        refine w_iload (i := 4) (npc := 66) rfl rfl ?_
        refine w_iadd (npc := 67) rfl (by omega) ?_
        refine w_aload (i := 0) (npc := 68) (v := cr 0) rfl rfl rfl ?_
        refine w_getf (i := 0) (ci := 7) (k := 8) (npc := 71) rfl (hI31.pl (by decide)) (hI31.T (by decide) rfl) (by decide) (hI31.ref 0 8 (p := 19) (by decide) (by decide) rfl) ?_
        obtain ⟨z83, hz83, hz83a, hz83b⟩ := hI31.int 19 7 (lo := 0) (hi := 400) (by decide) (by decide) rfl
        have ghz83 := gv_eq hz83
        refine w_getf (i := 19) (ci := 0) (k := 7) (npc := 74) rfl (hI31.pl (by decide)) (hI31.T (by decide) rfl) (by decide) hz83 ?_
        refine w_virt (ci := 7) (i := 0) (npc := 77) (a := [cr 0, ai_i (10 + z30), ai_i z83]) (rest := []) rfl rfl (hI31.pl (by decide)) (hI31.T (by decide) rfl) rfl rfl rfl rfl (ct_c_refuseHeard (sl := sl) (x := x) (d := d + 6) (10 + z30) (z83) hI31 (by omega)) (Or.inl rfl) (fun k9 v9 T85 E85 nx85 kc85 ks85 hq84 hk85 hv85 => ?_)
        obtain ⟨rfl, rfl, rfl, hI87, hG88, z86, rfl, hz86⟩ := hq84
        obtain rfl : kc4 = kc85 := by omega
        obtain rfl : ks4 = ks85 := by omega
        have hF90 := cm_fr.trans hF34 hG88 (by intro i k h; (try simp only at h); (try simp only); omega)
        have hN91 := hN35.fr hG88 (by intro i k h; (try simp only at h); omega)
        have hz92 : E85 0 10 = ai_i z1 := (hG88 0 10 (by first | omega | (simp; done) | (simp; omega) | (simp only; omega))).trans hz36
        have ghz92 := gv_eq hz92
        have hz93 : E85 0 11 = ai_i 0 := (hG88 0 11 (by first | omega | (simp; done) | (simp; omega) | (simp only; omega))).trans hz37
        have ghz93 := gv_eq hz93
        have hz94 : E85 19 7 = ai_i z83 := (hG88 19 7 (by first | omega | (simp; done) | (simp; omega) | (simp only; omega))).trans hz83
        have ghz94 := gv_eq hz94
        refine Or.inr (Or.inl ⟨rfl, ?_⟩)
        exact w_iret rfl (Or.inr (Or.inr (⟨rfl, by omega, by omega, hI87, hF90, hN91, z86, rfl, by omega⟩))) (by omega) (by omega)
    · replace hc12 : ¬ (n ≤ z2) := hc12
      exact w_throw (k := 3) rfl (Or.inr (Or.inl ⟨rfl, by omega, by omega, hI, hF, hN, by omega⟩)) (by omega) (by omega)
