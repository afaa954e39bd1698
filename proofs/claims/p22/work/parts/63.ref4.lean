set_option maxRecDepth 16384 in
theorem ct_m_tellPage {sl : Int × Int} {x : ai_E} {d : Nat} {T : cm_T} {E : cm_E} {nx : Nat} (p : Int) (hI : cs_I T E nx) (hR : rl E) (hp0 : 0 ≤ p ∧ p ≤ 4) : cm_ct (ai_ev sl (d + 7)) x 217 [cr 81, ai_i p] T E nx 0 0 (fun rk rv T' E' nx' => rk = 0 ∧ T = T' ∧ nx = nx' ∧ cs_I T E' nx ∧ cm_fr (fun i k => (i = 81 ∧ (k = 12 ∨ k = 13)) ∨ i = 86 ∨ i = 87 ∨ i = 88 ∨ i = 89 ∨ i = 90 ∨ i = 91) E E' ∧ rl E' ∧ ((∀ j : Int, 0 ≤ j → j < gv E' 81 13 → ∃ q : Int, 0 ≤ q ∧ q < gv E' 81 12 ∧ gv E' 90 q.toNat = gv E' 91 j.toNat))) := by
  refine cm_body (M := ai_m217) rfl rfl (fun kc ks => ?_)
  show cm_wp (ai_find ai_c217 sl) (ai_ev sl (d + 6)) x (kc + 0) (ks + 0) _ 0 [cr 81, ai_i p, ai_un, ai_un, ai_un] [] T E nx kc ks
  have hF : cm_fr (fun i k => (i = 81 ∧ (k = 12 ∨ k = 13)) ∨ i = 86 ∨ i = 87 ∨ i = 88 ∨ i = 89 ∨ i = 90 ∨ i = 91) E E := fun _ _ _ => rfl
  refine w_aload (i := 0) (npc := 1) rfl rfl rfl ?_
  refine w_iload (i := 1) (npc := 2) rfl rfl ?_
  refine w_virt (ci := 8) (i := 81) (npc := 5) (a := [cr 81, ai_i p]) (rest := []) rfl rfl (hI.pl (by decide)) (hI.T (by decide) rfl) rfl rfl rfl rfl (ct_m_tellHolds (sl := sl) (x := x) (d := d + 4) (p) hI hR (by omega)) (Or.inl rfl) (fun k9 v9 T9 E2 nx9 kc9 ks9 hq1 hk9 hs9 => ?_)
  obtain ⟨rfl, rfl, rfl, hI4, hG5, hR6, hz3⟩ := hq1
  obtain rfl : kc = kc9 := by omega
  obtain rfl : ks = ks9 := by omega
  have hF7 := cm_fr.trans hF hG5 (by first | (simp; done) | (simp; omega) | (intro i k h; (try simp only at h); (try simp only); omega))
  refine Or.inl ⟨rfl, ?_⟩
  refine w_aload (i := 0) (npc := 6) rfl rfl rfl ?_
  refine w_const (n := 0) (npc := 7) rfl ?_
  refine w_putf (i := 81) (ci := 8) (k := 12) (t := 0) (npc := 10) rfl (hI4.pl (by decide)) (hI4.T (by decide) rfl) (by decide) cm_fit0 ?_
  have hI9 := hI4.puti (i := 81) (k := 12) (z := 0) (lo := 0) (hi := 300) (by decide) rfl (by omega)
  have hF11 := cm_fr.up (i := 81) (k := 12) (v := ai_i 0) hF7 (by first | (simp; done) | (simp; omega) | (intro i k h; (try simp only at h); (try simp only); omega))
  have hR12 := rl.wr (i := 81) (k := 12) (v := ai_i 0) hR6 (by simp)
  generalize hE10 : cm_up E2 81 12 (ai_i 0) = E8 at hI9 hF11 hR12  ⊢
  have hz13 : E8 81 12 = ai_i 0 := by rw [← hE10, cm_up_eq]
  have ghz13 := gv_eq hz13
  refine w_aload (i := 0) (npc := 11) rfl rfl rfl ?_
  refine w_const (n := 0) (npc := 12) rfl ?_
  refine w_putf (i := 81) (ci := 8) (k := 13) (t := 0) (npc := 15) rfl (hI9.pl (by decide)) (hI9.T (by decide) rfl) (by decide) cm_fit0 ?_
  have hI15 := hI9.puti (i := 81) (k := 13) (z := 0) (lo := 0) (hi := 300) (by decide) rfl (by omega)
  have hF17 := cm_fr.up (i := 81) (k := 13) (v := ai_i 0) hF11 (by first | (simp; done) | (simp; omega) | (intro i k h; (try simp only at h); (try simp only); omega))
  have hR18 := rl.wr (i := 81) (k := 13) (v := ai_i 0) hR12 (by simp)
  generalize hE16 : cm_up E8 81 13 (ai_i 0) = E14 at hI15 hF17 hR18  ⊢
  have hz19 : E14 81 12 = ai_i 0 := by rw [← hE16, cm_up_ne _ _ (by decide)]; exact hz13
  have ghz19 := gv_eq hz19
  have hz20 : E14 81 13 = ai_i 0 := by rw [← hE16, cm_up_eq]
  have ghz20 := gv_eq hz20
  refine w_const (n := 0) (npc := 16) rfl ?_
  refine w_istore (i := 2) (npc := 17) (loc' := [cr 81, ai_i p, ai_i 0, ai_un, ai_un]) rfl rfl ?_
  have loop17 : ∀ (nf : Nat) (i : Int) (Eq17 : cm_E), ((300 - i).toNat) < nf → cs_I T Eq17 nx → cm_fr (fun i k => (i = 81 ∧ (k = 12 ∨ k = 13)) ∨ i = 86 ∨ i = 87 ∨ i = 88 ∨ i = 89 ∨ i = 90 ∨ i = 91) E Eq17 → rl Eq17 → (0 ≤ i ∧ i ≤ 300 ∧ gv Eq17 81 12 = 0 ∧ gv Eq17 81 13 = 0) → cm_wp (ai_find ai_c217 sl) (ai_ev sl (d + 6)) x (kc + 0) (ks + 0) (fun rk rv T' E' nx' => rk = 0 ∧ T = T' ∧ nx = nx' ∧ cs_I T E' nx ∧ cm_fr (fun i k => (i = 81 ∧ (k = 12 ∨ k = 13)) ∨ i = 86 ∨ i = 87 ∨ i = 88 ∨ i = 89 ∨ i = 90 ∨ i = 91) E E' ∧ rl E' ∧ ((∀ j : Int, 0 ≤ j → j < gv E' 81 13 → ∃ q : Int, 0 ≤ q ∧ q < gv E' 81 12 ∧ gv E' 90 q.toNat = gv E' 91 j.toNat))) 17 [cr 81, ai_i p, ai_i i, ai_un, ai_un] [] T Eq17 nx kc ks := by
    intro nf
    induction nf with
    | zero => intro i Eq17 hm; exact absurd hm (Nat.not_lt_zero _)
    | succ nf17 ih =>
      intro i Eq17 hm17 hI17 hF17 hR17 hv17
      obtain ⟨z21, hz21, hz21a, hz21b⟩ := hI17.int 81 12 (lo := 0) (hi := 300) (by decide) (by decide) rfl
      have ghz21 := gv_eq hz21
      obtain ⟨z22, hz22, hz22a, hz22b⟩ := hI17.int 81 13 (lo := 0) (hi := 300) (by decide) (by decide) rfl
      have ghz22 := gv_eq hz22
      have ih17 := ih; clear ih
      refine w_iload (i := 2) (npc := 18) rfl rfl ?_
      refine w_const (n := 300) (npc := 21) rfl ?_
      refine w_icmp (c := .ge) (npc := 24) (pt := 44) rfl (fun hc23 => ?_) (fun hc23 => ?_)
      · replace hc23 : (300 : Int) ≤ i := hc23
        refine w_const (n := 0) (npc := 45) rfl ?_
        refine w_istore (i := 2) (npc := 46) (loc' := [cr 81, ai_i p, ai_i 0, ai_un, ai_un]) rfl rfl ?_
        have loop46 : ∀ (nf : Nat) (w : Int) (u46_3 : ai_V) (Eq46 : cm_E), ((5 - w).toNat) < nf → cs_I T Eq46 nx → cm_fr (fun i k => (i = 81 ∧ (k = 12 ∨ k = 13)) ∨ i = 86 ∨ i = 87 ∨ i = 88 ∨ i = 89 ∨ i = 90 ∨ i = 91) E Eq46 → rl Eq46 → (0 ≤ w ∧ w ≤ 5 ∧ gv Eq46 81 12 = 0 ∧ gv Eq46 81 13 = 0) → cm_wp (ai_find ai_c217 sl) (ai_ev sl (d + 6)) x (kc + 0) (ks + 0) (fun rk rv T' E' nx' => rk = 0 ∧ T = T' ∧ nx = nx' ∧ cs_I T E' nx ∧ cm_fr (fun i k => (i = 81 ∧ (k = 12 ∨ k = 13)) ∨ i = 86 ∨ i = 87 ∨ i = 88 ∨ i = 89 ∨ i = 90 ∨ i = 91) E E' ∧ rl E' ∧ ((∀ j : Int, 0 ≤ j → j < gv E' 81 13 → ∃ q : Int, 0 ≤ q ∧ q < gv E' 81 12 ∧ gv E' 90 q.toNat = gv E' 91 j.toNat))) 46 [cr 81, ai_i p, ai_i w, u46_3, ai_un] [] T Eq46 nx kc ks := by
          intro nf
          induction nf with
          | zero => intro w u46_3 Eq46 hm; exact absurd hm (Nat.not_lt_zero _)
          | succ nf46 ih =>
            intro w u46_3 Eq46 hm46 hI46 hF46 hR46 hv46
            obtain ⟨z24, hz24, hz24a, hz24b⟩ := hI46.int 81 12 (lo := 0) (hi := 300) (by decide) (by decide) rfl
            have ghz24 := gv_eq hz24
            obtain ⟨z25, hz25, hz25a, hz25b⟩ := hI46.int 81 13 (lo := 0) (hi := 300) (by decide) (by decide) rfl
            have ghz25 := gv_eq hz25
            have ih46 := ih; clear ih
            refine w_iload (i := 2) (npc := 47) rfl rfl ?_
            refine w_aload (i := 0) (npc := 48) rfl rfl rfl ?_
            obtain ⟨z26, hz26, hz26a, hz26b⟩ := hI46.int 81 1 (lo := 1) (hi := 5) (by decide) (by decide) rfl
            have ghz26 := gv_eq hz26
            have g0hz26 : gv E 81 1 = z26 := (gv_fr hF46 (by simp)).trans ghz26
            refine w_getf (i := 81) (ci := 8) (k := 1) (npc := 51) rfl (hI46.pl (by decide)) (hI46.T (by decide) rfl) (by decide) hz26 ?_
            refine w_icmp (c := .ge) (npc := 54) (pt := 105) rfl (fun hc27 => ?_) (fun hc27 => ?_)
            · replace hc27 : z26 ≤ w := hc27
              refine w_const (n := 0) (npc := 106) rfl ?_
              refine w_istore (i := 2) (npc := 107) (loc' := [cr 81, ai_i p, ai_i 0, u46_3, ai_un]) rfl rfl ?_
              have loop107 : ∀ (nf : Nat) (w : Int) (u107_3 : ai_V) (u107_4 : ai_V) (Eq107 : cm_E), ((5 - w).toNat) < nf → cs_I T Eq107 nx → cm_fr (fun i k => (i = 81 ∧ (k = 12 ∨ k = 13)) ∨ i = 86 ∨ i = 87 ∨ i = 88 ∨ i = 89 ∨ i = 90 ∨ i = 91) E Eq107 → rl Eq107 → (0 ≤ w ∧ w ≤ 5 ∧ gv Eq107 81 12 = 0 ∧ gv Eq107 81 13 = 0) → cm_wp (ai_find ai_c217 sl) (ai_ev sl (d + 6)) x (kc + 0) (ks + 0) (fun rk rv T' E' nx' => rk = 0 ∧ T = T' ∧ nx = nx' ∧ cs_I T E' nx ∧ cm_fr (fun i k => (i = 81 ∧ (k = 12 ∨ k = 13)) ∨ i = 86 ∨ i = 87 ∨ i = 88 ∨ i = 89 ∨ i = 90 ∨ i = 91) E E' ∧ rl E' ∧ ((∀ j : Int, 0 ≤ j → j < gv E' 81 13 → ∃ q : Int, 0 ≤ q ∧ q < gv E' 81 12 ∧ gv E' 90 q.toNat = gv E' 91 j.toNat))) 107 [cr 81, ai_i p, ai_i w, u107_3, u107_4] [] T Eq107 nx kc ks := by
                intro nf
                induction nf with
                | zero => intro w u107_3 u107_4 Eq107 hm; exact absurd hm (Nat.not_lt_zero _)
                | succ nf107 ih =>
                  intro w u107_3 u107_4 Eq107 hm107 hI107 hF107 hR107 hv107
                  obtain ⟨z28, hz28, hz28a, hz28b⟩ := hI107.int 81 12 (lo := 0) (hi := 300) (by decide) (by decide) rfl
                  have ghz28 := gv_eq hz28
                  obtain ⟨z29, hz29, hz29a, hz29b⟩ := hI107.int 81 13 (lo := 0) (hi := 300) (by decide) (by decide) rfl
                  have ghz29 := gv_eq hz29
                  have ih107 := ih; clear ih
                  refine w_iload (i := 2) (npc := 108) rfl rfl ?_
                  refine w_aload (i := 0) (npc := 109) rfl rfl rfl ?_
                  obtain ⟨z30, hz30, hz30a, hz30b⟩ := hI107.int 81 1 (lo := 1) (hi := 5) (by decide) (by decide) rfl
                  have ghz30 := gv_eq hz30
                  have g0hz30 : gv E 81 1 = z30 := (gv_fr hF107 (by simp)).trans ghz30
                  refine w_getf (i := 81) (ci := 8) (k := 1) (npc := 112) rfl (hI107.pl (by decide)) (hI107.T (by decide) rfl) (by decide) hz30 ?_
                  refine w_icmp (c := .ge) (npc := 115) (pt := 232) rfl (fun hc31 => ?_) (fun hc31 => ?_)
                  · replace hc31 : z30 ≤ w := hc31
                    refine w_const (n := 0) (npc := 233) rfl ?_
                    refine w_istore (i := 2) (npc := 234) (loc' := [cr 81, ai_i p, ai_i 0, u107_3, u107_4]) rfl rfl ?_
                    have loop234 : ∀ (nf : Nat) (w : Int) (u234_3 : ai_V) (Eq234 : cm_E), ((5 - w).toNat) < nf → cs_I T Eq234 nx → cm_fr (fun i k => (i = 81 ∧ (k = 12 ∨ k = 13)) ∨ i = 86 ∨ i = 87 ∨ i = 88 ∨ i = 89 ∨ i = 90 ∨ i = 91) E Eq234 → rl Eq234 → (0 ≤ w ∧ w ≤ 5 ∧ gv Eq234 81 12 ≤ 60 * w ∧ gv Eq234 81 13 = 0) → cm_wp (ai_find ai_c217 sl) (ai_ev sl (d + 6)) x (kc + 0) (ks + 0) (fun rk rv T' E' nx' => rk = 0 ∧ T = T' ∧ nx = nx' ∧ cs_I T E' nx ∧ cm_fr (fun i k => (i = 81 ∧ (k = 12 ∨ k = 13)) ∨ i = 86 ∨ i = 87 ∨ i = 88 ∨ i = 89 ∨ i = 90 ∨ i = 91) E E' ∧ rl E' ∧ ((∀ j : Int, 0 ≤ j → j < gv E' 81 13 → ∃ q : Int, 0 ≤ q ∧ q < gv E' 81 12 ∧ gv E' 90 q.toNat = gv E' 91 j.toNat))) 234 [cr 81, ai_i p, ai_i w, u234_3, u107_4] [] T Eq234 nx kc ks := by
                      intro nf
                      induction nf with
                      | zero => intro w u234_3 Eq234 hm; exact absurd hm (Nat.not_lt_zero _)
                      | succ nf234 ih =>
                        intro w u234_3 Eq234 hm234 hI234 hF234 hR234 hv234
                        obtain ⟨z32, hz32, hz32a, hz32b⟩ := hI234.int 81 12 (lo := 0) (hi := 300) (by decide) (by decide) rfl
                        have ghz32 := gv_eq hz32
                        obtain ⟨z33, hz33, hz33a, hz33b⟩ := hI234.int 81 13 (lo := 0) (hi := 300) (by decide) (by decide) rfl
                        have ghz33 := gv_eq hz33
                        have ih234 := ih; clear ih
                        refine w_iload (i := 2) (npc := 235) rfl rfl ?_
                        refine w_aload (i := 0) (npc := 236) rfl rfl rfl ?_
                        obtain ⟨z34, hz34, hz34a, hz34b⟩ := hI234.int 81 1 (lo := 1) (hi := 5) (by decide) (by decide) rfl
                        have ghz34 := gv_eq hz34
                        have g0hz34 : gv E 81 1 = z34 := (gv_fr hF234 (by simp)).trans ghz34
                        refine w_getf (i := 81) (ci := 8) (k := 1) (npc := 239) rfl (hI234.pl (by decide)) (hI234.T (by decide) rfl) (by decide) hz34 ?_
                        refine w_icmp (c := .ge) (npc := 242) (pt := 293) rfl (fun hc35 => ?_) (fun hc35 => ?_)
                        · replace hc35 : z34 ≤ w := hc35
                          refine w_const (n := 0) (npc := 294) rfl ?_
                          refine w_istore (i := 2) (npc := 295) (loc' := [cr 81, ai_i p, ai_i 0, u234_3, u107_4]) rfl rfl ?_
                          have loop295 : ∀ (nf : Nat) (i : Int) (Eq295 : cm_E), ((300 - i).toNat) < nf → cs_I T Eq295 nx → cm_fr (fun i k => (i = 81 ∧ (k = 12 ∨ k = 13)) ∨ i = 86 ∨ i = 87 ∨ i = 88 ∨ i = 89 ∨ i = 90 ∨ i = 91) E Eq295 → rl Eq295 → (0 ≤ i ∧ i ≤ 300 ∧ i ≤ gv Eq295 81 12 ∧ gv Eq295 81 13 ≤ i ∧ (∀ j : Int, 0 ≤ j → j < gv Eq295 81 13 → ∃ q : Int, 0 ≤ q ∧ q < gv Eq295 81 12 ∧ gv Eq295 90 q.toNat = gv Eq295 91 j.toNat)) → cm_wp (ai_find ai_c217 sl) (ai_ev sl (d + 6)) x (kc + 0) (ks + 0) (fun rk rv T' E' nx' => rk = 0 ∧ T = T' ∧ nx = nx' ∧ cs_I T E' nx ∧ cm_fr (fun i k => (i = 81 ∧ (k = 12 ∨ k = 13)) ∨ i = 86 ∨ i = 87 ∨ i = 88 ∨ i = 89 ∨ i = 90 ∨ i = 91) E E' ∧ rl E' ∧ ((∀ j : Int, 0 ≤ j → j < gv E' 81 13 → ∃ q : Int, 0 ≤ q ∧ q < gv E' 81 12 ∧ gv E' 90 q.toNat = gv E' 91 j.toNat))) 295 [cr 81, ai_i p, ai_i i, u234_3, u107_4] [] T Eq295 nx kc ks := by
                            intro nf
                            induction nf with
                            | zero => intro i Eq295 hm; exact absurd hm (Nat.not_lt_zero _)
                            | succ nf295 ih =>
                              intro i Eq295 hm295 hI295 hF295 hR295 hv295
                              obtain ⟨z36, hz36, hz36a, hz36b⟩ := hI295.int 81 12 (lo := 0) (hi := 300) (by decide) (by decide) rfl
                              have ghz36 := gv_eq hz36
                              obtain ⟨z37, hz37, hz37a, hz37b⟩ := hI295.int 81 13 (lo := 0) (hi := 300) (by decide) (by decide) rfl
                              have ghz37 := gv_eq hz37
                              have ih295 := ih; clear ih
                              refine w_iload (i := 2) (npc := 296) rfl rfl ?_
                              refine w_aload (i := 0) (npc := 297) rfl rfl rfl ?_
                              refine w_getf (i := 81) (ci := 8) (k := 12) (npc := 300) rfl (hI295.pl (by decide)) (hI295.T (by decide) rfl) (by decide) hz36 ?_
                              refine w_icmp (c := .ge) (npc := 303) (pt := 365) rfl (fun hc38 => ?_) (fun hc38 => ?_)
                              · replace hc38 : z36 ≤ i := hc38
                                exact w_vret rfl (⟨rfl, rfl, rfl, hI295, hF295, hR295, hv295.2.2.2.2⟩) (by omega) (by omega)
                              · replace hc38 : ¬ (z36 ≤ i) := hc38
                                refine w_aload (i := 0) (npc := 304) rfl rfl rfl ?_
                                refine w_getf (i := 81) (ci := 8) (k := 6) (npc := 307) rfl (hI295.pl (by decide)) (hI295.T (by decide) rfl) (by decide) (hI295.ref 81 6 (p := 86) (by decide) (by decide) rfl) ?_
                                refine w_aload (i := 0) (npc := 308) rfl rfl rfl ?_
                                refine w_getf (i := 81) (ci := 8) (k := 10) (npc := 311) rfl (hI295.pl (by decide)) (hI295.T (by decide) rfl) (by decide) (hI295.ref 81 10 (p := 90) (by decide) (by decide) rfl) ?_
                                refine w_iload (i := 2) (npc := 312) rfl rfl ?_
                                obtain ⟨z39, hz39, hz39a, hz39b⟩ := hI295.int 90 (i : Int).toNat (lo := 0) (hi := 299) (by decide) (show (i : Int).toNat < 300 by omega) rfl
                                have ghz39 := gv_eq hz39
                                refine w_ald (i := 90) (t := 1) (n := 300) (npc := 313) rfl (hI295.pl (by decide)) (hI295.T (by decide) rfl) (by decide) rfl (by omega) hz39 ?_
                                obtain ⟨z40, hz40, hz40a, hz40b⟩ := hI295.int 86 (z39 : Int).toNat (lo := 0) (hi := 1) (by decide) (show (z39 : Int).toNat < 300 by omega) rfl
                                have ghz40 := gv_eq hz40
                                refine w_ald (i := 86) (t := 2) (n := 300) (npc := 314) rfl (hI295.pl (by decide)) (hI295.T (by decide) rfl) (by decide) rfl (by omega) hz40 ?_
                                refine w_if (c := .eq) (npc := 317) (pt := 359) rfl (fun hc41 => ?_) (fun hc41 => ?_)
                                · replace hc41 : z40 = (0 : Int) := hc41
                                  refine w_iinc (i := 2) (n := 1) (npc := 362) (loc' := [cr 81, ai_i p, ai_i (i + 1), u234_3, u107_4]) rfl rfl (by omega) rfl ?_
                                  refine w_goto (pt := 295) rfl ?_
                                  exact ih295 (i + 1) Eq295 (by omega) hI295 hF295 hR295 (⟨by omega, by omega, by omega, by omega, hv295.2.2.2.2⟩)
                                · replace hc41 : ¬ (z40 = (0 : Int)) := hc41
                                  refine w_aload (i := 0) (npc := 318) rfl rfl rfl ?_
                                  refine w_getf (i := 81) (ci := 8) (k := 7) (npc := 321) rfl (hI295.pl (by decide)) (hI295.T (by decide) rfl) (by decide) (hI295.ref 81 7 (p := 87) (by decide) (by decide) rfl) ?_
                                  refine w_aload (i := 0) (npc := 322) rfl rfl rfl ?_
                                  refine w_getf (i := 81) (ci := 8) (k := 10) (npc := 325) rfl (hI295.pl (by decide)) (hI295.T (by decide) rfl) (by decide) (hI295.ref 81 10 (p := 90) (by decide) (by decide) rfl) ?_
                                  refine w_iload (i := 2) (npc := 326) rfl rfl ?_
                                  refine w_ald (i := 90) (t := 1) (n := 300) (npc := 327) rfl (hI295.pl (by decide)) (hI295.T (by decide) rfl) (by decide) rfl (by omega) hz39 ?_
                                  obtain ⟨z43, hz43, hz43a, hz43b⟩ := hI295.int 87 (z39 : Int).toNat (lo := 0) (hi := 1) (by decide) (show (z39 : Int).toNat < 300 by omega) rfl
                                  have ghz43 := gv_eq hz43
                                  refine w_ald (i := 87) (t := 2) (n := 300) (npc := 328) rfl (hI295.pl (by decide)) (hI295.T (by decide) rfl) (by decide) rfl (by omega) hz43 ?_
                                  refine w_if (c := .eq) (npc := 331) (pt := 334) rfl (fun hc44 => ?_) (fun hc44 => ?_)
                                  · replace hc44 : z43 = (0 : Int) := hc44
                                    refine w_aload (i := 0) (npc := 335) rfl rfl rfl ?_
                                    refine w_getf (i := 81) (ci := 8) (k := 11) (npc := 338) rfl (hI295.pl (by decide)) (hI295.T (by decide) rfl) (by decide) (hI295.ref 81 11 (p := 91) (by decide) (by decide) rfl) ?_
                                    refine w_aload (i := 0) (npc := 339) rfl rfl rfl ?_
                                    refine w_getf (i := 81) (ci := 8) (k := 13) (npc := 342) rfl (hI295.pl (by decide)) (hI295.T (by decide) rfl) (by decide) hz37 ?_
                                    refine w_aload (i := 0) (npc := 343) rfl rfl rfl ?_
                                    refine w_getf (i := 81) (ci := 8) (k := 10) (npc := 346) rfl (hI295.pl (by decide)) (hI295.T (by decide) rfl) (by decide) (hI295.ref 81 10 (p := 90) (by decide) (by decide) rfl) ?_
                                    refine w_iload (i := 2) (npc := 347) rfl rfl ?_
                                    refine w_ald (i := 90) (t := 1) (n := 300) (npc := 348) rfl (hI295.pl (by decide)) (hI295.T (by decide) rfl) (by decide) rfl (by omega) hz39 ?_
                                    refine w_ast (i := 91) (k := 1) (n := 300) (npc := 349) rfl (hI295.pl (by decide)) (hI295.T (by decide) rfl) (by decide) (by omega) cm_af1 ?_
                                    have hI46 := hI295.puti (i := 91) (k := (z37 : Int).toNat) (z := z39) (lo := 0) (hi := 299) (by decide) rfl (by omega)
                                    have hF48 := cm_fr.up (i := 91) (k := (z37 : Int).toNat) (v := ai_i z39) hF295 (by first | (simp; done) | (simp; omega) | (intro i k h; (try simp only at h); (try simp only); omega))
                                    have hR49 := rl.wr (i := 91) (k := (z37 : Int).toNat) (v := ai_i z39) hR295 (by simp)
                                    generalize hE47 : cm_up Eq295 91 (z37 : Int).toNat (ai_i z39) = E45 at hI46 hF48 hR49  ⊢
                                    have hz50 : E45 81 12 = ai_i z36 := by rw [← hE47, cm_up_nei _ _ (by decide)]; exact hz36
                                    have ghz50 := gv_eq hz50
                                    have hz51 : E45 81 13 = ai_i z37 := by rw [← hE47, cm_up_nei _ _ (by decide)]; exact hz37
                                    have ghz51 := gv_eq hz51
                                    have hz52 : E45 90 (i : Int).toNat = ai_i z39 := by rw [← hE47, cm_up_nei _ _ (by decide)]; exact hz39
                                    have ghz52 := gv_eq hz52
                                    have hz53 : E45 86 (z39 : Int).toNat = ai_i z40 := by rw [← hE47, cm_up_nei _ _ (by decide)]; exact hz40
                                    have ghz53 := gv_eq hz53
                                    have hz54 : E45 87 (z39 : Int).toNat = ai_i z43 := by rw [← hE47, cm_up_nei _ _ (by decide)]; exact hz43
                                    have ghz54 := gv_eq hz54
                                    have hz55 : E45 91 (z37 : Int).toNat = ai_i z39 := by rw [← hE47, cm_up_eq]
                                    have ghz55 := gv_eq hz55
                                    refine w_aload (i := 0) (npc := 350) rfl rfl rfl ?_
                                    refine w_dup (npc := 351) rfl rfl ?_
                                    refine w_getf (i := 81) (ci := 8) (k := 13) (npc := 354) rfl (hI46.pl (by decide)) (hI46.T (by decide) rfl) (by decide) hz51 ?_
                                    refine w_const (n := 1) (npc := 355) rfl ?_
                                    refine w_iadd (npc := 356) rfl (by omega) ?_
                                    refine w_putf (i := 81) (ci := 8) (k := 13) (t := 0) (npc := 359) rfl (hI46.pl (by decide)) (hI46.T (by decide) rfl) (by decide) cm_fit0 ?_
                                    have hI58 := hI46.puti (i := 81) (k := 13) (z := z37 + 1) (lo := 0) (hi := 300) (by decide) rfl (by omega)
                                    have hF60 := cm_fr.up (i := 81) (k := 13) (v := ai_i (z37 + 1)) hF48 (by first | (simp; done) | (simp; omega) | (intro i k h; (try simp only at h); (try simp only); omega))
                                    have hR61 := rl.wr (i := 81) (k := 13) (v := ai_i (z37 + 1)) hR49 (by simp)
                                    generalize hE59 : cm_up E45 81 13 (ai_i (z37 + 1)) = E57 at hI58 hF60 hR61  ⊢
                                    have hz62 : E57 81 12 = ai_i z36 := by rw [← hE59, cm_up_ne _ _ (by decide)]; exact hz50
                                    have ghz62 := gv_eq hz62
                                    have hz63 : E57 90 (i : Int).toNat = ai_i z39 := by rw [← hE59, cm_up_nei _ _ (by decide)]; exact hz52
                                    have ghz63 := gv_eq hz63
                                    have hz64 : E57 86 (z39 : Int).toNat = ai_i z40 := by rw [← hE59, cm_up_nei _ _ (by decide)]; exact hz53
                                    have ghz64 := gv_eq hz64
                                    have hz65 : E57 87 (z39 : Int).toNat = ai_i z43 := by rw [← hE59, cm_up_nei _ _ (by decide)]; exact hz54
                                    have ghz65 := gv_eq hz65
                                    have hz66 : E57 91 (z37 : Int).toNat = ai_i z39 := by rw [← hE59, cm_up_nei _ _ (by decide)]; exact hz55
                                    have ghz66 := gv_eq hz66
                                    have hz67 : E57 81 13 = ai_i (z37 + 1) := by rw [← hE59, cm_up_eq]
                                    have ghz67 := gv_eq hz67
                                    refine w_iinc (i := 2) (n := 1) (npc := 362) (loc' := [cr 81, ai_i p, ai_i (i + 1), u234_3, u107_4]) rfl rfl (by omega) rfl ?_
                                    refine w_goto (pt := 295) rfl ?_
                                    exact ih295 (i + 1) E57 (by omega) hI58 hF60 hR61 (⟨by omega, by omega, by omega, by omega, fun j j0 j1 => by
      have e90 : ∀ q, gv E57 90 q = gv Eq295 90 q := fun q => by rw [← hE59, gv_ne _ _ (by simp), ← hE47, gv_ne _ _ (by simp)]
      by_cases hj : j = z37
      · refine ⟨i, by omega, by omega, ?_⟩
        rw [e90, hj, ← hE59, gv_ne _ _ (by simp), ← hE47, gv_up]
        omega
      · obtain ⟨q, q0, q1, q2⟩ := hv295.2.2.2.2 j j0 (by omega)
        refine ⟨q, q0, by omega, ?_⟩
        rw [e90, ← hE59, gv_ne _ _ (by simp), ← hE47, gv_ne _ _ (by omega)]
        exact q2⟩)
                                  · replace hc44 : ¬ (z43 = (0 : Int)) := hc44
                                    refine w_goto (pt := 359) rfl ?_
                                    refine w_iinc (i := 2) (n := 1) (npc := 362) (loc' := [cr 81, ai_i p, ai_i (i + 1), u234_3, u107_4]) rfl rfl (by omega) rfl ?_
                                    refine w_goto (pt := 295) rfl ?_
                                    exact ih295 (i + 1) Eq295 (by omega) hI295 hF295 hR295 (⟨by omega, by omega, by omega, by omega, hv295.2.2.2.2⟩)
                          exact loop295 _ (0) Eq234 (Nat.lt_succ_self _) hI234 hF234 hR234 (⟨by omega, by omega, by omega, by omega, fun j j0 j1 => by omega⟩)
                        · replace hc35 : ¬ (z34 ≤ w) := hc35
                          refine w_const (n := 1) (npc := 243) rfl ?_
                          refine w_istore (i := 3) (npc := 244) (loc' := [cr 81, ai_i p, ai_i w, ai_i 1, u107_4]) rfl rfl ?_
                          have loop244 : ∀ (nf : Nat) (n : Int) (Eq244 : cm_E), ((61 - n).toNat) < nf → cs_I T Eq244 nx → cm_fr (fun i k => (i = 81 ∧ (k = 12 ∨ k = 13)) ∨ i = 86 ∨ i = 87 ∨ i = 88 ∨ i = 89 ∨ i = 90 ∨ i = 91) E Eq244 → rl Eq244 → (1 ≤ n ∧ n ≤ 61 ∧ gv Eq244 81 12 ≤ 60 * w + n - 1 ∧ gv Eq244 81 13 = 0) → cm_wp (ai_find ai_c217 sl) (ai_ev sl (d + 6)) x (kc + 0) (ks + 0) (fun rk rv T' E' nx' => rk = 0 ∧ T = T' ∧ nx = nx' ∧ cs_I T E' nx ∧ cm_fr (fun i k => (i = 81 ∧ (k = 12 ∨ k = 13)) ∨ i = 86 ∨ i = 87 ∨ i = 88 ∨ i = 89 ∨ i = 90 ∨ i = 91) E E' ∧ rl E' ∧ ((∀ j : Int, 0 ≤ j → j < gv E' 81 13 → ∃ q : Int, 0 ≤ q ∧ q < gv E' 81 12 ∧ gv E' 90 q.toNat = gv E' 91 j.toNat))) 244 [cr 81, ai_i p, ai_i w, ai_i n, u107_4] [] T Eq244 nx kc ks := by
                            intro nf
                            induction nf with
                            | zero => intro n Eq244 hm; exact absurd hm (Nat.not_lt_zero _)
                            | succ nf244 ih =>
                              intro n Eq244 hm244 hI244 hF244 hR244 hv244
                              obtain ⟨z70, hz70, hz70a, hz70b⟩ := hI244.int 81 12 (lo := 0) (hi := 300) (by decide) (by decide) rfl
                              have ghz70 := gv_eq hz70
                              obtain ⟨z71, hz71, hz71a, hz71b⟩ := hI244.int 81 13 (lo := 0) (hi := 300) (by decide) (by decide) rfl
                              have ghz71 := gv_eq hz71
                              have ih244 := ih; clear ih
                              refine w_iload (i := 3) (npc := 245) rfl rfl ?_
                              refine w_aload (i := 0) (npc := 246) rfl rfl rfl ?_
                              refine w_getf (i := 81) (ci := 8) (k := 3) (npc := 249) rfl (hI244.pl (by decide)) (hI244.T (by decide) rfl) (by decide) (hI244.ref 81 3 (p := 83) (by decide) (by decide) rfl) ?_
                              refine w_const (n := 5) (npc := 250) rfl ?_
                              refine w_iload (i := 1) (npc := 251) rfl rfl ?_
                              refine w_imul (npc := 252) rfl (by omega) ?_
                              refine w_iload (i := 2) (npc := 253) rfl rfl ?_
                              refine w_iadd (npc := 254) rfl (by omega) ?_
                              obtain ⟨z74, hz74, hz74a, hz74b⟩ := hI244.int 83 (5 * p + w : Int).toNat (lo := 0) (hi := 60) (by decide) (show (5 * p + w : Int).toNat < 25 by omega) rfl
                              have ghz74 := gv_eq hz74
                              have g0hz74 : gv E 83 (5 * p + w : Int).toNat = z74 := (gv_fr hF244 (by simp)).trans ghz74
                              refine w_ald (i := 83) (t := 1) (n := 25) (npc := 255) rfl (hI244.pl (by decide)) (hI244.T (by decide) rfl) (by decide) rfl (by omega) hz74 ?_
                              refine w_icmp (c := .gt) (npc := 258) (pt := 287) rfl (fun hc75 => ?_) (fun hc75 => ?_)
                              · replace hc75 : z74 < n := hc75
                                refine w_iinc (i := 2) (n := 1) (npc := 290) (loc' := [cr 81, ai_i p, ai_i (w + 1), ai_i n, u107_4]) rfl rfl (by omega) rfl ?_
                                refine w_goto (pt := 234) rfl ?_
                                exact ih234 (w + 1) (ai_i n) Eq244 (by omega) hI244 hF244 hR244 (by omega)
                              · replace hc75 : ¬ (z74 < n) := hc75
                                refine w_aload (i := 0) (npc := 259) rfl rfl rfl ?_
                                refine w_iload (i := 1) (npc := 260) rfl rfl ?_
                                refine w_iload (i := 2) (npc := 261) rfl rfl ?_
                                refine w_iload (i := 3) (npc := 262) rfl rfl ?_
                                refine w_call (npc := 265) (a := [ai_i p, ai_i w, ai_i n]) (rest := [cr 81]) rfl rfl rfl rfl rfl (ct_m_rowOf (sl := sl) (x := x) (d := d + 5) (p) (w) (n) (by omega) (by omega) (by omega)) (Or.inr (fun _ _ _ _ _ hq => by have h1 := hq.1; omega)) (fun k9 v9 T9 E78 nx9 kc9 ks9 hq77 hk9 hs9 => ?_)
                                obtain ⟨rfl, rfl, rfl, rfl, z79, rfl, hz79⟩ := hq77
                                obtain rfl : kc = kc9 := by omega
                                obtain rfl : ks = ks9 := by omega
                                refine Or.inr (Or.inl ⟨rfl, ?_⟩)
                                refine w_const (n := 0) (npc := 266) rfl ?_
                                refine w_virt (ci := 8) (i := 81) (npc := 269) (a := [cr 81, ai_i z79, ai_i 0]) (rest := []) rfl rfl (hI244.pl (by decide)) (hI244.T (by decide) rfl) rfl rfl rfl rfl (ct_m_of (sl := sl) (x := x) (d := d + 5) (z79) (0) hI244 (by omega) (by omega) (by omega)) (Or.inl rfl) (fun k9 v9 T9 E81 nx9 kc9 ks9 hq80 hk9 hs9 => ?_)
                                obtain ⟨rfl, rfl, rfl, rfl, z82, rfl, hz82⟩ := hq80
                                obtain rfl : kc = kc9 := by omega
                                obtain rfl : ks = ks9 := by omega
                                refine Or.inr (Or.inl ⟨rfl, ?_⟩)
                                have hl83 : gv E 82 (166 * z79 + 0).toNat = gv Eq244 82 (166 * z79 + 0).toNat := gv_fr hF244 (by simp)
                                refine w_if (c := .ne) (npc := 272) (pt := 281) rfl (fun hc84 => ?_) (fun hc84 => ?_)
                                · replace hc84 : z82 ≠ (0 : Int) := hc84
                                  refine w_iinc (i := 3) (n := 1) (npc := 284) (loc' := [cr 81, ai_i p, ai_i w, ai_i (n + 1), u107_4]) rfl rfl (by omega) rfl ?_
                                  refine w_goto (pt := 244) rfl ?_
                                  exact ih244 (n + 1) Eq244 (by omega) hI244 hF244 hR244 (by omega)
                                · replace hc84 : ¬ (z82 ≠ (0 : Int)) := hc84
                                  refine w_aload (i := 0) (npc := 273) rfl rfl rfl ?_
                                  refine w_iload (i := 2) (npc := 274) rfl rfl ?_
                                  refine w_iload (i := 3) (npc := 275) rfl rfl ?_
                                  refine w_call (npc := 278) (a := [ai_i w, ai_i n]) (rest := [cr 81]) rfl rfl rfl rfl rfl (ct_m_markOf (sl := sl) (x := x) (d := d + 5) (w) (n) (by omega) (by omega)) (Or.inr (fun _ _ _ _ _ hq => by have h1 := hq.1; omega)) (fun k9 v9 T9 E87 nx9 kc9 ks9 hq86 hk9 hs9 => ?_)
                                  obtain ⟨rfl, rfl, rfl, rfl, z88, rfl, hz88⟩ := hq86
                                  obtain rfl : kc = kc9 := by omega
                                  obtain rfl : ks = ks9 := by omega
                                  refine Or.inr (Or.inl ⟨rfl, ?_⟩)
                                  refine w_virt (ci := 8) (i := 81) (npc := 281) (a := [cr 81, ai_i z88]) (rest := []) rfl rfl (hI244.pl (by decide)) (hI244.T (by decide) rfl) rfl rfl rfl rfl (ct_m_layMark (sl := sl) (x := x) (d := d + 4) (z88) hI244 (by omega) (by omega)) (Or.inl rfl) (fun k9 v9 T9 E90 nx9 kc9 ks9 hq89 hk9 hs9 => ?_)
                                  obtain ⟨rfl, rfl, rfl, hI92, hG93, hz91⟩ := hq89
                                  obtain rfl : kc = kc9 := by omega
                                  obtain rfl : ks = ks9 := by omega
                                  have hF94 := cm_fr.trans hF244 hG93 (by first | (simp; done) | (simp; omega) | (intro i k h; (try simp only at h); (try simp only); omega))
                                  have hR95 := rl.fr hR244 hG93 (by intro i k h; (try simp only at h); omega)
                                  have hz96 : E90 81 13 = ai_i z71 := (hG93 81 13 (by simp)).trans hz71
                                  have ghz96 := gv_eq hz96
                                  refine Or.inl ⟨rfl, ?_⟩
                                  refine w_iinc (i := 3) (n := 1) (npc := 284) (loc' := [cr 81, ai_i p, ai_i w, ai_i (n + 1), u107_4]) rfl rfl (by omega) rfl ?_
                                  refine w_goto (pt := 244) rfl ?_
                                  exact ih244 (n + 1) E90 (by omega) hI92 hF94 hR95 (by omega)
                          exact loop244 _ (1) Eq234 (Nat.lt_succ_self _) hI234 hF234 hR234 (by omega)
                    exact loop234 _ (0) (u107_3) Eq107 (Nat.lt_succ_self _) hI107 hF107 hR107 (by omega)
                  · replace hc31 : ¬ (z30 ≤ w) := hc31
                    refine w_const (n := 1) (npc := 116) rfl ?_
                    refine w_istore (i := 3) (npc := 117) (loc' := [cr 81, ai_i p, ai_i w, ai_i 1, u107_4]) rfl rfl ?_
                    have loop117 : ∀ (nf : Nat) (n : Int) (u117_4 : ai_V) (Eq117 : cm_E), ((61 - n).toNat) < nf → cs_I T Eq117 nx → cm_fr (fun i k => (i = 81 ∧ (k = 12 ∨ k = 13)) ∨ i = 86 ∨ i = 87 ∨ i = 88 ∨ i = 89 ∨ i = 90 ∨ i = 91) E Eq117 → rl Eq117 → (1 ≤ n ∧ n ≤ 61 ∧ gv Eq117 81 12 = 0 ∧ gv Eq117 81 13 = 0) → cm_wp (ai_find ai_c217 sl) (ai_ev sl (d + 6)) x (kc + 0) (ks + 0) (fun rk rv T' E' nx' => rk = 0 ∧ T = T' ∧ nx = nx' ∧ cs_I T E' nx ∧ cm_fr (fun i k => (i = 81 ∧ (k = 12 ∨ k = 13)) ∨ i = 86 ∨ i = 87 ∨ i = 88 ∨ i = 89 ∨ i = 90 ∨ i = 91) E E' ∧ rl E' ∧ ((∀ j : Int, 0 ≤ j → j < gv E' 81 13 → ∃ q : Int, 0 ≤ q ∧ q < gv E' 81 12 ∧ gv E' 90 q.toNat = gv E' 91 j.toNat))) 117 [cr 81, ai_i p, ai_i w, ai_i n, u117_4] [] T Eq117 nx kc ks := by
                      intro nf
                      induction nf with
                      | zero => intro n u117_4 Eq117 hm; exact absurd hm (Nat.not_lt_zero _)
                      | succ nf117 ih =>
                        intro n u117_4 Eq117 hm117 hI117 hF117 hR117 hv117
                        obtain ⟨z98, hz98, hz98a, hz98b⟩ := hI117.int 81 12 (lo := 0) (hi := 300) (by decide) (by decide) rfl
                        have ghz98 := gv_eq hz98
                        obtain ⟨z99, hz99, hz99a, hz99b⟩ := hI117.int 81 13 (lo := 0) (hi := 300) (by decide) (by decide) rfl
                        have ghz99 := gv_eq hz99
                        have ih117 := ih; clear ih
                        refine w_iload (i := 3) (npc := 118) rfl rfl ?_
                        refine w_aload (i := 0) (npc := 119) rfl rfl rfl ?_
                        refine w_getf (i := 81) (ci := 8) (k := 3) (npc := 122) rfl (hI117.pl (by decide)) (hI117.T (by decide) rfl) (by decide) (hI117.ref 81 3 (p := 83) (by decide) (by decide) rfl) ?_
                        refine w_const (n := 5) (npc := 123) rfl ?_
                        refine w_iload (i := 1) (npc := 124) rfl rfl ?_
                        refine w_imul (npc := 125) rfl (by omega) ?_
                        refine w_iload (i := 2) (npc := 126) rfl rfl ?_
                        refine w_iadd (npc := 127) rfl (by omega) ?_
                        obtain ⟨z102, hz102, hz102a, hz102b⟩ := hI117.int 83 (5 * p + w : Int).toNat (lo := 0) (hi := 60) (by decide) (show (5 * p + w : Int).toNat < 25 by omega) rfl
                        have ghz102 := gv_eq hz102
                        have g0hz102 : gv E 83 (5 * p + w : Int).toNat = z102 := (gv_fr hF117 (by simp)).trans ghz102
                        refine w_ald (i := 83) (t := 1) (n := 25) (npc := 128) rfl (hI117.pl (by decide)) (hI117.T (by decide) rfl) (by decide) rfl (by omega) hz102 ?_
                        refine w_icmp (c := .gt) (npc := 131) (pt := 226) rfl (fun hc103 => ?_) (fun hc103 => ?_)
                        · replace hc103 : z102 < n := hc103
                          refine w_iinc (i := 2) (n := 1) (npc := 229) (loc' := [cr 81, ai_i p, ai_i (w + 1), ai_i n, u117_4]) rfl rfl (by omega) rfl ?_
                          refine w_goto (pt := 107) rfl ?_
                          exact ih107 (w + 1) (ai_i n) (u117_4) Eq117 (by omega) hI117 hF117 hR117 (by omega)
                        · replace hc103 : ¬ (z102 < n) := hc103
                          refine w_iload (i := 1) (npc := 132) rfl rfl ?_
                          refine w_iload (i := 2) (npc := 133) rfl rfl ?_
                          refine w_iload (i := 3) (npc := 134) rfl rfl ?_
                          refine w_call (npc := 137) (a := [ai_i p, ai_i w, ai_i n]) (rest := []) rfl rfl rfl rfl rfl (ct_m_rowOf (sl := sl) (x := x) (d := d + 5) (p) (w) (n) (by omega) (by omega) (by omega)) (Or.inr (fun _ _ _ _ _ hq => by have h1 := hq.1; omega)) (fun k9 v9 T9 E106 nx9 kc9 ks9 hq105 hk9 hs9 => ?_)
                          obtain ⟨rfl, rfl, rfl, rfl, z107, rfl, hz107⟩ := hq105
                          obtain rfl : kc = kc9 := by omega
                          obtain rfl : ks = ks9 := by omega
                          refine Or.inr (Or.inl ⟨rfl, ?_⟩)
                          refine w_istore (i := 4) (npc := 139) (loc' := [cr 81, ai_i p, ai_i w, ai_i n, ai_i z107]) rfl rfl ?_
                          refine w_aload (i := 0) (npc := 140) rfl rfl rfl ?_
                          refine w_getf (i := 81) (ci := 8) (k := 6) (npc := 143) rfl (hI117.pl (by decide)) (hI117.T (by decide) rfl) (by decide) (hI117.ref 81 6 (p := 86) (by decide) (by decide) rfl) ?_
                          refine w_iload (i := 2) (npc := 144) rfl rfl ?_
                          refine w_iload (i := 3) (npc := 145) rfl rfl ?_
                          refine w_call (npc := 148) (a := [ai_i w, ai_i n]) (rest := [cr 86]) rfl rfl rfl rfl rfl (ct_m_markOf (sl := sl) (x := x) (d := d + 5) (w) (n) (by omega) (by omega)) (Or.inr (fun _ _ _ _ _ hq => by have h1 := hq.1; omega)) (fun k9 v9 T9 E109 nx9 kc9 ks9 hq108 hk9 hs9 => ?_)
                          obtain ⟨rfl, rfl, rfl, rfl, z110, rfl, hz110⟩ := hq108
                          obtain rfl : kc = kc9 := by omega
                          obtain rfl : ks = ks9 := by omega
                          refine Or.inr (Or.inl ⟨rfl, ?_⟩)
                          obtain ⟨z111, hz111, hz111a, hz111b⟩ := hI117.int 86 (z110 : Int).toNat (lo := 0) (hi := 1) (by decide) (show (z110 : Int).toNat < 300 by omega) rfl
                          have ghz111 := gv_eq hz111
                          refine w_ald (i := 86) (t := 2) (n := 300) (npc := 149) rfl (hI117.pl (by decide)) (hI117.T (by decide) rfl) (by decide) rfl (by omega) hz111 ?_
                          refine w_if (c := .ne) (npc := 152) (pt := 155) rfl (fun hc112 => ?_) (fun hc112 => ?_)
                          · replace hc112 : z111 ≠ (0 : Int) := hc112
                            refine w_aload (i := 0) (npc := 156) rfl rfl rfl ?_
                            refine w_iload (i := 4) (npc := 158) rfl rfl ?_
                            refine w_const (n := 0) (npc := 159) rfl ?_
                            refine w_virt (ci := 8) (i := 81) (npc := 162) (a := [cr 81, ai_i z107, ai_i 0]) (rest := []) rfl rfl (hI117.pl (by decide)) (hI117.T (by decide) rfl) rfl rfl rfl rfl (ct_m_of (sl := sl) (x := x) (d := d + 5) (z107) (0) hI117 (by omega) (by omega) (by omega)) (Or.inl rfl) (fun k9 v9 T9 E114 nx9 kc9 ks9 hq113 hk9 hs9 => ?_)
                            obtain ⟨rfl, rfl, rfl, rfl, z115, rfl, hz115⟩ := hq113
                            obtain rfl : kc = kc9 := by omega
                            obtain rfl : ks = ks9 := by omega
                            refine Or.inr (Or.inl ⟨rfl, ?_⟩)
                            have hl116 : gv E 82 (166 * z107 + 0).toNat = gv Eq117 82 (166 * z107 + 0).toNat := gv_fr hF117 (by simp)
                            refine w_const (n := 1) (npc := 163) rfl ?_
                            refine w_icmp (c := .ne) (npc := 166) (pt := 202) rfl (fun hc117 => ?_) (fun hc117 => ?_)
                            · replace hc117 : z115 ≠ (1 : Int) := hc117
                              refine w_aload (i := 0) (npc := 203) rfl rfl rfl ?_
                              refine w_iload (i := 4) (npc := 205) rfl rfl ?_
                              refine w_const (n := 0) (npc := 206) rfl ?_
                              refine w_virt (ci := 8) (i := 81) (npc := 209) (a := [cr 81, ai_i z107, ai_i 0]) (rest := []) rfl rfl (hI117.pl (by decide)) (hI117.T (by decide) rfl) rfl rfl rfl rfl (ct_m_of (sl := sl) (x := x) (d := d + 5) (z107) (0) hI117 (by omega) (by omega) (by omega)) (Or.inl rfl) (fun k9 v9 T9 E119 nx9 kc9 ks9 hq118 hk9 hs9 => ?_)
                              obtain ⟨rfl, rfl, rfl, rfl, z120, rfl, hz120⟩ := hq118
                              obtain rfl : kc = kc9 := by omega
                              obtain rfl : ks = ks9 := by omega
                              refine Or.inr (Or.inl ⟨rfl, ?_⟩)
                              have hl121 : gv E 82 (166 * z107 + 0).toNat = gv Eq117 82 (166 * z107 + 0).toNat := gv_fr hF117 (by simp)
                              refine w_const (n := 3) (npc := 210) rfl ?_
                              refine w_icmp (c := .ne) (npc := 213) (pt := 220) rfl (fun hc122 => ?_) (fun hc122 => ?_)
                              · replace hc122 : z120 ≠ (3 : Int) := hc122
                                refine w_iinc (i := 3) (n := 1) (npc := 223) (loc' := [cr 81, ai_i p, ai_i w, ai_i (n + 1), ai_i z107]) rfl rfl (by omega) rfl ?_
                                refine w_goto (pt := 117) rfl ?_
                                exact ih117 (n + 1) (ai_i z107) Eq117 (by omega) hI117 hF117 hR117 (by omega)
                              · replace hc122 : ¬ (z120 ≠ (3 : Int)) := hc122
                                obtain ⟨hw0, hw1, hw2, hw3, hw4, hw5⟩ := hR.1 z107 (by omega) (by omega)
                                have hw6 := (hw5 (by omega)).1
                                have hw7 : gv E 82 (166 * z107 + 9).toNat = gv Eq117 82 (166 * z107 + 9).toNat := gv_fr hF117 (by simp)
                                refine w_aload (i := 0) (npc := 214) rfl rfl rfl ?_
                                refine w_iload (i := 1) (npc := 215) rfl rfl ?_
                                refine w_iload (i := 4) (npc := 217) rfl rfl ?_
                                refine w_virt (ci := 8) (i := 81) (npc := 220) (a := [cr 81, ai_i p, ai_i z107]) (rest := []) rfl rfl (hI117.pl (by decide)) (hI117.T (by decide) rfl) rfl rfl rfl rfl (ct_m_tellMove (sl := sl) (x := x) (d := d + 0) (p) (z107) hI117 (by omega) (by omega) (by omega)) (Or.inl rfl) (fun k9 v9 T9 E125 nx9 kc9 ks9 hq124 hk9 hs9 => ?_)
                                obtain ⟨rfl, rfl, rfl, hI127, hG128, hz126⟩ := hq124
                                obtain rfl : kc = kc9 := by omega
                                obtain rfl : ks = ks9 := by omega
                                have hF129 := cm_fr.trans hF117 hG128 (by first | (simp; done) | (simp; omega) | (intro i k h; (try simp only at h); (try simp only); omega))
                                have hR130 := rl.fr hR117 hG128 (by intro i k h; (try simp only at h); omega)
                                have hz131 : E125 81 12 = ai_i z98 := (hG128 81 12 (by simp)).trans hz98
                                have ghz131 := gv_eq hz131
                                have hz132 : E125 81 13 = ai_i z99 := (hG128 81 13 (by simp)).trans hz99
                                have ghz132 := gv_eq hz132
                                refine Or.inl ⟨rfl, ?_⟩
                                refine w_iinc (i := 3) (n := 1) (npc := 223) (loc' := [cr 81, ai_i p, ai_i w, ai_i (n + 1), ai_i z107]) rfl rfl (by omega) rfl ?_
                                refine w_goto (pt := 117) rfl ?_
                                exact ih117 (n + 1) (ai_i z107) E125 (by omega) hI127 hF129 hR130 (by omega)
                            · replace hc117 : ¬ (z115 ≠ (1 : Int)) := hc117
                              refine w_aload (i := 0) (npc := 167) rfl rfl rfl ?_
                              refine w_iload (i := 1) (npc := 168) rfl rfl ?_
                              refine w_aload (i := 0) (npc := 169) rfl rfl rfl ?_
                              refine w_iload (i := 4) (npc := 171) rfl rfl ?_
                              refine w_const (n := 9) (npc := 173) rfl ?_
                              refine w_virt (ci := 8) (i := 81) (npc := 176) (a := [cr 81, ai_i z107, ai_i 9]) (rest := [ai_i p, cr 81]) rfl rfl (hI117.pl (by decide)) (hI117.T (by decide) rfl) rfl rfl rfl rfl (ct_m_of (sl := sl) (x := x) (d := d + 5) (z107) (9) hI117 (by omega) (by omega) (by omega)) (Or.inl rfl) (fun k9 v9 T9 E135 nx9 kc9 ks9 hq134 hk9 hs9 => ?_)
                              obtain ⟨rfl, rfl, rfl, rfl, z136, rfl, hz136⟩ := hq134
                              obtain rfl : kc = kc9 := by omega
                              obtain rfl : ks = ks9 := by omega
                              refine Or.inr (Or.inl ⟨rfl, ?_⟩)
                              have hl137 : gv E 82 (166 * z107 + 9).toNat = gv Eq117 82 (166 * z107 + 9).toNat := gv_fr hF117 (by simp)
                              refine w_virt (ci := 8) (i := 81) (npc := 179) (a := [cr 81, ai_i p, ai_i z136]) (rest := []) rfl rfl (hI117.pl (by decide)) (hI117.T (by decide) rfl) rfl rfl rfl rfl (ct_m_setNamed (sl := sl) (x := x) (d := d + 1) (p) (z136) hI117 (by omega) (by omega)) (Or.inl rfl) (fun k9 v9 T9 E139 nx9 kc9 ks9 hq138 hk9 hs9 => ?_)
                              obtain ⟨rfl, rfl, rfl, rfl, z140, rfl, hz140⟩ := hq138
                              obtain rfl : kc = kc9 := by omega
                              obtain rfl : ks = ks9 := by omega
                              refine Or.inr (Or.inl ⟨rfl, ?_⟩)
                              refine w_const (n := (-1)) (npc := 180) rfl ?_
                              refine w_icmp (c := .eq) (npc := 183) (pt := 202) rfl (fun hc141 => ?_) (fun hc141 => ?_)
                              · replace hc141 : z140 = ((-1) : Int) := hc141
                                refine w_aload (i := 0) (npc := 203) rfl rfl rfl ?_
                                refine w_iload (i := 4) (npc := 205) rfl rfl ?_
                                refine w_const (n := 0) (npc := 206) rfl ?_
                                refine w_virt (ci := 8) (i := 81) (npc := 209) (a := [cr 81, ai_i z107, ai_i 0]) (rest := []) rfl rfl (hI117.pl (by decide)) (hI117.T (by decide) rfl) rfl rfl rfl rfl (ct_m_of (sl := sl) (x := x) (d := d + 5) (z107) (0) hI117 (by omega) (by omega) (by omega)) (Or.inl rfl) (fun k9 v9 T9 E143 nx9 kc9 ks9 hq142 hk9 hs9 => ?_)
                                obtain ⟨rfl, rfl, rfl, rfl, z144, rfl, hz144⟩ := hq142
                                obtain rfl : kc = kc9 := by omega
                                obtain rfl : ks = ks9 := by omega
                                refine Or.inr (Or.inl ⟨rfl, ?_⟩)
                                have hl145 : gv E 82 (166 * z107 + 0).toNat = gv Eq117 82 (166 * z107 + 0).toNat := gv_fr hF117 (by simp)
                                refine w_const (n := 3) (npc := 210) rfl ?_
                                refine w_icmp (c := .ne) (npc := 213) (pt := 220) rfl (fun hc146 => ?_) (fun hc146 => ?_)
                                · replace hc146 : z144 ≠ (3 : Int) := hc146
                                  refine w_iinc (i := 3) (n := 1) (npc := 223) (loc' := [cr 81, ai_i p, ai_i w, ai_i (n + 1), ai_i z107]) rfl rfl (by omega) rfl ?_
                                  refine w_goto (pt := 117) rfl ?_
                                  exact ih117 (n + 1) (ai_i z107) Eq117 (by omega) hI117 hF117 hR117 (by omega)
                                · replace hc146 : ¬ (z144 ≠ (3 : Int)) := hc146
                                  obtain ⟨hw0, hw1, hw2, hw3, hw4, hw5⟩ := hR.1 z107 (by omega) (by omega)
                                  have hw6 := (hw5 (by omega)).1
                                  have hw7 : gv E 82 (166 * z107 + 9).toNat = gv Eq117 82 (166 * z107 + 9).toNat := gv_fr hF117 (by simp)
                                  refine w_aload (i := 0) (npc := 214) rfl rfl rfl ?_
                                  refine w_iload (i := 1) (npc := 215) rfl rfl ?_
                                  refine w_iload (i := 4) (npc := 217) rfl rfl ?_
                                  refine w_virt (ci := 8) (i := 81) (npc := 220) (a := [cr 81, ai_i p, ai_i z107]) (rest := []) rfl rfl (hI117.pl (by decide)) (hI117.T (by decide) rfl) rfl rfl rfl rfl (ct_m_tellMove (sl := sl) (x := x) (d := d + 0) (p) (z107) hI117 (by omega) (by omega) (by omega)) (Or.inl rfl) (fun k9 v9 T9 E149 nx9 kc9 ks9 hq148 hk9 hs9 => ?_)
                                  obtain ⟨rfl, rfl, rfl, hI151, hG152, hz150⟩ := hq148
                                  obtain rfl : kc = kc9 := by omega
                                  obtain rfl : ks = ks9 := by omega
                                  have hF153 := cm_fr.trans hF117 hG152 (by first | (simp; done) | (simp; omega) | (intro i k h; (try simp only at h); (try simp only); omega))
                                  have hR154 := rl.fr hR117 hG152 (by intro i k h; (try simp only at h); omega)
                                  have hz155 : E149 81 12 = ai_i z98 := (hG152 81 12 (by simp)).trans hz98
                                  have ghz155 := gv_eq hz155
                                  have hz156 : E149 81 13 = ai_i z99 := (hG152 81 13 (by simp)).trans hz99
                                  have ghz156 := gv_eq hz156
                                  refine Or.inl ⟨rfl, ?_⟩
                                  refine w_iinc (i := 3) (n := 1) (npc := 223) (loc' := [cr 81, ai_i p, ai_i w, ai_i (n + 1), ai_i z107]) rfl rfl (by omega) rfl ?_
                                  refine w_goto (pt := 117) rfl ?_
                                  exact ih117 (n + 1) (ai_i z107) E149 (by omega) hI151 hF153 hR154 (by omega)
                              · replace hc141 : ¬ (z140 = ((-1) : Int)) := hc141
                                refine w_aload (i := 0) (npc := 184) rfl rfl rfl ?_
                                refine w_getf (i := 81) (ci := 8) (k := 7) (npc := 187) rfl (hI117.pl (by decide)) (hI117.T (by decide) rfl) (by decide) (hI117.ref 81 7 (p := 87) (by decide) (by decide) rfl) ?_
                                refine w_aload (i := 0) (npc := 188) rfl rfl rfl ?_
                                refine w_iload (i := 1) (npc := 189) rfl rfl ?_
                                refine w_aload (i := 0) (npc := 190) rfl rfl rfl ?_
                                refine w_iload (i := 4) (npc := 192) rfl rfl ?_
                                refine w_const (n := 9) (npc := 194) rfl ?_
                                refine w_virt (ci := 8) (i := 81) (npc := 197) (a := [cr 81, ai_i z107, ai_i 9]) (rest := [ai_i p, cr 81, cr 87]) rfl rfl (hI117.pl (by decide)) (hI117.T (by decide) rfl) rfl rfl rfl rfl (ct_m_of (sl := sl) (x := x) (d := d + 5) (z107) (9) hI117 (by omega) (by omega) (by omega)) (Or.inl rfl) (fun k9 v9 T9 E159 nx9 kc9 ks9 hq158 hk9 hs9 => ?_)
                                obtain ⟨rfl, rfl, rfl, rfl, z160, rfl, hz160⟩ := hq158
                                obtain rfl : kc = kc9 := by omega
                                obtain rfl : ks = ks9 := by omega
                                refine Or.inr (Or.inl ⟨rfl, ?_⟩)
                                have hl161 : gv E 82 (166 * z107 + 9).toNat = gv Eq117 82 (166 * z107 + 9).toNat := gv_fr hF117 (by simp)
                                obtain rfl : z136 = z160 := by omega
                                refine w_virt (ci := 8) (i := 81) (npc := 200) (a := [cr 81, ai_i p, ai_i z136]) (rest := [cr 87]) rfl rfl (hI117.pl (by decide)) (hI117.T (by decide) rfl) rfl rfl rfl rfl (ct_m_setNamed (sl := sl) (x := x) (d := d + 1) (p) (z136) hI117 (by omega) (by omega)) (Or.inl rfl) (fun k9 v9 T9 E163 nx9 kc9 ks9 hq162 hk9 hs9 => ?_)
                                obtain ⟨rfl, rfl, rfl, rfl, z164, rfl, hz164⟩ := hq162
                                obtain rfl : kc = kc9 := by omega
                                obtain rfl : ks = ks9 := by omega
                                refine Or.inr (Or.inl ⟨rfl, ?_⟩)
                                refine w_const (n := 1) (npc := 201) rfl ?_
                                refine w_ast (i := 87) (k := 2) (n := 300) (npc := 202) rfl (hI117.pl (by decide)) (hI117.T (by decide) rfl) (by decide) (by omega) (cm_af2 (by omega)) ?_
                                have hI166 := hI117.puti (i := 87) (k := (z164 : Int).toNat) (z := 1) (lo := 0) (hi := 1) (by decide) rfl (by omega)
                                have hF168 := cm_fr.up (i := 87) (k := (z164 : Int).toNat) (v := ai_i 1) hF117 (by first | (simp; done) | (simp; omega) | (intro i k h; (try simp only at h); (try simp only); omega))
                                have hR169 := rl.wr (i := 87) (k := (z164 : Int).toNat) (v := ai_i 1) hR117 (by simp)
                                generalize hE167 : cm_up Eq117 87 (z164 : Int).toNat (ai_i 1) = E165 at hI166 hF168 hR169  ⊢
                                have hz170 : E165 81 12 = ai_i z98 := by rw [← hE167, cm_up_nei _ _ (by decide)]; exact hz98
                                have ghz170 := gv_eq hz170
                                have hz171 : E165 81 13 = ai_i z99 := by rw [← hE167, cm_up_nei _ _ (by decide)]; exact hz99
                                have ghz171 := gv_eq hz171
                                have hz172 : E165 83 (5 * p + w : Int).toNat = ai_i z102 := by rw [← hE167, cm_up_nei _ _ (by decide)]; exact hz102
                                have ghz172 := gv_eq hz172
                                have hz173 : E165 86 (z110 : Int).toNat = ai_i z111 := by rw [← hE167, cm_up_nei _ _ (by decide)]; exact hz111
                                have ghz173 := gv_eq hz173
                                have hz174 : E165 87 (z164 : Int).toNat = ai_i 1 := by rw [← hE167, cm_up_eq]
                                have ghz174 := gv_eq hz174
                                refine w_aload (i := 0) (npc := 203) rfl rfl rfl ?_
                                refine w_iload (i := 4) (npc := 205) rfl rfl ?_
                                refine w_const (n := 0) (npc := 206) rfl ?_
                                refine w_virt (ci := 8) (i := 81) (npc := 209) (a := [cr 81, ai_i z107, ai_i 0]) (rest := []) rfl rfl (hI166.pl (by decide)) (hI166.T (by decide) rfl) rfl rfl rfl rfl (ct_m_of (sl := sl) (x := x) (d := d + 5) (z107) (0) hI166 (by omega) (by omega) (by omega)) (Or.inl rfl) (fun k9 v9 T9 E176 nx9 kc9 ks9 hq175 hk9 hs9 => ?_)
                                obtain ⟨rfl, rfl, rfl, rfl, z177, rfl, hz177⟩ := hq175
                                obtain rfl : kc = kc9 := by omega
                                obtain rfl : ks = ks9 := by omega
                                refine Or.inr (Or.inl ⟨rfl, ?_⟩)
                                have hl178 : gv E 82 (166 * z107 + 0).toNat = gv E165 82 (166 * z107 + 0).toNat := gv_fr hF168 (by simp)
                                refine w_const (n := 3) (npc := 210) rfl ?_
                                refine w_icmp (c := .ne) (npc := 213) (pt := 220) rfl (fun hc179 => ?_) (fun hc179 => ?_)
                                · replace hc179 : z177 ≠ (3 : Int) := hc179
                                  refine w_iinc (i := 3) (n := 1) (npc := 223) (loc' := [cr 81, ai_i p, ai_i w, ai_i (n + 1), ai_i z107]) rfl rfl (by omega) rfl ?_
                                  refine w_goto (pt := 117) rfl ?_
                                  exact ih117 (n + 1) (ai_i z107) E165 (by omega) hI166 hF168 hR169 (by omega)
                                · replace hc179 : ¬ (z177 ≠ (3 : Int)) := hc179
                                  obtain ⟨hw0, hw1, hw2, hw3, hw4, hw5⟩ := hR.1 z107 (by omega) (by omega)
                                  have hw6 := (hw5 (by omega)).1
                                  have hw7 : gv E 82 (166 * z107 + 9).toNat = gv E165 82 (166 * z107 + 9).toNat := gv_fr hF168 (by simp)
                                  refine w_aload (i := 0) (npc := 214) rfl rfl rfl ?_
                                  refine w_iload (i := 1) (npc := 215) rfl rfl ?_
                                  refine w_iload (i := 4) (npc := 217) rfl rfl ?_
                                  refine w_virt (ci := 8) (i := 81) (npc := 220) (a := [cr 81, ai_i p, ai_i z107]) (rest := []) rfl rfl (hI166.pl (by decide)) (hI166.T (by decide) rfl) rfl rfl rfl rfl (ct_m_tellMove (sl := sl) (x := x) (d := d + 0) (p) (z107) hI166 (by omega) (by omega) (by omega)) (Or.inl rfl) (fun k9 v9 T9 E182 nx9 kc9 ks9 hq181 hk9 hs9 => ?_)
                                  obtain ⟨rfl, rfl, rfl, hI184, hG185, hz183⟩ := hq181
                                  obtain rfl : kc = kc9 := by omega
                                  obtain rfl : ks = ks9 := by omega
                                  have hF186 := cm_fr.trans hF168 hG185 (by first | (simp; done) | (simp; omega) | (intro i k h; (try simp only at h); (try simp only); omega))
                                  have hR187 := rl.fr hR169 hG185 (by intro i k h; (try simp only at h); omega)
                                  have hz188 : E182 81 12 = ai_i z98 := (hG185 81 12 (by simp)).trans hz170
                                  have ghz188 := gv_eq hz188
                                  have hz189 : E182 81 13 = ai_i z99 := (hG185 81 13 (by simp)).trans hz171
                                  have ghz189 := gv_eq hz189
                                  refine Or.inl ⟨rfl, ?_⟩
                                  refine w_iinc (i := 3) (n := 1) (npc := 223) (loc' := [cr 81, ai_i p, ai_i w, ai_i (n + 1), ai_i z107]) rfl rfl (by omega) rfl ?_
                                  refine w_goto (pt := 117) rfl ?_
                                  exact ih117 (n + 1) (ai_i z107) E182 (by omega) hI184 hF186 hR187 (by omega)
                          · replace hc112 : ¬ (z111 ≠ (0 : Int)) := hc112
                            refine w_goto (pt := 220) rfl ?_
                            refine w_iinc (i := 3) (n := 1) (npc := 223) (loc' := [cr 81, ai_i p, ai_i w, ai_i (n + 1), ai_i z107]) rfl rfl (by omega) rfl ?_
                            refine w_goto (pt := 117) rfl ?_
                            exact ih117 (n + 1) (ai_i z107) Eq117 (by omega) hI117 hF117 hR117 (by omega)
                    exact loop117 _ (1) (u107_4) Eq107 (Nat.lt_succ_self _) hI107 hF107 hR107 (by omega)
              exact loop107 _ (0) (u46_3) (ai_un) Eq46 (Nat.lt_succ_self _) hI46 hF46 hR46 (by omega)
            · replace hc27 : ¬ (z26 ≤ w) := hc27
              refine w_const (n := 1) (npc := 55) rfl ?_
              refine w_istore (i := 3) (npc := 56) (loc' := [cr 81, ai_i p, ai_i w, ai_i 1, ai_un]) rfl rfl ?_
              have loop56 : ∀ (nf : Nat) (n : Int) (Eq56 : cm_E), ((61 - n).toNat) < nf → cs_I T Eq56 nx → cm_fr (fun i k => (i = 81 ∧ (k = 12 ∨ k = 13)) ∨ i = 86 ∨ i = 87 ∨ i = 88 ∨ i = 89 ∨ i = 90 ∨ i = 91) E Eq56 → rl Eq56 → (1 ≤ n ∧ n ≤ 61 ∧ gv Eq56 81 12 = 0 ∧ gv Eq56 81 13 = 0) → cm_wp (ai_find ai_c217 sl) (ai_ev sl (d + 6)) x (kc + 0) (ks + 0) (fun rk rv T' E' nx' => rk = 0 ∧ T = T' ∧ nx = nx' ∧ cs_I T E' nx ∧ cm_fr (fun i k => (i = 81 ∧ (k = 12 ∨ k = 13)) ∨ i = 86 ∨ i = 87 ∨ i = 88 ∨ i = 89 ∨ i = 90 ∨ i = 91) E E' ∧ rl E' ∧ ((∀ j : Int, 0 ≤ j → j < gv E' 81 13 → ∃ q : Int, 0 ≤ q ∧ q < gv E' 81 12 ∧ gv E' 90 q.toNat = gv E' 91 j.toNat))) 56 [cr 81, ai_i p, ai_i w, ai_i n, ai_un] [] T Eq56 nx kc ks := by
                intro nf
                induction nf with
                | zero => intro n Eq56 hm; exact absurd hm (Nat.not_lt_zero _)
                | succ nf56 ih =>
                  intro n Eq56 hm56 hI56 hF56 hR56 hv56
                  obtain ⟨z192, hz192, hz192a, hz192b⟩ := hI56.int 81 12 (lo := 0) (hi := 300) (by decide) (by decide) rfl
                  have ghz192 := gv_eq hz192
                  obtain ⟨z193, hz193, hz193a, hz193b⟩ := hI56.int 81 13 (lo := 0) (hi := 300) (by decide) (by decide) rfl
                  have ghz193 := gv_eq hz193
                  have ih56 := ih; clear ih
                  refine w_iload (i := 3) (npc := 57) rfl rfl ?_
                  refine w_aload (i := 0) (npc := 58) rfl rfl rfl ?_
                  refine w_getf (i := 81) (ci := 8) (k := 3) (npc := 61) rfl (hI56.pl (by decide)) (hI56.T (by decide) rfl) (by decide) (hI56.ref 81 3 (p := 83) (by decide) (by decide) rfl) ?_
                  refine w_const (n := 5) (npc := 62) rfl ?_
                  refine w_iload (i := 1) (npc := 63) rfl rfl ?_
                  refine w_imul (npc := 64) rfl (by omega) ?_
                  refine w_iload (i := 2) (npc := 65) rfl rfl ?_
                  refine w_iadd (npc := 66) rfl (by omega) ?_
                  obtain ⟨z196, hz196, hz196a, hz196b⟩ := hI56.int 83 (5 * p + w : Int).toNat (lo := 0) (hi := 60) (by decide) (show (5 * p + w : Int).toNat < 25 by omega) rfl
                  have ghz196 := gv_eq hz196
                  have g0hz196 : gv E 83 (5 * p + w : Int).toNat = z196 := (gv_fr hF56 (by simp)).trans ghz196
                  refine w_ald (i := 83) (t := 1) (n := 25) (npc := 67) rfl (hI56.pl (by decide)) (hI56.T (by decide) rfl) (by decide) rfl (by omega) hz196 ?_
                  refine w_icmp (c := .gt) (npc := 70) (pt := 99) rfl (fun hc197 => ?_) (fun hc197 => ?_)
                  · replace hc197 : z196 < n := hc197
                    refine w_iinc (i := 2) (n := 1) (npc := 102) (loc' := [cr 81, ai_i p, ai_i (w + 1), ai_i n, ai_un]) rfl rfl (by omega) rfl ?_
                    refine w_goto (pt := 46) rfl ?_
                    exact ih46 (w + 1) (ai_i n) Eq56 (by omega) hI56 hF56 hR56 (by omega)
                  · replace hc197 : ¬ (z196 < n) := hc197
                    refine w_aload (i := 0) (npc := 71) rfl rfl rfl ?_
                    refine w_getf (i := 81) (ci := 8) (k := 8) (npc := 74) rfl (hI56.pl (by decide)) (hI56.T (by decide) rfl) (by decide) (hI56.ref 81 8 (p := 88) (by decide) (by decide) rfl) ?_
                    refine w_iload (i := 2) (npc := 75) rfl rfl ?_
                    refine w_iload (i := 3) (npc := 76) rfl rfl ?_
                    refine w_call (npc := 79) (a := [ai_i w, ai_i n]) (rest := [cr 88]) rfl rfl rfl rfl rfl (ct_m_markOf (sl := sl) (x := x) (d := d + 5) (w) (n) (by omega) (by omega)) (Or.inr (fun _ _ _ _ _ hq => by have h1 := hq.1; omega)) (fun k9 v9 T9 E200 nx9 kc9 ks9 hq199 hk9 hs9 => ?_)
                    obtain ⟨rfl, rfl, rfl, rfl, z201, rfl, hz201⟩ := hq199
                    obtain rfl : kc = kc9 := by omega
                    obtain rfl : ks = ks9 := by omega
                    refine Or.inr (Or.inl ⟨rfl, ?_⟩)
                    refine w_const (n := 166) (npc := 82) rfl ?_
                    refine w_iload (i := 1) (npc := 83) rfl rfl ?_
                    refine w_iload (i := 2) (npc := 84) rfl rfl ?_
                    refine w_iload (i := 3) (npc := 85) rfl rfl ?_
                    refine w_call (npc := 88) (a := [ai_i p, ai_i w, ai_i n]) (rest := [ai_i 166, ai_i z201, cr 88]) rfl rfl rfl rfl rfl (ct_m_rowOf (sl := sl) (x := x) (d := d + 5) (p) (w) (n) (by omega) (by omega) (by omega)) (Or.inr (fun _ _ _ _ _ hq => by have h1 := hq.1; omega)) (fun k9 v9 T9 E203 nx9 kc9 ks9 hq202 hk9 hs9 => ?_)
                    obtain ⟨rfl, rfl, rfl, rfl, z204, rfl, hz204⟩ := hq202
                    obtain rfl : kc = kc9 := by omega
                    obtain rfl : ks = ks9 := by omega
                    refine Or.inr (Or.inl ⟨rfl, ?_⟩)
                    refine w_imul (npc := 89) rfl (by omega) ?_
                    refine w_const (n := 10) (npc := 91) rfl ?_
                    refine w_iadd (npc := 92) rfl (by omega) ?_
                    refine w_ast (i := 88) (k := 1) (n := 300) (npc := 93) rfl (hI56.pl (by decide)) (hI56.T (by decide) rfl) (by decide) (by omega) cm_af1 ?_
                    have hI208 := hI56.puti (i := 88) (k := (z201 : Int).toNat) (z := 166 * z204 + 10) (lo := 0) (hi := 249000) (by decide) rfl (by omega)
                    have hF210 := cm_fr.up (i := 88) (k := (z201 : Int).toNat) (v := ai_i (166 * z204 + 10)) hF56 (by first | (simp; done) | (simp; omega) | (intro i k h; (try simp only at h); (try simp only); omega))
                    have hR211 := rl.wr (i := 88) (k := (z201 : Int).toNat) (v := ai_i (166 * z204 + 10)) hR56 (by simp)
                    generalize hE209 : cm_up Eq56 88 (z201 : Int).toNat (ai_i (166 * z204 + 10)) = E207 at hI208 hF210 hR211  ⊢
                    have hz212 : E207 81 12 = ai_i z192 := by rw [← hE209, cm_up_nei _ _ (by decide)]; exact hz192
                    have ghz212 := gv_eq hz212
                    have hz213 : E207 81 13 = ai_i z193 := by rw [← hE209, cm_up_nei _ _ (by decide)]; exact hz193
                    have ghz213 := gv_eq hz213
                    have hz214 : E207 83 (5 * p + w : Int).toNat = ai_i z196 := by rw [← hE209, cm_up_nei _ _ (by decide)]; exact hz196
                    have ghz214 := gv_eq hz214
                    have hz215 : E207 88 (z201 : Int).toNat = ai_i (166 * z204 + 10) := by rw [← hE209, cm_up_eq]
                    have ghz215 := gv_eq hz215
                    refine w_iinc (i := 3) (n := 1) (npc := 96) (loc' := [cr 81, ai_i p, ai_i w, ai_i (n + 1), ai_un]) rfl rfl (by omega) rfl ?_
                    refine w_goto (pt := 56) rfl ?_
                    exact ih56 (n + 1) E207 (by omega) hI208 hF210 hR211 (by omega)
              exact loop56 _ (1) Eq46 (Nat.lt_succ_self _) hI46 hF46 hR46 (by omega)
        exact loop46 _ (0) (ai_un) Eq17 (Nat.lt_succ_self _) hI17 hF17 hR17 (by omega)
      · replace hc23 : ¬ ((300 : Int) ≤ i) := hc23
        refine w_aload (i := 0) (npc := 25) rfl rfl rfl ?_
        refine w_getf (i := 81) (ci := 8) (k := 7) (npc := 28) rfl (hI17.pl (by decide)) (hI17.T (by decide) rfl) (by decide) (hI17.ref 81 7 (p := 87) (by decide) (by decide) rfl) ?_
        refine w_iload (i := 2) (npc := 29) rfl rfl ?_
        refine w_const (n := 0) (npc := 30) rfl ?_
        refine w_ast (i := 87) (k := 2) (n := 300) (npc := 31) rfl (hI17.pl (by decide)) (hI17.T (by decide) rfl) (by decide) (by omega) (cm_af2 (by omega)) ?_
        have hI218 := hI17.puti (i := 87) (k := (i : Int).toNat) (z := 0) (lo := 0) (hi := 1) (by decide) rfl (by omega)
        have hF220 := cm_fr.up (i := 87) (k := (i : Int).toNat) (v := ai_i 0) hF17 (by first | (simp; done) | (simp; omega) | (intro i k h; (try simp only at h); (try simp only); omega))
        have hR221 := rl.wr (i := 87) (k := (i : Int).toNat) (v := ai_i 0) hR17 (by simp)
        generalize hE219 : cm_up Eq17 87 (i : Int).toNat (ai_i 0) = E217 at hI218 hF220 hR221  ⊢
        have hz222 : E217 81 12 = ai_i z21 := by rw [← hE219, cm_up_nei _ _ (by decide)]; exact hz21
        have ghz222 := gv_eq hz222
        have hz223 : E217 81 13 = ai_i z22 := by rw [← hE219, cm_up_nei _ _ (by decide)]; exact hz22
        have ghz223 := gv_eq hz223
        have hz224 : E217 87 (i : Int).toNat = ai_i 0 := by rw [← hE219, cm_up_eq]
        have ghz224 := gv_eq hz224
        refine w_aload (i := 0) (npc := 32) rfl rfl rfl ?_
        refine w_getf (i := 81) (ci := 8) (k := 9) (npc := 35) rfl (hI218.pl (by decide)) (hI218.T (by decide) rfl) (by decide) (hI218.ref 81 9 (p := 89) (by decide) (by decide) rfl) ?_
        refine w_iload (i := 2) (npc := 36) rfl rfl ?_
        refine w_const (n := 0) (npc := 37) rfl ?_
        refine w_ast (i := 89) (k := 1) (n := 300) (npc := 38) rfl (hI218.pl (by decide)) (hI218.T (by decide) rfl) (by decide) (by omega) cm_af1 ?_
        have hI226 := hI218.puti (i := 89) (k := (i : Int).toNat) (z := 0) (lo := 0) (hi := 65540) (by decide) rfl (by omega)
        have hF228 := cm_fr.up (i := 89) (k := (i : Int).toNat) (v := ai_i 0) hF220 (by first | (simp; done) | (simp; omega) | (intro i k h; (try simp only at h); (try simp only); omega))
        have hR229 := rl.wr (i := 89) (k := (i : Int).toNat) (v := ai_i 0) hR221 (by simp)
        generalize hE227 : cm_up E217 89 (i : Int).toNat (ai_i 0) = E225 at hI226 hF228 hR229  ⊢
        have hz230 : E225 81 12 = ai_i z21 := by rw [← hE227, cm_up_nei _ _ (by decide)]; exact hz222
        have ghz230 := gv_eq hz230
        have hz231 : E225 81 13 = ai_i z22 := by rw [← hE227, cm_up_nei _ _ (by decide)]; exact hz223
        have ghz231 := gv_eq hz231
        have hz232 : E225 87 (i : Int).toNat = ai_i 0 := by rw [← hE227, cm_up_nei _ _ (by decide)]; exact hz224
        have ghz232 := gv_eq hz232
        have hz233 : E225 89 (i : Int).toNat = ai_i 0 := by rw [← hE227, cm_up_eq]
        have ghz233 := gv_eq hz233
        refine w_iinc (i := 2) (n := 1) (npc := 41) (loc' := [cr 81, ai_i p, ai_i (i + 1), ai_un, ai_un]) rfl rfl (by omega) rfl ?_
        refine w_goto (pt := 17) rfl ?_
        exact ih17 (i + 1) E225 (by omega) hI226 hF228 hR229 (by omega)
  exact loop17 _ (0) E14 (Nat.lt_succ_self _) hI15 hF17 hR18 (by omega)
set_option maxRecDepth 16384 in
theorem ct_m_placeInRow {sl : Int × Int} {x : ai_E} {d : Nat} {T : cm_T} {E : cm_E} {nx : Nat} (a : Int) (hI : cs_I T E nx) (hp0 : ∃ q : Int, 0 ≤ q ∧ q < gv E 81 12 ∧ gv E 90 q.toNat = a) : cm_ct (ai_ev sl (d + 1)) x 194 [cr 81, ai_i a] T E nx 0 0 (fun rk rv T' E' nx' => rk = 1 ∧ T = T' ∧ E = E' ∧ nx = nx' ∧ ∃ z : Int, rv = ai_i z ∧ (0 ≤ z ∧ z ≤ 299 ∧ z < gv E 81 12)) := by
  obtain ⟨q0, hq0, hq1, hq2⟩ := hp0
  obtain ⟨zr, hzr, hzra, hzrb⟩ := hI.int 81 12 (lo := 0) (hi := 300) (by decide) (by decide) rfl
  have ghzr := gv_eq hzr
  refine cm_body (M := ai_m194) rfl rfl (fun kc ks => ?_)
  show cm_wp (ai_find ai_c194 sl) (ai_ev sl (d + 0)) x (kc + 0) (ks + 0) _ 0 [cr 81, ai_i a, ai_un] [] T E nx kc ks
  refine w_const (n := 0) (npc := 1) rfl ?_
  refine w_istore (i := 2) (npc := 2) (loc' := [cr 81, ai_i a, ai_i 0]) rfl rfl ?_
  have loop2 : ∀ (nf : Nat) (i : Int), ((q0 - i).toNat) < nf → (0 ≤ i ∧ i ≤ q0) → cm_wp (ai_find ai_c194 sl) (ai_ev sl (d + 0)) x (kc + 0) (ks + 0) (fun rk rv T' E' nx' => rk = 1 ∧ T = T' ∧ E = E' ∧ nx = nx' ∧ ∃ z : Int, rv = ai_i z ∧ (0 ≤ z ∧ z ≤ 299 ∧ z < gv E 81 12)) 2 [cr 81, ai_i a, ai_i i] [] T E nx kc ks := by
    intro nf
    induction nf with
    | zero => intro i hm; exact absurd hm (Nat.not_lt_zero _)
    | succ nf2 ih =>
      intro i hm2 hv2
      have ih2 := ih; clear ih
      refine w_aload (i := 0) (npc := 3) rfl rfl rfl ?_
      refine w_getf (i := 81) (ci := 8) (k := 10) (npc := 6) rfl (hI.pl (by decide)) (hI.T (by decide) rfl) (by decide) (hI.ref 81 10 (p := 90) (by decide) (by decide) rfl) ?_
      refine w_iload (i := 2) (npc := 7) rfl rfl ?_
      obtain ⟨z1, hz1, hz1a, hz1b⟩ := hI.int 90 (i : Int).toNat (lo := 0) (hi := 299) (by decide) (show (i : Int).toNat < 300 by omega) rfl
      have ghz1 := gv_eq hz1
      refine w_ald (i := 90) (t := 1) (n := 300) (npc := 8) rfl (hI.pl (by decide)) (hI.T (by decide) rfl) (by decide) rfl (by omega) hz1 ?_
      refine w_iload (i := 1) (npc := 9) rfl rfl ?_
      refine w_icmp (c := .eq) (npc := 12) (pt := 18) rfl (fun hc2 => ?_) (fun hc2 => ?_)
      · replace hc2 : z1 = a := hc2
        refine w_iload (i := 2) (npc := 19) rfl rfl ?_
        exact w_iret rfl (⟨rfl, rfl, rfl, rfl, i, rfl, by omega⟩) (by omega) (by omega)
      · replace hc2 : ¬ (z1 = a) := hc2
        have hne : i ≠ q0 := fun q => by rw [← q] at hq2; omega
        refine w_iinc (i := 2) (n := 1) (npc := 15) (loc' := [cr 81, ai_i a, ai_i (i + 1)]) rfl rfl (by omega) rfl ?_
        refine w_goto (pt := 2) rfl ?_
        exact ih2 (i + 1) (by omega) (by omega)
  exact loop2 _ (0) (Nat.lt_succ_self _) (by omega)
set_option maxRecDepth 16384 in
theorem ct_m_keyBehind {sl : Int × Int} {x : ai_E} {d : Nat} {T : cm_T} {E : cm_E} {nx : Nat} (p : Int) (hI : cs_I T E nx) (hp0 : 0 ≤ p ∧ p ≤ gv E 81 13) (hp1 : (∀ j : Int, 0 ≤ j → j < gv E 81 13 → ∃ q : Int, 0 ≤ q ∧ q < gv E 81 12 ∧ gv E 90 q.toNat = gv E 91 j.toNat)) : cm_ct (ai_ev sl (d + 2)) x 175 [cr 81, ai_i p] T E nx 0 0 (fun rk rv T' E' nx' => rk = 1 ∧ T = T' ∧ E = E' ∧ nx = nx' ∧ ∃ z : Int, rv = ai_i z ∧ (-1 ≤ z ∧ z ≤ 249000)) := by
  obtain ⟨zt, hzt, hzta, hztb⟩ := hI.int 81 13 (lo := 0) (hi := 300) (by decide) (by decide) rfl
  have ghzt := gv_eq hzt
  refine cm_body (M := ai_m175) rfl rfl (fun kc ks => ?_)
  show cm_wp (ai_find ai_c175 sl) (ai_ev sl (d + 1)) x (kc + 0) (ks + 0) _ 0 [cr 81, ai_i p, ai_un] [] T E nx kc ks
  refine w_iload (i := 1) (npc := 1) rfl rfl ?_
  refine w_if (c := .ne) (npc := 4) (pt := 8) rfl (fun hc1 => ?_) (fun hc1 => ?_)
  · replace hc1 : p ≠ (0 : Int) := hc1
    refine w_aload (i := 0) (npc := 9) rfl rfl rfl ?_
    refine w_aload (i := 0) (npc := 10) rfl rfl rfl ?_
    refine w_getf (i := 81) (ci := 8) (k := 11) (npc := 13) rfl (hI.pl (by decide)) (hI.T (by decide) rfl) (by decide) (hI.ref 81 11 (p := 91) (by decide) (by decide) rfl) ?_
    refine w_iload (i := 1) (npc := 14) rfl rfl ?_
    refine w_const (n := 1) (npc := 15) rfl ?_
    refine w_isub (npc := 16) rfl (by omega) ?_
    obtain ⟨z3, hz3, hz3a, hz3b⟩ := hI.int 91 (p - 1 : Int).toNat (lo := 0) (hi := 299) (by decide) (show (p - 1 : Int).toNat < 300 by omega) rfl
    have ghz3 := gv_eq hz3
    refine w_ald (i := 91) (t := 1) (n := 300) (npc := 17) rfl (hI.pl (by decide)) (hI.T (by decide) rfl) (by decide) rfl (by omega) hz3 ?_
    refine w_virt (ci := 8) (i := 81) (npc := 20) (a := [cr 81, ai_i z3]) (rest := []) rfl rfl (hI.pl (by decide)) (hI.T (by decide) rfl) rfl rfl rfl rfl (ct_m_placeInRow (sl := sl) (x := x) (d := d + 0) (z3) hI (by obtain ⟨q, q0, q1, q2⟩ := hp1 (p - 1) (by omega) (by omega); exact ⟨q, q0, q1, by omega⟩)) (Or.inl rfl) (fun k9 v9 T9 E5 nx9 kc9 ks9 hq4 hk9 hs9 => ?_)
    obtain ⟨rfl, rfl, rfl, rfl, z6, rfl, hz6⟩ := hq4
    obtain rfl : kc = kc9 := by omega
    obtain rfl : ks = ks9 := by omega
    refine Or.inr (Or.inl ⟨rfl, ?_⟩)
    refine w_const (n := 1) (npc := 21) rfl ?_
    refine w_iadd (npc := 22) rfl (by omega) ?_
    refine w_istore (i := 2) (npc := 23) (loc' := [cr 81, ai_i p, ai_i (z6 + 1)]) rfl rfl ?_
    have loop23 : ∀ (nf : Nat) (i : Int), ((300 - i).toNat) < nf → (0 ≤ i ∧ i ≤ 300) → cm_wp (ai_find ai_c175 sl) (ai_ev sl (d + 1)) x (kc + 0) (ks + 0) (fun rk rv T' E' nx' => rk = 1 ∧ T = T' ∧ E = E' ∧ nx = nx' ∧ ∃ z : Int, rv = ai_i z ∧ (-1 ≤ z ∧ z ≤ 249000)) 23 [cr 81, ai_i p, ai_i i] [] T E nx kc ks := by
      intro nf
      induction nf with
      | zero => intro i hm; exact absurd hm (Nat.not_lt_zero _)
      | succ nf23 ih =>
        intro i hm23 hv23
        have ih23 := ih; clear ih
        refine w_iload (i := 1) (npc := 24) rfl rfl ?_
        refine w_if (c := .le) (npc := 27) (pt := 64) rfl (fun hc8 => ?_) (fun hc8 => ?_)
        · replace hc8 : p ≤ (0 : Int) := hc8
          refine w_iload (i := 2) (npc := 65) rfl rfl ?_
          refine w_aload (i := 0) (npc := 66) rfl rfl rfl ?_
          obtain ⟨z9, hz9, hz9a, hz9b⟩ := hI.int 81 12 (lo := 0) (hi := 300) (by decide) (by decide) rfl
          have ghz9 := gv_eq hz9
          refine w_getf (i := 81) (ci := 8) (k := 12) (npc := 69) rfl (hI.pl (by decide)) (hI.T (by decide) rfl) (by decide) hz9 ?_
          refine w_icmp (c := .ge) (npc := 72) (pt := 86) rfl (fun hc10 => ?_) (fun hc10 => ?_)
          · replace hc10 : z9 ≤ i := hc10
            refine w_const (n := (-1)) (npc := 87) rfl ?_
            exact w_iret rfl (⟨rfl, rfl, rfl, rfl, (-1), rfl, by omega⟩) (by omega) (by omega)
          · replace hc10 : ¬ (z9 ≤ i) := hc10
            refine w_aload (i := 0) (npc := 73) rfl rfl rfl ?_
            refine w_getf (i := 81) (ci := 8) (k := 8) (npc := 76) rfl (hI.pl (by decide)) (hI.T (by decide) rfl) (by decide) (hI.ref 81 8 (p := 88) (by decide) (by decide) rfl) ?_
            refine w_aload (i := 0) (npc := 77) rfl rfl rfl ?_
            refine w_getf (i := 81) (ci := 8) (k := 10) (npc := 80) rfl (hI.pl (by decide)) (hI.T (by decide) rfl) (by decide) (hI.ref 81 10 (p := 90) (by decide) (by decide) rfl) ?_
            refine w_iload (i := 2) (npc := 81) rfl rfl ?_
            obtain ⟨z11, hz11, hz11a, hz11b⟩ := hI.int 90 (i : Int).toNat (lo := 0) (hi := 299) (by decide) (show (i : Int).toNat < 300 by omega) rfl
            have ghz11 := gv_eq hz11
            refine w_ald (i := 90) (t := 1) (n := 300) (npc := 82) rfl (hI.pl (by decide)) (hI.T (by decide) rfl) (by decide) rfl (by omega) hz11 ?_
            obtain ⟨z12, hz12, hz12a, hz12b⟩ := hI.int 88 (z11 : Int).toNat (lo := 0) (hi := 249000) (by decide) (show (z11 : Int).toNat < 300 by omega) rfl
            have ghz12 := gv_eq hz12
            refine w_ald (i := 88) (t := 1) (n := 300) (npc := 83) rfl (hI.pl (by decide)) (hI.T (by decide) rfl) (by decide) rfl (by omega) hz12 ?_
            refine w_goto (pt := 87) rfl ?_
            exact w_iret rfl (⟨rfl, rfl, rfl, rfl, z12, rfl, by omega⟩) (by omega) (by omega)
        · replace hc8 : ¬ (p ≤ (0 : Int)) := hc8
          refine w_iload (i := 2) (npc := 28) rfl rfl ?_
          refine w_aload (i := 0) (npc := 29) rfl rfl rfl ?_
          obtain ⟨z13, hz13, hz13a, hz13b⟩ := hI.int 81 12 (lo := 0) (hi := 300) (by decide) (by decide) rfl
          have ghz13 := gv_eq hz13
          refine w_getf (i := 81) (ci := 8) (k := 12) (npc := 32) rfl (hI.pl (by decide)) (hI.T (by decide) rfl) (by decide) hz13 ?_
          refine w_icmp (c := .ge) (npc := 35) (pt := 64) rfl (fun hc14 => ?_) (fun hc14 => ?_)
          · replace hc14 : z13 ≤ i := hc14
            refine w_iload (i := 2) (npc := 65) rfl rfl ?_
            refine w_aload (i := 0) (npc := 66) rfl rfl rfl ?_
            refine w_getf (i := 81) (ci := 8) (k := 12) (npc := 69) rfl (hI.pl (by decide)) (hI.T (by decide) rfl) (by decide) hz13 ?_
            refine w_icmp (c := .ge) (npc := 72) (pt := 86) rfl (fun hc15 => ?_) (fun hc15 => ?_)
            · replace hc15 : z13 ≤ i := hc15
              refine w_const (n := (-1)) (npc := 87) rfl ?_
              exact w_iret rfl (⟨rfl, rfl, rfl, rfl, (-1), rfl, by omega⟩) (by omega) (by omega)
            · replace hc15 : ¬ (z13 ≤ i) := hc15
              refine w_aload (i := 0) (npc := 73) rfl rfl rfl ?_
              refine w_getf (i := 81) (ci := 8) (k := 8) (npc := 76) rfl (hI.pl (by decide)) (hI.T (by decide) rfl) (by decide) (hI.ref 81 8 (p := 88) (by decide) (by decide) rfl) ?_
              refine w_aload (i := 0) (npc := 77) rfl rfl rfl ?_
              refine w_getf (i := 81) (ci := 8) (k := 10) (npc := 80) rfl (hI.pl (by decide)) (hI.T (by decide) rfl) (by decide) (hI.ref 81 10 (p := 90) (by decide) (by decide) rfl) ?_
              refine w_iload (i := 2) (npc := 81) rfl rfl ?_
              obtain ⟨z16, hz16, hz16a, hz16b⟩ := hI.int 90 (i : Int).toNat (lo := 0) (hi := 299) (by decide) (show (i : Int).toNat < 300 by omega) rfl
              have ghz16 := gv_eq hz16
              refine w_ald (i := 90) (t := 1) (n := 300) (npc := 82) rfl (hI.pl (by decide)) (hI.T (by decide) rfl) (by decide) rfl (by omega) hz16 ?_
              obtain ⟨z17, hz17, hz17a, hz17b⟩ := hI.int 88 (z16 : Int).toNat (lo := 0) (hi := 249000) (by decide) (show (z16 : Int).toNat < 300 by omega) rfl
              have ghz17 := gv_eq hz17
              refine w_ald (i := 88) (t := 1) (n := 300) (npc := 83) rfl (hI.pl (by decide)) (hI.T (by decide) rfl) (by decide) rfl (by omega) hz17 ?_
              refine w_goto (pt := 87) rfl ?_
              exact w_iret rfl (⟨rfl, rfl, rfl, rfl, z17, rfl, by omega⟩) (by omega) (by omega)
          · replace hc14 : ¬ (z13 ≤ i) := hc14
            refine w_aload (i := 0) (npc := 36) rfl rfl rfl ?_
            refine w_aload (i := 0) (npc := 37) rfl rfl rfl ?_
            refine w_getf (i := 81) (ci := 8) (k := 8) (npc := 40) rfl (hI.pl (by decide)) (hI.T (by decide) rfl) (by decide) (hI.ref 81 8 (p := 88) (by decide) (by decide) rfl) ?_
            refine w_aload (i := 0) (npc := 41) rfl rfl rfl ?_
            refine w_getf (i := 81) (ci := 8) (k := 10) (npc := 44) rfl (hI.pl (by decide)) (hI.T (by decide) rfl) (by decide) (hI.ref 81 10 (p := 90) (by decide) (by decide) rfl) ?_
            refine w_iload (i := 2) (npc := 45) rfl rfl ?_
            obtain ⟨z18, hz18, hz18a, hz18b⟩ := hI.int 90 (i : Int).toNat (lo := 0) (hi := 299) (by decide) (show (i : Int).toNat < 300 by omega) rfl
            have ghz18 := gv_eq hz18
            refine w_ald (i := 90) (t := 1) (n := 300) (npc := 46) rfl (hI.pl (by decide)) (hI.T (by decide) rfl) (by decide) rfl (by omega) hz18 ?_
            obtain ⟨z19, hz19, hz19a, hz19b⟩ := hI.int 88 (z18 : Int).toNat (lo := 0) (hi := 249000) (by decide) (show (z18 : Int).toNat < 300 by omega) rfl
            have ghz19 := gv_eq hz19
            refine w_ald (i := 88) (t := 1) (n := 300) (npc := 47) rfl (hI.pl (by decide)) (hI.T (by decide) rfl) (by decide) rfl (by omega) hz19 ?_
            refine w_aload (i := 0) (npc := 48) rfl rfl rfl ?_
            refine w_iload (i := 1) (npc := 49) rfl rfl ?_
            refine w_virt (ci := 8) (i := 81) (npc := 52) (a := [cr 81, ai_i p]) (rest := [ai_i z19, cr 81]) rfl rfl (hI.pl (by decide)) (hI.T (by decide) rfl) rfl rfl rfl rfl (ct_m_keyAhead (sl := sl) (x := x) (d := d + 0) (p) hI (by omega)) (Or.inl rfl) (fun k9 v9 T9 E21 nx9 kc9 ks9 hq20 hk9 hs9 => ?_)
            obtain ⟨rfl, rfl, rfl, rfl, z22, rfl, hz22⟩ := hq20
            obtain rfl : kc = kc9 := by omega
            obtain rfl : ks = ks9 := by omega
            refine Or.inr (Or.inl ⟨rfl, ?_⟩)
            refine w_virt (ci := 8) (i := 81) (npc := 55) (a := [cr 81, ai_i z19, ai_i z22]) (rest := []) rfl rfl (hI.pl (by decide)) (hI.T (by decide) rfl) rfl rfl rfl rfl (ct_m_compare (sl := sl) (x := x) (d := d + 0) (z19) (z22) hI (by omega) (by omega)) (Or.inl rfl) (fun k9 v9 T9 E24 nx9 kc9 ks9 hq23 hk9 hs9 => ?_)
            obtain ⟨rfl, rfl, rfl, rfl, z25, rfl, hz25⟩ := hq23
            obtain rfl : kc = kc9 := by omega
            obtain rfl : ks = ks9 := by omega
            refine Or.inr (Or.inl ⟨rfl, ?_⟩)
            refine w_if (c := .ne) (npc := 58) (pt := 64) rfl (fun hc26 => ?_) (fun hc26 => ?_)
            · replace hc26 : z25 ≠ (0 : Int) := hc26
              refine w_iload (i := 2) (npc := 65) rfl rfl ?_
              refine w_aload (i := 0) (npc := 66) rfl rfl rfl ?_
              refine w_getf (i := 81) (ci := 8) (k := 12) (npc := 69) rfl (hI.pl (by decide)) (hI.T (by decide) rfl) (by decide) hz13 ?_
              refine w_icmp (c := .ge) (npc := 72) (pt := 86) rfl (fun hc27 => ?_) (fun hc27 => ?_)
              · replace hc27 : z13 ≤ i := hc27
                refine w_const (n := (-1)) (npc := 87) rfl ?_
                exact w_iret rfl (⟨rfl, rfl, rfl, rfl, (-1), rfl, by omega⟩) (by omega) (by omega)
              · replace hc27 : ¬ (z13 ≤ i) := hc27
                refine w_aload (i := 0) (npc := 73) rfl rfl rfl ?_
                refine w_getf (i := 81) (ci := 8) (k := 8) (npc := 76) rfl (hI.pl (by decide)) (hI.T (by decide) rfl) (by decide) (hI.ref 81 8 (p := 88) (by decide) (by decide) rfl) ?_
                refine w_aload (i := 0) (npc := 77) rfl rfl rfl ?_
                refine w_getf (i := 81) (ci := 8) (k := 10) (npc := 80) rfl (hI.pl (by decide)) (hI.T (by decide) rfl) (by decide) (hI.ref 81 10 (p := 90) (by decide) (by decide) rfl) ?_
                refine w_iload (i := 2) (npc := 81) rfl rfl ?_
                refine w_ald (i := 90) (t := 1) (n := 300) (npc := 82) rfl (hI.pl (by decide)) (hI.T (by decide) rfl) (by decide) rfl (by omega) hz18 ?_
                refine w_ald (i := 88) (t := 1) (n := 300) (npc := 83) rfl (hI.pl (by decide)) (hI.T (by decide) rfl) (by decide) rfl (by omega) hz19 ?_
                refine w_goto (pt := 87) rfl ?_
                exact w_iret rfl (⟨rfl, rfl, rfl, rfl, z19, rfl, by omega⟩) (by omega) (by omega)
            · replace hc26 : ¬ (z25 ≠ (0 : Int)) := hc26
              refine w_iinc (i := 2) (n := 1) (npc := 61) (loc' := [cr 81, ai_i p, ai_i (i + 1)]) rfl rfl (by omega) rfl ?_
              refine w_goto (pt := 23) rfl ?_
              exact ih23 (i + 1) (by omega) (by omega)
    exact loop23 _ (z6 + 1) (Nat.lt_succ_self _) (by omega)
  · replace hc1 : ¬ (p ≠ (0 : Int)) := hc1
    refine w_const (n := 0) (npc := 5) rfl ?_
    refine w_goto (pt := 22) rfl ?_
    refine w_istore (i := 2) (npc := 23) (loc' := [cr 81, ai_i p, ai_i 0]) rfl rfl ?_
    have loop23 : ∀ (nf : Nat) (i : Int), ((300 - i).toNat) < nf → (0 ≤ i ∧ i ≤ 300) → cm_wp (ai_find ai_c175 sl) (ai_ev sl (d + 1)) x (kc + 0) (ks + 0) (fun rk rv T' E' nx' => rk = 1 ∧ T = T' ∧ E = E' ∧ nx = nx' ∧ ∃ z : Int, rv = ai_i z ∧ (-1 ≤ z ∧ z ≤ 249000)) 23 [cr 81, ai_i p, ai_i i] [] T E nx kc ks := by
      intro nf
      induction nf with
      | zero => intro i hm; exact absurd hm (Nat.not_lt_zero _)
      | succ nf23 ih =>
        intro i hm23 hv23
        have ih23 := ih; clear ih
        refine w_iload (i := 1) (npc := 24) rfl rfl ?_
        refine w_if (c := .le) (npc := 27) (pt := 64) rfl (fun hc29 => ?_) (fun hc29 => ?_)
        · replace hc29 : p ≤ (0 : Int) := hc29
          refine w_iload (i := 2) (npc := 65) rfl rfl ?_
          refine w_aload (i := 0) (npc := 66) rfl rfl rfl ?_
          obtain ⟨z30, hz30, hz30a, hz30b⟩ := hI.int 81 12 (lo := 0) (hi := 300) (by decide) (by decide) rfl
          have ghz30 := gv_eq hz30
          refine w_getf (i := 81) (ci := 8) (k := 12) (npc := 69) rfl (hI.pl (by decide)) (hI.T (by decide) rfl) (by decide) hz30 ?_
          refine w_icmp (c := .ge) (npc := 72) (pt := 86) rfl (fun hc31 => ?_) (fun hc31 => ?_)
          · replace hc31 : z30 ≤ i := hc31
            refine w_const (n := (-1)) (npc := 87) rfl ?_
            exact w_iret rfl (⟨rfl, rfl, rfl, rfl, (-1), rfl, by omega⟩) (by omega) (by omega)
          · replace hc31 : ¬ (z30 ≤ i) := hc31
            refine w_aload (i := 0) (npc := 73) rfl rfl rfl ?_
            refine w_getf (i := 81) (ci := 8) (k := 8) (npc := 76) rfl (hI.pl (by decide)) (hI.T (by decide) rfl) (by decide) (hI.ref 81 8 (p := 88) (by decide) (by decide) rfl) ?_
            refine w_aload (i := 0) (npc := 77) rfl rfl rfl ?_
            refine w_getf (i := 81) (ci := 8) (k := 10) (npc := 80) rfl (hI.pl (by decide)) (hI.T (by decide) rfl) (by decide) (hI.ref 81 10 (p := 90) (by decide) (by decide) rfl) ?_
            refine w_iload (i := 2) (npc := 81) rfl rfl ?_
            obtain ⟨z32, hz32, hz32a, hz32b⟩ := hI.int 90 (i : Int).toNat (lo := 0) (hi := 299) (by decide) (show (i : Int).toNat < 300 by omega) rfl
            have ghz32 := gv_eq hz32
            refine w_ald (i := 90) (t := 1) (n := 300) (npc := 82) rfl (hI.pl (by decide)) (hI.T (by decide) rfl) (by decide) rfl (by omega) hz32 ?_
            obtain ⟨z33, hz33, hz33a, hz33b⟩ := hI.int 88 (z32 : Int).toNat (lo := 0) (hi := 249000) (by decide) (show (z32 : Int).toNat < 300 by omega) rfl
            have ghz33 := gv_eq hz33
            refine w_ald (i := 88) (t := 1) (n := 300) (npc := 83) rfl (hI.pl (by decide)) (hI.T (by decide) rfl) (by decide) rfl (by omega) hz33 ?_
            refine w_goto (pt := 87) rfl ?_
            exact w_iret rfl (⟨rfl, rfl, rfl, rfl, z33, rfl, by omega⟩) (by omega) (by omega)
        · replace hc29 : ¬ (p ≤ (0 : Int)) := hc29
          refine w_iload (i := 2) (npc := 28) rfl rfl ?_
          refine w_aload (i := 0) (npc := 29) rfl rfl rfl ?_
          obtain ⟨z34, hz34, hz34a, hz34b⟩ := hI.int 81 12 (lo := 0) (hi := 300) (by decide) (by decide) rfl
          have ghz34 := gv_eq hz34
          refine w_getf (i := 81) (ci := 8) (k := 12) (npc := 32) rfl (hI.pl (by decide)) (hI.T (by decide) rfl) (by decide) hz34 ?_
          refine w_icmp (c := .ge) (npc := 35) (pt := 64) rfl (fun hc35 => ?_) (fun hc35 => ?_)
          · replace hc35 : z34 ≤ i := hc35
            refine w_iload (i := 2) (npc := 65) rfl rfl ?_
            refine w_aload (i := 0) (npc := 66) rfl rfl rfl ?_
            refine w_getf (i := 81) (ci := 8) (k := 12) (npc := 69) rfl (hI.pl (by decide)) (hI.T (by decide) rfl) (by decide) hz34 ?_
            refine w_icmp (c := .ge) (npc := 72) (pt := 86) rfl (fun hc36 => ?_) (fun hc36 => ?_)
            · replace hc36 : z34 ≤ i := hc36
              refine w_const (n := (-1)) (npc := 87) rfl ?_
              exact w_iret rfl (⟨rfl, rfl, rfl, rfl, (-1), rfl, by omega⟩) (by omega) (by omega)
            · replace hc36 : ¬ (z34 ≤ i) := hc36
              refine w_aload (i := 0) (npc := 73) rfl rfl rfl ?_
              refine w_getf (i := 81) (ci := 8) (k := 8) (npc := 76) rfl (hI.pl (by decide)) (hI.T (by decide) rfl) (by decide) (hI.ref 81 8 (p := 88) (by decide) (by decide) rfl) ?_
              refine w_aload (i := 0) (npc := 77) rfl rfl rfl ?_
              refine w_getf (i := 81) (ci := 8) (k := 10) (npc := 80) rfl (hI.pl (by decide)) (hI.T (by decide) rfl) (by decide) (hI.ref 81 10 (p := 90) (by decide) (by decide) rfl) ?_
              refine w_iload (i := 2) (npc := 81) rfl rfl ?_
              obtain ⟨z37, hz37, hz37a, hz37b⟩ := hI.int 90 (i : Int).toNat (lo := 0) (hi := 299) (by decide) (show (i : Int).toNat < 300 by omega) rfl
              have ghz37 := gv_eq hz37
              refine w_ald (i := 90) (t := 1) (n := 300) (npc := 82) rfl (hI.pl (by decide)) (hI.T (by decide) rfl) (by decide) rfl (by omega) hz37 ?_
              obtain ⟨z38, hz38, hz38a, hz38b⟩ := hI.int 88 (z37 : Int).toNat (lo := 0) (hi := 249000) (by decide) (show (z37 : Int).toNat < 300 by omega) rfl
              have ghz38 := gv_eq hz38
              refine w_ald (i := 88) (t := 1) (n := 300) (npc := 83) rfl (hI.pl (by decide)) (hI.T (by decide) rfl) (by decide) rfl (by omega) hz38 ?_
              refine w_goto (pt := 87) rfl ?_
              exact w_iret rfl (⟨rfl, rfl, rfl, rfl, z38, rfl, by omega⟩) (by omega) (by omega)
          · replace hc35 : ¬ (z34 ≤ i) := hc35
            refine w_aload (i := 0) (npc := 36) rfl rfl rfl ?_
            refine w_aload (i := 0) (npc := 37) rfl rfl rfl ?_
            refine w_getf (i := 81) (ci := 8) (k := 8) (npc := 40) rfl (hI.pl (by decide)) (hI.T (by decide) rfl) (by decide) (hI.ref 81 8 (p := 88) (by decide) (by decide) rfl) ?_
            refine w_aload (i := 0) (npc := 41) rfl rfl rfl ?_
            refine w_getf (i := 81) (ci := 8) (k := 10) (npc := 44) rfl (hI.pl (by decide)) (hI.T (by decide) rfl) (by decide) (hI.ref 81 10 (p := 90) (by decide) (by decide) rfl) ?_
            refine w_iload (i := 2) (npc := 45) rfl rfl ?_
            obtain ⟨z39, hz39, hz39a, hz39b⟩ := hI.int 90 (i : Int).toNat (lo := 0) (hi := 299) (by decide) (show (i : Int).toNat < 300 by omega) rfl
            have ghz39 := gv_eq hz39
            refine w_ald (i := 90) (t := 1) (n := 300) (npc := 46) rfl (hI.pl (by decide)) (hI.T (by decide) rfl) (by decide) rfl (by omega) hz39 ?_
            obtain ⟨z40, hz40, hz40a, hz40b⟩ := hI.int 88 (z39 : Int).toNat (lo := 0) (hi := 249000) (by decide) (show (z39 : Int).toNat < 300 by omega) rfl
            have ghz40 := gv_eq hz40
            refine w_ald (i := 88) (t := 1) (n := 300) (npc := 47) rfl (hI.pl (by decide)) (hI.T (by decide) rfl) (by decide) rfl (by omega) hz40 ?_
            refine w_aload (i := 0) (npc := 48) rfl rfl rfl ?_
            refine w_iload (i := 1) (npc := 49) rfl rfl ?_
            refine w_virt (ci := 8) (i := 81) (npc := 52) (a := [cr 81, ai_i p]) (rest := [ai_i z40, cr 81]) rfl rfl (hI.pl (by decide)) (hI.T (by decide) rfl) rfl rfl rfl rfl (ct_m_keyAhead (sl := sl) (x := x) (d := d + 0) (p) hI (by omega)) (Or.inl rfl) (fun k9 v9 T9 E42 nx9 kc9 ks9 hq41 hk9 hs9 => ?_)
            obtain ⟨rfl, rfl, rfl, rfl, z43, rfl, hz43⟩ := hq41
            obtain rfl : kc = kc9 := by omega
            obtain rfl : ks = ks9 := by omega
            refine Or.inr (Or.inl ⟨rfl, ?_⟩)
            refine w_virt (ci := 8) (i := 81) (npc := 55) (a := [cr 81, ai_i z40, ai_i z43]) (rest := []) rfl rfl (hI.pl (by decide)) (hI.T (by decide) rfl) rfl rfl rfl rfl (ct_m_compare (sl := sl) (x := x) (d := d + 0) (z40) (z43) hI (by omega) (by omega)) (Or.inl rfl) (fun k9 v9 T9 E45 nx9 kc9 ks9 hq44 hk9 hs9 => ?_)
            obtain ⟨rfl, rfl, rfl, rfl, z46, rfl, hz46⟩ := hq44
            obtain rfl : kc = kc9 := by omega
            obtain rfl : ks = ks9 := by omega
            refine Or.inr (Or.inl ⟨rfl, ?_⟩)
            refine w_if (c := .ne) (npc := 58) (pt := 64) rfl (fun hc47 => ?_) (fun hc47 => ?_)
            · replace hc47 : z46 ≠ (0 : Int) := hc47
              refine w_iload (i := 2) (npc := 65) rfl rfl ?_
              refine w_aload (i := 0) (npc := 66) rfl rfl rfl ?_
              refine w_getf (i := 81) (ci := 8) (k := 12) (npc := 69) rfl (hI.pl (by decide)) (hI.T (by decide) rfl) (by decide) hz34 ?_
              refine w_icmp (c := .ge) (npc := 72) (pt := 86) rfl (fun hc48 => ?_) (fun hc48 => ?_)
              · replace hc48 : z34 ≤ i := hc48
                refine w_const (n := (-1)) (npc := 87) rfl ?_
                exact w_iret rfl (⟨rfl, rfl, rfl, rfl, (-1), rfl, by omega⟩) (by omega) (by omega)
              · replace hc48 : ¬ (z34 ≤ i) := hc48
                refine w_aload (i := 0) (npc := 73) rfl rfl rfl ?_
                refine w_getf (i := 81) (ci := 8) (k := 8) (npc := 76) rfl (hI.pl (by decide)) (hI.T (by decide) rfl) (by decide) (hI.ref 81 8 (p := 88) (by decide) (by decide) rfl) ?_
                refine w_aload (i := 0) (npc := 77) rfl rfl rfl ?_
                refine w_getf (i := 81) (ci := 8) (k := 10) (npc := 80) rfl (hI.pl (by decide)) (hI.T (by decide) rfl) (by decide) (hI.ref 81 10 (p := 90) (by decide) (by decide) rfl) ?_
                refine w_iload (i := 2) (npc := 81) rfl rfl ?_
                refine w_ald (i := 90) (t := 1) (n := 300) (npc := 82) rfl (hI.pl (by decide)) (hI.T (by decide) rfl) (by decide) rfl (by omega) hz39 ?_
                refine w_ald (i := 88) (t := 1) (n := 300) (npc := 83) rfl (hI.pl (by decide)) (hI.T (by decide) rfl) (by decide) rfl (by omega) hz40 ?_
                refine w_goto (pt := 87) rfl ?_
                exact w_iret rfl (⟨rfl, rfl, rfl, rfl, z40, rfl, by omega⟩) (by omega) (by omega)
            · replace hc47 : ¬ (z46 ≠ (0 : Int)) := hc47
              refine w_iinc (i := 2) (n := 1) (npc := 61) (loc' := [cr 81, ai_i p, ai_i (i + 1)]) rfl rfl (by omega) rfl ?_
              refine w_goto (pt := 23) rfl ?_
              exact ih23 (i + 1) (by omega) (by omega)
    exact loop23 _ (0) (Nat.lt_succ_self _) (by omega)
