set_option maxRecDepth 16384 in
theorem ct_m_tellPage {sl : Int × Int} {x : ai_E} {d : Nat} {T : cm_T} {E : cm_E} {nx : Nat} (p : Int) (hI : cs_I T E nx) (hp0 : 0 ≤ p ∧ p ≤ 4) (hp1 : rl E) : cm_ct (ai_ev sl (d + 7)) x 217 [cr 81, ai_i p] T E nx 0 0 (fun rk rv T' E' nx' => rk = 0 ∧ T = T' ∧ nx = nx' ∧ cs_I T E' nx ∧ cm_fr (fun i k => (i = 81 ∧ (k = 12 ∨ k = 13)) ∨ i = 86 ∨ i = 87 ∨ i = 88 ∨ i = 89 ∨ i = 90 ∨ i = 91) E E' ∧ ((∀ j : Int, 0 ≤ j → j < gv E' 81 13 → ∃ q : Int, 0 ≤ q ∧ q < gv E' 81 12 ∧ gv E' 90 q.toNat = gv E' 91 j.toNat))) := by
  refine cm_body (M := ai_m217) rfl rfl (fun kc ks => ?_)
  show cm_wp (ai_find ai_c217 sl) (ai_ev sl (d + 6)) x (kc + 0) (ks + 0) _ 0 [cr 81, ai_i p, ai_un, ai_un, ai_un] [] T E nx kc ks
  have hF : cm_fr (fun i k => (i = 81 ∧ (k = 12 ∨ k = 13)) ∨ i = 86 ∨ i = 87 ∨ i = 88 ∨ i = 89 ∨ i = 90 ∨ i = 91) E E := fun _ _ _ => rfl
  refine w_aload (i := 0) (npc := 1) rfl rfl rfl ?_
  refine w_iload (i := 1) (npc := 2) rfl rfl ?_
  refine w_virt (ci := 8) (i := 81) (npc := 5) (a := [cr 81, ai_i p]) (rest := []) rfl rfl (hI.pl (by decide)) (hI.T (by decide) rfl) rfl rfl rfl rfl (ct_m_tellHolds (sl := sl) (x := x) (d := d + 4) (p) hI (by omega) (by omega)) (Or.inl rfl) (fun k9 v9 T9 E2 nx9 kc9 ks9 hq1 hk9 hs9 => ?_)
  obtain ⟨rfl, rfl, rfl, hI4, hG5, hz3⟩ := hq1
  obtain rfl : kc = kc9 := by omega
  obtain rfl : ks = ks9 := by omega
  have hF6 := cm_fr.trans hF hG5 (by first | (simp; done) | (simp; omega) | (intro i k h; (try simp only at h); (try simp only); omega))
  refine Or.inl ⟨rfl, ?_⟩
  refine w_aload (i := 0) (npc := 6) rfl rfl rfl ?_
  refine w_const (n := 0) (npc := 7) rfl ?_
  refine w_putf (i := 81) (ci := 8) (k := 12) (t := 0) (npc := 10) rfl (hI4.pl (by decide)) (hI4.T (by decide) rfl) (by decide) cm_fit0 ?_
  have hI8 := hI4.puti (i := 81) (k := 12) (z := 0) (lo := 0) (hi := 300) (by decide) rfl (by omega)
  have hF10 := cm_fr.up (i := 81) (k := 12) (v := ai_i 0) hF6 (by first | (simp; done) | (simp; omega) | (intro i k h; (try simp only at h); (try simp only); omega))
  generalize hE9 : cm_up E2 81 12 (ai_i 0) = E7 at hI8 hF10 ⊢
  have hz11 : E7 81 12 = ai_i 0 := by rw [← hE9, cm_up_eq]
  have ghz11 := gv_eq hz11
  refine w_aload (i := 0) (npc := 11) rfl rfl rfl ?_
  refine w_const (n := 0) (npc := 12) rfl ?_
  refine w_putf (i := 81) (ci := 8) (k := 13) (t := 0) (npc := 15) rfl (hI8.pl (by decide)) (hI8.T (by decide) rfl) (by decide) cm_fit0 ?_
  have hI13 := hI8.puti (i := 81) (k := 13) (z := 0) (lo := 0) (hi := 300) (by decide) rfl (by omega)
  have hF15 := cm_fr.up (i := 81) (k := 13) (v := ai_i 0) hF10 (by first | (simp; done) | (simp; omega) | (intro i k h; (try simp only at h); (try simp only); omega))
  generalize hE14 : cm_up E7 81 13 (ai_i 0) = E12 at hI13 hF15 ⊢
  have hz16 : E12 81 12 = ai_i 0 := by rw [← hE14, cm_up_ne _ _ (by decide)]; exact hz11
  have ghz16 := gv_eq hz16
  have hz17 : E12 81 13 = ai_i 0 := by rw [← hE14, cm_up_eq]
  have ghz17 := gv_eq hz17
  refine w_const (n := 0) (npc := 16) rfl ?_
  refine w_istore (i := 2) (npc := 17) (loc' := [cr 81, ai_i p, ai_i 0, ai_un, ai_un]) rfl rfl ?_
  have loop17 : ∀ (nf : Nat) (i : Int) (Eq17 : cm_E), ((300 - i).toNat) < nf → cs_I T Eq17 nx → cm_fr (fun i k => (i = 81 ∧ (k = 12 ∨ k = 13)) ∨ i = 86 ∨ i = 87 ∨ i = 88 ∨ i = 89 ∨ i = 90 ∨ i = 91) E Eq17 → (0 ≤ i ∧ i ≤ 300 ∧ gv Eq17 81 12 = 0 ∧ gv Eq17 81 13 = 0) → cm_wp (ai_find ai_c217 sl) (ai_ev sl (d + 6)) x (kc + 0) (ks + 0) (fun rk rv T' E' nx' => rk = 0 ∧ T = T' ∧ nx = nx' ∧ cs_I T E' nx ∧ cm_fr (fun i k => (i = 81 ∧ (k = 12 ∨ k = 13)) ∨ i = 86 ∨ i = 87 ∨ i = 88 ∨ i = 89 ∨ i = 90 ∨ i = 91) E E' ∧ ((∀ j : Int, 0 ≤ j → j < gv E' 81 13 → ∃ q : Int, 0 ≤ q ∧ q < gv E' 81 12 ∧ gv E' 90 q.toNat = gv E' 91 j.toNat))) 17 [cr 81, ai_i p, ai_i i, ai_un, ai_un] [] T Eq17 nx kc ks := by
    intro nf
    induction nf with
    | zero => intro i Eq17 hm; exact absurd hm (Nat.not_lt_zero _)
    | succ nf17 ih =>
      intro i Eq17 hm17 hI17 hF17 hv17
      obtain ⟨z18, hz18, hz18a, hz18b⟩ := hI17.int 81 12 (lo := 0) (hi := 300) (by decide) (by decide) rfl
      have ghz18 := gv_eq hz18
      obtain ⟨z19, hz19, hz19a, hz19b⟩ := hI17.int 81 13 (lo := 0) (hi := 300) (by decide) (by decide) rfl
      have ghz19 := gv_eq hz19
      have ih17 := ih; clear ih
      refine w_iload (i := 2) (npc := 18) rfl rfl ?_
      refine w_const (n := 300) (npc := 21) rfl ?_
      refine w_icmp (c := .ge) (npc := 24) (pt := 44) rfl (fun hc20 => ?_) (fun hc20 => ?_)
      · replace hc20 : 300 ≤ i := hc20
        refine w_const (n := 0) (npc := 45) rfl ?_
        refine w_istore (i := 2) (npc := 46) (loc' := [cr 81, ai_i p, ai_i 0, ai_un, ai_un]) rfl rfl ?_
        have loop46 : ∀ (nf : Nat) (w : Int) (u46_3 : ai_V) (Eq46 : cm_E), ((5 - w).toNat) < nf → cs_I T Eq46 nx → cm_fr (fun i k => (i = 81 ∧ (k = 12 ∨ k = 13)) ∨ i = 86 ∨ i = 87 ∨ i = 88 ∨ i = 89 ∨ i = 90 ∨ i = 91) E Eq46 → (0 ≤ w ∧ w ≤ 5 ∧ gv Eq46 81 12 = 0 ∧ gv Eq46 81 13 = 0) → cm_wp (ai_find ai_c217 sl) (ai_ev sl (d + 6)) x (kc + 0) (ks + 0) (fun rk rv T' E' nx' => rk = 0 ∧ T = T' ∧ nx = nx' ∧ cs_I T E' nx ∧ cm_fr (fun i k => (i = 81 ∧ (k = 12 ∨ k = 13)) ∨ i = 86 ∨ i = 87 ∨ i = 88 ∨ i = 89 ∨ i = 90 ∨ i = 91) E E' ∧ ((∀ j : Int, 0 ≤ j → j < gv E' 81 13 → ∃ q : Int, 0 ≤ q ∧ q < gv E' 81 12 ∧ gv E' 90 q.toNat = gv E' 91 j.toNat))) 46 [cr 81, ai_i p, ai_i w, u46_3, ai_un] [] T Eq46 nx kc ks := by
          intro nf
          induction nf with
          | zero => intro w u46_3 Eq46 hm; exact absurd hm (Nat.not_lt_zero _)
          | succ nf46 ih =>
            intro w u46_3 Eq46 hm46 hI46 hF46 hv46
            obtain ⟨z21, hz21, hz21a, hz21b⟩ := hI46.int 81 12 (lo := 0) (hi := 300) (by decide) (by decide) rfl
            have ghz21 := gv_eq hz21
            obtain ⟨z22, hz22, hz22a, hz22b⟩ := hI46.int 81 13 (lo := 0) (hi := 300) (by decide) (by decide) rfl
            have ghz22 := gv_eq hz22
            have ih46 := ih; clear ih
            refine w_iload (i := 2) (npc := 47) rfl rfl ?_
            refine w_aload (i := 0) (npc := 48) rfl rfl rfl ?_
            obtain ⟨z23, hz23, hz23a, hz23b⟩ := hI46.int 81 1 (lo := 1) (hi := 5) (by decide) (by decide) rfl
            have ghz23 := gv_eq hz23
            have g0hz23 : gv E 81 1 = z23 := (gv_fr hF46 (by simp)).trans ghz23
            refine w_getf (i := 81) (ci := 8) (k := 1) (npc := 51) rfl (hI46.pl (by decide)) (hI46.T (by decide) rfl) (by decide) hz23 ?_
            refine w_icmp (c := .ge) (npc := 54) (pt := 105) rfl (fun hc24 => ?_) (fun hc24 => ?_)
            · replace hc24 : z23 ≤ w := hc24
              refine w_const (n := 0) (npc := 106) rfl ?_
              refine w_istore (i := 2) (npc := 107) (loc' := [cr 81, ai_i p, ai_i 0, u46_3, ai_un]) rfl rfl ?_
              have loop107 : ∀ (nf : Nat) (w : Int) (u107_3 : ai_V) (u107_4 : ai_V) (Eq107 : cm_E), ((5 - w).toNat) < nf → cs_I T Eq107 nx → cm_fr (fun i k => (i = 81 ∧ (k = 12 ∨ k = 13)) ∨ i = 86 ∨ i = 87 ∨ i = 88 ∨ i = 89 ∨ i = 90 ∨ i = 91) E Eq107 → (0 ≤ w ∧ w ≤ 5 ∧ gv Eq107 81 12 = 0 ∧ gv Eq107 81 13 = 0) → cm_wp (ai_find ai_c217 sl) (ai_ev sl (d + 6)) x (kc + 0) (ks + 0) (fun rk rv T' E' nx' => rk = 0 ∧ T = T' ∧ nx = nx' ∧ cs_I T E' nx ∧ cm_fr (fun i k => (i = 81 ∧ (k = 12 ∨ k = 13)) ∨ i = 86 ∨ i = 87 ∨ i = 88 ∨ i = 89 ∨ i = 90 ∨ i = 91) E E' ∧ ((∀ j : Int, 0 ≤ j → j < gv E' 81 13 → ∃ q : Int, 0 ≤ q ∧ q < gv E' 81 12 ∧ gv E' 90 q.toNat = gv E' 91 j.toNat))) 107 [cr 81, ai_i p, ai_i w, u107_3, u107_4] [] T Eq107 nx kc ks := by
                intro nf
                induction nf with
                | zero => intro w u107_3 u107_4 Eq107 hm; exact absurd hm (Nat.not_lt_zero _)
                | succ nf107 ih =>
                  intro w u107_3 u107_4 Eq107 hm107 hI107 hF107 hv107
                  obtain ⟨z25, hz25, hz25a, hz25b⟩ := hI107.int 81 12 (lo := 0) (hi := 300) (by decide) (by decide) rfl
                  have ghz25 := gv_eq hz25
                  obtain ⟨z26, hz26, hz26a, hz26b⟩ := hI107.int 81 13 (lo := 0) (hi := 300) (by decide) (by decide) rfl
                  have ghz26 := gv_eq hz26
                  have ih107 := ih; clear ih
                  refine w_iload (i := 2) (npc := 108) rfl rfl ?_
                  refine w_aload (i := 0) (npc := 109) rfl rfl rfl ?_
                  obtain ⟨z27, hz27, hz27a, hz27b⟩ := hI107.int 81 1 (lo := 1) (hi := 5) (by decide) (by decide) rfl
                  have ghz27 := gv_eq hz27
                  have g0hz27 : gv E 81 1 = z27 := (gv_fr hF107 (by simp)).trans ghz27
                  refine w_getf (i := 81) (ci := 8) (k := 1) (npc := 112) rfl (hI107.pl (by decide)) (hI107.T (by decide) rfl) (by decide) hz27 ?_
                  refine w_icmp (c := .ge) (npc := 115) (pt := 232) rfl (fun hc28 => ?_) (fun hc28 => ?_)
                  · replace hc28 : z27 ≤ w := hc28
                    refine w_const (n := 0) (npc := 233) rfl ?_
                    refine w_istore (i := 2) (npc := 234) (loc' := [cr 81, ai_i p, ai_i 0, u107_3, u107_4]) rfl rfl ?_
                    have loop234 : ∀ (nf : Nat) (w : Int) (u234_3 : ai_V) (Eq234 : cm_E), ((5 - w).toNat) < nf → cs_I T Eq234 nx → cm_fr (fun i k => (i = 81 ∧ (k = 12 ∨ k = 13)) ∨ i = 86 ∨ i = 87 ∨ i = 88 ∨ i = 89 ∨ i = 90 ∨ i = 91) E Eq234 → (0 ≤ w ∧ w ≤ 5 ∧ gv Eq234 81 12 ≤ 60 * w ∧ gv Eq234 81 13 = 0) → cm_wp (ai_find ai_c217 sl) (ai_ev sl (d + 6)) x (kc + 0) (ks + 0) (fun rk rv T' E' nx' => rk = 0 ∧ T = T' ∧ nx = nx' ∧ cs_I T E' nx ∧ cm_fr (fun i k => (i = 81 ∧ (k = 12 ∨ k = 13)) ∨ i = 86 ∨ i = 87 ∨ i = 88 ∨ i = 89 ∨ i = 90 ∨ i = 91) E E' ∧ ((∀ j : Int, 0 ≤ j → j < gv E' 81 13 → ∃ q : Int, 0 ≤ q ∧ q < gv E' 81 12 ∧ gv E' 90 q.toNat = gv E' 91 j.toNat))) 234 [cr 81, ai_i p, ai_i w, u234_3, u107_4] [] T Eq234 nx kc ks := by
                      intro nf
                      induction nf with
                      | zero => intro w u234_3 Eq234 hm; exact absurd hm (Nat.not_lt_zero _)
                      | succ nf234 ih =>
                        intro w u234_3 Eq234 hm234 hI234 hF234 hv234
                        obtain ⟨z29, hz29, hz29a, hz29b⟩ := hI234.int 81 12 (lo := 0) (hi := 300) (by decide) (by decide) rfl
                        have ghz29 := gv_eq hz29
                        obtain ⟨z30, hz30, hz30a, hz30b⟩ := hI234.int 81 13 (lo := 0) (hi := 300) (by decide) (by decide) rfl
                        have ghz30 := gv_eq hz30
                        have ih234 := ih; clear ih
                        refine w_iload (i := 2) (npc := 235) rfl rfl ?_
                        refine w_aload (i := 0) (npc := 236) rfl rfl rfl ?_
                        obtain ⟨z31, hz31, hz31a, hz31b⟩ := hI234.int 81 1 (lo := 1) (hi := 5) (by decide) (by decide) rfl
                        have ghz31 := gv_eq hz31
                        have g0hz31 : gv E 81 1 = z31 := (gv_fr hF234 (by simp)).trans ghz31
                        refine w_getf (i := 81) (ci := 8) (k := 1) (npc := 239) rfl (hI234.pl (by decide)) (hI234.T (by decide) rfl) (by decide) hz31 ?_
                        refine w_icmp (c := .ge) (npc := 242) (pt := 293) rfl (fun hc32 => ?_) (fun hc32 => ?_)
                        · replace hc32 : z31 ≤ w := hc32
                          refine w_const (n := 0) (npc := 294) rfl ?_
                          refine w_istore (i := 2) (npc := 295) (loc' := [cr 81, ai_i p, ai_i 0, u234_3, u107_4]) rfl rfl ?_
                          have loop295 : ∀ (nf : Nat) (i : Int) (Eq295 : cm_E), ((300 - i).toNat) < nf → cs_I T Eq295 nx → cm_fr (fun i k => (i = 81 ∧ (k = 12 ∨ k = 13)) ∨ i = 86 ∨ i = 87 ∨ i = 88 ∨ i = 89 ∨ i = 90 ∨ i = 91) E Eq295 → (0 ≤ i ∧ i ≤ 300 ∧ i ≤ gv Eq295 81 12 ∧ gv Eq295 81 13 ≤ i ∧ (∀ j : Int, 0 ≤ j → j < gv Eq295 81 13 → ∃ q : Int, 0 ≤ q ∧ q < gv Eq295 81 12 ∧ gv Eq295 90 q.toNat = gv Eq295 91 j.toNat)) → cm_wp (ai_find ai_c217 sl) (ai_ev sl (d + 6)) x (kc + 0) (ks + 0) (fun rk rv T' E' nx' => rk = 0 ∧ T = T' ∧ nx = nx' ∧ cs_I T E' nx ∧ cm_fr (fun i k => (i = 81 ∧ (k = 12 ∨ k = 13)) ∨ i = 86 ∨ i = 87 ∨ i = 88 ∨ i = 89 ∨ i = 90 ∨ i = 91) E E' ∧ ((∀ j : Int, 0 ≤ j → j < gv E' 81 13 → ∃ q : Int, 0 ≤ q ∧ q < gv E' 81 12 ∧ gv E' 90 q.toNat = gv E' 91 j.toNat))) 295 [cr 81, ai_i p, ai_i i, u234_3, u107_4] [] T Eq295 nx kc ks := by
                            intro nf
                            induction nf with
                            | zero => intro i Eq295 hm; exact absurd hm (Nat.not_lt_zero _)
                            | succ nf295 ih =>
                              intro i Eq295 hm295 hI295 hF295 hv295
                              obtain ⟨z33, hz33, hz33a, hz33b⟩ := hI295.int 81 12 (lo := 0) (hi := 300) (by decide) (by decide) rfl
                              have ghz33 := gv_eq hz33
                              obtain ⟨z34, hz34, hz34a, hz34b⟩ := hI295.int 81 13 (lo := 0) (hi := 300) (by decide) (by decide) rfl
                              have ghz34 := gv_eq hz34
                              have ih295 := ih; clear ih
                              refine w_iload (i := 2) (npc := 296) rfl rfl ?_
                              refine w_aload (i := 0) (npc := 297) rfl rfl rfl ?_
                              refine w_getf (i := 81) (ci := 8) (k := 12) (npc := 300) rfl (hI295.pl (by decide)) (hI295.T (by decide) rfl) (by decide) hz33 ?_
                              refine w_icmp (c := .ge) (npc := 303) (pt := 365) rfl (fun hc35 => ?_) (fun hc35 => ?_)
                              · replace hc35 : z33 ≤ i := hc35
                                exact w_vret rfl (⟨rfl, rfl, rfl, hI295, hF295, hv295.2.2.2.2⟩) (by omega) (by omega)
                              · replace hc35 : ¬ (z33 ≤ i) := hc35
                                refine w_aload (i := 0) (npc := 304) rfl rfl rfl ?_
                                refine w_getf (i := 81) (ci := 8) (k := 6) (npc := 307) rfl (hI295.pl (by decide)) (hI295.T (by decide) rfl) (by decide) (hI295.ref 81 6 (p := 86) (by decide) (by decide) rfl) ?_
                                refine w_aload (i := 0) (npc := 308) rfl rfl rfl ?_
                                refine w_getf (i := 81) (ci := 8) (k := 10) (npc := 311) rfl (hI295.pl (by decide)) (hI295.T (by decide) rfl) (by decide) (hI295.ref 81 10 (p := 90) (by decide) (by decide) rfl) ?_
                                refine w_iload (i := 2) (npc := 312) rfl rfl ?_
                                obtain ⟨z36, hz36, hz36a, hz36b⟩ := hI295.int 90 (i : Int).toNat (lo := 0) (hi := 299) (by decide) (show (i : Int).toNat < 300 by omega) rfl
                                have ghz36 := gv_eq hz36
                                refine w_ald (i := 90) (t := 1) (n := 300) (npc := 313) rfl (hI295.pl (by decide)) (hI295.T (by decide) rfl) (by decide) rfl (by omega) hz36 ?_
                                obtain ⟨z37, hz37, hz37a, hz37b⟩ := hI295.int 86 (z36 : Int).toNat (lo := 0) (hi := 1) (by decide) (show (z36 : Int).toNat < 300 by omega) rfl
                                have ghz37 := gv_eq hz37
                                refine w_ald (i := 86) (t := 2) (n := 300) (npc := 314) rfl (hI295.pl (by decide)) (hI295.T (by decide) rfl) (by decide) rfl (by omega) hz37 ?_
                                refine w_if (c := .eq) (npc := 317) (pt := 359) rfl (fun hc38 => ?_) (fun hc38 => ?_)
                                · replace hc38 : z37 = 0 := hc38
                                  refine w_iinc (i := 2) (n := 1) (npc := 362) (loc' := [cr 81, ai_i p, ai_i (i + 1), u234_3, u107_4]) rfl rfl (by omega) rfl ?_
                                  refine w_goto (pt := 295) rfl ?_
                                  exact ih295 (i + 1) Eq295 (by omega) hI295 hF295 (⟨by omega, by omega, by omega, by omega, hv295.2.2.2.2⟩)
                                · replace hc38 : ¬ (z37 = 0) := hc38
                                  refine w_aload (i := 0) (npc := 318) rfl rfl rfl ?_
                                  refine w_getf (i := 81) (ci := 8) (k := 7) (npc := 321) rfl (hI295.pl (by decide)) (hI295.T (by decide) rfl) (by decide) (hI295.ref 81 7 (p := 87) (by decide) (by decide) rfl) ?_
                                  refine w_aload (i := 0) (npc := 322) rfl rfl rfl ?_
                                  refine w_getf (i := 81) (ci := 8) (k := 10) (npc := 325) rfl (hI295.pl (by decide)) (hI295.T (by decide) rfl) (by decide) (hI295.ref 81 10 (p := 90) (by decide) (by decide) rfl) ?_
                                  refine w_iload (i := 2) (npc := 326) rfl rfl ?_
                                  refine w_ald (i := 90) (t := 1) (n := 300) (npc := 327) rfl (hI295.pl (by decide)) (hI295.T (by decide) rfl) (by decide) rfl (by omega) hz36 ?_
                                  obtain ⟨z40, hz40, hz40a, hz40b⟩ := hI295.int 87 (z36 : Int).toNat (lo := 0) (hi := 1) (by decide) (show (z36 : Int).toNat < 300 by omega) rfl
                                  have ghz40 := gv_eq hz40
                                  refine w_ald (i := 87) (t := 2) (n := 300) (npc := 328) rfl (hI295.pl (by decide)) (hI295.T (by decide) rfl) (by decide) rfl (by omega) hz40 ?_
                                  refine w_if (c := .eq) (npc := 331) (pt := 334) rfl (fun hc41 => ?_) (fun hc41 => ?_)
                                  · replace hc41 : z40 = 0 := hc41
                                    refine w_aload (i := 0) (npc := 335) rfl rfl rfl ?_
                                    refine w_getf (i := 81) (ci := 8) (k := 11) (npc := 338) rfl (hI295.pl (by decide)) (hI295.T (by decide) rfl) (by decide) (hI295.ref 81 11 (p := 91) (by decide) (by decide) rfl) ?_
                                    refine w_aload (i := 0) (npc := 339) rfl rfl rfl ?_
                                    refine w_getf (i := 81) (ci := 8) (k := 13) (npc := 342) rfl (hI295.pl (by decide)) (hI295.T (by decide) rfl) (by decide) hz34 ?_
                                    refine w_aload (i := 0) (npc := 343) rfl rfl rfl ?_
                                    refine w_getf (i := 81) (ci := 8) (k := 10) (npc := 346) rfl (hI295.pl (by decide)) (hI295.T (by decide) rfl) (by decide) (hI295.ref 81 10 (p := 90) (by decide) (by decide) rfl) ?_
                                    refine w_iload (i := 2) (npc := 347) rfl rfl ?_
                                    refine w_ald (i := 90) (t := 1) (n := 300) (npc := 348) rfl (hI295.pl (by decide)) (hI295.T (by decide) rfl) (by decide) rfl (by omega) hz36 ?_
                                    refine w_ast (i := 91) (k := 1) (n := 300) (npc := 349) rfl (hI295.pl (by decide)) (hI295.T (by decide) rfl) (by decide) (by omega) cm_af1 ?_
                                    have hI43 := hI295.puti (i := 91) (k := (z34 : Int).toNat) (z := z36) (lo := 0) (hi := 299) (by decide) rfl (by omega)
                                    have hF45 := cm_fr.up (i := 91) (k := (z34 : Int).toNat) (v := ai_i z36) hF295 (by first | (simp; done) | (simp; omega) | (intro i k h; (try simp only at h); (try simp only); omega))
                                    generalize hE44 : cm_up Eq295 91 (z34 : Int).toNat (ai_i z36) = E42 at hI43 hF45 ⊢
                                    have hz46 : E42 81 12 = ai_i z33 := by rw [← hE44, cm_up_nei _ _ (by decide)]; exact hz33
                                    have ghz46 := gv_eq hz46
                                    have hz47 : E42 81 13 = ai_i z34 := by rw [← hE44, cm_up_nei _ _ (by decide)]; exact hz34
                                    have ghz47 := gv_eq hz47
                                    have hz48 : E42 90 (i : Int).toNat = ai_i z36 := by rw [← hE44, cm_up_nei _ _ (by decide)]; exact hz36
                                    have ghz48 := gv_eq hz48
                                    have hz49 : E42 86 (z36 : Int).toNat = ai_i z37 := by rw [← hE44, cm_up_nei _ _ (by decide)]; exact hz37
                                    have ghz49 := gv_eq hz49
                                    have hz50 : E42 87 (z36 : Int).toNat = ai_i z40 := by rw [← hE44, cm_up_nei _ _ (by decide)]; exact hz40
                                    have ghz50 := gv_eq hz50
                                    have hz51 : E42 91 (z34 : Int).toNat = ai_i z36 := by rw [← hE44, cm_up_eq]
                                    have ghz51 := gv_eq hz51
                                    refine w_aload (i := 0) (npc := 350) rfl rfl rfl ?_
                                    refine w_dup (npc := 351) rfl rfl ?_
                                    refine w_getf (i := 81) (ci := 8) (k := 13) (npc := 354) rfl (hI43.pl (by decide)) (hI43.T (by decide) rfl) (by decide) hz47 ?_
                                    refine w_const (n := 1) (npc := 355) rfl ?_
                                    refine w_iadd (npc := 356) rfl (by omega) ?_
                                    refine w_putf (i := 81) (ci := 8) (k := 13) (t := 0) (npc := 359) rfl (hI43.pl (by decide)) (hI43.T (by decide) rfl) (by decide) cm_fit0 ?_
                                    have hI54 := hI43.puti (i := 81) (k := 13) (z := z34 + 1) (lo := 0) (hi := 300) (by decide) rfl (by omega)
                                    have hF56 := cm_fr.up (i := 81) (k := 13) (v := ai_i (z34 + 1)) hF45 (by first | (simp; done) | (simp; omega) | (intro i k h; (try simp only at h); (try simp only); omega))
                                    generalize hE55 : cm_up E42 81 13 (ai_i (z34 + 1)) = E53 at hI54 hF56 ⊢
                                    have hz57 : E53 81 12 = ai_i z33 := by rw [← hE55, cm_up_ne _ _ (by decide)]; exact hz46
                                    have ghz57 := gv_eq hz57
                                    have hz58 : E53 90 (i : Int).toNat = ai_i z36 := by rw [← hE55, cm_up_nei _ _ (by decide)]; exact hz48
                                    have ghz58 := gv_eq hz58
                                    have hz59 : E53 86 (z36 : Int).toNat = ai_i z37 := by rw [← hE55, cm_up_nei _ _ (by decide)]; exact hz49
                                    have ghz59 := gv_eq hz59
                                    have hz60 : E53 87 (z36 : Int).toNat = ai_i z40 := by rw [← hE55, cm_up_nei _ _ (by decide)]; exact hz50
                                    have ghz60 := gv_eq hz60
                                    have hz61 : E53 91 (z34 : Int).toNat = ai_i z36 := by rw [← hE55, cm_up_nei _ _ (by decide)]; exact hz51
                                    have ghz61 := gv_eq hz61
                                    have hz62 : E53 81 13 = ai_i (z34 + 1) := by rw [← hE55, cm_up_eq]
                                    have ghz62 := gv_eq hz62
                                    refine w_iinc (i := 2) (n := 1) (npc := 362) (loc' := [cr 81, ai_i p, ai_i (i + 1), u234_3, u107_4]) rfl rfl (by omega) rfl ?_
                                    refine w_goto (pt := 295) rfl ?_
                                    exact ih295 (i + 1) E53 (by omega) hI54 hF56 (⟨by omega, by omega, by omega, by omega, fun j j0 j1 => by
      have e90 : ∀ q, gv E53 90 q = gv Eq295 90 q := fun q => by rw [← hE55, gv_ne _ _ (by simp), ← hE44, gv_ne _ _ (by simp)]
      by_cases hj : j = z34
      · refine ⟨i, by omega, by omega, ?_⟩
        rw [e90, hj, ← hE55, gv_ne _ _ (by simp), ← hE44, gv_up]
        omega
      · obtain ⟨q, q0, q1, q2⟩ := hv295.2.2.2.2 j j0 (by omega)
        refine ⟨q, q0, by omega, ?_⟩
        rw [e90, ← hE55, gv_ne _ _ (by simp), ← hE44, gv_ne _ _ (by omega)]
        exact q2⟩)
                                  · replace hc41 : ¬ (z40 = 0) := hc41
                                    refine w_goto (pt := 359) rfl ?_
                                    refine w_iinc (i := 2) (n := 1) (npc := 362) (loc' := [cr 81, ai_i p, ai_i (i + 1), u234_3, u107_4]) rfl rfl (by omega) rfl ?_
                                    refine w_goto (pt := 295) rfl ?_
                                    exact ih295 (i + 1) Eq295 (by omega) hI295 hF295 (⟨by omega, by omega, by omega, by omega, hv295.2.2.2.2⟩)
                          exact loop295 _ (0) Eq234 (Nat.lt_succ_self _) hI234 hF234 (⟨by omega, by omega, by omega, by omega, fun j j0 j1 => by omega⟩)
                        · replace hc32 : ¬ (z31 ≤ w) := hc32
                          refine w_const (n := 1) (npc := 243) rfl ?_
                          refine w_istore (i := 3) (npc := 244) (loc' := [cr 81, ai_i p, ai_i w, ai_i 1, u107_4]) rfl rfl ?_
                          have loop244 : ∀ (nf : Nat) (n : Int) (Eq244 : cm_E), ((61 - n).toNat) < nf → cs_I T Eq244 nx → cm_fr (fun i k => (i = 81 ∧ (k = 12 ∨ k = 13)) ∨ i = 86 ∨ i = 87 ∨ i = 88 ∨ i = 89 ∨ i = 90 ∨ i = 91) E Eq244 → (1 ≤ n ∧ n ≤ 61 ∧ gv Eq244 81 12 ≤ 60 * w + n - 1 ∧ gv Eq244 81 13 = 0) → cm_wp (ai_find ai_c217 sl) (ai_ev sl (d + 6)) x (kc + 0) (ks + 0) (fun rk rv T' E' nx' => rk = 0 ∧ T = T' ∧ nx = nx' ∧ cs_I T E' nx ∧ cm_fr (fun i k => (i = 81 ∧ (k = 12 ∨ k = 13)) ∨ i = 86 ∨ i = 87 ∨ i = 88 ∨ i = 89 ∨ i = 90 ∨ i = 91) E E' ∧ ((∀ j : Int, 0 ≤ j → j < gv E' 81 13 → ∃ q : Int, 0 ≤ q ∧ q < gv E' 81 12 ∧ gv E' 90 q.toNat = gv E' 91 j.toNat))) 244 [cr 81, ai_i p, ai_i w, ai_i n, u107_4] [] T Eq244 nx kc ks := by
                            intro nf
                            induction nf with
                            | zero => intro n Eq244 hm; exact absurd hm (Nat.not_lt_zero _)
                            | succ nf244 ih =>
                              intro n Eq244 hm244 hI244 hF244 hv244
                              obtain ⟨z65, hz65, hz65a, hz65b⟩ := hI244.int 81 12 (lo := 0) (hi := 300) (by decide) (by decide) rfl
                              have ghz65 := gv_eq hz65
                              obtain ⟨z66, hz66, hz66a, hz66b⟩ := hI244.int 81 13 (lo := 0) (hi := 300) (by decide) (by decide) rfl
                              have ghz66 := gv_eq hz66
                              have ih244 := ih; clear ih
                              refine w_iload (i := 3) (npc := 245) rfl rfl ?_
                              refine w_aload (i := 0) (npc := 246) rfl rfl rfl ?_
                              refine w_getf (i := 81) (ci := 8) (k := 3) (npc := 249) rfl (hI244.pl (by decide)) (hI244.T (by decide) rfl) (by decide) (hI244.ref 81 3 (p := 83) (by decide) (by decide) rfl) ?_
                              refine w_const (n := 5) (npc := 250) rfl ?_
                              refine w_iload (i := 1) (npc := 251) rfl rfl ?_
                              refine w_imul (npc := 252) rfl (by omega) ?_
                              refine w_iload (i := 2) (npc := 253) rfl rfl ?_
                              refine w_iadd (npc := 254) rfl (by omega) ?_
                              obtain ⟨z69, hz69, hz69a, hz69b⟩ := hI244.int 83 (5 * p + w : Int).toNat (lo := 0) (hi := 60) (by decide) (show (5 * p + w : Int).toNat < 25 by omega) rfl
                              have ghz69 := gv_eq hz69
                              have g0hz69 : gv E 83 (5 * p + w : Int).toNat = z69 := (gv_fr hF244 (by simp)).trans ghz69
                              refine w_ald (i := 83) (t := 1) (n := 25) (npc := 255) rfl (hI244.pl (by decide)) (hI244.T (by decide) rfl) (by decide) rfl (by omega) hz69 ?_
                              refine w_icmp (c := .gt) (npc := 258) (pt := 287) rfl (fun hc70 => ?_) (fun hc70 => ?_)
                              · replace hc70 : z69 < n := hc70
                                refine w_iinc (i := 2) (n := 1) (npc := 290) (loc' := [cr 81, ai_i p, ai_i (w + 1), ai_i n, u107_4]) rfl rfl (by omega) rfl ?_
                                refine w_goto (pt := 234) rfl ?_
                                exact ih234 (w + 1) (ai_i n) Eq244 (by omega) hI244 hF244 (by omega)
                              · replace hc70 : ¬ (z69 < n) := hc70
                                refine w_aload (i := 0) (npc := 259) rfl rfl rfl ?_
                                refine w_iload (i := 1) (npc := 260) rfl rfl ?_
                                refine w_iload (i := 2) (npc := 261) rfl rfl ?_
                                refine w_iload (i := 3) (npc := 262) rfl rfl ?_
                                refine w_call (npc := 265) (a := [ai_i p, ai_i w, ai_i n]) (rest := [cr 81]) rfl rfl rfl rfl rfl (ct_m_rowOf (sl := sl) (x := x) (d := d + 5) (p) (w) (n) (by omega) (by omega) (by omega)) (Or.inr (fun _ _ _ _ _ hq => by have h1 := hq.1; omega)) (fun k9 v9 T9 E73 nx9 kc9 ks9 hq72 hk9 hs9 => ?_)
                                obtain ⟨rfl, rfl, rfl, rfl, z74, rfl, hz74⟩ := hq72
                                obtain rfl : kc = kc9 := by omega
                                obtain rfl : ks = ks9 := by omega
                                refine Or.inr (Or.inl ⟨rfl, ?_⟩)
                                refine w_const (n := 0) (npc := 266) rfl ?_
                                refine w_virt (ci := 8) (i := 81) (npc := 269) (a := [cr 81, ai_i z74, ai_i 0]) (rest := []) rfl rfl (hI244.pl (by decide)) (hI244.T (by decide) rfl) rfl rfl rfl rfl (ct_m_of (sl := sl) (x := x) (d := d + 5) (z74) (0) hI244 (by omega) (by omega) (by omega)) (Or.inl rfl) (fun k9 v9 T9 E76 nx9 kc9 ks9 hq75 hk9 hs9 => ?_)
                                obtain ⟨rfl, rfl, rfl, rfl, z77, rfl, hz77⟩ := hq75
                                obtain rfl : kc = kc9 := by omega
                                obtain rfl : ks = ks9 := by omega
                                refine Or.inr (Or.inl ⟨rfl, ?_⟩)
                                have hl78 : gv E 82 (166 * z74 + 0).toNat = gv Eq244 82 (166 * z74 + 0).toNat := gv_fr hF244 (by simp)
                                refine w_if (c := .ne) (npc := 272) (pt := 281) rfl (fun hc79 => ?_) (fun hc79 => ?_)
                                · replace hc79 : z77 ≠ 0 := hc79
                                  refine w_iinc (i := 3) (n := 1) (npc := 284) (loc' := [cr 81, ai_i p, ai_i w, ai_i (n + 1), u107_4]) rfl rfl (by omega) rfl ?_
                                  refine w_goto (pt := 244) rfl ?_
                                  exact ih244 (n + 1) Eq244 (by omega) hI244 hF244 (by omega)
                                · replace hc79 : ¬ (z77 ≠ 0) := hc79
                                  refine w_aload (i := 0) (npc := 273) rfl rfl rfl ?_
                                  refine w_iload (i := 2) (npc := 274) rfl rfl ?_
                                  refine w_iload (i := 3) (npc := 275) rfl rfl ?_
                                  refine w_call (npc := 278) (a := [ai_i w, ai_i n]) (rest := [cr 81]) rfl rfl rfl rfl rfl (ct_m_markOf (sl := sl) (x := x) (d := d + 5) (w) (n) (by omega) (by omega)) (Or.inr (fun _ _ _ _ _ hq => by have h1 := hq.1; omega)) (fun k9 v9 T9 E82 nx9 kc9 ks9 hq81 hk9 hs9 => ?_)
                                  obtain ⟨rfl, rfl, rfl, rfl, z83, rfl, hz83⟩ := hq81
                                  obtain rfl : kc = kc9 := by omega
                                  obtain rfl : ks = ks9 := by omega
                                  refine Or.inr (Or.inl ⟨rfl, ?_⟩)
                                  refine w_virt (ci := 8) (i := 81) (npc := 281) (a := [cr 81, ai_i z83]) (rest := []) rfl rfl (hI244.pl (by decide)) (hI244.T (by decide) rfl) rfl rfl rfl rfl (ct_m_layMark (sl := sl) (x := x) (d := d + 4) (z83) hI244 (by omega) (by omega)) (Or.inl rfl) (fun k9 v9 T9 E85 nx9 kc9 ks9 hq84 hk9 hs9 => ?_)
                                  obtain ⟨rfl, rfl, rfl, hI87, hG88, hz86⟩ := hq84
                                  obtain rfl : kc = kc9 := by omega
                                  obtain rfl : ks = ks9 := by omega
                                  have hF89 := cm_fr.trans hF244 hG88 (by first | (simp; done) | (simp; omega) | (intro i k h; (try simp only at h); (try simp only); omega))
                                  have hz90 : E85 81 13 = ai_i z66 := (hG88 81 13 (by simp)).trans hz66
                                  have ghz90 := gv_eq hz90
                                  refine Or.inl ⟨rfl, ?_⟩
                                  refine w_iinc (i := 3) (n := 1) (npc := 284) (loc' := [cr 81, ai_i p, ai_i w, ai_i (n + 1), u107_4]) rfl rfl (by omega) rfl ?_
                                  refine w_goto (pt := 244) rfl ?_
                                  exact ih244 (n + 1) E85 (by omega) hI87 hF89 (by omega)
                          exact loop244 _ (1) Eq234 (Nat.lt_succ_self _) hI234 hF234 (by omega)
                    exact loop234 _ (0) (u107_3) Eq107 (Nat.lt_succ_self _) hI107 hF107 (by omega)
                  · replace hc28 : ¬ (z27 ≤ w) := hc28
                    refine w_const (n := 1) (npc := 116) rfl ?_
                    refine w_istore (i := 3) (npc := 117) (loc' := [cr 81, ai_i p, ai_i w, ai_i 1, u107_4]) rfl rfl ?_
                    have loop117 : ∀ (nf : Nat) (n : Int) (u117_4 : ai_V) (Eq117 : cm_E), ((61 - n).toNat) < nf → cs_I T Eq117 nx → cm_fr (fun i k => (i = 81 ∧ (k = 12 ∨ k = 13)) ∨ i = 86 ∨ i = 87 ∨ i = 88 ∨ i = 89 ∨ i = 90 ∨ i = 91) E Eq117 → (1 ≤ n ∧ n ≤ 61 ∧ gv Eq117 81 12 = 0 ∧ gv Eq117 81 13 = 0) → cm_wp (ai_find ai_c217 sl) (ai_ev sl (d + 6)) x (kc + 0) (ks + 0) (fun rk rv T' E' nx' => rk = 0 ∧ T = T' ∧ nx = nx' ∧ cs_I T E' nx ∧ cm_fr (fun i k => (i = 81 ∧ (k = 12 ∨ k = 13)) ∨ i = 86 ∨ i = 87 ∨ i = 88 ∨ i = 89 ∨ i = 90 ∨ i = 91) E E' ∧ ((∀ j : Int, 0 ≤ j → j < gv E' 81 13 → ∃ q : Int, 0 ≤ q ∧ q < gv E' 81 12 ∧ gv E' 90 q.toNat = gv E' 91 j.toNat))) 117 [cr 81, ai_i p, ai_i w, ai_i n, u117_4] [] T Eq117 nx kc ks := by
                      intro nf
                      induction nf with
                      | zero => intro n u117_4 Eq117 hm; exact absurd hm (Nat.not_lt_zero _)
                      | succ nf117 ih =>
                        intro n u117_4 Eq117 hm117 hI117 hF117 hv117
                        obtain ⟨z92, hz92, hz92a, hz92b⟩ := hI117.int 81 12 (lo := 0) (hi := 300) (by decide) (by decide) rfl
                        have ghz92 := gv_eq hz92
                        obtain ⟨z93, hz93, hz93a, hz93b⟩ := hI117.int 81 13 (lo := 0) (hi := 300) (by decide) (by decide) rfl
                        have ghz93 := gv_eq hz93
                        have ih117 := ih; clear ih
                        refine w_iload (i := 3) (npc := 118) rfl rfl ?_
                        refine w_aload (i := 0) (npc := 119) rfl rfl rfl ?_
                        refine w_getf (i := 81) (ci := 8) (k := 3) (npc := 122) rfl (hI117.pl (by decide)) (hI117.T (by decide) rfl) (by decide) (hI117.ref 81 3 (p := 83) (by decide) (by decide) rfl) ?_
                        refine w_const (n := 5) (npc := 123) rfl ?_
                        refine w_iload (i := 1) (npc := 124) rfl rfl ?_
                        refine w_imul (npc := 125) rfl (by omega) ?_
                        refine w_iload (i := 2) (npc := 126) rfl rfl ?_
                        refine w_iadd (npc := 127) rfl (by omega) ?_
                        obtain ⟨z96, hz96, hz96a, hz96b⟩ := hI117.int 83 (5 * p + w : Int).toNat (lo := 0) (hi := 60) (by decide) (show (5 * p + w : Int).toNat < 25 by omega) rfl
                        have ghz96 := gv_eq hz96
                        have g0hz96 : gv E 83 (5 * p + w : Int).toNat = z96 := (gv_fr hF117 (by simp)).trans ghz96
                        refine w_ald (i := 83) (t := 1) (n := 25) (npc := 128) rfl (hI117.pl (by decide)) (hI117.T (by decide) rfl) (by decide) rfl (by omega) hz96 ?_
                        refine w_icmp (c := .gt) (npc := 131) (pt := 226) rfl (fun hc97 => ?_) (fun hc97 => ?_)
                        · replace hc97 : z96 < n := hc97
                          refine w_iinc (i := 2) (n := 1) (npc := 229) (loc' := [cr 81, ai_i p, ai_i (w + 1), ai_i n, u117_4]) rfl rfl (by omega) rfl ?_
                          refine w_goto (pt := 107) rfl ?_
                          exact ih107 (w + 1) (ai_i n) (u117_4) Eq117 (by omega) hI117 hF117 (by omega)
                        · replace hc97 : ¬ (z96 < n) := hc97
                          refine w_iload (i := 1) (npc := 132) rfl rfl ?_
                          refine w_iload (i := 2) (npc := 133) rfl rfl ?_
                          refine w_iload (i := 3) (npc := 134) rfl rfl ?_
                          refine w_call (npc := 137) (a := [ai_i p, ai_i w, ai_i n]) (rest := []) rfl rfl rfl rfl rfl (ct_m_rowOf (sl := sl) (x := x) (d := d + 5) (p) (w) (n) (by omega) (by omega) (by omega)) (Or.inr (fun _ _ _ _ _ hq => by have h1 := hq.1; omega)) (fun k9 v9 T9 E100 nx9 kc9 ks9 hq99 hk9 hs9 => ?_)
                          obtain ⟨rfl, rfl, rfl, rfl, z101, rfl, hz101⟩ := hq99
                          obtain rfl : kc = kc9 := by omega
                          obtain rfl : ks = ks9 := by omega
                          refine Or.inr (Or.inl ⟨rfl, ?_⟩)
                          refine w_istore (i := 4) (npc := 139) (loc' := [cr 81, ai_i p, ai_i w, ai_i n, ai_i z101]) rfl rfl ?_
                          refine w_aload (i := 0) (npc := 140) rfl rfl rfl ?_
                          refine w_getf (i := 81) (ci := 8) (k := 6) (npc := 143) rfl (hI117.pl (by decide)) (hI117.T (by decide) rfl) (by decide) (hI117.ref 81 6 (p := 86) (by decide) (by decide) rfl) ?_
                          refine w_iload (i := 2) (npc := 144) rfl rfl ?_
                          refine w_iload (i := 3) (npc := 145) rfl rfl ?_
                          refine w_call (npc := 148) (a := [ai_i w, ai_i n]) (rest := [cr 86]) rfl rfl rfl rfl rfl (ct_m_markOf (sl := sl) (x := x) (d := d + 5) (w) (n) (by omega) (by omega)) (Or.inr (fun _ _ _ _ _ hq => by have h1 := hq.1; omega)) (fun k9 v9 T9 E103 nx9 kc9 ks9 hq102 hk9 hs9 => ?_)
                          obtain ⟨rfl, rfl, rfl, rfl, z104, rfl, hz104⟩ := hq102
                          obtain rfl : kc = kc9 := by omega
                          obtain rfl : ks = ks9 := by omega
                          refine Or.inr (Or.inl ⟨rfl, ?_⟩)
                          obtain ⟨z105, hz105, hz105a, hz105b⟩ := hI117.int 86 (z104 : Int).toNat (lo := 0) (hi := 1) (by decide) (show (z104 : Int).toNat < 300 by omega) rfl
                          have ghz105 := gv_eq hz105
                          refine w_ald (i := 86) (t := 2) (n := 300) (npc := 149) rfl (hI117.pl (by decide)) (hI117.T (by decide) rfl) (by decide) rfl (by omega) hz105 ?_
                          refine w_if (c := .ne) (npc := 152) (pt := 155) rfl (fun hc106 => ?_) (fun hc106 => ?_)
                          · replace hc106 : z105 ≠ 0 := hc106
                            refine w_aload (i := 0) (npc := 156) rfl rfl rfl ?_
                            refine w_iload (i := 4) (npc := 158) rfl rfl ?_
                            refine w_const (n := 0) (npc := 159) rfl ?_
                            refine w_virt (ci := 8) (i := 81) (npc := 162) (a := [cr 81, ai_i z101, ai_i 0]) (rest := []) rfl rfl (hI117.pl (by decide)) (hI117.T (by decide) rfl) rfl rfl rfl rfl (ct_m_of (sl := sl) (x := x) (d := d + 5) (z101) (0) hI117 (by omega) (by omega) (by omega)) (Or.inl rfl) (fun k9 v9 T9 E108 nx9 kc9 ks9 hq107 hk9 hs9 => ?_)
                            obtain ⟨rfl, rfl, rfl, rfl, z109, rfl, hz109⟩ := hq107
                            obtain rfl : kc = kc9 := by omega
                            obtain rfl : ks = ks9 := by omega
                            refine Or.inr (Or.inl ⟨rfl, ?_⟩)
                            have hl110 : gv E 82 (166 * z101 + 0).toNat = gv Eq117 82 (166 * z101 + 0).toNat := gv_fr hF117 (by simp)
                            refine w_const (n := 1) (npc := 163) rfl ?_
                            refine w_icmp (c := .ne) (npc := 166) (pt := 202) rfl (fun hc111 => ?_) (fun hc111 => ?_)
                            · replace hc111 : z109 ≠ 1 := hc111
                              refine w_aload (i := 0) (npc := 203) rfl rfl rfl ?_
                              refine w_iload (i := 4) (npc := 205) rfl rfl ?_
                              refine w_const (n := 0) (npc := 206) rfl ?_
                              refine w_virt (ci := 8) (i := 81) (npc := 209) (a := [cr 81, ai_i z101, ai_i 0]) (rest := []) rfl rfl (hI117.pl (by decide)) (hI117.T (by decide) rfl) rfl rfl rfl rfl (ct_m_of (sl := sl) (x := x) (d := d + 5) (z101) (0) hI117 (by omega) (by omega) (by omega)) (Or.inl rfl) (fun k9 v9 T9 E113 nx9 kc9 ks9 hq112 hk9 hs9 => ?_)
                              obtain ⟨rfl, rfl, rfl, rfl, z114, rfl, hz114⟩ := hq112
                              obtain rfl : kc = kc9 := by omega
                              obtain rfl : ks = ks9 := by omega
                              refine Or.inr (Or.inl ⟨rfl, ?_⟩)
                              have hl115 : gv E 82 (166 * z101 + 0).toNat = gv Eq117 82 (166 * z101 + 0).toNat := gv_fr hF117 (by simp)
                              refine w_const (n := 3) (npc := 210) rfl ?_
                              refine w_icmp (c := .ne) (npc := 213) (pt := 220) rfl (fun hc116 => ?_) (fun hc116 => ?_)
                              · replace hc116 : z114 ≠ 3 := hc116
                                refine w_iinc (i := 3) (n := 1) (npc := 223) (loc' := [cr 81, ai_i p, ai_i w, ai_i (n + 1), ai_i z101]) rfl rfl (by omega) rfl ?_
                                refine w_goto (pt := 117) rfl ?_
                                exact ih117 (n + 1) (ai_i z101) Eq117 (by omega) hI117 hF117 (by omega)
                              · replace hc116 : ¬ (z114 ≠ 3) := hc116
                                obtain ⟨hw0, hw1, hw2, hw3, hw4, hw5⟩ := hp1.1 z101 (by omega) (by omega)
                                have hw6 := (hw5 (by omega)).1
                                have hw7 : gv E 82 (166 * z101 + 9).toNat = gv Eq117 82 (166 * z101 + 9).toNat := gv_fr hF117 (by simp)
                                refine w_aload (i := 0) (npc := 214) rfl rfl rfl ?_
                                refine w_iload (i := 1) (npc := 215) rfl rfl ?_
                                refine w_iload (i := 4) (npc := 217) rfl rfl ?_
                                refine w_virt (ci := 8) (i := 81) (npc := 220) (a := [cr 81, ai_i p, ai_i z101]) (rest := []) rfl rfl (hI117.pl (by decide)) (hI117.T (by decide) rfl) rfl rfl rfl rfl (ct_m_tellMove (sl := sl) (x := x) (d := d + 0) (p) (z101) hI117 (by omega) (by omega) (by omega)) (Or.inl rfl) (fun k9 v9 T9 E119 nx9 kc9 ks9 hq118 hk9 hs9 => ?_)
                                obtain ⟨rfl, rfl, rfl, hI121, hG122, hz120⟩ := hq118
                                obtain rfl : kc = kc9 := by omega
                                obtain rfl : ks = ks9 := by omega
                                have hF123 := cm_fr.trans hF117 hG122 (by first | (simp; done) | (simp; omega) | (intro i k h; (try simp only at h); (try simp only); omega))
                                have hz124 : E119 81 12 = ai_i z92 := (hG122 81 12 (by simp)).trans hz92
                                have ghz124 := gv_eq hz124
                                have hz125 : E119 81 13 = ai_i z93 := (hG122 81 13 (by simp)).trans hz93
                                have ghz125 := gv_eq hz125
                                refine Or.inl ⟨rfl, ?_⟩
                                refine w_iinc (i := 3) (n := 1) (npc := 223) (loc' := [cr 81, ai_i p, ai_i w, ai_i (n + 1), ai_i z101]) rfl rfl (by omega) rfl ?_
                                refine w_goto (pt := 117) rfl ?_
                                exact ih117 (n + 1) (ai_i z101) E119 (by omega) hI121 hF123 (by omega)
                            · replace hc111 : ¬ (z109 ≠ 1) := hc111
                              refine w_aload (i := 0) (npc := 167) rfl rfl rfl ?_
                              refine w_iload (i := 1) (npc := 168) rfl rfl ?_
                              refine w_aload (i := 0) (npc := 169) rfl rfl rfl ?_
                              refine w_iload (i := 4) (npc := 171) rfl rfl ?_
                              refine w_const (n := 9) (npc := 173) rfl ?_
                              refine w_virt (ci := 8) (i := 81) (npc := 176) (a := [cr 81, ai_i z101, ai_i 9]) (rest := [ai_i p, cr 81]) rfl rfl (hI117.pl (by decide)) (hI117.T (by decide) rfl) rfl rfl rfl rfl (ct_m_of (sl := sl) (x := x) (d := d + 5) (z101) (9) hI117 (by omega) (by omega) (by omega)) (Or.inl rfl) (fun k9 v9 T9 E128 nx9 kc9 ks9 hq127 hk9 hs9 => ?_)
                              obtain ⟨rfl, rfl, rfl, rfl, z129, rfl, hz129⟩ := hq127
                              obtain rfl : kc = kc9 := by omega
                              obtain rfl : ks = ks9 := by omega
                              refine Or.inr (Or.inl ⟨rfl, ?_⟩)
                              have hl130 : gv E 82 (166 * z101 + 9).toNat = gv Eq117 82 (166 * z101 + 9).toNat := gv_fr hF117 (by simp)
                              refine w_virt (ci := 8) (i := 81) (npc := 179) (a := [cr 81, ai_i p, ai_i z129]) (rest := []) rfl rfl (hI117.pl (by decide)) (hI117.T (by decide) rfl) rfl rfl rfl rfl (ct_m_setNamed (sl := sl) (x := x) (d := d + 1) (p) (z129) hI117 (by omega) (by omega)) (Or.inl rfl) (fun k9 v9 T9 E132 nx9 kc9 ks9 hq131 hk9 hs9 => ?_)
                              obtain ⟨rfl, rfl, rfl, rfl, z133, rfl, hz133⟩ := hq131
                              obtain rfl : kc = kc9 := by omega
                              obtain rfl : ks = ks9 := by omega
                              refine Or.inr (Or.inl ⟨rfl, ?_⟩)
                              refine w_const (n := (-1)) (npc := 180) rfl ?_
                              refine w_icmp (c := .eq) (npc := 183) (pt := 202) rfl (fun hc134 => ?_) (fun hc134 => ?_)
                              · replace hc134 : z133 = (-1) := hc134
                                refine w_aload (i := 0) (npc := 203) rfl rfl rfl ?_
                                refine w_iload (i := 4) (npc := 205) rfl rfl ?_
                                refine w_const (n := 0) (npc := 206) rfl ?_
                                refine w_virt (ci := 8) (i := 81) (npc := 209) (a := [cr 81, ai_i z101, ai_i 0]) (rest := []) rfl rfl (hI117.pl (by decide)) (hI117.T (by decide) rfl) rfl rfl rfl rfl (ct_m_of (sl := sl) (x := x) (d := d + 5) (z101) (0) hI117 (by omega) (by omega) (by omega)) (Or.inl rfl) (fun k9 v9 T9 E136 nx9 kc9 ks9 hq135 hk9 hs9 => ?_)
                                obtain ⟨rfl, rfl, rfl, rfl, z137, rfl, hz137⟩ := hq135
                                obtain rfl : kc = kc9 := by omega
                                obtain rfl : ks = ks9 := by omega
                                refine Or.inr (Or.inl ⟨rfl, ?_⟩)
                                have hl138 : gv E 82 (166 * z101 + 0).toNat = gv Eq117 82 (166 * z101 + 0).toNat := gv_fr hF117 (by simp)
                                refine w_const (n := 3) (npc := 210) rfl ?_
                                refine w_icmp (c := .ne) (npc := 213) (pt := 220) rfl (fun hc139 => ?_) (fun hc139 => ?_)
                                · replace hc139 : z137 ≠ 3 := hc139
                                  refine w_iinc (i := 3) (n := 1) (npc := 223) (loc' := [cr 81, ai_i p, ai_i w, ai_i (n + 1), ai_i z101]) rfl rfl (by omega) rfl ?_
                                  refine w_goto (pt := 117) rfl ?_
                                  exact ih117 (n + 1) (ai_i z101) Eq117 (by omega) hI117 hF117 (by omega)
                                · replace hc139 : ¬ (z137 ≠ 3) := hc139
                                  obtain ⟨hw0, hw1, hw2, hw3, hw4, hw5⟩ := hp1.1 z101 (by omega) (by omega)
                                  have hw6 := (hw5 (by omega)).1
                                  have hw7 : gv E 82 (166 * z101 + 9).toNat = gv Eq117 82 (166 * z101 + 9).toNat := gv_fr hF117 (by simp)
                                  refine w_aload (i := 0) (npc := 214) rfl rfl rfl ?_
                                  refine w_iload (i := 1) (npc := 215) rfl rfl ?_
                                  refine w_iload (i := 4) (npc := 217) rfl rfl ?_
                                  refine w_virt (ci := 8) (i := 81) (npc := 220) (a := [cr 81, ai_i p, ai_i z101]) (rest := []) rfl rfl (hI117.pl (by decide)) (hI117.T (by decide) rfl) rfl rfl rfl rfl (ct_m_tellMove (sl := sl) (x := x) (d := d + 0) (p) (z101) hI117 (by omega) (by omega) (by omega)) (Or.inl rfl) (fun k9 v9 T9 E142 nx9 kc9 ks9 hq141 hk9 hs9 => ?_)
                                  obtain ⟨rfl, rfl, rfl, hI144, hG145, hz143⟩ := hq141
                                  obtain rfl : kc = kc9 := by omega
                                  obtain rfl : ks = ks9 := by omega
                                  have hF146 := cm_fr.trans hF117 hG145 (by first | (simp; done) | (simp; omega) | (intro i k h; (try simp only at h); (try simp only); omega))
                                  have hz147 : E142 81 12 = ai_i z92 := (hG145 81 12 (by simp)).trans hz92
                                  have ghz147 := gv_eq hz147
                                  have hz148 : E142 81 13 = ai_i z93 := (hG145 81 13 (by simp)).trans hz93
                                  have ghz148 := gv_eq hz148
                                  refine Or.inl ⟨rfl, ?_⟩
                                  refine w_iinc (i := 3) (n := 1) (npc := 223) (loc' := [cr 81, ai_i p, ai_i w, ai_i (n + 1), ai_i z101]) rfl rfl (by omega) rfl ?_
                                  refine w_goto (pt := 117) rfl ?_
                                  exact ih117 (n + 1) (ai_i z101) E142 (by omega) hI144 hF146 (by omega)
                              · replace hc134 : ¬ (z133 = (-1)) := hc134
                                refine w_aload (i := 0) (npc := 184) rfl rfl rfl ?_
                                refine w_getf (i := 81) (ci := 8) (k := 7) (npc := 187) rfl (hI117.pl (by decide)) (hI117.T (by decide) rfl) (by decide) (hI117.ref 81 7 (p := 87) (by decide) (by decide) rfl) ?_
                                refine w_aload (i := 0) (npc := 188) rfl rfl rfl ?_
                                refine w_iload (i := 1) (npc := 189) rfl rfl ?_
                                refine w_aload (i := 0) (npc := 190) rfl rfl rfl ?_
                                refine w_iload (i := 4) (npc := 192) rfl rfl ?_
                                refine w_const (n := 9) (npc := 194) rfl ?_
                                refine w_virt (ci := 8) (i := 81) (npc := 197) (a := [cr 81, ai_i z101, ai_i 9]) (rest := [ai_i p, cr 81, cr 87]) rfl rfl (hI117.pl (by decide)) (hI117.T (by decide) rfl) rfl rfl rfl rfl (ct_m_of (sl := sl) (x := x) (d := d + 5) (z101) (9) hI117 (by omega) (by omega) (by omega)) (Or.inl rfl) (fun k9 v9 T9 E151 nx9 kc9 ks9 hq150 hk9 hs9 => ?_)
                                obtain ⟨rfl, rfl, rfl, rfl, z152, rfl, hz152⟩ := hq150
                                obtain rfl : kc = kc9 := by omega
                                obtain rfl : ks = ks9 := by omega
                                refine Or.inr (Or.inl ⟨rfl, ?_⟩)
                                have hl153 : gv E 82 (166 * z101 + 9).toNat = gv Eq117 82 (166 * z101 + 9).toNat := gv_fr hF117 (by simp)
                                obtain rfl : z129 = z152 := by omega
                                refine w_virt (ci := 8) (i := 81) (npc := 200) (a := [cr 81, ai_i p, ai_i z129]) (rest := [cr 87]) rfl rfl (hI117.pl (by decide)) (hI117.T (by decide) rfl) rfl rfl rfl rfl (ct_m_setNamed (sl := sl) (x := x) (d := d + 1) (p) (z129) hI117 (by omega) (by omega)) (Or.inl rfl) (fun k9 v9 T9 E155 nx9 kc9 ks9 hq154 hk9 hs9 => ?_)
                                obtain ⟨rfl, rfl, rfl, rfl, z156, rfl, hz156⟩ := hq154
                                obtain rfl : kc = kc9 := by omega
                                obtain rfl : ks = ks9 := by omega
                                refine Or.inr (Or.inl ⟨rfl, ?_⟩)
                                refine w_const (n := 1) (npc := 201) rfl ?_
                                refine w_ast (i := 87) (k := 2) (n := 300) (npc := 202) rfl (hI117.pl (by decide)) (hI117.T (by decide) rfl) (by decide) (by omega) (cm_af2 (by omega)) ?_
                                have hI158 := hI117.puti (i := 87) (k := (z156 : Int).toNat) (z := 1) (lo := 0) (hi := 1) (by decide) rfl (by omega)
                                have hF160 := cm_fr.up (i := 87) (k := (z156 : Int).toNat) (v := ai_i 1) hF117 (by first | (simp; done) | (simp; omega) | (intro i k h; (try simp only at h); (try simp only); omega))
                                generalize hE159 : cm_up Eq117 87 (z156 : Int).toNat (ai_i 1) = E157 at hI158 hF160 ⊢
                                have hz161 : E157 81 12 = ai_i z92 := by rw [← hE159, cm_up_nei _ _ (by decide)]; exact hz92
                                have ghz161 := gv_eq hz161
                                have hz162 : E157 81 13 = ai_i z93 := by rw [← hE159, cm_up_nei _ _ (by decide)]; exact hz93
                                have ghz162 := gv_eq hz162
                                have hz163 : E157 83 (5 * p + w : Int).toNat = ai_i z96 := by rw [← hE159, cm_up_nei _ _ (by decide)]; exact hz96
                                have ghz163 := gv_eq hz163
                                have hz164 : E157 86 (z104 : Int).toNat = ai_i z105 := by rw [← hE159, cm_up_nei _ _ (by decide)]; exact hz105
                                have ghz164 := gv_eq hz164
                                have hz165 : E157 87 (z156 : Int).toNat = ai_i 1 := by rw [← hE159, cm_up_eq]
                                have ghz165 := gv_eq hz165
                                refine w_aload (i := 0) (npc := 203) rfl rfl rfl ?_
                                refine w_iload (i := 4) (npc := 205) rfl rfl ?_
                                refine w_const (n := 0) (npc := 206) rfl ?_
                                refine w_virt (ci := 8) (i := 81) (npc := 209) (a := [cr 81, ai_i z101, ai_i 0]) (rest := []) rfl rfl (hI158.pl (by decide)) (hI158.T (by decide) rfl) rfl rfl rfl rfl (ct_m_of (sl := sl) (x := x) (d := d + 5) (z101) (0) hI158 (by omega) (by omega) (by omega)) (Or.inl rfl) (fun k9 v9 T9 E167 nx9 kc9 ks9 hq166 hk9 hs9 => ?_)
                                obtain ⟨rfl, rfl, rfl, rfl, z168, rfl, hz168⟩ := hq166
                                obtain rfl : kc = kc9 := by omega
                                obtain rfl : ks = ks9 := by omega
                                refine Or.inr (Or.inl ⟨rfl, ?_⟩)
                                have hl169 : gv E 82 (166 * z101 + 0).toNat = gv E157 82 (166 * z101 + 0).toNat := gv_fr hF160 (by simp)
                                refine w_const (n := 3) (npc := 210) rfl ?_
                                refine w_icmp (c := .ne) (npc := 213) (pt := 220) rfl (fun hc170 => ?_) (fun hc170 => ?_)
                                · replace hc170 : z168 ≠ 3 := hc170
                                  refine w_iinc (i := 3) (n := 1) (npc := 223) (loc' := [cr 81, ai_i p, ai_i w, ai_i (n + 1), ai_i z101]) rfl rfl (by omega) rfl ?_
                                  refine w_goto (pt := 117) rfl ?_
                                  exact ih117 (n + 1) (ai_i z101) E157 (by omega) hI158 hF160 (by omega)
                                · replace hc170 : ¬ (z168 ≠ 3) := hc170
                                  obtain ⟨hw0, hw1, hw2, hw3, hw4, hw5⟩ := hp1.1 z101 (by omega) (by omega)
                                  have hw6 := (hw5 (by omega)).1
                                  have hw7 : gv E 82 (166 * z101 + 9).toNat = gv E157 82 (166 * z101 + 9).toNat := gv_fr hF160 (by simp)
                                  refine w_aload (i := 0) (npc := 214) rfl rfl rfl ?_
                                  refine w_iload (i := 1) (npc := 215) rfl rfl ?_
                                  refine w_iload (i := 4) (npc := 217) rfl rfl ?_
                                  refine w_virt (ci := 8) (i := 81) (npc := 220) (a := [cr 81, ai_i p, ai_i z101]) (rest := []) rfl rfl (hI158.pl (by decide)) (hI158.T (by decide) rfl) rfl rfl rfl rfl (ct_m_tellMove (sl := sl) (x := x) (d := d + 0) (p) (z101) hI158 (by omega) (by omega) (by omega)) (Or.inl rfl) (fun k9 v9 T9 E173 nx9 kc9 ks9 hq172 hk9 hs9 => ?_)
                                  obtain ⟨rfl, rfl, rfl, hI175, hG176, hz174⟩ := hq172
                                  obtain rfl : kc = kc9 := by omega
                                  obtain rfl : ks = ks9 := by omega
                                  have hF177 := cm_fr.trans hF160 hG176 (by first | (simp; done) | (simp; omega) | (intro i k h; (try simp only at h); (try simp only); omega))
                                  have hz178 : E173 81 12 = ai_i z92 := (hG176 81 12 (by simp)).trans hz161
                                  have ghz178 := gv_eq hz178
                                  have hz179 : E173 81 13 = ai_i z93 := (hG176 81 13 (by simp)).trans hz162
                                  have ghz179 := gv_eq hz179
                                  refine Or.inl ⟨rfl, ?_⟩
                                  refine w_iinc (i := 3) (n := 1) (npc := 223) (loc' := [cr 81, ai_i p, ai_i w, ai_i (n + 1), ai_i z101]) rfl rfl (by omega) rfl ?_
                                  refine w_goto (pt := 117) rfl ?_
                                  exact ih117 (n + 1) (ai_i z101) E173 (by omega) hI175 hF177 (by omega)
                          · replace hc106 : ¬ (z105 ≠ 0) := hc106
                            refine w_goto (pt := 220) rfl ?_
                            refine w_iinc (i := 3) (n := 1) (npc := 223) (loc' := [cr 81, ai_i p, ai_i w, ai_i (n + 1), ai_i z101]) rfl rfl (by omega) rfl ?_
                            refine w_goto (pt := 117) rfl ?_
                            exact ih117 (n + 1) (ai_i z101) Eq117 (by omega) hI117 hF117 (by omega)
                    exact loop117 _ (1) (u107_4) Eq107 (Nat.lt_succ_self _) hI107 hF107 (by omega)
              exact loop107 _ (0) (u46_3) (ai_un) Eq46 (Nat.lt_succ_self _) hI46 hF46 (by omega)
            · replace hc24 : ¬ (z23 ≤ w) := hc24
              refine w_const (n := 1) (npc := 55) rfl ?_
              refine w_istore (i := 3) (npc := 56) (loc' := [cr 81, ai_i p, ai_i w, ai_i 1, ai_un]) rfl rfl ?_
              have loop56 : ∀ (nf : Nat) (n : Int) (Eq56 : cm_E), ((61 - n).toNat) < nf → cs_I T Eq56 nx → cm_fr (fun i k => (i = 81 ∧ (k = 12 ∨ k = 13)) ∨ i = 86 ∨ i = 87 ∨ i = 88 ∨ i = 89 ∨ i = 90 ∨ i = 91) E Eq56 → (1 ≤ n ∧ n ≤ 61 ∧ gv Eq56 81 12 = 0 ∧ gv Eq56 81 13 = 0) → cm_wp (ai_find ai_c217 sl) (ai_ev sl (d + 6)) x (kc + 0) (ks + 0) (fun rk rv T' E' nx' => rk = 0 ∧ T = T' ∧ nx = nx' ∧ cs_I T E' nx ∧ cm_fr (fun i k => (i = 81 ∧ (k = 12 ∨ k = 13)) ∨ i = 86 ∨ i = 87 ∨ i = 88 ∨ i = 89 ∨ i = 90 ∨ i = 91) E E' ∧ ((∀ j : Int, 0 ≤ j → j < gv E' 81 13 → ∃ q : Int, 0 ≤ q ∧ q < gv E' 81 12 ∧ gv E' 90 q.toNat = gv E' 91 j.toNat))) 56 [cr 81, ai_i p, ai_i w, ai_i n, ai_un] [] T Eq56 nx kc ks := by
                intro nf
                induction nf with
                | zero => intro n Eq56 hm; exact absurd hm (Nat.not_lt_zero _)
                | succ nf56 ih =>
                  intro n Eq56 hm56 hI56 hF56 hv56
                  obtain ⟨z182, hz182, hz182a, hz182b⟩ := hI56.int 81 12 (lo := 0) (hi := 300) (by decide) (by decide) rfl
                  have ghz182 := gv_eq hz182
                  obtain ⟨z183, hz183, hz183a, hz183b⟩ := hI56.int 81 13 (lo := 0) (hi := 300) (by decide) (by decide) rfl
                  have ghz183 := gv_eq hz183
                  have ih56 := ih; clear ih
                  refine w_iload (i := 3) (npc := 57) rfl rfl ?_
                  refine w_aload (i := 0) (npc := 58) rfl rfl rfl ?_
                  refine w_getf (i := 81) (ci := 8) (k := 3) (npc := 61) rfl (hI56.pl (by decide)) (hI56.T (by decide) rfl) (by decide) (hI56.ref 81 3 (p := 83) (by decide) (by decide) rfl) ?_
                  refine w_const (n := 5) (npc := 62) rfl ?_
                  refine w_iload (i := 1) (npc := 63) rfl rfl ?_
                  refine w_imul (npc := 64) rfl (by omega) ?_
                  refine w_iload (i := 2) (npc := 65) rfl rfl ?_
                  refine w_iadd (npc := 66) rfl (by omega) ?_
                  obtain ⟨z186, hz186, hz186a, hz186b⟩ := hI56.int 83 (5 * p + w : Int).toNat (lo := 0) (hi := 60) (by decide) (show (5 * p + w : Int).toNat < 25 by omega) rfl
                  have ghz186 := gv_eq hz186
                  have g0hz186 : gv E 83 (5 * p + w : Int).toNat = z186 := (gv_fr hF56 (by simp)).trans ghz186
                  refine w_ald (i := 83) (t := 1) (n := 25) (npc := 67) rfl (hI56.pl (by decide)) (hI56.T (by decide) rfl) (by decide) rfl (by omega) hz186 ?_
                  refine w_icmp (c := .gt) (npc := 70) (pt := 99) rfl (fun hc187 => ?_) (fun hc187 => ?_)
                  · replace hc187 : z186 < n := hc187
                    refine w_iinc (i := 2) (n := 1) (npc := 102) (loc' := [cr 81, ai_i p, ai_i (w + 1), ai_i n, ai_un]) rfl rfl (by omega) rfl ?_
                    refine w_goto (pt := 46) rfl ?_
                    exact ih46 (w + 1) (ai_i n) Eq56 (by omega) hI56 hF56 (by omega)
                  · replace hc187 : ¬ (z186 < n) := hc187
                    refine w_aload (i := 0) (npc := 71) rfl rfl rfl ?_
                    refine w_getf (i := 81) (ci := 8) (k := 8) (npc := 74) rfl (hI56.pl (by decide)) (hI56.T (by decide) rfl) (by decide) (hI56.ref 81 8 (p := 88) (by decide) (by decide) rfl) ?_
                    refine w_iload (i := 2) (npc := 75) rfl rfl ?_
                    refine w_iload (i := 3) (npc := 76) rfl rfl ?_
                    refine w_call (npc := 79) (a := [ai_i w, ai_i n]) (rest := [cr 88]) rfl rfl rfl rfl rfl (ct_m_markOf (sl := sl) (x := x) (d := d + 5) (w) (n) (by omega) (by omega)) (Or.inr (fun _ _ _ _ _ hq => by have h1 := hq.1; omega)) (fun k9 v9 T9 E190 nx9 kc9 ks9 hq189 hk9 hs9 => ?_)
                    obtain ⟨rfl, rfl, rfl, rfl, z191, rfl, hz191⟩ := hq189
                    obtain rfl : kc = kc9 := by omega
                    obtain rfl : ks = ks9 := by omega
                    refine Or.inr (Or.inl ⟨rfl, ?_⟩)
                    refine w_const (n := 166) (npc := 82) rfl ?_
                    refine w_iload (i := 1) (npc := 83) rfl rfl ?_
                    refine w_iload (i := 2) (npc := 84) rfl rfl ?_
                    refine w_iload (i := 3) (npc := 85) rfl rfl ?_
                    refine w_call (npc := 88) (a := [ai_i p, ai_i w, ai_i n]) (rest := [ai_i 166, ai_i z191, cr 88]) rfl rfl rfl rfl rfl (ct_m_rowOf (sl := sl) (x := x) (d := d + 5) (p) (w) (n) (by omega) (by omega) (by omega)) (Or.inr (fun _ _ _ _ _ hq => by have h1 := hq.1; omega)) (fun k9 v9 T9 E193 nx9 kc9 ks9 hq192 hk9 hs9 => ?_)
                    obtain ⟨rfl, rfl, rfl, rfl, z194, rfl, hz194⟩ := hq192
                    obtain rfl : kc = kc9 := by omega
                    obtain rfl : ks = ks9 := by omega
                    refine Or.inr (Or.inl ⟨rfl, ?_⟩)
                    refine w_imul (npc := 89) rfl (by omega) ?_
                    refine w_const (n := 10) (npc := 91) rfl ?_
                    refine w_iadd (npc := 92) rfl (by omega) ?_
                    refine w_ast (i := 88) (k := 1) (n := 300) (npc := 93) rfl (hI56.pl (by decide)) (hI56.T (by decide) rfl) (by decide) (by omega) cm_af1 ?_
                    have hI198 := hI56.puti (i := 88) (k := (z191 : Int).toNat) (z := 166 * z194 + 10) (lo := 0) (hi := 249000) (by decide) rfl (by omega)
                    have hF200 := cm_fr.up (i := 88) (k := (z191 : Int).toNat) (v := ai_i (166 * z194 + 10)) hF56 (by first | (simp; done) | (simp; omega) | (intro i k h; (try simp only at h); (try simp only); omega))
                    generalize hE199 : cm_up Eq56 88 (z191 : Int).toNat (ai_i (166 * z194 + 10)) = E197 at hI198 hF200 ⊢
                    have hz201 : E197 81 12 = ai_i z182 := by rw [← hE199, cm_up_nei _ _ (by decide)]; exact hz182
                    have ghz201 := gv_eq hz201
                    have hz202 : E197 81 13 = ai_i z183 := by rw [← hE199, cm_up_nei _ _ (by decide)]; exact hz183
                    have ghz202 := gv_eq hz202
                    have hz203 : E197 83 (5 * p + w : Int).toNat = ai_i z186 := by rw [← hE199, cm_up_nei _ _ (by decide)]; exact hz186
                    have ghz203 := gv_eq hz203
                    have hz204 : E197 88 (z191 : Int).toNat = ai_i (166 * z194 + 10) := by rw [← hE199, cm_up_eq]
                    have ghz204 := gv_eq hz204
                    refine w_iinc (i := 3) (n := 1) (npc := 96) (loc' := [cr 81, ai_i p, ai_i w, ai_i (n + 1), ai_un]) rfl rfl (by omega) rfl ?_
                    refine w_goto (pt := 56) rfl ?_
                    exact ih56 (n + 1) E197 (by omega) hI198 hF200 (by omega)
              exact loop56 _ (1) Eq46 (Nat.lt_succ_self _) hI46 hF46 (by omega)
        exact loop46 _ (0) (ai_un) Eq17 (Nat.lt_succ_self _) hI17 hF17 (by omega)
      · replace hc20 : ¬ (300 ≤ i) := hc20
        refine w_aload (i := 0) (npc := 25) rfl rfl rfl ?_
        refine w_getf (i := 81) (ci := 8) (k := 7) (npc := 28) rfl (hI17.pl (by decide)) (hI17.T (by decide) rfl) (by decide) (hI17.ref 81 7 (p := 87) (by decide) (by decide) rfl) ?_
        refine w_iload (i := 2) (npc := 29) rfl rfl ?_
        refine w_const (n := 0) (npc := 30) rfl ?_
        refine w_ast (i := 87) (k := 2) (n := 300) (npc := 31) rfl (hI17.pl (by decide)) (hI17.T (by decide) rfl) (by decide) (by omega) (cm_af2 (by omega)) ?_
        have hI207 := hI17.puti (i := 87) (k := (i : Int).toNat) (z := 0) (lo := 0) (hi := 1) (by decide) rfl (by omega)
        have hF209 := cm_fr.up (i := 87) (k := (i : Int).toNat) (v := ai_i 0) hF17 (by first | (simp; done) | (simp; omega) | (intro i k h; (try simp only at h); (try simp only); omega))
        generalize hE208 : cm_up Eq17 87 (i : Int).toNat (ai_i 0) = E206 at hI207 hF209 ⊢
        have hz210 : E206 81 12 = ai_i z18 := by rw [← hE208, cm_up_nei _ _ (by decide)]; exact hz18
        have ghz210 := gv_eq hz210
        have hz211 : E206 81 13 = ai_i z19 := by rw [← hE208, cm_up_nei _ _ (by decide)]; exact hz19
        have ghz211 := gv_eq hz211
        have hz212 : E206 87 (i : Int).toNat = ai_i 0 := by rw [← hE208, cm_up_eq]
        have ghz212 := gv_eq hz212
        refine w_aload (i := 0) (npc := 32) rfl rfl rfl ?_
        refine w_getf (i := 81) (ci := 8) (k := 9) (npc := 35) rfl (hI207.pl (by decide)) (hI207.T (by decide) rfl) (by decide) (hI207.ref 81 9 (p := 89) (by decide) (by decide) rfl) ?_
        refine w_iload (i := 2) (npc := 36) rfl rfl ?_
        refine w_const (n := 0) (npc := 37) rfl ?_
        refine w_ast (i := 89) (k := 1) (n := 300) (npc := 38) rfl (hI207.pl (by decide)) (hI207.T (by decide) rfl) (by decide) (by omega) cm_af1 ?_
        have hI214 := hI207.puti (i := 89) (k := (i : Int).toNat) (z := 0) (lo := 0) (hi := 65540) (by decide) rfl (by omega)
        have hF216 := cm_fr.up (i := 89) (k := (i : Int).toNat) (v := ai_i 0) hF209 (by first | (simp; done) | (simp; omega) | (intro i k h; (try simp only at h); (try simp only); omega))
        generalize hE215 : cm_up E206 89 (i : Int).toNat (ai_i 0) = E213 at hI214 hF216 ⊢
        have hz217 : E213 81 12 = ai_i z18 := by rw [← hE215, cm_up_nei _ _ (by decide)]; exact hz210
        have ghz217 := gv_eq hz217
        have hz218 : E213 81 13 = ai_i z19 := by rw [← hE215, cm_up_nei _ _ (by decide)]; exact hz211
        have ghz218 := gv_eq hz218
        have hz219 : E213 87 (i : Int).toNat = ai_i 0 := by rw [← hE215, cm_up_nei _ _ (by decide)]; exact hz212
        have ghz219 := gv_eq hz219
        have hz220 : E213 89 (i : Int).toNat = ai_i 0 := by rw [← hE215, cm_up_eq]
        have ghz220 := gv_eq hz220
        refine w_iinc (i := 2) (n := 1) (npc := 41) (loc' := [cr 81, ai_i p, ai_i (i + 1), ai_un, ai_un]) rfl rfl (by omega) rfl ?_
        refine w_goto (pt := 17) rfl ?_
        exact ih17 (i + 1) E213 (by omega) hI214 hF216 (by omega)
  exact loop17 _ (0) E12 (Nat.lt_succ_self _) hI13 hF15 (by omega)
set_option maxRecDepth 16384 in
theorem ct_m_placeInRow {sl : Int × Int} {x : ai_E} {d : Nat} {T : cm_T} {E : cm_E} {nx : Nat} (a : Int) (hI : cs_I T E nx) (hp0 : ∃ q : Int, 0 ≤ q ∧ q < gv E 81 12 ∧ gv E 90 q.toNat = a) : cm_ct (ai_ev sl (d + 1)) x 194 [cr 81, ai_i a] T E nx 0 0 (fun rk rv T' E' nx' => rk = 1 ∧ T = T' ∧ E = E' ∧ nx = nx' ∧ ∃ z : Int, rv = ai_i z ∧ (0 ≤ z ∧ z ≤ 299 ∧ z < gv E 81 12)) := by
  obtain ⟨q0, hq0, hq1, hq2⟩ := hp0
  obtain ⟨zr, hzr, hzra, hzrb⟩ := hI.int 81 12 (lo := 0) (hi := 300) (by decide) (by decide) rfl
  have ghzr := gv_eq hzr
  refine cm_body (M := ai_m194) rfl rfl (fun kc ks => ?_)
  show cm_wp (ai_find ai_c194 sl) (ai_ev sl (d + 0)) x (kc + 0) (ks + 0) _ 0 [cr 81, ai_i a, ai_un] [] T E nx kc ks
  refine w_const (n := 0) (npc := 1) rfl ?_
  refine w_istore (i := 2) (npc := 2) (loc' := [cr 81, ai_i a, ai_i 0]) rfl rfl ?_
  have loop2 : ∀ (nf : Nat) (i : Int), ((q0 - i).toNat) < nf → (0 ≤ i ∧ i ≤ q0) → cm_wp (ai_find ai_c194 sl) (ai_ev sl (d + 0)) x (kc + 0) (ks + 0) (fun rk rv T' E' nx' => rk = 1 ∧ T = T' ∧ E = E' ∧ nx = nx' ∧ ∃ z : Int, rv = ai_i z ∧ (0 ≤ z ∧ z ≤ 299 ∧ z < gv E 81 12)) 2 [cr 81, ai_i a, ai_i i] [] T E nx kc ks := by
    intro nf
    induction nf with
    | zero => intro i hm; exact absurd hm (Nat.not_lt_zero _)
    | succ nf2 ih =>
      intro i hm2 hv2
      have ih2 := ih; clear ih
      refine w_aload (i := 0) (npc := 3) rfl rfl rfl ?_
      refine w_getf (i := 81) (ci := 8) (k := 10) (npc := 6) rfl (hI.pl (by decide)) (hI.T (by decide) rfl) (by decide) (hI.ref 81 10 (p := 90) (by decide) (by decide) rfl) ?_
      refine w_iload (i := 2) (npc := 7) rfl rfl ?_
      obtain ⟨z1, hz1, hz1a, hz1b⟩ := hI.int 90 (i : Int).toNat (lo := 0) (hi := 299) (by decide) (show (i : Int).toNat < 300 by omega) rfl
      have ghz1 := gv_eq hz1
      refine w_ald (i := 90) (t := 1) (n := 300) (npc := 8) rfl (hI.pl (by decide)) (hI.T (by decide) rfl) (by decide) rfl (by omega) hz1 ?_
      refine w_iload (i := 1) (npc := 9) rfl rfl ?_
      refine w_icmp (c := .eq) (npc := 12) (pt := 18) rfl (fun hc2 => ?_) (fun hc2 => ?_)
      · replace hc2 : z1 = a := hc2
        refine w_iload (i := 2) (npc := 19) rfl rfl ?_
        exact w_iret rfl (⟨rfl, rfl, rfl, rfl, i, rfl, by omega⟩) (by omega) (by omega)
      · replace hc2 : ¬ (z1 = a) := hc2
        have hne : i ≠ q0 := fun q => by rw [← q] at hq2; omega
        refine w_iinc (i := 2) (n := 1) (npc := 15) (loc' := [cr 81, ai_i a, ai_i (i + 1)]) rfl rfl (by omega) rfl ?_
        refine w_goto (pt := 2) rfl ?_
        exact ih2 (i + 1) (by omega) (by omega)
  exact loop2 _ (0) (Nat.lt_succ_self _) (by omega)
set_option maxRecDepth 16384 in
theorem ct_m_keyBehind {sl : Int × Int} {x : ai_E} {d : Nat} {T : cm_T} {E : cm_E} {nx : Nat} (p : Int) (hI : cs_I T E nx) (hp0 : 0 ≤ p ∧ p ≤ gv E 81 13) (hp1 : (∀ j : Int, 0 ≤ j → j < gv E 81 13 → ∃ q : Int, 0 ≤ q ∧ q < gv E 81 12 ∧ gv E 90 q.toNat = gv E 91 j.toNat)) : cm_ct (ai_ev sl (d + 2)) x 175 [cr 81, ai_i p] T E nx 0 0 (fun rk rv T' E' nx' => rk = 1 ∧ T = T' ∧ E = E' ∧ nx = nx' ∧ ∃ z : Int, rv = ai_i z ∧ (-1 ≤ z ∧ z ≤ 249000)) := by
  obtain ⟨zt, hzt, hzta, hztb⟩ := hI.int 81 13 (lo := 0) (hi := 300) (by decide) (by decide) rfl
  have ghzt := gv_eq hzt
  refine cm_body (M := ai_m175) rfl rfl (fun kc ks => ?_)
  show cm_wp (ai_find ai_c175 sl) (ai_ev sl (d + 1)) x (kc + 0) (ks + 0) _ 0 [cr 81, ai_i p, ai_un] [] T E nx kc ks
  refine w_iload (i := 1) (npc := 1) rfl rfl ?_
  refine w_if (c := .ne) (npc := 4) (pt := 8) rfl (fun hc1 => ?_) (fun hc1 => ?_)
  · replace hc1 : p ≠ 0 := hc1
    refine w_aload (i := 0) (npc := 9) rfl rfl rfl ?_
    refine w_aload (i := 0) (npc := 10) rfl rfl rfl ?_
    refine w_getf (i := 81) (ci := 8) (k := 11) (npc := 13) rfl (hI.pl (by decide)) (hI.T (by decide) rfl) (by decide) (hI.ref 81 11 (p := 91) (by decide) (by decide) rfl) ?_
    refine w_iload (i := 1) (npc := 14) rfl rfl ?_
    refine w_const (n := 1) (npc := 15) rfl ?_
    refine w_isub (npc := 16) rfl (by omega) ?_
    obtain ⟨z3, hz3, hz3a, hz3b⟩ := hI.int 91 (p - 1 : Int).toNat (lo := 0) (hi := 299) (by decide) (show (p - 1 : Int).toNat < 300 by omega) rfl
    have ghz3 := gv_eq hz3
    refine w_ald (i := 91) (t := 1) (n := 300) (npc := 17) rfl (hI.pl (by decide)) (hI.T (by decide) rfl) (by decide) rfl (by omega) hz3 ?_
    refine w_virt (ci := 8) (i := 81) (npc := 20) (a := [cr 81, ai_i z3]) (rest := []) rfl rfl (hI.pl (by decide)) (hI.T (by decide) rfl) rfl rfl rfl rfl (ct_m_placeInRow (sl := sl) (x := x) (d := d + 0) (z3) hI (by obtain ⟨q, q0, q1, q2⟩ := hp1 (p - 1) (by omega) (by omega); exact ⟨q, q0, q1, by omega⟩)) (Or.inl rfl) (fun k9 v9 T9 E5 nx9 kc9 ks9 hq4 hk9 hs9 => ?_)
    obtain ⟨rfl, rfl, rfl, rfl, z6, rfl, hz6⟩ := hq4
    obtain rfl : kc = kc9 := by omega
    obtain rfl : ks = ks9 := by omega
    refine Or.inr (Or.inl ⟨rfl, ?_⟩)
    refine w_const (n := 1) (npc := 21) rfl ?_
    refine w_iadd (npc := 22) rfl (by omega) ?_
    refine w_istore (i := 2) (npc := 23) (loc' := [cr 81, ai_i p, ai_i (z6 + 1)]) rfl rfl ?_
    have loop23 : ∀ (nf : Nat) (i : Int), ((300 - i).toNat) < nf → (0 ≤ i ∧ i ≤ 300) → cm_wp (ai_find ai_c175 sl) (ai_ev sl (d + 1)) x (kc + 0) (ks + 0) (fun rk rv T' E' nx' => rk = 1 ∧ T = T' ∧ E = E' ∧ nx = nx' ∧ ∃ z : Int, rv = ai_i z ∧ (-1 ≤ z ∧ z ≤ 249000)) 23 [cr 81, ai_i p, ai_i i] [] T E nx kc ks := by
      intro nf
      induction nf with
      | zero => intro i hm; exact absurd hm (Nat.not_lt_zero _)
      | succ nf23 ih =>
        intro i hm23 hv23
        have ih23 := ih; clear ih
        refine w_iload (i := 1) (npc := 24) rfl rfl ?_
        refine w_if (c := .le) (npc := 27) (pt := 64) rfl (fun hc8 => ?_) (fun hc8 => ?_)
        · replace hc8 : p ≤ 0 := hc8
          refine w_iload (i := 2) (npc := 65) rfl rfl ?_
          refine w_aload (i := 0) (npc := 66) rfl rfl rfl ?_
          obtain ⟨z9, hz9, hz9a, hz9b⟩ := hI.int 81 12 (lo := 0) (hi := 300) (by decide) (by decide) rfl
          have ghz9 := gv_eq hz9
          refine w_getf (i := 81) (ci := 8) (k := 12) (npc := 69) rfl (hI.pl (by decide)) (hI.T (by decide) rfl) (by decide) hz9 ?_
          refine w_icmp (c := .ge) (npc := 72) (pt := 86) rfl (fun hc10 => ?_) (fun hc10 => ?_)
          · replace hc10 : z9 ≤ i := hc10
            refine w_const (n := (-1)) (npc := 87) rfl ?_
            exact w_iret rfl (⟨rfl, rfl, rfl, rfl, (-1), rfl, by omega⟩) (by omega) (by omega)
          · replace hc10 : ¬ (z9 ≤ i) := hc10
            refine w_aload (i := 0) (npc := 73) rfl rfl rfl ?_
            refine w_getf (i := 81) (ci := 8) (k := 8) (npc := 76) rfl (hI.pl (by decide)) (hI.T (by decide) rfl) (by decide) (hI.ref 81 8 (p := 88) (by decide) (by decide) rfl) ?_
            refine w_aload (i := 0) (npc := 77) rfl rfl rfl ?_
            refine w_getf (i := 81) (ci := 8) (k := 10) (npc := 80) rfl (hI.pl (by decide)) (hI.T (by decide) rfl) (by decide) (hI.ref 81 10 (p := 90) (by decide) (by decide) rfl) ?_
            refine w_iload (i := 2) (npc := 81) rfl rfl ?_
            obtain ⟨z11, hz11, hz11a, hz11b⟩ := hI.int 90 (i : Int).toNat (lo := 0) (hi := 299) (by decide) (show (i : Int).toNat < 300 by omega) rfl
            have ghz11 := gv_eq hz11
            refine w_ald (i := 90) (t := 1) (n := 300) (npc := 82) rfl (hI.pl (by decide)) (hI.T (by decide) rfl) (by decide) rfl (by omega) hz11 ?_
            obtain ⟨z12, hz12, hz12a, hz12b⟩ := hI.int 88 (z11 : Int).toNat (lo := 0) (hi := 249000) (by decide) (show (z11 : Int).toNat < 300 by omega) rfl
            have ghz12 := gv_eq hz12
            refine w_ald (i := 88) (t := 1) (n := 300) (npc := 83) rfl (hI.pl (by decide)) (hI.T (by decide) rfl) (by decide) rfl (by omega) hz12 ?_
            refine w_goto (pt := 87) rfl ?_
            exact w_iret rfl (⟨rfl, rfl, rfl, rfl, z12, rfl, by omega⟩) (by omega) (by omega)
        · replace hc8 : ¬ (p ≤ 0) := hc8
          refine w_iload (i := 2) (npc := 28) rfl rfl ?_
          refine w_aload (i := 0) (npc := 29) rfl rfl rfl ?_
          obtain ⟨z13, hz13, hz13a, hz13b⟩ := hI.int 81 12 (lo := 0) (hi := 300) (by decide) (by decide) rfl
          have ghz13 := gv_eq hz13
          refine w_getf (i := 81) (ci := 8) (k := 12) (npc := 32) rfl (hI.pl (by decide)) (hI.T (by decide) rfl) (by decide) hz13 ?_
          refine w_icmp (c := .ge) (npc := 35) (pt := 64) rfl (fun hc14 => ?_) (fun hc14 => ?_)
          · replace hc14 : z13 ≤ i := hc14
            refine w_iload (i := 2) (npc := 65) rfl rfl ?_
            refine w_aload (i := 0) (npc := 66) rfl rfl rfl ?_
            refine w_getf (i := 81) (ci := 8) (k := 12) (npc := 69) rfl (hI.pl (by decide)) (hI.T (by decide) rfl) (by decide) hz13 ?_
            refine w_icmp (c := .ge) (npc := 72) (pt := 86) rfl (fun hc15 => ?_) (fun hc15 => ?_)
            · replace hc15 : z13 ≤ i := hc15
              refine w_const (n := (-1)) (npc := 87) rfl ?_
              exact w_iret rfl (⟨rfl, rfl, rfl, rfl, (-1), rfl, by omega⟩) (by omega) (by omega)
            · replace hc15 : ¬ (z13 ≤ i) := hc15
              refine w_aload (i := 0) (npc := 73) rfl rfl rfl ?_
              refine w_getf (i := 81) (ci := 8) (k := 8) (npc := 76) rfl (hI.pl (by decide)) (hI.T (by decide) rfl) (by decide) (hI.ref 81 8 (p := 88) (by decide) (by decide) rfl) ?_
              refine w_aload (i := 0) (npc := 77) rfl rfl rfl ?_
              refine w_getf (i := 81) (ci := 8) (k := 10) (npc := 80) rfl (hI.pl (by decide)) (hI.T (by decide) rfl) (by decide) (hI.ref 81 10 (p := 90) (by decide) (by decide) rfl) ?_
              refine w_iload (i := 2) (npc := 81) rfl rfl ?_
              obtain ⟨z16, hz16, hz16a, hz16b⟩ := hI.int 90 (i : Int).toNat (lo := 0) (hi := 299) (by decide) (show (i : Int).toNat < 300 by omega) rfl
              have ghz16 := gv_eq hz16
              refine w_ald (i := 90) (t := 1) (n := 300) (npc := 82) rfl (hI.pl (by decide)) (hI.T (by decide) rfl) (by decide) rfl (by omega) hz16 ?_
              obtain ⟨z17, hz17, hz17a, hz17b⟩ := hI.int 88 (z16 : Int).toNat (lo := 0) (hi := 249000) (by decide) (show (z16 : Int).toNat < 300 by omega) rfl
              have ghz17 := gv_eq hz17
              refine w_ald (i := 88) (t := 1) (n := 300) (npc := 83) rfl (hI.pl (by decide)) (hI.T (by decide) rfl) (by decide) rfl (by omega) hz17 ?_
              refine w_goto (pt := 87) rfl ?_
              exact w_iret rfl (⟨rfl, rfl, rfl, rfl, z17, rfl, by omega⟩) (by omega) (by omega)
          · replace hc14 : ¬ (z13 ≤ i) := hc14
            refine w_aload (i := 0) (npc := 36) rfl rfl rfl ?_
            refine w_aload (i := 0) (npc := 37) rfl rfl rfl ?_
            refine w_getf (i := 81) (ci := 8) (k := 8) (npc := 40) rfl (hI.pl (by decide)) (hI.T (by decide) rfl) (by decide) (hI.ref 81 8 (p := 88) (by decide) (by decide) rfl) ?_
            refine w_aload (i := 0) (npc := 41) rfl rfl rfl ?_
            refine w_getf (i := 81) (ci := 8) (k := 10) (npc := 44) rfl (hI.pl (by decide)) (hI.T (by decide) rfl) (by decide) (hI.ref 81 10 (p := 90) (by decide) (by decide) rfl) ?_
            refine w_iload (i := 2) (npc := 45) rfl rfl ?_
            obtain ⟨z18, hz18, hz18a, hz18b⟩ := hI.int 90 (i : Int).toNat (lo := 0) (hi := 299) (by decide) (show (i : Int).toNat < 300 by omega) rfl
            have ghz18 := gv_eq hz18
            refine w_ald (i := 90) (t := 1) (n := 300) (npc := 46) rfl (hI.pl (by decide)) (hI.T (by decide) rfl) (by decide) rfl (by omega) hz18 ?_
            obtain ⟨z19, hz19, hz19a, hz19b⟩ := hI.int 88 (z18 : Int).toNat (lo := 0) (hi := 249000) (by decide) (show (z18 : Int).toNat < 300 by omega) rfl
            have ghz19 := gv_eq hz19
            refine w_ald (i := 88) (t := 1) (n := 300) (npc := 47) rfl (hI.pl (by decide)) (hI.T (by decide) rfl) (by decide) rfl (by omega) hz19 ?_
            refine w_aload (i := 0) (npc := 48) rfl rfl rfl ?_
            refine w_iload (i := 1) (npc := 49) rfl rfl ?_
            refine w_virt (ci := 8) (i := 81) (npc := 52) (a := [cr 81, ai_i p]) (rest := [ai_i z19, cr 81]) rfl rfl (hI.pl (by decide)) (hI.T (by decide) rfl) rfl rfl rfl rfl (ct_m_keyAhead (sl := sl) (x := x) (d := d + 0) (p) hI (by omega)) (Or.inl rfl) (fun k9 v9 T9 E21 nx9 kc9 ks9 hq20 hk9 hs9 => ?_)
            obtain ⟨rfl, rfl, rfl, rfl, z22, rfl, hz22⟩ := hq20
            obtain rfl : kc = kc9 := by omega
            obtain rfl : ks = ks9 := by omega
            refine Or.inr (Or.inl ⟨rfl, ?_⟩)
            refine w_virt (ci := 8) (i := 81) (npc := 55) (a := [cr 81, ai_i z19, ai_i z22]) (rest := []) rfl rfl (hI.pl (by decide)) (hI.T (by decide) rfl) rfl rfl rfl rfl (ct_m_compare (sl := sl) (x := x) (d := d + 0) (z19) (z22) hI (by omega) (by omega)) (Or.inl rfl) (fun k9 v9 T9 E24 nx9 kc9 ks9 hq23 hk9 hs9 => ?_)
            obtain ⟨rfl, rfl, rfl, rfl, z25, rfl, hz25⟩ := hq23
            obtain rfl : kc = kc9 := by omega
            obtain rfl : ks = ks9 := by omega
            refine Or.inr (Or.inl ⟨rfl, ?_⟩)
            refine w_if (c := .ne) (npc := 58) (pt := 64) rfl (fun hc26 => ?_) (fun hc26 => ?_)
            · replace hc26 : z25 ≠ 0 := hc26
              refine w_iload (i := 2) (npc := 65) rfl rfl ?_
              refine w_aload (i := 0) (npc := 66) rfl rfl rfl ?_
              refine w_getf (i := 81) (ci := 8) (k := 12) (npc := 69) rfl (hI.pl (by decide)) (hI.T (by decide) rfl) (by decide) hz13 ?_
              refine w_icmp (c := .ge) (npc := 72) (pt := 86) rfl (fun hc27 => ?_) (fun hc27 => ?_)
              · replace hc27 : z13 ≤ i := hc27
                refine w_const (n := (-1)) (npc := 87) rfl ?_
                exact w_iret rfl (⟨rfl, rfl, rfl, rfl, (-1), rfl, by omega⟩) (by omega) (by omega)
              · replace hc27 : ¬ (z13 ≤ i) := hc27
                refine w_aload (i := 0) (npc := 73) rfl rfl rfl ?_
                refine w_getf (i := 81) (ci := 8) (k := 8) (npc := 76) rfl (hI.pl (by decide)) (hI.T (by decide) rfl) (by decide) (hI.ref 81 8 (p := 88) (by decide) (by decide) rfl) ?_
                refine w_aload (i := 0) (npc := 77) rfl rfl rfl ?_
                refine w_getf (i := 81) (ci := 8) (k := 10) (npc := 80) rfl (hI.pl (by decide)) (hI.T (by decide) rfl) (by decide) (hI.ref 81 10 (p := 90) (by decide) (by decide) rfl) ?_
                refine w_iload (i := 2) (npc := 81) rfl rfl ?_
                refine w_ald (i := 90) (t := 1) (n := 300) (npc := 82) rfl (hI.pl (by decide)) (hI.T (by decide) rfl) (by decide) rfl (by omega) hz18 ?_
                refine w_ald (i := 88) (t := 1) (n := 300) (npc := 83) rfl (hI.pl (by decide)) (hI.T (by decide) rfl) (by decide) rfl (by omega) hz19 ?_
                refine w_goto (pt := 87) rfl ?_
                exact w_iret rfl (⟨rfl, rfl, rfl, rfl, z19, rfl, by omega⟩) (by omega) (by omega)
            · replace hc26 : ¬ (z25 ≠ 0) := hc26
              refine w_iinc (i := 2) (n := 1) (npc := 61) (loc' := [cr 81, ai_i p, ai_i (i + 1)]) rfl rfl (by omega) rfl ?_
              refine w_goto (pt := 23) rfl ?_
              exact ih23 (i + 1) (by omega) (by omega)
    exact loop23 _ (z6 + 1) (Nat.lt_succ_self _) (by omega)
  · replace hc1 : ¬ (p ≠ 0) := hc1
    refine w_const (n := 0) (npc := 5) rfl ?_
    refine w_goto (pt := 22) rfl ?_
    refine w_istore (i := 2) (npc := 23) (loc' := [cr 81, ai_i p, ai_i 0]) rfl rfl ?_
    have loop23 : ∀ (nf : Nat) (i : Int), ((300 - i).toNat) < nf → (0 ≤ i ∧ i ≤ 300) → cm_wp (ai_find ai_c175 sl) (ai_ev sl (d + 1)) x (kc + 0) (ks + 0) (fun rk rv T' E' nx' => rk = 1 ∧ T = T' ∧ E = E' ∧ nx = nx' ∧ ∃ z : Int, rv = ai_i z ∧ (-1 ≤ z ∧ z ≤ 249000)) 23 [cr 81, ai_i p, ai_i i] [] T E nx kc ks := by
      intro nf
      induction nf with
      | zero => intro i hm; exact absurd hm (Nat.not_lt_zero _)
      | succ nf23 ih =>
        intro i hm23 hv23
        have ih23 := ih; clear ih
        refine w_iload (i := 1) (npc := 24) rfl rfl ?_
        refine w_if (c := .le) (npc := 27) (pt := 64) rfl (fun hc29 => ?_) (fun hc29 => ?_)
        · replace hc29 : p ≤ 0 := hc29
          refine w_iload (i := 2) (npc := 65) rfl rfl ?_
          refine w_aload (i := 0) (npc := 66) rfl rfl rfl ?_
          obtain ⟨z30, hz30, hz30a, hz30b⟩ := hI.int 81 12 (lo := 0) (hi := 300) (by decide) (by decide) rfl
          have ghz30 := gv_eq hz30
          refine w_getf (i := 81) (ci := 8) (k := 12) (npc := 69) rfl (hI.pl (by decide)) (hI.T (by decide) rfl) (by decide) hz30 ?_
          refine w_icmp (c := .ge) (npc := 72) (pt := 86) rfl (fun hc31 => ?_) (fun hc31 => ?_)
          · replace hc31 : z30 ≤ i := hc31
            refine w_const (n := (-1)) (npc := 87) rfl ?_
            exact w_iret rfl (⟨rfl, rfl, rfl, rfl, (-1), rfl, by omega⟩) (by omega) (by omega)
          · replace hc31 : ¬ (z30 ≤ i) := hc31
            refine w_aload (i := 0) (npc := 73) rfl rfl rfl ?_
            refine w_getf (i := 81) (ci := 8) (k := 8) (npc := 76) rfl (hI.pl (by decide)) (hI.T (by decide) rfl) (by decide) (hI.ref 81 8 (p := 88) (by decide) (by decide) rfl) ?_
            refine w_aload (i := 0) (npc := 77) rfl rfl rfl ?_
            refine w_getf (i := 81) (ci := 8) (k := 10) (npc := 80) rfl (hI.pl (by decide)) (hI.T (by decide) rfl) (by decide) (hI.ref 81 10 (p := 90) (by decide) (by decide) rfl) ?_
            refine w_iload (i := 2) (npc := 81) rfl rfl ?_
            obtain ⟨z32, hz32, hz32a, hz32b⟩ := hI.int 90 (i : Int).toNat (lo := 0) (hi := 299) (by decide) (show (i : Int).toNat < 300 by omega) rfl
            have ghz32 := gv_eq hz32
            refine w_ald (i := 90) (t := 1) (n := 300) (npc := 82) rfl (hI.pl (by decide)) (hI.T (by decide) rfl) (by decide) rfl (by omega) hz32 ?_
            obtain ⟨z33, hz33, hz33a, hz33b⟩ := hI.int 88 (z32 : Int).toNat (lo := 0) (hi := 249000) (by decide) (show (z32 : Int).toNat < 300 by omega) rfl
            have ghz33 := gv_eq hz33
            refine w_ald (i := 88) (t := 1) (n := 300) (npc := 83) rfl (hI.pl (by decide)) (hI.T (by decide) rfl) (by decide) rfl (by omega) hz33 ?_
            refine w_goto (pt := 87) rfl ?_
            exact w_iret rfl (⟨rfl, rfl, rfl, rfl, z33, rfl, by omega⟩) (by omega) (by omega)
        · replace hc29 : ¬ (p ≤ 0) := hc29
          refine w_iload (i := 2) (npc := 28) rfl rfl ?_
          refine w_aload (i := 0) (npc := 29) rfl rfl rfl ?_
          obtain ⟨z34, hz34, hz34a, hz34b⟩ := hI.int 81 12 (lo := 0) (hi := 300) (by decide) (by decide) rfl
          have ghz34 := gv_eq hz34
          refine w_getf (i := 81) (ci := 8) (k := 12) (npc := 32) rfl (hI.pl (by decide)) (hI.T (by decide) rfl) (by decide) hz34 ?_
          refine w_icmp (c := .ge) (npc := 35) (pt := 64) rfl (fun hc35 => ?_) (fun hc35 => ?_)
          · replace hc35 : z34 ≤ i := hc35
            refine w_iload (i := 2) (npc := 65) rfl rfl ?_
            refine w_aload (i := 0) (npc := 66) rfl rfl rfl ?_
            refine w_getf (i := 81) (ci := 8) (k := 12) (npc := 69) rfl (hI.pl (by decide)) (hI.T (by decide) rfl) (by decide) hz34 ?_
            refine w_icmp (c := .ge) (npc := 72) (pt := 86) rfl (fun hc36 => ?_) (fun hc36 => ?_)
            · replace hc36 : z34 ≤ i := hc36
              refine w_const (n := (-1)) (npc := 87) rfl ?_
              exact w_iret rfl (⟨rfl, rfl, rfl, rfl, (-1), rfl, by omega⟩) (by omega) (by omega)
            · replace hc36 : ¬ (z34 ≤ i) := hc36
              refine w_aload (i := 0) (npc := 73) rfl rfl rfl ?_
              refine w_getf (i := 81) (ci := 8) (k := 8) (npc := 76) rfl (hI.pl (by decide)) (hI.T (by decide) rfl) (by decide) (hI.ref 81 8 (p := 88) (by decide) (by decide) rfl) ?_
              refine w_aload (i := 0) (npc := 77) rfl rfl rfl ?_
              refine w_getf (i := 81) (ci := 8) (k := 10) (npc := 80) rfl (hI.pl (by decide)) (hI.T (by decide) rfl) (by decide) (hI.ref 81 10 (p := 90) (by decide) (by decide) rfl) ?_
              refine w_iload (i := 2) (npc := 81) rfl rfl ?_
              obtain ⟨z37, hz37, hz37a, hz37b⟩ := hI.int 90 (i : Int).toNat (lo := 0) (hi := 299) (by decide) (show (i : Int).toNat < 300 by omega) rfl
              have ghz37 := gv_eq hz37
              refine w_ald (i := 90) (t := 1) (n := 300) (npc := 82) rfl (hI.pl (by decide)) (hI.T (by decide) rfl) (by decide) rfl (by omega) hz37 ?_
              obtain ⟨z38, hz38, hz38a, hz38b⟩ := hI.int 88 (z37 : Int).toNat (lo := 0) (hi := 249000) (by decide) (show (z37 : Int).toNat < 300 by omega) rfl
              have ghz38 := gv_eq hz38
              refine w_ald (i := 88) (t := 1) (n := 300) (npc := 83) rfl (hI.pl (by decide)) (hI.T (by decide) rfl) (by decide) rfl (by omega) hz38 ?_
              refine w_goto (pt := 87) rfl ?_
              exact w_iret rfl (⟨rfl, rfl, rfl, rfl, z38, rfl, by omega⟩) (by omega) (by omega)
          · replace hc35 : ¬ (z34 ≤ i) := hc35
            refine w_aload (i := 0) (npc := 36) rfl rfl rfl ?_
            refine w_aload (i := 0) (npc := 37) rfl rfl rfl ?_
            refine w_getf (i := 81) (ci := 8) (k := 8) (npc := 40) rfl (hI.pl (by decide)) (hI.T (by decide) rfl) (by decide) (hI.ref 81 8 (p := 88) (by decide) (by decide) rfl) ?_
            refine w_aload (i := 0) (npc := 41) rfl rfl rfl ?_
            refine w_getf (i := 81) (ci := 8) (k := 10) (npc := 44) rfl (hI.pl (by decide)) (hI.T (by decide) rfl) (by decide) (hI.ref 81 10 (p := 90) (by decide) (by decide) rfl) ?_
            refine w_iload (i := 2) (npc := 45) rfl rfl ?_
            obtain ⟨z39, hz39, hz39a, hz39b⟩ := hI.int 90 (i : Int).toNat (lo := 0) (hi := 299) (by decide) (show (i : Int).toNat < 300 by omega) rfl
            have ghz39 := gv_eq hz39
            refine w_ald (i := 90) (t := 1) (n := 300) (npc := 46) rfl (hI.pl (by decide)) (hI.T (by decide) rfl) (by decide) rfl (by omega) hz39 ?_
            obtain ⟨z40, hz40, hz40a, hz40b⟩ := hI.int 88 (z39 : Int).toNat (lo := 0) (hi := 249000) (by decide) (show (z39 : Int).toNat < 300 by omega) rfl
            have ghz40 := gv_eq hz40
            refine w_ald (i := 88) (t := 1) (n := 300) (npc := 47) rfl (hI.pl (by decide)) (hI.T (by decide) rfl) (by decide) rfl (by omega) hz40 ?_
            refine w_aload (i := 0) (npc := 48) rfl rfl rfl ?_
            refine w_iload (i := 1) (npc := 49) rfl rfl ?_
            refine w_virt (ci := 8) (i := 81) (npc := 52) (a := [cr 81, ai_i p]) (rest := [ai_i z40, cr 81]) rfl rfl (hI.pl (by decide)) (hI.T (by decide) rfl) rfl rfl rfl rfl (ct_m_keyAhead (sl := sl) (x := x) (d := d + 0) (p) hI (by omega)) (Or.inl rfl) (fun k9 v9 T9 E42 nx9 kc9 ks9 hq41 hk9 hs9 => ?_)
            obtain ⟨rfl, rfl, rfl, rfl, z43, rfl, hz43⟩ := hq41
            obtain rfl : kc = kc9 := by omega
            obtain rfl : ks = ks9 := by omega
            refine Or.inr (Or.inl ⟨rfl, ?_⟩)
            refine w_virt (ci := 8) (i := 81) (npc := 55) (a := [cr 81, ai_i z40, ai_i z43]) (rest := []) rfl rfl (hI.pl (by decide)) (hI.T (by decide) rfl) rfl rfl rfl rfl (ct_m_compare (sl := sl) (x := x) (d := d + 0) (z40) (z43) hI (by omega) (by omega)) (Or.inl rfl) (fun k9 v9 T9 E45 nx9 kc9 ks9 hq44 hk9 hs9 => ?_)
            obtain ⟨rfl, rfl, rfl, rfl, z46, rfl, hz46⟩ := hq44
            obtain rfl : kc = kc9 := by omega
            obtain rfl : ks = ks9 := by omega
            refine Or.inr (Or.inl ⟨rfl, ?_⟩)
            refine w_if (c := .ne) (npc := 58) (pt := 64) rfl (fun hc47 => ?_) (fun hc47 => ?_)
            · replace hc47 : z46 ≠ 0 := hc47
              refine w_iload (i := 2) (npc := 65) rfl rfl ?_
              refine w_aload (i := 0) (npc := 66) rfl rfl rfl ?_
              refine w_getf (i := 81) (ci := 8) (k := 12) (npc := 69) rfl (hI.pl (by decide)) (hI.T (by decide) rfl) (by decide) hz34 ?_
              refine w_icmp (c := .ge) (npc := 72) (pt := 86) rfl (fun hc48 => ?_) (fun hc48 => ?_)
              · replace hc48 : z34 ≤ i := hc48
                refine w_const (n := (-1)) (npc := 87) rfl ?_
                exact w_iret rfl (⟨rfl, rfl, rfl, rfl, (-1), rfl, by omega⟩) (by omega) (by omega)
              · replace hc48 : ¬ (z34 ≤ i) := hc48
                refine w_aload (i := 0) (npc := 73) rfl rfl rfl ?_
                refine w_getf (i := 81) (ci := 8) (k := 8) (npc := 76) rfl (hI.pl (by decide)) (hI.T (by decide) rfl) (by decide) (hI.ref 81 8 (p := 88) (by decide) (by decide) rfl) ?_
                refine w_aload (i := 0) (npc := 77) rfl rfl rfl ?_
                refine w_getf (i := 81) (ci := 8) (k := 10) (npc := 80) rfl (hI.pl (by decide)) (hI.T (by decide) rfl) (by decide) (hI.ref 81 10 (p := 90) (by decide) (by decide) rfl) ?_
                refine w_iload (i := 2) (npc := 81) rfl rfl ?_
                refine w_ald (i := 90) (t := 1) (n := 300) (npc := 82) rfl (hI.pl (by decide)) (hI.T (by decide) rfl) (by decide) rfl (by omega) hz39 ?_
                refine w_ald (i := 88) (t := 1) (n := 300) (npc := 83) rfl (hI.pl (by decide)) (hI.T (by decide) rfl) (by decide) rfl (by omega) hz40 ?_
                refine w_goto (pt := 87) rfl ?_
                exact w_iret rfl (⟨rfl, rfl, rfl, rfl, z40, rfl, by omega⟩) (by omega) (by omega)
            · replace hc47 : ¬ (z46 ≠ 0) := hc47
              refine w_iinc (i := 2) (n := 1) (npc := 61) (loc' := [cr 81, ai_i p, ai_i (i + 1)]) rfl rfl (by omega) rfl ?_
              refine w_goto (pt := 23) rfl ?_
              exact ih23 (i + 1) (by omega) (by omega)
    exact loop23 _ (0) (Nat.lt_succ_self _) (by omega)
