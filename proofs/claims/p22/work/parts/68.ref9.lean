set_option maxRecDepth 16384 in
theorem ct_m_release {sl : Int × Int} {x : ai_E} {d : Nat} {T : cm_T} {E : cm_E} {nx : Nat} (p : Int) (hI : cs_I T E nx) (hR : rl E) (hp0 : 0 ≤ p ∧ p ≤ 4) : cm_ct (ai_ev sl (d + 4)) x 203 [cr 81, ai_i p] T E nx 0 0 (fun rk rv T' E' nx' => rk = 0 ∧ T = T' ∧ nx = nx' ∧ cs_I T E' nx ∧ cm_fr (fun i k => i = 83 ∨ i = 84 ∨ (i = 82 ∧ k < 265600)) E E' ∧ rl E' ∧ (True)) := by
  refine cm_body (M := ai_m203) rfl rfl (fun kc ks => ?_)
  show cm_wp (ai_find ai_c203 sl) (ai_ev sl (d + 3)) x (kc + 0) (ks + 0) _ 0 [cr 81, ai_i p, ai_un, ai_un, ai_un] [] T E nx kc ks
  have hF : cm_fr (fun i k => i = 83 ∨ i = 84 ∨ (i = 82 ∧ k < 265600)) E E := fun _ _ _ => rfl
  refine w_const (n := 1) (npc := 1) rfl ?_
  refine w_istore (i := 2) (npc := 2) (loc' := [cr 81, ai_i p, ai_i 1, ai_un, ai_un]) rfl rfl ?_
  have loop2 : ∀ (nf : Nat) (m : Int) (u2_3 : ai_V) (u2_4 : ai_V) (Eq2 : cm_E), ((gv Eq2 84 p.toNat + m).toNat) < nf → cs_I T Eq2 nx → cm_fr (fun i k => i = 83 ∨ i = 84 ∨ (i = 82 ∧ k < 265600)) E Eq2 → rl Eq2 → (0 ≤ m ∧ m ≤ 1) → cm_wp (ai_find ai_c203 sl) (ai_ev sl (d + 3)) x (kc + 0) (ks + 0) (fun rk rv T' E' nx' => rk = 0 ∧ T = T' ∧ nx = nx' ∧ cs_I T E' nx ∧ cm_fr (fun i k => i = 83 ∨ i = 84 ∨ (i = 82 ∧ k < 265600)) E E' ∧ rl E' ∧ (True)) 2 [cr 81, ai_i p, ai_i m, u2_3, u2_4] [] T Eq2 nx kc ks := by
    intro nf
    induction nf with
    | zero => intro m u2_3 u2_4 Eq2 hm; exact absurd hm (Nat.not_lt_zero _)
    | succ nf2 ih =>
      intro m u2_3 u2_4 Eq2 hm2 hI2 hF2 hR2 hv2
      have ih2 := ih; clear ih
      refine w_iload (i := 2) (npc := 3) rfl rfl ?_
      refine w_if (c := .eq) (npc := 6) (pt := 161) rfl (fun hc1 => ?_) (fun hc1 => ?_)
      · replace hc1 : m = (0 : Int) := hc1
        exact w_vret rfl (⟨rfl, rfl, rfl, hI2, hF2, hR2, trivial⟩) (by omega) (by omega)
      · replace hc1 : ¬ (m = (0 : Int)) := hc1
        refine w_aload (i := 0) (npc := 7) rfl rfl rfl ?_
        refine w_getf (i := 81) (ci := 8) (k := 4) (npc := 10) rfl (hI2.pl (by decide)) (hI2.T (by decide) rfl) (by decide) (hI2.ref 81 4 (p := 84) (by decide) (by decide) rfl) ?_
        refine w_iload (i := 1) (npc := 11) rfl rfl ?_
        obtain ⟨z2, hz2, hz2a, hz2b⟩ := hI2.int 84 (p : Int).toNat (lo := 0) (hi := 20) (by decide) (show (p : Int).toNat < 5 by omega) rfl
        have ghz2 := gv_eq hz2
        refine w_ald (i := 84) (t := 1) (n := 5) (npc := 12) rfl (hI2.pl (by decide)) (hI2.T (by decide) rfl) (by decide) rfl (by omega) hz2 ?_
        refine w_const (n := 1) (npc := 13) rfl ?_
        refine w_isub (npc := 14) rfl (by omega) ?_
        refine w_istore (i := 3) (npc := 15) (loc' := [cr 81, ai_i p, ai_i m, ai_i (z2 - 1), u2_4]) rfl rfl ?_
        have loop15 : ∀ (nf : Nat) (i : Int) (Eq15 : cm_E), ((i + 1).toNat) < nf → cs_I T Eq15 nx → cm_fr (fun i k => i = 83 ∨ i = 84 ∨ (i = 82 ∧ k < 265600)) E Eq15 → rl Eq15 → (-1 ≤ i ∧ i < gv Eq15 84 p.toNat ∧ gv Eq15 84 p.toNat ≤ gv Eq2 84 p.toNat ∧ (∀ j : Int, i < j → j < gv Eq15 84 p.toNat → rl_ns Eq15 p j)) → cm_wp (ai_find ai_c203 sl) (ai_ev sl (d + 3)) x (kc + 0) (ks + 0) (fun rk rv T' E' nx' => rk = 0 ∧ T = T' ∧ nx = nx' ∧ cs_I T E' nx ∧ cm_fr (fun i k => i = 83 ∨ i = 84 ∨ (i = 82 ∧ k < 265600)) E E' ∧ rl E' ∧ (True)) 15 [cr 81, ai_i p, ai_i m, ai_i i, u2_4] [] T Eq15 nx kc ks := by
          intro nf
          induction nf with
          | zero => intro i Eq15 hm; exact absurd hm (Nat.not_lt_zero _)
          | succ nf15 ih =>
            intro i Eq15 hm15 hI15 hF15 hR15 hv15
            have ih15 := ih; clear ih
            refine w_iload (i := 3) (npc := 16) rfl rfl ?_
            refine w_if (c := .lt) (npc := 19) (pt := 61) rfl (fun hc4 => ?_) (fun hc4 => ?_)
            · replace hc4 : i < (0 : Int) := hc4
              refine w_const (n := (-1)) (npc := 62) rfl ?_
              refine w_istore (i := 3) (npc := 63) (loc' := [cr 81, ai_i p, ai_i m, ai_i ((-1)), u2_4]) rfl rfl ?_
              refine w_const (n := 0) (npc := 64) rfl ?_
              refine w_istore (i := 4) (npc := 66) (loc' := [cr 81, ai_i p, ai_i m, ai_i ((-1)), ai_i 0]) rfl rfl ?_
              have loop66 : ∀ (nf : Nat) (b : Int) (i : Int), ((gv Eq15 84 p.toNat - i).toNat) < nf → (-1 ≤ b ∧ b < gv Eq15 84 p.toNat ∧ 0 ≤ i ∧ i ≤ gv Eq15 84 p.toNat) → cm_wp (ai_find ai_c203 sl) (ai_ev sl (d + 3)) x (kc + 0) (ks + 0) (fun rk rv T' E' nx' => rk = 0 ∧ T = T' ∧ nx = nx' ∧ cs_I T E' nx ∧ cm_fr (fun i k => i = 83 ∨ i = 84 ∨ (i = 82 ∧ k < 265600)) E E' ∧ rl E' ∧ (True)) 66 [cr 81, ai_i p, ai_i m, ai_i b, ai_i i] [] T Eq15 nx kc ks := by
                intro nf
                induction nf with
                | zero => intro b i hm; exact absurd hm (Nat.not_lt_zero _)
                | succ nf66 ih =>
                  intro b i hm66 hv66
                  have ih66 := ih; clear ih
                  refine w_iload (i := 4) (npc := 68) rfl rfl ?_
                  refine w_aload (i := 0) (npc := 69) rfl rfl rfl ?_
                  refine w_getf (i := 81) (ci := 8) (k := 4) (npc := 72) rfl (hI15.pl (by decide)) (hI15.T (by decide) rfl) (by decide) (hI15.ref 81 4 (p := 84) (by decide) (by decide) rfl) ?_
                  refine w_iload (i := 1) (npc := 73) rfl rfl ?_
                  obtain ⟨z5, hz5, hz5a, hz5b⟩ := hI15.int 84 (p : Int).toNat (lo := 0) (hi := 20) (by decide) (show (p : Int).toNat < 5 by omega) rfl
                  have ghz5 := gv_eq hz5
                  refine w_ald (i := 84) (t := 1) (n := 5) (npc := 74) rfl (hI15.pl (by decide)) (hI15.T (by decide) rfl) (by decide) rfl (by omega) hz5 ?_
                  refine w_icmp (c := .ge) (npc := 77) (pt := 126) rfl (fun hc6 => ?_) (fun hc6 => ?_)
                  · replace hc6 : z5 ≤ i := hc6
                    refine w_iload (i := 3) (npc := 127) rfl rfl ?_
                    refine w_const (n := (-1)) (npc := 128) rfl ?_
                    refine w_icmp (c := .eq) (npc := 131) (pt := 135) rfl (fun hc7 => ?_) (fun hc7 => ?_)
                    · replace hc7 : b = ((-1) : Int) := hc7
                      refine w_const (n := 0) (npc := 136) rfl ?_
                      refine w_istore (i := 2) (npc := 137) (loc' := [cr 81, ai_i p, ai_i 0, ai_i b, ai_i i]) rfl rfl ?_
                      refine w_iload (i := 2) (npc := 138) rfl rfl ?_
                      refine w_if (c := .eq) (npc := 141) (pt := 158) rfl (fun hc8 => ?_) (fun hc8 => ?_)
                      · replace hc8 : (0 : Int) = 0 := hc8
                        refine w_goto (pt := 2) rfl ?_
                        exact ih2 (0) (ai_i b) (ai_i i) Eq15 (by omega) hI15 hF15 hR15 (by omega)
                      · replace hc8 : ¬ ((0 : Int) = 0) := hc8
                        refine w_aload (i := 0) (npc := 142) rfl rfl rfl ?_
                        refine w_iload (i := 1) (npc := 143) rfl rfl ?_
                        refine w_aload (i := 0) (npc := 144) rfl rfl rfl ?_
                        refine w_iload (i := 1) (npc := 145) rfl rfl ?_
                        refine w_iload (i := 3) (npc := 146) rfl rfl ?_
                        refine w_virt (ci := 8) (i := 81) (npc := 149) (a := [cr 81, ai_i p, ai_i b]) (rest := [ai_i p, cr 81]) rfl rfl (hI15.pl (by decide)) (hI15.T (by decide) rfl) rfl rfl rfl rfl (ct_m_holdOf (sl := sl) (x := x) (d := d + 2) (p) (b) (by omega) (by omega)) (Or.inl rfl) (fun k9 v9 T9 E10 nx9 kc9 ks9 hq9 hk9 hs9 => ?_)
                        obtain ⟨rfl, rfl, rfl, rfl, z11, rfl, hz11⟩ := hq9
                        obtain rfl : kc = kc9 := by omega
                        obtain rfl : ks = ks9 := by omega
                        refine Or.inr (Or.inl ⟨rfl, ?_⟩)
                        obtain rfl : 1500 + 20 * p + b = z11 := by omega
                        refine w_virt (ci := 8) (i := 81) (npc := 152) (a := [cr 81, ai_i p, ai_i (1500 + 20 * p + b)]) (rest := []) rfl rfl (hI15.pl (by decide)) (hI15.T (by decide) rfl) rfl rfl rfl rfl (ct_m_add (sl := sl) (x := x) (d := d + 1) (p) (1500 + 20 * p + b) hI15  hR15 (by omega) (by omega) (hR15.1 _ (by omega) (by omega)) (hR15.2.2.1 p b (by omega) (by omega) (by omega) (by omega) (by omega)) (by have hn9 := hv15.2.2.2 b (by omega) (by omega); unfold rl_ns at hn9; have hn8 := (hR15.1 (1500 + 20 * p + b) (by omega) (by omega)).2.2.1; omega)) (Or.inl rfl) (fun k9 v9 T9 E13 nx9 kc9 ks9 hq12 hk9 hs9 => ?_)
                        obtain ⟨rfl, rfl, rfl, hI15, hG16, hR17, hz14⟩ := hq12
                        obtain rfl : kc = kc9 := by omega
                        obtain rfl : ks = ks9 := by omega
                        have hF18 := cm_fr.trans hF15 hG16 (by first | (simp; done) | (simp; omega) | (intro i k h; (try simp only at h); (try simp only); omega))
                        refine Or.inl ⟨rfl, ?_⟩
                        have h849 : gv Eq15 84 p.toNat = gv E13 84 p.toNat := gv_fr hG16 (by simp)
                        refine w_aload (i := 0) (npc := 153) rfl rfl rfl ?_
                        refine w_iload (i := 1) (npc := 154) rfl rfl ?_
                        refine w_iload (i := 3) (npc := 155) rfl rfl ?_
                        refine w_virt (ci := 8) (i := 81) (npc := 158) (a := [cr 81, ai_i p, ai_i b]) (rest := []) rfl rfl (hI15.pl (by decide)) (hI15.T (by decide) rfl) rfl rfl rfl rfl (ct_m_drop (sl := sl) (x := x) (d := d + 1) (p) (b) hI15 hR17 (by omega) (by omega) (by omega)) (Or.inl rfl) (fun k9 v9 T9 E20 nx9 kc9 ks9 hq19 hk9 hs9 => ?_)
                        obtain ⟨rfl, rfl, rfl, hI22, hG23, hR24, hz21⟩ := hq19
                        obtain rfl : kc = kc9 := by omega
                        obtain rfl : ks = ks9 := by omega
                        have hF25 := cm_fr.trans hF18 hG23 (by first | (simp; done) | (simp; omega) | (intro i k h; (try simp only at h); (try simp only); omega))
                        refine Or.inl ⟨rfl, ?_⟩
                        refine w_goto (pt := 2) rfl ?_
                        exact ih2 (0) (ai_i b) (ai_i i) E20 (by omega) hI22 hF25 hR24 (by omega)
                    · replace hc7 : ¬ (b = ((-1) : Int)) := hc7
                      refine w_const (n := 1) (npc := 132) rfl ?_
                      refine w_goto (pt := 136) rfl ?_
                      refine w_istore (i := 2) (npc := 137) (loc' := [cr 81, ai_i p, ai_i 1, ai_i b, ai_i i]) rfl rfl ?_
                      refine w_iload (i := 2) (npc := 138) rfl rfl ?_
                      refine w_if (c := .eq) (npc := 141) (pt := 158) rfl (fun hc26 => ?_) (fun hc26 => ?_)
                      · replace hc26 : (1 : Int) = 0 := hc26
                        refine w_goto (pt := 2) rfl ?_
                        exact ih2 (1) (ai_i b) (ai_i i) Eq15 (by omega) hI15 hF15 hR15 (by omega)
                      · replace hc26 : ¬ ((1 : Int) = 0) := hc26
                        refine w_aload (i := 0) (npc := 142) rfl rfl rfl ?_
                        refine w_iload (i := 1) (npc := 143) rfl rfl ?_
                        refine w_aload (i := 0) (npc := 144) rfl rfl rfl ?_
                        refine w_iload (i := 1) (npc := 145) rfl rfl ?_
                        refine w_iload (i := 3) (npc := 146) rfl rfl ?_
                        refine w_virt (ci := 8) (i := 81) (npc := 149) (a := [cr 81, ai_i p, ai_i b]) (rest := [ai_i p, cr 81]) rfl rfl (hI15.pl (by decide)) (hI15.T (by decide) rfl) rfl rfl rfl rfl (ct_m_holdOf (sl := sl) (x := x) (d := d + 2) (p) (b) (by omega) (by omega)) (Or.inl rfl) (fun k9 v9 T9 E28 nx9 kc9 ks9 hq27 hk9 hs9 => ?_)
                        obtain ⟨rfl, rfl, rfl, rfl, z29, rfl, hz29⟩ := hq27
                        obtain rfl : kc = kc9 := by omega
                        obtain rfl : ks = ks9 := by omega
                        refine Or.inr (Or.inl ⟨rfl, ?_⟩)
                        obtain rfl : 1500 + 20 * p + b = z29 := by omega
                        refine w_virt (ci := 8) (i := 81) (npc := 152) (a := [cr 81, ai_i p, ai_i (1500 + 20 * p + b)]) (rest := []) rfl rfl (hI15.pl (by decide)) (hI15.T (by decide) rfl) rfl rfl rfl rfl (ct_m_add (sl := sl) (x := x) (d := d + 1) (p) (1500 + 20 * p + b) hI15  hR15 (by omega) (by omega) (hR15.1 _ (by omega) (by omega)) (hR15.2.2.1 p b (by omega) (by omega) (by omega) (by omega) (by omega)) (by have hn9 := hv15.2.2.2 b (by omega) (by omega); unfold rl_ns at hn9; have hn8 := (hR15.1 (1500 + 20 * p + b) (by omega) (by omega)).2.2.1; omega)) (Or.inl rfl) (fun k9 v9 T9 E31 nx9 kc9 ks9 hq30 hk9 hs9 => ?_)
                        obtain ⟨rfl, rfl, rfl, hI33, hG34, hR35, hz32⟩ := hq30
                        obtain rfl : kc = kc9 := by omega
                        obtain rfl : ks = ks9 := by omega
                        have hF36 := cm_fr.trans hF15 hG34 (by first | (simp; done) | (simp; omega) | (intro i k h; (try simp only at h); (try simp only); omega))
                        refine Or.inl ⟨rfl, ?_⟩
                        have h849 : gv Eq15 84 p.toNat = gv E31 84 p.toNat := gv_fr hG34 (by simp)
                        refine w_aload (i := 0) (npc := 153) rfl rfl rfl ?_
                        refine w_iload (i := 1) (npc := 154) rfl rfl ?_
                        refine w_iload (i := 3) (npc := 155) rfl rfl ?_
                        refine w_virt (ci := 8) (i := 81) (npc := 158) (a := [cr 81, ai_i p, ai_i b]) (rest := []) rfl rfl (hI33.pl (by decide)) (hI33.T (by decide) rfl) rfl rfl rfl rfl (ct_m_drop (sl := sl) (x := x) (d := d + 1) (p) (b) hI33 hR35 (by omega) (by omega) (by omega)) (Or.inl rfl) (fun k9 v9 T9 E38 nx9 kc9 ks9 hq37 hk9 hs9 => ?_)
                        obtain ⟨rfl, rfl, rfl, hI40, hG41, hR42, hz39⟩ := hq37
                        obtain rfl : kc = kc9 := by omega
                        obtain rfl : ks = ks9 := by omega
                        have hF43 := cm_fr.trans hF36 hG41 (by first | (simp; done) | (simp; omega) | (intro i k h; (try simp only at h); (try simp only); omega))
                        refine Or.inl ⟨rfl, ?_⟩
                        refine w_goto (pt := 2) rfl ?_
                        exact ih2 (1) (ai_i b) (ai_i i) E38 (by omega) hI40 hF43 hR42 (by omega)
                  · replace hc6 : ¬ (z5 ≤ i) := hc6
                    refine w_aload (i := 0) (npc := 78) rfl rfl rfl ?_
                    refine w_iload (i := 1) (npc := 79) rfl rfl ?_
                    refine w_aload (i := 0) (npc := 80) rfl rfl rfl ?_
                    refine w_iload (i := 1) (npc := 81) rfl rfl ?_
                    refine w_iload (i := 4) (npc := 83) rfl rfl ?_
                    refine w_virt (ci := 8) (i := 81) (npc := 86) (a := [cr 81, ai_i p, ai_i i]) (rest := [ai_i p, cr 81]) rfl rfl (hI15.pl (by decide)) (hI15.T (by decide) rfl) rfl rfl rfl rfl (ct_m_holdOf (sl := sl) (x := x) (d := d + 2) (p) (i) (by omega) (by omega)) (Or.inl rfl) (fun k9 v9 T9 E45 nx9 kc9 ks9 hq44 hk9 hs9 => ?_)
                    obtain ⟨rfl, rfl, rfl, rfl, z46, rfl, hz46⟩ := hq44
                    obtain rfl : kc = kc9 := by omega
                    obtain rfl : ks = ks9 := by omega
                    refine Or.inr (Or.inl ⟨rfl, ?_⟩)
                    refine w_virt (ci := 8) (i := 81) (npc := 89) (a := [cr 81, ai_i p, ai_i z46]) (rest := []) rfl rfl (hI15.pl (by decide)) (hI15.T (by decide) rfl) rfl rfl rfl rfl (ct_m_canHave (sl := sl) (x := x) (d := d + 1) (p) (z46) hI15 (by omega) (by omega)) (Or.inl rfl) (fun k9 v9 T9 E48 nx9 kc9 ks9 hq47 hk9 hs9 => ?_)
                    obtain ⟨rfl, rfl, rfl, rfl, z49, rfl, hz49⟩ := hq47
                    obtain rfl : kc = kc9 := by omega
                    obtain rfl : ks = ks9 := by omega
                    refine Or.inr (Or.inl ⟨rfl, ?_⟩)
                    refine w_if (c := .eq) (npc := 92) (pt := 120) rfl (fun hc50 => ?_) (fun hc50 => ?_)
                    · replace hc50 : z49 = (0 : Int) := hc50
                      refine w_iinc (i := 4) (n := 1) (npc := 123) (loc' := [cr 81, ai_i p, ai_i m, ai_i b, ai_i (i + 1)]) rfl rfl (by omega) rfl ?_
                      refine w_goto (pt := 66) rfl ?_
                      exact ih66 (b) (i + 1) (by omega) (by omega)
                    · replace hc50 : ¬ (z49 = (0 : Int)) := hc50
                      refine w_iload (i := 3) (npc := 93) rfl rfl ?_
                      refine w_const (n := (-1)) (npc := 94) rfl ?_
                      refine w_icmp (c := .eq) (npc := 97) (pt := 117) rfl (fun hc52 => ?_) (fun hc52 => ?_)
                      · replace hc52 : b = ((-1) : Int) := hc52
                        refine w_iload (i := 4) (npc := 119) rfl rfl ?_
                        refine w_istore (i := 3) (npc := 120) (loc' := [cr 81, ai_i p, ai_i m, ai_i i, ai_i i]) rfl rfl ?_
                        refine w_iinc (i := 4) (n := 1) (npc := 123) (loc' := [cr 81, ai_i p, ai_i m, ai_i i, ai_i (i + 1)]) rfl rfl (by omega) rfl ?_
                        refine w_goto (pt := 66) rfl ?_
                        exact ih66 (i) (i + 1) (by omega) (by omega)
                      · replace hc52 : ¬ (b = ((-1) : Int)) := hc52
                        refine w_aload (i := 0) (npc := 98) rfl rfl rfl ?_
                        refine w_aload (i := 0) (npc := 99) rfl rfl rfl ?_
                        refine w_iload (i := 1) (npc := 100) rfl rfl ?_
                        refine w_iload (i := 4) (npc := 102) rfl rfl ?_
                        refine w_virt (ci := 8) (i := 81) (npc := 105) (a := [cr 81, ai_i p, ai_i i]) (rest := [cr 81]) rfl rfl (hI15.pl (by decide)) (hI15.T (by decide) rfl) rfl rfl rfl rfl (ct_m_holdOf (sl := sl) (x := x) (d := d + 2) (p) (i) (by omega) (by omega)) (Or.inl rfl) (fun k9 v9 T9 E55 nx9 kc9 ks9 hq54 hk9 hs9 => ?_)
                        obtain ⟨rfl, rfl, rfl, rfl, z56, rfl, hz56⟩ := hq54
                        obtain rfl : kc = kc9 := by omega
                        obtain rfl : ks = ks9 := by omega
                        refine Or.inr (Or.inl ⟨rfl, ?_⟩)
                        refine w_aload (i := 0) (npc := 106) rfl rfl rfl ?_
                        refine w_iload (i := 1) (npc := 107) rfl rfl ?_
                        refine w_iload (i := 3) (npc := 108) rfl rfl ?_
                        refine w_virt (ci := 8) (i := 81) (npc := 111) (a := [cr 81, ai_i p, ai_i b]) (rest := [ai_i z56, cr 81]) rfl rfl (hI15.pl (by decide)) (hI15.T (by decide) rfl) rfl rfl rfl rfl (ct_m_holdOf (sl := sl) (x := x) (d := d + 2) (p) (b) (by omega) (by omega)) (Or.inl rfl) (fun k9 v9 T9 E58 nx9 kc9 ks9 hq57 hk9 hs9 => ?_)
                        obtain ⟨rfl, rfl, rfl, rfl, z59, rfl, hz59⟩ := hq57
                        obtain rfl : kc = kc9 := by omega
                        obtain rfl : ks = ks9 := by omega
                        refine Or.inr (Or.inl ⟨rfl, ?_⟩)
                        refine w_virt (ci := 8) (i := 81) (npc := 114) (a := [cr 81, ai_i z56, ai_i z59]) (rest := []) rfl rfl (hI15.pl (by decide)) (hI15.T (by decide) rfl) rfl rfl rfl rfl (ct_m_isAhead (sl := sl) (x := x) (d := d + 1) (z56) (z59) hI15 (by omega) (by omega)) (Or.inl rfl) (fun k9 v9 T9 E61 nx9 kc9 ks9 hq60 hk9 hs9 => ?_)
                        obtain ⟨rfl, rfl, rfl, rfl, z62, rfl, hz62⟩ := hq60
                        obtain rfl : kc = kc9 := by omega
                        obtain rfl : ks = ks9 := by omega
                        refine Or.inr (Or.inl ⟨rfl, ?_⟩)
                        refine w_if (c := .eq) (npc := 117) (pt := 120) rfl (fun hc63 => ?_) (fun hc63 => ?_)
                        · replace hc63 : z62 = (0 : Int) := hc63
                          refine w_iinc (i := 4) (n := 1) (npc := 123) (loc' := [cr 81, ai_i p, ai_i m, ai_i b, ai_i (i + 1)]) rfl rfl (by omega) rfl ?_
                          refine w_goto (pt := 66) rfl ?_
                          exact ih66 (b) (i + 1) (by omega) (by omega)
                        · replace hc63 : ¬ (z62 = (0 : Int)) := hc63
                          refine w_iload (i := 4) (npc := 119) rfl rfl ?_
                          refine w_istore (i := 3) (npc := 120) (loc' := [cr 81, ai_i p, ai_i m, ai_i i, ai_i i]) rfl rfl ?_
                          refine w_iinc (i := 4) (n := 1) (npc := 123) (loc' := [cr 81, ai_i p, ai_i m, ai_i i, ai_i (i + 1)]) rfl rfl (by omega) rfl ?_
                          refine w_goto (pt := 66) rfl ?_
                          exact ih66 (i) (i + 1) (by omega) (by omega)
              exact loop66 _ ((-1)) (0) (Nat.lt_succ_self _) (by omega)
            · replace hc4 : ¬ (i < (0 : Int)) := hc4
              refine w_aload (i := 0) (npc := 20) rfl rfl rfl ?_
              refine w_iload (i := 1) (npc := 21) rfl rfl ?_
              refine w_aload (i := 0) (npc := 22) rfl rfl rfl ?_
              refine w_aload (i := 0) (npc := 23) rfl rfl rfl ?_
              refine w_iload (i := 1) (npc := 24) rfl rfl ?_
              refine w_iload (i := 3) (npc := 25) rfl rfl ?_
              refine w_virt (ci := 8) (i := 81) (npc := 28) (a := [cr 81, ai_i p, ai_i i]) (rest := [cr 81, ai_i p, cr 81]) rfl rfl (hI15.pl (by decide)) (hI15.T (by decide) rfl) rfl rfl rfl rfl (ct_m_holdOf (sl := sl) (x := x) (d := d + 2) (p) (i) (by omega) (by omega)) (Or.inl rfl) (fun k9 v9 T9 E67 nx9 kc9 ks9 hq66 hk9 hs9 => ?_)
              obtain ⟨rfl, rfl, rfl, rfl, z68, rfl, hz68⟩ := hq66
              obtain rfl : kc = kc9 := by omega
              obtain rfl : ks = ks9 := by omega
              refine Or.inr (Or.inl ⟨rfl, ?_⟩)
              obtain rfl : 1500 + 20 * p + i = z68 := by omega
              refine w_const (n := 1) (npc := 29) rfl ?_
              refine w_virt (ci := 8) (i := 81) (npc := 32) (a := [cr 81, ai_i (1500 + 20 * p + i), ai_i 1]) (rest := [ai_i p, cr 81]) rfl rfl (hI15.pl (by decide)) (hI15.T (by decide) rfl) rfl rfl rfl rfl (ct_m_of (sl := sl) (x := x) (d := d + 2) (1500 + 20 * p + i) (1) hI15 (by omega) (by omega) (by omega)) (Or.inl rfl) (fun k9 v9 T9 E70 nx9 kc9 ks9 hq69 hk9 hs9 => ?_)
              obtain ⟨rfl, rfl, rfl, rfl, z71, rfl, hz71⟩ := hq69
              obtain rfl : kc = kc9 := by omega
              obtain rfl : ks = ks9 := by omega
              refine Or.inr (Or.inl ⟨rfl, ?_⟩)
              obtain rfl : gv Eq15 82 (166 * (1500 + 20 * p + i) + 1).toNat = z71 := by omega
              refine w_aload (i := 0) (npc := 33) rfl rfl rfl ?_
              refine w_aload (i := 0) (npc := 34) rfl rfl rfl ?_
              refine w_iload (i := 1) (npc := 35) rfl rfl ?_
              refine w_iload (i := 3) (npc := 36) rfl rfl ?_
              refine w_virt (ci := 8) (i := 81) (npc := 39) (a := [cr 81, ai_i p, ai_i i]) (rest := [cr 81, ai_i (gv Eq15 82 (166 * (1500 + 20 * p + i) + 1).toNat), ai_i p, cr 81]) rfl rfl (hI15.pl (by decide)) (hI15.T (by decide) rfl) rfl rfl rfl rfl (ct_m_holdOf (sl := sl) (x := x) (d := d + 2) (p) (i) (by omega) (by omega)) (Or.inl rfl) (fun k9 v9 T9 E73 nx9 kc9 ks9 hq72 hk9 hs9 => ?_)
              obtain ⟨rfl, rfl, rfl, rfl, z74, rfl, hz74⟩ := hq72
              obtain rfl : kc = kc9 := by omega
              obtain rfl : ks = ks9 := by omega
              refine Or.inr (Or.inl ⟨rfl, ?_⟩)
              obtain rfl : 1500 + 20 * p + i = z74 := by omega
              refine w_const (n := 2) (npc := 40) rfl ?_
              refine w_virt (ci := 8) (i := 81) (npc := 43) (a := [cr 81, ai_i (1500 + 20 * p + i), ai_i 2]) (rest := [ai_i (gv Eq15 82 (166 * (1500 + 20 * p + i) + 1).toNat), ai_i p, cr 81]) rfl rfl (hI15.pl (by decide)) (hI15.T (by decide) rfl) rfl rfl rfl rfl (ct_m_of (sl := sl) (x := x) (d := d + 2) (1500 + 20 * p + i) (2) hI15 (by omega) (by omega) (by omega)) (Or.inl rfl) (fun k9 v9 T9 E76 nx9 kc9 ks9 hq75 hk9 hs9 => ?_)
              obtain ⟨rfl, rfl, rfl, rfl, z77, rfl, hz77⟩ := hq75
              obtain rfl : kc = kc9 := by omega
              obtain rfl : ks = ks9 := by omega
              refine Or.inr (Or.inl ⟨rfl, ?_⟩)
              obtain rfl : gv Eq15 82 (166 * (1500 + 20 * p + i) + 2).toNat = z77 := by omega
              refine w_virt (ci := 8) (i := 81) (npc := 46) (a := [cr 81, ai_i p, ai_i (gv Eq15 82 (166 * (1500 + 20 * p + i) + 1).toNat), ai_i (gv Eq15 82 (166 * (1500 + 20 * p + i) + 2).toNat)]) (rest := []) rfl rfl (hI15.pl (by decide)) (hI15.T (by decide) rfl) rfl rfl rfl rfl (ct_m_hasStep (sl := sl) (x := x) (d := d + 0) (p) (gv Eq15 82 (166 * (1500 + 20 * p + i) + 1).toNat) (gv Eq15 82 (166 * (1500 + 20 * p + i) + 2).toNat) hI15 (by omega)) (Or.inl rfl) (fun k9 v9 T9 E79 nx9 kc9 ks9 hq78 hk9 hs9 => ?_)
              obtain ⟨rfl, rfl, rfl, rfl, z80, rfl, hz80⟩ := hq78
              obtain rfl : kc = kc9 := by omega
              obtain rfl : ks = ks9 := by omega
              refine Or.inr (Or.inl ⟨rfl, ?_⟩)
              refine w_if (c := .eq) (npc := 49) (pt := 55) rfl (fun hc81 => ?_) (fun hc81 => ?_)
              · replace hc81 : z80 = (0 : Int) := hc81
                refine w_iinc (i := 3) (n := (-1)) (npc := 58) (loc' := [cr 81, ai_i p, ai_i m, ai_i (i + (-1)), u2_4]) rfl rfl (by omega) rfl ?_
                refine w_goto (pt := 15) rfl ?_
                exact ih15 (i + (-1)) Eq15 (by omega) hI15 hF15 hR15 (by
      obtain ⟨d1, d2, d3, d4⟩ := hv15
      refine ⟨by omega, by omega, by omega, fun j j0 j1 => ?_⟩
      by_cases hj : j = i
      · subst hj
        unfold rl_ns
        obtain ⟨hh1, hh2⟩ := hR15.2.2.1 p j (by omega) (by omega) (by omega) (by omega) (by omega)
        omega
      · exact d4 j (by omega) j1)
              · replace hc81 : ¬ (z80 = (0 : Int)) := hc81
                refine w_aload (i := 0) (npc := 50) rfl rfl rfl ?_
                refine w_iload (i := 1) (npc := 51) rfl rfl ?_
                refine w_iload (i := 3) (npc := 52) rfl rfl ?_
                refine w_virt (ci := 8) (i := 81) (npc := 55) (a := [cr 81, ai_i p, ai_i i]) (rest := []) rfl rfl (hI15.pl (by decide)) (hI15.T (by decide) rfl) rfl rfl rfl rfl (ct_m_drop (sl := sl) (x := x) (d := d + 1) (p) (i) hI15 hR15 (by omega) (by omega) (by omega)) (Or.inl rfl) (fun k9 v9 T9 E84 nx9 kc9 ks9 hq83 hk9 hs9 => ?_)
                obtain ⟨rfl, rfl, rfl, hI86, hG87, hR88, hz85⟩ := hq83
                obtain rfl : kc = kc9 := by omega
                obtain rfl : ks = ks9 := by omega
                have hF89 := cm_fr.trans hF15 hG87 (by first | (simp; done) | (simp; omega) | (intro i k h; (try simp only at h); (try simp only); omega))
                refine Or.inl ⟨rfl, ?_⟩
                refine w_iinc (i := 3) (n := (-1)) (npc := 58) (loc' := [cr 81, ai_i p, ai_i m, ai_i (i + (-1)), u2_4]) rfl rfl (by omega) rfl ?_
                refine w_goto (pt := 15) rfl ?_
                exact ih15 (i + (-1)) E84 (by omega) hI86 hF89 hR88 (by
      obtain ⟨d1, d2, d3, d4⟩ := hv15
      obtain ⟨c1, c2, c3⟩ := hz85
      refine ⟨by omega, by omega, by omega, fun j j0 j1 => ?_⟩
      exact (d4 (j + 1) (by omega) (by omega)).of (fun k => (gv_fr hG87 (by simp)).symm) (fun k k0 k1 => c3 j k (by omega) (by omega) k0 k1))
        exact loop15 _ (z2 - 1) Eq2 (Nat.lt_succ_self _) hI2 hF2 hR2 (⟨by omega, by omega, by omega, fun j j0 j1 => by omega⟩)
  exact loop2 _ (1) (ai_un) (ai_un) E (Nat.lt_succ_self _) hI hF hR (by omega)
set_option maxRecDepth 16384 in
theorem ct_m_heard {sl : Int × Int} {x : ai_E} {d : Nat} {T : cm_T} {E : cm_E} {nx : Nat} (p : Int) (hI : cs_I T E nx) (hR : rl E) (hp0 : 0 ≤ p ∧ p ≤ 4) (hp1 : rl_row E 3200) (hp2 : rl_hd E 3200) : cm_ct (ai_ev sl (d + 5)) x 165 [cr 81, ai_i p] T E nx 0 0 (fun rk rv T' E' nx' => rk = 1 ∧ T = T' ∧ nx = nx' ∧ cs_I T E' nx ∧ cm_fr (fun i k => i = 83 ∨ i = 84 ∨ (i = 82 ∧ k < 265600)) E E' ∧ rl E' ∧ ∃ z : Int, rv = ai_i z ∧ (0 ≤ z ∧ z ≤ 15)) := by
  have hp1a := hp1
  obtain ⟨hq0, hq1, hq2, -⟩ := hp1a
  refine cm_body (M := ai_m165) rfl rfl (fun kc ks => ?_)
  show cm_wp (ai_find ai_c165 sl) (ai_ev sl (d + 4)) x (kc + 0) (ks + 0) _ 0 [cr 81, ai_i p, ai_un, ai_un, ai_un] [] T E nx kc ks
  have hF : cm_fr (fun i k => i = 83 ∨ i = 84 ∨ (i = 82 ∧ k < 265600)) E E := fun _ _ _ => rfl
  refine w_aload (i := 0) (npc := 1) rfl rfl rfl ?_
  refine w_const (n := 3200) (npc := 4) rfl ?_
  refine w_const (n := 1) (npc := 5) rfl ?_
  refine w_virt (ci := 8) (i := 81) (npc := 8) (a := [cr 81, ai_i 3200, ai_i 1]) (rest := []) rfl rfl (hI.pl (by decide)) (hI.T (by decide) rfl) rfl rfl rfl rfl (ct_m_of (sl := sl) (x := x) (d := d + 3) (3200) (1) hI (by omega) (by omega) (by omega)) (Or.inl rfl) (fun k9 v9 T9 E2 nx9 kc9 ks9 hq1 hk9 hs9 => ?_)
  obtain ⟨rfl, rfl, rfl, rfl, z3, rfl, hz3⟩ := hq1
  obtain rfl : kc = kc9 := by omega
  obtain rfl : ks = ks9 := by omega
  refine Or.inr (Or.inl ⟨rfl, ?_⟩)
  obtain rfl : gv E 82 (166 * 3200 + 1 : Int).toNat = z3 := by omega
  refine w_istore (i := 2) (npc := 9) (loc' := [cr 81, ai_i p, ai_i (gv E 82 (166 * 3200 + 1 : Int).toNat), ai_un, ai_un]) rfl rfl ?_
  refine w_aload (i := 0) (npc := 10) rfl rfl rfl ?_
  refine w_const (n := 3200) (npc := 13) rfl ?_
  refine w_const (n := 2) (npc := 14) rfl ?_
  refine w_virt (ci := 8) (i := 81) (npc := 17) (a := [cr 81, ai_i 3200, ai_i 2]) (rest := []) rfl rfl (hI.pl (by decide)) (hI.T (by decide) rfl) rfl rfl rfl rfl (ct_m_of (sl := sl) (x := x) (d := d + 3) (3200) (2) hI (by omega) (by omega) (by omega)) (Or.inl rfl) (fun k9 v9 T9 E5 nx9 kc9 ks9 hq4 hk9 hs9 => ?_)
  obtain ⟨rfl, rfl, rfl, rfl, z6, rfl, hz6⟩ := hq4
  obtain rfl : kc = kc9 := by omega
  obtain rfl : ks = ks9 := by omega
  refine Or.inr (Or.inl ⟨rfl, ?_⟩)
  obtain rfl : gv E 82 (166 * 3200 + 2 : Int).toNat = z6 := by omega
  refine w_istore (i := 3) (npc := 18) (loc' := [cr 81, ai_i p, ai_i (gv E 82 (166 * 3200 + 1 : Int).toNat), ai_i (gv E 82 (166 * 3200 + 2 : Int).toNat), ai_un]) rfl rfl ?_
  refine w_aload (i := 0) (npc := 19) rfl rfl rfl ?_
  refine w_iload (i := 1) (npc := 20) rfl rfl ?_
  refine w_iload (i := 2) (npc := 21) rfl rfl ?_
  refine w_iload (i := 3) (npc := 22) rfl rfl ?_
  refine w_virt (ci := 8) (i := 81) (npc := 25) (a := [cr 81, ai_i p, ai_i (gv E 82 (166 * 3200 + 1 : Int).toNat), ai_i (gv E 82 (166 * 3200 + 2 : Int).toNat)]) (rest := []) rfl rfl (hI.pl (by decide)) (hI.T (by decide) rfl) rfl rfl rfl rfl (ct_m_hasStep (sl := sl) (x := x) (d := d + 1) (p) (gv E 82 (166 * 3200 + 1 : Int).toNat) (gv E 82 (166 * 3200 + 2 : Int).toNat) hI (by omega)) (Or.inl rfl) (fun k9 v9 T9 E8 nx9 kc9 ks9 hq7 hk9 hs9 => ?_)
  obtain ⟨rfl, rfl, rfl, rfl, z9, rfl, hz9⟩ := hq7
  obtain rfl : kc = kc9 := by omega
  obtain rfl : ks = ks9 := by omega
  refine Or.inr (Or.inl ⟨rfl, ?_⟩)
  refine w_if (c := .eq) (npc := 28) (pt := 51) rfl (fun hc10 => ?_) (fun hc10 => ?_)
  · replace hc10 : z9 = (0 : Int) := hc10
    refine w_const (n := 0) (npc := 52) rfl ?_
    refine w_istore (i := 4) (npc := 54) (loc' := [cr 81, ai_i p, ai_i (gv E 82 (166 * 3200 + 1 : Int).toNat), ai_i (gv E 82 (166 * 3200 + 2 : Int).toNat), ai_i 0]) rfl rfl ?_
    have loop54 : ∀ (nf : Nat) (i : Int), ((20 - i).toNat) < nf → (0 ≤ i ∧ i ≤ 20) → cm_wp (ai_find ai_c165 sl) (ai_ev sl (d + 4)) x (kc + 0) (ks + 0) (fun rk rv T' E' nx' => rk = 1 ∧ T = T' ∧ nx = nx' ∧ cs_I T E' nx ∧ cm_fr (fun i k => i = 83 ∨ i = 84 ∨ (i = 82 ∧ k < 265600)) E E' ∧ rl E' ∧ ∃ z : Int, rv = ai_i z ∧ (0 ≤ z ∧ z ≤ 15)) 54 [cr 81, ai_i p, ai_i (gv E 82 (166 * 3200 + 1 : Int).toNat), ai_i (gv E 82 (166 * 3200 + 2 : Int).toNat), ai_i i] [] T E nx kc ks := by
      intro nf
      induction nf with
      | zero => intro i hm; exact absurd hm (Nat.not_lt_zero _)
      | succ nf54 ih =>
        intro i hm54 hv54
        have ih54 := ih; clear ih
        refine w_iload (i := 4) (npc := 56) rfl rfl ?_
        refine w_aload (i := 0) (npc := 57) rfl rfl rfl ?_
        refine w_getf (i := 81) (ci := 8) (k := 4) (npc := 60) rfl (hI.pl (by decide)) (hI.T (by decide) rfl) (by decide) (hI.ref 81 4 (p := 84) (by decide) (by decide) rfl) ?_
        refine w_iload (i := 1) (npc := 61) rfl rfl ?_
        obtain ⟨z11, hz11, hz11a, hz11b⟩ := hI.int 84 (p : Int).toNat (lo := 0) (hi := 20) (by decide) (show (p : Int).toNat < 5 by omega) rfl
        have ghz11 := gv_eq hz11
        refine w_ald (i := 84) (t := 1) (n := 5) (npc := 62) rfl (hI.pl (by decide)) (hI.T (by decide) rfl) (by decide) rfl (by omega) hz11 ?_
        refine w_icmp (c := .ge) (npc := 65) (pt := 127) rfl (fun hc12 => ?_) (fun hc12 => ?_)
        · replace hc12 : z11 ≤ i := hc12
          refine w_aload (i := 0) (npc := 128) rfl rfl rfl ?_
          refine w_iload (i := 1) (npc := 129) rfl rfl ?_
          refine w_const (n := 3200) (npc := 132) rfl ?_
          refine w_virt (ci := 8) (i := 81) (npc := 135) (a := [cr 81, ai_i p, ai_i 3200]) (rest := []) rfl rfl (hI.pl (by decide)) (hI.T (by decide) rfl) rfl rfl rfl rfl (ct_m_canHave (sl := sl) (x := x) (d := d + 2) (p) (3200) hI (by omega) (by omega)) (Or.inl rfl) (fun k9 v9 T9 E14 nx9 kc9 ks9 hq13 hk9 hs9 => ?_)
          obtain ⟨rfl, rfl, rfl, rfl, z15, rfl, hz15⟩ := hq13
          obtain rfl : kc = kc9 := by omega
          obtain rfl : ks = ks9 := by omega
          refine Or.inr (Or.inl ⟨rfl, ?_⟩)
          refine w_if (c := .eq) (npc := 138) (pt := 153) rfl (fun hc16 => ?_) (fun hc16 => ?_)
          · replace hc16 : z15 = (0 : Int) := hc16
            refine w_aload (i := 0) (npc := 154) rfl rfl rfl ?_
            refine w_getf (i := 81) (ci := 8) (k := 4) (npc := 157) rfl (hI.pl (by decide)) (hI.T (by decide) rfl) (by decide) (hI.ref 81 4 (p := 84) (by decide) (by decide) rfl) ?_
            refine w_iload (i := 1) (npc := 158) rfl rfl ?_
            refine w_ald (i := 84) (t := 1) (n := 5) (npc := 159) rfl (hI.pl (by decide)) (hI.T (by decide) rfl) (by decide) rfl (by omega) hz11 ?_
            refine w_const (n := 20) (npc := 161) rfl ?_
            refine w_icmp (c := .ne) (npc := 164) (pt := 167) rfl (fun hc17 => ?_) (fun hc17 => ?_)
            · replace hc17 : z11 ≠ (20 : Int) := hc17
              refine w_aload (i := 0) (npc := 168) rfl rfl rfl ?_
              refine w_const (n := 3200) (npc := 171) rfl ?_
              refine w_aload (i := 0) (npc := 172) rfl rfl rfl ?_
              refine w_iload (i := 1) (npc := 173) rfl rfl ?_
              refine w_aload (i := 0) (npc := 174) rfl rfl rfl ?_
              refine w_getf (i := 81) (ci := 8) (k := 4) (npc := 177) rfl (hI.pl (by decide)) (hI.T (by decide) rfl) (by decide) (hI.ref 81 4 (p := 84) (by decide) (by decide) rfl) ?_
              refine w_iload (i := 1) (npc := 178) rfl rfl ?_
              refine w_ald (i := 84) (t := 1) (n := 5) (npc := 179) rfl (hI.pl (by decide)) (hI.T (by decide) rfl) (by decide) rfl (by omega) hz11 ?_
              refine w_virt (ci := 8) (i := 81) (npc := 182) (a := [cr 81, ai_i p, ai_i z11]) (rest := [ai_i 3200, cr 81]) rfl rfl (hI.pl (by decide)) (hI.T (by decide) rfl) rfl rfl rfl rfl (ct_m_holdOf (sl := sl) (x := x) (d := d + 3) (p) (z11) (by omega) (by omega)) (Or.inl rfl) (fun k9 v9 T9 E19 nx9 kc9 ks9 hq18 hk9 hs9 => ?_)
              obtain ⟨rfl, rfl, rfl, rfl, z20, rfl, hz20⟩ := hq18
              obtain rfl : kc = kc9 := by omega
              obtain rfl : ks = ks9 := by omega
              refine Or.inr (Or.inl ⟨rfl, ?_⟩)
              obtain rfl : 1500 + 20 * p + z11 = z20 := by omega
              refine w_virt (ci := 8) (i := 81) (npc := 185) (a := [cr 81, ai_i 3200, ai_i (1500 + 20 * p + z11)]) (rest := []) rfl rfl (hI.pl (by decide)) (hI.T (by decide) rfl) rfl rfl rfl rfl (ct_m_copy (sl := sl) (x := x) (d := d + 3) (3200) (1500 + 20 * p + z11) hI (by omega) (by omega) (by omega)) (Or.inl rfl) (fun k9 v9 T9 E22 nx9 kc9 ks9 hq21 hk9 hs9 => ?_)
              obtain ⟨rfl, rfl, rfl, hI24, hG25, hz23⟩ := hq21
              obtain rfl : kc = kc9 := by omega
              obtain rfl : ks = ks9 := by omega
              have hF26 := cm_fr.trans hF hG25 (by first | (simp; done) | (simp; omega) | (intro i k h; (try simp only at h); (try simp only); omega))
              refine Or.inl ⟨rfl, ?_⟩
              refine w_aload (i := 0) (npc := 186) rfl rfl rfl ?_
              refine w_getf (i := 81) (ci := 8) (k := 4) (npc := 189) rfl (hI24.pl (by decide)) (hI24.T (by decide) rfl) (by decide) (hI24.ref 81 4 (p := 84) (by decide) (by decide) rfl) ?_
              refine w_iload (i := 1) (npc := 190) rfl rfl ?_
              refine w_dup2 (npc := 191) rfl rfl rfl ?_
              obtain ⟨z27, hz27, hz27a, hz27b⟩ := hI24.int 84 (p : Int).toNat (lo := 0) (hi := 20) (by decide) (show (p : Int).toNat < 5 by omega) rfl
              have ghz27 := gv_eq hz27
              refine w_ald (i := 84) (t := 1) (n := 5) (npc := 192) rfl (hI24.pl (by decide)) (hI24.T (by decide) rfl) (by decide) rfl (by omega) hz27 ?_
              have hl84 := gv_fr hG25 (i := 84) (k := (p : Int).toNat) (by simp)
              obtain rfl : z11 = z27 := by omega
              refine w_const (n := 1) (npc := 193) rfl ?_
              refine w_iadd (npc := 194) rfl (by omega) ?_
              refine w_ast (i := 84) (k := 1) (n := 5) (npc := 195) rfl (hI24.pl (by decide)) (hI24.T (by decide) rfl) (by decide) (by omega) cm_af1 ?_
              have hI30 := hI24.puti (i := 84) (k := (p : Int).toNat) (z := z11 + 1) (lo := 0) (hi := 20) (by decide) rfl (by omega)
              have hF32 := cm_fr.up (i := 84) (k := (p : Int).toNat) (v := ai_i (z11 + 1)) hF26 (by first | (simp; done) | (simp; omega) | (intro i k h; (try simp only at h); (try simp only); omega))
              generalize hE31 : cm_up E22 84 (p : Int).toNat (ai_i (z11 + 1)) = E29 at hI30 hF32   ⊢
              have hz33 : E29 84 (p : Int).toNat = ai_i (z11 + 1) := by rw [← hE31, cm_up_eq]
              have ghz33 := gv_eq hz33
              have hR34 : rl E29 := rl_hold (p := p) (h := z11) (b := 1500 + 20 * p + z11) hR (by omega) (by omega) (by omega) rfl hp1 hp2 hG25 hz23 hE31
              refine w_const (n := 1) (npc := 196) rfl ?_
              exact w_iret rfl (⟨rfl, rfl, rfl, hI30, hF32, hR34, 1, rfl, by omega⟩) (by omega) (by omega)
            · replace hc17 : ¬ (z11 ≠ (20 : Int)) := hc17
              refine w_const (n := 15) (npc := 166) rfl ?_
              exact w_iret rfl (⟨rfl, rfl, rfl, hI, hF, hR, 15, rfl, by omega⟩) (by omega) (by omega)
          · replace hc16 : ¬ (z15 = (0 : Int)) := hc16
            refine w_aload (i := 0) (npc := 139) rfl rfl rfl ?_
            refine w_iload (i := 1) (npc := 140) rfl rfl ?_
            refine w_const (n := 3200) (npc := 143) rfl ?_
            refine w_virt (ci := 8) (i := 81) (npc := 146) (a := [cr 81, ai_i p, ai_i 3200]) (rest := []) rfl rfl (hI.pl (by decide)) (hI.T (by decide) rfl) rfl rfl rfl rfl (ct_m_add (sl := sl) (x := x) (d := d + 2) (p) (3200) hI  hR (by omega) (by omega) hp1 hp2 (by have hq1 := hp1.2.2.1; have hq2 := hp2.1; have hq3 := hp2.2; omega)) (Or.inl rfl) (fun k9 v9 T9 E36 nx9 kc9 ks9 hq35 hk9 hs9 => ?_)
            obtain ⟨rfl, rfl, rfl, hI38, hG39, hR40, hz37⟩ := hq35
            obtain rfl : kc = kc9 := by omega
            obtain rfl : ks = ks9 := by omega
            have hF41 := cm_fr.trans hF hG39 (by first | (simp; done) | (simp; omega) | (intro i k h; (try simp only at h); (try simp only); omega))
            refine Or.inl ⟨rfl, ?_⟩
            refine w_aload (i := 0) (npc := 147) rfl rfl rfl ?_
            refine w_iload (i := 1) (npc := 148) rfl rfl ?_
            refine w_virt (ci := 8) (i := 81) (npc := 151) (a := [cr 81, ai_i p]) (rest := []) rfl rfl (hI38.pl (by decide)) (hI38.T (by decide) rfl) rfl rfl rfl rfl (ct_m_release (sl := sl) (x := x) (d := d + 0) (p) hI38 hR40 (by omega)) (Or.inl rfl) (fun k9 v9 T9 E43 nx9 kc9 ks9 hq42 hk9 hs9 => ?_)
            obtain ⟨rfl, rfl, rfl, hI45, hG46, hR47, hz44⟩ := hq42
            obtain rfl : kc = kc9 := by omega
            obtain rfl : ks = ks9 := by omega
            have hF48 := cm_fr.trans hF41 hG46 (by first | (simp; done) | (simp; omega) | (intro i k h; (try simp only at h); (try simp only); omega))
            refine Or.inl ⟨rfl, ?_⟩
            refine w_const (n := 2) (npc := 152) rfl ?_
            exact w_iret rfl (⟨rfl, rfl, rfl, hI45, hF48, hR47, 2, rfl, by omega⟩) (by omega) (by omega)
        · replace hc12 : ¬ (z11 ≤ i) := hc12
          refine w_aload (i := 0) (npc := 66) rfl rfl rfl ?_
          refine w_aload (i := 0) (npc := 67) rfl rfl rfl ?_
          refine w_iload (i := 1) (npc := 68) rfl rfl ?_
          refine w_iload (i := 4) (npc := 70) rfl rfl ?_
          refine w_virt (ci := 8) (i := 81) (npc := 73) (a := [cr 81, ai_i p, ai_i i]) (rest := [cr 81]) rfl rfl (hI.pl (by decide)) (hI.T (by decide) rfl) rfl rfl rfl rfl (ct_m_holdOf (sl := sl) (x := x) (d := d + 3) (p) (i) (by omega) (by omega)) (Or.inl rfl) (fun k9 v9 T9 E50 nx9 kc9 ks9 hq49 hk9 hs9 => ?_)
          obtain ⟨rfl, rfl, rfl, rfl, z51, rfl, hz51⟩ := hq49
          obtain rfl : kc = kc9 := by omega
          obtain rfl : ks = ks9 := by omega
          refine Or.inr (Or.inl ⟨rfl, ?_⟩)
          refine w_const (n := 1) (npc := 74) rfl ?_
          refine w_virt (ci := 8) (i := 81) (npc := 77) (a := [cr 81, ai_i z51, ai_i 1]) (rest := []) rfl rfl (hI.pl (by decide)) (hI.T (by decide) rfl) rfl rfl rfl rfl (ct_m_of (sl := sl) (x := x) (d := d + 3) (z51) (1) hI (by omega) (by omega) (by omega)) (Or.inl rfl) (fun k9 v9 T9 E53 nx9 kc9 ks9 hq52 hk9 hs9 => ?_)
          obtain ⟨rfl, rfl, rfl, rfl, z54, rfl, hz54⟩ := hq52
          obtain rfl : kc = kc9 := by omega
          obtain rfl : ks = ks9 := by omega
          refine Or.inr (Or.inl ⟨rfl, ?_⟩)
          refine w_iload (i := 2) (npc := 78) rfl rfl ?_
          refine w_icmp (c := .ne) (npc := 81) (pt := 121) rfl (fun hc55 => ?_) (fun hc55 => ?_)
          · replace hc55 : z54 ≠ gv E 82 (166 * 3200 + 1 : Int).toNat := hc55
            refine w_iinc (i := 4) (n := 1) (npc := 124) (loc' := [cr 81, ai_i p, ai_i (gv E 82 (166 * 3200 + 1 : Int).toNat), ai_i (gv E 82 (166 * 3200 + 2 : Int).toNat), ai_i (i + 1)]) rfl rfl (by omega) rfl ?_
            refine w_goto (pt := 54) rfl ?_
            exact ih54 (i + 1) (by omega) (by omega)
          · replace hc55 : ¬ (z54 ≠ gv E 82 (166 * 3200 + 1 : Int).toNat) := hc55
            refine w_aload (i := 0) (npc := 82) rfl rfl rfl ?_
            refine w_aload (i := 0) (npc := 83) rfl rfl rfl ?_
            refine w_iload (i := 1) (npc := 84) rfl rfl ?_
            refine w_iload (i := 4) (npc := 86) rfl rfl ?_
            refine w_virt (ci := 8) (i := 81) (npc := 89) (a := [cr 81, ai_i p, ai_i i]) (rest := [cr 81]) rfl rfl (hI.pl (by decide)) (hI.T (by decide) rfl) rfl rfl rfl rfl (ct_m_holdOf (sl := sl) (x := x) (d := d + 3) (p) (i) (by omega) (by omega)) (Or.inl rfl) (fun k9 v9 T9 E58 nx9 kc9 ks9 hq57 hk9 hs9 => ?_)
            obtain ⟨rfl, rfl, rfl, rfl, z59, rfl, hz59⟩ := hq57
            obtain rfl : kc = kc9 := by omega
            obtain rfl : ks = ks9 := by omega
            refine Or.inr (Or.inl ⟨rfl, ?_⟩)
            refine w_const (n := 2) (npc := 90) rfl ?_
            refine w_virt (ci := 8) (i := 81) (npc := 93) (a := [cr 81, ai_i z59, ai_i 2]) (rest := []) rfl rfl (hI.pl (by decide)) (hI.T (by decide) rfl) rfl rfl rfl rfl (ct_m_of (sl := sl) (x := x) (d := d + 3) (z59) (2) hI (by omega) (by omega) (by omega)) (Or.inl rfl) (fun k9 v9 T9 E61 nx9 kc9 ks9 hq60 hk9 hs9 => ?_)
            obtain ⟨rfl, rfl, rfl, rfl, z62, rfl, hz62⟩ := hq60
            obtain rfl : kc = kc9 := by omega
            obtain rfl : ks = ks9 := by omega
            refine Or.inr (Or.inl ⟨rfl, ?_⟩)
            refine w_iload (i := 3) (npc := 94) rfl rfl ?_
            refine w_icmp (c := .ne) (npc := 97) (pt := 121) rfl (fun hc63 => ?_) (fun hc63 => ?_)
            · replace hc63 : z62 ≠ gv E 82 (166 * 3200 + 2 : Int).toNat := hc63
              refine w_iinc (i := 4) (n := 1) (npc := 124) (loc' := [cr 81, ai_i p, ai_i (gv E 82 (166 * 3200 + 1 : Int).toNat), ai_i (gv E 82 (166 * 3200 + 2 : Int).toNat), ai_i (i + 1)]) rfl rfl (by omega) rfl ?_
              refine w_goto (pt := 54) rfl ?_
              exact ih54 (i + 1) (by omega) (by omega)
            · replace hc63 : ¬ (z62 ≠ gv E 82 (166 * 3200 + 2 : Int).toNat) := hc63
              refine w_aload (i := 0) (npc := 98) rfl rfl rfl ?_
              refine w_const (n := 3200) (npc := 101) rfl ?_
              refine w_aload (i := 0) (npc := 102) rfl rfl rfl ?_
              refine w_iload (i := 1) (npc := 103) rfl rfl ?_
              refine w_iload (i := 4) (npc := 105) rfl rfl ?_
              refine w_virt (ci := 8) (i := 81) (npc := 108) (a := [cr 81, ai_i p, ai_i i]) (rest := [ai_i 3200, cr 81]) rfl rfl (hI.pl (by decide)) (hI.T (by decide) rfl) rfl rfl rfl rfl (ct_m_holdOf (sl := sl) (x := x) (d := d + 3) (p) (i) (by omega) (by omega)) (Or.inl rfl) (fun k9 v9 T9 E66 nx9 kc9 ks9 hq65 hk9 hs9 => ?_)
              obtain ⟨rfl, rfl, rfl, rfl, z67, rfl, hz67⟩ := hq65
              obtain rfl : kc = kc9 := by omega
              obtain rfl : ks = ks9 := by omega
              refine Or.inr (Or.inl ⟨rfl, ?_⟩)
              refine w_virt (ci := 8) (i := 81) (npc := 111) (a := [cr 81, ai_i 3200, ai_i z67]) (rest := []) rfl rfl (hI.pl (by decide)) (hI.T (by decide) rfl) rfl rfl rfl rfl (ct_m_isLike (sl := sl) (x := x) (d := d + 3) (3200) (z67) hI (by omega) (by omega)) (Or.inl rfl) (fun k9 v9 T9 E69 nx9 kc9 ks9 hq68 hk9 hs9 => ?_)
              obtain ⟨rfl, rfl, rfl, rfl, z70, rfl, hz70⟩ := hq68
              obtain rfl : kc = kc9 := by omega
              obtain rfl : ks = ks9 := by omega
              refine Or.inr (Or.inl ⟨rfl, ?_⟩)
              refine w_if (c := .eq) (npc := 114) (pt := 118) rfl (fun hc71 => ?_) (fun hc71 => ?_)
              · replace hc71 : z70 = (0 : Int) := hc71
                refine w_const (n := 14) (npc := 120) rfl ?_
                exact w_iret rfl (⟨rfl, rfl, rfl, hI, hF, hR, 14, rfl, by omega⟩) (by omega) (by omega)
              · replace hc71 : ¬ (z70 = (0 : Int)) := hc71
                refine w_const (n := 0) (npc := 115) rfl ?_
                refine w_goto (pt := 120) rfl ?_
                exact w_iret rfl (⟨rfl, rfl, rfl, hI, hF, hR, 0, rfl, by omega⟩) (by omega) (by omega)
    exact loop54 _ (0) (Nat.lt_succ_self _) (by omega)
  · replace hc10 : ¬ (z9 = (0 : Int)) := hc10
    refine w_aload (i := 0) (npc := 29) rfl rfl rfl ?_
    refine w_const (n := 3200) (npc := 32) rfl ?_
    refine w_iload (i := 1) (npc := 33) rfl rfl ?_
    refine w_iload (i := 2) (npc := 34) rfl rfl ?_
    refine w_iload (i := 3) (npc := 35) rfl rfl ?_
    refine w_call (npc := 38) (a := [ai_i p, ai_i (gv E 82 (166 * 3200 + 1 : Int).toNat), ai_i (gv E 82 (166 * 3200 + 2 : Int).toNat)]) (rest := [ai_i 3200, cr 81]) rfl rfl rfl rfl rfl (ct_m_rowOf (sl := sl) (x := x) (d := d + 3) (p) (gv E 82 (166 * 3200 + 1 : Int).toNat) (gv E 82 (166 * 3200 + 2 : Int).toNat) (by omega) (by omega) (by omega)) (Or.inr (fun _ _ _ _ _ hq => by have h1 := hq.1; omega)) (fun k9 v9 T9 E73 nx9 kc9 ks9 hq72 hk9 hs9 => ?_)
    obtain ⟨rfl, rfl, rfl, rfl, z74, rfl, hz74⟩ := hq72
    obtain rfl : kc = kc9 := by omega
    obtain rfl : ks = ks9 := by omega
    refine Or.inr (Or.inl ⟨rfl, ?_⟩)
    refine w_virt (ci := 8) (i := 81) (npc := 41) (a := [cr 81, ai_i 3200, ai_i z74]) (rest := []) rfl rfl (hI.pl (by decide)) (hI.T (by decide) rfl) rfl rfl rfl rfl (ct_m_isLike (sl := sl) (x := x) (d := d + 3) (3200) (z74) hI (by omega) (by omega)) (Or.inl rfl) (fun k9 v9 T9 E76 nx9 kc9 ks9 hq75 hk9 hs9 => ?_)
    obtain ⟨rfl, rfl, rfl, rfl, z77, rfl, hz77⟩ := hq75
    obtain rfl : kc = kc9 := by omega
    obtain rfl : ks = ks9 := by omega
    refine Or.inr (Or.inl ⟨rfl, ?_⟩)
    refine w_if (c := .eq) (npc := 44) (pt := 48) rfl (fun hc78 => ?_) (fun hc78 => ?_)
    · replace hc78 : z77 = (0 : Int) := hc78
      refine w_const (n := 14) (npc := 50) rfl ?_
      exact w_iret rfl (⟨rfl, rfl, rfl, hI, hF, hR, 14, rfl, by omega⟩) (by omega) (by omega)
    · replace hc78 : ¬ (z77 = (0 : Int)) := hc78
      refine w_const (n := 0) (npc := 45) rfl ?_
      refine w_goto (pt := 50) rfl ?_
      exact w_iret rfl (⟨rfl, rfl, rfl, hI, hF, hR, 0, rfl, by omega⟩) (by omega) (by omega)
set_option maxRecDepth 16384 in
theorem ct_m_endStep {sl : Int × Int} {x : ai_E} {d : Nat} {T : cm_T} {E : cm_E} {nx : Nat} (p : Int) (hI : cs_I T E nx) (hR : rl E) (hp0 : 0 ≤ p ∧ p ≤ 4) (hp1 : rl_row E 3200) (hp2 : rl_hd E 3200) (hp3 : gv E 82 (166 * 3200 + 1 : Int).toNat = p) (hp4 : gv E 83 (5 * p + p).toNat ≤ 59) : cm_ct (ai_ev sl (d + 5)) x 156 [cr 81, ai_i p] T E nx 0 0 (fun rk rv T' E' nx' => rk = 1 ∧ T = T' ∧ nx = nx' ∧ cs_I T E' nx ∧ cm_fr (fun i k => i = 83 ∨ i = 84 ∨ (i = 82 ∧ k < 265600)) E E' ∧ rl E' ∧ ∃ z : Int, rv = ai_i z ∧ (0 ≤ z ∧ z ≤ 65540)) := by
  refine cm_body (M := ai_m156) rfl rfl (fun kc ks => ?_)
  show cm_wp (ai_find ai_c156 sl) (ai_ev sl (d + 4)) x (kc + 0) (ks + 0) _ 0 [cr 81, ai_i p] [] T E nx kc ks
  have hF : cm_fr (fun i k => i = 83 ∨ i = 84 ∨ (i = 82 ∧ k < 265600)) E E := fun _ _ _ => rfl
  refine w_aload (i := 0) (npc := 1) rfl rfl rfl ?_
  refine w_iload (i := 1) (npc := 2) rfl rfl ?_
  refine w_const (n := 3200) (npc := 5) rfl ?_
  refine w_virt (ci := 8) (i := 81) (npc := 8) (a := [cr 81, ai_i p, ai_i 3200]) (rest := []) rfl rfl (hI.pl (by decide)) (hI.T (by decide) rfl) rfl rfl rfl rfl (ct_m_add (sl := sl) (x := x) (d := d + 2) (p) (3200) hI  hR (by omega) (by omega) hp1 hp2 (by rw [hp3]; omega)) (Or.inl rfl) (fun k9 v9 T9 E2 nx9 kc9 ks9 hq1 hk9 hs9 => ?_)
  obtain ⟨rfl, rfl, rfl, hI4, hG5, hR6, hz3⟩ := hq1
  obtain rfl : kc = kc9 := by omega
  obtain rfl : ks = ks9 := by omega
  have hF7 := cm_fr.trans hF hG5 (by first | (simp; done) | (simp; omega) | (intro i k h; (try simp only at h); (try simp only); omega))
  refine Or.inl ⟨rfl, ?_⟩
  refine w_aload (i := 0) (npc := 9) rfl rfl rfl ?_
  refine w_iload (i := 1) (npc := 10) rfl rfl ?_
  refine w_virt (ci := 8) (i := 81) (npc := 13) (a := [cr 81, ai_i p]) (rest := []) rfl rfl (hI4.pl (by decide)) (hI4.T (by decide) rfl) rfl rfl rfl rfl (ct_m_release (sl := sl) (x := x) (d := d + 0) (p) hI4 hR6 (by omega)) (Or.inl rfl) (fun k9 v9 T9 E9 nx9 kc9 ks9 hq8 hk9 hs9 => ?_)
  obtain ⟨rfl, rfl, rfl, hI11, hG12, hR13, hz10⟩ := hq8
  obtain rfl : kc = kc9 := by omega
  obtain rfl : ks = ks9 := by omega
  have hF14 := cm_fr.trans hF7 hG12 (by first | (simp; done) | (simp; omega) | (intro i k h; (try simp only at h); (try simp only); omega))
  refine Or.inl ⟨rfl, ?_⟩
  refine w_aload (i := 0) (npc := 14) rfl rfl rfl ?_
  refine w_const (n := 3200) (npc := 17) rfl ?_
  refine w_const (n := 2) (npc := 18) rfl ?_
  refine w_virt (ci := 8) (i := 81) (npc := 21) (a := [cr 81, ai_i 3200, ai_i 2]) (rest := []) rfl rfl (hI11.pl (by decide)) (hI11.T (by decide) rfl) rfl rfl rfl rfl (ct_m_of (sl := sl) (x := x) (d := d + 3) (3200) (2) hI11 (by omega) (by omega) (by omega)) (Or.inl rfl) (fun k9 v9 T9 E16 nx9 kc9 ks9 hq15 hk9 hs9 => ?_)
  obtain ⟨rfl, rfl, rfl, rfl, z17, rfl, hz17⟩ := hq15
  obtain rfl : kc = kc9 := by omega
  obtain rfl : ks = ks9 := by omega
  refine Or.inr (Or.inl ⟨rfl, ?_⟩)
  exact w_iret rfl (⟨rfl, rfl, rfl, hI11, hF14, hR13, z17, rfl, by omega⟩) (by omega) (by omega)
