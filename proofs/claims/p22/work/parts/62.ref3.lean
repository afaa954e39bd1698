set_option maxRecDepth 16384 in
theorem ct_m_tellHolds {sl : Int × Int} {x : ai_E} {d : Nat} {T : cm_T} {E : cm_E} {nx : Nat} (p : Int) (hI : cs_I T E nx) (hR : rl E) (hp0 : 0 ≤ p ∧ p ≤ 4) : cm_ct (ai_ev sl (d + 2)) x 215 [cr 81, ai_i p] T E nx 0 0 (fun rk rv T' E' nx' => rk = 0 ∧ T = T' ∧ nx = nx' ∧ cs_I T E' nx ∧ cm_fr (fun i k => i = 86) E E' ∧ rl E' ∧ (True)) := by
  refine cm_body (M := ai_m215) rfl rfl (fun kc ks => ?_)
  show cm_wp (ai_find ai_c215 sl) (ai_ev sl (d + 1)) x (kc + 0) (ks + 0) _ 0 [cr 81, ai_i p, ai_un, ai_un] [] T E nx kc ks
  have hF : cm_fr (fun i k => i = 86) E E := fun _ _ _ => rfl
  refine w_const (n := 0) (npc := 1) rfl ?_
  refine w_istore (i := 2) (npc := 2) (loc' := [cr 81, ai_i p, ai_i 0, ai_un]) rfl rfl ?_
  have loop2 : ∀ (nf : Nat) (w : Int) (u2_3 : ai_V) (Eq2 : cm_E), ((5 - w).toNat) < nf → cs_I T Eq2 nx → cm_fr (fun i k => i = 86) E Eq2 → rl Eq2 → (0 ≤ w ∧ w ≤ 5) → cm_wp (ai_find ai_c215 sl) (ai_ev sl (d + 1)) x (kc + 0) (ks + 0) (fun rk rv T' E' nx' => rk = 0 ∧ T = T' ∧ nx = nx' ∧ cs_I T E' nx ∧ cm_fr (fun i k => i = 86) E E' ∧ rl E' ∧ (True)) 2 [cr 81, ai_i p, ai_i w, u2_3] [] T Eq2 nx kc ks := by
    intro nf
    induction nf with
    | zero => intro w u2_3 Eq2 hm; exact absurd hm (Nat.not_lt_zero _)
    | succ nf2 ih =>
      intro w u2_3 Eq2 hm2 hI2 hF2 hR2 hv2
      have ih2 := ih; clear ih
      refine w_iload (i := 2) (npc := 3) rfl rfl ?_
      refine w_aload (i := 0) (npc := 4) rfl rfl rfl ?_
      obtain ⟨z1, hz1, hz1a, hz1b⟩ := hI2.int 81 1 (lo := 1) (hi := 5) (by decide) (by decide) rfl
      have ghz1 := gv_eq hz1
      have g0hz1 : gv E 81 1 = z1 := (gv_fr hF2 (by simp)).trans ghz1
      refine w_getf (i := 81) (ci := 8) (k := 1) (npc := 7) rfl (hI2.pl (by decide)) (hI2.T (by decide) rfl) (by decide) hz1 ?_
      refine w_icmp (c := .ge) (npc := 10) (pt := 121) rfl (fun hc2 => ?_) (fun hc2 => ?_)
      · replace hc2 : z1 ≤ w := hc2
        exact w_vret rfl (⟨rfl, rfl, rfl, hI2, hF2, hR2, trivial⟩) (by omega) (by omega)
      · replace hc2 : ¬ (z1 ≤ w) := hc2
        refine w_aload (i := 0) (npc := 11) rfl rfl rfl ?_
        refine w_getf (i := 81) (ci := 8) (k := 3) (npc := 14) rfl (hI2.pl (by decide)) (hI2.T (by decide) rfl) (by decide) (hI2.ref 81 3 (p := 83) (by decide) (by decide) rfl) ?_
        refine w_const (n := 5) (npc := 15) rfl ?_
        refine w_iload (i := 1) (npc := 16) rfl rfl ?_
        refine w_imul (npc := 17) rfl (by omega) ?_
        refine w_iload (i := 2) (npc := 18) rfl rfl ?_
        refine w_iadd (npc := 19) rfl (by omega) ?_
        obtain ⟨z5, hz5, hz5a, hz5b⟩ := hI2.int 83 (5 * p + w : Int).toNat (lo := 0) (hi := 60) (by decide) (show (5 * p + w : Int).toNat < 25 by omega) rfl
        have ghz5 := gv_eq hz5
        have g0hz5 : gv E 83 (5 * p + w : Int).toNat = z5 := (gv_fr hF2 (by simp)).trans ghz5
        refine w_ald (i := 83) (t := 1) (n := 25) (npc := 20) rfl (hI2.pl (by decide)) (hI2.T (by decide) rfl) (by decide) rfl (by omega) hz5 ?_
        refine w_istore (i := 3) (npc := 21) (loc' := [cr 81, ai_i p, ai_i w, ai_i z5]) rfl rfl ?_
        have loop21 : ∀ (nf : Nat) (n : Int) (Eq21 : cm_E), (n.toNat) < nf → cs_I T Eq21 nx → cm_fr (fun i k => i = 86) E Eq21 → rl Eq21 → (0 ≤ n ∧ n ≤ 60) → cm_wp (ai_find ai_c215 sl) (ai_ev sl (d + 1)) x (kc + 0) (ks + 0) (fun rk rv T' E' nx' => rk = 0 ∧ T = T' ∧ nx = nx' ∧ cs_I T E' nx ∧ cm_fr (fun i k => i = 86) E E' ∧ rl E' ∧ (True)) 21 [cr 81, ai_i p, ai_i w, ai_i n] [] T Eq21 nx kc ks := by
          intro nf
          induction nf with
          | zero => intro n Eq21 hm; exact absurd hm (Nat.not_lt_zero _)
          | succ nf21 ih =>
            intro n Eq21 hm21 hI21 hF21 hR21 hv21
            have ih21 := ih; clear ih
            refine w_iload (i := 3) (npc := 22) rfl rfl ?_
            refine w_const (n := 1) (npc := 23) rfl ?_
            refine w_icmp (c := .lt) (npc := 26) (pt := 43) rfl (fun hc6 => ?_) (fun hc6 => ?_)
            · replace hc6 : n < (1 : Int) := hc6
              refine w_aload (i := 0) (npc := 44) rfl rfl rfl ?_
              refine w_getf (i := 81) (ci := 8) (k := 3) (npc := 47) rfl (hI21.pl (by decide)) (hI21.T (by decide) rfl) (by decide) (hI21.ref 81 3 (p := 83) (by decide) (by decide) rfl) ?_
              refine w_const (n := 5) (npc := 48) rfl ?_
              refine w_iload (i := 1) (npc := 49) rfl rfl ?_
              refine w_imul (npc := 50) rfl (by omega) ?_
              refine w_iload (i := 2) (npc := 51) rfl rfl ?_
              refine w_iadd (npc := 52) rfl (by omega) ?_
              obtain ⟨z9, hz9, hz9a, hz9b⟩ := hI21.int 83 (5 * p + w : Int).toNat (lo := 0) (hi := 60) (by decide) (show (5 * p + w : Int).toNat < 25 by omega) rfl
              have ghz9 := gv_eq hz9
              have g0hz9 : gv E 83 (5 * p + w : Int).toNat = z9 := (gv_fr hF21 (by simp)).trans ghz9
              refine w_ald (i := 83) (t := 1) (n := 25) (npc := 53) rfl (hI21.pl (by decide)) (hI21.T (by decide) rfl) (by decide) rfl (by omega) hz9 ?_
              refine w_istore (i := 3) (npc := 54) (loc' := [cr 81, ai_i p, ai_i w, ai_i z9]) rfl rfl ?_
              have loop54 : ∀ (nf : Nat) (n : Int) (Eq54 : cm_E), (n.toNat) < nf → cs_I T Eq54 nx → cm_fr (fun i k => i = 86) E Eq54 → rl Eq54 → (0 ≤ n ∧ n ≤ 60) → cm_wp (ai_find ai_c215 sl) (ai_ev sl (d + 1)) x (kc + 0) (ks + 0) (fun rk rv T' E' nx' => rk = 0 ∧ T = T' ∧ nx = nx' ∧ cs_I T E' nx ∧ cm_fr (fun i k => i = 86) E E' ∧ rl E' ∧ (True)) 54 [cr 81, ai_i p, ai_i w, ai_i n] [] T Eq54 nx kc ks := by
                intro nf
                induction nf with
                | zero => intro n Eq54 hm; exact absurd hm (Nat.not_lt_zero _)
                | succ nf54 ih =>
                  intro n Eq54 hm54 hI54 hF54 hR54 hv54
                  have ih54 := ih; clear ih
                  refine w_iload (i := 3) (npc := 55) rfl rfl ?_
                  refine w_const (n := 1) (npc := 56) rfl ?_
                  refine w_icmp (c := .lt) (npc := 59) (pt := 115) rfl (fun hc10 => ?_) (fun hc10 => ?_)
                  · replace hc10 : n < (1 : Int) := hc10
                    refine w_iinc (i := 2) (n := 1) (npc := 118) (loc' := [cr 81, ai_i p, ai_i (w + 1), ai_i n]) rfl rfl (by omega) rfl ?_
                    refine w_goto (pt := 2) rfl ?_
                    exact ih2 (w + 1) (ai_i n) Eq54 (by omega) hI54 hF54 hR54 (by omega)
                  · replace hc10 : ¬ (n < (1 : Int)) := hc10
                    refine w_aload (i := 0) (npc := 60) rfl rfl rfl ?_
                    refine w_getf (i := 81) (ci := 8) (k := 6) (npc := 63) rfl (hI54.pl (by decide)) (hI54.T (by decide) rfl) (by decide) (hI54.ref 81 6 (p := 86) (by decide) (by decide) rfl) ?_
                    refine w_iload (i := 2) (npc := 64) rfl rfl ?_
                    refine w_iload (i := 3) (npc := 65) rfl rfl ?_
                    refine w_call (npc := 68) (a := [ai_i w, ai_i n]) (rest := [cr 86]) rfl rfl rfl rfl rfl (ct_m_markOf (sl := sl) (x := x) (d := d + 0) (w) (n) (by omega) (by omega)) (Or.inr (fun _ _ _ _ _ hq => by have h1 := hq.1; omega)) (fun k9 v9 T9 E13 nx9 kc9 ks9 hq12 hk9 hs9 => ?_)
                    obtain ⟨rfl, rfl, rfl, rfl, z14, rfl, hz14⟩ := hq12
                    obtain rfl : kc = kc9 := by omega
                    obtain rfl : ks = ks9 := by omega
                    refine Or.inr (Or.inl ⟨rfl, ?_⟩)
                    obtain ⟨z15, hz15, hz15a, hz15b⟩ := hI54.int 86 (z14 : Int).toNat (lo := 0) (hi := 1) (by decide) (show (z14 : Int).toNat < 300 by omega) rfl
                    have ghz15 := gv_eq hz15
                    refine w_ald (i := 86) (t := 2) (n := 300) (npc := 69) rfl (hI54.pl (by decide)) (hI54.T (by decide) rfl) (by decide) rfl (by omega) hz15 ?_
                    refine w_if (c := .eq) (npc := 72) (pt := 109) rfl (fun hc16 => ?_) (fun hc16 => ?_)
                    · replace hc16 : z15 = (0 : Int) := hc16
                      refine w_iinc (i := 3) (n := (-1)) (npc := 112) (loc' := [cr 81, ai_i p, ai_i w, ai_i (n + (-1))]) rfl rfl (by omega) rfl ?_
                      refine w_goto (pt := 54) rfl ?_
                      exact ih54 (n + (-1)) Eq54 (by omega) hI54 hF54 hR54 (by omega)
                    · replace hc16 : ¬ (z15 = (0 : Int)) := hc16
                      refine w_aload (i := 0) (npc := 73) rfl rfl rfl ?_
                      refine w_iload (i := 1) (npc := 74) rfl rfl ?_
                      refine w_iload (i := 2) (npc := 75) rfl rfl ?_
                      refine w_iload (i := 3) (npc := 76) rfl rfl ?_
                      refine w_call (npc := 79) (a := [ai_i p, ai_i w, ai_i n]) (rest := [cr 81]) rfl rfl rfl rfl rfl (ct_m_rowOf (sl := sl) (x := x) (d := d + 0) (p) (w) (n) (by omega) (by omega) (by omega)) (Or.inr (fun _ _ _ _ _ hq => by have h1 := hq.1; omega)) (fun k9 v9 T9 E19 nx9 kc9 ks9 hq18 hk9 hs9 => ?_)
                      obtain ⟨rfl, rfl, rfl, rfl, z20, rfl, hz20⟩ := hq18
                      obtain rfl : kc = kc9 := by omega
                      obtain rfl : ks = ks9 := by omega
                      refine Or.inr (Or.inl ⟨rfl, ?_⟩)
                      refine w_const (n := 0) (npc := 80) rfl ?_
                      refine w_virt (ci := 8) (i := 81) (npc := 83) (a := [cr 81, ai_i z20, ai_i 0]) (rest := []) rfl rfl (hI54.pl (by decide)) (hI54.T (by decide) rfl) rfl rfl rfl rfl (ct_m_of (sl := sl) (x := x) (d := d + 0) (z20) (0) hI54 (by omega) (by omega) (by omega)) (Or.inl rfl) (fun k9 v9 T9 E22 nx9 kc9 ks9 hq21 hk9 hs9 => ?_)
                      obtain ⟨rfl, rfl, rfl, rfl, z23, rfl, hz23⟩ := hq21
                      obtain rfl : kc = kc9 := by omega
                      obtain rfl : ks = ks9 := by omega
                      refine Or.inr (Or.inl ⟨rfl, ?_⟩)
                      have hl24 : gv E 82 (166 * z20 + 0).toNat = gv Eq54 82 (166 * z20 + 0).toNat := gv_fr hF54 (by simp)
                      refine w_const (n := 2) (npc := 84) rfl ?_
                      refine w_icmp (c := .ne) (npc := 87) (pt := 109) rfl (fun hc25 => ?_) (fun hc25 => ?_)
                      · replace hc25 : z23 ≠ (2 : Int) := hc25
                        refine w_iinc (i := 3) (n := (-1)) (npc := 112) (loc' := [cr 81, ai_i p, ai_i w, ai_i (n + (-1))]) rfl rfl (by omega) rfl ?_
                        refine w_goto (pt := 54) rfl ?_
                        exact ih54 (n + (-1)) Eq54 (by omega) hI54 hF54 hR54 (by omega)
                      · replace hc25 : ¬ (z23 ≠ (2 : Int)) := hc25
                        refine w_aload (i := 0) (npc := 88) rfl rfl rfl ?_
                        refine w_getf (i := 81) (ci := 8) (k := 6) (npc := 91) rfl (hI54.pl (by decide)) (hI54.T (by decide) rfl) (by decide) (hI54.ref 81 6 (p := 86) (by decide) (by decide) rfl) ?_
                        refine w_iload (i := 2) (npc := 92) rfl rfl ?_
                        refine w_aload (i := 0) (npc := 93) rfl rfl rfl ?_
                        refine w_iload (i := 1) (npc := 94) rfl rfl ?_
                        refine w_iload (i := 2) (npc := 95) rfl rfl ?_
                        refine w_iload (i := 3) (npc := 96) rfl rfl ?_
                        refine w_call (npc := 99) (a := [ai_i p, ai_i w, ai_i n]) (rest := [cr 81, ai_i w, cr 86]) rfl rfl rfl rfl rfl (ct_m_rowOf (sl := sl) (x := x) (d := d + 0) (p) (w) (n) (by omega) (by omega) (by omega)) (Or.inr (fun _ _ _ _ _ hq => by have h1 := hq.1; omega)) (fun k9 v9 T9 E28 nx9 kc9 ks9 hq27 hk9 hs9 => ?_)
                        obtain ⟨rfl, rfl, rfl, rfl, z29, rfl, hz29⟩ := hq27
                        obtain rfl : kc = kc9 := by omega
                        obtain rfl : ks = ks9 := by omega
                        refine Or.inr (Or.inl ⟨rfl, ?_⟩)
                        obtain rfl : z20 = z29 := by omega
                        obtain ⟨hw0, hw1, hw2, hw3, hw4, hw5⟩ := hR.1 z20 (by omega) (by omega)
                        refine w_const (n := 9) (npc := 101) rfl ?_
                        refine w_virt (ci := 8) (i := 81) (npc := 104) (a := [cr 81, ai_i z20, ai_i 9]) (rest := [ai_i w, cr 86]) rfl rfl (hI54.pl (by decide)) (hI54.T (by decide) rfl) rfl rfl rfl rfl (ct_m_of (sl := sl) (x := x) (d := d + 0) (z20) (9) hI54 (by omega) (by omega) (by omega)) (Or.inl rfl) (fun k9 v9 T9 E31 nx9 kc9 ks9 hq30 hk9 hs9 => ?_)
                        obtain ⟨rfl, rfl, rfl, rfl, z32, rfl, hz32⟩ := hq30
                        obtain rfl : kc = kc9 := by omega
                        obtain rfl : ks = ks9 := by omega
                        refine Or.inr (Or.inl ⟨rfl, ?_⟩)
                        have hl33 : gv E 82 (166 * z20 + 9).toNat = gv Eq54 82 (166 * z20 + 9).toNat := gv_fr hF54 (by simp)
                        refine w_call (npc := 107) (a := [ai_i w, ai_i z32]) (rest := [cr 86]) rfl rfl rfl rfl rfl (ct_m_markOf (sl := sl) (x := x) (d := d + 0) (w) (z32) (by omega) (by omega)) (Or.inr (fun _ _ _ _ _ hq => by have h1 := hq.1; omega)) (fun k9 v9 T9 E35 nx9 kc9 ks9 hq34 hk9 hs9 => ?_)
                        obtain ⟨rfl, rfl, rfl, rfl, z36, rfl, hz36⟩ := hq34
                        obtain rfl : kc = kc9 := by omega
                        obtain rfl : ks = ks9 := by omega
                        refine Or.inr (Or.inl ⟨rfl, ?_⟩)
                        refine w_const (n := 0) (npc := 108) rfl ?_
                        refine w_ast (i := 86) (k := 2) (n := 300) (npc := 109) rfl (hI54.pl (by decide)) (hI54.T (by decide) rfl) (by decide) (by omega) (cm_af2 (by omega)) ?_
                        have hI38 := hI54.puti (i := 86) (k := (z36 : Int).toNat) (z := 0) (lo := 0) (hi := 1) (by decide) rfl (by omega)
                        have hF40 := cm_fr.up (i := 86) (k := (z36 : Int).toNat) (v := ai_i 0) hF54 (by first | (simp; done) | (simp; omega) | (intro i k h; (try simp only at h); (try simp only); omega))
                        have hR41 := rl.wr (i := 86) (k := (z36 : Int).toNat) (v := ai_i 0) hR54 (by simp)
                        generalize hE39 : cm_up Eq54 86 (z36 : Int).toNat (ai_i 0) = E37 at hI38 hF40 hR41  ⊢
                        have hz42 : E37 86 (z36 : Int).toNat = ai_i 0 := by rw [← hE39, cm_up_eq]
                        have ghz42 := gv_eq hz42
                        refine w_iinc (i := 3) (n := (-1)) (npc := 112) (loc' := [cr 81, ai_i p, ai_i w, ai_i (n + (-1))]) rfl rfl (by omega) rfl ?_
                        refine w_goto (pt := 54) rfl ?_
                        exact ih54 (n + (-1)) E37 (by omega) hI38 hF40 hR41 (by omega)
              exact loop54 _ (z9) Eq21 (Nat.lt_succ_self _) hI21 hF21 hR21 (by omega)
            · replace hc6 : ¬ (n < (1 : Int)) := hc6
              refine w_aload (i := 0) (npc := 27) rfl rfl rfl ?_
              refine w_getf (i := 81) (ci := 8) (k := 6) (npc := 30) rfl (hI21.pl (by decide)) (hI21.T (by decide) rfl) (by decide) (hI21.ref 81 6 (p := 86) (by decide) (by decide) rfl) ?_
              refine w_iload (i := 2) (npc := 31) rfl rfl ?_
              refine w_iload (i := 3) (npc := 32) rfl rfl ?_
              refine w_call (npc := 35) (a := [ai_i w, ai_i n]) (rest := [cr 86]) rfl rfl rfl rfl rfl (ct_m_markOf (sl := sl) (x := x) (d := d + 0) (w) (n) (by omega) (by omega)) (Or.inr (fun _ _ _ _ _ hq => by have h1 := hq.1; omega)) (fun k9 v9 T9 E45 nx9 kc9 ks9 hq44 hk9 hs9 => ?_)
              obtain ⟨rfl, rfl, rfl, rfl, z46, rfl, hz46⟩ := hq44
              obtain rfl : kc = kc9 := by omega
              obtain rfl : ks = ks9 := by omega
              refine Or.inr (Or.inl ⟨rfl, ?_⟩)
              refine w_const (n := 1) (npc := 36) rfl ?_
              refine w_ast (i := 86) (k := 2) (n := 300) (npc := 37) rfl (hI21.pl (by decide)) (hI21.T (by decide) rfl) (by decide) (by omega) (cm_af2 (by omega)) ?_
              have hI48 := hI21.puti (i := 86) (k := (z46 : Int).toNat) (z := 1) (lo := 0) (hi := 1) (by decide) rfl (by omega)
              have hF50 := cm_fr.up (i := 86) (k := (z46 : Int).toNat) (v := ai_i 1) hF21 (by first | (simp; done) | (simp; omega) | (intro i k h; (try simp only at h); (try simp only); omega))
              have hR51 := rl.wr (i := 86) (k := (z46 : Int).toNat) (v := ai_i 1) hR21 (by simp)
              generalize hE49 : cm_up Eq21 86 (z46 : Int).toNat (ai_i 1) = E47 at hI48 hF50 hR51  ⊢
              have hz52 : E47 86 (z46 : Int).toNat = ai_i 1 := by rw [← hE49, cm_up_eq]
              have ghz52 := gv_eq hz52
              refine w_iinc (i := 3) (n := (-1)) (npc := 40) (loc' := [cr 81, ai_i p, ai_i w, ai_i (n + (-1))]) rfl rfl (by omega) rfl ?_
              refine w_goto (pt := 21) rfl ?_
              exact ih21 (n + (-1)) E47 (by omega) hI48 hF50 hR51 (by omega)
        exact loop21 _ (z5) Eq2 (Nat.lt_succ_self _) hI2 hF2 hR2 (by omega)
  exact loop2 _ (0) (ai_un) E (Nat.lt_succ_self _) hI hF hR (by omega)
set_option maxRecDepth 16384 in
theorem ct_m_tellMove {sl : Int × Int} {x : ai_E} {d : Nat} {T : cm_T} {E : cm_E} {nx : Nat} (p r : Int) (hI : cs_I T E nx) (hp0 : 0 ≤ p ∧ p ≤ 4) (hp1 : 0 ≤ r ∧ r ≤ 1499) (hp2 : gv E 82 (166 * r + 9).toNat ≤ 6) : cm_ct (ai_ev sl (d + 6)) x 216 [cr 81, ai_i p, ai_i r] T E nx 0 0 (fun rk rv T' E' nx' => rk = 0 ∧ T = T' ∧ nx = nx' ∧ cs_I T E' nx ∧ cm_fr (fun i k => i = 88 ∨ i = 89) E E' ∧ (True)) := by
  refine cm_body (M := ai_m216) rfl rfl (fun kc ks => ?_)
  show cm_wp (ai_find ai_c216 sl) (ai_ev sl (d + 5)) x (kc + 0) (ks + 0) _ 0 [cr 81, ai_i p, ai_i r, ai_un, ai_un] [] T E nx kc ks
  have hF : cm_fr (fun i k => i = 88 ∨ i = 89) E E := fun _ _ _ => rfl
  refine w_const (n := 0) (npc := 1) rfl ?_
  refine w_istore (i := 3) (npc := 2) (loc' := [cr 81, ai_i p, ai_i r, ai_i 0, ai_un]) rfl rfl ?_
  have loop2 : ∀ (nf : Nat) (i : Int) (u2_4 : ai_V) (Eq2 : cm_E), ((6 - i).toNat) < nf → cs_I T Eq2 nx → cm_fr (fun i k => i = 88 ∨ i = 89) E Eq2 → (0 ≤ i ∧ i ≤ 6) → cm_wp (ai_find ai_c216 sl) (ai_ev sl (d + 5)) x (kc + 0) (ks + 0) (fun rk rv T' E' nx' => rk = 0 ∧ T = T' ∧ nx = nx' ∧ cs_I T E' nx ∧ cm_fr (fun i k => i = 88 ∨ i = 89) E E' ∧ (True)) 2 [cr 81, ai_i p, ai_i r, ai_i i, u2_4] [] T Eq2 nx kc ks := by
    intro nf
    induction nf with
    | zero => intro i u2_4 Eq2 hm; exact absurd hm (Nat.not_lt_zero _)
    | succ nf2 ih =>
      intro i u2_4 Eq2 hm2 hI2 hF2 hv2
      have ih2 := ih; clear ih
      refine w_iload (i := 3) (npc := 3) rfl rfl ?_
      refine w_aload (i := 0) (npc := 4) rfl rfl rfl ?_
      refine w_iload (i := 2) (npc := 5) rfl rfl ?_
      refine w_const (n := 9) (npc := 7) rfl ?_
      refine w_virt (ci := 8) (i := 81) (npc := 10) (a := [cr 81, ai_i r, ai_i 9]) (rest := [ai_i i]) rfl rfl (hI2.pl (by decide)) (hI2.T (by decide) rfl) rfl rfl rfl rfl (ct_m_of (sl := sl) (x := x) (d := d + 4) (r) (9) hI2 (by omega) (by omega) (by omega)) (Or.inl rfl) (fun k9 v9 T9 E2 nx9 kc9 ks9 hq1 hk9 hs9 => ?_)
      obtain ⟨rfl, rfl, rfl, rfl, z3, rfl, hz3⟩ := hq1
      obtain rfl : kc = kc9 := by omega
      obtain rfl : ks = ks9 := by omega
      refine Or.inr (Or.inl ⟨rfl, ?_⟩)
      have hl4 : gv E 82 (166 * r + 9).toNat = gv Eq2 82 (166 * r + 9).toNat := gv_fr hF2 (by simp)
      refine w_icmp (c := .ge) (npc := 13) (pt := 100) rfl (fun hc5 => ?_) (fun hc5 => ?_)
      · replace hc5 : z3 ≤ i := hc5
        exact w_vret rfl (⟨rfl, rfl, rfl, hI2, hF2, trivial⟩) (by omega) (by omega)
      · replace hc5 : ¬ (z3 ≤ i) := hc5
        refine w_aload (i := 0) (npc := 14) rfl rfl rfl ?_
        refine w_iload (i := 1) (npc := 15) rfl rfl ?_
        refine w_aload (i := 0) (npc := 16) rfl rfl rfl ?_
        refine w_iload (i := 2) (npc := 17) rfl rfl ?_
        refine w_const (n := 10) (npc := 19) rfl ?_
        refine w_const (n := 26) (npc := 21) rfl ?_
        refine w_iload (i := 3) (npc := 22) rfl rfl ?_
        refine w_imul (npc := 23) rfl (by omega) ?_
        refine w_iadd (npc := 24) rfl (by omega) ?_
        refine w_virt (ci := 8) (i := 81) (npc := 27) (a := [cr 81, ai_i r, ai_i (10 + (26 * i))]) (rest := [ai_i p, cr 81]) rfl rfl (hI2.pl (by decide)) (hI2.T (by decide) rfl) rfl rfl rfl rfl (ct_m_of (sl := sl) (x := x) (d := d + 4) (r) (10 + (26 * i)) hI2 (by omega) (by omega) (by omega)) (Or.inl rfl) (fun k9 v9 T9 E9 nx9 kc9 ks9 hq8 hk9 hs9 => ?_)
        obtain ⟨rfl, rfl, rfl, rfl, z10, rfl, hz10⟩ := hq8
        obtain rfl : kc = kc9 := by omega
        obtain rfl : ks = ks9 := by omega
        refine Or.inr (Or.inl ⟨rfl, ?_⟩)
        have hl11 : gv E 82 (166 * r + (10 + (26 * i))).toNat = gv Eq2 82 (166 * r + (10 + (26 * i))).toNat := gv_fr hF2 (by simp)
        refine w_virt (ci := 8) (i := 81) (npc := 30) (a := [cr 81, ai_i p, ai_i z10]) (rest := []) rfl rfl (hI2.pl (by decide)) (hI2.T (by decide) rfl) rfl rfl rfl rfl (ct_m_setNamed (sl := sl) (x := x) (d := d + 0) (p) (z10) hI2 (by omega) (by omega)) (Or.inl rfl) (fun k9 v9 T9 E13 nx9 kc9 ks9 hq12 hk9 hs9 => ?_)
        obtain ⟨rfl, rfl, rfl, rfl, z14, rfl, hz14⟩ := hq12
        obtain rfl : kc = kc9 := by omega
        obtain rfl : ks = ks9 := by omega
        refine Or.inr (Or.inl ⟨rfl, ?_⟩)
        refine w_istore (i := 4) (npc := 32) (loc' := [cr 81, ai_i p, ai_i r, ai_i i, ai_i z14]) rfl rfl ?_
        refine w_iload (i := 4) (npc := 34) rfl rfl ?_
        refine w_const (n := (-1)) (npc := 35) rfl ?_
        refine w_icmp (c := .eq) (npc := 38) (pt := 94) rfl (fun hc15 => ?_) (fun hc15 => ?_)
        · replace hc15 : z14 = ((-1) : Int) := hc15
          refine w_iinc (i := 3) (n := 1) (npc := 97) (loc' := [cr 81, ai_i p, ai_i r, ai_i (i + 1), ai_i z14]) rfl rfl (by omega) rfl ?_
          refine w_goto (pt := 2) rfl ?_
          exact ih2 (i + 1) (ai_i z14) Eq2 (by omega) hI2 hF2 (by omega)
        · replace hc15 : ¬ (z14 = ((-1) : Int)) := hc15
          refine w_aload (i := 0) (npc := 39) rfl rfl rfl ?_
          refine w_iload (i := 2) (npc := 40) rfl rfl ?_
          refine w_const (n := 8) (npc := 42) rfl ?_
          refine w_virt (ci := 8) (i := 81) (npc := 45) (a := [cr 81, ai_i r, ai_i 8]) (rest := []) rfl rfl (hI2.pl (by decide)) (hI2.T (by decide) rfl) rfl rfl rfl rfl (ct_m_of (sl := sl) (x := x) (d := d + 4) (r) (8) hI2 (by omega) (by omega) (by omega)) (Or.inl rfl) (fun k9 v9 T9 E18 nx9 kc9 ks9 hq17 hk9 hs9 => ?_)
          obtain ⟨rfl, rfl, rfl, rfl, z19, rfl, hz19⟩ := hq17
          obtain rfl : kc = kc9 := by omega
          obtain rfl : ks = ks9 := by omega
          refine Or.inr (Or.inl ⟨rfl, ?_⟩)
          have hl20 : gv E 82 (166 * r + 8).toNat = gv Eq2 82 (166 * r + 8).toNat := gv_fr hF2 (by simp)
          refine w_aload (i := 0) (npc := 46) rfl rfl rfl ?_
          refine w_getf (i := 81) (ci := 8) (k := 9) (npc := 49) rfl (hI2.pl (by decide)) (hI2.T (by decide) rfl) (by decide) (hI2.ref 81 9 (p := 89) (by decide) (by decide) rfl) ?_
          refine w_iload (i := 4) (npc := 51) rfl rfl ?_
          obtain ⟨z21, hz21, hz21a, hz21b⟩ := hI2.int 89 (z14 : Int).toNat (lo := 0) (hi := 65540) (by decide) (show (z14 : Int).toNat < 300 by omega) rfl
          have ghz21 := gv_eq hz21
          refine w_ald (i := 89) (t := 1) (n := 300) (npc := 52) rfl (hI2.pl (by decide)) (hI2.T (by decide) rfl) (by decide) rfl (by omega) hz21 ?_
          refine w_icmp (c := .ge) (npc := 55) (pt := 58) rfl (fun hc22 => ?_) (fun hc22 => ?_)
          · replace hc22 : z21 ≤ z19 := hc22
            refine w_aload (i := 0) (npc := 59) rfl rfl rfl ?_
            refine w_getf (i := 81) (ci := 8) (k := 9) (npc := 62) rfl (hI2.pl (by decide)) (hI2.T (by decide) rfl) (by decide) (hI2.ref 81 9 (p := 89) (by decide) (by decide) rfl) ?_
            refine w_iload (i := 4) (npc := 64) rfl rfl ?_
            refine w_aload (i := 0) (npc := 65) rfl rfl rfl ?_
            refine w_iload (i := 2) (npc := 66) rfl rfl ?_
            refine w_const (n := 8) (npc := 68) rfl ?_
            refine w_virt (ci := 8) (i := 81) (npc := 71) (a := [cr 81, ai_i r, ai_i 8]) (rest := [ai_i z14, cr 89]) rfl rfl (hI2.pl (by decide)) (hI2.T (by decide) rfl) rfl rfl rfl rfl (ct_m_of (sl := sl) (x := x) (d := d + 4) (r) (8) hI2 (by omega) (by omega) (by omega)) (Or.inl rfl) (fun k9 v9 T9 E24 nx9 kc9 ks9 hq23 hk9 hs9 => ?_)
            obtain ⟨rfl, rfl, rfl, rfl, z25, rfl, hz25⟩ := hq23
            obtain rfl : kc = kc9 := by omega
            obtain rfl : ks = ks9 := by omega
            refine Or.inr (Or.inl ⟨rfl, ?_⟩)
            have hl26 : gv E 82 (166 * r + 8).toNat = gv Eq2 82 (166 * r + 8).toNat := gv_fr hF2 (by simp)
            refine w_ast (i := 89) (k := 1) (n := 300) (npc := 72) rfl (hI2.pl (by decide)) (hI2.T (by decide) rfl) (by decide) (by omega) cm_af1 ?_
            have hI28 := hI2.puti (i := 89) (k := (z14 : Int).toNat) (z := z25) (lo := 0) (hi := 65540) (by decide) rfl (by omega)
            have hF30 := cm_fr.up (i := 89) (k := (z14 : Int).toNat) (v := ai_i z25) hF2 (by first | (simp; done) | (simp; omega) | (intro i k h; (try simp only at h); (try simp only); omega))
            generalize hE29 : cm_up Eq2 89 (z14 : Int).toNat (ai_i z25) = E27 at hI28 hF30   ⊢
            have hz31 : E27 89 (z14 : Int).toNat = ai_i z25 := by rw [← hE29, cm_up_eq]
            have ghz31 := gv_eq hz31
            refine w_aload (i := 0) (npc := 73) rfl rfl rfl ?_
            refine w_getf (i := 81) (ci := 8) (k := 8) (npc := 76) rfl (hI28.pl (by decide)) (hI28.T (by decide) rfl) (by decide) (hI28.ref 81 8 (p := 88) (by decide) (by decide) rfl) ?_
            refine w_iload (i := 4) (npc := 78) rfl rfl ?_
            refine w_const (n := 166) (npc := 81) rfl ?_
            refine w_iload (i := 2) (npc := 82) rfl rfl ?_
            refine w_imul (npc := 83) rfl (by omega) ?_
            refine w_const (n := 10) (npc := 85) rfl ?_
            refine w_iadd (npc := 86) rfl (by omega) ?_
            refine w_const (n := 26) (npc := 88) rfl ?_
            refine w_iload (i := 3) (npc := 89) rfl rfl ?_
            refine w_imul (npc := 90) rfl (by omega) ?_
            refine w_iadd (npc := 91) rfl (by omega) ?_
            refine w_const (n := 1) (npc := 92) rfl ?_
            refine w_iadd (npc := 93) rfl (by omega) ?_
            refine w_ast (i := 88) (k := 1) (n := 300) (npc := 94) rfl (hI28.pl (by decide)) (hI28.T (by decide) rfl) (by decide) (by omega) cm_af1 ?_
            have hI38 := hI28.puti (i := 88) (k := (z14 : Int).toNat) (z := 166 * r + 10 + (26 * i) + 1) (lo := 0) (hi := 249000) (by decide) rfl (by omega)
            have hF40 := cm_fr.up (i := 88) (k := (z14 : Int).toNat) (v := ai_i (166 * r + 10 + (26 * i) + 1)) hF30 (by first | (simp; done) | (simp; omega) | (intro i k h; (try simp only at h); (try simp only); omega))
            generalize hE39 : cm_up E27 88 (z14 : Int).toNat (ai_i (166 * r + 10 + (26 * i) + 1)) = E37 at hI38 hF40   ⊢
            have hz41 : E37 89 (z14 : Int).toNat = ai_i z25 := by rw [← hE39, cm_up_nei _ _ (by decide)]; exact hz31
            have ghz41 := gv_eq hz41
            have hz42 : E37 88 (z14 : Int).toNat = ai_i (166 * r + 10 + (26 * i) + 1) := by rw [← hE39, cm_up_eq]
            have ghz42 := gv_eq hz42
            refine w_iinc (i := 3) (n := 1) (npc := 97) (loc' := [cr 81, ai_i p, ai_i r, ai_i (i + 1), ai_i z14]) rfl rfl (by omega) rfl ?_
            refine w_goto (pt := 2) rfl ?_
            exact ih2 (i + 1) (ai_i z14) E37 (by omega) hI38 hF40 (by omega)
          · replace hc22 : ¬ (z21 ≤ z19) := hc22
            refine w_goto (pt := 94) rfl ?_
            refine w_iinc (i := 3) (n := 1) (npc := 97) (loc' := [cr 81, ai_i p, ai_i r, ai_i (i + 1), ai_i z14]) rfl rfl (by omega) rfl ?_
            refine w_goto (pt := 2) rfl ?_
            exact ih2 (i + 1) (ai_i z14) Eq2 (by omega) hI2 hF2 (by omega)
  exact loop2 _ (0) (ai_un) E (Nat.lt_succ_self _) hI hF (by omega)
set_option maxRecDepth 16384 in
theorem ct_m_layMark {sl : Int × Int} {x : ai_E} {d : Nat} {T : cm_T} {E : cm_E} {nx : Nat} (a : Int) (hI : cs_I T E nx) (hp0 : 0 ≤ a ∧ a ≤ 299) (hp1 : gv E 81 12 ≤ 299) : cm_ct (ai_ev sl (d + 2)) x 181 [cr 81, ai_i a] T E nx 0 0 (fun rk rv T' E' nx' => rk = 0 ∧ T = T' ∧ nx = nx' ∧ cs_I T E' nx ∧ cm_fr (fun i k => (i = 81 ∧ (k = 12)) ∨ i = 90) E E' ∧ (gv E' 81 12 = gv E 81 12 + 1)) := by
  refine cm_body (M := ai_m181) rfl rfl (fun kc ks => ?_)
  show cm_wp (ai_find ai_c181 sl) (ai_ev sl (d + 1)) x (kc + 0) (ks + 0) _ 0 [cr 81, ai_i a, ai_un] [] T E nx kc ks
  have hF : cm_fr (fun i k => (i = 81 ∧ (k = 12)) ∨ i = 90) E E := fun _ _ _ => rfl
  refine w_aload (i := 0) (npc := 1) rfl rfl rfl ?_
  obtain ⟨z1, hz1, hz1a, hz1b⟩ := hI.int 81 12 (lo := 0) (hi := 300) (by decide) (by decide) rfl
  have ghz1 := gv_eq hz1
  refine w_getf (i := 81) (ci := 8) (k := 12) (npc := 4) rfl (hI.pl (by decide)) (hI.T (by decide) rfl) (by decide) hz1 ?_
  refine w_istore (i := 2) (npc := 5) (loc' := [cr 81, ai_i a, ai_i z1]) rfl rfl ?_
  have loop5 : ∀ (nf : Nat) (k : Int) (Eq5 : cm_E), (k.toNat) < nf → cs_I T Eq5 nx → cm_fr (fun i k => (i = 81 ∧ (k = 12)) ∨ i = 90) E Eq5 → (0 ≤ k ∧ k ≤ 299 ∧ gv Eq5 81 12 = gv E 81 12) → cm_wp (ai_find ai_c181 sl) (ai_ev sl (d + 1)) x (kc + 0) (ks + 0) (fun rk rv T' E' nx' => rk = 0 ∧ T = T' ∧ nx = nx' ∧ cs_I T E' nx ∧ cm_fr (fun i k => (i = 81 ∧ (k = 12)) ∨ i = 90) E E' ∧ (gv E' 81 12 = gv E 81 12 + 1)) 5 [cr 81, ai_i a, ai_i k] [] T Eq5 nx kc ks := by
    intro nf
    induction nf with
    | zero => intro k Eq5 hm; exact absurd hm (Nat.not_lt_zero _)
    | succ nf5 ih =>
      intro k Eq5 hm5 hI5 hF5 hv5
      obtain ⟨z2, hz2, hz2a, hz2b⟩ := hI5.int 81 12 (lo := 0) (hi := 300) (by decide) (by decide) rfl
      have ghz2 := gv_eq hz2
      have ih5 := ih; clear ih
      refine w_iload (i := 2) (npc := 6) rfl rfl ?_
      refine w_if (c := .le) (npc := 9) (pt := 55) rfl (fun hc3 => ?_) (fun hc3 => ?_)
      · replace hc3 : k ≤ (0 : Int) := hc3
        refine w_aload (i := 0) (npc := 56) rfl rfl rfl ?_
        refine w_getf (i := 81) (ci := 8) (k := 10) (npc := 59) rfl (hI5.pl (by decide)) (hI5.T (by decide) rfl) (by decide) (hI5.ref 81 10 (p := 90) (by decide) (by decide) rfl) ?_
        refine w_iload (i := 2) (npc := 60) rfl rfl ?_
        refine w_iload (i := 1) (npc := 61) rfl rfl ?_
        refine w_ast (i := 90) (k := 1) (n := 300) (npc := 62) rfl (hI5.pl (by decide)) (hI5.T (by decide) rfl) (by decide) (by omega) cm_af1 ?_
        have hI5 := hI5.puti (i := 90) (k := (k : Int).toNat) (z := a) (lo := 0) (hi := 299) (by decide) rfl (by omega)
        have hF7 := cm_fr.up (i := 90) (k := (k : Int).toNat) (v := ai_i a) hF5 (by first | (simp; done) | (simp; omega) | (intro i k h; (try simp only at h); (try simp only); omega))
        generalize hE6 : cm_up Eq5 90 (k : Int).toNat (ai_i a) = E4 at hI5 hF7   ⊢
        have hz8 : E4 81 12 = ai_i z2 := by rw [← hE6, cm_up_nei _ _ (by decide)]; exact hz2
        have ghz8 := gv_eq hz8
        have hz9 : E4 90 (k : Int).toNat = ai_i a := by rw [← hE6, cm_up_eq]
        have ghz9 := gv_eq hz9
        refine w_aload (i := 0) (npc := 63) rfl rfl rfl ?_
        refine w_dup (npc := 64) rfl rfl ?_
        refine w_getf (i := 81) (ci := 8) (k := 12) (npc := 67) rfl (hI5.pl (by decide)) (hI5.T (by decide) rfl) (by decide) hz8 ?_
        refine w_const (n := 1) (npc := 68) rfl ?_
        refine w_iadd (npc := 69) rfl (by omega) ?_
        refine w_putf (i := 81) (ci := 8) (k := 12) (t := 0) (npc := 72) rfl (hI5.pl (by decide)) (hI5.T (by decide) rfl) (by decide) cm_fit0 ?_
        have hI12 := hI5.puti (i := 81) (k := 12) (z := z2 + 1) (lo := 0) (hi := 300) (by decide) rfl (by omega)
        have hF14 := cm_fr.up (i := 81) (k := 12) (v := ai_i (z2 + 1)) hF7 (by first | (simp; done) | (simp; omega) | (intro i k h; (try simp only at h); (try simp only); omega))
        generalize hE13 : cm_up E4 81 12 (ai_i (z2 + 1)) = E11 at hI12 hF14   ⊢
        have hz15 : E11 90 (k : Int).toNat = ai_i a := by rw [← hE13, cm_up_nei _ _ (by decide)]; exact hz9
        have ghz15 := gv_eq hz15
        have hz16 : E11 81 12 = ai_i (z2 + 1) := by rw [← hE13, cm_up_eq]
        have ghz16 := gv_eq hz16
        exact w_vret rfl (⟨rfl, rfl, rfl, hI12, hF14, by omega⟩) (by omega) (by omega)
      · replace hc3 : ¬ (k ≤ (0 : Int)) := hc3
        refine w_aload (i := 0) (npc := 10) rfl rfl rfl ?_
        refine w_aload (i := 0) (npc := 11) rfl rfl rfl ?_
        refine w_getf (i := 81) (ci := 8) (k := 8) (npc := 14) rfl (hI5.pl (by decide)) (hI5.T (by decide) rfl) (by decide) (hI5.ref 81 8 (p := 88) (by decide) (by decide) rfl) ?_
        refine w_aload (i := 0) (npc := 15) rfl rfl rfl ?_
        refine w_getf (i := 81) (ci := 8) (k := 10) (npc := 18) rfl (hI5.pl (by decide)) (hI5.T (by decide) rfl) (by decide) (hI5.ref 81 10 (p := 90) (by decide) (by decide) rfl) ?_
        refine w_iload (i := 2) (npc := 19) rfl rfl ?_
        refine w_const (n := 1) (npc := 20) rfl ?_
        refine w_isub (npc := 21) rfl (by omega) ?_
        obtain ⟨z18, hz18, hz18a, hz18b⟩ := hI5.int 90 (k - 1 : Int).toNat (lo := 0) (hi := 299) (by decide) (show (k - 1 : Int).toNat < 300 by omega) rfl
        have ghz18 := gv_eq hz18
        refine w_ald (i := 90) (t := 1) (n := 300) (npc := 22) rfl (hI5.pl (by decide)) (hI5.T (by decide) rfl) (by decide) rfl (by omega) hz18 ?_
        obtain ⟨z19, hz19, hz19a, hz19b⟩ := hI5.int 88 (z18 : Int).toNat (lo := 0) (hi := 249000) (by decide) (show (z18 : Int).toNat < 300 by omega) rfl
        have ghz19 := gv_eq hz19
        have g0hz19 : gv E 88 (z18 : Int).toNat = z19 := (gv_fr hF5 (by simp)).trans ghz19
        refine w_ald (i := 88) (t := 1) (n := 300) (npc := 23) rfl (hI5.pl (by decide)) (hI5.T (by decide) rfl) (by decide) rfl (by omega) hz19 ?_
        refine w_aload (i := 0) (npc := 24) rfl rfl rfl ?_
        refine w_getf (i := 81) (ci := 8) (k := 8) (npc := 27) rfl (hI5.pl (by decide)) (hI5.T (by decide) rfl) (by decide) (hI5.ref 81 8 (p := 88) (by decide) (by decide) rfl) ?_
        refine w_iload (i := 1) (npc := 28) rfl rfl ?_
        obtain ⟨z20, hz20, hz20a, hz20b⟩ := hI5.int 88 (a : Int).toNat (lo := 0) (hi := 249000) (by decide) (show (a : Int).toNat < 300 by omega) rfl
        have ghz20 := gv_eq hz20
        have g0hz20 : gv E 88 (a : Int).toNat = z20 := (gv_fr hF5 (by simp)).trans ghz20
        refine w_ald (i := 88) (t := 1) (n := 300) (npc := 29) rfl (hI5.pl (by decide)) (hI5.T (by decide) rfl) (by decide) rfl (by omega) hz20 ?_
        refine w_virt (ci := 8) (i := 81) (npc := 32) (a := [cr 81, ai_i z19, ai_i z20]) (rest := []) rfl rfl (hI5.pl (by decide)) (hI5.T (by decide) rfl) rfl rfl rfl rfl (ct_m_compare (sl := sl) (x := x) (d := d + 0) (z19) (z20) hI5 (by omega) (by omega)) (Or.inl rfl) (fun k9 v9 T9 E22 nx9 kc9 ks9 hq21 hk9 hs9 => ?_)
        obtain ⟨rfl, rfl, rfl, rfl, z23, rfl, hz23⟩ := hq21
        obtain rfl : kc = kc9 := by omega
        obtain rfl : ks = ks9 := by omega
        refine Or.inr (Or.inl ⟨rfl, ?_⟩)
        refine w_if (c := .le) (npc := 35) (pt := 55) rfl (fun hc24 => ?_) (fun hc24 => ?_)
        · replace hc24 : z23 ≤ (0 : Int) := hc24
          refine w_aload (i := 0) (npc := 56) rfl rfl rfl ?_
          refine w_getf (i := 81) (ci := 8) (k := 10) (npc := 59) rfl (hI5.pl (by decide)) (hI5.T (by decide) rfl) (by decide) (hI5.ref 81 10 (p := 90) (by decide) (by decide) rfl) ?_
          refine w_iload (i := 2) (npc := 60) rfl rfl ?_
          refine w_iload (i := 1) (npc := 61) rfl rfl ?_
          refine w_ast (i := 90) (k := 1) (n := 300) (npc := 62) rfl (hI5.pl (by decide)) (hI5.T (by decide) rfl) (by decide) (by omega) cm_af1 ?_
          have hI26 := hI5.puti (i := 90) (k := (k : Int).toNat) (z := a) (lo := 0) (hi := 299) (by decide) rfl (by omega)
          have hF28 := cm_fr.up (i := 90) (k := (k : Int).toNat) (v := ai_i a) hF5 (by first | (simp; done) | (simp; omega) | (intro i k h; (try simp only at h); (try simp only); omega))
          generalize hE27 : cm_up Eq5 90 (k : Int).toNat (ai_i a) = E25 at hI26 hF28   ⊢
          have hz29 : E25 81 12 = ai_i z2 := by rw [← hE27, cm_up_nei _ _ (by decide)]; exact hz2
          have ghz29 := gv_eq hz29
          have hz30 : E25 88 (z18 : Int).toNat = ai_i z19 := by rw [← hE27, cm_up_nei _ _ (by decide)]; exact hz19
          have ghz30 := gv_eq hz30
          have hz31 : E25 88 (a : Int).toNat = ai_i z20 := by rw [← hE27, cm_up_nei _ _ (by decide)]; exact hz20
          have ghz31 := gv_eq hz31
          have hz32 : E25 90 (k : Int).toNat = ai_i a := by rw [← hE27, cm_up_eq]
          have ghz32 := gv_eq hz32
          refine w_aload (i := 0) (npc := 63) rfl rfl rfl ?_
          refine w_dup (npc := 64) rfl rfl ?_
          refine w_getf (i := 81) (ci := 8) (k := 12) (npc := 67) rfl (hI26.pl (by decide)) (hI26.T (by decide) rfl) (by decide) hz29 ?_
          refine w_const (n := 1) (npc := 68) rfl ?_
          refine w_iadd (npc := 69) rfl (by omega) ?_
          refine w_putf (i := 81) (ci := 8) (k := 12) (t := 0) (npc := 72) rfl (hI26.pl (by decide)) (hI26.T (by decide) rfl) (by decide) cm_fit0 ?_
          have hI35 := hI26.puti (i := 81) (k := 12) (z := z2 + 1) (lo := 0) (hi := 300) (by decide) rfl (by omega)
          have hF37 := cm_fr.up (i := 81) (k := 12) (v := ai_i (z2 + 1)) hF28 (by first | (simp; done) | (simp; omega) | (intro i k h; (try simp only at h); (try simp only); omega))
          generalize hE36 : cm_up E25 81 12 (ai_i (z2 + 1)) = E34 at hI35 hF37   ⊢
          have hz38 : E34 88 (z18 : Int).toNat = ai_i z19 := by rw [← hE36, cm_up_nei _ _ (by decide)]; exact hz30
          have ghz38 := gv_eq hz38
          have hz39 : E34 88 (a : Int).toNat = ai_i z20 := by rw [← hE36, cm_up_nei _ _ (by decide)]; exact hz31
          have ghz39 := gv_eq hz39
          have hz40 : E34 90 (k : Int).toNat = ai_i a := by rw [← hE36, cm_up_nei _ _ (by decide)]; exact hz32
          have ghz40 := gv_eq hz40
          have hz41 : E34 81 12 = ai_i (z2 + 1) := by rw [← hE36, cm_up_eq]
          have ghz41 := gv_eq hz41
          exact w_vret rfl (⟨rfl, rfl, rfl, hI35, hF37, by omega⟩) (by omega) (by omega)
        · replace hc24 : ¬ (z23 ≤ (0 : Int)) := hc24
          refine w_aload (i := 0) (npc := 36) rfl rfl rfl ?_
          refine w_getf (i := 81) (ci := 8) (k := 10) (npc := 39) rfl (hI5.pl (by decide)) (hI5.T (by decide) rfl) (by decide) (hI5.ref 81 10 (p := 90) (by decide) (by decide) rfl) ?_
          refine w_iload (i := 2) (npc := 40) rfl rfl ?_
          refine w_aload (i := 0) (npc := 41) rfl rfl rfl ?_
          refine w_getf (i := 81) (ci := 8) (k := 10) (npc := 44) rfl (hI5.pl (by decide)) (hI5.T (by decide) rfl) (by decide) (hI5.ref 81 10 (p := 90) (by decide) (by decide) rfl) ?_
          refine w_iload (i := 2) (npc := 45) rfl rfl ?_
          refine w_const (n := 1) (npc := 46) rfl ?_
          refine w_isub (npc := 47) rfl (by omega) ?_
          refine w_ald (i := 90) (t := 1) (n := 300) (npc := 48) rfl (hI5.pl (by decide)) (hI5.T (by decide) rfl) (by decide) rfl (by omega) hz18 ?_
          refine w_ast (i := 90) (k := 1) (n := 300) (npc := 49) rfl (hI5.pl (by decide)) (hI5.T (by decide) rfl) (by decide) (by omega) cm_af1 ?_
          have hI44 := hI5.puti (i := 90) (k := (k : Int).toNat) (z := z18) (lo := 0) (hi := 299) (by decide) rfl (by omega)
          have hF46 := cm_fr.up (i := 90) (k := (k : Int).toNat) (v := ai_i z18) hF5 (by first | (simp; done) | (simp; omega) | (intro i k h; (try simp only at h); (try simp only); omega))
          generalize hE45 : cm_up Eq5 90 (k : Int).toNat (ai_i z18) = E43 at hI44 hF46   ⊢
          have hz47 : E43 81 12 = ai_i z2 := by rw [← hE45, cm_up_nei _ _ (by decide)]; exact hz2
          have ghz47 := gv_eq hz47
          have hz48 : E43 88 (z18 : Int).toNat = ai_i z19 := by rw [← hE45, cm_up_nei _ _ (by decide)]; exact hz19
          have ghz48 := gv_eq hz48
          have hz49 : E43 88 (a : Int).toNat = ai_i z20 := by rw [← hE45, cm_up_nei _ _ (by decide)]; exact hz20
          have ghz49 := gv_eq hz49
          have hz50 : E43 90 (k : Int).toNat = ai_i z18 := by rw [← hE45, cm_up_eq]
          have ghz50 := gv_eq hz50
          refine w_iinc (i := 2) (n := (-1)) (npc := 52) (loc' := [cr 81, ai_i a, ai_i (k + (-1))]) rfl rfl (by omega) rfl ?_
          refine w_goto (pt := 5) rfl ?_
          exact ih5 (k + (-1)) E43 (by omega) hI44 hF46 (by omega)
  exact loop5 _ (z1) E (Nat.lt_succ_self _) hI hF (by omega)
