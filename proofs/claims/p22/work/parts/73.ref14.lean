set_option maxRecDepth 16384 in
theorem ct_m_image {sl : Int × Int} {x : ai_E} {d : Nat} {T : cm_T} {E : cm_E} {nx : Nat}  (hI : cs_I T E nx) (hR : rl E) : cm_ct (ai_ev sl (d + 3)) x 167 [cr 81] T E nx 0 0 (fun rk rv T' E' nx' => rk = 0 ∧ T = T' ∧ nx = nx' ∧ cs_I T E' nx ∧ cm_fr (fun i k => (i = 81 ∧ (k = 0 ∨ k = 34)) ∨ (i = 82 ∧ 265600 ≤ k ∧ k < 531200) ∨ i = 101 ∨ i = 102 ∨ i = 103) E E' ∧ rl E' ∧ (gv E' 81 34 = 1)) := by
  refine cm_body (M := ai_m167) rfl rfl (fun kc ks => ?_)
  show cm_wp (ai_find ai_c167 sl) (ai_ev sl (d + 2)) x (kc + 0) (ks + 0) _ 0 [cr 81, ai_un] [] T E nx kc ks
  have hF : cm_fr (fun i k => (i = 81 ∧ (k = 0 ∨ k = 34)) ∨ (i = 82 ∧ 265600 ≤ k ∧ k < 531200) ∨ i = 101 ∨ i = 102 ∨ i = 103) E E := fun _ _ _ => rfl
  refine w_aload (i := 0) (npc := 1) rfl rfl rfl ?_
  refine w_const (n := 0) (npc := 2) rfl ?_
  refine w_putf (i := 81) (ci := 8) (k := 0) (t := 0) (npc := 5) rfl (hI.pl (by decide)) (hI.T (by decide) rfl) (by decide) cm_fit0 ?_
  have hI2 := hI.puti (i := 81) (k := 0) (z := 0) (lo := 0) (hi := 2) (by decide) rfl (by omega)
  have hF4 := cm_fr.up (i := 81) (k := 0) (v := ai_i 0) hF (by first | (simp; done) | (simp; omega) | (intro i k h; (try simp only at h); (try simp only); omega))
  have hR5 := rl.wr (i := 81) (k := 0) (v := ai_i 0) hR (by simp)
  generalize hE3 : cm_up E 81 0 (ai_i 0) = E1 at hI2 hF4 hR5  ⊢
  have hz6 : E1 81 0 = ai_i 0 := by rw [← hE3, cm_up_eq]
  have ghz6 := gv_eq hz6
  refine w_aload (i := 0) (npc := 6) rfl rfl rfl ?_
  refine w_const (n := 1) (npc := 7) rfl ?_
  refine w_putf (i := 81) (ci := 8) (k := 34) (t := 1) (npc := 10) rfl (hI2.pl (by decide)) (hI2.T (by decide) rfl) (by decide) (cm_fit1 (by omega)) ?_
  have hI8 := hI2.puti (i := 81) (k := 34) (z := 1) (lo := 0) (hi := 1) (by decide) rfl (by omega)
  have hF10 := cm_fr.up (i := 81) (k := 34) (v := ai_i 1) hF4 (by first | (simp; done) | (simp; omega) | (intro i k h; (try simp only at h); (try simp only); omega))
  generalize hE9 : cm_up E1 81 34 (ai_i 1) = E7 at hI8 hF10   ⊢
  have hz11 : E7 81 0 = ai_i 0 := by rw [← hE9, cm_up_ne _ _ (by decide)]; exact hz6
  have ghz11 := gv_eq hz11
  have hz12 : E7 81 34 = ai_i 1 := by rw [← hE9, cm_up_eq]
  have ghz12 := gv_eq hz12
  refine w_aload (i := 0) (npc := 11) rfl rfl rfl ?_
  refine w_const (n := 0) (npc := 12) rfl ?_
  refine w_const (n := 1600) (npc := 15) rfl ?_
  refine w_virt (ci := 8) (i := 81) (npc := 18) (a := [cr 81, ai_i 0, ai_i 1600]) (rest := []) rfl rfl (hI8.pl (by decide)) (hI8.T (by decide) rfl) rfl rfl rfl rfl (ct_m_copyAll (sl := sl) (x := x) (d := d + 0) (0) (1600) hI8 (by omega)) (Or.inl rfl) (fun k9 v9 T9 E14 nx9 kc9 ks9 hq13 hk9 hs9 => ?_)
  obtain ⟨rfl, rfl, rfl, hI16, hG17, hz15⟩ := hq13
  obtain rfl : kc = kc9 := by omega
  obtain rfl : ks = ks9 := by omega
  have hF18 := cm_fr.trans hF10 hG17 (by first | (simp; done) | (simp; omega) | (intro i k h; (try simp only at h); (try simp only); omega))
  have hz19 : E14 81 0 = ai_i 0 := (hG17 81 0 (by simp)).trans hz11
  have ghz19 := gv_eq hz19
  have hz20 : E14 81 34 = ai_i 1 := (hG17 81 34 (by simp)).trans hz12
  have ghz20 := gv_eq hz20
  refine Or.inl ⟨rfl, ?_⟩
  refine w_const (n := 0) (npc := 19) rfl ?_
  refine w_istore (i := 1) (npc := 20) (loc' := [cr 81, ai_i 0]) rfl rfl ?_
  have loop20 : ∀ (nf : Nat) (i : Int) (Eq20 : cm_E), ((25 - i).toNat) < nf → cs_I T Eq20 nx → cm_fr (fun i k => (i = 81 ∧ (k = 0 ∨ k = 34)) ∨ (i = 82 ∧ 265600 ≤ k ∧ k < 531200) ∨ i = 101 ∨ i = 102 ∨ i = 103) E Eq20 → (0 ≤ i ∧ i ≤ 25 ∧ gv Eq20 81 34 = 1 ∧ (∀ r k : Int, 0 ≤ r → r < 1600 → 0 ≤ k → k < 166 → gv Eq20 82 (166 * (1600 + r) + k).toNat = gv E 82 (166 * (0 + r) + k).toNat) ∧ (∀ k : Int, 0 ≤ k → k < i → gv Eq20 101 k.toNat = gv E 83 k.toNat)) → cm_wp (ai_find ai_c167 sl) (ai_ev sl (d + 2)) x (kc + 0) (ks + 0) (fun rk rv T' E' nx' => rk = 0 ∧ T = T' ∧ nx = nx' ∧ cs_I T E' nx ∧ cm_fr (fun i k => (i = 81 ∧ (k = 0 ∨ k = 34)) ∨ (i = 82 ∧ 265600 ≤ k ∧ k < 531200) ∨ i = 101 ∨ i = 102 ∨ i = 103) E E' ∧ rl E' ∧ (gv E' 81 34 = 1)) 20 [cr 81, ai_i i] [] T Eq20 nx kc ks := by
    intro nf
    induction nf with
    | zero => intro i Eq20 hm; exact absurd hm (Nat.not_lt_zero _)
    | succ nf20 ih =>
      intro i Eq20 hm20 hI20 hF20 hv20
      obtain ⟨z21, hz21, hz21a, hz21b⟩ := hI20.int 81 34 (lo := 0) (hi := 1) (by decide) (by decide) rfl
      have ghz21 := gv_eq hz21
      have ih20 := ih; clear ih
      refine w_iload (i := 1) (npc := 21) rfl rfl ?_
      refine w_const (n := 25) (npc := 23) rfl ?_
      refine w_icmp (c := .ge) (npc := 26) (pt := 44) rfl (fun hc22 => ?_) (fun hc22 => ?_)
      · replace hc22 : (25 : Int) ≤ i := hc22
        refine w_const (n := 0) (npc := 45) rfl ?_
        refine w_istore (i := 1) (npc := 46) (loc' := [cr 81, ai_i 0]) rfl rfl ?_
        have loop46 : ∀ (nf : Nat) (i : Int) (Eq46 : cm_E), ((5 - i).toNat) < nf → cs_I T Eq46 nx → cm_fr (fun i k => (i = 81 ∧ (k = 0 ∨ k = 34)) ∨ (i = 82 ∧ 265600 ≤ k ∧ k < 531200) ∨ i = 101 ∨ i = 102 ∨ i = 103) E Eq46 → (0 ≤ i ∧ i ≤ 5 ∧ gv Eq46 81 34 = 1 ∧ (∀ r k : Int, 0 ≤ r → r < 1600 → 0 ≤ k → k < 166 → gv Eq46 82 (166 * (1600 + r) + k).toNat = gv E 82 (166 * (0 + r) + k).toNat) ∧ (∀ k : Int, 0 ≤ k → k < 25 → gv Eq46 101 k.toNat = gv E 83 k.toNat) ∧ (∀ k : Int, 0 ≤ k → k < i → gv Eq46 102 k.toNat = gv E 84 k.toNat)) → cm_wp (ai_find ai_c167 sl) (ai_ev sl (d + 2)) x (kc + 0) (ks + 0) (fun rk rv T' E' nx' => rk = 0 ∧ T = T' ∧ nx = nx' ∧ cs_I T E' nx ∧ cm_fr (fun i k => (i = 81 ∧ (k = 0 ∨ k = 34)) ∨ (i = 82 ∧ 265600 ≤ k ∧ k < 531200) ∨ i = 101 ∨ i = 102 ∨ i = 103) E E' ∧ rl E' ∧ (gv E' 81 34 = 1)) 46 [cr 81, ai_i i] [] T Eq46 nx kc ks := by
          intro nf
          induction nf with
          | zero => intro i Eq46 hm; exact absurd hm (Nat.not_lt_zero _)
          | succ nf46 ih =>
            intro i Eq46 hm46 hI46 hF46 hv46
            obtain ⟨z23, hz23, hz23a, hz23b⟩ := hI46.int 81 34 (lo := 0) (hi := 1) (by decide) (by decide) rfl
            have ghz23 := gv_eq hz23
            have ih46 := ih; clear ih
            refine w_iload (i := 1) (npc := 47) rfl rfl ?_
            refine w_const (n := 5) (npc := 48) rfl ?_
            refine w_icmp (c := .ge) (npc := 51) (pt := 69) rfl (fun hc24 => ?_) (fun hc24 => ?_)
            · replace hc24 : (5 : Int) ≤ i := hc24
              refine w_const (n := 0) (npc := 70) rfl ?_
              refine w_istore (i := 1) (npc := 71) (loc' := [cr 81, ai_i 0]) rfl rfl ?_
              have loop71 : ∀ (nf : Nat) (i : Int) (Eq71 : cm_E), ((3 - i).toNat) < nf → cs_I T Eq71 nx → cm_fr (fun i k => (i = 81 ∧ (k = 0 ∨ k = 34)) ∨ (i = 82 ∧ 265600 ≤ k ∧ k < 531200) ∨ i = 101 ∨ i = 102 ∨ i = 103) E Eq71 → (0 ≤ i ∧ i ≤ 3 ∧ gv Eq71 81 34 = 1 ∧ (∀ r k : Int, 0 ≤ r → r < 1600 → 0 ≤ k → k < 166 → gv Eq71 82 (166 * (1600 + r) + k).toNat = gv E 82 (166 * (0 + r) + k).toNat) ∧ (∀ k : Int, 0 ≤ k → k < 25 → gv Eq71 101 k.toNat = gv E 83 k.toNat) ∧ (∀ k : Int, 0 ≤ k → k < 5 → gv Eq71 102 k.toNat = gv E 84 k.toNat) ∧ True) → cm_wp (ai_find ai_c167 sl) (ai_ev sl (d + 2)) x (kc + 0) (ks + 0) (fun rk rv T' E' nx' => rk = 0 ∧ T = T' ∧ nx = nx' ∧ cs_I T E' nx ∧ cm_fr (fun i k => (i = 81 ∧ (k = 0 ∨ k = 34)) ∨ (i = 82 ∧ 265600 ≤ k ∧ k < 531200) ∨ i = 101 ∨ i = 102 ∨ i = 103) E E' ∧ rl E' ∧ (gv E' 81 34 = 1)) 71 [cr 81, ai_i i] [] T Eq71 nx kc ks := by
                intro nf
                induction nf with
                | zero => intro i Eq71 hm; exact absurd hm (Nat.not_lt_zero _)
                | succ nf71 ih =>
                  intro i Eq71 hm71 hI71 hF71 hv71
                  obtain ⟨z25, hz25, hz25a, hz25b⟩ := hI71.int 81 34 (lo := 0) (hi := 1) (by decide) (by decide) rfl
                  have ghz25 := gv_eq hz25
                  have ih71 := ih; clear ih
                  refine w_iload (i := 1) (npc := 72) rfl rfl ?_
                  refine w_const (n := 3) (npc := 73) rfl ?_
                  refine w_icmp (c := .ge) (npc := 76) (pt := 94) rfl (fun hc26 => ?_) (fun hc26 => ?_)
                  · replace hc26 : (3 : Int) ≤ i := hc26
                    have hR27 : rl Eq71 := rl_image hR (fun k hk => (gv_fr hF71 (by first | omega | (simp only; omega))).symm) hv71.2.2.2.1 (gv_fr hF71 (by simp)).symm (fun k => (gv_fr hF71 (by simp)).symm) (fun k => (gv_fr hF71 (by simp)).symm) hv71.2.2.2.2.1 hv71.2.2.2.2.2.1
                    exact w_vret rfl (⟨rfl, rfl, rfl, hI71, hF71, hR27, hv71.2.2.1⟩) (by omega) (by omega)
                  · replace hc26 : ¬ ((3 : Int) ≤ i) := hc26
                    refine w_aload (i := 0) (npc := 77) rfl rfl rfl ?_
                    refine w_getf (i := 81) (ci := 8) (k := 37) (npc := 80) rfl (hI71.pl (by decide)) (hI71.T (by decide) rfl) (by decide) (hI71.ref 81 37 (p := 103) (by decide) (by decide) rfl) ?_
                    refine w_iload (i := 1) (npc := 81) rfl rfl ?_
                    refine w_aload (i := 0) (npc := 82) rfl rfl rfl ?_
                    refine w_getf (i := 81) (ci := 8) (k := 5) (npc := 85) rfl (hI71.pl (by decide)) (hI71.T (by decide) rfl) (by decide) (hI71.ref 81 5 (p := 85) (by decide) (by decide) rfl) ?_
                    refine w_iload (i := 1) (npc := 86) rfl rfl ?_
                    obtain ⟨z28, hz28, hz28a, hz28b⟩ := hI71.int 85 (i : Int).toNat (lo := (-2147483648)) (hi := 2147483647) (by decide) (show (i : Int).toNat < 3 by omega) rfl
                    have ghz28 := gv_eq hz28
                    have g0hz28 : gv E 85 (i : Int).toNat = z28 := (gv_fr hF71 (by simp)).trans ghz28
                    refine w_ald (i := 85) (t := 1) (n := 3) (npc := 87) rfl (hI71.pl (by decide)) (hI71.T (by decide) rfl) (by decide) rfl (by omega) hz28 ?_
                    refine w_ast (i := 103) (k := 1) (n := 3) (npc := 88) rfl (hI71.pl (by decide)) (hI71.T (by decide) rfl) (by decide) (by omega) cm_af1 ?_
                    have hI30 := hI71.puti (i := 103) (k := (i : Int).toNat) (z := z28) (lo := (-2147483648)) (hi := 2147483647) (by decide) rfl (by omega)
                    have hF32 := cm_fr.up (i := 103) (k := (i : Int).toNat) (v := ai_i z28) hF71 (by first | (simp; done) | (simp; omega) | (intro i k h; (try simp only at h); (try simp only); omega))
                    generalize hE31 : cm_up Eq71 103 (i : Int).toNat (ai_i z28) = E29 at hI30 hF32   ⊢
                    have hz33 : E29 81 34 = ai_i z25 := by rw [← hE31, cm_up_nei _ _ (by decide)]; exact hz25
                    have ghz33 := gv_eq hz33
                    have hz34 : E29 85 (i : Int).toNat = ai_i z28 := by rw [← hE31, cm_up_nei _ _ (by decide)]; exact hz28
                    have ghz34 := gv_eq hz34
                    have hz35 : E29 103 (i : Int).toNat = ai_i z28 := by rw [← hE31, cm_up_eq]
                    have ghz35 := gv_eq hz35
                    refine w_iinc (i := 1) (n := 1) (npc := 91) (loc' := [cr 81, ai_i (i + 1)]) rfl rfl (by omega) rfl ?_
                    refine w_goto (pt := 71) rfl ?_
                    exact ih71 (i + 1) E29 (by omega) hI30 hF32 (⟨by omega, by omega, by omega, fun r k r0 r1 k0 k1 => by rw [← hE31, gv_ne _ _ (by omega)]; exact hv71.2.2.2.1 r k r0 r1 k0 k1, fun k k0 k1 => by rw [← hE31, gv_ne _ _ (by omega)]; exact hv71.2.2.2.2.1 k k0 k1, fun k k0 k1 => by rw [← hE31, gv_ne _ _ (by omega)]; exact hv71.2.2.2.2.2.1 k k0 k1, trivial⟩)
              exact loop71 _ (0) Eq46 (Nat.lt_succ_self _) hI46 hF46 (⟨by omega, by omega, by omega, hv46.2.2.2.1, hv46.2.2.2.2.1, fun k k0 k1 => hv46.2.2.2.2.2 k k0 (by omega), trivial⟩)
            · replace hc24 : ¬ ((5 : Int) ≤ i) := hc24
              refine w_aload (i := 0) (npc := 52) rfl rfl rfl ?_
              refine w_getf (i := 81) (ci := 8) (k := 36) (npc := 55) rfl (hI46.pl (by decide)) (hI46.T (by decide) rfl) (by decide) (hI46.ref 81 36 (p := 102) (by decide) (by decide) rfl) ?_
              refine w_iload (i := 1) (npc := 56) rfl rfl ?_
              refine w_aload (i := 0) (npc := 57) rfl rfl rfl ?_
              refine w_getf (i := 81) (ci := 8) (k := 4) (npc := 60) rfl (hI46.pl (by decide)) (hI46.T (by decide) rfl) (by decide) (hI46.ref 81 4 (p := 84) (by decide) (by decide) rfl) ?_
              refine w_iload (i := 1) (npc := 61) rfl rfl ?_
              obtain ⟨z37, hz37, hz37a, hz37b⟩ := hI46.int 84 (i : Int).toNat (lo := 0) (hi := 20) (by decide) (show (i : Int).toNat < 5 by omega) rfl
              have ghz37 := gv_eq hz37
              have g0hz37 : gv E 84 (i : Int).toNat = z37 := (gv_fr hF46 (by simp)).trans ghz37
              refine w_ald (i := 84) (t := 1) (n := 5) (npc := 62) rfl (hI46.pl (by decide)) (hI46.T (by decide) rfl) (by decide) rfl (by omega) hz37 ?_
              refine w_ast (i := 102) (k := 1) (n := 5) (npc := 63) rfl (hI46.pl (by decide)) (hI46.T (by decide) rfl) (by decide) (by omega) cm_af1 ?_
              have hI39 := hI46.puti (i := 102) (k := (i : Int).toNat) (z := z37) (lo := 0) (hi := 20) (by decide) rfl (by omega)
              have hF41 := cm_fr.up (i := 102) (k := (i : Int).toNat) (v := ai_i z37) hF46 (by first | (simp; done) | (simp; omega) | (intro i k h; (try simp only at h); (try simp only); omega))
              generalize hE40 : cm_up Eq46 102 (i : Int).toNat (ai_i z37) = E38 at hI39 hF41   ⊢
              have hz42 : E38 81 34 = ai_i z23 := by rw [← hE40, cm_up_nei _ _ (by decide)]; exact hz23
              have ghz42 := gv_eq hz42
              have hz43 : E38 84 (i : Int).toNat = ai_i z37 := by rw [← hE40, cm_up_nei _ _ (by decide)]; exact hz37
              have ghz43 := gv_eq hz43
              have hz44 : E38 102 (i : Int).toNat = ai_i z37 := by rw [← hE40, cm_up_eq]
              have ghz44 := gv_eq hz44
              refine w_iinc (i := 1) (n := 1) (npc := 66) (loc' := [cr 81, ai_i (i + 1)]) rfl rfl (by omega) rfl ?_
              refine w_goto (pt := 46) rfl ?_
              exact ih46 (i + 1) E38 (by omega) hI39 hF41 (⟨by omega, by omega, by omega, fun r k r0 r1 k0 k1 => by rw [← hE40, gv_ne _ _ (by omega)]; exact hv46.2.2.2.1 r k r0 r1 k0 k1, fun k k0 k1 => by rw [← hE40, gv_ne _ _ (by omega)]; exact hv46.2.2.2.2.1 k k0 k1, fun k k0 k1 => by
      rw [← hE40]
      by_cases hk : k = i
      · rw [hk, gv_up]; omega
      · rw [gv_ne _ _ (by omega)]; exact hv46.2.2.2.2.2 k k0 (by omega)⟩)
        exact loop46 _ (0) Eq20 (Nat.lt_succ_self _) hI20 hF20 (⟨by omega, by omega, by omega, hv20.2.2.2.1, fun k k0 k1 => hv20.2.2.2.2 k k0 (by omega), fun k k0 k1 => by omega⟩)
      · replace hc22 : ¬ ((25 : Int) ≤ i) := hc22
        refine w_aload (i := 0) (npc := 27) rfl rfl rfl ?_
        refine w_getf (i := 81) (ci := 8) (k := 35) (npc := 30) rfl (hI20.pl (by decide)) (hI20.T (by decide) rfl) (by decide) (hI20.ref 81 35 (p := 101) (by decide) (by decide) rfl) ?_
        refine w_iload (i := 1) (npc := 31) rfl rfl ?_
        refine w_aload (i := 0) (npc := 32) rfl rfl rfl ?_
        refine w_getf (i := 81) (ci := 8) (k := 3) (npc := 35) rfl (hI20.pl (by decide)) (hI20.T (by decide) rfl) (by decide) (hI20.ref 81 3 (p := 83) (by decide) (by decide) rfl) ?_
        refine w_iload (i := 1) (npc := 36) rfl rfl ?_
        obtain ⟨z46, hz46, hz46a, hz46b⟩ := hI20.int 83 (i : Int).toNat (lo := 0) (hi := 60) (by decide) (show (i : Int).toNat < 25 by omega) rfl
        have ghz46 := gv_eq hz46
        have g0hz46 : gv E 83 (i : Int).toNat = z46 := (gv_fr hF20 (by simp)).trans ghz46
        refine w_ald (i := 83) (t := 1) (n := 25) (npc := 37) rfl (hI20.pl (by decide)) (hI20.T (by decide) rfl) (by decide) rfl (by omega) hz46 ?_
        refine w_ast (i := 101) (k := 1) (n := 25) (npc := 38) rfl (hI20.pl (by decide)) (hI20.T (by decide) rfl) (by decide) (by omega) cm_af1 ?_
        have hI48 := hI20.puti (i := 101) (k := (i : Int).toNat) (z := z46) (lo := 0) (hi := 60) (by decide) rfl (by omega)
        have hF50 := cm_fr.up (i := 101) (k := (i : Int).toNat) (v := ai_i z46) hF20 (by first | (simp; done) | (simp; omega) | (intro i k h; (try simp only at h); (try simp only); omega))
        generalize hE49 : cm_up Eq20 101 (i : Int).toNat (ai_i z46) = E47 at hI48 hF50   ⊢
        have hz51 : E47 81 34 = ai_i z21 := by rw [← hE49, cm_up_nei _ _ (by decide)]; exact hz21
        have ghz51 := gv_eq hz51
        have hz52 : E47 83 (i : Int).toNat = ai_i z46 := by rw [← hE49, cm_up_nei _ _ (by decide)]; exact hz46
        have ghz52 := gv_eq hz52
        have hz53 : E47 101 (i : Int).toNat = ai_i z46 := by rw [← hE49, cm_up_eq]
        have ghz53 := gv_eq hz53
        refine w_iinc (i := 1) (n := 1) (npc := 41) (loc' := [cr 81, ai_i (i + 1)]) rfl rfl (by omega) rfl ?_
        refine w_goto (pt := 20) rfl ?_
        exact ih20 (i + 1) E47 (by omega) hI48 hF50 (⟨by omega, by omega, by omega, fun r k r0 r1 k0 k1 => by rw [← hE49, gv_ne _ _ (by omega)]; exact hv20.2.2.2.1 r k r0 r1 k0 k1, fun k k0 k1 => by
      rw [← hE49]
      by_cases hk : k = i
      · rw [hk, gv_up]; omega
      · rw [gv_ne _ _ (by omega)]; exact hv20.2.2.2.2 k k0 (by omega)⟩)
  exact loop20 _ (0) E14 (Nat.lt_succ_self _) hI16 hF18 (⟨by omega, by omega, by omega, fun r k r0 r1 k0 k1 => by rw [hz15 r k r0 r1 k0 k1, ← hE9, gv_ne _ _ (by omega), ← hE3, gv_ne _ _ (by omega)], fun k k0 k1 => by omega⟩)
set_option maxRecDepth 16384 in
theorem ct_m_restore {sl : Int × Int} {x : ai_E} {d : Nat} {T : cm_T} {E : cm_E} {nx : Nat}  (hI : cs_I T E nx) (hR : rl E) : cm_ct (ai_ev sl (d + 3)) x 204 [cr 81] T E nx 0 0 (fun rk rv T' E' nx' => rk = 1 ∧ T = T' ∧ nx = nx' ∧ cs_I T E' nx ∧ cm_fr (fun i k => (i = 81 ∧ k = 0) ∨ (i = 82 ∧ k < 265600) ∨ i = 83 ∨ i = 84 ∨ i = 85) E E' ∧ rl E' ∧ ∃ z : Int, rv = ai_i z ∧ (z = gv E 81 34)) := by
  refine cm_body (M := ai_m204) rfl rfl (fun kc ks => ?_)
  show cm_wp (ai_find ai_c204 sl) (ai_ev sl (d + 2)) x (kc + 0) (ks + 0) _ 0 [cr 81, ai_un] [] T E nx kc ks
  have hF : cm_fr (fun i k => (i = 81 ∧ k = 0) ∨ (i = 82 ∧ k < 265600) ∨ i = 83 ∨ i = 84 ∨ i = 85) E E := fun _ _ _ => rfl
  obtain ⟨z1, hz1, hz1a, hz1b⟩ := hI.int 81 34 (lo := 0) (hi := 1) (by decide) (by decide) rfl
  have ghz1 := gv_eq hz1
  refine w_aload (i := 0) (npc := 1) rfl rfl rfl ?_
  refine w_const (n := 0) (npc := 2) rfl ?_
  refine w_putf (i := 81) (ci := 8) (k := 0) (t := 0) (npc := 5) rfl (hI.pl (by decide)) (hI.T (by decide) rfl) (by decide) cm_fit0 ?_
  have hI3 := hI.puti (i := 81) (k := 0) (z := 0) (lo := 0) (hi := 2) (by decide) rfl (by omega)
  have hF5 := cm_fr.up (i := 81) (k := 0) (v := ai_i 0) hF (by first | (simp; done) | (simp; omega) | (intro i k h; (try simp only at h); (try simp only); omega))
  have hR6 := rl.wr (i := 81) (k := 0) (v := ai_i 0) hR (by simp)
  generalize hE4 : cm_up E 81 0 (ai_i 0) = E2 at hI3 hF5 hR6  ⊢
  have hz7 : E2 81 34 = ai_i z1 := by rw [← hE4, cm_up_ne _ _ (by decide)]; exact hz1
  have ghz7 := gv_eq hz7
  have hz8 : E2 81 0 = ai_i 0 := by rw [← hE4, cm_up_eq]
  have ghz8 := gv_eq hz8
  refine w_aload (i := 0) (npc := 6) rfl rfl rfl ?_
  refine w_getf (i := 81) (ci := 8) (k := 34) (npc := 9) rfl (hI3.pl (by decide)) (hI3.T (by decide) rfl) (by decide) hz7 ?_
  refine w_if (c := .ne) (npc := 12) (pt := 14) rfl (fun hc9 => ?_) (fun hc9 => ?_)
  · replace hc9 : z1 ≠ (0 : Int) := hc9
    refine w_aload (i := 0) (npc := 15) rfl rfl rfl ?_
    refine w_const (n := 1600) (npc := 18) rfl ?_
    refine w_const (n := 0) (npc := 19) rfl ?_
    refine w_virt (ci := 8) (i := 81) (npc := 22) (a := [cr 81, ai_i 1600, ai_i 0]) (rest := []) rfl rfl (hI3.pl (by decide)) (hI3.T (by decide) rfl) rfl rfl rfl rfl (ct_m_copyAll (sl := sl) (x := x) (d := d + 0) (1600) (0) hI3 (by omega)) (Or.inl rfl) (fun k9 v9 T9 E11 nx9 kc9 ks9 hq10 hk9 hs9 => ?_)
    obtain ⟨rfl, rfl, rfl, hI13, hG14, hz12⟩ := hq10
    obtain rfl : kc = kc9 := by omega
    obtain rfl : ks = ks9 := by omega
    have hF15 := cm_fr.trans hF5 hG14 (by first | (simp; done) | (simp; omega) | (intro i k h; (try simp only at h); (try simp only); omega))
    have hz16 : E11 81 34 = ai_i z1 := (hG14 81 34 (by simp)).trans hz7
    have ghz16 := gv_eq hz16
    have hz17 : E11 81 0 = ai_i 0 := (hG14 81 0 (by simp)).trans hz8
    have ghz17 := gv_eq hz17
    refine Or.inl ⟨rfl, ?_⟩
    refine w_const (n := 0) (npc := 23) rfl ?_
    refine w_istore (i := 1) (npc := 24) (loc' := [cr 81, ai_i 0]) rfl rfl ?_
    have loop24 : ∀ (nf : Nat) (i : Int) (Eq24 : cm_E), ((25 - i).toNat) < nf → cs_I T Eq24 nx → cm_fr (fun i k => (i = 81 ∧ k = 0) ∨ (i = 82 ∧ k < 265600) ∨ i = 83 ∨ i = 84 ∨ i = 85) E Eq24 → (0 ≤ i ∧ i ≤ 25 ∧ (∀ r k : Int, 0 ≤ r → r < 1600 → 0 ≤ k → k < 166 → gv Eq24 82 (166 * (0 + r) + k).toNat = gv E 82 (166 * (1600 + r) + k).toNat) ∧ (∀ k : Int, 0 ≤ k → k < i → gv Eq24 83 k.toNat = gv E 101 k.toNat)) → cm_wp (ai_find ai_c204 sl) (ai_ev sl (d + 2)) x (kc + 0) (ks + 0) (fun rk rv T' E' nx' => rk = 1 ∧ T = T' ∧ nx = nx' ∧ cs_I T E' nx ∧ cm_fr (fun i k => (i = 81 ∧ k = 0) ∨ (i = 82 ∧ k < 265600) ∨ i = 83 ∨ i = 84 ∨ i = 85) E E' ∧ rl E' ∧ ∃ z : Int, rv = ai_i z ∧ (z = gv E 81 34)) 24 [cr 81, ai_i i] [] T Eq24 nx kc ks := by
      intro nf
      induction nf with
      | zero => intro i Eq24 hm; exact absurd hm (Nat.not_lt_zero _)
      | succ nf24 ih =>
        intro i Eq24 hm24 hI24 hF24 hv24
        have ih24 := ih; clear ih
        refine w_iload (i := 1) (npc := 25) rfl rfl ?_
        refine w_const (n := 25) (npc := 27) rfl ?_
        refine w_icmp (c := .ge) (npc := 30) (pt := 48) rfl (fun hc18 => ?_) (fun hc18 => ?_)
        · replace hc18 : (25 : Int) ≤ i := hc18
          refine w_const (n := 0) (npc := 49) rfl ?_
          refine w_istore (i := 1) (npc := 50) (loc' := [cr 81, ai_i 0]) rfl rfl ?_
          have loop50 : ∀ (nf : Nat) (i : Int) (Eq50 : cm_E), ((5 - i).toNat) < nf → cs_I T Eq50 nx → cm_fr (fun i k => (i = 81 ∧ k = 0) ∨ (i = 82 ∧ k < 265600) ∨ i = 83 ∨ i = 84 ∨ i = 85) E Eq50 → (0 ≤ i ∧ i ≤ 5 ∧ (∀ r k : Int, 0 ≤ r → r < 1600 → 0 ≤ k → k < 166 → gv Eq50 82 (166 * (0 + r) + k).toNat = gv E 82 (166 * (1600 + r) + k).toNat) ∧ (∀ k : Int, 0 ≤ k → k < 25 → gv Eq50 83 k.toNat = gv E 101 k.toNat) ∧ (∀ k : Int, 0 ≤ k → k < i → gv Eq50 84 k.toNat = gv E 102 k.toNat)) → cm_wp (ai_find ai_c204 sl) (ai_ev sl (d + 2)) x (kc + 0) (ks + 0) (fun rk rv T' E' nx' => rk = 1 ∧ T = T' ∧ nx = nx' ∧ cs_I T E' nx ∧ cm_fr (fun i k => (i = 81 ∧ k = 0) ∨ (i = 82 ∧ k < 265600) ∨ i = 83 ∨ i = 84 ∨ i = 85) E E' ∧ rl E' ∧ ∃ z : Int, rv = ai_i z ∧ (z = gv E 81 34)) 50 [cr 81, ai_i i] [] T Eq50 nx kc ks := by
            intro nf
            induction nf with
            | zero => intro i Eq50 hm; exact absurd hm (Nat.not_lt_zero _)
            | succ nf50 ih =>
              intro i Eq50 hm50 hI50 hF50 hv50
              have ih50 := ih; clear ih
              refine w_iload (i := 1) (npc := 51) rfl rfl ?_
              refine w_const (n := 5) (npc := 52) rfl ?_
              refine w_icmp (c := .ge) (npc := 55) (pt := 73) rfl (fun hc19 => ?_) (fun hc19 => ?_)
              · replace hc19 : (5 : Int) ≤ i := hc19
                refine w_const (n := 0) (npc := 74) rfl ?_
                refine w_istore (i := 1) (npc := 75) (loc' := [cr 81, ai_i 0]) rfl rfl ?_
                have loop75 : ∀ (nf : Nat) (i : Int) (Eq75 : cm_E), ((3 - i).toNat) < nf → cs_I T Eq75 nx → cm_fr (fun i k => (i = 81 ∧ k = 0) ∨ (i = 82 ∧ k < 265600) ∨ i = 83 ∨ i = 84 ∨ i = 85) E Eq75 → (0 ≤ i ∧ i ≤ 3 ∧ (∀ r k : Int, 0 ≤ r → r < 1600 → 0 ≤ k → k < 166 → gv Eq75 82 (166 * (0 + r) + k).toNat = gv E 82 (166 * (1600 + r) + k).toNat) ∧ (∀ k : Int, 0 ≤ k → k < 25 → gv Eq75 83 k.toNat = gv E 101 k.toNat) ∧ (∀ k : Int, 0 ≤ k → k < 5 → gv Eq75 84 k.toNat = gv E 102 k.toNat) ∧ True) → cm_wp (ai_find ai_c204 sl) (ai_ev sl (d + 2)) x (kc + 0) (ks + 0) (fun rk rv T' E' nx' => rk = 1 ∧ T = T' ∧ nx = nx' ∧ cs_I T E' nx ∧ cm_fr (fun i k => (i = 81 ∧ k = 0) ∨ (i = 82 ∧ k < 265600) ∨ i = 83 ∨ i = 84 ∨ i = 85) E E' ∧ rl E' ∧ ∃ z : Int, rv = ai_i z ∧ (z = gv E 81 34)) 75 [cr 81, ai_i i] [] T Eq75 nx kc ks := by
                  intro nf
                  induction nf with
                  | zero => intro i Eq75 hm; exact absurd hm (Nat.not_lt_zero _)
                  | succ nf75 ih =>
                    intro i Eq75 hm75 hI75 hF75 hv75
                    have ih75 := ih; clear ih
                    refine w_iload (i := 1) (npc := 76) rfl rfl ?_
                    refine w_const (n := 3) (npc := 77) rfl ?_
                    refine w_icmp (c := .ge) (npc := 80) (pt := 98) rfl (fun hc20 => ?_) (fun hc20 => ?_)
                    · replace hc20 : (3 : Int) ≤ i := hc20
                      have hR21 : rl Eq75 := rl_restore hR (by omega) (fun k hk => (gv_fr hF75 (by first | omega | (simp only; omega))).symm) hv75.2.2.1 (gv_fr hF75 (by simp)).symm (fun k => (gv_fr hF75 (by simp)).symm) (fun k => (gv_fr hF75 (by simp)).symm) hv75.2.2.2.1 hv75.2.2.2.2.1
                      refine w_const (n := 1) (npc := 99) rfl ?_
                      exact w_zret rfl (by omega) (⟨rfl, rfl, rfl, hI75, hF75, hR21, 1, rfl, by omega⟩) (by omega) (by omega)
                    · replace hc20 : ¬ ((3 : Int) ≤ i) := hc20
                      refine w_aload (i := 0) (npc := 81) rfl rfl rfl ?_
                      refine w_getf (i := 81) (ci := 8) (k := 5) (npc := 84) rfl (hI75.pl (by decide)) (hI75.T (by decide) rfl) (by decide) (hI75.ref 81 5 (p := 85) (by decide) (by decide) rfl) ?_
                      refine w_iload (i := 1) (npc := 85) rfl rfl ?_
                      refine w_aload (i := 0) (npc := 86) rfl rfl rfl ?_
                      refine w_getf (i := 81) (ci := 8) (k := 37) (npc := 89) rfl (hI75.pl (by decide)) (hI75.T (by decide) rfl) (by decide) (hI75.ref 81 37 (p := 103) (by decide) (by decide) rfl) ?_
                      refine w_iload (i := 1) (npc := 90) rfl rfl ?_
                      obtain ⟨z22, hz22, hz22a, hz22b⟩ := hI75.int 103 (i : Int).toNat (lo := (-2147483648)) (hi := 2147483647) (by decide) (show (i : Int).toNat < 3 by omega) rfl
                      have ghz22 := gv_eq hz22
                      have g0hz22 : gv E 103 (i : Int).toNat = z22 := (gv_fr hF75 (by simp)).trans ghz22
                      refine w_ald (i := 103) (t := 1) (n := 3) (npc := 91) rfl (hI75.pl (by decide)) (hI75.T (by decide) rfl) (by decide) rfl (by omega) hz22 ?_
                      refine w_ast (i := 85) (k := 1) (n := 3) (npc := 92) rfl (hI75.pl (by decide)) (hI75.T (by decide) rfl) (by decide) (by omega) cm_af1 ?_
                      have hI24 := hI75.puti (i := 85) (k := (i : Int).toNat) (z := z22) (lo := (-2147483648)) (hi := 2147483647) (by decide) rfl (by omega)
                      have hF26 := cm_fr.up (i := 85) (k := (i : Int).toNat) (v := ai_i z22) hF75 (by first | (simp; done) | (simp; omega) | (intro i k h; (try simp only at h); (try simp only); omega))
                      generalize hE25 : cm_up Eq75 85 (i : Int).toNat (ai_i z22) = E23 at hI24 hF26   ⊢
                      have hz27 : E23 103 (i : Int).toNat = ai_i z22 := by rw [← hE25, cm_up_nei _ _ (by decide)]; exact hz22
                      have ghz27 := gv_eq hz27
                      have hz28 : E23 85 (i : Int).toNat = ai_i z22 := by rw [← hE25, cm_up_eq]
                      have ghz28 := gv_eq hz28
                      refine w_iinc (i := 1) (n := 1) (npc := 95) (loc' := [cr 81, ai_i (i + 1)]) rfl rfl (by omega) rfl ?_
                      refine w_goto (pt := 75) rfl ?_
                      exact ih75 (i + 1) E23 (by omega) hI24 hF26 (⟨by omega, by omega, fun r k r0 r1 k0 k1 => by rw [← hE25, gv_ne _ _ (by omega)]; exact hv75.2.2.1 r k r0 r1 k0 k1, fun k k0 k1 => by rw [← hE25, gv_ne _ _ (by omega)]; exact hv75.2.2.2.1 k k0 k1, fun k k0 k1 => by rw [← hE25, gv_ne _ _ (by omega)]; exact hv75.2.2.2.2.1 k k0 k1, trivial⟩)
                exact loop75 _ (0) Eq50 (Nat.lt_succ_self _) hI50 hF50 (⟨by omega, by omega, hv50.2.2.1, hv50.2.2.2.1, fun k k0 k1 => hv50.2.2.2.2 k k0 (by omega), trivial⟩)
              · replace hc19 : ¬ ((5 : Int) ≤ i) := hc19
                refine w_aload (i := 0) (npc := 56) rfl rfl rfl ?_
                refine w_getf (i := 81) (ci := 8) (k := 4) (npc := 59) rfl (hI50.pl (by decide)) (hI50.T (by decide) rfl) (by decide) (hI50.ref 81 4 (p := 84) (by decide) (by decide) rfl) ?_
                refine w_iload (i := 1) (npc := 60) rfl rfl ?_
                refine w_aload (i := 0) (npc := 61) rfl rfl rfl ?_
                refine w_getf (i := 81) (ci := 8) (k := 36) (npc := 64) rfl (hI50.pl (by decide)) (hI50.T (by decide) rfl) (by decide) (hI50.ref 81 36 (p := 102) (by decide) (by decide) rfl) ?_
                refine w_iload (i := 1) (npc := 65) rfl rfl ?_
                obtain ⟨z30, hz30, hz30a, hz30b⟩ := hI50.int 102 (i : Int).toNat (lo := 0) (hi := 20) (by decide) (show (i : Int).toNat < 5 by omega) rfl
                have ghz30 := gv_eq hz30
                have g0hz30 : gv E 102 (i : Int).toNat = z30 := (gv_fr hF50 (by simp)).trans ghz30
                refine w_ald (i := 102) (t := 1) (n := 5) (npc := 66) rfl (hI50.pl (by decide)) (hI50.T (by decide) rfl) (by decide) rfl (by omega) hz30 ?_
                refine w_ast (i := 84) (k := 1) (n := 5) (npc := 67) rfl (hI50.pl (by decide)) (hI50.T (by decide) rfl) (by decide) (by omega) cm_af1 ?_
                have hI32 := hI50.puti (i := 84) (k := (i : Int).toNat) (z := z30) (lo := 0) (hi := 20) (by decide) rfl (by omega)
                have hF34 := cm_fr.up (i := 84) (k := (i : Int).toNat) (v := ai_i z30) hF50 (by first | (simp; done) | (simp; omega) | (intro i k h; (try simp only at h); (try simp only); omega))
                generalize hE33 : cm_up Eq50 84 (i : Int).toNat (ai_i z30) = E31 at hI32 hF34   ⊢
                have hz35 : E31 102 (i : Int).toNat = ai_i z30 := by rw [← hE33, cm_up_nei _ _ (by decide)]; exact hz30
                have ghz35 := gv_eq hz35
                have hz36 : E31 84 (i : Int).toNat = ai_i z30 := by rw [← hE33, cm_up_eq]
                have ghz36 := gv_eq hz36
                refine w_iinc (i := 1) (n := 1) (npc := 70) (loc' := [cr 81, ai_i (i + 1)]) rfl rfl (by omega) rfl ?_
                refine w_goto (pt := 50) rfl ?_
                exact ih50 (i + 1) E31 (by omega) hI32 hF34 (⟨by omega, by omega, fun r k r0 r1 k0 k1 => by rw [← hE33, gv_ne _ _ (by omega)]; exact hv50.2.2.1 r k r0 r1 k0 k1, fun k k0 k1 => by rw [← hE33, gv_ne _ _ (by omega)]; exact hv50.2.2.2.1 k k0 k1, fun k k0 k1 => by
      rw [← hE33]
      by_cases hk : k = i
      · rw [hk, gv_up]; omega
      · rw [gv_ne _ _ (by omega)]; exact hv50.2.2.2.2 k k0 (by omega)⟩)
          exact loop50 _ (0) Eq24 (Nat.lt_succ_self _) hI24 hF24 (⟨by omega, by omega, hv24.2.2.1, fun k k0 k1 => hv24.2.2.2 k k0 (by omega), fun k k0 k1 => by omega⟩)
        · replace hc18 : ¬ ((25 : Int) ≤ i) := hc18
          refine w_aload (i := 0) (npc := 31) rfl rfl rfl ?_
          refine w_getf (i := 81) (ci := 8) (k := 3) (npc := 34) rfl (hI24.pl (by decide)) (hI24.T (by decide) rfl) (by decide) (hI24.ref 81 3 (p := 83) (by decide) (by decide) rfl) ?_
          refine w_iload (i := 1) (npc := 35) rfl rfl ?_
          refine w_aload (i := 0) (npc := 36) rfl rfl rfl ?_
          refine w_getf (i := 81) (ci := 8) (k := 35) (npc := 39) rfl (hI24.pl (by decide)) (hI24.T (by decide) rfl) (by decide) (hI24.ref 81 35 (p := 101) (by decide) (by decide) rfl) ?_
          refine w_iload (i := 1) (npc := 40) rfl rfl ?_
          obtain ⟨z38, hz38, hz38a, hz38b⟩ := hI24.int 101 (i : Int).toNat (lo := 0) (hi := 60) (by decide) (show (i : Int).toNat < 25 by omega) rfl
          have ghz38 := gv_eq hz38
          have g0hz38 : gv E 101 (i : Int).toNat = z38 := (gv_fr hF24 (by simp)).trans ghz38
          refine w_ald (i := 101) (t := 1) (n := 25) (npc := 41) rfl (hI24.pl (by decide)) (hI24.T (by decide) rfl) (by decide) rfl (by omega) hz38 ?_
          refine w_ast (i := 83) (k := 1) (n := 25) (npc := 42) rfl (hI24.pl (by decide)) (hI24.T (by decide) rfl) (by decide) (by omega) cm_af1 ?_
          have hI40 := hI24.puti (i := 83) (k := (i : Int).toNat) (z := z38) (lo := 0) (hi := 60) (by decide) rfl (by omega)
          have hF42 := cm_fr.up (i := 83) (k := (i : Int).toNat) (v := ai_i z38) hF24 (by first | (simp; done) | (simp; omega) | (intro i k h; (try simp only at h); (try simp only); omega))
          generalize hE41 : cm_up Eq24 83 (i : Int).toNat (ai_i z38) = E39 at hI40 hF42   ⊢
          have hz43 : E39 101 (i : Int).toNat = ai_i z38 := by rw [← hE41, cm_up_nei _ _ (by decide)]; exact hz38
          have ghz43 := gv_eq hz43
          have hz44 : E39 83 (i : Int).toNat = ai_i z38 := by rw [← hE41, cm_up_eq]
          have ghz44 := gv_eq hz44
          refine w_iinc (i := 1) (n := 1) (npc := 45) (loc' := [cr 81, ai_i (i + 1)]) rfl rfl (by omega) rfl ?_
          refine w_goto (pt := 24) rfl ?_
          exact ih24 (i + 1) E39 (by omega) hI40 hF42 (⟨by omega, by omega, fun r k r0 r1 k0 k1 => by rw [← hE41, gv_ne _ _ (by omega)]; exact hv24.2.2.1 r k r0 r1 k0 k1, fun k k0 k1 => by
      rw [← hE41]
      by_cases hk : k = i
      · rw [hk, gv_up]; omega
      · rw [gv_ne _ _ (by omega)]; exact hv24.2.2.2 k k0 (by omega)⟩)
    exact loop24 _ (0) E11 (Nat.lt_succ_self _) hI13 hF15 (⟨by omega, by omega, fun r k r0 r1 k0 k1 => by rw [hz12 r k r0 r1 k0 k1, ← hE4, gv_ne _ _ (by omega)], fun k k0 k1 => by omega⟩)
  · replace hc9 : ¬ (z1 ≠ (0 : Int)) := hc9
    refine w_const (n := 0) (npc := 13) rfl ?_
    exact w_zret rfl (by omega) (⟨rfl, rfl, rfl, hI3, hF5, hR6, 0, rfl, by omega⟩) (by omega) (by omega)
