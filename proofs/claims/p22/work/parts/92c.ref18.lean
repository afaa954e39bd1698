set_option maxRecDepth 16384 in
theorem ct_m_readPacket {sl : Int × Int} {x : ai_E} {d : Nat} {T : cm_T} {E : cm_E} {nx : Nat}  (hI : cs_I T E nx) : cm_ct (ai_ev sl (d + 6)) x 200 [cr 81] T E nx 0 0 (fun rk rv T' E' nx' => rk = 0 ∧ T = T' ∧ nx = nx' ∧ cs_I T E' nx ∧ cm_fr (fun i k => (i = 81 ∧ (k = 19 ∨ k = 21 ∨ k = 22)) ∨ (i = 82 ∧ 531200 ≤ k)) E E' ∧ (gv E' 81 21 = 0 → rl_row E' 3200 ∧ rl_hd E' 3200)) := by
  refine cm_body (M := ai_m200) rfl rfl (fun kc ks => ?_)
  show cm_wp (ai_find ai_c200 sl) (ai_ev sl (d + 5)) x (kc + 0) (ks + 0) _ 0 [cr 81, ai_un, ai_un, ai_un] [] T E nx kc ks
  have hF : cm_fr (fun i k => (i = 81 ∧ (k = 19 ∨ k = 21 ∨ k = 22)) ∨ (i = 82 ∧ 531200 ≤ k)) E E := fun _ _ _ => rfl
  refine w_const (n := 0) (npc := 1) rfl ?_
  refine w_istore (i := 1) (npc := 2) (loc' := [cr 81, ai_i 0, ai_un, ai_un]) rfl rfl ?_
  have loop2 : ∀ (nf : Nat) (i : Int) (Eq2 : cm_E), ((166 - i).toNat) < nf → cs_I T Eq2 nx → cm_fr (fun i k => (i = 81 ∧ (k = 19 ∨ k = 21 ∨ k = 22)) ∨ (i = 82 ∧ 531200 ≤ k)) E Eq2 → (0 ≤ i ∧ i ≤ 166 ∧ ∀ k : Int, 0 ≤ k → k < i → gv Eq2 82 (166 * 3200 + k).toNat = 0) → cm_wp (ai_find ai_c200 sl) (ai_ev sl (d + 5)) x (kc + 0) (ks + 0) (fun rk rv T' E' nx' => rk = 0 ∧ T = T' ∧ nx = nx' ∧ cs_I T E' nx ∧ cm_fr (fun i k => (i = 81 ∧ (k = 19 ∨ k = 21 ∨ k = 22)) ∨ (i = 82 ∧ 531200 ≤ k)) E E' ∧ (gv E' 81 21 = 0 → rl_row E' 3200 ∧ rl_hd E' 3200)) 2 [cr 81, ai_i i, ai_un, ai_un] [] T Eq2 nx kc ks := by
    intro nf
    induction nf with
    | zero => intro i Eq2 hm; exact absurd hm (Nat.not_lt_zero _)
    | succ nf2 ih =>
      intro i Eq2 hm2 hI2 hF2 hv2
      have ih2 := ih; clear ih
      refine w_iload (i := 1) (npc := 3) rfl rfl ?_
      refine w_const (n := 166) (npc := 6) rfl ?_
      refine w_icmp (c := .ge) (npc := 9) (pt := 24) rfl (fun hc1 => ?_) (fun hc1 => ?_)
      · replace hc1 : (166 : Int) ≤ i := hc1
        refine w_aload (i := 0) (npc := 25) rfl rfl rfl ?_
        refine w_const (n := 3200) (npc := 28) rfl ?_
        refine w_const (n := 0) (npc := 29) rfl ?_
        refine w_aload (i := 0) (npc := 30) rfl rfl rfl ?_
        refine w_const (n := 0) (npc := 31) rfl ?_
        refine w_const (n := 3) (npc := 32) rfl ?_
        obtain ⟨z2, hz2, hz2a, hz2b⟩ := hI2.int 81 21 (lo := 0) (hi := 3) (by decide) (by decide) rfl
        have ghz2 := gv_eq hz2
        obtain ⟨z3, hz3, hz3a, hz3b⟩ := hI2.int 81 1 (lo := 1) (hi := 5) (by decide) (by decide) rfl
        have ghz3 := gv_eq hz3
        have g0hz3 : gv E 81 1 = z3 := (gv_fr hF2 (by simp)).trans ghz3
        refine w_virt (ci := 8) (i := 81) (npc := 35) (a := [cr 81, ai_i 0, ai_i 3]) (rest := [ai_i 0, ai_i 3200, cr 81]) rfl rfl (hI2.pl (by decide)) (hI2.T (by decide) rfl) rfl rfl rfl rfl (ct_m_readByte (sl := sl) (x := x) (d := d + 3) (0) (3) hI2) (Or.inl rfl) (fun k9 v9 T9 E5 nx9 kc9 ks9 hq4 hk9 hs9 => ?_)
        obtain ⟨rfl, rfl, rfl, hI7, hG8, z6, rfl, hz6⟩ := hq4
        obtain rfl : kc = kc9 := by omega
        obtain rfl : ks = ks9 := by omega
        have hF9 := cm_fr.trans hF2 hG8 (by first | (simp; done) | (simp; omega) | (intro i k h; (try simp only at h); (try simp only); omega))
        have hz10 : E5 81 1 = ai_i z3 := (hG8 81 1 (by simp)).trans hz3
        have ghz10 := gv_eq hz10
        refine Or.inr (Or.inl ⟨rfl, ?_⟩)
        obtain ⟨z11, hz11, hz11a, hz11b⟩ := hI7.int 81 21 (lo := 0) (hi := 3) (by decide) (by decide) rfl
        have ghz11 := gv_eq hz11
        refine w_virt (ci := 8) (i := 81) (npc := 38) (a := [cr 81, ai_i 3200, ai_i 0, ai_i z6]) (rest := []) rfl rfl (hI7.pl (by decide)) (hI7.T (by decide) rfl) rfl rfl rfl rfl (ct_m_put (sl := sl) (x := x) (d := d + 4) (3200) (0) (z6) hI7 (by omega) (by omega) (by omega)) (Or.inl rfl) (fun k9 v9 T9 E13 nx9 kc9 ks9 hq12 hk9 hs9 => ?_)
        obtain ⟨rfl, rfl, rfl, hI15, hG16, hz14⟩ := hq12
        obtain rfl : kc = kc9 := by omega
        obtain rfl : ks = ks9 := by omega
        have hF17 := cm_fr.trans hF9 hG16 (by first | (simp; done) | (simp; omega) | (intro i k h; (try simp only at h); (try simp only); omega))
        have hz18 : E13 81 1 = ai_i z3 := (hG16 81 1 (by simp)).trans hz10
        have ghz18 := gv_eq hz18
        have hz19 : E13 81 21 = ai_i z11 := (hG16 81 21 (by simp)).trans hz11
        have ghz19 := gv_eq hz19
        refine Or.inl ⟨rfl, ?_⟩
        refine w_aload (i := 0) (npc := 39) rfl rfl rfl ?_
        refine w_const (n := 3200) (npc := 42) rfl ?_
        refine w_const (n := 1) (npc := 43) rfl ?_
        refine w_aload (i := 0) (npc := 44) rfl rfl rfl ?_
        refine w_const (n := 0) (npc := 45) rfl ?_
        refine w_aload (i := 0) (npc := 46) rfl rfl rfl ?_
        refine w_getf (i := 81) (ci := 8) (k := 1) (npc := 49) rfl (hI15.pl (by decide)) (hI15.T (by decide) rfl) (by decide) hz18 ?_
        refine w_const (n := 1) (npc := 50) rfl ?_
        refine w_isub (npc := 51) rfl (by omega) ?_
        refine w_virt (ci := 8) (i := 81) (npc := 54) (a := [cr 81, ai_i 0, ai_i (z3 - 1)]) (rest := [ai_i 1, ai_i 3200, cr 81]) rfl rfl (hI15.pl (by decide)) (hI15.T (by decide) rfl) rfl rfl rfl rfl (ct_m_readByte (sl := sl) (x := x) (d := d + 3) (0) (z3 - 1) hI15) (Or.inl rfl) (fun k9 v9 T9 E22 nx9 kc9 ks9 hq21 hk9 hs9 => ?_)
        obtain ⟨rfl, rfl, rfl, hI24, hG25, z23, rfl, hz23⟩ := hq21
        obtain rfl : kc = kc9 := by omega
        obtain rfl : ks = ks9 := by omega
        have hF26 := cm_fr.trans hF17 hG25 (by first | (simp; done) | (simp; omega) | (intro i k h; (try simp only at h); (try simp only); omega))
        have hz27 : E22 81 1 = ai_i z3 := (hG25 81 1 (by simp)).trans hz18
        have ghz27 := gv_eq hz27
        refine Or.inr (Or.inl ⟨rfl, ?_⟩)
        obtain ⟨z28, hz28, hz28a, hz28b⟩ := hI24.int 81 21 (lo := 0) (hi := 3) (by decide) (by decide) rfl
        have ghz28 := gv_eq hz28
        refine w_virt (ci := 8) (i := 81) (npc := 57) (a := [cr 81, ai_i 3200, ai_i 1, ai_i z23]) (rest := []) rfl rfl (hI24.pl (by decide)) (hI24.T (by decide) rfl) rfl rfl rfl rfl (ct_m_put (sl := sl) (x := x) (d := d + 4) (3200) (1) (z23) hI24 (by omega) (by omega) (by omega)) (Or.inl rfl) (fun k9 v9 T9 E30 nx9 kc9 ks9 hq29 hk9 hs9 => ?_)
        obtain ⟨rfl, rfl, rfl, hI32, hG33, hz31⟩ := hq29
        obtain rfl : kc = kc9 := by omega
        obtain rfl : ks = ks9 := by omega
        have hF34 := cm_fr.trans hF26 hG33 (by first | (simp; done) | (simp; omega) | (intro i k h; (try simp only at h); (try simp only); omega))
        have hz35 : E30 81 1 = ai_i z3 := (hG33 81 1 (by simp)).trans hz27
        have ghz35 := gv_eq hz35
        have hz36 : E30 81 21 = ai_i z28 := (hG33 81 21 (by simp)).trans hz28
        have ghz36 := gv_eq hz36
        refine Or.inl ⟨rfl, ?_⟩
        refine w_aload (i := 0) (npc := 58) rfl rfl rfl ?_
        refine w_const (n := 3200) (npc := 61) rfl ?_
        refine w_const (n := 2) (npc := 62) rfl ?_
        refine w_aload (i := 0) (npc := 63) rfl rfl rfl ?_
        refine w_const (n := 1) (npc := 64) rfl ?_
        refine w_const (n := 60) (npc := 66) rfl ?_
        refine w_virt (ci := 8) (i := 81) (npc := 69) (a := [cr 81, ai_i 1, ai_i 60]) (rest := [ai_i 2, ai_i 3200, cr 81]) rfl rfl (hI32.pl (by decide)) (hI32.T (by decide) rfl) rfl rfl rfl rfl (ct_m_readByte (sl := sl) (x := x) (d := d + 3) (1) (60) hI32) (Or.inl rfl) (fun k9 v9 T9 E38 nx9 kc9 ks9 hq37 hk9 hs9 => ?_)
        obtain ⟨rfl, rfl, rfl, hI40, hG41, z39, rfl, hz39⟩ := hq37
        obtain rfl : kc = kc9 := by omega
        obtain rfl : ks = ks9 := by omega
        have hF42 := cm_fr.trans hF34 hG41 (by first | (simp; done) | (simp; omega) | (intro i k h; (try simp only at h); (try simp only); omega))
        have hz43 : E38 81 1 = ai_i z3 := (hG41 81 1 (by simp)).trans hz35
        have ghz43 := gv_eq hz43
        refine Or.inr (Or.inl ⟨rfl, ?_⟩)
        obtain ⟨z44, hz44, hz44a, hz44b⟩ := hI40.int 81 21 (lo := 0) (hi := 3) (by decide) (by decide) rfl
        have ghz44 := gv_eq hz44
        refine w_virt (ci := 8) (i := 81) (npc := 72) (a := [cr 81, ai_i 3200, ai_i 2, ai_i z39]) (rest := []) rfl rfl (hI40.pl (by decide)) (hI40.T (by decide) rfl) rfl rfl rfl rfl (ct_m_put (sl := sl) (x := x) (d := d + 4) (3200) (2) (z39) hI40 (by omega) (by omega) (by omega)) (Or.inl rfl) (fun k9 v9 T9 E46 nx9 kc9 ks9 hq45 hk9 hs9 => ?_)
        obtain ⟨rfl, rfl, rfl, hI48, hG49, hz47⟩ := hq45
        obtain rfl : kc = kc9 := by omega
        obtain rfl : ks = ks9 := by omega
        have hF50 := cm_fr.trans hF42 hG49 (by first | (simp; done) | (simp; omega) | (intro i k h; (try simp only at h); (try simp only); omega))
        have hz51 : E46 81 1 = ai_i z3 := (hG49 81 1 (by simp)).trans hz43
        have ghz51 := gv_eq hz51
        have hz52 : E46 81 21 = ai_i z44 := (hG49 81 21 (by simp)).trans hz44
        have ghz52 := gv_eq hz52
        refine Or.inl ⟨rfl, ?_⟩
        refine w_const (n := 0) (npc := 73) rfl ?_
        refine w_istore (i := 1) (npc := 74) (loc' := [cr 81, ai_i 0, ai_un, ai_un]) rfl rfl ?_
        have loop74 : ∀ (nf : Nat) (w : Int) (u74_2 : ai_V) (u74_3 : ai_V) (Eq74 : cm_E), ((5 - w).toNat) < nf → cs_I T Eq74 nx → cm_fr (fun i k => (i = 81 ∧ (k = 19 ∨ k = 21 ∨ k = 22)) ∨ (i = 82 ∧ 531200 ≤ k)) E Eq74 → (0 ≤ w ∧ w ≤ 5 ∧ (gv Eq74 81 21 = 0 → gv Eq74 82 (166 * 3200 + 0 : Int).toNat ≤ 3 ∧ gv Eq74 82 (166 * 3200 + 1 : Int).toNat < gv Eq74 81 1 ∧ 1 ≤ gv Eq74 82 (166 * 3200 + 2 : Int).toNat ∧ gv Eq74 82 (166 * 3200 + 2 : Int).toNat ≤ 60) ∧ (∀ k : Int, 9 ≤ k → k < 166 → gv Eq74 82 (166 * 3200 + k).toNat = 0)) → cm_wp (ai_find ai_c200 sl) (ai_ev sl (d + 5)) x (kc + 0) (ks + 0) (fun rk rv T' E' nx' => rk = 0 ∧ T = T' ∧ nx = nx' ∧ cs_I T E' nx ∧ cm_fr (fun i k => (i = 81 ∧ (k = 19 ∨ k = 21 ∨ k = 22)) ∨ (i = 82 ∧ 531200 ≤ k)) E E' ∧ (gv E' 81 21 = 0 → rl_row E' 3200 ∧ rl_hd E' 3200)) 74 [cr 81, ai_i w, u74_2, u74_3] [] T Eq74 nx kc ks := by
          intro nf
          induction nf with
          | zero => intro w u74_2 u74_3 Eq74 hm; exact absurd hm (Nat.not_lt_zero _)
          | succ nf74 ih =>
            intro w u74_2 u74_3 Eq74 hm74 hI74 hF74 hv74
            obtain ⟨z53, hz53, hz53a, hz53b⟩ := hI74.int 81 21 (lo := 0) (hi := 3) (by decide) (by decide) rfl
            have ghz53 := gv_eq hz53
            obtain ⟨z54, hz54, hz54a, hz54b⟩ := hI74.int 81 1 (lo := 1) (hi := 5) (by decide) (by decide) rfl
            have ghz54 := gv_eq hz54
            have g0hz54 : gv E 81 1 = z54 := (gv_fr hF74 (by simp)).trans ghz54
            have ih74 := ih; clear ih
            refine w_iload (i := 1) (npc := 75) rfl rfl ?_
            refine w_const (n := 5) (npc := 76) rfl ?_
            refine w_icmp (c := .ge) (npc := 79) (pt := 159) rfl (fun hc55 => ?_) (fun hc55 => ?_)
            · replace hc55 : (5 : Int) ≤ w := hc55
              refine w_aload (i := 0) (npc := 160) rfl rfl rfl ?_
              refine w_const (n := 3200) (npc := 163) rfl ?_
              refine w_const (n := 8) (npc := 165) rfl ?_
              refine w_aload (i := 0) (npc := 166) rfl rfl rfl ?_
              refine w_const (n := 1) (npc := 167) rfl ?_
              refine w_const (n := 65535) (npc := 169) rfl ?_
              refine w_virt (ci := 8) (i := 81) (npc := 172) (a := [cr 81, ai_i 1, ai_i 65535]) (rest := [ai_i 8, ai_i 3200, cr 81]) rfl rfl (hI74.pl (by decide)) (hI74.T (by decide) rfl) rfl rfl rfl rfl (ct_m_readTwo (sl := sl) (x := x) (d := d + 2) (1) (65535) hI74) (Or.inl rfl) (fun k9 v9 T9 E57 nx9 kc9 ks9 hq56 hk9 hs9 => ?_)
              obtain ⟨rfl, rfl, rfl, hI59, hG60, z58, rfl, hz58⟩ := hq56
              obtain rfl : kc = kc9 := by omega
              obtain rfl : ks = ks9 := by omega
              have hF61 := cm_fr.trans hF74 hG60 (by first | (simp; done) | (simp; omega) | (intro i k h; (try simp only at h); (try simp only); omega))
              have hz62 : E57 81 1 = ai_i z54 := (hG60 81 1 (by simp)).trans hz54
              have ghz62 := gv_eq hz62
              refine Or.inr (Or.inl ⟨rfl, ?_⟩)
              obtain ⟨z63, hz63, hz63a, hz63b⟩ := hI59.int 81 21 (lo := 0) (hi := 3) (by decide) (by decide) rfl
              have ghz63 := gv_eq hz63
              refine w_virt (ci := 8) (i := 81) (npc := 175) (a := [cr 81, ai_i 3200, ai_i 8, ai_i z58]) (rest := []) rfl rfl (hI59.pl (by decide)) (hI59.T (by decide) rfl) rfl rfl rfl rfl (ct_m_put (sl := sl) (x := x) (d := d + 4) (3200) (8) (z58) hI59 (by omega) (by omega) (by omega)) (Or.inl rfl) (fun k9 v9 T9 E65 nx9 kc9 ks9 hq64 hk9 hs9 => ?_)
              obtain ⟨rfl, rfl, rfl, hI67, hG68, hz66⟩ := hq64
              obtain rfl : kc = kc9 := by omega
              obtain rfl : ks = ks9 := by omega
              have hF69 := cm_fr.trans hF61 hG68 (by first | (simp; done) | (simp; omega) | (intro i k h; (try simp only at h); (try simp only); omega))
              have hz70 : E65 81 1 = ai_i z54 := (hG68 81 1 (by simp)).trans hz62
              have ghz70 := gv_eq hz70
              have hz71 : E65 81 21 = ai_i z63 := (hG68 81 21 (by simp)).trans hz63
              have ghz71 := gv_eq hz71
              refine Or.inl ⟨rfl, ?_⟩
              refine w_aload (i := 0) (npc := 176) rfl rfl rfl ?_
              refine w_getf (i := 81) (ci := 8) (k := 21) (npc := 179) rfl (hI67.pl (by decide)) (hI67.T (by decide) rfl) (by decide) hz71 ?_
              refine w_if (c := .eq) (npc := 182) (pt := 183) rfl (fun hc72 => ?_) (fun hc72 => ?_)
              · replace hc72 : z63 = (0 : Int) := hc72
                refine w_aload (i := 0) (npc := 184) rfl rfl rfl ?_
                refine w_const (n := 3200) (npc := 187) rfl ?_
                refine w_const (n := 0) (npc := 188) rfl ?_
                refine w_virt (ci := 8) (i := 81) (npc := 191) (a := [cr 81, ai_i 3200, ai_i 0]) (rest := []) rfl rfl (hI67.pl (by decide)) (hI67.T (by decide) rfl) rfl rfl rfl rfl (ct_m_of (sl := sl) (x := x) (d := d + 4) (3200) (0) hI67 (by omega) (by omega) (by omega)) (Or.inl rfl) (fun k9 v9 T9 E74 nx9 kc9 ks9 hq73 hk9 hs9 => ?_)
                obtain ⟨rfl, rfl, rfl, rfl, z75, rfl, hz75⟩ := hq73
                obtain rfl : kc = kc9 := by omega
                obtain rfl : ks = ks9 := by omega
                refine Or.inr (Or.inl ⟨rfl, ?_⟩)
                refine w_istore (i := 1) (npc := 192) (loc' := [cr 81, ai_i z75, u74_2, u74_3]) rfl rfl ?_
                refine w_iload (i := 1) (npc := 193) rfl rfl ?_
                refine w_if (c := .ne) (npc := 196) (pt := 222) rfl (fun hc76 => ?_) (fun hc76 => ?_)
                · replace hc76 : z75 ≠ (0 : Int) := hc76
                  refine w_iload (i := 1) (npc := 223) rfl rfl ?_
                  refine w_const (n := 1) (npc := 224) rfl ?_
                  refine w_icmp (c := .ne) (npc := 227) (pt := 243) rfl (fun hc77 => ?_) (fun hc77 => ?_)
                  · replace hc77 : z75 ≠ (1 : Int) := hc77
                    refine w_iload (i := 1) (npc := 244) rfl rfl ?_
                    refine w_const (n := 2) (npc := 245) rfl ?_
                    refine w_icmp (c := .ne) (npc := 248) (pt := 275) rfl (fun hc78 => ?_) (fun hc78 => ?_)
                    · replace hc78 : z75 ≠ (2 : Int) := hc78
                      refine w_aload (i := 0) (npc := 276) rfl rfl rfl ?_
                      refine w_virt (ci := 8) (i := 81) (npc := 279) (a := [cr 81]) (rest := []) rfl rfl (hI67.pl (by decide)) (hI67.T (by decide) rfl) rfl rfl rfl rfl (ct_m_readMoves (sl := sl) (x := x) (d := d + 0)  hI67 (fun k k0 k1 => by rw [← gv_fr hG68 (by first | omega | (simp only; omega)), ← gv_fr hG60 (by first | omega | (simp only; omega))]; exact hv74.2.2.2 k k0 k1)) (Or.inl rfl) (fun k9 v9 T9 E80 nx9 kc9 ks9 hq79 hk9 hs9 => ?_)
                      obtain ⟨rfl, rfl, rfl, hI82, hG83, hz81⟩ := hq79
                      obtain rfl : kc = kc9 := by omega
                      obtain rfl : ks = ks9 := by omega
                      have hF84 := cm_fr.trans hF69 hG83 (by first | (simp; done) | (simp; omega) | (intro i k h; (try simp only at h); (try simp only); omega))
                      have hz85 : E80 81 1 = ai_i z54 := (hG83 81 1 (by simp)).trans hz70
                      have ghz85 := gv_eq hz85
                      refine Or.inl ⟨rfl, ?_⟩
                      have hrow : gv E80 81 21 = 0 → rl_row E80 3200 ∧ rl_hd E80 3200 := fun hz0 => by
                        obtain ⟨d1, d2, d3, d4⟩ := hv74
                        have m0 := hz58
                        have m1 := hz66
                        have m2 := hz81
                        have y0_0 := gv_fr hG60 (i := 81) (k := 1) (by first | (simp; done) | omega | (simp only; omega) | (simp; omega))
                        have y0_1 := gv_fr hG60 (i := 82) (k := (166 * 3200 + 0 : Int).toNat) (by first | (simp; done) | omega | (simp only; omega) | (simp; omega))
                        have y0_2 := gv_fr hG60 (i := 82) (k := (166 * 3200 + 1 : Int).toNat) (by first | (simp; done) | omega | (simp only; omega) | (simp; omega))
                        have y0_3 := gv_fr hG60 (i := 82) (k := (166 * 3200 + 2 : Int).toNat) (by first | (simp; done) | omega | (simp only; omega) | (simp; omega))
                        have y1_0 := gv_fr hG68 (i := 81) (k := 1) (by first | (simp; done) | omega | (simp only; omega) | (simp; omega))
                        have y1_1 := gv_fr hG68 (i := 82) (k := (166 * 3200 + 0 : Int).toNat) (by first | (simp; done) | omega | (simp only; omega) | (simp; omega))
                        have y1_2 := gv_fr hG68 (i := 82) (k := (166 * 3200 + 1 : Int).toNat) (by first | (simp; done) | omega | (simp only; omega) | (simp; omega))
                        have y1_3 := gv_fr hG68 (i := 82) (k := (166 * 3200 + 2 : Int).toNat) (by first | (simp; done) | omega | (simp only; omega) | (simp; omega))
                        have y2_0 := gv_fr hG83 (i := 81) (k := 1) (by first | (simp; done) | omega | (simp only; omega) | (simp; omega))
                        have y2_1 := gv_fr hG83 (i := 82) (k := (166 * 3200 + 0 : Int).toNat) (by first | (simp; done) | omega | (simp only; omega) | (simp; omega))
                        have y2_2 := gv_fr hG83 (i := 82) (k := (166 * 3200 + 1 : Int).toNat) (by first | (simp; done) | omega | (simp only; omega) | (simp; omega))
                        have y2_3 := gv_fr hG83 (i := 82) (k := (166 * 3200 + 2 : Int).toNat) (by first | (simp; done) | omega | (simp only; omega) | (simp; omega))
                        have w0_0 := gv_fr hG83 (i := 82) (k := (166 * 3200 + 8 : Int).toNat) (by first | (simp; done) | omega | (simp only; omega) | (simp; omega))
                        have v10_0 := gv_fr hG68 (i := 81) (k := 21) (by first | (simp; done) | omega | (simp only; omega) | (simp; omega))
                        exact hand_ok (E := E80) (a := gv E80 82 (166 * 3200 + 0 : Int).toNat) (p := gv E80 82 (166 * 3200 + 1 : Int).toNat) (m := gv E80 82 (166 * 3200 + 2 : Int).toNat - 1) rfl rfl (by omega) (by omega) (by omega) (by omega) (by omega) (by omega) (fun h0 => by omega) (fun h0 => by omega) (fun _ => ⟨by omega, hz81.2⟩)
                      refine w_const (n := 0) (npc := 280) rfl ?_
                      refine w_istore (i := 2) (npc := 281) (loc' := [cr 81, ai_i z75, ai_i 0, u74_3]) rfl rfl ?_
                      refine w_const (n := 0) (npc := 282) rfl ?_
                      refine w_istore (i := 3) (npc := 283) (loc' := [cr 81, ai_i z75, ai_i 0, ai_i 0]) rfl rfl ?_
                      have loop283 : ∀ (nf : Nat) (s : Int) (k : Int), ((400 - k).toNat) < nf → (0 ≤ k ∧ k ≤ 400 ∧ 0 ≤ s ∧ s ≤ 255 * k) → cm_wp (ai_find ai_c200 sl) (ai_ev sl (d + 5)) x (kc + 0) (ks + 0) (fun rk rv T' E' nx' => rk = 0 ∧ T = T' ∧ nx = nx' ∧ cs_I T E' nx ∧ cm_fr (fun i k => (i = 81 ∧ (k = 19 ∨ k = 21 ∨ k = 22)) ∨ (i = 82 ∧ 531200 ≤ k)) E E' ∧ (gv E' 81 21 = 0 → rl_row E' 3200 ∧ rl_hd E' 3200)) 283 [cr 81, ai_i z75, ai_i s, ai_i k] [] T E80 nx kc ks := by
                        intro nf
                        induction nf with
                        | zero => intro s k hm; exact absurd hm (Nat.not_lt_zero _)
                        | succ nf283 ih =>
                          intro s k hm283 hv283
                          have ih283 := ih; clear ih
                          refine w_iload (i := 3) (npc := 284) rfl rfl ?_
                          refine w_aload (i := 0) (npc := 285) rfl rfl rfl ?_
                          obtain ⟨z86, hz86, hz86a, hz86b⟩ := hI82.int 81 19 (lo := 0) (hi := 400) (by decide) (by decide) rfl
                          have ghz86 := gv_eq hz86
                          refine w_getf (i := 81) (ci := 8) (k := 19) (npc := 288) rfl (hI82.pl (by decide)) (hI82.T (by decide) rfl) (by decide) hz86 ?_
                          refine w_icmp (c := .ge) (npc := 291) (pt := 313) rfl (fun hc87 => ?_) (fun hc87 => ?_)
                          · replace hc87 : z86 ≤ k := hc87
                            refine w_aload (i := 0) (npc := 314) rfl rfl rfl ?_
                            refine w_const (n := 0) (npc := 315) rfl ?_
                            refine w_const (n := 255) (npc := 318) rfl ?_
                            obtain ⟨z88, hz88, hz88a, hz88b⟩ := hI82.int 81 21 (lo := 0) (hi := 3) (by decide) (by decide) rfl
                            have ghz88 := gv_eq hz88
                            refine w_virt (ci := 8) (i := 81) (npc := 321) (a := [cr 81, ai_i 0, ai_i 255]) (rest := []) rfl rfl (hI82.pl (by decide)) (hI82.T (by decide) rfl) rfl rfl rfl rfl (ct_m_readByte2 (sl := sl) (x := x) (d := d + 3) (0) (255) hI82) (Or.inl rfl) (fun k9 v9 T9 E90 nx9 kc9 ks9 hq89 hk9 hs9 => ?_)
                            obtain ⟨rfl, rfl, rfl, hI92, hG93, z91, rfl, hz91⟩ := hq89
                            obtain rfl : kc = kc9 := by omega
                            obtain rfl : ks = ks9 := by omega
                            have hF94 := cm_fr.trans hF84 hG93 (by first | (simp; done) | (simp; omega) | (intro i k h; (try simp only at h); (try simp only); omega))
                            have hz95 : E90 81 1 = ai_i z54 := (hG93 81 1 (by simp)).trans hz85
                            have ghz95 := gv_eq hz95
                            refine Or.inr (Or.inl ⟨rfl, ?_⟩)
                            refine w_istore (i := 3) (npc := 322) (loc' := [cr 81, ai_i z75, ai_i s, ai_i z91]) rfl rfl ?_
                            refine w_aload (i := 0) (npc := 323) rfl rfl rfl ?_
                            obtain ⟨z96, hz96, hz96a, hz96b⟩ := hI92.int 81 21 (lo := 0) (hi := 3) (by decide) (by decide) rfl
                            have ghz96 := gv_eq hz96
                            refine w_getf (i := 81) (ci := 8) (k := 21) (npc := 326) rfl (hI92.pl (by decide)) (hI92.T (by decide) rfl) (by decide) hz96 ?_
                            refine w_if (c := .ne) (npc := 329) (pt := 349) rfl (fun hc97 => ?_) (fun hc97 => ?_)
                            · replace hc97 : z96 ≠ (0 : Int) := hc97
                              refine w_aload (i := 0) (npc := 350) rfl rfl rfl ?_
                              refine w_getf (i := 81) (ci := 8) (k := 21) (npc := 353) rfl (hI92.pl (by decide)) (hI92.T (by decide) rfl) (by decide) hz96 ?_
                              refine w_if (c := .ne) (npc := 356) (pt := 376) rfl (fun hc98 => ?_) (fun hc98 => ?_)
                              · replace hc98 : z96 ≠ (0 : Int) := hc98
                                exact w_vret rfl (⟨rfl, rfl, rfl, hI92, hF94, fun hz9 => by have r9 := hrow (hz91.2.2 hz9).1; exact ⟨r9.1.of (fun k k0 k1 => (gv_fr hG93 (by simp)).symm), r9.2.of (fun k k0 k1 => (gv_fr hG93 (by simp)).symm) (gv_fr hG93 (by simp)).symm⟩⟩) (by omega) (by omega)
                              · replace hc98 : ¬ (z96 ≠ (0 : Int)) := hc98
                                refine w_aload (i := 0) (npc := 357) rfl rfl rfl ?_
                                obtain ⟨z99, hz99, hz99a, hz99b⟩ := hI92.int 81 19 (lo := 0) (hi := 400) (by decide) (by decide) rfl
                                have ghz99 := gv_eq hz99
                                refine w_getf (i := 81) (ci := 8) (k := 19) (npc := 360) rfl (hI92.pl (by decide)) (hI92.T (by decide) rfl) (by decide) hz99 ?_
                                refine w_aload (i := 0) (npc := 361) rfl rfl rfl ?_
                                obtain ⟨z100, hz100, hz100a, hz100b⟩ := hI92.int 81 20 (lo := 0) (hi := 400) (by decide) (by decide) rfl
                                have ghz100 := gv_eq hz100
                                have g0hz100 : gv E 81 20 = z100 := (gv_fr hF94 (by simp)).trans ghz100
                                refine w_getf (i := 81) (ci := 8) (k := 20) (npc := 364) rfl (hI92.pl (by decide)) (hI92.T (by decide) rfl) (by decide) hz100 ?_
                                refine w_icmp (c := .ge) (npc := 367) (pt := 376) rfl (fun hc101 => ?_) (fun hc101 => ?_)
                                · replace hc101 : z100 ≤ z99 := hc101
                                  exact w_vret rfl (⟨rfl, rfl, rfl, hI92, hF94, fun hz9 => by have r9 := hrow (hz91.2.2 hz9).1; exact ⟨r9.1.of (fun k k0 k1 => (gv_fr hG93 (by simp)).symm), r9.2.of (fun k k0 k1 => (gv_fr hG93 (by simp)).symm) (gv_fr hG93 (by simp)).symm⟩⟩) (by omega) (by omega)
                                · replace hc101 : ¬ (z100 ≤ z99) := hc101
                                  refine w_aload (i := 0) (npc := 368) rfl rfl rfl ?_
                                  refine w_const (n := 1) (npc := 369) rfl ?_
                                  refine w_aload (i := 0) (npc := 370) rfl rfl rfl ?_
                                  refine w_getf (i := 81) (ci := 8) (k := 19) (npc := 373) rfl (hI92.pl (by decide)) (hI92.T (by decide) rfl) (by decide) hz99 ?_
                                  refine w_virt (ci := 8) (i := 81) (npc := 376) (a := [cr 81, ai_i 1, ai_i z99]) (rest := []) rfl rfl (hI92.pl (by decide)) (hI92.T (by decide) rfl) rfl rfl rfl rfl (ct_m_wrong (sl := sl) (x := x) (d := d + 4) (1) (z99) hI92 (by omega) (by omega)) (Or.inl rfl) (fun k9 v9 T9 E103 nx9 kc9 ks9 hq102 hk9 hs9 => ?_)
                                  obtain ⟨rfl, rfl, rfl, hI105, hG106, hz104⟩ := hq102
                                  obtain rfl : kc = kc9 := by omega
                                  obtain rfl : ks = ks9 := by omega
                                  have hF107 := cm_fr.trans hF94 hG106 (by first | (simp; done) | (simp; omega) | (intro i k h; (try simp only at h); (try simp only); omega))
                                  have hz108 : E103 81 1 = ai_i z54 := (hG106 81 1 (by simp)).trans hz95
                                  have ghz108 := gv_eq hz108
                                  have hz109 : E103 81 19 = ai_i z99 := (hG106 81 19 (by simp)).trans hz99
                                  have ghz109 := gv_eq hz109
                                  have hz110 : E103 81 20 = ai_i z100 := (hG106 81 20 (by simp)).trans hz100
                                  have ghz110 := gv_eq hz110
                                  refine Or.inl ⟨rfl, ?_⟩
                                  exact w_vret rfl (⟨rfl, rfl, rfl, hI105, hF107, fun hz9 => absurd hz9 (by omega)⟩) (by omega) (by omega)
                            · replace hc97 : ¬ (z96 ≠ (0 : Int)) := hc97
                              refine w_iload (i := 3) (npc := 330) rfl rfl ?_
                              refine w_iload (i := 2) (npc := 331) rfl rfl ?_
                              refine w_const (n := 256) (npc := 334) rfl ?_
                              refine w_irem (npc := 335) rfl (by omega) (by omega) (fun z111 hz111 hz111b => ?_)
                              refine w_icmp (c := .eq) (npc := 338) (pt := 349) rfl (fun hc112 => ?_) (fun hc112 => ?_)
                              · replace hc112 : z91 = z111 := hc112
                                refine w_aload (i := 0) (npc := 350) rfl rfl rfl ?_
                                refine w_getf (i := 81) (ci := 8) (k := 21) (npc := 353) rfl (hI92.pl (by decide)) (hI92.T (by decide) rfl) (by decide) hz96 ?_
                                refine w_if (c := .ne) (npc := 356) (pt := 376) rfl (fun hc113 => ?_) (fun hc113 => ?_)
                                · replace hc113 : z96 ≠ (0 : Int) := hc113
                                  exact w_vret rfl (⟨rfl, rfl, rfl, hI92, hF94, fun hz9 => by have r9 := hrow (hz91.2.2 hz9).1; exact ⟨r9.1.of (fun k k0 k1 => (gv_fr hG93 (by simp)).symm), r9.2.of (fun k k0 k1 => (gv_fr hG93 (by simp)).symm) (gv_fr hG93 (by simp)).symm⟩⟩) (by omega) (by omega)
                                · replace hc113 : ¬ (z96 ≠ (0 : Int)) := hc113
                                  refine w_aload (i := 0) (npc := 357) rfl rfl rfl ?_
                                  obtain ⟨z114, hz114, hz114a, hz114b⟩ := hI92.int 81 19 (lo := 0) (hi := 400) (by decide) (by decide) rfl
                                  have ghz114 := gv_eq hz114
                                  refine w_getf (i := 81) (ci := 8) (k := 19) (npc := 360) rfl (hI92.pl (by decide)) (hI92.T (by decide) rfl) (by decide) hz114 ?_
                                  refine w_aload (i := 0) (npc := 361) rfl rfl rfl ?_
                                  obtain ⟨z115, hz115, hz115a, hz115b⟩ := hI92.int 81 20 (lo := 0) (hi := 400) (by decide) (by decide) rfl
                                  have ghz115 := gv_eq hz115
                                  have g0hz115 : gv E 81 20 = z115 := (gv_fr hF94 (by simp)).trans ghz115
                                  refine w_getf (i := 81) (ci := 8) (k := 20) (npc := 364) rfl (hI92.pl (by decide)) (hI92.T (by decide) rfl) (by decide) hz115 ?_
                                  refine w_icmp (c := .ge) (npc := 367) (pt := 376) rfl (fun hc116 => ?_) (fun hc116 => ?_)
                                  · replace hc116 : z115 ≤ z114 := hc116
                                    exact w_vret rfl (⟨rfl, rfl, rfl, hI92, hF94, fun hz9 => by have r9 := hrow (hz91.2.2 hz9).1; exact ⟨r9.1.of (fun k k0 k1 => (gv_fr hG93 (by simp)).symm), r9.2.of (fun k k0 k1 => (gv_fr hG93 (by simp)).symm) (gv_fr hG93 (by simp)).symm⟩⟩) (by omega) (by omega)
                                  · replace hc116 : ¬ (z115 ≤ z114) := hc116
                                    refine w_aload (i := 0) (npc := 368) rfl rfl rfl ?_
                                    refine w_const (n := 1) (npc := 369) rfl ?_
                                    refine w_aload (i := 0) (npc := 370) rfl rfl rfl ?_
                                    refine w_getf (i := 81) (ci := 8) (k := 19) (npc := 373) rfl (hI92.pl (by decide)) (hI92.T (by decide) rfl) (by decide) hz114 ?_
                                    refine w_virt (ci := 8) (i := 81) (npc := 376) (a := [cr 81, ai_i 1, ai_i z114]) (rest := []) rfl rfl (hI92.pl (by decide)) (hI92.T (by decide) rfl) rfl rfl rfl rfl (ct_m_wrong (sl := sl) (x := x) (d := d + 4) (1) (z114) hI92 (by omega) (by omega)) (Or.inl rfl) (fun k9 v9 T9 E118 nx9 kc9 ks9 hq117 hk9 hs9 => ?_)
                                    obtain ⟨rfl, rfl, rfl, hI120, hG121, hz119⟩ := hq117
                                    obtain rfl : kc = kc9 := by omega
                                    obtain rfl : ks = ks9 := by omega
                                    have hF122 := cm_fr.trans hF94 hG121 (by first | (simp; done) | (simp; omega) | (intro i k h; (try simp only at h); (try simp only); omega))
                                    have hz123 : E118 81 1 = ai_i z54 := (hG121 81 1 (by simp)).trans hz95
                                    have ghz123 := gv_eq hz123
                                    have hz124 : E118 81 19 = ai_i z114 := (hG121 81 19 (by simp)).trans hz114
                                    have ghz124 := gv_eq hz124
                                    have hz125 : E118 81 20 = ai_i z115 := (hG121 81 20 (by simp)).trans hz115
                                    have ghz125 := gv_eq hz125
                                    refine Or.inl ⟨rfl, ?_⟩
                                    exact w_vret rfl (⟨rfl, rfl, rfl, hI120, hF122, fun hz9 => absurd hz9 (by omega)⟩) (by omega) (by omega)
                              · replace hc112 : ¬ (z91 = z111) := hc112
                                refine w_aload (i := 0) (npc := 339) rfl rfl rfl ?_
                                refine w_const (n := 3) (npc := 340) rfl ?_
                                refine w_aload (i := 0) (npc := 341) rfl rfl rfl ?_
                                obtain ⟨z126, hz126, hz126a, hz126b⟩ := hI92.int 81 19 (lo := 0) (hi := 400) (by decide) (by decide) rfl
                                have ghz126 := gv_eq hz126
                                refine w_getf (i := 81) (ci := 8) (k := 19) (npc := 344) rfl (hI92.pl (by decide)) (hI92.T (by decide) rfl) (by decide) hz126 ?_
                                refine w_const (n := 1) (npc := 345) rfl ?_
                                refine w_isub (npc := 346) rfl (by omega) ?_
                                refine w_virt (ci := 8) (i := 81) (npc := 349) (a := [cr 81, ai_i 3, ai_i (z126 - 1)]) (rest := []) rfl rfl (hI92.pl (by decide)) (hI92.T (by decide) rfl) rfl rfl rfl rfl (ct_m_wrong (sl := sl) (x := x) (d := d + 4) (3) (z126 - 1) hI92 (by omega) (by omega)) (Or.inl rfl) (fun k9 v9 T9 E129 nx9 kc9 ks9 hq128 hk9 hs9 => ?_)
                                obtain ⟨rfl, rfl, rfl, hI131, hG132, hz130⟩ := hq128
                                obtain rfl : kc = kc9 := by omega
                                obtain rfl : ks = ks9 := by omega
                                have hF133 := cm_fr.trans hF94 hG132 (by first | (simp; done) | (simp; omega) | (intro i k h; (try simp only at h); (try simp only); omega))
                                have hz134 : E129 81 1 = ai_i z54 := (hG132 81 1 (by simp)).trans hz95
                                have ghz134 := gv_eq hz134
                                have hz135 : E129 81 19 = ai_i z126 := (hG132 81 19 (by simp)).trans hz126
                                have ghz135 := gv_eq hz135
                                refine Or.inl ⟨rfl, ?_⟩
                                refine w_aload (i := 0) (npc := 350) rfl rfl rfl ?_
                                obtain ⟨z136, hz136, hz136a, hz136b⟩ := hI131.int 81 21 (lo := 0) (hi := 3) (by decide) (by decide) rfl
                                have ghz136 := gv_eq hz136
                                refine w_getf (i := 81) (ci := 8) (k := 21) (npc := 353) rfl (hI131.pl (by decide)) (hI131.T (by decide) rfl) (by decide) hz136 ?_
                                refine w_if (c := .ne) (npc := 356) (pt := 376) rfl (fun hc137 => ?_) (fun hc137 => ?_)
                                · replace hc137 : z136 ≠ (0 : Int) := hc137
                                  exact w_vret rfl (⟨rfl, rfl, rfl, hI131, hF133, fun hz9 => absurd hz9 (by omega)⟩) (by omega) (by omega)
                                · replace hc137 : ¬ (z136 ≠ (0 : Int)) := hc137
                                  refine w_aload (i := 0) (npc := 357) rfl rfl rfl ?_
                                  refine w_getf (i := 81) (ci := 8) (k := 19) (npc := 360) rfl (hI131.pl (by decide)) (hI131.T (by decide) rfl) (by decide) hz135 ?_
                                  refine w_aload (i := 0) (npc := 361) rfl rfl rfl ?_
                                  obtain ⟨z138, hz138, hz138a, hz138b⟩ := hI131.int 81 20 (lo := 0) (hi := 400) (by decide) (by decide) rfl
                                  have ghz138 := gv_eq hz138
                                  have g0hz138 : gv E 81 20 = z138 := (gv_fr hF133 (by simp)).trans ghz138
                                  refine w_getf (i := 81) (ci := 8) (k := 20) (npc := 364) rfl (hI131.pl (by decide)) (hI131.T (by decide) rfl) (by decide) hz138 ?_
                                  refine w_icmp (c := .ge) (npc := 367) (pt := 376) rfl (fun hc139 => ?_) (fun hc139 => ?_)
                                  · replace hc139 : z138 ≤ z126 := hc139
                                    exact w_vret rfl (⟨rfl, rfl, rfl, hI131, hF133, fun hz9 => absurd hz9 (by omega)⟩) (by omega) (by omega)
                                  · replace hc139 : ¬ (z138 ≤ z126) := hc139
                                    refine w_aload (i := 0) (npc := 368) rfl rfl rfl ?_
                                    refine w_const (n := 1) (npc := 369) rfl ?_
                                    refine w_aload (i := 0) (npc := 370) rfl rfl rfl ?_
                                    refine w_getf (i := 81) (ci := 8) (k := 19) (npc := 373) rfl (hI131.pl (by decide)) (hI131.T (by decide) rfl) (by decide) hz135 ?_
                                    refine w_virt (ci := 8) (i := 81) (npc := 376) (a := [cr 81, ai_i 1, ai_i z126]) (rest := []) rfl rfl (hI131.pl (by decide)) (hI131.T (by decide) rfl) rfl rfl rfl rfl (ct_m_wrong (sl := sl) (x := x) (d := d + 4) (1) (z126) hI131 (by omega) (by omega)) (Or.inl rfl) (fun k9 v9 T9 E141 nx9 kc9 ks9 hq140 hk9 hs9 => ?_)
                                    obtain ⟨rfl, rfl, rfl, hI143, hG144, hz142⟩ := hq140
                                    obtain rfl : kc = kc9 := by omega
                                    obtain rfl : ks = ks9 := by omega
                                    have hF145 := cm_fr.trans hF133 hG144 (by first | (simp; done) | (simp; omega) | (intro i k h; (try simp only at h); (try simp only); omega))
                                    have hz146 : E141 81 1 = ai_i z54 := (hG144 81 1 (by simp)).trans hz134
                                    have ghz146 := gv_eq hz146
                                    have hz147 : E141 81 19 = ai_i z126 := (hG144 81 19 (by simp)).trans hz135
                                    have ghz147 := gv_eq hz147
                                    have hz148 : E141 81 20 = ai_i z138 := (hG144 81 20 (by simp)).trans hz138
                                    have ghz148 := gv_eq hz148
                                    refine Or.inl ⟨rfl, ?_⟩
                                    exact w_vret rfl (⟨rfl, rfl, rfl, hI143, hF145, fun hz9 => absurd hz9 (by omega)⟩) (by omega) (by omega)
                          · replace hc87 : ¬ (z86 ≤ k) := hc87
                            refine w_aload (i := 0) (npc := 292) rfl rfl rfl ?_
                            obtain ⟨z149, hz149, hz149a, hz149b⟩ := hI82.int 81 21 (lo := 0) (hi := 3) (by decide) (by decide) rfl
                            have ghz149 := gv_eq hz149
                            refine w_getf (i := 81) (ci := 8) (k := 21) (npc := 295) rfl (hI82.pl (by decide)) (hI82.T (by decide) rfl) (by decide) hz149 ?_
                            refine w_if (c := .ne) (npc := 298) (pt := 313) rfl (fun hc150 => ?_) (fun hc150 => ?_)
                            · replace hc150 : z149 ≠ (0 : Int) := hc150
                              refine w_aload (i := 0) (npc := 314) rfl rfl rfl ?_
                              refine w_const (n := 0) (npc := 315) rfl ?_
                              refine w_const (n := 255) (npc := 318) rfl ?_
                              refine w_virt (ci := 8) (i := 81) (npc := 321) (a := [cr 81, ai_i 0, ai_i 255]) (rest := []) rfl rfl (hI82.pl (by decide)) (hI82.T (by decide) rfl) rfl rfl rfl rfl (ct_m_readByte2 (sl := sl) (x := x) (d := d + 3) (0) (255) hI82) (Or.inl rfl) (fun k9 v9 T9 E152 nx9 kc9 ks9 hq151 hk9 hs9 => ?_)
                              obtain ⟨rfl, rfl, rfl, hI154, hG155, z153, rfl, hz153⟩ := hq151
                              obtain rfl : kc = kc9 := by omega
                              obtain rfl : ks = ks9 := by omega
                              have hF156 := cm_fr.trans hF84 hG155 (by first | (simp; done) | (simp; omega) | (intro i k h; (try simp only at h); (try simp only); omega))
                              have hz157 : E152 81 1 = ai_i z54 := (hG155 81 1 (by simp)).trans hz85
                              have ghz157 := gv_eq hz157
                              refine Or.inr (Or.inl ⟨rfl, ?_⟩)
                              refine w_istore (i := 3) (npc := 322) (loc' := [cr 81, ai_i z75, ai_i s, ai_i z153]) rfl rfl ?_
                              refine w_aload (i := 0) (npc := 323) rfl rfl rfl ?_
                              obtain ⟨z158, hz158, hz158a, hz158b⟩ := hI154.int 81 21 (lo := 0) (hi := 3) (by decide) (by decide) rfl
                              have ghz158 := gv_eq hz158
                              refine w_getf (i := 81) (ci := 8) (k := 21) (npc := 326) rfl (hI154.pl (by decide)) (hI154.T (by decide) rfl) (by decide) hz158 ?_
                              refine w_if (c := .ne) (npc := 329) (pt := 349) rfl (fun hc159 => ?_) (fun hc159 => ?_)
                              · replace hc159 : z158 ≠ (0 : Int) := hc159
                                refine w_aload (i := 0) (npc := 350) rfl rfl rfl ?_
                                refine w_getf (i := 81) (ci := 8) (k := 21) (npc := 353) rfl (hI154.pl (by decide)) (hI154.T (by decide) rfl) (by decide) hz158 ?_
                                refine w_if (c := .ne) (npc := 356) (pt := 376) rfl (fun hc160 => ?_) (fun hc160 => ?_)
                                · replace hc160 : z158 ≠ (0 : Int) := hc160
                                  exact w_vret rfl (⟨rfl, rfl, rfl, hI154, hF156, fun hz9 => by have r9 := hrow (hz153.2.2 hz9).1; exact ⟨r9.1.of (fun k k0 k1 => (gv_fr hG155 (by simp)).symm), r9.2.of (fun k k0 k1 => (gv_fr hG155 (by simp)).symm) (gv_fr hG155 (by simp)).symm⟩⟩) (by omega) (by omega)
                                · replace hc160 : ¬ (z158 ≠ (0 : Int)) := hc160
                                  refine w_aload (i := 0) (npc := 357) rfl rfl rfl ?_
                                  obtain ⟨z161, hz161, hz161a, hz161b⟩ := hI154.int 81 19 (lo := 0) (hi := 400) (by decide) (by decide) rfl
                                  have ghz161 := gv_eq hz161
                                  refine w_getf (i := 81) (ci := 8) (k := 19) (npc := 360) rfl (hI154.pl (by decide)) (hI154.T (by decide) rfl) (by decide) hz161 ?_
                                  refine w_aload (i := 0) (npc := 361) rfl rfl rfl ?_
                                  obtain ⟨z162, hz162, hz162a, hz162b⟩ := hI154.int 81 20 (lo := 0) (hi := 400) (by decide) (by decide) rfl
                                  have ghz162 := gv_eq hz162
                                  have g0hz162 : gv E 81 20 = z162 := (gv_fr hF156 (by simp)).trans ghz162
                                  refine w_getf (i := 81) (ci := 8) (k := 20) (npc := 364) rfl (hI154.pl (by decide)) (hI154.T (by decide) rfl) (by decide) hz162 ?_
                                  refine w_icmp (c := .ge) (npc := 367) (pt := 376) rfl (fun hc163 => ?_) (fun hc163 => ?_)
                                  · replace hc163 : z162 ≤ z161 := hc163
                                    exact w_vret rfl (⟨rfl, rfl, rfl, hI154, hF156, fun hz9 => by have r9 := hrow (hz153.2.2 hz9).1; exact ⟨r9.1.of (fun k k0 k1 => (gv_fr hG155 (by simp)).symm), r9.2.of (fun k k0 k1 => (gv_fr hG155 (by simp)).symm) (gv_fr hG155 (by simp)).symm⟩⟩) (by omega) (by omega)
                                  · replace hc163 : ¬ (z162 ≤ z161) := hc163
                                    refine w_aload (i := 0) (npc := 368) rfl rfl rfl ?_
                                    refine w_const (n := 1) (npc := 369) rfl ?_
                                    refine w_aload (i := 0) (npc := 370) rfl rfl rfl ?_
                                    refine w_getf (i := 81) (ci := 8) (k := 19) (npc := 373) rfl (hI154.pl (by decide)) (hI154.T (by decide) rfl) (by decide) hz161 ?_
                                    refine w_virt (ci := 8) (i := 81) (npc := 376) (a := [cr 81, ai_i 1, ai_i z161]) (rest := []) rfl rfl (hI154.pl (by decide)) (hI154.T (by decide) rfl) rfl rfl rfl rfl (ct_m_wrong (sl := sl) (x := x) (d := d + 4) (1) (z161) hI154 (by omega) (by omega)) (Or.inl rfl) (fun k9 v9 T9 E165 nx9 kc9 ks9 hq164 hk9 hs9 => ?_)
                                    obtain ⟨rfl, rfl, rfl, hI167, hG168, hz166⟩ := hq164
                                    obtain rfl : kc = kc9 := by omega
                                    obtain rfl : ks = ks9 := by omega
                                    have hF169 := cm_fr.trans hF156 hG168 (by first | (simp; done) | (simp; omega) | (intro i k h; (try simp only at h); (try simp only); omega))
                                    have hz170 : E165 81 1 = ai_i z54 := (hG168 81 1 (by simp)).trans hz157
                                    have ghz170 := gv_eq hz170
                                    have hz171 : E165 81 19 = ai_i z161 := (hG168 81 19 (by simp)).trans hz161
                                    have ghz171 := gv_eq hz171
                                    have hz172 : E165 81 20 = ai_i z162 := (hG168 81 20 (by simp)).trans hz162
                                    have ghz172 := gv_eq hz172
                                    refine Or.inl ⟨rfl, ?_⟩
                                    exact w_vret rfl (⟨rfl, rfl, rfl, hI167, hF169, fun hz9 => absurd hz9 (by omega)⟩) (by omega) (by omega)
                              · replace hc159 : ¬ (z158 ≠ (0 : Int)) := hc159
                                refine w_iload (i := 3) (npc := 330) rfl rfl ?_
                                refine w_iload (i := 2) (npc := 331) rfl rfl ?_
                                refine w_const (n := 256) (npc := 334) rfl ?_
                                refine w_irem (npc := 335) rfl (by omega) (by omega) (fun z173 hz173 hz173b => ?_)
                                refine w_icmp (c := .eq) (npc := 338) (pt := 349) rfl (fun hc174 => ?_) (fun hc174 => ?_)
                                · replace hc174 : z153 = z173 := hc174
                                  refine w_aload (i := 0) (npc := 350) rfl rfl rfl ?_
                                  refine w_getf (i := 81) (ci := 8) (k := 21) (npc := 353) rfl (hI154.pl (by decide)) (hI154.T (by decide) rfl) (by decide) hz158 ?_
                                  refine w_if (c := .ne) (npc := 356) (pt := 376) rfl (fun hc175 => ?_) (fun hc175 => ?_)
                                  · replace hc175 : z158 ≠ (0 : Int) := hc175
                                    exact w_vret rfl (⟨rfl, rfl, rfl, hI154, hF156, fun hz9 => by have r9 := hrow (hz153.2.2 hz9).1; exact ⟨r9.1.of (fun k k0 k1 => (gv_fr hG155 (by simp)).symm), r9.2.of (fun k k0 k1 => (gv_fr hG155 (by simp)).symm) (gv_fr hG155 (by simp)).symm⟩⟩) (by omega) (by omega)
                                  · replace hc175 : ¬ (z158 ≠ (0 : Int)) := hc175
                                    refine w_aload (i := 0) (npc := 357) rfl rfl rfl ?_
                                    obtain ⟨z176, hz176, hz176a, hz176b⟩ := hI154.int 81 19 (lo := 0) (hi := 400) (by decide) (by decide) rfl
                                    have ghz176 := gv_eq hz176
                                    refine w_getf (i := 81) (ci := 8) (k := 19) (npc := 360) rfl (hI154.pl (by decide)) (hI154.T (by decide) rfl) (by decide) hz176 ?_
                                    refine w_aload (i := 0) (npc := 361) rfl rfl rfl ?_
                                    obtain ⟨z177, hz177, hz177a, hz177b⟩ := hI154.int 81 20 (lo := 0) (hi := 400) (by decide) (by decide) rfl
                                    have ghz177 := gv_eq hz177
                                    have g0hz177 : gv E 81 20 = z177 := (gv_fr hF156 (by simp)).trans ghz177
                                    refine w_getf (i := 81) (ci := 8) (k := 20) (npc := 364) rfl (hI154.pl (by decide)) (hI154.T (by decide) rfl) (by decide) hz177 ?_
                                    refine w_icmp (c := .ge) (npc := 367) (pt := 376) rfl (fun hc178 => ?_) (fun hc178 => ?_)
                                    · replace hc178 : z177 ≤ z176 := hc178
                                      exact w_vret rfl (⟨rfl, rfl, rfl, hI154, hF156, fun hz9 => by have r9 := hrow (hz153.2.2 hz9).1; exact ⟨r9.1.of (fun k k0 k1 => (gv_fr hG155 (by simp)).symm), r9.2.of (fun k k0 k1 => (gv_fr hG155 (by simp)).symm) (gv_fr hG155 (by simp)).symm⟩⟩) (by omega) (by omega)
                                    · replace hc178 : ¬ (z177 ≤ z176) := hc178
                                      refine w_aload (i := 0) (npc := 368) rfl rfl rfl ?_
                                      refine w_const (n := 1) (npc := 369) rfl ?_
                                      refine w_aload (i := 0) (npc := 370) rfl rfl rfl ?_
                                      refine w_getf (i := 81) (ci := 8) (k := 19) (npc := 373) rfl (hI154.pl (by decide)) (hI154.T (by decide) rfl) (by decide) hz176 ?_
                                      refine w_virt (ci := 8) (i := 81) (npc := 376) (a := [cr 81, ai_i 1, ai_i z176]) (rest := []) rfl rfl (hI154.pl (by decide)) (hI154.T (by decide) rfl) rfl rfl rfl rfl (ct_m_wrong (sl := sl) (x := x) (d := d + 4) (1) (z176) hI154 (by omega) (by omega)) (Or.inl rfl) (fun k9 v9 T9 E180 nx9 kc9 ks9 hq179 hk9 hs9 => ?_)
                                      obtain ⟨rfl, rfl, rfl, hI182, hG183, hz181⟩ := hq179
                                      obtain rfl : kc = kc9 := by omega
                                      obtain rfl : ks = ks9 := by omega
                                      have hF184 := cm_fr.trans hF156 hG183 (by first | (simp; done) | (simp; omega) | (intro i k h; (try simp only at h); (try simp only); omega))
                                      have hz185 : E180 81 1 = ai_i z54 := (hG183 81 1 (by simp)).trans hz157
                                      have ghz185 := gv_eq hz185
                                      have hz186 : E180 81 19 = ai_i z176 := (hG183 81 19 (by simp)).trans hz176
                                      have ghz186 := gv_eq hz186
                                      have hz187 : E180 81 20 = ai_i z177 := (hG183 81 20 (by simp)).trans hz177
                                      have ghz187 := gv_eq hz187
                                      refine Or.inl ⟨rfl, ?_⟩
                                      exact w_vret rfl (⟨rfl, rfl, rfl, hI182, hF184, fun hz9 => absurd hz9 (by omega)⟩) (by omega) (by omega)
                                · replace hc174 : ¬ (z153 = z173) := hc174
                                  refine w_aload (i := 0) (npc := 339) rfl rfl rfl ?_
                                  refine w_const (n := 3) (npc := 340) rfl ?_
                                  refine w_aload (i := 0) (npc := 341) rfl rfl rfl ?_
                                  obtain ⟨z188, hz188, hz188a, hz188b⟩ := hI154.int 81 19 (lo := 0) (hi := 400) (by decide) (by decide) rfl
                                  have ghz188 := gv_eq hz188
                                  refine w_getf (i := 81) (ci := 8) (k := 19) (npc := 344) rfl (hI154.pl (by decide)) (hI154.T (by decide) rfl) (by decide) hz188 ?_
                                  refine w_const (n := 1) (npc := 345) rfl ?_
                                  refine w_isub (npc := 346) rfl (by omega) ?_
                                  refine w_virt (ci := 8) (i := 81) (npc := 349) (a := [cr 81, ai_i 3, ai_i (z188 - 1)]) (rest := []) rfl rfl (hI154.pl (by decide)) (hI154.T (by decide) rfl) rfl rfl rfl rfl (ct_m_wrong (sl := sl) (x := x) (d := d + 4) (3) (z188 - 1) hI154 (by omega) (by omega)) (Or.inl rfl) (fun k9 v9 T9 E191 nx9 kc9 ks9 hq190 hk9 hs9 => ?_)
                                  obtain ⟨rfl, rfl, rfl, hI193, hG194, hz192⟩ := hq190
                                  obtain rfl : kc = kc9 := by omega
                                  obtain rfl : ks = ks9 := by omega
                                  have hF195 := cm_fr.trans hF156 hG194 (by first | (simp; done) | (simp; omega) | (intro i k h; (try simp only at h); (try simp only); omega))
                                  have hz196 : E191 81 1 = ai_i z54 := (hG194 81 1 (by simp)).trans hz157
                                  have ghz196 := gv_eq hz196
                                  have hz197 : E191 81 19 = ai_i z188 := (hG194 81 19 (by simp)).trans hz188
                                  have ghz197 := gv_eq hz197
                                  refine Or.inl ⟨rfl, ?_⟩
                                  refine w_aload (i := 0) (npc := 350) rfl rfl rfl ?_
                                  obtain ⟨z198, hz198, hz198a, hz198b⟩ := hI193.int 81 21 (lo := 0) (hi := 3) (by decide) (by decide) rfl
                                  have ghz198 := gv_eq hz198
                                  refine w_getf (i := 81) (ci := 8) (k := 21) (npc := 353) rfl (hI193.pl (by decide)) (hI193.T (by decide) rfl) (by decide) hz198 ?_
                                  refine w_if (c := .ne) (npc := 356) (pt := 376) rfl (fun hc199 => ?_) (fun hc199 => ?_)
                                  · replace hc199 : z198 ≠ (0 : Int) := hc199
                                    exact w_vret rfl (⟨rfl, rfl, rfl, hI193, hF195, fun hz9 => absurd hz9 (by omega)⟩) (by omega) (by omega)
                                  · replace hc199 : ¬ (z198 ≠ (0 : Int)) := hc199
                                    refine w_aload (i := 0) (npc := 357) rfl rfl rfl ?_
                                    refine w_getf (i := 81) (ci := 8) (k := 19) (npc := 360) rfl (hI193.pl (by decide)) (hI193.T (by decide) rfl) (by decide) hz197 ?_
                                    refine w_aload (i := 0) (npc := 361) rfl rfl rfl ?_
                                    obtain ⟨z200, hz200, hz200a, hz200b⟩ := hI193.int 81 20 (lo := 0) (hi := 400) (by decide) (by decide) rfl
                                    have ghz200 := gv_eq hz200
                                    have g0hz200 : gv E 81 20 = z200 := (gv_fr hF195 (by simp)).trans ghz200
                                    refine w_getf (i := 81) (ci := 8) (k := 20) (npc := 364) rfl (hI193.pl (by decide)) (hI193.T (by decide) rfl) (by decide) hz200 ?_
                                    refine w_icmp (c := .ge) (npc := 367) (pt := 376) rfl (fun hc201 => ?_) (fun hc201 => ?_)
                                    · replace hc201 : z200 ≤ z188 := hc201
                                      exact w_vret rfl (⟨rfl, rfl, rfl, hI193, hF195, fun hz9 => absurd hz9 (by omega)⟩) (by omega) (by omega)
                                    · replace hc201 : ¬ (z200 ≤ z188) := hc201
                                      refine w_aload (i := 0) (npc := 368) rfl rfl rfl ?_
                                      refine w_const (n := 1) (npc := 369) rfl ?_
                                      refine w_aload (i := 0) (npc := 370) rfl rfl rfl ?_
                                      refine w_getf (i := 81) (ci := 8) (k := 19) (npc := 373) rfl (hI193.pl (by decide)) (hI193.T (by decide) rfl) (by decide) hz197 ?_
                                      refine w_virt (ci := 8) (i := 81) (npc := 376) (a := [cr 81, ai_i 1, ai_i z188]) (rest := []) rfl rfl (hI193.pl (by decide)) (hI193.T (by decide) rfl) rfl rfl rfl rfl (ct_m_wrong (sl := sl) (x := x) (d := d + 4) (1) (z188) hI193 (by omega) (by omega)) (Or.inl rfl) (fun k9 v9 T9 E203 nx9 kc9 ks9 hq202 hk9 hs9 => ?_)
                                      obtain ⟨rfl, rfl, rfl, hI205, hG206, hz204⟩ := hq202
                                      obtain rfl : kc = kc9 := by omega
                                      obtain rfl : ks = ks9 := by omega
                                      have hF207 := cm_fr.trans hF195 hG206 (by first | (simp; done) | (simp; omega) | (intro i k h; (try simp only at h); (try simp only); omega))
                                      have hz208 : E203 81 1 = ai_i z54 := (hG206 81 1 (by simp)).trans hz196
                                      have ghz208 := gv_eq hz208
                                      have hz209 : E203 81 19 = ai_i z188 := (hG206 81 19 (by simp)).trans hz197
                                      have ghz209 := gv_eq hz209
                                      have hz210 : E203 81 20 = ai_i z200 := (hG206 81 20 (by simp)).trans hz200
                                      have ghz210 := gv_eq hz210
                                      refine Or.inl ⟨rfl, ?_⟩
                                      exact w_vret rfl (⟨rfl, rfl, rfl, hI205, hF207, fun hz9 => absurd hz9 (by omega)⟩) (by omega) (by omega)
                            · replace hc150 : ¬ (z149 ≠ (0 : Int)) := hc150
                              refine w_iload (i := 2) (npc := 299) rfl rfl ?_
                              refine w_aload (i := 0) (npc := 300) rfl rfl rfl ?_
                              refine w_getf (i := 81) (ci := 8) (k := 15) (npc := 303) rfl (hI82.pl (by decide)) (hI82.T (by decide) rfl) (by decide) (hI82.ref 81 15 (p := 93) (by decide) (by decide) rfl) ?_
                              refine w_iload (i := 3) (npc := 304) rfl rfl ?_
                              obtain ⟨z211, hz211, hz211a, hz211b⟩ := hI82.int 93 (k : Int).toNat (lo := 0) (hi := 255) (by decide) (show (k : Int).toNat < 400 by omega) rfl
                              have ghz211 := gv_eq hz211
                              have g0hz211 : gv E 93 (k : Int).toNat = z211 := (gv_fr hF84 (by simp)).trans ghz211
                              refine w_ald (i := 93) (t := 1) (n := 400) (npc := 305) rfl (hI82.pl (by decide)) (hI82.T (by decide) rfl) (by decide) rfl (by omega) hz211 ?_
                              refine w_iadd (npc := 306) rfl (by omega) ?_
                              refine w_istore (i := 2) (npc := 307) (loc' := [cr 81, ai_i z75, ai_i (s + z211), ai_i k]) rfl rfl ?_
                              refine w_iinc (i := 3) (n := 1) (npc := 310) (loc' := [cr 81, ai_i z75, ai_i (s + z211), ai_i (k + 1)]) rfl rfl (by omega) rfl ?_
                              refine w_goto (pt := 283) rfl ?_
                              exact ih283 (s + z211) (k + 1) (by omega) (by omega)
                      exact loop283 _ (0) (0) (Nat.lt_succ_self _) (by omega)
                    · replace hc78 : ¬ (z75 ≠ (2 : Int)) := hc78
                      refine w_aload (i := 0) (npc := 249) rfl rfl rfl ?_
                      refine w_const (n := 3200) (npc := 252) rfl ?_
                      refine w_const (n := 9) (npc := 254) rfl ?_
                      refine w_aload (i := 0) (npc := 255) rfl rfl rfl ?_
                      refine w_const (n := 1) (npc := 256) rfl ?_
                      refine w_aload (i := 0) (npc := 257) rfl rfl rfl ?_
                      refine w_const (n := 3200) (npc := 260) rfl ?_
                      refine w_const (n := 2) (npc := 261) rfl ?_
                      refine w_virt (ci := 8) (i := 81) (npc := 264) (a := [cr 81, ai_i 3200, ai_i 2]) (rest := [ai_i 1, cr 81, ai_i 9, ai_i 3200, cr 81]) rfl rfl (hI67.pl (by decide)) (hI67.T (by decide) rfl) rfl rfl rfl rfl (ct_m_of (sl := sl) (x := x) (d := d + 4) (3200) (2) hI67 (by omega) (by omega) (by omega)) (Or.inl rfl) (fun k9 v9 T9 E215 nx9 kc9 ks9 hq214 hk9 hs9 => ?_)
                      obtain ⟨rfl, rfl, rfl, rfl, z216, rfl, hz216⟩ := hq214
                      obtain rfl : kc = kc9 := by omega
                      obtain rfl : ks = ks9 := by omega
                      refine Or.inr (Or.inl ⟨rfl, ?_⟩)
                      refine w_const (n := 1) (npc := 265) rfl ?_
                      refine w_isub (npc := 266) rfl (by omega) ?_
                      refine w_virt (ci := 8) (i := 81) (npc := 269) (a := [cr 81, ai_i 1, ai_i (z216 - 1)]) (rest := [ai_i 9, ai_i 3200, cr 81]) rfl rfl (hI67.pl (by decide)) (hI67.T (by decide) rfl) rfl rfl rfl rfl (ct_m_readByte (sl := sl) (x := x) (d := d + 3) (1) (z216 - 1) hI67) (Or.inl rfl) (fun k9 v9 T9 E219 nx9 kc9 ks9 hq218 hk9 hs9 => ?_)
                      obtain ⟨rfl, rfl, rfl, hI221, hG222, z220, rfl, hz220⟩ := hq218
                      obtain rfl : kc = kc9 := by omega
                      obtain rfl : ks = ks9 := by omega
                      have hF223 := cm_fr.trans hF69 hG222 (by first | (simp; done) | (simp; omega) | (intro i k h; (try simp only at h); (try simp only); omega))
                      have hz224 : E219 81 1 = ai_i z54 := (hG222 81 1 (by simp)).trans hz70
                      have ghz224 := gv_eq hz224
                      refine Or.inr (Or.inl ⟨rfl, ?_⟩)
                      obtain ⟨z225, hz225, hz225a, hz225b⟩ := hI221.int 81 21 (lo := 0) (hi := 3) (by decide) (by decide) rfl
                      have ghz225 := gv_eq hz225
                      refine w_virt (ci := 8) (i := 81) (npc := 272) (a := [cr 81, ai_i 3200, ai_i 9, ai_i z220]) (rest := []) rfl rfl (hI221.pl (by decide)) (hI221.T (by decide) rfl) rfl rfl rfl rfl (ct_m_put (sl := sl) (x := x) (d := d + 4) (3200) (9) (z220) hI221 (by omega) (by omega) (by omega)) (Or.inl rfl) (fun k9 v9 T9 E227 nx9 kc9 ks9 hq226 hk9 hs9 => ?_)
                      obtain ⟨rfl, rfl, rfl, hI229, hG230, hz228⟩ := hq226
                      obtain rfl : kc = kc9 := by omega
                      obtain rfl : ks = ks9 := by omega
                      have hF231 := cm_fr.trans hF223 hG230 (by first | (simp; done) | (simp; omega) | (intro i k h; (try simp only at h); (try simp only); omega))
                      have hz232 : E227 81 1 = ai_i z54 := (hG230 81 1 (by simp)).trans hz224
                      have ghz232 := gv_eq hz232
                      have hz233 : E227 81 21 = ai_i z225 := (hG230 81 21 (by simp)).trans hz225
                      have ghz233 := gv_eq hz233
                      refine Or.inl ⟨rfl, ?_⟩
                      refine w_goto (pt := 279) rfl ?_
                      have hrow : gv E227 81 21 = 0 → rl_row E227 3200 ∧ rl_hd E227 3200 := fun hz0 => by
                        obtain ⟨d1, d2, d3, d4⟩ := hv74
                        have m0 := hz58
                        have m1 := hz66
                        have m2 := hz220
                        have m3 := hz228
                        have y0_0 := gv_fr hG60 (i := 81) (k := 1) (by first | (simp; done) | omega | (simp only; omega) | (simp; omega))
                        have y0_1 := gv_fr hG60 (i := 82) (k := (166 * 3200 + 0 : Int).toNat) (by first | (simp; done) | omega | (simp only; omega) | (simp; omega))
                        have y0_2 := gv_fr hG60 (i := 82) (k := (166 * 3200 + 1 : Int).toNat) (by first | (simp; done) | omega | (simp only; omega) | (simp; omega))
                        have y0_3 := gv_fr hG60 (i := 82) (k := (166 * 3200 + 2 : Int).toNat) (by first | (simp; done) | omega | (simp only; omega) | (simp; omega))
                        have y1_0 := gv_fr hG68 (i := 81) (k := 1) (by first | (simp; done) | omega | (simp only; omega) | (simp; omega))
                        have y1_1 := gv_fr hG68 (i := 82) (k := (166 * 3200 + 0 : Int).toNat) (by first | (simp; done) | omega | (simp only; omega) | (simp; omega))
                        have y1_2 := gv_fr hG68 (i := 82) (k := (166 * 3200 + 1 : Int).toNat) (by first | (simp; done) | omega | (simp only; omega) | (simp; omega))
                        have y1_3 := gv_fr hG68 (i := 82) (k := (166 * 3200 + 2 : Int).toNat) (by first | (simp; done) | omega | (simp only; omega) | (simp; omega))
                        have y2_0 := gv_fr hG222 (i := 81) (k := 1) (by first | (simp; done) | omega | (simp only; omega) | (simp; omega))
                        have y2_1 := gv_fr hG222 (i := 82) (k := (166 * 3200 + 0 : Int).toNat) (by first | (simp; done) | omega | (simp only; omega) | (simp; omega))
                        have y2_2 := gv_fr hG222 (i := 82) (k := (166 * 3200 + 1 : Int).toNat) (by first | (simp; done) | omega | (simp only; omega) | (simp; omega))
                        have y2_3 := gv_fr hG222 (i := 82) (k := (166 * 3200 + 2 : Int).toNat) (by first | (simp; done) | omega | (simp only; omega) | (simp; omega))
                        have y3_0 := gv_fr hG230 (i := 81) (k := 1) (by first | (simp; done) | omega | (simp only; omega) | (simp; omega))
                        have y3_1 := gv_fr hG230 (i := 82) (k := (166 * 3200 + 0 : Int).toNat) (by first | (simp; done) | omega | (simp only; omega) | (simp; omega))
                        have y3_2 := gv_fr hG230 (i := 82) (k := (166 * 3200 + 1 : Int).toNat) (by first | (simp; done) | omega | (simp only; omega) | (simp; omega))
                        have y3_3 := gv_fr hG230 (i := 82) (k := (166 * 3200 + 2 : Int).toNat) (by first | (simp; done) | omega | (simp only; omega) | (simp; omega))
                        have w0_0 := gv_fr hG222 (i := 82) (k := (166 * 3200 + 8 : Int).toNat) (by first | (simp; done) | omega | (simp only; omega) | (simp; omega))
                        have w1_0 := gv_fr hG230 (i := 82) (k := (166 * 3200 + 8 : Int).toNat) (by first | (simp; done) | omega | (simp only; omega) | (simp; omega))
                        have v10_0 := gv_fr hG68 (i := 81) (k := 21) (by first | (simp; done) | omega | (simp only; omega) | (simp; omega))
                        have v30_0 := gv_fr hG230 (i := 81) (k := 21) (by first | (simp; done) | omega | (simp only; omega) | (simp; omega))
                        exact hand_ok (E := E227) (a := gv E227 82 (166 * 3200 + 0 : Int).toNat) (p := gv E227 82 (166 * 3200 + 1 : Int).toNat) (m := gv E227 82 (166 * 3200 + 2 : Int).toNat - 1) rfl rfl (by omega) (by omega) (by omega) (by omega) (by omega) (by omega) (fun h0 => by omega) (fun h0 => by omega) (fun h0 => by omega)
                      refine w_const (n := 0) (npc := 280) rfl ?_
                      refine w_istore (i := 2) (npc := 281) (loc' := [cr 81, ai_i z75, ai_i 0, u74_3]) rfl rfl ?_
                      refine w_const (n := 0) (npc := 282) rfl ?_
                      refine w_istore (i := 3) (npc := 283) (loc' := [cr 81, ai_i z75, ai_i 0, ai_i 0]) rfl rfl ?_
                      have loop283 : ∀ (nf : Nat) (s : Int) (k : Int), ((400 - k).toNat) < nf → (0 ≤ k ∧ k ≤ 400 ∧ 0 ≤ s ∧ s ≤ 255 * k) → cm_wp (ai_find ai_c200 sl) (ai_ev sl (d + 5)) x (kc + 0) (ks + 0) (fun rk rv T' E' nx' => rk = 0 ∧ T = T' ∧ nx = nx' ∧ cs_I T E' nx ∧ cm_fr (fun i k => (i = 81 ∧ (k = 19 ∨ k = 21 ∨ k = 22)) ∨ (i = 82 ∧ 531200 ≤ k)) E E' ∧ (gv E' 81 21 = 0 → rl_row E' 3200 ∧ rl_hd E' 3200)) 283 [cr 81, ai_i z75, ai_i s, ai_i k] [] T E227 nx kc ks := by
                        intro nf
                        induction nf with
                        | zero => intro s k hm; exact absurd hm (Nat.not_lt_zero _)
                        | succ nf283 ih =>
                          intro s k hm283 hv283
                          have ih283 := ih; clear ih
                          refine w_iload (i := 3) (npc := 284) rfl rfl ?_
                          refine w_aload (i := 0) (npc := 285) rfl rfl rfl ?_
                          obtain ⟨z234, hz234, hz234a, hz234b⟩ := hI229.int 81 19 (lo := 0) (hi := 400) (by decide) (by decide) rfl
                          have ghz234 := gv_eq hz234
                          refine w_getf (i := 81) (ci := 8) (k := 19) (npc := 288) rfl (hI229.pl (by decide)) (hI229.T (by decide) rfl) (by decide) hz234 ?_
                          refine w_icmp (c := .ge) (npc := 291) (pt := 313) rfl (fun hc235 => ?_) (fun hc235 => ?_)
                          · replace hc235 : z234 ≤ k := hc235
                            refine w_aload (i := 0) (npc := 314) rfl rfl rfl ?_
                            refine w_const (n := 0) (npc := 315) rfl ?_
                            refine w_const (n := 255) (npc := 318) rfl ?_
                            refine w_virt (ci := 8) (i := 81) (npc := 321) (a := [cr 81, ai_i 0, ai_i 255]) (rest := []) rfl rfl (hI229.pl (by decide)) (hI229.T (by decide) rfl) rfl rfl rfl rfl (ct_m_readByte2 (sl := sl) (x := x) (d := d + 3) (0) (255) hI229) (Or.inl rfl) (fun k9 v9 T9 E237 nx9 kc9 ks9 hq236 hk9 hs9 => ?_)
                            obtain ⟨rfl, rfl, rfl, hI239, hG240, z238, rfl, hz238⟩ := hq236
                            obtain rfl : kc = kc9 := by omega
                            obtain rfl : ks = ks9 := by omega
                            have hF241 := cm_fr.trans hF231 hG240 (by first | (simp; done) | (simp; omega) | (intro i k h; (try simp only at h); (try simp only); omega))
                            have hz242 : E237 81 1 = ai_i z54 := (hG240 81 1 (by simp)).trans hz232
                            have ghz242 := gv_eq hz242
                            refine Or.inr (Or.inl ⟨rfl, ?_⟩)
                            refine w_istore (i := 3) (npc := 322) (loc' := [cr 81, ai_i z75, ai_i s, ai_i z238]) rfl rfl ?_
                            refine w_aload (i := 0) (npc := 323) rfl rfl rfl ?_
                            obtain ⟨z243, hz243, hz243a, hz243b⟩ := hI239.int 81 21 (lo := 0) (hi := 3) (by decide) (by decide) rfl
                            have ghz243 := gv_eq hz243
                            refine w_getf (i := 81) (ci := 8) (k := 21) (npc := 326) rfl (hI239.pl (by decide)) (hI239.T (by decide) rfl) (by decide) hz243 ?_
                            refine w_if (c := .ne) (npc := 329) (pt := 349) rfl (fun hc244 => ?_) (fun hc244 => ?_)
                            · replace hc244 : z243 ≠ (0 : Int) := hc244
                              refine w_aload (i := 0) (npc := 350) rfl rfl rfl ?_
                              refine w_getf (i := 81) (ci := 8) (k := 21) (npc := 353) rfl (hI239.pl (by decide)) (hI239.T (by decide) rfl) (by decide) hz243 ?_
                              refine w_if (c := .ne) (npc := 356) (pt := 376) rfl (fun hc245 => ?_) (fun hc245 => ?_)
                              · replace hc245 : z243 ≠ (0 : Int) := hc245
                                exact w_vret rfl (⟨rfl, rfl, rfl, hI239, hF241, fun hz9 => by have r9 := hrow (hz238.2.2 hz9).1; exact ⟨r9.1.of (fun k k0 k1 => (gv_fr hG240 (by simp)).symm), r9.2.of (fun k k0 k1 => (gv_fr hG240 (by simp)).symm) (gv_fr hG240 (by simp)).symm⟩⟩) (by omega) (by omega)
                              · replace hc245 : ¬ (z243 ≠ (0 : Int)) := hc245
                                refine w_aload (i := 0) (npc := 357) rfl rfl rfl ?_
                                obtain ⟨z246, hz246, hz246a, hz246b⟩ := hI239.int 81 19 (lo := 0) (hi := 400) (by decide) (by decide) rfl
                                have ghz246 := gv_eq hz246
                                refine w_getf (i := 81) (ci := 8) (k := 19) (npc := 360) rfl (hI239.pl (by decide)) (hI239.T (by decide) rfl) (by decide) hz246 ?_
                                refine w_aload (i := 0) (npc := 361) rfl rfl rfl ?_
                                obtain ⟨z247, hz247, hz247a, hz247b⟩ := hI239.int 81 20 (lo := 0) (hi := 400) (by decide) (by decide) rfl
                                have ghz247 := gv_eq hz247
                                have g0hz247 : gv E 81 20 = z247 := (gv_fr hF241 (by simp)).trans ghz247
                                refine w_getf (i := 81) (ci := 8) (k := 20) (npc := 364) rfl (hI239.pl (by decide)) (hI239.T (by decide) rfl) (by decide) hz247 ?_
                                refine w_icmp (c := .ge) (npc := 367) (pt := 376) rfl (fun hc248 => ?_) (fun hc248 => ?_)
                                · replace hc248 : z247 ≤ z246 := hc248
                                  exact w_vret rfl (⟨rfl, rfl, rfl, hI239, hF241, fun hz9 => by have r9 := hrow (hz238.2.2 hz9).1; exact ⟨r9.1.of (fun k k0 k1 => (gv_fr hG240 (by simp)).symm), r9.2.of (fun k k0 k1 => (gv_fr hG240 (by simp)).symm) (gv_fr hG240 (by simp)).symm⟩⟩) (by omega) (by omega)
                                · replace hc248 : ¬ (z247 ≤ z246) := hc248
                                  refine w_aload (i := 0) (npc := 368) rfl rfl rfl ?_
                                  refine w_const (n := 1) (npc := 369) rfl ?_
                                  refine w_aload (i := 0) (npc := 370) rfl rfl rfl ?_
                                  refine w_getf (i := 81) (ci := 8) (k := 19) (npc := 373) rfl (hI239.pl (by decide)) (hI239.T (by decide) rfl) (by decide) hz246 ?_
                                  refine w_virt (ci := 8) (i := 81) (npc := 376) (a := [cr 81, ai_i 1, ai_i z246]) (rest := []) rfl rfl (hI239.pl (by decide)) (hI239.T (by decide) rfl) rfl rfl rfl rfl (ct_m_wrong (sl := sl) (x := x) (d := d + 4) (1) (z246) hI239 (by omega) (by omega)) (Or.inl rfl) (fun k9 v9 T9 E250 nx9 kc9 ks9 hq249 hk9 hs9 => ?_)
                                  obtain ⟨rfl, rfl, rfl, hI252, hG253, hz251⟩ := hq249
                                  obtain rfl : kc = kc9 := by omega
                                  obtain rfl : ks = ks9 := by omega
                                  have hF254 := cm_fr.trans hF241 hG253 (by first | (simp; done) | (simp; omega) | (intro i k h; (try simp only at h); (try simp only); omega))
                                  have hz255 : E250 81 1 = ai_i z54 := (hG253 81 1 (by simp)).trans hz242
                                  have ghz255 := gv_eq hz255
                                  have hz256 : E250 81 19 = ai_i z246 := (hG253 81 19 (by simp)).trans hz246
                                  have ghz256 := gv_eq hz256
                                  have hz257 : E250 81 20 = ai_i z247 := (hG253 81 20 (by simp)).trans hz247
                                  have ghz257 := gv_eq hz257
                                  refine Or.inl ⟨rfl, ?_⟩
                                  exact w_vret rfl (⟨rfl, rfl, rfl, hI252, hF254, fun hz9 => absurd hz9 (by omega)⟩) (by omega) (by omega)
                            · replace hc244 : ¬ (z243 ≠ (0 : Int)) := hc244
                              refine w_iload (i := 3) (npc := 330) rfl rfl ?_
                              refine w_iload (i := 2) (npc := 331) rfl rfl ?_
                              refine w_const (n := 256) (npc := 334) rfl ?_
                              refine w_irem (npc := 335) rfl (by omega) (by omega) (fun z258 hz258 hz258b => ?_)
                              refine w_icmp (c := .eq) (npc := 338) (pt := 349) rfl (fun hc259 => ?_) (fun hc259 => ?_)
                              · replace hc259 : z238 = z258 := hc259
                                refine w_aload (i := 0) (npc := 350) rfl rfl rfl ?_
                                refine w_getf (i := 81) (ci := 8) (k := 21) (npc := 353) rfl (hI239.pl (by decide)) (hI239.T (by decide) rfl) (by decide) hz243 ?_
                                refine w_if (c := .ne) (npc := 356) (pt := 376) rfl (fun hc260 => ?_) (fun hc260 => ?_)
                                · replace hc260 : z243 ≠ (0 : Int) := hc260
                                  exact w_vret rfl (⟨rfl, rfl, rfl, hI239, hF241, fun hz9 => by have r9 := hrow (hz238.2.2 hz9).1; exact ⟨r9.1.of (fun k k0 k1 => (gv_fr hG240 (by simp)).symm), r9.2.of (fun k k0 k1 => (gv_fr hG240 (by simp)).symm) (gv_fr hG240 (by simp)).symm⟩⟩) (by omega) (by omega)
                                · replace hc260 : ¬ (z243 ≠ (0 : Int)) := hc260
                                  refine w_aload (i := 0) (npc := 357) rfl rfl rfl ?_
                                  obtain ⟨z261, hz261, hz261a, hz261b⟩ := hI239.int 81 19 (lo := 0) (hi := 400) (by decide) (by decide) rfl
                                  have ghz261 := gv_eq hz261
                                  refine w_getf (i := 81) (ci := 8) (k := 19) (npc := 360) rfl (hI239.pl (by decide)) (hI239.T (by decide) rfl) (by decide) hz261 ?_
                                  refine w_aload (i := 0) (npc := 361) rfl rfl rfl ?_
                                  obtain ⟨z262, hz262, hz262a, hz262b⟩ := hI239.int 81 20 (lo := 0) (hi := 400) (by decide) (by decide) rfl
                                  have ghz262 := gv_eq hz262
                                  have g0hz262 : gv E 81 20 = z262 := (gv_fr hF241 (by simp)).trans ghz262
                                  refine w_getf (i := 81) (ci := 8) (k := 20) (npc := 364) rfl (hI239.pl (by decide)) (hI239.T (by decide) rfl) (by decide) hz262 ?_
                                  refine w_icmp (c := .ge) (npc := 367) (pt := 376) rfl (fun hc263 => ?_) (fun hc263 => ?_)
                                  · replace hc263 : z262 ≤ z261 := hc263
                                    exact w_vret rfl (⟨rfl, rfl, rfl, hI239, hF241, fun hz9 => by have r9 := hrow (hz238.2.2 hz9).1; exact ⟨r9.1.of (fun k k0 k1 => (gv_fr hG240 (by simp)).symm), r9.2.of (fun k k0 k1 => (gv_fr hG240 (by simp)).symm) (gv_fr hG240 (by simp)).symm⟩⟩) (by omega) (by omega)
                                  · replace hc263 : ¬ (z262 ≤ z261) := hc263
                                    refine w_aload (i := 0) (npc := 368) rfl rfl rfl ?_
                                    refine w_const (n := 1) (npc := 369) rfl ?_
                                    refine w_aload (i := 0) (npc := 370) rfl rfl rfl ?_
                                    refine w_getf (i := 81) (ci := 8) (k := 19) (npc := 373) rfl (hI239.pl (by decide)) (hI239.T (by decide) rfl) (by decide) hz261 ?_
                                    refine w_virt (ci := 8) (i := 81) (npc := 376) (a := [cr 81, ai_i 1, ai_i z261]) (rest := []) rfl rfl (hI239.pl (by decide)) (hI239.T (by decide) rfl) rfl rfl rfl rfl (ct_m_wrong (sl := sl) (x := x) (d := d + 4) (1) (z261) hI239 (by omega) (by omega)) (Or.inl rfl) (fun k9 v9 T9 E265 nx9 kc9 ks9 hq264 hk9 hs9 => ?_)
                                    obtain ⟨rfl, rfl, rfl, hI267, hG268, hz266⟩ := hq264
                                    obtain rfl : kc = kc9 := by omega
                                    obtain rfl : ks = ks9 := by omega
                                    have hF269 := cm_fr.trans hF241 hG268 (by first | (simp; done) | (simp; omega) | (intro i k h; (try simp only at h); (try simp only); omega))
                                    have hz270 : E265 81 1 = ai_i z54 := (hG268 81 1 (by simp)).trans hz242
                                    have ghz270 := gv_eq hz270
                                    have hz271 : E265 81 19 = ai_i z261 := (hG268 81 19 (by simp)).trans hz261
                                    have ghz271 := gv_eq hz271
                                    have hz272 : E265 81 20 = ai_i z262 := (hG268 81 20 (by simp)).trans hz262
                                    have ghz272 := gv_eq hz272
                                    refine Or.inl ⟨rfl, ?_⟩
                                    exact w_vret rfl (⟨rfl, rfl, rfl, hI267, hF269, fun hz9 => absurd hz9 (by omega)⟩) (by omega) (by omega)
                              · replace hc259 : ¬ (z238 = z258) := hc259
                                refine w_aload (i := 0) (npc := 339) rfl rfl rfl ?_
                                refine w_const (n := 3) (npc := 340) rfl ?_
                                refine w_aload (i := 0) (npc := 341) rfl rfl rfl ?_
                                obtain ⟨z273, hz273, hz273a, hz273b⟩ := hI239.int 81 19 (lo := 0) (hi := 400) (by decide) (by decide) rfl
                                have ghz273 := gv_eq hz273
                                refine w_getf (i := 81) (ci := 8) (k := 19) (npc := 344) rfl (hI239.pl (by decide)) (hI239.T (by decide) rfl) (by decide) hz273 ?_
                                refine w_const (n := 1) (npc := 345) rfl ?_
                                refine w_isub (npc := 346) rfl (by omega) ?_
                                refine w_virt (ci := 8) (i := 81) (npc := 349) (a := [cr 81, ai_i 3, ai_i (z273 - 1)]) (rest := []) rfl rfl (hI239.pl (by decide)) (hI239.T (by decide) rfl) rfl rfl rfl rfl (ct_m_wrong (sl := sl) (x := x) (d := d + 4) (3) (z273 - 1) hI239 (by omega) (by omega)) (Or.inl rfl) (fun k9 v9 T9 E276 nx9 kc9 ks9 hq275 hk9 hs9 => ?_)
                                obtain ⟨rfl, rfl, rfl, hI278, hG279, hz277⟩ := hq275
                                obtain rfl : kc = kc9 := by omega
                                obtain rfl : ks = ks9 := by omega
                                have hF280 := cm_fr.trans hF241 hG279 (by first | (simp; done) | (simp; omega) | (intro i k h; (try simp only at h); (try simp only); omega))
                                have hz281 : E276 81 1 = ai_i z54 := (hG279 81 1 (by simp)).trans hz242
                                have ghz281 := gv_eq hz281
                                have hz282 : E276 81 19 = ai_i z273 := (hG279 81 19 (by simp)).trans hz273
                                have ghz282 := gv_eq hz282
                                refine Or.inl ⟨rfl, ?_⟩
                                refine w_aload (i := 0) (npc := 350) rfl rfl rfl ?_
                                obtain ⟨z283, hz283, hz283a, hz283b⟩ := hI278.int 81 21 (lo := 0) (hi := 3) (by decide) (by decide) rfl
                                have ghz283 := gv_eq hz283
                                refine w_getf (i := 81) (ci := 8) (k := 21) (npc := 353) rfl (hI278.pl (by decide)) (hI278.T (by decide) rfl) (by decide) hz283 ?_
                                refine w_if (c := .ne) (npc := 356) (pt := 376) rfl (fun hc284 => ?_) (fun hc284 => ?_)
                                · replace hc284 : z283 ≠ (0 : Int) := hc284
                                  exact w_vret rfl (⟨rfl, rfl, rfl, hI278, hF280, fun hz9 => absurd hz9 (by omega)⟩) (by omega) (by omega)
                                · replace hc284 : ¬ (z283 ≠ (0 : Int)) := hc284
                                  refine w_aload (i := 0) (npc := 357) rfl rfl rfl ?_
                                  refine w_getf (i := 81) (ci := 8) (k := 19) (npc := 360) rfl (hI278.pl (by decide)) (hI278.T (by decide) rfl) (by decide) hz282 ?_
                                  refine w_aload (i := 0) (npc := 361) rfl rfl rfl ?_
                                  obtain ⟨z285, hz285, hz285a, hz285b⟩ := hI278.int 81 20 (lo := 0) (hi := 400) (by decide) (by decide) rfl
                                  have ghz285 := gv_eq hz285
                                  have g0hz285 : gv E 81 20 = z285 := (gv_fr hF280 (by simp)).trans ghz285
                                  refine w_getf (i := 81) (ci := 8) (k := 20) (npc := 364) rfl (hI278.pl (by decide)) (hI278.T (by decide) rfl) (by decide) hz285 ?_
                                  refine w_icmp (c := .ge) (npc := 367) (pt := 376) rfl (fun hc286 => ?_) (fun hc286 => ?_)
                                  · replace hc286 : z285 ≤ z273 := hc286
                                    exact w_vret rfl (⟨rfl, rfl, rfl, hI278, hF280, fun hz9 => absurd hz9 (by omega)⟩) (by omega) (by omega)
                                  · replace hc286 : ¬ (z285 ≤ z273) := hc286
                                    refine w_aload (i := 0) (npc := 368) rfl rfl rfl ?_
                                    refine w_const (n := 1) (npc := 369) rfl ?_
                                    refine w_aload (i := 0) (npc := 370) rfl rfl rfl ?_
                                    refine w_getf (i := 81) (ci := 8) (k := 19) (npc := 373) rfl (hI278.pl (by decide)) (hI278.T (by decide) rfl) (by decide) hz282 ?_
                                    refine w_virt (ci := 8) (i := 81) (npc := 376) (a := [cr 81, ai_i 1, ai_i z273]) (rest := []) rfl rfl (hI278.pl (by decide)) (hI278.T (by decide) rfl) rfl rfl rfl rfl (ct_m_wrong (sl := sl) (x := x) (d := d + 4) (1) (z273) hI278 (by omega) (by omega)) (Or.inl rfl) (fun k9 v9 T9 E288 nx9 kc9 ks9 hq287 hk9 hs9 => ?_)
                                    obtain ⟨rfl, rfl, rfl, hI290, hG291, hz289⟩ := hq287
                                    obtain rfl : kc = kc9 := by omega
                                    obtain rfl : ks = ks9 := by omega
                                    have hF292 := cm_fr.trans hF280 hG291 (by first | (simp; done) | (simp; omega) | (intro i k h; (try simp only at h); (try simp only); omega))
                                    have hz293 : E288 81 1 = ai_i z54 := (hG291 81 1 (by simp)).trans hz281
                                    have ghz293 := gv_eq hz293
                                    have hz294 : E288 81 19 = ai_i z273 := (hG291 81 19 (by simp)).trans hz282
                                    have ghz294 := gv_eq hz294
                                    have hz295 : E288 81 20 = ai_i z285 := (hG291 81 20 (by simp)).trans hz285
                                    have ghz295 := gv_eq hz295
                                    refine Or.inl ⟨rfl, ?_⟩
                                    exact w_vret rfl (⟨rfl, rfl, rfl, hI290, hF292, fun hz9 => absurd hz9 (by omega)⟩) (by omega) (by omega)
                          · replace hc235 : ¬ (z234 ≤ k) := hc235
                            refine w_aload (i := 0) (npc := 292) rfl rfl rfl ?_
                            refine w_getf (i := 81) (ci := 8) (k := 21) (npc := 295) rfl (hI229.pl (by decide)) (hI229.T (by decide) rfl) (by decide) hz233 ?_
                            refine w_if (c := .ne) (npc := 298) (pt := 313) rfl (fun hc296 => ?_) (fun hc296 => ?_)
                            · replace hc296 : z225 ≠ (0 : Int) := hc296
                              refine w_aload (i := 0) (npc := 314) rfl rfl rfl ?_
                              refine w_const (n := 0) (npc := 315) rfl ?_
                              refine w_const (n := 255) (npc := 318) rfl ?_
                              refine w_virt (ci := 8) (i := 81) (npc := 321) (a := [cr 81, ai_i 0, ai_i 255]) (rest := []) rfl rfl (hI229.pl (by decide)) (hI229.T (by decide) rfl) rfl rfl rfl rfl (ct_m_readByte2 (sl := sl) (x := x) (d := d + 3) (0) (255) hI229) (Or.inl rfl) (fun k9 v9 T9 E298 nx9 kc9 ks9 hq297 hk9 hs9 => ?_)
                              obtain ⟨rfl, rfl, rfl, hI300, hG301, z299, rfl, hz299⟩ := hq297
                              obtain rfl : kc = kc9 := by omega
                              obtain rfl : ks = ks9 := by omega
                              have hF302 := cm_fr.trans hF231 hG301 (by first | (simp; done) | (simp; omega) | (intro i k h; (try simp only at h); (try simp only); omega))
                              have hz303 : E298 81 1 = ai_i z54 := (hG301 81 1 (by simp)).trans hz232
                              have ghz303 := gv_eq hz303
                              refine Or.inr (Or.inl ⟨rfl, ?_⟩)
                              refine w_istore (i := 3) (npc := 322) (loc' := [cr 81, ai_i z75, ai_i s, ai_i z299]) rfl rfl ?_
                              refine w_aload (i := 0) (npc := 323) rfl rfl rfl ?_
                              obtain ⟨z304, hz304, hz304a, hz304b⟩ := hI300.int 81 21 (lo := 0) (hi := 3) (by decide) (by decide) rfl
                              have ghz304 := gv_eq hz304
                              refine w_getf (i := 81) (ci := 8) (k := 21) (npc := 326) rfl (hI300.pl (by decide)) (hI300.T (by decide) rfl) (by decide) hz304 ?_
                              refine w_if (c := .ne) (npc := 329) (pt := 349) rfl (fun hc305 => ?_) (fun hc305 => ?_)
                              · replace hc305 : z304 ≠ (0 : Int) := hc305
                                refine w_aload (i := 0) (npc := 350) rfl rfl rfl ?_
                                refine w_getf (i := 81) (ci := 8) (k := 21) (npc := 353) rfl (hI300.pl (by decide)) (hI300.T (by decide) rfl) (by decide) hz304 ?_
                                refine w_if (c := .ne) (npc := 356) (pt := 376) rfl (fun hc306 => ?_) (fun hc306 => ?_)
                                · replace hc306 : z304 ≠ (0 : Int) := hc306
                                  exact w_vret rfl (⟨rfl, rfl, rfl, hI300, hF302, fun hz9 => by have r9 := hrow (hz299.2.2 hz9).1; exact ⟨r9.1.of (fun k k0 k1 => (gv_fr hG301 (by simp)).symm), r9.2.of (fun k k0 k1 => (gv_fr hG301 (by simp)).symm) (gv_fr hG301 (by simp)).symm⟩⟩) (by omega) (by omega)
                                · replace hc306 : ¬ (z304 ≠ (0 : Int)) := hc306
                                  refine w_aload (i := 0) (npc := 357) rfl rfl rfl ?_
                                  obtain ⟨z307, hz307, hz307a, hz307b⟩ := hI300.int 81 19 (lo := 0) (hi := 400) (by decide) (by decide) rfl
                                  have ghz307 := gv_eq hz307
                                  refine w_getf (i := 81) (ci := 8) (k := 19) (npc := 360) rfl (hI300.pl (by decide)) (hI300.T (by decide) rfl) (by decide) hz307 ?_
                                  refine w_aload (i := 0) (npc := 361) rfl rfl rfl ?_
                                  obtain ⟨z308, hz308, hz308a, hz308b⟩ := hI300.int 81 20 (lo := 0) (hi := 400) (by decide) (by decide) rfl
                                  have ghz308 := gv_eq hz308
                                  have g0hz308 : gv E 81 20 = z308 := (gv_fr hF302 (by simp)).trans ghz308
                                  refine w_getf (i := 81) (ci := 8) (k := 20) (npc := 364) rfl (hI300.pl (by decide)) (hI300.T (by decide) rfl) (by decide) hz308 ?_
                                  refine w_icmp (c := .ge) (npc := 367) (pt := 376) rfl (fun hc309 => ?_) (fun hc309 => ?_)
                                  · replace hc309 : z308 ≤ z307 := hc309
                                    exact w_vret rfl (⟨rfl, rfl, rfl, hI300, hF302, fun hz9 => by have r9 := hrow (hz299.2.2 hz9).1; exact ⟨r9.1.of (fun k k0 k1 => (gv_fr hG301 (by simp)).symm), r9.2.of (fun k k0 k1 => (gv_fr hG301 (by simp)).symm) (gv_fr hG301 (by simp)).symm⟩⟩) (by omega) (by omega)
                                  · replace hc309 : ¬ (z308 ≤ z307) := hc309
                                    refine w_aload (i := 0) (npc := 368) rfl rfl rfl ?_
                                    refine w_const (n := 1) (npc := 369) rfl ?_
                                    refine w_aload (i := 0) (npc := 370) rfl rfl rfl ?_
                                    refine w_getf (i := 81) (ci := 8) (k := 19) (npc := 373) rfl (hI300.pl (by decide)) (hI300.T (by decide) rfl) (by decide) hz307 ?_
                                    refine w_virt (ci := 8) (i := 81) (npc := 376) (a := [cr 81, ai_i 1, ai_i z307]) (rest := []) rfl rfl (hI300.pl (by decide)) (hI300.T (by decide) rfl) rfl rfl rfl rfl (ct_m_wrong (sl := sl) (x := x) (d := d + 4) (1) (z307) hI300 (by omega) (by omega)) (Or.inl rfl) (fun k9 v9 T9 E311 nx9 kc9 ks9 hq310 hk9 hs9 => ?_)
                                    obtain ⟨rfl, rfl, rfl, hI313, hG314, hz312⟩ := hq310
                                    obtain rfl : kc = kc9 := by omega
                                    obtain rfl : ks = ks9 := by omega
                                    have hF315 := cm_fr.trans hF302 hG314 (by first | (simp; done) | (simp; omega) | (intro i k h; (try simp only at h); (try simp only); omega))
                                    have hz316 : E311 81 1 = ai_i z54 := (hG314 81 1 (by simp)).trans hz303
                                    have ghz316 := gv_eq hz316
                                    have hz317 : E311 81 19 = ai_i z307 := (hG314 81 19 (by simp)).trans hz307
                                    have ghz317 := gv_eq hz317
                                    have hz318 : E311 81 20 = ai_i z308 := (hG314 81 20 (by simp)).trans hz308
                                    have ghz318 := gv_eq hz318
                                    refine Or.inl ⟨rfl, ?_⟩
                                    exact w_vret rfl (⟨rfl, rfl, rfl, hI313, hF315, fun hz9 => absurd hz9 (by omega)⟩) (by omega) (by omega)
                              · replace hc305 : ¬ (z304 ≠ (0 : Int)) := hc305
                                refine w_iload (i := 3) (npc := 330) rfl rfl ?_
                                refine w_iload (i := 2) (npc := 331) rfl rfl ?_
                                refine w_const (n := 256) (npc := 334) rfl ?_
                                refine w_irem (npc := 335) rfl (by omega) (by omega) (fun z319 hz319 hz319b => ?_)
                                refine w_icmp (c := .eq) (npc := 338) (pt := 349) rfl (fun hc320 => ?_) (fun hc320 => ?_)
                                · replace hc320 : z299 = z319 := hc320
                                  refine w_aload (i := 0) (npc := 350) rfl rfl rfl ?_
                                  refine w_getf (i := 81) (ci := 8) (k := 21) (npc := 353) rfl (hI300.pl (by decide)) (hI300.T (by decide) rfl) (by decide) hz304 ?_
                                  refine w_if (c := .ne) (npc := 356) (pt := 376) rfl (fun hc321 => ?_) (fun hc321 => ?_)
                                  · replace hc321 : z304 ≠ (0 : Int) := hc321
                                    exact w_vret rfl (⟨rfl, rfl, rfl, hI300, hF302, fun hz9 => by have r9 := hrow (hz299.2.2 hz9).1; exact ⟨r9.1.of (fun k k0 k1 => (gv_fr hG301 (by simp)).symm), r9.2.of (fun k k0 k1 => (gv_fr hG301 (by simp)).symm) (gv_fr hG301 (by simp)).symm⟩⟩) (by omega) (by omega)
                                  · replace hc321 : ¬ (z304 ≠ (0 : Int)) := hc321
                                    refine w_aload (i := 0) (npc := 357) rfl rfl rfl ?_
                                    obtain ⟨z322, hz322, hz322a, hz322b⟩ := hI300.int 81 19 (lo := 0) (hi := 400) (by decide) (by decide) rfl
                                    have ghz322 := gv_eq hz322
                                    refine w_getf (i := 81) (ci := 8) (k := 19) (npc := 360) rfl (hI300.pl (by decide)) (hI300.T (by decide) rfl) (by decide) hz322 ?_
                                    refine w_aload (i := 0) (npc := 361) rfl rfl rfl ?_
                                    obtain ⟨z323, hz323, hz323a, hz323b⟩ := hI300.int 81 20 (lo := 0) (hi := 400) (by decide) (by decide) rfl
                                    have ghz323 := gv_eq hz323
                                    have g0hz323 : gv E 81 20 = z323 := (gv_fr hF302 (by simp)).trans ghz323
                                    refine w_getf (i := 81) (ci := 8) (k := 20) (npc := 364) rfl (hI300.pl (by decide)) (hI300.T (by decide) rfl) (by decide) hz323 ?_
                                    refine w_icmp (c := .ge) (npc := 367) (pt := 376) rfl (fun hc324 => ?_) (fun hc324 => ?_)
                                    · replace hc324 : z323 ≤ z322 := hc324
                                      exact w_vret rfl (⟨rfl, rfl, rfl, hI300, hF302, fun hz9 => by have r9 := hrow (hz299.2.2 hz9).1; exact ⟨r9.1.of (fun k k0 k1 => (gv_fr hG301 (by simp)).symm), r9.2.of (fun k k0 k1 => (gv_fr hG301 (by simp)).symm) (gv_fr hG301 (by simp)).symm⟩⟩) (by omega) (by omega)
                                    · replace hc324 : ¬ (z323 ≤ z322) := hc324
                                      refine w_aload (i := 0) (npc := 368) rfl rfl rfl ?_
                                      refine w_const (n := 1) (npc := 369) rfl ?_
                                      refine w_aload (i := 0) (npc := 370) rfl rfl rfl ?_
                                      refine w_getf (i := 81) (ci := 8) (k := 19) (npc := 373) rfl (hI300.pl (by decide)) (hI300.T (by decide) rfl) (by decide) hz322 ?_
                                      refine w_virt (ci := 8) (i := 81) (npc := 376) (a := [cr 81, ai_i 1, ai_i z322]) (rest := []) rfl rfl (hI300.pl (by decide)) (hI300.T (by decide) rfl) rfl rfl rfl rfl (ct_m_wrong (sl := sl) (x := x) (d := d + 4) (1) (z322) hI300 (by omega) (by omega)) (Or.inl rfl) (fun k9 v9 T9 E326 nx9 kc9 ks9 hq325 hk9 hs9 => ?_)
                                      obtain ⟨rfl, rfl, rfl, hI328, hG329, hz327⟩ := hq325
                                      obtain rfl : kc = kc9 := by omega
                                      obtain rfl : ks = ks9 := by omega
                                      have hF330 := cm_fr.trans hF302 hG329 (by first | (simp; done) | (simp; omega) | (intro i k h; (try simp only at h); (try simp only); omega))
                                      have hz331 : E326 81 1 = ai_i z54 := (hG329 81 1 (by simp)).trans hz303
                                      have ghz331 := gv_eq hz331
                                      have hz332 : E326 81 19 = ai_i z322 := (hG329 81 19 (by simp)).trans hz322
                                      have ghz332 := gv_eq hz332
                                      have hz333 : E326 81 20 = ai_i z323 := (hG329 81 20 (by simp)).trans hz323
                                      have ghz333 := gv_eq hz333
                                      refine Or.inl ⟨rfl, ?_⟩
                                      exact w_vret rfl (⟨rfl, rfl, rfl, hI328, hF330, fun hz9 => absurd hz9 (by omega)⟩) (by omega) (by omega)
                                · replace hc320 : ¬ (z299 = z319) := hc320
                                  refine w_aload (i := 0) (npc := 339) rfl rfl rfl ?_
                                  refine w_const (n := 3) (npc := 340) rfl ?_
                                  refine w_aload (i := 0) (npc := 341) rfl rfl rfl ?_
                                  obtain ⟨z334, hz334, hz334a, hz334b⟩ := hI300.int 81 19 (lo := 0) (hi := 400) (by decide) (by decide) rfl
                                  have ghz334 := gv_eq hz334
                                  refine w_getf (i := 81) (ci := 8) (k := 19) (npc := 344) rfl (hI300.pl (by decide)) (hI300.T (by decide) rfl) (by decide) hz334 ?_
                                  refine w_const (n := 1) (npc := 345) rfl ?_
                                  refine w_isub (npc := 346) rfl (by omega) ?_
                                  refine w_virt (ci := 8) (i := 81) (npc := 349) (a := [cr 81, ai_i 3, ai_i (z334 - 1)]) (rest := []) rfl rfl (hI300.pl (by decide)) (hI300.T (by decide) rfl) rfl rfl rfl rfl (ct_m_wrong (sl := sl) (x := x) (d := d + 4) (3) (z334 - 1) hI300 (by omega) (by omega)) (Or.inl rfl) (fun k9 v9 T9 E337 nx9 kc9 ks9 hq336 hk9 hs9 => ?_)
                                  obtain ⟨rfl, rfl, rfl, hI339, hG340, hz338⟩ := hq336
                                  obtain rfl : kc = kc9 := by omega
                                  obtain rfl : ks = ks9 := by omega
                                  have hF341 := cm_fr.trans hF302 hG340 (by first | (simp; done) | (simp; omega) | (intro i k h; (try simp only at h); (try simp only); omega))
                                  have hz342 : E337 81 1 = ai_i z54 := (hG340 81 1 (by simp)).trans hz303
                                  have ghz342 := gv_eq hz342
                                  have hz343 : E337 81 19 = ai_i z334 := (hG340 81 19 (by simp)).trans hz334
                                  have ghz343 := gv_eq hz343
                                  refine Or.inl ⟨rfl, ?_⟩
                                  refine w_aload (i := 0) (npc := 350) rfl rfl rfl ?_
                                  obtain ⟨z344, hz344, hz344a, hz344b⟩ := hI339.int 81 21 (lo := 0) (hi := 3) (by decide) (by decide) rfl
                                  have ghz344 := gv_eq hz344
                                  refine w_getf (i := 81) (ci := 8) (k := 21) (npc := 353) rfl (hI339.pl (by decide)) (hI339.T (by decide) rfl) (by decide) hz344 ?_
                                  refine w_if (c := .ne) (npc := 356) (pt := 376) rfl (fun hc345 => ?_) (fun hc345 => ?_)
                                  · replace hc345 : z344 ≠ (0 : Int) := hc345
                                    exact w_vret rfl (⟨rfl, rfl, rfl, hI339, hF341, fun hz9 => absurd hz9 (by omega)⟩) (by omega) (by omega)
                                  · replace hc345 : ¬ (z344 ≠ (0 : Int)) := hc345
                                    refine w_aload (i := 0) (npc := 357) rfl rfl rfl ?_
                                    refine w_getf (i := 81) (ci := 8) (k := 19) (npc := 360) rfl (hI339.pl (by decide)) (hI339.T (by decide) rfl) (by decide) hz343 ?_
                                    refine w_aload (i := 0) (npc := 361) rfl rfl rfl ?_
                                    obtain ⟨z346, hz346, hz346a, hz346b⟩ := hI339.int 81 20 (lo := 0) (hi := 400) (by decide) (by decide) rfl
                                    have ghz346 := gv_eq hz346
                                    have g0hz346 : gv E 81 20 = z346 := (gv_fr hF341 (by simp)).trans ghz346
                                    refine w_getf (i := 81) (ci := 8) (k := 20) (npc := 364) rfl (hI339.pl (by decide)) (hI339.T (by decide) rfl) (by decide) hz346 ?_
                                    refine w_icmp (c := .ge) (npc := 367) (pt := 376) rfl (fun hc347 => ?_) (fun hc347 => ?_)
                                    · replace hc347 : z346 ≤ z334 := hc347
                                      exact w_vret rfl (⟨rfl, rfl, rfl, hI339, hF341, fun hz9 => absurd hz9 (by omega)⟩) (by omega) (by omega)
                                    · replace hc347 : ¬ (z346 ≤ z334) := hc347
                                      refine w_aload (i := 0) (npc := 368) rfl rfl rfl ?_
                                      refine w_const (n := 1) (npc := 369) rfl ?_
                                      refine w_aload (i := 0) (npc := 370) rfl rfl rfl ?_
                                      refine w_getf (i := 81) (ci := 8) (k := 19) (npc := 373) rfl (hI339.pl (by decide)) (hI339.T (by decide) rfl) (by decide) hz343 ?_
                                      refine w_virt (ci := 8) (i := 81) (npc := 376) (a := [cr 81, ai_i 1, ai_i z334]) (rest := []) rfl rfl (hI339.pl (by decide)) (hI339.T (by decide) rfl) rfl rfl rfl rfl (ct_m_wrong (sl := sl) (x := x) (d := d + 4) (1) (z334) hI339 (by omega) (by omega)) (Or.inl rfl) (fun k9 v9 T9 E349 nx9 kc9 ks9 hq348 hk9 hs9 => ?_)
                                      obtain ⟨rfl, rfl, rfl, hI351, hG352, hz350⟩ := hq348
                                      obtain rfl : kc = kc9 := by omega
                                      obtain rfl : ks = ks9 := by omega
                                      have hF353 := cm_fr.trans hF341 hG352 (by first | (simp; done) | (simp; omega) | (intro i k h; (try simp only at h); (try simp only); omega))
                                      have hz354 : E349 81 1 = ai_i z54 := (hG352 81 1 (by simp)).trans hz342
                                      have ghz354 := gv_eq hz354
                                      have hz355 : E349 81 19 = ai_i z334 := (hG352 81 19 (by simp)).trans hz343
                                      have ghz355 := gv_eq hz355
                                      have hz356 : E349 81 20 = ai_i z346 := (hG352 81 20 (by simp)).trans hz346
                                      have ghz356 := gv_eq hz356
                                      refine Or.inl ⟨rfl, ?_⟩
                                      exact w_vret rfl (⟨rfl, rfl, rfl, hI351, hF353, fun hz9 => absurd hz9 (by omega)⟩) (by omega) (by omega)
                            · replace hc296 : ¬ (z225 ≠ (0 : Int)) := hc296
                              refine w_iload (i := 2) (npc := 299) rfl rfl ?_
                              refine w_aload (i := 0) (npc := 300) rfl rfl rfl ?_
                              refine w_getf (i := 81) (ci := 8) (k := 15) (npc := 303) rfl (hI229.pl (by decide)) (hI229.T (by decide) rfl) (by decide) (hI229.ref 81 15 (p := 93) (by decide) (by decide) rfl) ?_
                              refine w_iload (i := 3) (npc := 304) rfl rfl ?_
                              obtain ⟨z357, hz357, hz357a, hz357b⟩ := hI229.int 93 (k : Int).toNat (lo := 0) (hi := 255) (by decide) (show (k : Int).toNat < 400 by omega) rfl
                              have ghz357 := gv_eq hz357
                              have g0hz357 : gv E 93 (k : Int).toNat = z357 := (gv_fr hF231 (by simp)).trans ghz357
                              refine w_ald (i := 93) (t := 1) (n := 400) (npc := 305) rfl (hI229.pl (by decide)) (hI229.T (by decide) rfl) (by decide) rfl (by omega) hz357 ?_
                              refine w_iadd (npc := 306) rfl (by omega) ?_
                              refine w_istore (i := 2) (npc := 307) (loc' := [cr 81, ai_i z75, ai_i (s + z357), ai_i k]) rfl rfl ?_
                              refine w_iinc (i := 3) (n := 1) (npc := 310) (loc' := [cr 81, ai_i z75, ai_i (s + z357), ai_i (k + 1)]) rfl rfl (by omega) rfl ?_
                              refine w_goto (pt := 283) rfl ?_
                              exact ih283 (s + z357) (k + 1) (by omega) (by omega)
                      exact loop283 _ (0) (0) (Nat.lt_succ_self _) (by omega)
                  · replace hc77 : ¬ (z75 ≠ (1 : Int)) := hc77
                    refine w_aload (i := 0) (npc := 228) rfl rfl rfl ?_
                    refine w_const (n := 3200) (npc := 231) rfl ?_
                    refine w_const (n := 9) (npc := 233) rfl ?_
                    refine w_aload (i := 0) (npc := 234) rfl rfl rfl ?_
                    refine w_virt (ci := 8) (i := 81) (npc := 237) (a := [cr 81]) (rest := [ai_i 9, ai_i 3200, cr 81]) rfl rfl (hI67.pl (by decide)) (hI67.T (by decide) rfl) rfl rfl rfl rfl (ct_m_readMark (sl := sl) (x := x) (d := d + 2)  hI67) (Or.inl rfl) (fun k9 v9 T9 E361 nx9 kc9 ks9 hq360 hk9 hs9 => ?_)
                    obtain ⟨rfl, rfl, rfl, hI363, hG364, z362, rfl, hz362⟩ := hq360
                    obtain rfl : kc = kc9 := by omega
                    obtain rfl : ks = ks9 := by omega
                    have hF365 := cm_fr.trans hF69 hG364 (by first | (simp; done) | (simp; omega) | (intro i k h; (try simp only at h); (try simp only); omega))
                    have hz366 : E361 81 1 = ai_i z54 := (hG364 81 1 (by simp)).trans hz70
                    have ghz366 := gv_eq hz366
                    refine Or.inr (Or.inl ⟨rfl, ?_⟩)
                    obtain ⟨z367, hz367, hz367a, hz367b⟩ := hI363.int 81 21 (lo := 0) (hi := 3) (by decide) (by decide) rfl
                    have ghz367 := gv_eq hz367
                    refine w_virt (ci := 8) (i := 81) (npc := 240) (a := [cr 81, ai_i 3200, ai_i 9, ai_i z362]) (rest := []) rfl rfl (hI363.pl (by decide)) (hI363.T (by decide) rfl) rfl rfl rfl rfl (ct_m_put (sl := sl) (x := x) (d := d + 4) (3200) (9) (z362) hI363 (by omega) (by omega) (by omega)) (Or.inl rfl) (fun k9 v9 T9 E369 nx9 kc9 ks9 hq368 hk9 hs9 => ?_)
                    obtain ⟨rfl, rfl, rfl, hI371, hG372, hz370⟩ := hq368
                    obtain rfl : kc = kc9 := by omega
                    obtain rfl : ks = ks9 := by omega
                    have hF373 := cm_fr.trans hF365 hG372 (by first | (simp; done) | (simp; omega) | (intro i k h; (try simp only at h); (try simp only); omega))
                    have hz374 : E369 81 1 = ai_i z54 := (hG372 81 1 (by simp)).trans hz366
                    have ghz374 := gv_eq hz374
                    have hz375 : E369 81 21 = ai_i z367 := (hG372 81 21 (by simp)).trans hz367
                    have ghz375 := gv_eq hz375
                    refine Or.inl ⟨rfl, ?_⟩
                    refine w_goto (pt := 279) rfl ?_
                    have hrow : gv E369 81 21 = 0 → rl_row E369 3200 ∧ rl_hd E369 3200 := fun hz0 => by
                      obtain ⟨d1, d2, d3, d4⟩ := hv74
                      have m0 := hz58
                      have m1 := hz66
                      have m2 := hz362
                      have m3 := hz370
                      have y0_0 := gv_fr hG60 (i := 81) (k := 1) (by first | (simp; done) | omega | (simp only; omega) | (simp; omega))
                      have y0_1 := gv_fr hG60 (i := 82) (k := (166 * 3200 + 0 : Int).toNat) (by first | (simp; done) | omega | (simp only; omega) | (simp; omega))
                      have y0_2 := gv_fr hG60 (i := 82) (k := (166 * 3200 + 1 : Int).toNat) (by first | (simp; done) | omega | (simp only; omega) | (simp; omega))
                      have y0_3 := gv_fr hG60 (i := 82) (k := (166 * 3200 + 2 : Int).toNat) (by first | (simp; done) | omega | (simp only; omega) | (simp; omega))
                      have y1_0 := gv_fr hG68 (i := 81) (k := 1) (by first | (simp; done) | omega | (simp only; omega) | (simp; omega))
                      have y1_1 := gv_fr hG68 (i := 82) (k := (166 * 3200 + 0 : Int).toNat) (by first | (simp; done) | omega | (simp only; omega) | (simp; omega))
                      have y1_2 := gv_fr hG68 (i := 82) (k := (166 * 3200 + 1 : Int).toNat) (by first | (simp; done) | omega | (simp only; omega) | (simp; omega))
                      have y1_3 := gv_fr hG68 (i := 82) (k := (166 * 3200 + 2 : Int).toNat) (by first | (simp; done) | omega | (simp only; omega) | (simp; omega))
                      have y2_0 := gv_fr hG364 (i := 81) (k := 1) (by first | (simp; done) | omega | (simp only; omega) | (simp; omega))
                      have y2_1 := gv_fr hG364 (i := 82) (k := (166 * 3200 + 0 : Int).toNat) (by first | (simp; done) | omega | (simp only; omega) | (simp; omega))
                      have y2_2 := gv_fr hG364 (i := 82) (k := (166 * 3200 + 1 : Int).toNat) (by first | (simp; done) | omega | (simp only; omega) | (simp; omega))
                      have y2_3 := gv_fr hG364 (i := 82) (k := (166 * 3200 + 2 : Int).toNat) (by first | (simp; done) | omega | (simp only; omega) | (simp; omega))
                      have y3_0 := gv_fr hG372 (i := 81) (k := 1) (by first | (simp; done) | omega | (simp only; omega) | (simp; omega))
                      have y3_1 := gv_fr hG372 (i := 82) (k := (166 * 3200 + 0 : Int).toNat) (by first | (simp; done) | omega | (simp only; omega) | (simp; omega))
                      have y3_2 := gv_fr hG372 (i := 82) (k := (166 * 3200 + 1 : Int).toNat) (by first | (simp; done) | omega | (simp only; omega) | (simp; omega))
                      have y3_3 := gv_fr hG372 (i := 82) (k := (166 * 3200 + 2 : Int).toNat) (by first | (simp; done) | omega | (simp only; omega) | (simp; omega))
                      have w0_0 := gv_fr hG364 (i := 82) (k := (166 * 3200 + 8 : Int).toNat) (by first | (simp; done) | omega | (simp only; omega) | (simp; omega))
                      have w1_0 := gv_fr hG372 (i := 82) (k := (166 * 3200 + 8 : Int).toNat) (by first | (simp; done) | omega | (simp only; omega) | (simp; omega))
                      have v10_0 := gv_fr hG68 (i := 81) (k := 21) (by first | (simp; done) | omega | (simp only; omega) | (simp; omega))
                      have v30_0 := gv_fr hG372 (i := 81) (k := 21) (by first | (simp; done) | omega | (simp only; omega) | (simp; omega))
                      exact hand_ok (E := E369) (a := gv E369 82 (166 * 3200 + 0 : Int).toNat) (p := gv E369 82 (166 * 3200 + 1 : Int).toNat) (m := gv E369 82 (166 * 3200 + 2 : Int).toNat - 1) rfl rfl (by omega) (by omega) (by omega) (by omega) (by omega) (by omega) (fun h0 => by omega) (fun h0 => by omega) (fun h0 => by omega)
                    refine w_const (n := 0) (npc := 280) rfl ?_
                    refine w_istore (i := 2) (npc := 281) (loc' := [cr 81, ai_i z75, ai_i 0, u74_3]) rfl rfl ?_
                    refine w_const (n := 0) (npc := 282) rfl ?_
                    refine w_istore (i := 3) (npc := 283) (loc' := [cr 81, ai_i z75, ai_i 0, ai_i 0]) rfl rfl ?_
                    have loop283 : ∀ (nf : Nat) (s : Int) (k : Int), ((400 - k).toNat) < nf → (0 ≤ k ∧ k ≤ 400 ∧ 0 ≤ s ∧ s ≤ 255 * k) → cm_wp (ai_find ai_c200 sl) (ai_ev sl (d + 5)) x (kc + 0) (ks + 0) (fun rk rv T' E' nx' => rk = 0 ∧ T = T' ∧ nx = nx' ∧ cs_I T E' nx ∧ cm_fr (fun i k => (i = 81 ∧ (k = 19 ∨ k = 21 ∨ k = 22)) ∨ (i = 82 ∧ 531200 ≤ k)) E E' ∧ (gv E' 81 21 = 0 → rl_row E' 3200 ∧ rl_hd E' 3200)) 283 [cr 81, ai_i z75, ai_i s, ai_i k] [] T E369 nx kc ks := by
                      intro nf
                      induction nf with
                      | zero => intro s k hm; exact absurd hm (Nat.not_lt_zero _)
                      | succ nf283 ih =>
                        intro s k hm283 hv283
                        have ih283 := ih; clear ih
                        refine w_iload (i := 3) (npc := 284) rfl rfl ?_
                        refine w_aload (i := 0) (npc := 285) rfl rfl rfl ?_
                        obtain ⟨z376, hz376, hz376a, hz376b⟩ := hI371.int 81 19 (lo := 0) (hi := 400) (by decide) (by decide) rfl
                        have ghz376 := gv_eq hz376
                        refine w_getf (i := 81) (ci := 8) (k := 19) (npc := 288) rfl (hI371.pl (by decide)) (hI371.T (by decide) rfl) (by decide) hz376 ?_
                        refine w_icmp (c := .ge) (npc := 291) (pt := 313) rfl (fun hc377 => ?_) (fun hc377 => ?_)
                        · replace hc377 : z376 ≤ k := hc377
                          refine w_aload (i := 0) (npc := 314) rfl rfl rfl ?_
                          refine w_const (n := 0) (npc := 315) rfl ?_
                          refine w_const (n := 255) (npc := 318) rfl ?_
                          refine w_virt (ci := 8) (i := 81) (npc := 321) (a := [cr 81, ai_i 0, ai_i 255]) (rest := []) rfl rfl (hI371.pl (by decide)) (hI371.T (by decide) rfl) rfl rfl rfl rfl (ct_m_readByte2 (sl := sl) (x := x) (d := d + 3) (0) (255) hI371) (Or.inl rfl) (fun k9 v9 T9 E379 nx9 kc9 ks9 hq378 hk9 hs9 => ?_)
                          obtain ⟨rfl, rfl, rfl, hI381, hG382, z380, rfl, hz380⟩ := hq378
                          obtain rfl : kc = kc9 := by omega
                          obtain rfl : ks = ks9 := by omega
                          have hF383 := cm_fr.trans hF373 hG382 (by first | (simp; done) | (simp; omega) | (intro i k h; (try simp only at h); (try simp only); omega))
                          have hz384 : E379 81 1 = ai_i z54 := (hG382 81 1 (by simp)).trans hz374
                          have ghz384 := gv_eq hz384
                          refine Or.inr (Or.inl ⟨rfl, ?_⟩)
                          refine w_istore (i := 3) (npc := 322) (loc' := [cr 81, ai_i z75, ai_i s, ai_i z380]) rfl rfl ?_
                          refine w_aload (i := 0) (npc := 323) rfl rfl rfl ?_
                          obtain ⟨z385, hz385, hz385a, hz385b⟩ := hI381.int 81 21 (lo := 0) (hi := 3) (by decide) (by decide) rfl
                          have ghz385 := gv_eq hz385
                          refine w_getf (i := 81) (ci := 8) (k := 21) (npc := 326) rfl (hI381.pl (by decide)) (hI381.T (by decide) rfl) (by decide) hz385 ?_
                          refine w_if (c := .ne) (npc := 329) (pt := 349) rfl (fun hc386 => ?_) (fun hc386 => ?_)
                          · replace hc386 : z385 ≠ (0 : Int) := hc386
                            refine w_aload (i := 0) (npc := 350) rfl rfl rfl ?_
                            refine w_getf (i := 81) (ci := 8) (k := 21) (npc := 353) rfl (hI381.pl (by decide)) (hI381.T (by decide) rfl) (by decide) hz385 ?_
                            refine w_if (c := .ne) (npc := 356) (pt := 376) rfl (fun hc387 => ?_) (fun hc387 => ?_)
                            · replace hc387 : z385 ≠ (0 : Int) := hc387
                              exact w_vret rfl (⟨rfl, rfl, rfl, hI381, hF383, fun hz9 => by have r9 := hrow (hz380.2.2 hz9).1; exact ⟨r9.1.of (fun k k0 k1 => (gv_fr hG382 (by simp)).symm), r9.2.of (fun k k0 k1 => (gv_fr hG382 (by simp)).symm) (gv_fr hG382 (by simp)).symm⟩⟩) (by omega) (by omega)
                            · replace hc387 : ¬ (z385 ≠ (0 : Int)) := hc387
                              refine w_aload (i := 0) (npc := 357) rfl rfl rfl ?_
                              obtain ⟨z388, hz388, hz388a, hz388b⟩ := hI381.int 81 19 (lo := 0) (hi := 400) (by decide) (by decide) rfl
                              have ghz388 := gv_eq hz388
                              refine w_getf (i := 81) (ci := 8) (k := 19) (npc := 360) rfl (hI381.pl (by decide)) (hI381.T (by decide) rfl) (by decide) hz388 ?_
                              refine w_aload (i := 0) (npc := 361) rfl rfl rfl ?_
                              obtain ⟨z389, hz389, hz389a, hz389b⟩ := hI381.int 81 20 (lo := 0) (hi := 400) (by decide) (by decide) rfl
                              have ghz389 := gv_eq hz389
                              have g0hz389 : gv E 81 20 = z389 := (gv_fr hF383 (by simp)).trans ghz389
                              refine w_getf (i := 81) (ci := 8) (k := 20) (npc := 364) rfl (hI381.pl (by decide)) (hI381.T (by decide) rfl) (by decide) hz389 ?_
                              refine w_icmp (c := .ge) (npc := 367) (pt := 376) rfl (fun hc390 => ?_) (fun hc390 => ?_)
                              · replace hc390 : z389 ≤ z388 := hc390
                                exact w_vret rfl (⟨rfl, rfl, rfl, hI381, hF383, fun hz9 => by have r9 := hrow (hz380.2.2 hz9).1; exact ⟨r9.1.of (fun k k0 k1 => (gv_fr hG382 (by simp)).symm), r9.2.of (fun k k0 k1 => (gv_fr hG382 (by simp)).symm) (gv_fr hG382 (by simp)).symm⟩⟩) (by omega) (by omega)
                              · replace hc390 : ¬ (z389 ≤ z388) := hc390
                                refine w_aload (i := 0) (npc := 368) rfl rfl rfl ?_
                                refine w_const (n := 1) (npc := 369) rfl ?_
                                refine w_aload (i := 0) (npc := 370) rfl rfl rfl ?_
                                refine w_getf (i := 81) (ci := 8) (k := 19) (npc := 373) rfl (hI381.pl (by decide)) (hI381.T (by decide) rfl) (by decide) hz388 ?_
                                refine w_virt (ci := 8) (i := 81) (npc := 376) (a := [cr 81, ai_i 1, ai_i z388]) (rest := []) rfl rfl (hI381.pl (by decide)) (hI381.T (by decide) rfl) rfl rfl rfl rfl (ct_m_wrong (sl := sl) (x := x) (d := d + 4) (1) (z388) hI381 (by omega) (by omega)) (Or.inl rfl) (fun k9 v9 T9 E392 nx9 kc9 ks9 hq391 hk9 hs9 => ?_)
                                obtain ⟨rfl, rfl, rfl, hI394, hG395, hz393⟩ := hq391
                                obtain rfl : kc = kc9 := by omega
                                obtain rfl : ks = ks9 := by omega
                                have hF396 := cm_fr.trans hF383 hG395 (by first | (simp; done) | (simp; omega) | (intro i k h; (try simp only at h); (try simp only); omega))
                                have hz397 : E392 81 1 = ai_i z54 := (hG395 81 1 (by simp)).trans hz384
                                have ghz397 := gv_eq hz397
                                have hz398 : E392 81 19 = ai_i z388 := (hG395 81 19 (by simp)).trans hz388
                                have ghz398 := gv_eq hz398
                                have hz399 : E392 81 20 = ai_i z389 := (hG395 81 20 (by simp)).trans hz389
                                have ghz399 := gv_eq hz399
                                refine Or.inl ⟨rfl, ?_⟩
                                exact w_vret rfl (⟨rfl, rfl, rfl, hI394, hF396, fun hz9 => absurd hz9 (by omega)⟩) (by omega) (by omega)
                          · replace hc386 : ¬ (z385 ≠ (0 : Int)) := hc386
                            refine w_iload (i := 3) (npc := 330) rfl rfl ?_
                            refine w_iload (i := 2) (npc := 331) rfl rfl ?_
                            refine w_const (n := 256) (npc := 334) rfl ?_
                            refine w_irem (npc := 335) rfl (by omega) (by omega) (fun z400 hz400 hz400b => ?_)
                            refine w_icmp (c := .eq) (npc := 338) (pt := 349) rfl (fun hc401 => ?_) (fun hc401 => ?_)
                            · replace hc401 : z380 = z400 := hc401
                              refine w_aload (i := 0) (npc := 350) rfl rfl rfl ?_
                              refine w_getf (i := 81) (ci := 8) (k := 21) (npc := 353) rfl (hI381.pl (by decide)) (hI381.T (by decide) rfl) (by decide) hz385 ?_
                              refine w_if (c := .ne) (npc := 356) (pt := 376) rfl (fun hc402 => ?_) (fun hc402 => ?_)
                              · replace hc402 : z385 ≠ (0 : Int) := hc402
                                exact w_vret rfl (⟨rfl, rfl, rfl, hI381, hF383, fun hz9 => by have r9 := hrow (hz380.2.2 hz9).1; exact ⟨r9.1.of (fun k k0 k1 => (gv_fr hG382 (by simp)).symm), r9.2.of (fun k k0 k1 => (gv_fr hG382 (by simp)).symm) (gv_fr hG382 (by simp)).symm⟩⟩) (by omega) (by omega)
                              · replace hc402 : ¬ (z385 ≠ (0 : Int)) := hc402
                                refine w_aload (i := 0) (npc := 357) rfl rfl rfl ?_
                                obtain ⟨z403, hz403, hz403a, hz403b⟩ := hI381.int 81 19 (lo := 0) (hi := 400) (by decide) (by decide) rfl
                                have ghz403 := gv_eq hz403
                                refine w_getf (i := 81) (ci := 8) (k := 19) (npc := 360) rfl (hI381.pl (by decide)) (hI381.T (by decide) rfl) (by decide) hz403 ?_
                                refine w_aload (i := 0) (npc := 361) rfl rfl rfl ?_
                                obtain ⟨z404, hz404, hz404a, hz404b⟩ := hI381.int 81 20 (lo := 0) (hi := 400) (by decide) (by decide) rfl
                                have ghz404 := gv_eq hz404
                                have g0hz404 : gv E 81 20 = z404 := (gv_fr hF383 (by simp)).trans ghz404
                                refine w_getf (i := 81) (ci := 8) (k := 20) (npc := 364) rfl (hI381.pl (by decide)) (hI381.T (by decide) rfl) (by decide) hz404 ?_
                                refine w_icmp (c := .ge) (npc := 367) (pt := 376) rfl (fun hc405 => ?_) (fun hc405 => ?_)
                                · replace hc405 : z404 ≤ z403 := hc405
                                  exact w_vret rfl (⟨rfl, rfl, rfl, hI381, hF383, fun hz9 => by have r9 := hrow (hz380.2.2 hz9).1; exact ⟨r9.1.of (fun k k0 k1 => (gv_fr hG382 (by simp)).symm), r9.2.of (fun k k0 k1 => (gv_fr hG382 (by simp)).symm) (gv_fr hG382 (by simp)).symm⟩⟩) (by omega) (by omega)
                                · replace hc405 : ¬ (z404 ≤ z403) := hc405
                                  refine w_aload (i := 0) (npc := 368) rfl rfl rfl ?_
                                  refine w_const (n := 1) (npc := 369) rfl ?_
                                  refine w_aload (i := 0) (npc := 370) rfl rfl rfl ?_
                                  refine w_getf (i := 81) (ci := 8) (k := 19) (npc := 373) rfl (hI381.pl (by decide)) (hI381.T (by decide) rfl) (by decide) hz403 ?_
                                  refine w_virt (ci := 8) (i := 81) (npc := 376) (a := [cr 81, ai_i 1, ai_i z403]) (rest := []) rfl rfl (hI381.pl (by decide)) (hI381.T (by decide) rfl) rfl rfl rfl rfl (ct_m_wrong (sl := sl) (x := x) (d := d + 4) (1) (z403) hI381 (by omega) (by omega)) (Or.inl rfl) (fun k9 v9 T9 E407 nx9 kc9 ks9 hq406 hk9 hs9 => ?_)
                                  obtain ⟨rfl, rfl, rfl, hI409, hG410, hz408⟩ := hq406
                                  obtain rfl : kc = kc9 := by omega
                                  obtain rfl : ks = ks9 := by omega
                                  have hF411 := cm_fr.trans hF383 hG410 (by first | (simp; done) | (simp; omega) | (intro i k h; (try simp only at h); (try simp only); omega))
                                  have hz412 : E407 81 1 = ai_i z54 := (hG410 81 1 (by simp)).trans hz384
                                  have ghz412 := gv_eq hz412
                                  have hz413 : E407 81 19 = ai_i z403 := (hG410 81 19 (by simp)).trans hz403
                                  have ghz413 := gv_eq hz413
                                  have hz414 : E407 81 20 = ai_i z404 := (hG410 81 20 (by simp)).trans hz404
                                  have ghz414 := gv_eq hz414
                                  refine Or.inl ⟨rfl, ?_⟩
                                  exact w_vret rfl (⟨rfl, rfl, rfl, hI409, hF411, fun hz9 => absurd hz9 (by omega)⟩) (by omega) (by omega)
                            · replace hc401 : ¬ (z380 = z400) := hc401
                              refine w_aload (i := 0) (npc := 339) rfl rfl rfl ?_
                              refine w_const (n := 3) (npc := 340) rfl ?_
                              refine w_aload (i := 0) (npc := 341) rfl rfl rfl ?_
                              obtain ⟨z415, hz415, hz415a, hz415b⟩ := hI381.int 81 19 (lo := 0) (hi := 400) (by decide) (by decide) rfl
                              have ghz415 := gv_eq hz415
                              refine w_getf (i := 81) (ci := 8) (k := 19) (npc := 344) rfl (hI381.pl (by decide)) (hI381.T (by decide) rfl) (by decide) hz415 ?_
                              refine w_const (n := 1) (npc := 345) rfl ?_
                              refine w_isub (npc := 346) rfl (by omega) ?_
                              refine w_virt (ci := 8) (i := 81) (npc := 349) (a := [cr 81, ai_i 3, ai_i (z415 - 1)]) (rest := []) rfl rfl (hI381.pl (by decide)) (hI381.T (by decide) rfl) rfl rfl rfl rfl (ct_m_wrong (sl := sl) (x := x) (d := d + 4) (3) (z415 - 1) hI381 (by omega) (by omega)) (Or.inl rfl) (fun k9 v9 T9 E418 nx9 kc9 ks9 hq417 hk9 hs9 => ?_)
                              obtain ⟨rfl, rfl, rfl, hI420, hG421, hz419⟩ := hq417
                              obtain rfl : kc = kc9 := by omega
                              obtain rfl : ks = ks9 := by omega
                              have hF422 := cm_fr.trans hF383 hG421 (by first | (simp; done) | (simp; omega) | (intro i k h; (try simp only at h); (try simp only); omega))
                              have hz423 : E418 81 1 = ai_i z54 := (hG421 81 1 (by simp)).trans hz384
                              have ghz423 := gv_eq hz423
                              have hz424 : E418 81 19 = ai_i z415 := (hG421 81 19 (by simp)).trans hz415
                              have ghz424 := gv_eq hz424
                              refine Or.inl ⟨rfl, ?_⟩
                              refine w_aload (i := 0) (npc := 350) rfl rfl rfl ?_
                              obtain ⟨z425, hz425, hz425a, hz425b⟩ := hI420.int 81 21 (lo := 0) (hi := 3) (by decide) (by decide) rfl
                              have ghz425 := gv_eq hz425
                              refine w_getf (i := 81) (ci := 8) (k := 21) (npc := 353) rfl (hI420.pl (by decide)) (hI420.T (by decide) rfl) (by decide) hz425 ?_
                              refine w_if (c := .ne) (npc := 356) (pt := 376) rfl (fun hc426 => ?_) (fun hc426 => ?_)
                              · replace hc426 : z425 ≠ (0 : Int) := hc426
                                exact w_vret rfl (⟨rfl, rfl, rfl, hI420, hF422, fun hz9 => absurd hz9 (by omega)⟩) (by omega) (by omega)
                              · replace hc426 : ¬ (z425 ≠ (0 : Int)) := hc426
                                refine w_aload (i := 0) (npc := 357) rfl rfl rfl ?_
                                refine w_getf (i := 81) (ci := 8) (k := 19) (npc := 360) rfl (hI420.pl (by decide)) (hI420.T (by decide) rfl) (by decide) hz424 ?_
                                refine w_aload (i := 0) (npc := 361) rfl rfl rfl ?_
                                obtain ⟨z427, hz427, hz427a, hz427b⟩ := hI420.int 81 20 (lo := 0) (hi := 400) (by decide) (by decide) rfl
                                have ghz427 := gv_eq hz427
                                have g0hz427 : gv E 81 20 = z427 := (gv_fr hF422 (by simp)).trans ghz427
                                refine w_getf (i := 81) (ci := 8) (k := 20) (npc := 364) rfl (hI420.pl (by decide)) (hI420.T (by decide) rfl) (by decide) hz427 ?_
                                refine w_icmp (c := .ge) (npc := 367) (pt := 376) rfl (fun hc428 => ?_) (fun hc428 => ?_)
                                · replace hc428 : z427 ≤ z415 := hc428
                                  exact w_vret rfl (⟨rfl, rfl, rfl, hI420, hF422, fun hz9 => absurd hz9 (by omega)⟩) (by omega) (by omega)
                                · replace hc428 : ¬ (z427 ≤ z415) := hc428
                                  refine w_aload (i := 0) (npc := 368) rfl rfl rfl ?_
                                  refine w_const (n := 1) (npc := 369) rfl ?_
                                  refine w_aload (i := 0) (npc := 370) rfl rfl rfl ?_
                                  refine w_getf (i := 81) (ci := 8) (k := 19) (npc := 373) rfl (hI420.pl (by decide)) (hI420.T (by decide) rfl) (by decide) hz424 ?_
                                  refine w_virt (ci := 8) (i := 81) (npc := 376) (a := [cr 81, ai_i 1, ai_i z415]) (rest := []) rfl rfl (hI420.pl (by decide)) (hI420.T (by decide) rfl) rfl rfl rfl rfl (ct_m_wrong (sl := sl) (x := x) (d := d + 4) (1) (z415) hI420 (by omega) (by omega)) (Or.inl rfl) (fun k9 v9 T9 E430 nx9 kc9 ks9 hq429 hk9 hs9 => ?_)
                                  obtain ⟨rfl, rfl, rfl, hI432, hG433, hz431⟩ := hq429
                                  obtain rfl : kc = kc9 := by omega
                                  obtain rfl : ks = ks9 := by omega
                                  have hF434 := cm_fr.trans hF422 hG433 (by first | (simp; done) | (simp; omega) | (intro i k h; (try simp only at h); (try simp only); omega))
                                  have hz435 : E430 81 1 = ai_i z54 := (hG433 81 1 (by simp)).trans hz423
                                  have ghz435 := gv_eq hz435
                                  have hz436 : E430 81 19 = ai_i z415 := (hG433 81 19 (by simp)).trans hz424
                                  have ghz436 := gv_eq hz436
                                  have hz437 : E430 81 20 = ai_i z427 := (hG433 81 20 (by simp)).trans hz427
                                  have ghz437 := gv_eq hz437
                                  refine Or.inl ⟨rfl, ?_⟩
                                  exact w_vret rfl (⟨rfl, rfl, rfl, hI432, hF434, fun hz9 => absurd hz9 (by omega)⟩) (by omega) (by omega)
                        · replace hc377 : ¬ (z376 ≤ k) := hc377
                          refine w_aload (i := 0) (npc := 292) rfl rfl rfl ?_
                          refine w_getf (i := 81) (ci := 8) (k := 21) (npc := 295) rfl (hI371.pl (by decide)) (hI371.T (by decide) rfl) (by decide) hz375 ?_
                          refine w_if (c := .ne) (npc := 298) (pt := 313) rfl (fun hc438 => ?_) (fun hc438 => ?_)
                          · replace hc438 : z367 ≠ (0 : Int) := hc438
                            refine w_aload (i := 0) (npc := 314) rfl rfl rfl ?_
                            refine w_const (n := 0) (npc := 315) rfl ?_
                            refine w_const (n := 255) (npc := 318) rfl ?_
                            refine w_virt (ci := 8) (i := 81) (npc := 321) (a := [cr 81, ai_i 0, ai_i 255]) (rest := []) rfl rfl (hI371.pl (by decide)) (hI371.T (by decide) rfl) rfl rfl rfl rfl (ct_m_readByte2 (sl := sl) (x := x) (d := d + 3) (0) (255) hI371) (Or.inl rfl) (fun k9 v9 T9 E440 nx9 kc9 ks9 hq439 hk9 hs9 => ?_)
                            obtain ⟨rfl, rfl, rfl, hI442, hG443, z441, rfl, hz441⟩ := hq439
                            obtain rfl : kc = kc9 := by omega
                            obtain rfl : ks = ks9 := by omega
                            have hF444 := cm_fr.trans hF373 hG443 (by first | (simp; done) | (simp; omega) | (intro i k h; (try simp only at h); (try simp only); omega))
                            have hz445 : E440 81 1 = ai_i z54 := (hG443 81 1 (by simp)).trans hz374
                            have ghz445 := gv_eq hz445
                            refine Or.inr (Or.inl ⟨rfl, ?_⟩)
                            refine w_istore (i := 3) (npc := 322) (loc' := [cr 81, ai_i z75, ai_i s, ai_i z441]) rfl rfl ?_
                            refine w_aload (i := 0) (npc := 323) rfl rfl rfl ?_
                            obtain ⟨z446, hz446, hz446a, hz446b⟩ := hI442.int 81 21 (lo := 0) (hi := 3) (by decide) (by decide) rfl
                            have ghz446 := gv_eq hz446
                            refine w_getf (i := 81) (ci := 8) (k := 21) (npc := 326) rfl (hI442.pl (by decide)) (hI442.T (by decide) rfl) (by decide) hz446 ?_
                            refine w_if (c := .ne) (npc := 329) (pt := 349) rfl (fun hc447 => ?_) (fun hc447 => ?_)
                            · replace hc447 : z446 ≠ (0 : Int) := hc447
                              refine w_aload (i := 0) (npc := 350) rfl rfl rfl ?_
                              refine w_getf (i := 81) (ci := 8) (k := 21) (npc := 353) rfl (hI442.pl (by decide)) (hI442.T (by decide) rfl) (by decide) hz446 ?_
                              refine w_if (c := .ne) (npc := 356) (pt := 376) rfl (fun hc448 => ?_) (fun hc448 => ?_)
                              · replace hc448 : z446 ≠ (0 : Int) := hc448
                                exact w_vret rfl (⟨rfl, rfl, rfl, hI442, hF444, fun hz9 => by have r9 := hrow (hz441.2.2 hz9).1; exact ⟨r9.1.of (fun k k0 k1 => (gv_fr hG443 (by simp)).symm), r9.2.of (fun k k0 k1 => (gv_fr hG443 (by simp)).symm) (gv_fr hG443 (by simp)).symm⟩⟩) (by omega) (by omega)
                              · replace hc448 : ¬ (z446 ≠ (0 : Int)) := hc448
                                refine w_aload (i := 0) (npc := 357) rfl rfl rfl ?_
                                obtain ⟨z449, hz449, hz449a, hz449b⟩ := hI442.int 81 19 (lo := 0) (hi := 400) (by decide) (by decide) rfl
                                have ghz449 := gv_eq hz449
                                refine w_getf (i := 81) (ci := 8) (k := 19) (npc := 360) rfl (hI442.pl (by decide)) (hI442.T (by decide) rfl) (by decide) hz449 ?_
                                refine w_aload (i := 0) (npc := 361) rfl rfl rfl ?_
                                obtain ⟨z450, hz450, hz450a, hz450b⟩ := hI442.int 81 20 (lo := 0) (hi := 400) (by decide) (by decide) rfl
                                have ghz450 := gv_eq hz450
                                have g0hz450 : gv E 81 20 = z450 := (gv_fr hF444 (by simp)).trans ghz450
                                refine w_getf (i := 81) (ci := 8) (k := 20) (npc := 364) rfl (hI442.pl (by decide)) (hI442.T (by decide) rfl) (by decide) hz450 ?_
                                refine w_icmp (c := .ge) (npc := 367) (pt := 376) rfl (fun hc451 => ?_) (fun hc451 => ?_)
                                · replace hc451 : z450 ≤ z449 := hc451
                                  exact w_vret rfl (⟨rfl, rfl, rfl, hI442, hF444, fun hz9 => by have r9 := hrow (hz441.2.2 hz9).1; exact ⟨r9.1.of (fun k k0 k1 => (gv_fr hG443 (by simp)).symm), r9.2.of (fun k k0 k1 => (gv_fr hG443 (by simp)).symm) (gv_fr hG443 (by simp)).symm⟩⟩) (by omega) (by omega)
                                · replace hc451 : ¬ (z450 ≤ z449) := hc451
                                  refine w_aload (i := 0) (npc := 368) rfl rfl rfl ?_
                                  refine w_const (n := 1) (npc := 369) rfl ?_
                                  refine w_aload (i := 0) (npc := 370) rfl rfl rfl ?_
                                  refine w_getf (i := 81) (ci := 8) (k := 19) (npc := 373) rfl (hI442.pl (by decide)) (hI442.T (by decide) rfl) (by decide) hz449 ?_
                                  refine w_virt (ci := 8) (i := 81) (npc := 376) (a := [cr 81, ai_i 1, ai_i z449]) (rest := []) rfl rfl (hI442.pl (by decide)) (hI442.T (by decide) rfl) rfl rfl rfl rfl (ct_m_wrong (sl := sl) (x := x) (d := d + 4) (1) (z449) hI442 (by omega) (by omega)) (Or.inl rfl) (fun k9 v9 T9 E453 nx9 kc9 ks9 hq452 hk9 hs9 => ?_)
                                  obtain ⟨rfl, rfl, rfl, hI455, hG456, hz454⟩ := hq452
                                  obtain rfl : kc = kc9 := by omega
                                  obtain rfl : ks = ks9 := by omega
                                  have hF457 := cm_fr.trans hF444 hG456 (by first | (simp; done) | (simp; omega) | (intro i k h; (try simp only at h); (try simp only); omega))
                                  have hz458 : E453 81 1 = ai_i z54 := (hG456 81 1 (by simp)).trans hz445
                                  have ghz458 := gv_eq hz458
                                  have hz459 : E453 81 19 = ai_i z449 := (hG456 81 19 (by simp)).trans hz449
                                  have ghz459 := gv_eq hz459
                                  have hz460 : E453 81 20 = ai_i z450 := (hG456 81 20 (by simp)).trans hz450
                                  have ghz460 := gv_eq hz460
                                  refine Or.inl ⟨rfl, ?_⟩
                                  exact w_vret rfl (⟨rfl, rfl, rfl, hI455, hF457, fun hz9 => absurd hz9 (by omega)⟩) (by omega) (by omega)
                            · replace hc447 : ¬ (z446 ≠ (0 : Int)) := hc447
                              refine w_iload (i := 3) (npc := 330) rfl rfl ?_
                              refine w_iload (i := 2) (npc := 331) rfl rfl ?_
                              refine w_const (n := 256) (npc := 334) rfl ?_
                              refine w_irem (npc := 335) rfl (by omega) (by omega) (fun z461 hz461 hz461b => ?_)
                              refine w_icmp (c := .eq) (npc := 338) (pt := 349) rfl (fun hc462 => ?_) (fun hc462 => ?_)
                              · replace hc462 : z441 = z461 := hc462
                                refine w_aload (i := 0) (npc := 350) rfl rfl rfl ?_
                                refine w_getf (i := 81) (ci := 8) (k := 21) (npc := 353) rfl (hI442.pl (by decide)) (hI442.T (by decide) rfl) (by decide) hz446 ?_
                                refine w_if (c := .ne) (npc := 356) (pt := 376) rfl (fun hc463 => ?_) (fun hc463 => ?_)
                                · replace hc463 : z446 ≠ (0 : Int) := hc463
                                  exact w_vret rfl (⟨rfl, rfl, rfl, hI442, hF444, fun hz9 => by have r9 := hrow (hz441.2.2 hz9).1; exact ⟨r9.1.of (fun k k0 k1 => (gv_fr hG443 (by simp)).symm), r9.2.of (fun k k0 k1 => (gv_fr hG443 (by simp)).symm) (gv_fr hG443 (by simp)).symm⟩⟩) (by omega) (by omega)
                                · replace hc463 : ¬ (z446 ≠ (0 : Int)) := hc463
                                  refine w_aload (i := 0) (npc := 357) rfl rfl rfl ?_
                                  obtain ⟨z464, hz464, hz464a, hz464b⟩ := hI442.int 81 19 (lo := 0) (hi := 400) (by decide) (by decide) rfl
                                  have ghz464 := gv_eq hz464
                                  refine w_getf (i := 81) (ci := 8) (k := 19) (npc := 360) rfl (hI442.pl (by decide)) (hI442.T (by decide) rfl) (by decide) hz464 ?_
                                  refine w_aload (i := 0) (npc := 361) rfl rfl rfl ?_
                                  obtain ⟨z465, hz465, hz465a, hz465b⟩ := hI442.int 81 20 (lo := 0) (hi := 400) (by decide) (by decide) rfl
                                  have ghz465 := gv_eq hz465
                                  have g0hz465 : gv E 81 20 = z465 := (gv_fr hF444 (by simp)).trans ghz465
                                  refine w_getf (i := 81) (ci := 8) (k := 20) (npc := 364) rfl (hI442.pl (by decide)) (hI442.T (by decide) rfl) (by decide) hz465 ?_
                                  refine w_icmp (c := .ge) (npc := 367) (pt := 376) rfl (fun hc466 => ?_) (fun hc466 => ?_)
                                  · replace hc466 : z465 ≤ z464 := hc466
                                    exact w_vret rfl (⟨rfl, rfl, rfl, hI442, hF444, fun hz9 => by have r9 := hrow (hz441.2.2 hz9).1; exact ⟨r9.1.of (fun k k0 k1 => (gv_fr hG443 (by simp)).symm), r9.2.of (fun k k0 k1 => (gv_fr hG443 (by simp)).symm) (gv_fr hG443 (by simp)).symm⟩⟩) (by omega) (by omega)
                                  · replace hc466 : ¬ (z465 ≤ z464) := hc466
                                    refine w_aload (i := 0) (npc := 368) rfl rfl rfl ?_
                                    refine w_const (n := 1) (npc := 369) rfl ?_
                                    refine w_aload (i := 0) (npc := 370) rfl rfl rfl ?_
                                    refine w_getf (i := 81) (ci := 8) (k := 19) (npc := 373) rfl (hI442.pl (by decide)) (hI442.T (by decide) rfl) (by decide) hz464 ?_
                                    refine w_virt (ci := 8) (i := 81) (npc := 376) (a := [cr 81, ai_i 1, ai_i z464]) (rest := []) rfl rfl (hI442.pl (by decide)) (hI442.T (by decide) rfl) rfl rfl rfl rfl (ct_m_wrong (sl := sl) (x := x) (d := d + 4) (1) (z464) hI442 (by omega) (by omega)) (Or.inl rfl) (fun k9 v9 T9 E468 nx9 kc9 ks9 hq467 hk9 hs9 => ?_)
                                    obtain ⟨rfl, rfl, rfl, hI470, hG471, hz469⟩ := hq467
                                    obtain rfl : kc = kc9 := by omega
                                    obtain rfl : ks = ks9 := by omega
                                    have hF472 := cm_fr.trans hF444 hG471 (by first | (simp; done) | (simp; omega) | (intro i k h; (try simp only at h); (try simp only); omega))
                                    have hz473 : E468 81 1 = ai_i z54 := (hG471 81 1 (by simp)).trans hz445
                                    have ghz473 := gv_eq hz473
                                    have hz474 : E468 81 19 = ai_i z464 := (hG471 81 19 (by simp)).trans hz464
                                    have ghz474 := gv_eq hz474
                                    have hz475 : E468 81 20 = ai_i z465 := (hG471 81 20 (by simp)).trans hz465
                                    have ghz475 := gv_eq hz475
                                    refine Or.inl ⟨rfl, ?_⟩
                                    exact w_vret rfl (⟨rfl, rfl, rfl, hI470, hF472, fun hz9 => absurd hz9 (by omega)⟩) (by omega) (by omega)
                              · replace hc462 : ¬ (z441 = z461) := hc462
                                refine w_aload (i := 0) (npc := 339) rfl rfl rfl ?_
                                refine w_const (n := 3) (npc := 340) rfl ?_
                                refine w_aload (i := 0) (npc := 341) rfl rfl rfl ?_
                                obtain ⟨z476, hz476, hz476a, hz476b⟩ := hI442.int 81 19 (lo := 0) (hi := 400) (by decide) (by decide) rfl
                                have ghz476 := gv_eq hz476
                                refine w_getf (i := 81) (ci := 8) (k := 19) (npc := 344) rfl (hI442.pl (by decide)) (hI442.T (by decide) rfl) (by decide) hz476 ?_
                                refine w_const (n := 1) (npc := 345) rfl ?_
                                refine w_isub (npc := 346) rfl (by omega) ?_
                                refine w_virt (ci := 8) (i := 81) (npc := 349) (a := [cr 81, ai_i 3, ai_i (z476 - 1)]) (rest := []) rfl rfl (hI442.pl (by decide)) (hI442.T (by decide) rfl) rfl rfl rfl rfl (ct_m_wrong (sl := sl) (x := x) (d := d + 4) (3) (z476 - 1) hI442 (by omega) (by omega)) (Or.inl rfl) (fun k9 v9 T9 E479 nx9 kc9 ks9 hq478 hk9 hs9 => ?_)
                                obtain ⟨rfl, rfl, rfl, hI481, hG482, hz480⟩ := hq478
                                obtain rfl : kc = kc9 := by omega
                                obtain rfl : ks = ks9 := by omega
                                have hF483 := cm_fr.trans hF444 hG482 (by first | (simp; done) | (simp; omega) | (intro i k h; (try simp only at h); (try simp only); omega))
                                have hz484 : E479 81 1 = ai_i z54 := (hG482 81 1 (by simp)).trans hz445
                                have ghz484 := gv_eq hz484
                                have hz485 : E479 81 19 = ai_i z476 := (hG482 81 19 (by simp)).trans hz476
                                have ghz485 := gv_eq hz485
                                refine Or.inl ⟨rfl, ?_⟩
                                refine w_aload (i := 0) (npc := 350) rfl rfl rfl ?_
                                obtain ⟨z486, hz486, hz486a, hz486b⟩ := hI481.int 81 21 (lo := 0) (hi := 3) (by decide) (by decide) rfl
                                have ghz486 := gv_eq hz486
                                refine w_getf (i := 81) (ci := 8) (k := 21) (npc := 353) rfl (hI481.pl (by decide)) (hI481.T (by decide) rfl) (by decide) hz486 ?_
                                refine w_if (c := .ne) (npc := 356) (pt := 376) rfl (fun hc487 => ?_) (fun hc487 => ?_)
                                · replace hc487 : z486 ≠ (0 : Int) := hc487
                                  exact w_vret rfl (⟨rfl, rfl, rfl, hI481, hF483, fun hz9 => absurd hz9 (by omega)⟩) (by omega) (by omega)
                                · replace hc487 : ¬ (z486 ≠ (0 : Int)) := hc487
                                  refine w_aload (i := 0) (npc := 357) rfl rfl rfl ?_
                                  refine w_getf (i := 81) (ci := 8) (k := 19) (npc := 360) rfl (hI481.pl (by decide)) (hI481.T (by decide) rfl) (by decide) hz485 ?_
                                  refine w_aload (i := 0) (npc := 361) rfl rfl rfl ?_
                                  obtain ⟨z488, hz488, hz488a, hz488b⟩ := hI481.int 81 20 (lo := 0) (hi := 400) (by decide) (by decide) rfl
                                  have ghz488 := gv_eq hz488
                                  have g0hz488 : gv E 81 20 = z488 := (gv_fr hF483 (by simp)).trans ghz488
                                  refine w_getf (i := 81) (ci := 8) (k := 20) (npc := 364) rfl (hI481.pl (by decide)) (hI481.T (by decide) rfl) (by decide) hz488 ?_
                                  refine w_icmp (c := .ge) (npc := 367) (pt := 376) rfl (fun hc489 => ?_) (fun hc489 => ?_)
                                  · replace hc489 : z488 ≤ z476 := hc489
                                    exact w_vret rfl (⟨rfl, rfl, rfl, hI481, hF483, fun hz9 => absurd hz9 (by omega)⟩) (by omega) (by omega)
                                  · replace hc489 : ¬ (z488 ≤ z476) := hc489
                                    refine w_aload (i := 0) (npc := 368) rfl rfl rfl ?_
                                    refine w_const (n := 1) (npc := 369) rfl ?_
                                    refine w_aload (i := 0) (npc := 370) rfl rfl rfl ?_
                                    refine w_getf (i := 81) (ci := 8) (k := 19) (npc := 373) rfl (hI481.pl (by decide)) (hI481.T (by decide) rfl) (by decide) hz485 ?_
                                    refine w_virt (ci := 8) (i := 81) (npc := 376) (a := [cr 81, ai_i 1, ai_i z476]) (rest := []) rfl rfl (hI481.pl (by decide)) (hI481.T (by decide) rfl) rfl rfl rfl rfl (ct_m_wrong (sl := sl) (x := x) (d := d + 4) (1) (z476) hI481 (by omega) (by omega)) (Or.inl rfl) (fun k9 v9 T9 E491 nx9 kc9 ks9 hq490 hk9 hs9 => ?_)
                                    obtain ⟨rfl, rfl, rfl, hI493, hG494, hz492⟩ := hq490
                                    obtain rfl : kc = kc9 := by omega
                                    obtain rfl : ks = ks9 := by omega
                                    have hF495 := cm_fr.trans hF483 hG494 (by first | (simp; done) | (simp; omega) | (intro i k h; (try simp only at h); (try simp only); omega))
                                    have hz496 : E491 81 1 = ai_i z54 := (hG494 81 1 (by simp)).trans hz484
                                    have ghz496 := gv_eq hz496
                                    have hz497 : E491 81 19 = ai_i z476 := (hG494 81 19 (by simp)).trans hz485
                                    have ghz497 := gv_eq hz497
                                    have hz498 : E491 81 20 = ai_i z488 := (hG494 81 20 (by simp)).trans hz488
                                    have ghz498 := gv_eq hz498
                                    refine Or.inl ⟨rfl, ?_⟩
                                    exact w_vret rfl (⟨rfl, rfl, rfl, hI493, hF495, fun hz9 => absurd hz9 (by omega)⟩) (by omega) (by omega)
                          · replace hc438 : ¬ (z367 ≠ (0 : Int)) := hc438
                            refine w_iload (i := 2) (npc := 299) rfl rfl ?_
                            refine w_aload (i := 0) (npc := 300) rfl rfl rfl ?_
                            refine w_getf (i := 81) (ci := 8) (k := 15) (npc := 303) rfl (hI371.pl (by decide)) (hI371.T (by decide) rfl) (by decide) (hI371.ref 81 15 (p := 93) (by decide) (by decide) rfl) ?_
                            refine w_iload (i := 3) (npc := 304) rfl rfl ?_
                            obtain ⟨z499, hz499, hz499a, hz499b⟩ := hI371.int 93 (k : Int).toNat (lo := 0) (hi := 255) (by decide) (show (k : Int).toNat < 400 by omega) rfl
                            have ghz499 := gv_eq hz499
                            have g0hz499 : gv E 93 (k : Int).toNat = z499 := (gv_fr hF373 (by simp)).trans ghz499
                            refine w_ald (i := 93) (t := 1) (n := 400) (npc := 305) rfl (hI371.pl (by decide)) (hI371.T (by decide) rfl) (by decide) rfl (by omega) hz499 ?_
                            refine w_iadd (npc := 306) rfl (by omega) ?_
                            refine w_istore (i := 2) (npc := 307) (loc' := [cr 81, ai_i z75, ai_i (s + z499), ai_i k]) rfl rfl ?_
                            refine w_iinc (i := 3) (n := 1) (npc := 310) (loc' := [cr 81, ai_i z75, ai_i (s + z499), ai_i (k + 1)]) rfl rfl (by omega) rfl ?_
                            refine w_goto (pt := 283) rfl ?_
                            exact ih283 (s + z499) (k + 1) (by omega) (by omega)
                    exact loop283 _ (0) (0) (Nat.lt_succ_self _) (by omega)
                · replace hc76 : ¬ (z75 ≠ (0 : Int)) := hc76
                  refine w_aload (i := 0) (npc := 197) rfl rfl rfl ?_
                  refine w_const (n := 3200) (npc := 200) rfl ?_
                  refine w_const (n := 9) (npc := 202) rfl ?_
                  refine w_aload (i := 0) (npc := 203) rfl rfl rfl ?_
                  refine w_const (n := 32) (npc := 205) rfl ?_
                  refine w_const (n := 126) (npc := 207) rfl ?_
                  refine w_virt (ci := 8) (i := 81) (npc := 210) (a := [cr 81, ai_i 32, ai_i 126]) (rest := [ai_i 9, ai_i 3200, cr 81]) rfl rfl (hI67.pl (by decide)) (hI67.T (by decide) rfl) rfl rfl rfl rfl (ct_m_readByte (sl := sl) (x := x) (d := d + 3) (32) (126) hI67) (Or.inl rfl) (fun k9 v9 T9 E503 nx9 kc9 ks9 hq502 hk9 hs9 => ?_)
                  obtain ⟨rfl, rfl, rfl, hI505, hG506, z504, rfl, hz504⟩ := hq502
                  obtain rfl : kc = kc9 := by omega
                  obtain rfl : ks = ks9 := by omega
                  have hF507 := cm_fr.trans hF69 hG506 (by first | (simp; done) | (simp; omega) | (intro i k h; (try simp only at h); (try simp only); omega))
                  have hz508 : E503 81 1 = ai_i z54 := (hG506 81 1 (by simp)).trans hz70
                  have ghz508 := gv_eq hz508
                  refine Or.inr (Or.inl ⟨rfl, ?_⟩)
                  obtain ⟨z509, hz509, hz509a, hz509b⟩ := hI505.int 81 21 (lo := 0) (hi := 3) (by decide) (by decide) rfl
                  have ghz509 := gv_eq hz509
                  refine w_virt (ci := 8) (i := 81) (npc := 213) (a := [cr 81, ai_i 3200, ai_i 9, ai_i z504]) (rest := []) rfl rfl (hI505.pl (by decide)) (hI505.T (by decide) rfl) rfl rfl rfl rfl (ct_m_put (sl := sl) (x := x) (d := d + 4) (3200) (9) (z504) hI505 (by omega) (by omega) (by omega)) (Or.inl rfl) (fun k9 v9 T9 E511 nx9 kc9 ks9 hq510 hk9 hs9 => ?_)
                  obtain ⟨rfl, rfl, rfl, hI513, hG514, hz512⟩ := hq510
                  obtain rfl : kc = kc9 := by omega
                  obtain rfl : ks = ks9 := by omega
                  have hF515 := cm_fr.trans hF507 hG514 (by first | (simp; done) | (simp; omega) | (intro i k h; (try simp only at h); (try simp only); omega))
                  have hz516 : E511 81 1 = ai_i z54 := (hG514 81 1 (by simp)).trans hz508
                  have ghz516 := gv_eq hz516
                  have hz517 : E511 81 21 = ai_i z509 := (hG514 81 21 (by simp)).trans hz509
                  have ghz517 := gv_eq hz517
                  refine Or.inl ⟨rfl, ?_⟩
                  refine w_aload (i := 0) (npc := 214) rfl rfl rfl ?_
                  refine w_const (n := 10) (npc := 216) rfl ?_
                  refine w_virt (ci := 8) (i := 81) (npc := 219) (a := [cr 81, ai_i 10]) (rest := []) rfl rfl (hI513.pl (by decide)) (hI513.T (by decide) rfl) rfl rfl rfl rfl (ct_m_readKey (sl := sl) (x := x) (d := d + 1) (10) hI513 (by omega)) (Or.inl rfl) (fun k9 v9 T9 E519 nx9 kc9 ks9 hq518 hk9 hs9 => ?_)
                  obtain ⟨rfl, rfl, rfl, hI521, hG522, hz520⟩ := hq518
                  obtain rfl : kc = kc9 := by omega
                  obtain rfl : ks = ks9 := by omega
                  have hF523 := cm_fr.trans hF515 hG522 (by first | (simp; done) | (simp; omega) | (intro i k h; (try simp only at h); (try simp only); omega))
                  have hz524 : E519 81 1 = ai_i z54 := (hG522 81 1 (by simp)).trans hz516
                  have ghz524 := gv_eq hz524
                  refine Or.inl ⟨rfl, ?_⟩
                  refine w_goto (pt := 279) rfl ?_
                  have hrow : gv E519 81 21 = 0 → rl_row E519 3200 ∧ rl_hd E519 3200 := fun hz0 => by
                    obtain ⟨d1, d2, d3, d4⟩ := hv74
                    have m0 := hz58
                    have m1 := hz66
                    have m2 := hz504
                    have m3 := hz512
                    have m4 := hz520
                    have y0_0 := gv_fr hG60 (i := 81) (k := 1) (by first | (simp; done) | omega | (simp only; omega) | (simp; omega))
                    have y0_1 := gv_fr hG60 (i := 82) (k := (166 * 3200 + 0 : Int).toNat) (by first | (simp; done) | omega | (simp only; omega) | (simp; omega))
                    have y0_2 := gv_fr hG60 (i := 82) (k := (166 * 3200 + 1 : Int).toNat) (by first | (simp; done) | omega | (simp only; omega) | (simp; omega))
                    have y0_3 := gv_fr hG60 (i := 82) (k := (166 * 3200 + 2 : Int).toNat) (by first | (simp; done) | omega | (simp only; omega) | (simp; omega))
                    have y1_0 := gv_fr hG68 (i := 81) (k := 1) (by first | (simp; done) | omega | (simp only; omega) | (simp; omega))
                    have y1_1 := gv_fr hG68 (i := 82) (k := (166 * 3200 + 0 : Int).toNat) (by first | (simp; done) | omega | (simp only; omega) | (simp; omega))
                    have y1_2 := gv_fr hG68 (i := 82) (k := (166 * 3200 + 1 : Int).toNat) (by first | (simp; done) | omega | (simp only; omega) | (simp; omega))
                    have y1_3 := gv_fr hG68 (i := 82) (k := (166 * 3200 + 2 : Int).toNat) (by first | (simp; done) | omega | (simp only; omega) | (simp; omega))
                    have y2_0 := gv_fr hG506 (i := 81) (k := 1) (by first | (simp; done) | omega | (simp only; omega) | (simp; omega))
                    have y2_1 := gv_fr hG506 (i := 82) (k := (166 * 3200 + 0 : Int).toNat) (by first | (simp; done) | omega | (simp only; omega) | (simp; omega))
                    have y2_2 := gv_fr hG506 (i := 82) (k := (166 * 3200 + 1 : Int).toNat) (by first | (simp; done) | omega | (simp only; omega) | (simp; omega))
                    have y2_3 := gv_fr hG506 (i := 82) (k := (166 * 3200 + 2 : Int).toNat) (by first | (simp; done) | omega | (simp only; omega) | (simp; omega))
                    have y3_0 := gv_fr hG514 (i := 81) (k := 1) (by first | (simp; done) | omega | (simp only; omega) | (simp; omega))
                    have y3_1 := gv_fr hG514 (i := 82) (k := (166 * 3200 + 0 : Int).toNat) (by first | (simp; done) | omega | (simp only; omega) | (simp; omega))
                    have y3_2 := gv_fr hG514 (i := 82) (k := (166 * 3200 + 1 : Int).toNat) (by first | (simp; done) | omega | (simp only; omega) | (simp; omega))
                    have y3_3 := gv_fr hG514 (i := 82) (k := (166 * 3200 + 2 : Int).toNat) (by first | (simp; done) | omega | (simp only; omega) | (simp; omega))
                    have y4_0 := gv_fr hG522 (i := 81) (k := 1) (by first | (simp; done) | omega | (simp only; omega) | (simp; omega))
                    have y4_1 := gv_fr hG522 (i := 82) (k := (166 * 3200 + 0 : Int).toNat) (by first | (simp; done) | omega | (simp only; omega) | (simp; omega))
                    have y4_2 := gv_fr hG522 (i := 82) (k := (166 * 3200 + 1 : Int).toNat) (by first | (simp; done) | omega | (simp only; omega) | (simp; omega))
                    have y4_3 := gv_fr hG522 (i := 82) (k := (166 * 3200 + 2 : Int).toNat) (by first | (simp; done) | omega | (simp only; omega) | (simp; omega))
                    have w0_0 := gv_fr hG506 (i := 82) (k := (166 * 3200 + 8 : Int).toNat) (by first | (simp; done) | omega | (simp only; omega) | (simp; omega))
                    have w1_0 := gv_fr hG514 (i := 82) (k := (166 * 3200 + 8 : Int).toNat) (by first | (simp; done) | omega | (simp only; omega) | (simp; omega))
                    have w2_0 := gv_fr hG522 (i := 82) (k := (166 * 3200 + 8 : Int).toNat) (by first | (simp; done) | omega | (simp only; omega) | (simp; omega))
                    have v10_0 := gv_fr hG68 (i := 81) (k := 21) (by first | (simp; done) | omega | (simp only; omega) | (simp; omega))
                    have v30_0 := gv_fr hG514 (i := 81) (k := 21) (by first | (simp; done) | omega | (simp only; omega) | (simp; omega))
                    exact hand_ok (E := E519) (a := gv E519 82 (166 * 3200 + 0 : Int).toNat) (p := gv E519 82 (166 * 3200 + 1 : Int).toNat) (m := gv E519 82 (166 * 3200 + 2 : Int).toNat - 1) rfl rfl (by omega) (by omega) (by omega) (by omega) (by omega) (by omega) (fun _ => hz520.1) (fun h0 => by omega) (fun h0 => by omega)
                  refine w_const (n := 0) (npc := 280) rfl ?_
                  refine w_istore (i := 2) (npc := 281) (loc' := [cr 81, ai_i z75, ai_i 0, u74_3]) rfl rfl ?_
                  refine w_const (n := 0) (npc := 282) rfl ?_
                  refine w_istore (i := 3) (npc := 283) (loc' := [cr 81, ai_i z75, ai_i 0, ai_i 0]) rfl rfl ?_
                  have loop283 : ∀ (nf : Nat) (s : Int) (k : Int), ((400 - k).toNat) < nf → (0 ≤ k ∧ k ≤ 400 ∧ 0 ≤ s ∧ s ≤ 255 * k) → cm_wp (ai_find ai_c200 sl) (ai_ev sl (d + 5)) x (kc + 0) (ks + 0) (fun rk rv T' E' nx' => rk = 0 ∧ T = T' ∧ nx = nx' ∧ cs_I T E' nx ∧ cm_fr (fun i k => (i = 81 ∧ (k = 19 ∨ k = 21 ∨ k = 22)) ∨ (i = 82 ∧ 531200 ≤ k)) E E' ∧ (gv E' 81 21 = 0 → rl_row E' 3200 ∧ rl_hd E' 3200)) 283 [cr 81, ai_i z75, ai_i s, ai_i k] [] T E519 nx kc ks := by
                    intro nf
                    induction nf with
                    | zero => intro s k hm; exact absurd hm (Nat.not_lt_zero _)
                    | succ nf283 ih =>
                      intro s k hm283 hv283
                      have ih283 := ih; clear ih
                      refine w_iload (i := 3) (npc := 284) rfl rfl ?_
                      refine w_aload (i := 0) (npc := 285) rfl rfl rfl ?_
                      obtain ⟨z525, hz525, hz525a, hz525b⟩ := hI521.int 81 19 (lo := 0) (hi := 400) (by decide) (by decide) rfl
                      have ghz525 := gv_eq hz525
                      refine w_getf (i := 81) (ci := 8) (k := 19) (npc := 288) rfl (hI521.pl (by decide)) (hI521.T (by decide) rfl) (by decide) hz525 ?_
                      refine w_icmp (c := .ge) (npc := 291) (pt := 313) rfl (fun hc526 => ?_) (fun hc526 => ?_)
                      · replace hc526 : z525 ≤ k := hc526
                        refine w_aload (i := 0) (npc := 314) rfl rfl rfl ?_
                        refine w_const (n := 0) (npc := 315) rfl ?_
                        refine w_const (n := 255) (npc := 318) rfl ?_
                        obtain ⟨z527, hz527, hz527a, hz527b⟩ := hI521.int 81 21 (lo := 0) (hi := 3) (by decide) (by decide) rfl
                        have ghz527 := gv_eq hz527
                        refine w_virt (ci := 8) (i := 81) (npc := 321) (a := [cr 81, ai_i 0, ai_i 255]) (rest := []) rfl rfl (hI521.pl (by decide)) (hI521.T (by decide) rfl) rfl rfl rfl rfl (ct_m_readByte2 (sl := sl) (x := x) (d := d + 3) (0) (255) hI521) (Or.inl rfl) (fun k9 v9 T9 E529 nx9 kc9 ks9 hq528 hk9 hs9 => ?_)
                        obtain ⟨rfl, rfl, rfl, hI531, hG532, z530, rfl, hz530⟩ := hq528
                        obtain rfl : kc = kc9 := by omega
                        obtain rfl : ks = ks9 := by omega
                        have hF533 := cm_fr.trans hF523 hG532 (by first | (simp; done) | (simp; omega) | (intro i k h; (try simp only at h); (try simp only); omega))
                        have hz534 : E529 81 1 = ai_i z54 := (hG532 81 1 (by simp)).trans hz524
                        have ghz534 := gv_eq hz534
                        refine Or.inr (Or.inl ⟨rfl, ?_⟩)
                        refine w_istore (i := 3) (npc := 322) (loc' := [cr 81, ai_i z75, ai_i s, ai_i z530]) rfl rfl ?_
                        refine w_aload (i := 0) (npc := 323) rfl rfl rfl ?_
                        obtain ⟨z535, hz535, hz535a, hz535b⟩ := hI531.int 81 21 (lo := 0) (hi := 3) (by decide) (by decide) rfl
                        have ghz535 := gv_eq hz535
                        refine w_getf (i := 81) (ci := 8) (k := 21) (npc := 326) rfl (hI531.pl (by decide)) (hI531.T (by decide) rfl) (by decide) hz535 ?_
                        refine w_if (c := .ne) (npc := 329) (pt := 349) rfl (fun hc536 => ?_) (fun hc536 => ?_)
                        · replace hc536 : z535 ≠ (0 : Int) := hc536
                          refine w_aload (i := 0) (npc := 350) rfl rfl rfl ?_
                          refine w_getf (i := 81) (ci := 8) (k := 21) (npc := 353) rfl (hI531.pl (by decide)) (hI531.T (by decide) rfl) (by decide) hz535 ?_
                          refine w_if (c := .ne) (npc := 356) (pt := 376) rfl (fun hc537 => ?_) (fun hc537 => ?_)
                          · replace hc537 : z535 ≠ (0 : Int) := hc537
                            exact w_vret rfl (⟨rfl, rfl, rfl, hI531, hF533, fun hz9 => by have r9 := hrow (hz530.2.2 hz9).1; exact ⟨r9.1.of (fun k k0 k1 => (gv_fr hG532 (by simp)).symm), r9.2.of (fun k k0 k1 => (gv_fr hG532 (by simp)).symm) (gv_fr hG532 (by simp)).symm⟩⟩) (by omega) (by omega)
                          · replace hc537 : ¬ (z535 ≠ (0 : Int)) := hc537
                            refine w_aload (i := 0) (npc := 357) rfl rfl rfl ?_
                            obtain ⟨z538, hz538, hz538a, hz538b⟩ := hI531.int 81 19 (lo := 0) (hi := 400) (by decide) (by decide) rfl
                            have ghz538 := gv_eq hz538
                            refine w_getf (i := 81) (ci := 8) (k := 19) (npc := 360) rfl (hI531.pl (by decide)) (hI531.T (by decide) rfl) (by decide) hz538 ?_
                            refine w_aload (i := 0) (npc := 361) rfl rfl rfl ?_
                            obtain ⟨z539, hz539, hz539a, hz539b⟩ := hI531.int 81 20 (lo := 0) (hi := 400) (by decide) (by decide) rfl
                            have ghz539 := gv_eq hz539
                            have g0hz539 : gv E 81 20 = z539 := (gv_fr hF533 (by simp)).trans ghz539
                            refine w_getf (i := 81) (ci := 8) (k := 20) (npc := 364) rfl (hI531.pl (by decide)) (hI531.T (by decide) rfl) (by decide) hz539 ?_
                            refine w_icmp (c := .ge) (npc := 367) (pt := 376) rfl (fun hc540 => ?_) (fun hc540 => ?_)
                            · replace hc540 : z539 ≤ z538 := hc540
                              exact w_vret rfl (⟨rfl, rfl, rfl, hI531, hF533, fun hz9 => by have r9 := hrow (hz530.2.2 hz9).1; exact ⟨r9.1.of (fun k k0 k1 => (gv_fr hG532 (by simp)).symm), r9.2.of (fun k k0 k1 => (gv_fr hG532 (by simp)).symm) (gv_fr hG532 (by simp)).symm⟩⟩) (by omega) (by omega)
                            · replace hc540 : ¬ (z539 ≤ z538) := hc540
                              refine w_aload (i := 0) (npc := 368) rfl rfl rfl ?_
                              refine w_const (n := 1) (npc := 369) rfl ?_
                              refine w_aload (i := 0) (npc := 370) rfl rfl rfl ?_
                              refine w_getf (i := 81) (ci := 8) (k := 19) (npc := 373) rfl (hI531.pl (by decide)) (hI531.T (by decide) rfl) (by decide) hz538 ?_
                              refine w_virt (ci := 8) (i := 81) (npc := 376) (a := [cr 81, ai_i 1, ai_i z538]) (rest := []) rfl rfl (hI531.pl (by decide)) (hI531.T (by decide) rfl) rfl rfl rfl rfl (ct_m_wrong (sl := sl) (x := x) (d := d + 4) (1) (z538) hI531 (by omega) (by omega)) (Or.inl rfl) (fun k9 v9 T9 E542 nx9 kc9 ks9 hq541 hk9 hs9 => ?_)
                              obtain ⟨rfl, rfl, rfl, hI544, hG545, hz543⟩ := hq541
                              obtain rfl : kc = kc9 := by omega
                              obtain rfl : ks = ks9 := by omega
                              have hF546 := cm_fr.trans hF533 hG545 (by first | (simp; done) | (simp; omega) | (intro i k h; (try simp only at h); (try simp only); omega))
                              have hz547 : E542 81 1 = ai_i z54 := (hG545 81 1 (by simp)).trans hz534
                              have ghz547 := gv_eq hz547
                              have hz548 : E542 81 19 = ai_i z538 := (hG545 81 19 (by simp)).trans hz538
                              have ghz548 := gv_eq hz548
                              have hz549 : E542 81 20 = ai_i z539 := (hG545 81 20 (by simp)).trans hz539
                              have ghz549 := gv_eq hz549
                              refine Or.inl ⟨rfl, ?_⟩
                              exact w_vret rfl (⟨rfl, rfl, rfl, hI544, hF546, fun hz9 => absurd hz9 (by omega)⟩) (by omega) (by omega)
                        · replace hc536 : ¬ (z535 ≠ (0 : Int)) := hc536
                          refine w_iload (i := 3) (npc := 330) rfl rfl ?_
                          refine w_iload (i := 2) (npc := 331) rfl rfl ?_
                          refine w_const (n := 256) (npc := 334) rfl ?_
                          refine w_irem (npc := 335) rfl (by omega) (by omega) (fun z550 hz550 hz550b => ?_)
                          refine w_icmp (c := .eq) (npc := 338) (pt := 349) rfl (fun hc551 => ?_) (fun hc551 => ?_)
                          · replace hc551 : z530 = z550 := hc551
                            refine w_aload (i := 0) (npc := 350) rfl rfl rfl ?_
                            refine w_getf (i := 81) (ci := 8) (k := 21) (npc := 353) rfl (hI531.pl (by decide)) (hI531.T (by decide) rfl) (by decide) hz535 ?_
                            refine w_if (c := .ne) (npc := 356) (pt := 376) rfl (fun hc552 => ?_) (fun hc552 => ?_)
                            · replace hc552 : z535 ≠ (0 : Int) := hc552
                              exact w_vret rfl (⟨rfl, rfl, rfl, hI531, hF533, fun hz9 => by have r9 := hrow (hz530.2.2 hz9).1; exact ⟨r9.1.of (fun k k0 k1 => (gv_fr hG532 (by simp)).symm), r9.2.of (fun k k0 k1 => (gv_fr hG532 (by simp)).symm) (gv_fr hG532 (by simp)).symm⟩⟩) (by omega) (by omega)
                            · replace hc552 : ¬ (z535 ≠ (0 : Int)) := hc552
                              refine w_aload (i := 0) (npc := 357) rfl rfl rfl ?_
                              obtain ⟨z553, hz553, hz553a, hz553b⟩ := hI531.int 81 19 (lo := 0) (hi := 400) (by decide) (by decide) rfl
                              have ghz553 := gv_eq hz553
                              refine w_getf (i := 81) (ci := 8) (k := 19) (npc := 360) rfl (hI531.pl (by decide)) (hI531.T (by decide) rfl) (by decide) hz553 ?_
                              refine w_aload (i := 0) (npc := 361) rfl rfl rfl ?_
                              obtain ⟨z554, hz554, hz554a, hz554b⟩ := hI531.int 81 20 (lo := 0) (hi := 400) (by decide) (by decide) rfl
                              have ghz554 := gv_eq hz554
                              have g0hz554 : gv E 81 20 = z554 := (gv_fr hF533 (by simp)).trans ghz554
                              refine w_getf (i := 81) (ci := 8) (k := 20) (npc := 364) rfl (hI531.pl (by decide)) (hI531.T (by decide) rfl) (by decide) hz554 ?_
                              refine w_icmp (c := .ge) (npc := 367) (pt := 376) rfl (fun hc555 => ?_) (fun hc555 => ?_)
                              · replace hc555 : z554 ≤ z553 := hc555
                                exact w_vret rfl (⟨rfl, rfl, rfl, hI531, hF533, fun hz9 => by have r9 := hrow (hz530.2.2 hz9).1; exact ⟨r9.1.of (fun k k0 k1 => (gv_fr hG532 (by simp)).symm), r9.2.of (fun k k0 k1 => (gv_fr hG532 (by simp)).symm) (gv_fr hG532 (by simp)).symm⟩⟩) (by omega) (by omega)
                              · replace hc555 : ¬ (z554 ≤ z553) := hc555
                                refine w_aload (i := 0) (npc := 368) rfl rfl rfl ?_
                                refine w_const (n := 1) (npc := 369) rfl ?_
                                refine w_aload (i := 0) (npc := 370) rfl rfl rfl ?_
                                refine w_getf (i := 81) (ci := 8) (k := 19) (npc := 373) rfl (hI531.pl (by decide)) (hI531.T (by decide) rfl) (by decide) hz553 ?_
                                refine w_virt (ci := 8) (i := 81) (npc := 376) (a := [cr 81, ai_i 1, ai_i z553]) (rest := []) rfl rfl (hI531.pl (by decide)) (hI531.T (by decide) rfl) rfl rfl rfl rfl (ct_m_wrong (sl := sl) (x := x) (d := d + 4) (1) (z553) hI531 (by omega) (by omega)) (Or.inl rfl) (fun k9 v9 T9 E557 nx9 kc9 ks9 hq556 hk9 hs9 => ?_)
                                obtain ⟨rfl, rfl, rfl, hI559, hG560, hz558⟩ := hq556
                                obtain rfl : kc = kc9 := by omega
                                obtain rfl : ks = ks9 := by omega
                                have hF561 := cm_fr.trans hF533 hG560 (by first | (simp; done) | (simp; omega) | (intro i k h; (try simp only at h); (try simp only); omega))
                                have hz562 : E557 81 1 = ai_i z54 := (hG560 81 1 (by simp)).trans hz534
                                have ghz562 := gv_eq hz562
                                have hz563 : E557 81 19 = ai_i z553 := (hG560 81 19 (by simp)).trans hz553
                                have ghz563 := gv_eq hz563
                                have hz564 : E557 81 20 = ai_i z554 := (hG560 81 20 (by simp)).trans hz554
                                have ghz564 := gv_eq hz564
                                refine Or.inl ⟨rfl, ?_⟩
                                exact w_vret rfl (⟨rfl, rfl, rfl, hI559, hF561, fun hz9 => absurd hz9 (by omega)⟩) (by omega) (by omega)
                          · replace hc551 : ¬ (z530 = z550) := hc551
                            refine w_aload (i := 0) (npc := 339) rfl rfl rfl ?_
                            refine w_const (n := 3) (npc := 340) rfl ?_
                            refine w_aload (i := 0) (npc := 341) rfl rfl rfl ?_
                            obtain ⟨z565, hz565, hz565a, hz565b⟩ := hI531.int 81 19 (lo := 0) (hi := 400) (by decide) (by decide) rfl
                            have ghz565 := gv_eq hz565
                            refine w_getf (i := 81) (ci := 8) (k := 19) (npc := 344) rfl (hI531.pl (by decide)) (hI531.T (by decide) rfl) (by decide) hz565 ?_
                            refine w_const (n := 1) (npc := 345) rfl ?_
                            refine w_isub (npc := 346) rfl (by omega) ?_
                            refine w_virt (ci := 8) (i := 81) (npc := 349) (a := [cr 81, ai_i 3, ai_i (z565 - 1)]) (rest := []) rfl rfl (hI531.pl (by decide)) (hI531.T (by decide) rfl) rfl rfl rfl rfl (ct_m_wrong (sl := sl) (x := x) (d := d + 4) (3) (z565 - 1) hI531 (by omega) (by omega)) (Or.inl rfl) (fun k9 v9 T9 E568 nx9 kc9 ks9 hq567 hk9 hs9 => ?_)
                            obtain ⟨rfl, rfl, rfl, hI570, hG571, hz569⟩ := hq567
                            obtain rfl : kc = kc9 := by omega
                            obtain rfl : ks = ks9 := by omega
                            have hF572 := cm_fr.trans hF533 hG571 (by first | (simp; done) | (simp; omega) | (intro i k h; (try simp only at h); (try simp only); omega))
                            have hz573 : E568 81 1 = ai_i z54 := (hG571 81 1 (by simp)).trans hz534
                            have ghz573 := gv_eq hz573
                            have hz574 : E568 81 19 = ai_i z565 := (hG571 81 19 (by simp)).trans hz565
                            have ghz574 := gv_eq hz574
                            refine Or.inl ⟨rfl, ?_⟩
                            refine w_aload (i := 0) (npc := 350) rfl rfl rfl ?_
                            obtain ⟨z575, hz575, hz575a, hz575b⟩ := hI570.int 81 21 (lo := 0) (hi := 3) (by decide) (by decide) rfl
                            have ghz575 := gv_eq hz575
                            refine w_getf (i := 81) (ci := 8) (k := 21) (npc := 353) rfl (hI570.pl (by decide)) (hI570.T (by decide) rfl) (by decide) hz575 ?_
                            refine w_if (c := .ne) (npc := 356) (pt := 376) rfl (fun hc576 => ?_) (fun hc576 => ?_)
                            · replace hc576 : z575 ≠ (0 : Int) := hc576
                              exact w_vret rfl (⟨rfl, rfl, rfl, hI570, hF572, fun hz9 => absurd hz9 (by omega)⟩) (by omega) (by omega)
                            · replace hc576 : ¬ (z575 ≠ (0 : Int)) := hc576
                              refine w_aload (i := 0) (npc := 357) rfl rfl rfl ?_
                              refine w_getf (i := 81) (ci := 8) (k := 19) (npc := 360) rfl (hI570.pl (by decide)) (hI570.T (by decide) rfl) (by decide) hz574 ?_
                              refine w_aload (i := 0) (npc := 361) rfl rfl rfl ?_
                              obtain ⟨z577, hz577, hz577a, hz577b⟩ := hI570.int 81 20 (lo := 0) (hi := 400) (by decide) (by decide) rfl
                              have ghz577 := gv_eq hz577
                              have g0hz577 : gv E 81 20 = z577 := (gv_fr hF572 (by simp)).trans ghz577
                              refine w_getf (i := 81) (ci := 8) (k := 20) (npc := 364) rfl (hI570.pl (by decide)) (hI570.T (by decide) rfl) (by decide) hz577 ?_
                              refine w_icmp (c := .ge) (npc := 367) (pt := 376) rfl (fun hc578 => ?_) (fun hc578 => ?_)
                              · replace hc578 : z577 ≤ z565 := hc578
                                exact w_vret rfl (⟨rfl, rfl, rfl, hI570, hF572, fun hz9 => absurd hz9 (by omega)⟩) (by omega) (by omega)
                              · replace hc578 : ¬ (z577 ≤ z565) := hc578
                                refine w_aload (i := 0) (npc := 368) rfl rfl rfl ?_
                                refine w_const (n := 1) (npc := 369) rfl ?_
                                refine w_aload (i := 0) (npc := 370) rfl rfl rfl ?_
                                refine w_getf (i := 81) (ci := 8) (k := 19) (npc := 373) rfl (hI570.pl (by decide)) (hI570.T (by decide) rfl) (by decide) hz574 ?_
                                refine w_virt (ci := 8) (i := 81) (npc := 376) (a := [cr 81, ai_i 1, ai_i z565]) (rest := []) rfl rfl (hI570.pl (by decide)) (hI570.T (by decide) rfl) rfl rfl rfl rfl (ct_m_wrong (sl := sl) (x := x) (d := d + 4) (1) (z565) hI570 (by omega) (by omega)) (Or.inl rfl) (fun k9 v9 T9 E580 nx9 kc9 ks9 hq579 hk9 hs9 => ?_)
                                obtain ⟨rfl, rfl, rfl, hI582, hG583, hz581⟩ := hq579
                                obtain rfl : kc = kc9 := by omega
                                obtain rfl : ks = ks9 := by omega
                                have hF584 := cm_fr.trans hF572 hG583 (by first | (simp; done) | (simp; omega) | (intro i k h; (try simp only at h); (try simp only); omega))
                                have hz585 : E580 81 1 = ai_i z54 := (hG583 81 1 (by simp)).trans hz573
                                have ghz585 := gv_eq hz585
                                have hz586 : E580 81 19 = ai_i z565 := (hG583 81 19 (by simp)).trans hz574
                                have ghz586 := gv_eq hz586
                                have hz587 : E580 81 20 = ai_i z577 := (hG583 81 20 (by simp)).trans hz577
                                have ghz587 := gv_eq hz587
                                refine Or.inl ⟨rfl, ?_⟩
                                exact w_vret rfl (⟨rfl, rfl, rfl, hI582, hF584, fun hz9 => absurd hz9 (by omega)⟩) (by omega) (by omega)
                      · replace hc526 : ¬ (z525 ≤ k) := hc526
                        refine w_aload (i := 0) (npc := 292) rfl rfl rfl ?_
                        obtain ⟨z588, hz588, hz588a, hz588b⟩ := hI521.int 81 21 (lo := 0) (hi := 3) (by decide) (by decide) rfl
                        have ghz588 := gv_eq hz588
                        refine w_getf (i := 81) (ci := 8) (k := 21) (npc := 295) rfl (hI521.pl (by decide)) (hI521.T (by decide) rfl) (by decide) hz588 ?_
                        refine w_if (c := .ne) (npc := 298) (pt := 313) rfl (fun hc589 => ?_) (fun hc589 => ?_)
                        · replace hc589 : z588 ≠ (0 : Int) := hc589
                          refine w_aload (i := 0) (npc := 314) rfl rfl rfl ?_
                          refine w_const (n := 0) (npc := 315) rfl ?_
                          refine w_const (n := 255) (npc := 318) rfl ?_
                          refine w_virt (ci := 8) (i := 81) (npc := 321) (a := [cr 81, ai_i 0, ai_i 255]) (rest := []) rfl rfl (hI521.pl (by decide)) (hI521.T (by decide) rfl) rfl rfl rfl rfl (ct_m_readByte2 (sl := sl) (x := x) (d := d + 3) (0) (255) hI521) (Or.inl rfl) (fun k9 v9 T9 E591 nx9 kc9 ks9 hq590 hk9 hs9 => ?_)
                          obtain ⟨rfl, rfl, rfl, hI593, hG594, z592, rfl, hz592⟩ := hq590
                          obtain rfl : kc = kc9 := by omega
                          obtain rfl : ks = ks9 := by omega
                          have hF595 := cm_fr.trans hF523 hG594 (by first | (simp; done) | (simp; omega) | (intro i k h; (try simp only at h); (try simp only); omega))
                          have hz596 : E591 81 1 = ai_i z54 := (hG594 81 1 (by simp)).trans hz524
                          have ghz596 := gv_eq hz596
                          refine Or.inr (Or.inl ⟨rfl, ?_⟩)
                          refine w_istore (i := 3) (npc := 322) (loc' := [cr 81, ai_i z75, ai_i s, ai_i z592]) rfl rfl ?_
                          refine w_aload (i := 0) (npc := 323) rfl rfl rfl ?_
                          obtain ⟨z597, hz597, hz597a, hz597b⟩ := hI593.int 81 21 (lo := 0) (hi := 3) (by decide) (by decide) rfl
                          have ghz597 := gv_eq hz597
                          refine w_getf (i := 81) (ci := 8) (k := 21) (npc := 326) rfl (hI593.pl (by decide)) (hI593.T (by decide) rfl) (by decide) hz597 ?_
                          refine w_if (c := .ne) (npc := 329) (pt := 349) rfl (fun hc598 => ?_) (fun hc598 => ?_)
                          · replace hc598 : z597 ≠ (0 : Int) := hc598
                            refine w_aload (i := 0) (npc := 350) rfl rfl rfl ?_
                            refine w_getf (i := 81) (ci := 8) (k := 21) (npc := 353) rfl (hI593.pl (by decide)) (hI593.T (by decide) rfl) (by decide) hz597 ?_
                            refine w_if (c := .ne) (npc := 356) (pt := 376) rfl (fun hc599 => ?_) (fun hc599 => ?_)
                            · replace hc599 : z597 ≠ (0 : Int) := hc599
                              exact w_vret rfl (⟨rfl, rfl, rfl, hI593, hF595, fun hz9 => by have r9 := hrow (hz592.2.2 hz9).1; exact ⟨r9.1.of (fun k k0 k1 => (gv_fr hG594 (by simp)).symm), r9.2.of (fun k k0 k1 => (gv_fr hG594 (by simp)).symm) (gv_fr hG594 (by simp)).symm⟩⟩) (by omega) (by omega)
                            · replace hc599 : ¬ (z597 ≠ (0 : Int)) := hc599
                              refine w_aload (i := 0) (npc := 357) rfl rfl rfl ?_
                              obtain ⟨z600, hz600, hz600a, hz600b⟩ := hI593.int 81 19 (lo := 0) (hi := 400) (by decide) (by decide) rfl
                              have ghz600 := gv_eq hz600
                              refine w_getf (i := 81) (ci := 8) (k := 19) (npc := 360) rfl (hI593.pl (by decide)) (hI593.T (by decide) rfl) (by decide) hz600 ?_
                              refine w_aload (i := 0) (npc := 361) rfl rfl rfl ?_
                              obtain ⟨z601, hz601, hz601a, hz601b⟩ := hI593.int 81 20 (lo := 0) (hi := 400) (by decide) (by decide) rfl
                              have ghz601 := gv_eq hz601
                              have g0hz601 : gv E 81 20 = z601 := (gv_fr hF595 (by simp)).trans ghz601
                              refine w_getf (i := 81) (ci := 8) (k := 20) (npc := 364) rfl (hI593.pl (by decide)) (hI593.T (by decide) rfl) (by decide) hz601 ?_
                              refine w_icmp (c := .ge) (npc := 367) (pt := 376) rfl (fun hc602 => ?_) (fun hc602 => ?_)
                              · replace hc602 : z601 ≤ z600 := hc602
                                exact w_vret rfl (⟨rfl, rfl, rfl, hI593, hF595, fun hz9 => by have r9 := hrow (hz592.2.2 hz9).1; exact ⟨r9.1.of (fun k k0 k1 => (gv_fr hG594 (by simp)).symm), r9.2.of (fun k k0 k1 => (gv_fr hG594 (by simp)).symm) (gv_fr hG594 (by simp)).symm⟩⟩) (by omega) (by omega)
                              · replace hc602 : ¬ (z601 ≤ z600) := hc602
                                refine w_aload (i := 0) (npc := 368) rfl rfl rfl ?_
                                refine w_const (n := 1) (npc := 369) rfl ?_
                                refine w_aload (i := 0) (npc := 370) rfl rfl rfl ?_
                                refine w_getf (i := 81) (ci := 8) (k := 19) (npc := 373) rfl (hI593.pl (by decide)) (hI593.T (by decide) rfl) (by decide) hz600 ?_
                                refine w_virt (ci := 8) (i := 81) (npc := 376) (a := [cr 81, ai_i 1, ai_i z600]) (rest := []) rfl rfl (hI593.pl (by decide)) (hI593.T (by decide) rfl) rfl rfl rfl rfl (ct_m_wrong (sl := sl) (x := x) (d := d + 4) (1) (z600) hI593 (by omega) (by omega)) (Or.inl rfl) (fun k9 v9 T9 E604 nx9 kc9 ks9 hq603 hk9 hs9 => ?_)
                                obtain ⟨rfl, rfl, rfl, hI606, hG607, hz605⟩ := hq603
                                obtain rfl : kc = kc9 := by omega
                                obtain rfl : ks = ks9 := by omega
                                have hF608 := cm_fr.trans hF595 hG607 (by first | (simp; done) | (simp; omega) | (intro i k h; (try simp only at h); (try simp only); omega))
                                have hz609 : E604 81 1 = ai_i z54 := (hG607 81 1 (by simp)).trans hz596
                                have ghz609 := gv_eq hz609
                                have hz610 : E604 81 19 = ai_i z600 := (hG607 81 19 (by simp)).trans hz600
                                have ghz610 := gv_eq hz610
                                have hz611 : E604 81 20 = ai_i z601 := (hG607 81 20 (by simp)).trans hz601
                                have ghz611 := gv_eq hz611
                                refine Or.inl ⟨rfl, ?_⟩
                                exact w_vret rfl (⟨rfl, rfl, rfl, hI606, hF608, fun hz9 => absurd hz9 (by omega)⟩) (by omega) (by omega)
                          · replace hc598 : ¬ (z597 ≠ (0 : Int)) := hc598
                            refine w_iload (i := 3) (npc := 330) rfl rfl ?_
                            refine w_iload (i := 2) (npc := 331) rfl rfl ?_
                            refine w_const (n := 256) (npc := 334) rfl ?_
                            refine w_irem (npc := 335) rfl (by omega) (by omega) (fun z612 hz612 hz612b => ?_)
                            refine w_icmp (c := .eq) (npc := 338) (pt := 349) rfl (fun hc613 => ?_) (fun hc613 => ?_)
                            · replace hc613 : z592 = z612 := hc613
                              refine w_aload (i := 0) (npc := 350) rfl rfl rfl ?_
                              refine w_getf (i := 81) (ci := 8) (k := 21) (npc := 353) rfl (hI593.pl (by decide)) (hI593.T (by decide) rfl) (by decide) hz597 ?_
                              refine w_if (c := .ne) (npc := 356) (pt := 376) rfl (fun hc614 => ?_) (fun hc614 => ?_)
                              · replace hc614 : z597 ≠ (0 : Int) := hc614
                                exact w_vret rfl (⟨rfl, rfl, rfl, hI593, hF595, fun hz9 => by have r9 := hrow (hz592.2.2 hz9).1; exact ⟨r9.1.of (fun k k0 k1 => (gv_fr hG594 (by simp)).symm), r9.2.of (fun k k0 k1 => (gv_fr hG594 (by simp)).symm) (gv_fr hG594 (by simp)).symm⟩⟩) (by omega) (by omega)
                              · replace hc614 : ¬ (z597 ≠ (0 : Int)) := hc614
                                refine w_aload (i := 0) (npc := 357) rfl rfl rfl ?_
                                obtain ⟨z615, hz615, hz615a, hz615b⟩ := hI593.int 81 19 (lo := 0) (hi := 400) (by decide) (by decide) rfl
                                have ghz615 := gv_eq hz615
                                refine w_getf (i := 81) (ci := 8) (k := 19) (npc := 360) rfl (hI593.pl (by decide)) (hI593.T (by decide) rfl) (by decide) hz615 ?_
                                refine w_aload (i := 0) (npc := 361) rfl rfl rfl ?_
                                obtain ⟨z616, hz616, hz616a, hz616b⟩ := hI593.int 81 20 (lo := 0) (hi := 400) (by decide) (by decide) rfl
                                have ghz616 := gv_eq hz616
                                have g0hz616 : gv E 81 20 = z616 := (gv_fr hF595 (by simp)).trans ghz616
                                refine w_getf (i := 81) (ci := 8) (k := 20) (npc := 364) rfl (hI593.pl (by decide)) (hI593.T (by decide) rfl) (by decide) hz616 ?_
                                refine w_icmp (c := .ge) (npc := 367) (pt := 376) rfl (fun hc617 => ?_) (fun hc617 => ?_)
                                · replace hc617 : z616 ≤ z615 := hc617
                                  exact w_vret rfl (⟨rfl, rfl, rfl, hI593, hF595, fun hz9 => by have r9 := hrow (hz592.2.2 hz9).1; exact ⟨r9.1.of (fun k k0 k1 => (gv_fr hG594 (by simp)).symm), r9.2.of (fun k k0 k1 => (gv_fr hG594 (by simp)).symm) (gv_fr hG594 (by simp)).symm⟩⟩) (by omega) (by omega)
                                · replace hc617 : ¬ (z616 ≤ z615) := hc617
                                  refine w_aload (i := 0) (npc := 368) rfl rfl rfl ?_
                                  refine w_const (n := 1) (npc := 369) rfl ?_
                                  refine w_aload (i := 0) (npc := 370) rfl rfl rfl ?_
                                  refine w_getf (i := 81) (ci := 8) (k := 19) (npc := 373) rfl (hI593.pl (by decide)) (hI593.T (by decide) rfl) (by decide) hz615 ?_
                                  refine w_virt (ci := 8) (i := 81) (npc := 376) (a := [cr 81, ai_i 1, ai_i z615]) (rest := []) rfl rfl (hI593.pl (by decide)) (hI593.T (by decide) rfl) rfl rfl rfl rfl (ct_m_wrong (sl := sl) (x := x) (d := d + 4) (1) (z615) hI593 (by omega) (by omega)) (Or.inl rfl) (fun k9 v9 T9 E619 nx9 kc9 ks9 hq618 hk9 hs9 => ?_)
                                  obtain ⟨rfl, rfl, rfl, hI621, hG622, hz620⟩ := hq618
                                  obtain rfl : kc = kc9 := by omega
                                  obtain rfl : ks = ks9 := by omega
                                  have hF623 := cm_fr.trans hF595 hG622 (by first | (simp; done) | (simp; omega) | (intro i k h; (try simp only at h); (try simp only); omega))
                                  have hz624 : E619 81 1 = ai_i z54 := (hG622 81 1 (by simp)).trans hz596
                                  have ghz624 := gv_eq hz624
                                  have hz625 : E619 81 19 = ai_i z615 := (hG622 81 19 (by simp)).trans hz615
                                  have ghz625 := gv_eq hz625
                                  have hz626 : E619 81 20 = ai_i z616 := (hG622 81 20 (by simp)).trans hz616
                                  have ghz626 := gv_eq hz626
                                  refine Or.inl ⟨rfl, ?_⟩
                                  exact w_vret rfl (⟨rfl, rfl, rfl, hI621, hF623, fun hz9 => absurd hz9 (by omega)⟩) (by omega) (by omega)
                            · replace hc613 : ¬ (z592 = z612) := hc613
                              refine w_aload (i := 0) (npc := 339) rfl rfl rfl ?_
                              refine w_const (n := 3) (npc := 340) rfl ?_
                              refine w_aload (i := 0) (npc := 341) rfl rfl rfl ?_
                              obtain ⟨z627, hz627, hz627a, hz627b⟩ := hI593.int 81 19 (lo := 0) (hi := 400) (by decide) (by decide) rfl
                              have ghz627 := gv_eq hz627
                              refine w_getf (i := 81) (ci := 8) (k := 19) (npc := 344) rfl (hI593.pl (by decide)) (hI593.T (by decide) rfl) (by decide) hz627 ?_
                              refine w_const (n := 1) (npc := 345) rfl ?_
                              refine w_isub (npc := 346) rfl (by omega) ?_
                              refine w_virt (ci := 8) (i := 81) (npc := 349) (a := [cr 81, ai_i 3, ai_i (z627 - 1)]) (rest := []) rfl rfl (hI593.pl (by decide)) (hI593.T (by decide) rfl) rfl rfl rfl rfl (ct_m_wrong (sl := sl) (x := x) (d := d + 4) (3) (z627 - 1) hI593 (by omega) (by omega)) (Or.inl rfl) (fun k9 v9 T9 E630 nx9 kc9 ks9 hq629 hk9 hs9 => ?_)
                              obtain ⟨rfl, rfl, rfl, hI632, hG633, hz631⟩ := hq629
                              obtain rfl : kc = kc9 := by omega
                              obtain rfl : ks = ks9 := by omega
                              have hF634 := cm_fr.trans hF595 hG633 (by first | (simp; done) | (simp; omega) | (intro i k h; (try simp only at h); (try simp only); omega))
                              have hz635 : E630 81 1 = ai_i z54 := (hG633 81 1 (by simp)).trans hz596
                              have ghz635 := gv_eq hz635
                              have hz636 : E630 81 19 = ai_i z627 := (hG633 81 19 (by simp)).trans hz627
                              have ghz636 := gv_eq hz636
                              refine Or.inl ⟨rfl, ?_⟩
                              refine w_aload (i := 0) (npc := 350) rfl rfl rfl ?_
                              obtain ⟨z637, hz637, hz637a, hz637b⟩ := hI632.int 81 21 (lo := 0) (hi := 3) (by decide) (by decide) rfl
                              have ghz637 := gv_eq hz637
                              refine w_getf (i := 81) (ci := 8) (k := 21) (npc := 353) rfl (hI632.pl (by decide)) (hI632.T (by decide) rfl) (by decide) hz637 ?_
                              refine w_if (c := .ne) (npc := 356) (pt := 376) rfl (fun hc638 => ?_) (fun hc638 => ?_)
                              · replace hc638 : z637 ≠ (0 : Int) := hc638
                                exact w_vret rfl (⟨rfl, rfl, rfl, hI632, hF634, fun hz9 => absurd hz9 (by omega)⟩) (by omega) (by omega)
                              · replace hc638 : ¬ (z637 ≠ (0 : Int)) := hc638
                                refine w_aload (i := 0) (npc := 357) rfl rfl rfl ?_
                                refine w_getf (i := 81) (ci := 8) (k := 19) (npc := 360) rfl (hI632.pl (by decide)) (hI632.T (by decide) rfl) (by decide) hz636 ?_
                                refine w_aload (i := 0) (npc := 361) rfl rfl rfl ?_
                                obtain ⟨z639, hz639, hz639a, hz639b⟩ := hI632.int 81 20 (lo := 0) (hi := 400) (by decide) (by decide) rfl
                                have ghz639 := gv_eq hz639
                                have g0hz639 : gv E 81 20 = z639 := (gv_fr hF634 (by simp)).trans ghz639
                                refine w_getf (i := 81) (ci := 8) (k := 20) (npc := 364) rfl (hI632.pl (by decide)) (hI632.T (by decide) rfl) (by decide) hz639 ?_
                                refine w_icmp (c := .ge) (npc := 367) (pt := 376) rfl (fun hc640 => ?_) (fun hc640 => ?_)
                                · replace hc640 : z639 ≤ z627 := hc640
                                  exact w_vret rfl (⟨rfl, rfl, rfl, hI632, hF634, fun hz9 => absurd hz9 (by omega)⟩) (by omega) (by omega)
                                · replace hc640 : ¬ (z639 ≤ z627) := hc640
                                  refine w_aload (i := 0) (npc := 368) rfl rfl rfl ?_
                                  refine w_const (n := 1) (npc := 369) rfl ?_
                                  refine w_aload (i := 0) (npc := 370) rfl rfl rfl ?_
                                  refine w_getf (i := 81) (ci := 8) (k := 19) (npc := 373) rfl (hI632.pl (by decide)) (hI632.T (by decide) rfl) (by decide) hz636 ?_
                                  refine w_virt (ci := 8) (i := 81) (npc := 376) (a := [cr 81, ai_i 1, ai_i z627]) (rest := []) rfl rfl (hI632.pl (by decide)) (hI632.T (by decide) rfl) rfl rfl rfl rfl (ct_m_wrong (sl := sl) (x := x) (d := d + 4) (1) (z627) hI632 (by omega) (by omega)) (Or.inl rfl) (fun k9 v9 T9 E642 nx9 kc9 ks9 hq641 hk9 hs9 => ?_)
                                  obtain ⟨rfl, rfl, rfl, hI644, hG645, hz643⟩ := hq641
                                  obtain rfl : kc = kc9 := by omega
                                  obtain rfl : ks = ks9 := by omega
                                  have hF646 := cm_fr.trans hF634 hG645 (by first | (simp; done) | (simp; omega) | (intro i k h; (try simp only at h); (try simp only); omega))
                                  have hz647 : E642 81 1 = ai_i z54 := (hG645 81 1 (by simp)).trans hz635
                                  have ghz647 := gv_eq hz647
                                  have hz648 : E642 81 19 = ai_i z627 := (hG645 81 19 (by simp)).trans hz636
                                  have ghz648 := gv_eq hz648
                                  have hz649 : E642 81 20 = ai_i z639 := (hG645 81 20 (by simp)).trans hz639
                                  have ghz649 := gv_eq hz649
                                  refine Or.inl ⟨rfl, ?_⟩
                                  exact w_vret rfl (⟨rfl, rfl, rfl, hI644, hF646, fun hz9 => absurd hz9 (by omega)⟩) (by omega) (by omega)
                        · replace hc589 : ¬ (z588 ≠ (0 : Int)) := hc589
                          refine w_iload (i := 2) (npc := 299) rfl rfl ?_
                          refine w_aload (i := 0) (npc := 300) rfl rfl rfl ?_
                          refine w_getf (i := 81) (ci := 8) (k := 15) (npc := 303) rfl (hI521.pl (by decide)) (hI521.T (by decide) rfl) (by decide) (hI521.ref 81 15 (p := 93) (by decide) (by decide) rfl) ?_
                          refine w_iload (i := 3) (npc := 304) rfl rfl ?_
                          obtain ⟨z650, hz650, hz650a, hz650b⟩ := hI521.int 93 (k : Int).toNat (lo := 0) (hi := 255) (by decide) (show (k : Int).toNat < 400 by omega) rfl
                          have ghz650 := gv_eq hz650
                          have g0hz650 : gv E 93 (k : Int).toNat = z650 := (gv_fr hF523 (by simp)).trans ghz650
                          refine w_ald (i := 93) (t := 1) (n := 400) (npc := 305) rfl (hI521.pl (by decide)) (hI521.T (by decide) rfl) (by decide) rfl (by omega) hz650 ?_
                          refine w_iadd (npc := 306) rfl (by omega) ?_
                          refine w_istore (i := 2) (npc := 307) (loc' := [cr 81, ai_i z75, ai_i (s + z650), ai_i k]) rfl rfl ?_
                          refine w_iinc (i := 3) (n := 1) (npc := 310) (loc' := [cr 81, ai_i z75, ai_i (s + z650), ai_i (k + 1)]) rfl rfl (by omega) rfl ?_
                          refine w_goto (pt := 283) rfl ?_
                          exact ih283 (s + z650) (k + 1) (by omega) (by omega)
                  exact loop283 _ (0) (0) (Nat.lt_succ_self _) (by omega)
              · replace hc72 : ¬ (z63 = (0 : Int)) := hc72
                exact w_vret rfl (⟨rfl, rfl, rfl, hI67, hF69, fun hz9 => by omega⟩) (by omega) (by omega)
            · replace hc55 : ¬ ((5 : Int) ≤ w) := hc55
              refine w_aload (i := 0) (npc := 80) rfl rfl rfl ?_
              refine w_const (n := 3200) (npc := 83) rfl ?_
              refine w_const (n := 2) (npc := 84) rfl ?_
              refine w_virt (ci := 8) (i := 81) (npc := 87) (a := [cr 81, ai_i 3200, ai_i 2]) (rest := []) rfl rfl (hI74.pl (by decide)) (hI74.T (by decide) rfl) rfl rfl rfl rfl (ct_m_of (sl := sl) (x := x) (d := d + 4) (3200) (2) hI74 (by omega) (by omega) (by omega)) (Or.inl rfl) (fun k9 v9 T9 E654 nx9 kc9 ks9 hq653 hk9 hs9 => ?_)
              obtain ⟨rfl, rfl, rfl, rfl, z655, rfl, hz655⟩ := hq653
              obtain rfl : kc = kc9 := by omega
              obtain rfl : ks = ks9 := by omega
              refine Or.inr (Or.inl ⟨rfl, ?_⟩)
              refine w_const (n := 1) (npc := 88) rfl ?_
              refine w_isub (npc := 89) rfl (by omega) ?_
              refine w_istore (i := 2) (npc := 90) (loc' := [cr 81, ai_i w, ai_i (z655 - 1), u74_3]) rfl rfl ?_
              refine w_iload (i := 1) (npc := 91) rfl rfl ?_
              refine w_aload (i := 0) (npc := 92) rfl rfl rfl ?_
              refine w_const (n := 3200) (npc := 95) rfl ?_
              refine w_const (n := 1) (npc := 96) rfl ?_
              refine w_virt (ci := 8) (i := 81) (npc := 99) (a := [cr 81, ai_i 3200, ai_i 1]) (rest := [ai_i w]) rfl rfl (hI74.pl (by decide)) (hI74.T (by decide) rfl) rfl rfl rfl rfl (ct_m_of (sl := sl) (x := x) (d := d + 4) (3200) (1) hI74 (by omega) (by omega) (by omega)) (Or.inl rfl) (fun k9 v9 T9 E658 nx9 kc9 ks9 hq657 hk9 hs9 => ?_)
              obtain ⟨rfl, rfl, rfl, rfl, z659, rfl, hz659⟩ := hq657
              obtain rfl : kc = kc9 := by omega
              obtain rfl : ks = ks9 := by omega
              refine Or.inr (Or.inl ⟨rfl, ?_⟩)
              refine w_icmp (c := .ne) (npc := 102) (pt := 106) rfl (fun hc660 => ?_) (fun hc660 => ?_)
              · replace hc660 : w ≠ z659 := hc660
                refine w_const (n := 0) (npc := 107) rfl ?_
                refine w_istore (i := 3) (npc := 108) (loc' := [cr 81, ai_i w, ai_i (z655 - 1), ai_i 0]) rfl rfl ?_
                refine w_aload (i := 0) (npc := 109) rfl rfl rfl ?_
                refine w_const (n := 3200) (npc := 112) rfl ?_
                refine w_const (n := 3) (npc := 113) rfl ?_
                refine w_iload (i := 1) (npc := 114) rfl rfl ?_
                refine w_iadd (npc := 115) rfl (by omega) ?_
                refine w_aload (i := 0) (npc := 116) rfl rfl rfl ?_
                refine w_iload (i := 3) (npc := 117) rfl rfl ?_
                refine w_if (c := .eq) (npc := 120) (pt := 124) rfl (fun hc662 => ?_) (fun hc662 => ?_)
                · replace hc662 : (0 : Int) = 0 := hc662
                  refine w_const (n := 0) (npc := 125) rfl ?_
                  refine w_iload (i := 3) (npc := 126) rfl rfl ?_
                  refine w_if (c := .eq) (npc := 129) (pt := 133) rfl (fun hc663 => ?_) (fun hc663 => ?_)
                  · replace hc663 : (0 : Int) = 0 := hc663
                    refine w_iload (i := 1) (npc := 134) rfl rfl ?_
                    refine w_aload (i := 0) (npc := 135) rfl rfl rfl ?_
                    refine w_getf (i := 81) (ci := 8) (k := 1) (npc := 138) rfl (hI74.pl (by decide)) (hI74.T (by decide) rfl) (by decide) hz54 ?_
                    refine w_icmp (c := .ge) (npc := 141) (pt := 146) rfl (fun hc664 => ?_) (fun hc664 => ?_)
                    · replace hc664 : z54 ≤ w := hc664
                      refine w_const (n := 0) (npc := 147) rfl ?_
                      refine w_virt (ci := 8) (i := 81) (npc := 150) (a := [cr 81, ai_i 0, ai_i 0]) (rest := [ai_i (3 + w), ai_i 3200, cr 81]) rfl rfl (hI74.pl (by decide)) (hI74.T (by decide) rfl) rfl rfl rfl rfl (ct_m_readByte (sl := sl) (x := x) (d := d + 3) (0) (0) hI74) (Or.inl rfl) (fun k9 v9 T9 E666 nx9 kc9 ks9 hq665 hk9 hs9 => ?_)
                      obtain ⟨rfl, rfl, rfl, hI668, hG669, z667, rfl, hz667⟩ := hq665
                      obtain rfl : kc = kc9 := by omega
                      obtain rfl : ks = ks9 := by omega
                      have hF670 := cm_fr.trans hF74 hG669 (by first | (simp; done) | (simp; omega) | (intro i k h; (try simp only at h); (try simp only); omega))
                      have hz671 : E666 81 1 = ai_i z54 := (hG669 81 1 (by simp)).trans hz54
                      have ghz671 := gv_eq hz671
                      refine Or.inr (Or.inl ⟨rfl, ?_⟩)
                      obtain ⟨z672, hz672, hz672a, hz672b⟩ := hI668.int 81 21 (lo := 0) (hi := 3) (by decide) (by decide) rfl
                      have ghz672 := gv_eq hz672
                      refine w_virt (ci := 8) (i := 81) (npc := 153) (a := [cr 81, ai_i 3200, ai_i (3 + w), ai_i z667]) (rest := []) rfl rfl (hI668.pl (by decide)) (hI668.T (by decide) rfl) rfl rfl rfl rfl (ct_m_put (sl := sl) (x := x) (d := d + 4) (3200) (3 + w) (z667) hI668 (by omega) (by omega) (by omega)) (Or.inl rfl) (fun k9 v9 T9 E674 nx9 kc9 ks9 hq673 hk9 hs9 => ?_)
                      obtain ⟨rfl, rfl, rfl, hI676, hG677, hz675⟩ := hq673
                      obtain rfl : kc = kc9 := by omega
                      obtain rfl : ks = ks9 := by omega
                      have hF678 := cm_fr.trans hF670 hG677 (by first | (simp; done) | (simp; omega) | (intro i k h; (try simp only at h); (try simp only); omega))
                      have hz679 : E674 81 1 = ai_i z54 := (hG677 81 1 (by simp)).trans hz671
                      have ghz679 := gv_eq hz679
                      have hz680 : E674 81 21 = ai_i z672 := (hG677 81 21 (by simp)).trans hz672
                      have ghz680 := gv_eq hz680
                      refine Or.inl ⟨rfl, ?_⟩
                      refine w_iinc (i := 1) (n := 1) (npc := 156) (loc' := [cr 81, ai_i (w + 1), ai_i (z655 - 1), ai_i 0]) rfl rfl (by omega) rfl ?_
                      refine w_goto (pt := 74) rfl ?_
                      exact ih74 (w + 1) (ai_i (z655 - 1)) (ai_i 0) E674 (by omega) hI676 hF678 (by
      obtain ⟨d1, d2, d3, d4⟩ := hv74
      have m0 := hz667
      have m1 := hz675
      have y0_0 := gv_fr hG669 (i := 81) (k := 1) (by first | (simp; done) | omega | (simp only; omega) | (simp; omega))
      have y0_1 := gv_fr hG669 (i := 82) (k := (166 * 3200 + 0 : Int).toNat) (by first | (simp; done) | omega | (simp only; omega) | (simp; omega))
      have y0_2 := gv_fr hG669 (i := 82) (k := (166 * 3200 + 1 : Int).toNat) (by first | (simp; done) | omega | (simp only; omega) | (simp; omega))
      have y0_3 := gv_fr hG669 (i := 82) (k := (166 * 3200 + 2 : Int).toNat) (by first | (simp; done) | omega | (simp only; omega) | (simp; omega))
      have y1_0 := gv_fr hG677 (i := 81) (k := 1) (by first | (simp; done) | omega | (simp only; omega) | (simp; omega))
      have y1_1 := gv_fr hG677 (i := 82) (k := (166 * 3200 + 0 : Int).toNat) (by first | (simp; done) | omega | (simp only; omega) | (simp; omega))
      have y1_2 := gv_fr hG677 (i := 82) (k := (166 * 3200 + 1 : Int).toNat) (by first | (simp; done) | omega | (simp only; omega) | (simp; omega))
      have y1_3 := gv_fr hG677 (i := 82) (k := (166 * 3200 + 2 : Int).toNat) (by first | (simp; done) | omega | (simp only; omega) | (simp; omega))
      have v0_0 := gv_fr hG677 (i := 81) (k := 21) (by first | (simp; done) | omega | (simp only; omega) | (simp; omega))
      refine ⟨by omega, by omega, by omega, fun k k0 k1 => ?_⟩
      rw [← gv_fr hG677 (by first | omega | (simp only; omega)), ← gv_fr hG669 (by first | omega | (simp only; omega))]; exact d4 k k0 k1)
                    · replace hc664 : ¬ (z54 ≤ w) := hc664
                      refine w_const (n := 60) (npc := 143) rfl ?_
                      refine w_goto (pt := 147) rfl ?_
                      refine w_virt (ci := 8) (i := 81) (npc := 150) (a := [cr 81, ai_i 0, ai_i 60]) (rest := [ai_i (3 + w), ai_i 3200, cr 81]) rfl rfl (hI74.pl (by decide)) (hI74.T (by decide) rfl) rfl rfl rfl rfl (ct_m_readByte (sl := sl) (x := x) (d := d + 3) (0) (60) hI74) (Or.inl rfl) (fun k9 v9 T9 E683 nx9 kc9 ks9 hq682 hk9 hs9 => ?_)
                      obtain ⟨rfl, rfl, rfl, hI685, hG686, z684, rfl, hz684⟩ := hq682
                      obtain rfl : kc = kc9 := by omega
                      obtain rfl : ks = ks9 := by omega
                      have hF687 := cm_fr.trans hF74 hG686 (by first | (simp; done) | (simp; omega) | (intro i k h; (try simp only at h); (try simp only); omega))
                      have hz688 : E683 81 1 = ai_i z54 := (hG686 81 1 (by simp)).trans hz54
                      have ghz688 := gv_eq hz688
                      refine Or.inr (Or.inl ⟨rfl, ?_⟩)
                      obtain ⟨z689, hz689, hz689a, hz689b⟩ := hI685.int 81 21 (lo := 0) (hi := 3) (by decide) (by decide) rfl
                      have ghz689 := gv_eq hz689
                      refine w_virt (ci := 8) (i := 81) (npc := 153) (a := [cr 81, ai_i 3200, ai_i (3 + w), ai_i z684]) (rest := []) rfl rfl (hI685.pl (by decide)) (hI685.T (by decide) rfl) rfl rfl rfl rfl (ct_m_put (sl := sl) (x := x) (d := d + 4) (3200) (3 + w) (z684) hI685 (by omega) (by omega) (by omega)) (Or.inl rfl) (fun k9 v9 T9 E691 nx9 kc9 ks9 hq690 hk9 hs9 => ?_)
                      obtain ⟨rfl, rfl, rfl, hI693, hG694, hz692⟩ := hq690
                      obtain rfl : kc = kc9 := by omega
                      obtain rfl : ks = ks9 := by omega
                      have hF695 := cm_fr.trans hF687 hG694 (by first | (simp; done) | (simp; omega) | (intro i k h; (try simp only at h); (try simp only); omega))
                      have hz696 : E691 81 1 = ai_i z54 := (hG694 81 1 (by simp)).trans hz688
                      have ghz696 := gv_eq hz696
                      have hz697 : E691 81 21 = ai_i z689 := (hG694 81 21 (by simp)).trans hz689
                      have ghz697 := gv_eq hz697
                      refine Or.inl ⟨rfl, ?_⟩
                      refine w_iinc (i := 1) (n := 1) (npc := 156) (loc' := [cr 81, ai_i (w + 1), ai_i (z655 - 1), ai_i 0]) rfl rfl (by omega) rfl ?_
                      refine w_goto (pt := 74) rfl ?_
                      exact ih74 (w + 1) (ai_i (z655 - 1)) (ai_i 0) E691 (by omega) hI693 hF695 (by
      obtain ⟨d1, d2, d3, d4⟩ := hv74
      have m0 := hz684
      have m1 := hz692
      have y0_0 := gv_fr hG686 (i := 81) (k := 1) (by first | (simp; done) | omega | (simp only; omega) | (simp; omega))
      have y0_1 := gv_fr hG686 (i := 82) (k := (166 * 3200 + 0 : Int).toNat) (by first | (simp; done) | omega | (simp only; omega) | (simp; omega))
      have y0_2 := gv_fr hG686 (i := 82) (k := (166 * 3200 + 1 : Int).toNat) (by first | (simp; done) | omega | (simp only; omega) | (simp; omega))
      have y0_3 := gv_fr hG686 (i := 82) (k := (166 * 3200 + 2 : Int).toNat) (by first | (simp; done) | omega | (simp only; omega) | (simp; omega))
      have y1_0 := gv_fr hG694 (i := 81) (k := 1) (by first | (simp; done) | omega | (simp only; omega) | (simp; omega))
      have y1_1 := gv_fr hG694 (i := 82) (k := (166 * 3200 + 0 : Int).toNat) (by first | (simp; done) | omega | (simp only; omega) | (simp; omega))
      have y1_2 := gv_fr hG694 (i := 82) (k := (166 * 3200 + 1 : Int).toNat) (by first | (simp; done) | omega | (simp only; omega) | (simp; omega))
      have y1_3 := gv_fr hG694 (i := 82) (k := (166 * 3200 + 2 : Int).toNat) (by first | (simp; done) | omega | (simp only; omega) | (simp; omega))
      have v0_0 := gv_fr hG694 (i := 81) (k := 21) (by first | (simp; done) | omega | (simp only; omega) | (simp; omega))
      refine ⟨by omega, by omega, by omega, fun k k0 k1 => ?_⟩
      rw [← gv_fr hG694 (by first | omega | (simp only; omega)), ← gv_fr hG686 (by first | omega | (simp only; omega))]; exact d4 k k0 k1)
                  · replace hc663 : ¬ ((0 : Int) = 0) := hc663
                    refine w_iload (i := 2) (npc := 130) rfl rfl ?_
                    refine w_goto (pt := 147) rfl ?_
                    refine w_virt (ci := 8) (i := 81) (npc := 150) (a := [cr 81, ai_i 0, ai_i (z655 - 1)]) (rest := [ai_i (3 + w), ai_i 3200, cr 81]) rfl rfl (hI74.pl (by decide)) (hI74.T (by decide) rfl) rfl rfl rfl rfl (ct_m_readByte (sl := sl) (x := x) (d := d + 3) (0) (z655 - 1) hI74) (Or.inl rfl) (fun k9 v9 T9 E700 nx9 kc9 ks9 hq699 hk9 hs9 => ?_)
                    obtain ⟨rfl, rfl, rfl, hI702, hG703, z701, rfl, hz701⟩ := hq699
                    obtain rfl : kc = kc9 := by omega
                    obtain rfl : ks = ks9 := by omega
                    have hF704 := cm_fr.trans hF74 hG703 (by first | (simp; done) | (simp; omega) | (intro i k h; (try simp only at h); (try simp only); omega))
                    have hz705 : E700 81 1 = ai_i z54 := (hG703 81 1 (by simp)).trans hz54
                    have ghz705 := gv_eq hz705
                    refine Or.inr (Or.inl ⟨rfl, ?_⟩)
                    obtain ⟨z706, hz706, hz706a, hz706b⟩ := hI702.int 81 21 (lo := 0) (hi := 3) (by decide) (by decide) rfl
                    have ghz706 := gv_eq hz706
                    refine w_virt (ci := 8) (i := 81) (npc := 153) (a := [cr 81, ai_i 3200, ai_i (3 + w), ai_i z701]) (rest := []) rfl rfl (hI702.pl (by decide)) (hI702.T (by decide) rfl) rfl rfl rfl rfl (ct_m_put (sl := sl) (x := x) (d := d + 4) (3200) (3 + w) (z701) hI702 (by omega) (by omega) (by omega)) (Or.inl rfl) (fun k9 v9 T9 E708 nx9 kc9 ks9 hq707 hk9 hs9 => ?_)
                    obtain ⟨rfl, rfl, rfl, hI710, hG711, hz709⟩ := hq707
                    obtain rfl : kc = kc9 := by omega
                    obtain rfl : ks = ks9 := by omega
                    have hF712 := cm_fr.trans hF704 hG711 (by first | (simp; done) | (simp; omega) | (intro i k h; (try simp only at h); (try simp only); omega))
                    have hz713 : E708 81 1 = ai_i z54 := (hG711 81 1 (by simp)).trans hz705
                    have ghz713 := gv_eq hz713
                    have hz714 : E708 81 21 = ai_i z706 := (hG711 81 21 (by simp)).trans hz706
                    have ghz714 := gv_eq hz714
                    refine Or.inl ⟨rfl, ?_⟩
                    refine w_iinc (i := 1) (n := 1) (npc := 156) (loc' := [cr 81, ai_i (w + 1), ai_i (z655 - 1), ai_i 0]) rfl rfl (by omega) rfl ?_
                    refine w_goto (pt := 74) rfl ?_
                    exact ih74 (w + 1) (ai_i (z655 - 1)) (ai_i 0) E708 (by omega) hI710 hF712 (by
      obtain ⟨d1, d2, d3, d4⟩ := hv74
      have m0 := hz701
      have m1 := hz709
      have y0_0 := gv_fr hG703 (i := 81) (k := 1) (by first | (simp; done) | omega | (simp only; omega) | (simp; omega))
      have y0_1 := gv_fr hG703 (i := 82) (k := (166 * 3200 + 0 : Int).toNat) (by first | (simp; done) | omega | (simp only; omega) | (simp; omega))
      have y0_2 := gv_fr hG703 (i := 82) (k := (166 * 3200 + 1 : Int).toNat) (by first | (simp; done) | omega | (simp only; omega) | (simp; omega))
      have y0_3 := gv_fr hG703 (i := 82) (k := (166 * 3200 + 2 : Int).toNat) (by first | (simp; done) | omega | (simp only; omega) | (simp; omega))
      have y1_0 := gv_fr hG711 (i := 81) (k := 1) (by first | (simp; done) | omega | (simp only; omega) | (simp; omega))
      have y1_1 := gv_fr hG711 (i := 82) (k := (166 * 3200 + 0 : Int).toNat) (by first | (simp; done) | omega | (simp only; omega) | (simp; omega))
      have y1_2 := gv_fr hG711 (i := 82) (k := (166 * 3200 + 1 : Int).toNat) (by first | (simp; done) | omega | (simp only; omega) | (simp; omega))
      have y1_3 := gv_fr hG711 (i := 82) (k := (166 * 3200 + 2 : Int).toNat) (by first | (simp; done) | omega | (simp only; omega) | (simp; omega))
      have v0_0 := gv_fr hG711 (i := 81) (k := 21) (by first | (simp; done) | omega | (simp only; omega) | (simp; omega))
      refine ⟨by omega, by omega, by omega, fun k k0 k1 => ?_⟩
      rw [← gv_fr hG711 (by first | omega | (simp only; omega)), ← gv_fr hG703 (by first | omega | (simp only; omega))]; exact d4 k k0 k1)
                · replace hc662 : ¬ ((0 : Int) = 0) := hc662
                  refine w_iload (i := 2) (npc := 121) rfl rfl ?_
                  refine w_goto (pt := 125) rfl ?_
                  refine w_iload (i := 3) (npc := 126) rfl rfl ?_
                  refine w_if (c := .eq) (npc := 129) (pt := 133) rfl (fun hc716 => ?_) (fun hc716 => ?_)
                  · replace hc716 : (0 : Int) = 0 := hc716
                    refine w_iload (i := 1) (npc := 134) rfl rfl ?_
                    refine w_aload (i := 0) (npc := 135) rfl rfl rfl ?_
                    refine w_getf (i := 81) (ci := 8) (k := 1) (npc := 138) rfl (hI74.pl (by decide)) (hI74.T (by decide) rfl) (by decide) hz54 ?_
                    refine w_icmp (c := .ge) (npc := 141) (pt := 146) rfl (fun hc717 => ?_) (fun hc717 => ?_)
                    · replace hc717 : z54 ≤ w := hc717
                      refine w_const (n := 0) (npc := 147) rfl ?_
                      refine w_virt (ci := 8) (i := 81) (npc := 150) (a := [cr 81, ai_i (z655 - 1), ai_i 0]) (rest := [ai_i (3 + w), ai_i 3200, cr 81]) rfl rfl (hI74.pl (by decide)) (hI74.T (by decide) rfl) rfl rfl rfl rfl (ct_m_readByte (sl := sl) (x := x) (d := d + 3) (z655 - 1) (0) hI74) (Or.inl rfl) (fun k9 v9 T9 E719 nx9 kc9 ks9 hq718 hk9 hs9 => ?_)
                      obtain ⟨rfl, rfl, rfl, hI721, hG722, z720, rfl, hz720⟩ := hq718
                      obtain rfl : kc = kc9 := by omega
                      obtain rfl : ks = ks9 := by omega
                      have hF723 := cm_fr.trans hF74 hG722 (by first | (simp; done) | (simp; omega) | (intro i k h; (try simp only at h); (try simp only); omega))
                      have hz724 : E719 81 1 = ai_i z54 := (hG722 81 1 (by simp)).trans hz54
                      have ghz724 := gv_eq hz724
                      refine Or.inr (Or.inl ⟨rfl, ?_⟩)
                      obtain ⟨z725, hz725, hz725a, hz725b⟩ := hI721.int 81 21 (lo := 0) (hi := 3) (by decide) (by decide) rfl
                      have ghz725 := gv_eq hz725
                      refine w_virt (ci := 8) (i := 81) (npc := 153) (a := [cr 81, ai_i 3200, ai_i (3 + w), ai_i z720]) (rest := []) rfl rfl (hI721.pl (by decide)) (hI721.T (by decide) rfl) rfl rfl rfl rfl (ct_m_put (sl := sl) (x := x) (d := d + 4) (3200) (3 + w) (z720) hI721 (by omega) (by omega) (by omega)) (Or.inl rfl) (fun k9 v9 T9 E727 nx9 kc9 ks9 hq726 hk9 hs9 => ?_)
                      obtain ⟨rfl, rfl, rfl, hI729, hG730, hz728⟩ := hq726
                      obtain rfl : kc = kc9 := by omega
                      obtain rfl : ks = ks9 := by omega
                      have hF731 := cm_fr.trans hF723 hG730 (by first | (simp; done) | (simp; omega) | (intro i k h; (try simp only at h); (try simp only); omega))
                      have hz732 : E727 81 1 = ai_i z54 := (hG730 81 1 (by simp)).trans hz724
                      have ghz732 := gv_eq hz732
                      have hz733 : E727 81 21 = ai_i z725 := (hG730 81 21 (by simp)).trans hz725
                      have ghz733 := gv_eq hz733
                      refine Or.inl ⟨rfl, ?_⟩
                      refine w_iinc (i := 1) (n := 1) (npc := 156) (loc' := [cr 81, ai_i (w + 1), ai_i (z655 - 1), ai_i 0]) rfl rfl (by omega) rfl ?_
                      refine w_goto (pt := 74) rfl ?_
                      exact ih74 (w + 1) (ai_i (z655 - 1)) (ai_i 0) E727 (by omega) hI729 hF731 (by
      obtain ⟨d1, d2, d3, d4⟩ := hv74
      have m0 := hz720
      have m1 := hz728
      have y0_0 := gv_fr hG722 (i := 81) (k := 1) (by first | (simp; done) | omega | (simp only; omega) | (simp; omega))
      have y0_1 := gv_fr hG722 (i := 82) (k := (166 * 3200 + 0 : Int).toNat) (by first | (simp; done) | omega | (simp only; omega) | (simp; omega))
      have y0_2 := gv_fr hG722 (i := 82) (k := (166 * 3200 + 1 : Int).toNat) (by first | (simp; done) | omega | (simp only; omega) | (simp; omega))
      have y0_3 := gv_fr hG722 (i := 82) (k := (166 * 3200 + 2 : Int).toNat) (by first | (simp; done) | omega | (simp only; omega) | (simp; omega))
      have y1_0 := gv_fr hG730 (i := 81) (k := 1) (by first | (simp; done) | omega | (simp only; omega) | (simp; omega))
      have y1_1 := gv_fr hG730 (i := 82) (k := (166 * 3200 + 0 : Int).toNat) (by first | (simp; done) | omega | (simp only; omega) | (simp; omega))
      have y1_2 := gv_fr hG730 (i := 82) (k := (166 * 3200 + 1 : Int).toNat) (by first | (simp; done) | omega | (simp only; omega) | (simp; omega))
      have y1_3 := gv_fr hG730 (i := 82) (k := (166 * 3200 + 2 : Int).toNat) (by first | (simp; done) | omega | (simp only; omega) | (simp; omega))
      have v0_0 := gv_fr hG730 (i := 81) (k := 21) (by first | (simp; done) | omega | (simp only; omega) | (simp; omega))
      refine ⟨by omega, by omega, by omega, fun k k0 k1 => ?_⟩
      rw [← gv_fr hG730 (by first | omega | (simp only; omega)), ← gv_fr hG722 (by first | omega | (simp only; omega))]; exact d4 k k0 k1)
                    · replace hc717 : ¬ (z54 ≤ w) := hc717
                      refine w_const (n := 60) (npc := 143) rfl ?_
                      refine w_goto (pt := 147) rfl ?_
                      refine w_virt (ci := 8) (i := 81) (npc := 150) (a := [cr 81, ai_i (z655 - 1), ai_i 60]) (rest := [ai_i (3 + w), ai_i 3200, cr 81]) rfl rfl (hI74.pl (by decide)) (hI74.T (by decide) rfl) rfl rfl rfl rfl (ct_m_readByte (sl := sl) (x := x) (d := d + 3) (z655 - 1) (60) hI74) (Or.inl rfl) (fun k9 v9 T9 E736 nx9 kc9 ks9 hq735 hk9 hs9 => ?_)
                      obtain ⟨rfl, rfl, rfl, hI738, hG739, z737, rfl, hz737⟩ := hq735
                      obtain rfl : kc = kc9 := by omega
                      obtain rfl : ks = ks9 := by omega
                      have hF740 := cm_fr.trans hF74 hG739 (by first | (simp; done) | (simp; omega) | (intro i k h; (try simp only at h); (try simp only); omega))
                      have hz741 : E736 81 1 = ai_i z54 := (hG739 81 1 (by simp)).trans hz54
                      have ghz741 := gv_eq hz741
                      refine Or.inr (Or.inl ⟨rfl, ?_⟩)
                      obtain ⟨z742, hz742, hz742a, hz742b⟩ := hI738.int 81 21 (lo := 0) (hi := 3) (by decide) (by decide) rfl
                      have ghz742 := gv_eq hz742
                      refine w_virt (ci := 8) (i := 81) (npc := 153) (a := [cr 81, ai_i 3200, ai_i (3 + w), ai_i z737]) (rest := []) rfl rfl (hI738.pl (by decide)) (hI738.T (by decide) rfl) rfl rfl rfl rfl (ct_m_put (sl := sl) (x := x) (d := d + 4) (3200) (3 + w) (z737) hI738 (by omega) (by omega) (by omega)) (Or.inl rfl) (fun k9 v9 T9 E744 nx9 kc9 ks9 hq743 hk9 hs9 => ?_)
                      obtain ⟨rfl, rfl, rfl, hI746, hG747, hz745⟩ := hq743
                      obtain rfl : kc = kc9 := by omega
                      obtain rfl : ks = ks9 := by omega
                      have hF748 := cm_fr.trans hF740 hG747 (by first | (simp; done) | (simp; omega) | (intro i k h; (try simp only at h); (try simp only); omega))
                      have hz749 : E744 81 1 = ai_i z54 := (hG747 81 1 (by simp)).trans hz741
                      have ghz749 := gv_eq hz749
                      have hz750 : E744 81 21 = ai_i z742 := (hG747 81 21 (by simp)).trans hz742
                      have ghz750 := gv_eq hz750
                      refine Or.inl ⟨rfl, ?_⟩
                      refine w_iinc (i := 1) (n := 1) (npc := 156) (loc' := [cr 81, ai_i (w + 1), ai_i (z655 - 1), ai_i 0]) rfl rfl (by omega) rfl ?_
                      refine w_goto (pt := 74) rfl ?_
                      exact ih74 (w + 1) (ai_i (z655 - 1)) (ai_i 0) E744 (by omega) hI746 hF748 (by
      obtain ⟨d1, d2, d3, d4⟩ := hv74
      have m0 := hz737
      have m1 := hz745
      have y0_0 := gv_fr hG739 (i := 81) (k := 1) (by first | (simp; done) | omega | (simp only; omega) | (simp; omega))
      have y0_1 := gv_fr hG739 (i := 82) (k := (166 * 3200 + 0 : Int).toNat) (by first | (simp; done) | omega | (simp only; omega) | (simp; omega))
      have y0_2 := gv_fr hG739 (i := 82) (k := (166 * 3200 + 1 : Int).toNat) (by first | (simp; done) | omega | (simp only; omega) | (simp; omega))
      have y0_3 := gv_fr hG739 (i := 82) (k := (166 * 3200 + 2 : Int).toNat) (by first | (simp; done) | omega | (simp only; omega) | (simp; omega))
      have y1_0 := gv_fr hG747 (i := 81) (k := 1) (by first | (simp; done) | omega | (simp only; omega) | (simp; omega))
      have y1_1 := gv_fr hG747 (i := 82) (k := (166 * 3200 + 0 : Int).toNat) (by first | (simp; done) | omega | (simp only; omega) | (simp; omega))
      have y1_2 := gv_fr hG747 (i := 82) (k := (166 * 3200 + 1 : Int).toNat) (by first | (simp; done) | omega | (simp only; omega) | (simp; omega))
      have y1_3 := gv_fr hG747 (i := 82) (k := (166 * 3200 + 2 : Int).toNat) (by first | (simp; done) | omega | (simp only; omega) | (simp; omega))
      have v0_0 := gv_fr hG747 (i := 81) (k := 21) (by first | (simp; done) | omega | (simp only; omega) | (simp; omega))
      refine ⟨by omega, by omega, by omega, fun k k0 k1 => ?_⟩
      rw [← gv_fr hG747 (by first | omega | (simp only; omega)), ← gv_fr hG739 (by first | omega | (simp only; omega))]; exact d4 k k0 k1)
                  · replace hc716 : ¬ ((0 : Int) = 0) := hc716
                    refine w_iload (i := 2) (npc := 130) rfl rfl ?_
                    refine w_goto (pt := 147) rfl ?_
                    refine w_virt (ci := 8) (i := 81) (npc := 150) (a := [cr 81, ai_i (z655 - 1), ai_i (z655 - 1)]) (rest := [ai_i (3 + w), ai_i 3200, cr 81]) rfl rfl (hI74.pl (by decide)) (hI74.T (by decide) rfl) rfl rfl rfl rfl (ct_m_readByte (sl := sl) (x := x) (d := d + 3) (z655 - 1) (z655 - 1) hI74) (Or.inl rfl) (fun k9 v9 T9 E753 nx9 kc9 ks9 hq752 hk9 hs9 => ?_)
                    obtain ⟨rfl, rfl, rfl, hI755, hG756, z754, rfl, hz754⟩ := hq752
                    obtain rfl : kc = kc9 := by omega
                    obtain rfl : ks = ks9 := by omega
                    have hF757 := cm_fr.trans hF74 hG756 (by first | (simp; done) | (simp; omega) | (intro i k h; (try simp only at h); (try simp only); omega))
                    have hz758 : E753 81 1 = ai_i z54 := (hG756 81 1 (by simp)).trans hz54
                    have ghz758 := gv_eq hz758
                    refine Or.inr (Or.inl ⟨rfl, ?_⟩)
                    obtain ⟨z759, hz759, hz759a, hz759b⟩ := hI755.int 81 21 (lo := 0) (hi := 3) (by decide) (by decide) rfl
                    have ghz759 := gv_eq hz759
                    refine w_virt (ci := 8) (i := 81) (npc := 153) (a := [cr 81, ai_i 3200, ai_i (3 + w), ai_i z754]) (rest := []) rfl rfl (hI755.pl (by decide)) (hI755.T (by decide) rfl) rfl rfl rfl rfl (ct_m_put (sl := sl) (x := x) (d := d + 4) (3200) (3 + w) (z754) hI755 (by omega) (by omega) (by omega)) (Or.inl rfl) (fun k9 v9 T9 E761 nx9 kc9 ks9 hq760 hk9 hs9 => ?_)
                    obtain ⟨rfl, rfl, rfl, hI763, hG764, hz762⟩ := hq760
                    obtain rfl : kc = kc9 := by omega
                    obtain rfl : ks = ks9 := by omega
                    have hF765 := cm_fr.trans hF757 hG764 (by first | (simp; done) | (simp; omega) | (intro i k h; (try simp only at h); (try simp only); omega))
                    have hz766 : E761 81 1 = ai_i z54 := (hG764 81 1 (by simp)).trans hz758
                    have ghz766 := gv_eq hz766
                    have hz767 : E761 81 21 = ai_i z759 := (hG764 81 21 (by simp)).trans hz759
                    have ghz767 := gv_eq hz767
                    refine Or.inl ⟨rfl, ?_⟩
                    refine w_iinc (i := 1) (n := 1) (npc := 156) (loc' := [cr 81, ai_i (w + 1), ai_i (z655 - 1), ai_i 0]) rfl rfl (by omega) rfl ?_
                    refine w_goto (pt := 74) rfl ?_
                    exact ih74 (w + 1) (ai_i (z655 - 1)) (ai_i 0) E761 (by omega) hI763 hF765 (by
      obtain ⟨d1, d2, d3, d4⟩ := hv74
      have m0 := hz754
      have m1 := hz762
      have y0_0 := gv_fr hG756 (i := 81) (k := 1) (by first | (simp; done) | omega | (simp only; omega) | (simp; omega))
      have y0_1 := gv_fr hG756 (i := 82) (k := (166 * 3200 + 0 : Int).toNat) (by first | (simp; done) | omega | (simp only; omega) | (simp; omega))
      have y0_2 := gv_fr hG756 (i := 82) (k := (166 * 3200 + 1 : Int).toNat) (by first | (simp; done) | omega | (simp only; omega) | (simp; omega))
      have y0_3 := gv_fr hG756 (i := 82) (k := (166 * 3200 + 2 : Int).toNat) (by first | (simp; done) | omega | (simp only; omega) | (simp; omega))
      have y1_0 := gv_fr hG764 (i := 81) (k := 1) (by first | (simp; done) | omega | (simp only; omega) | (simp; omega))
      have y1_1 := gv_fr hG764 (i := 82) (k := (166 * 3200 + 0 : Int).toNat) (by first | (simp; done) | omega | (simp only; omega) | (simp; omega))
      have y1_2 := gv_fr hG764 (i := 82) (k := (166 * 3200 + 1 : Int).toNat) (by first | (simp; done) | omega | (simp only; omega) | (simp; omega))
      have y1_3 := gv_fr hG764 (i := 82) (k := (166 * 3200 + 2 : Int).toNat) (by first | (simp; done) | omega | (simp only; omega) | (simp; omega))
      have v0_0 := gv_fr hG764 (i := 81) (k := 21) (by first | (simp; done) | omega | (simp only; omega) | (simp; omega))
      refine ⟨by omega, by omega, by omega, fun k k0 k1 => ?_⟩
      rw [← gv_fr hG764 (by first | omega | (simp only; omega)), ← gv_fr hG756 (by first | omega | (simp only; omega))]; exact d4 k k0 k1)
              · replace hc660 : ¬ (w ≠ z659) := hc660
                refine w_const (n := 1) (npc := 103) rfl ?_
                refine w_goto (pt := 107) rfl ?_
                refine w_istore (i := 3) (npc := 108) (loc' := [cr 81, ai_i w, ai_i (z655 - 1), ai_i 1]) rfl rfl ?_
                refine w_aload (i := 0) (npc := 109) rfl rfl rfl ?_
                refine w_const (n := 3200) (npc := 112) rfl ?_
                refine w_const (n := 3) (npc := 113) rfl ?_
                refine w_iload (i := 1) (npc := 114) rfl rfl ?_
                refine w_iadd (npc := 115) rfl (by omega) ?_
                refine w_aload (i := 0) (npc := 116) rfl rfl rfl ?_
                refine w_iload (i := 3) (npc := 117) rfl rfl ?_
                refine w_if (c := .eq) (npc := 120) (pt := 124) rfl (fun hc770 => ?_) (fun hc770 => ?_)
                · replace hc770 : (1 : Int) = 0 := hc770
                  refine w_const (n := 0) (npc := 125) rfl ?_
                  refine w_iload (i := 3) (npc := 126) rfl rfl ?_
                  refine w_if (c := .eq) (npc := 129) (pt := 133) rfl (fun hc771 => ?_) (fun hc771 => ?_)
                  · replace hc771 : (1 : Int) = 0 := hc771
                    refine w_iload (i := 1) (npc := 134) rfl rfl ?_
                    refine w_aload (i := 0) (npc := 135) rfl rfl rfl ?_
                    refine w_getf (i := 81) (ci := 8) (k := 1) (npc := 138) rfl (hI74.pl (by decide)) (hI74.T (by decide) rfl) (by decide) hz54 ?_
                    refine w_icmp (c := .ge) (npc := 141) (pt := 146) rfl (fun hc772 => ?_) (fun hc772 => ?_)
                    · replace hc772 : z54 ≤ w := hc772
                      refine w_const (n := 0) (npc := 147) rfl ?_
                      refine w_virt (ci := 8) (i := 81) (npc := 150) (a := [cr 81, ai_i 0, ai_i 0]) (rest := [ai_i (3 + w), ai_i 3200, cr 81]) rfl rfl (hI74.pl (by decide)) (hI74.T (by decide) rfl) rfl rfl rfl rfl (ct_m_readByte (sl := sl) (x := x) (d := d + 3) (0) (0) hI74) (Or.inl rfl) (fun k9 v9 T9 E774 nx9 kc9 ks9 hq773 hk9 hs9 => ?_)
                      obtain ⟨rfl, rfl, rfl, hI776, hG777, z775, rfl, hz775⟩ := hq773
                      obtain rfl : kc = kc9 := by omega
                      obtain rfl : ks = ks9 := by omega
                      have hF778 := cm_fr.trans hF74 hG777 (by first | (simp; done) | (simp; omega) | (intro i k h; (try simp only at h); (try simp only); omega))
                      have hz779 : E774 81 1 = ai_i z54 := (hG777 81 1 (by simp)).trans hz54
                      have ghz779 := gv_eq hz779
                      refine Or.inr (Or.inl ⟨rfl, ?_⟩)
                      obtain ⟨z780, hz780, hz780a, hz780b⟩ := hI776.int 81 21 (lo := 0) (hi := 3) (by decide) (by decide) rfl
                      have ghz780 := gv_eq hz780
                      refine w_virt (ci := 8) (i := 81) (npc := 153) (a := [cr 81, ai_i 3200, ai_i (3 + w), ai_i z775]) (rest := []) rfl rfl (hI776.pl (by decide)) (hI776.T (by decide) rfl) rfl rfl rfl rfl (ct_m_put (sl := sl) (x := x) (d := d + 4) (3200) (3 + w) (z775) hI776 (by omega) (by omega) (by omega)) (Or.inl rfl) (fun k9 v9 T9 E782 nx9 kc9 ks9 hq781 hk9 hs9 => ?_)
                      obtain ⟨rfl, rfl, rfl, hI784, hG785, hz783⟩ := hq781
                      obtain rfl : kc = kc9 := by omega
                      obtain rfl : ks = ks9 := by omega
                      have hF786 := cm_fr.trans hF778 hG785 (by first | (simp; done) | (simp; omega) | (intro i k h; (try simp only at h); (try simp only); omega))
                      have hz787 : E782 81 1 = ai_i z54 := (hG785 81 1 (by simp)).trans hz779
                      have ghz787 := gv_eq hz787
                      have hz788 : E782 81 21 = ai_i z780 := (hG785 81 21 (by simp)).trans hz780
                      have ghz788 := gv_eq hz788
                      refine Or.inl ⟨rfl, ?_⟩
                      refine w_iinc (i := 1) (n := 1) (npc := 156) (loc' := [cr 81, ai_i (w + 1), ai_i (z655 - 1), ai_i 1]) rfl rfl (by omega) rfl ?_
                      refine w_goto (pt := 74) rfl ?_
                      exact ih74 (w + 1) (ai_i (z655 - 1)) (ai_i 1) E782 (by omega) hI784 hF786 (by
      obtain ⟨d1, d2, d3, d4⟩ := hv74
      have m0 := hz775
      have m1 := hz783
      have y0_0 := gv_fr hG777 (i := 81) (k := 1) (by first | (simp; done) | omega | (simp only; omega) | (simp; omega))
      have y0_1 := gv_fr hG777 (i := 82) (k := (166 * 3200 + 0 : Int).toNat) (by first | (simp; done) | omega | (simp only; omega) | (simp; omega))
      have y0_2 := gv_fr hG777 (i := 82) (k := (166 * 3200 + 1 : Int).toNat) (by first | (simp; done) | omega | (simp only; omega) | (simp; omega))
      have y0_3 := gv_fr hG777 (i := 82) (k := (166 * 3200 + 2 : Int).toNat) (by first | (simp; done) | omega | (simp only; omega) | (simp; omega))
      have y1_0 := gv_fr hG785 (i := 81) (k := 1) (by first | (simp; done) | omega | (simp only; omega) | (simp; omega))
      have y1_1 := gv_fr hG785 (i := 82) (k := (166 * 3200 + 0 : Int).toNat) (by first | (simp; done) | omega | (simp only; omega) | (simp; omega))
      have y1_2 := gv_fr hG785 (i := 82) (k := (166 * 3200 + 1 : Int).toNat) (by first | (simp; done) | omega | (simp only; omega) | (simp; omega))
      have y1_3 := gv_fr hG785 (i := 82) (k := (166 * 3200 + 2 : Int).toNat) (by first | (simp; done) | omega | (simp only; omega) | (simp; omega))
      have v0_0 := gv_fr hG785 (i := 81) (k := 21) (by first | (simp; done) | omega | (simp only; omega) | (simp; omega))
      refine ⟨by omega, by omega, by omega, fun k k0 k1 => ?_⟩
      rw [← gv_fr hG785 (by first | omega | (simp only; omega)), ← gv_fr hG777 (by first | omega | (simp only; omega))]; exact d4 k k0 k1)
                    · replace hc772 : ¬ (z54 ≤ w) := hc772
                      refine w_const (n := 60) (npc := 143) rfl ?_
                      refine w_goto (pt := 147) rfl ?_
                      refine w_virt (ci := 8) (i := 81) (npc := 150) (a := [cr 81, ai_i 0, ai_i 60]) (rest := [ai_i (3 + w), ai_i 3200, cr 81]) rfl rfl (hI74.pl (by decide)) (hI74.T (by decide) rfl) rfl rfl rfl rfl (ct_m_readByte (sl := sl) (x := x) (d := d + 3) (0) (60) hI74) (Or.inl rfl) (fun k9 v9 T9 E791 nx9 kc9 ks9 hq790 hk9 hs9 => ?_)
                      obtain ⟨rfl, rfl, rfl, hI793, hG794, z792, rfl, hz792⟩ := hq790
                      obtain rfl : kc = kc9 := by omega
                      obtain rfl : ks = ks9 := by omega
                      have hF795 := cm_fr.trans hF74 hG794 (by first | (simp; done) | (simp; omega) | (intro i k h; (try simp only at h); (try simp only); omega))
                      have hz796 : E791 81 1 = ai_i z54 := (hG794 81 1 (by simp)).trans hz54
                      have ghz796 := gv_eq hz796
                      refine Or.inr (Or.inl ⟨rfl, ?_⟩)
                      obtain ⟨z797, hz797, hz797a, hz797b⟩ := hI793.int 81 21 (lo := 0) (hi := 3) (by decide) (by decide) rfl
                      have ghz797 := gv_eq hz797
                      refine w_virt (ci := 8) (i := 81) (npc := 153) (a := [cr 81, ai_i 3200, ai_i (3 + w), ai_i z792]) (rest := []) rfl rfl (hI793.pl (by decide)) (hI793.T (by decide) rfl) rfl rfl rfl rfl (ct_m_put (sl := sl) (x := x) (d := d + 4) (3200) (3 + w) (z792) hI793 (by omega) (by omega) (by omega)) (Or.inl rfl) (fun k9 v9 T9 E799 nx9 kc9 ks9 hq798 hk9 hs9 => ?_)
                      obtain ⟨rfl, rfl, rfl, hI801, hG802, hz800⟩ := hq798
                      obtain rfl : kc = kc9 := by omega
                      obtain rfl : ks = ks9 := by omega
                      have hF803 := cm_fr.trans hF795 hG802 (by first | (simp; done) | (simp; omega) | (intro i k h; (try simp only at h); (try simp only); omega))
                      have hz804 : E799 81 1 = ai_i z54 := (hG802 81 1 (by simp)).trans hz796
                      have ghz804 := gv_eq hz804
                      have hz805 : E799 81 21 = ai_i z797 := (hG802 81 21 (by simp)).trans hz797
                      have ghz805 := gv_eq hz805
                      refine Or.inl ⟨rfl, ?_⟩
                      refine w_iinc (i := 1) (n := 1) (npc := 156) (loc' := [cr 81, ai_i (w + 1), ai_i (z655 - 1), ai_i 1]) rfl rfl (by omega) rfl ?_
                      refine w_goto (pt := 74) rfl ?_
                      exact ih74 (w + 1) (ai_i (z655 - 1)) (ai_i 1) E799 (by omega) hI801 hF803 (by
      obtain ⟨d1, d2, d3, d4⟩ := hv74
      have m0 := hz792
      have m1 := hz800
      have y0_0 := gv_fr hG794 (i := 81) (k := 1) (by first | (simp; done) | omega | (simp only; omega) | (simp; omega))
      have y0_1 := gv_fr hG794 (i := 82) (k := (166 * 3200 + 0 : Int).toNat) (by first | (simp; done) | omega | (simp only; omega) | (simp; omega))
      have y0_2 := gv_fr hG794 (i := 82) (k := (166 * 3200 + 1 : Int).toNat) (by first | (simp; done) | omega | (simp only; omega) | (simp; omega))
      have y0_3 := gv_fr hG794 (i := 82) (k := (166 * 3200 + 2 : Int).toNat) (by first | (simp; done) | omega | (simp only; omega) | (simp; omega))
      have y1_0 := gv_fr hG802 (i := 81) (k := 1) (by first | (simp; done) | omega | (simp only; omega) | (simp; omega))
      have y1_1 := gv_fr hG802 (i := 82) (k := (166 * 3200 + 0 : Int).toNat) (by first | (simp; done) | omega | (simp only; omega) | (simp; omega))
      have y1_2 := gv_fr hG802 (i := 82) (k := (166 * 3200 + 1 : Int).toNat) (by first | (simp; done) | omega | (simp only; omega) | (simp; omega))
      have y1_3 := gv_fr hG802 (i := 82) (k := (166 * 3200 + 2 : Int).toNat) (by first | (simp; done) | omega | (simp only; omega) | (simp; omega))
      have v0_0 := gv_fr hG802 (i := 81) (k := 21) (by first | (simp; done) | omega | (simp only; omega) | (simp; omega))
      refine ⟨by omega, by omega, by omega, fun k k0 k1 => ?_⟩
      rw [← gv_fr hG802 (by first | omega | (simp only; omega)), ← gv_fr hG794 (by first | omega | (simp only; omega))]; exact d4 k k0 k1)
                  · replace hc771 : ¬ ((1 : Int) = 0) := hc771
                    refine w_iload (i := 2) (npc := 130) rfl rfl ?_
                    refine w_goto (pt := 147) rfl ?_
                    refine w_virt (ci := 8) (i := 81) (npc := 150) (a := [cr 81, ai_i 0, ai_i (z655 - 1)]) (rest := [ai_i (3 + w), ai_i 3200, cr 81]) rfl rfl (hI74.pl (by decide)) (hI74.T (by decide) rfl) rfl rfl rfl rfl (ct_m_readByte (sl := sl) (x := x) (d := d + 3) (0) (z655 - 1) hI74) (Or.inl rfl) (fun k9 v9 T9 E808 nx9 kc9 ks9 hq807 hk9 hs9 => ?_)
                    obtain ⟨rfl, rfl, rfl, hI810, hG811, z809, rfl, hz809⟩ := hq807
                    obtain rfl : kc = kc9 := by omega
                    obtain rfl : ks = ks9 := by omega
                    have hF812 := cm_fr.trans hF74 hG811 (by first | (simp; done) | (simp; omega) | (intro i k h; (try simp only at h); (try simp only); omega))
                    have hz813 : E808 81 1 = ai_i z54 := (hG811 81 1 (by simp)).trans hz54
                    have ghz813 := gv_eq hz813
                    refine Or.inr (Or.inl ⟨rfl, ?_⟩)
                    obtain ⟨z814, hz814, hz814a, hz814b⟩ := hI810.int 81 21 (lo := 0) (hi := 3) (by decide) (by decide) rfl
                    have ghz814 := gv_eq hz814
                    refine w_virt (ci := 8) (i := 81) (npc := 153) (a := [cr 81, ai_i 3200, ai_i (3 + w), ai_i z809]) (rest := []) rfl rfl (hI810.pl (by decide)) (hI810.T (by decide) rfl) rfl rfl rfl rfl (ct_m_put (sl := sl) (x := x) (d := d + 4) (3200) (3 + w) (z809) hI810 (by omega) (by omega) (by omega)) (Or.inl rfl) (fun k9 v9 T9 E816 nx9 kc9 ks9 hq815 hk9 hs9 => ?_)
                    obtain ⟨rfl, rfl, rfl, hI818, hG819, hz817⟩ := hq815
                    obtain rfl : kc = kc9 := by omega
                    obtain rfl : ks = ks9 := by omega
                    have hF820 := cm_fr.trans hF812 hG819 (by first | (simp; done) | (simp; omega) | (intro i k h; (try simp only at h); (try simp only); omega))
                    have hz821 : E816 81 1 = ai_i z54 := (hG819 81 1 (by simp)).trans hz813
                    have ghz821 := gv_eq hz821
                    have hz822 : E816 81 21 = ai_i z814 := (hG819 81 21 (by simp)).trans hz814
                    have ghz822 := gv_eq hz822
                    refine Or.inl ⟨rfl, ?_⟩
                    refine w_iinc (i := 1) (n := 1) (npc := 156) (loc' := [cr 81, ai_i (w + 1), ai_i (z655 - 1), ai_i 1]) rfl rfl (by omega) rfl ?_
                    refine w_goto (pt := 74) rfl ?_
                    exact ih74 (w + 1) (ai_i (z655 - 1)) (ai_i 1) E816 (by omega) hI818 hF820 (by
      obtain ⟨d1, d2, d3, d4⟩ := hv74
      have m0 := hz809
      have m1 := hz817
      have y0_0 := gv_fr hG811 (i := 81) (k := 1) (by first | (simp; done) | omega | (simp only; omega) | (simp; omega))
      have y0_1 := gv_fr hG811 (i := 82) (k := (166 * 3200 + 0 : Int).toNat) (by first | (simp; done) | omega | (simp only; omega) | (simp; omega))
      have y0_2 := gv_fr hG811 (i := 82) (k := (166 * 3200 + 1 : Int).toNat) (by first | (simp; done) | omega | (simp only; omega) | (simp; omega))
      have y0_3 := gv_fr hG811 (i := 82) (k := (166 * 3200 + 2 : Int).toNat) (by first | (simp; done) | omega | (simp only; omega) | (simp; omega))
      have y1_0 := gv_fr hG819 (i := 81) (k := 1) (by first | (simp; done) | omega | (simp only; omega) | (simp; omega))
      have y1_1 := gv_fr hG819 (i := 82) (k := (166 * 3200 + 0 : Int).toNat) (by first | (simp; done) | omega | (simp only; omega) | (simp; omega))
      have y1_2 := gv_fr hG819 (i := 82) (k := (166 * 3200 + 1 : Int).toNat) (by first | (simp; done) | omega | (simp only; omega) | (simp; omega))
      have y1_3 := gv_fr hG819 (i := 82) (k := (166 * 3200 + 2 : Int).toNat) (by first | (simp; done) | omega | (simp only; omega) | (simp; omega))
      have v0_0 := gv_fr hG819 (i := 81) (k := 21) (by first | (simp; done) | omega | (simp only; omega) | (simp; omega))
      refine ⟨by omega, by omega, by omega, fun k k0 k1 => ?_⟩
      rw [← gv_fr hG819 (by first | omega | (simp only; omega)), ← gv_fr hG811 (by first | omega | (simp only; omega))]; exact d4 k k0 k1)
                · replace hc770 : ¬ ((1 : Int) = 0) := hc770
                  refine w_iload (i := 2) (npc := 121) rfl rfl ?_
                  refine w_goto (pt := 125) rfl ?_
                  refine w_iload (i := 3) (npc := 126) rfl rfl ?_
                  refine w_if (c := .eq) (npc := 129) (pt := 133) rfl (fun hc824 => ?_) (fun hc824 => ?_)
                  · replace hc824 : (1 : Int) = 0 := hc824
                    refine w_iload (i := 1) (npc := 134) rfl rfl ?_
                    refine w_aload (i := 0) (npc := 135) rfl rfl rfl ?_
                    refine w_getf (i := 81) (ci := 8) (k := 1) (npc := 138) rfl (hI74.pl (by decide)) (hI74.T (by decide) rfl) (by decide) hz54 ?_
                    refine w_icmp (c := .ge) (npc := 141) (pt := 146) rfl (fun hc825 => ?_) (fun hc825 => ?_)
                    · replace hc825 : z54 ≤ w := hc825
                      refine w_const (n := 0) (npc := 147) rfl ?_
                      refine w_virt (ci := 8) (i := 81) (npc := 150) (a := [cr 81, ai_i (z655 - 1), ai_i 0]) (rest := [ai_i (3 + w), ai_i 3200, cr 81]) rfl rfl (hI74.pl (by decide)) (hI74.T (by decide) rfl) rfl rfl rfl rfl (ct_m_readByte (sl := sl) (x := x) (d := d + 3) (z655 - 1) (0) hI74) (Or.inl rfl) (fun k9 v9 T9 E827 nx9 kc9 ks9 hq826 hk9 hs9 => ?_)
                      obtain ⟨rfl, rfl, rfl, hI829, hG830, z828, rfl, hz828⟩ := hq826
                      obtain rfl : kc = kc9 := by omega
                      obtain rfl : ks = ks9 := by omega
                      have hF831 := cm_fr.trans hF74 hG830 (by first | (simp; done) | (simp; omega) | (intro i k h; (try simp only at h); (try simp only); omega))
                      have hz832 : E827 81 1 = ai_i z54 := (hG830 81 1 (by simp)).trans hz54
                      have ghz832 := gv_eq hz832
                      refine Or.inr (Or.inl ⟨rfl, ?_⟩)
                      obtain ⟨z833, hz833, hz833a, hz833b⟩ := hI829.int 81 21 (lo := 0) (hi := 3) (by decide) (by decide) rfl
                      have ghz833 := gv_eq hz833
                      refine w_virt (ci := 8) (i := 81) (npc := 153) (a := [cr 81, ai_i 3200, ai_i (3 + w), ai_i z828]) (rest := []) rfl rfl (hI829.pl (by decide)) (hI829.T (by decide) rfl) rfl rfl rfl rfl (ct_m_put (sl := sl) (x := x) (d := d + 4) (3200) (3 + w) (z828) hI829 (by omega) (by omega) (by omega)) (Or.inl rfl) (fun k9 v9 T9 E835 nx9 kc9 ks9 hq834 hk9 hs9 => ?_)
                      obtain ⟨rfl, rfl, rfl, hI837, hG838, hz836⟩ := hq834
                      obtain rfl : kc = kc9 := by omega
                      obtain rfl : ks = ks9 := by omega
                      have hF839 := cm_fr.trans hF831 hG838 (by first | (simp; done) | (simp; omega) | (intro i k h; (try simp only at h); (try simp only); omega))
                      have hz840 : E835 81 1 = ai_i z54 := (hG838 81 1 (by simp)).trans hz832
                      have ghz840 := gv_eq hz840
                      have hz841 : E835 81 21 = ai_i z833 := (hG838 81 21 (by simp)).trans hz833
                      have ghz841 := gv_eq hz841
                      refine Or.inl ⟨rfl, ?_⟩
                      refine w_iinc (i := 1) (n := 1) (npc := 156) (loc' := [cr 81, ai_i (w + 1), ai_i (z655 - 1), ai_i 1]) rfl rfl (by omega) rfl ?_
                      refine w_goto (pt := 74) rfl ?_
                      exact ih74 (w + 1) (ai_i (z655 - 1)) (ai_i 1) E835 (by omega) hI837 hF839 (by
      obtain ⟨d1, d2, d3, d4⟩ := hv74
      have m0 := hz828
      have m1 := hz836
      have y0_0 := gv_fr hG830 (i := 81) (k := 1) (by first | (simp; done) | omega | (simp only; omega) | (simp; omega))
      have y0_1 := gv_fr hG830 (i := 82) (k := (166 * 3200 + 0 : Int).toNat) (by first | (simp; done) | omega | (simp only; omega) | (simp; omega))
      have y0_2 := gv_fr hG830 (i := 82) (k := (166 * 3200 + 1 : Int).toNat) (by first | (simp; done) | omega | (simp only; omega) | (simp; omega))
      have y0_3 := gv_fr hG830 (i := 82) (k := (166 * 3200 + 2 : Int).toNat) (by first | (simp; done) | omega | (simp only; omega) | (simp; omega))
      have y1_0 := gv_fr hG838 (i := 81) (k := 1) (by first | (simp; done) | omega | (simp only; omega) | (simp; omega))
      have y1_1 := gv_fr hG838 (i := 82) (k := (166 * 3200 + 0 : Int).toNat) (by first | (simp; done) | omega | (simp only; omega) | (simp; omega))
      have y1_2 := gv_fr hG838 (i := 82) (k := (166 * 3200 + 1 : Int).toNat) (by first | (simp; done) | omega | (simp only; omega) | (simp; omega))
      have y1_3 := gv_fr hG838 (i := 82) (k := (166 * 3200 + 2 : Int).toNat) (by first | (simp; done) | omega | (simp only; omega) | (simp; omega))
      have v0_0 := gv_fr hG838 (i := 81) (k := 21) (by first | (simp; done) | omega | (simp only; omega) | (simp; omega))
      refine ⟨by omega, by omega, by omega, fun k k0 k1 => ?_⟩
      rw [← gv_fr hG838 (by first | omega | (simp only; omega)), ← gv_fr hG830 (by first | omega | (simp only; omega))]; exact d4 k k0 k1)
                    · replace hc825 : ¬ (z54 ≤ w) := hc825
                      refine w_const (n := 60) (npc := 143) rfl ?_
                      refine w_goto (pt := 147) rfl ?_
                      refine w_virt (ci := 8) (i := 81) (npc := 150) (a := [cr 81, ai_i (z655 - 1), ai_i 60]) (rest := [ai_i (3 + w), ai_i 3200, cr 81]) rfl rfl (hI74.pl (by decide)) (hI74.T (by decide) rfl) rfl rfl rfl rfl (ct_m_readByte (sl := sl) (x := x) (d := d + 3) (z655 - 1) (60) hI74) (Or.inl rfl) (fun k9 v9 T9 E844 nx9 kc9 ks9 hq843 hk9 hs9 => ?_)
                      obtain ⟨rfl, rfl, rfl, hI846, hG847, z845, rfl, hz845⟩ := hq843
                      obtain rfl : kc = kc9 := by omega
                      obtain rfl : ks = ks9 := by omega
                      have hF848 := cm_fr.trans hF74 hG847 (by first | (simp; done) | (simp; omega) | (intro i k h; (try simp only at h); (try simp only); omega))
                      have hz849 : E844 81 1 = ai_i z54 := (hG847 81 1 (by simp)).trans hz54
                      have ghz849 := gv_eq hz849
                      refine Or.inr (Or.inl ⟨rfl, ?_⟩)
                      obtain ⟨z850, hz850, hz850a, hz850b⟩ := hI846.int 81 21 (lo := 0) (hi := 3) (by decide) (by decide) rfl
                      have ghz850 := gv_eq hz850
                      refine w_virt (ci := 8) (i := 81) (npc := 153) (a := [cr 81, ai_i 3200, ai_i (3 + w), ai_i z845]) (rest := []) rfl rfl (hI846.pl (by decide)) (hI846.T (by decide) rfl) rfl rfl rfl rfl (ct_m_put (sl := sl) (x := x) (d := d + 4) (3200) (3 + w) (z845) hI846 (by omega) (by omega) (by omega)) (Or.inl rfl) (fun k9 v9 T9 E852 nx9 kc9 ks9 hq851 hk9 hs9 => ?_)
                      obtain ⟨rfl, rfl, rfl, hI854, hG855, hz853⟩ := hq851
                      obtain rfl : kc = kc9 := by omega
                      obtain rfl : ks = ks9 := by omega
                      have hF856 := cm_fr.trans hF848 hG855 (by first | (simp; done) | (simp; omega) | (intro i k h; (try simp only at h); (try simp only); omega))
                      have hz857 : E852 81 1 = ai_i z54 := (hG855 81 1 (by simp)).trans hz849
                      have ghz857 := gv_eq hz857
                      have hz858 : E852 81 21 = ai_i z850 := (hG855 81 21 (by simp)).trans hz850
                      have ghz858 := gv_eq hz858
                      refine Or.inl ⟨rfl, ?_⟩
                      refine w_iinc (i := 1) (n := 1) (npc := 156) (loc' := [cr 81, ai_i (w + 1), ai_i (z655 - 1), ai_i 1]) rfl rfl (by omega) rfl ?_
                      refine w_goto (pt := 74) rfl ?_
                      exact ih74 (w + 1) (ai_i (z655 - 1)) (ai_i 1) E852 (by omega) hI854 hF856 (by
      obtain ⟨d1, d2, d3, d4⟩ := hv74
      have m0 := hz845
      have m1 := hz853
      have y0_0 := gv_fr hG847 (i := 81) (k := 1) (by first | (simp; done) | omega | (simp only; omega) | (simp; omega))
      have y0_1 := gv_fr hG847 (i := 82) (k := (166 * 3200 + 0 : Int).toNat) (by first | (simp; done) | omega | (simp only; omega) | (simp; omega))
      have y0_2 := gv_fr hG847 (i := 82) (k := (166 * 3200 + 1 : Int).toNat) (by first | (simp; done) | omega | (simp only; omega) | (simp; omega))
      have y0_3 := gv_fr hG847 (i := 82) (k := (166 * 3200 + 2 : Int).toNat) (by first | (simp; done) | omega | (simp only; omega) | (simp; omega))
      have y1_0 := gv_fr hG855 (i := 81) (k := 1) (by first | (simp; done) | omega | (simp only; omega) | (simp; omega))
      have y1_1 := gv_fr hG855 (i := 82) (k := (166 * 3200 + 0 : Int).toNat) (by first | (simp; done) | omega | (simp only; omega) | (simp; omega))
      have y1_2 := gv_fr hG855 (i := 82) (k := (166 * 3200 + 1 : Int).toNat) (by first | (simp; done) | omega | (simp only; omega) | (simp; omega))
      have y1_3 := gv_fr hG855 (i := 82) (k := (166 * 3200 + 2 : Int).toNat) (by first | (simp; done) | omega | (simp only; omega) | (simp; omega))
      have v0_0 := gv_fr hG855 (i := 81) (k := 21) (by first | (simp; done) | omega | (simp only; omega) | (simp; omega))
      refine ⟨by omega, by omega, by omega, fun k k0 k1 => ?_⟩
      rw [← gv_fr hG855 (by first | omega | (simp only; omega)), ← gv_fr hG847 (by first | omega | (simp only; omega))]; exact d4 k k0 k1)
                  · replace hc824 : ¬ ((1 : Int) = 0) := hc824
                    refine w_iload (i := 2) (npc := 130) rfl rfl ?_
                    refine w_goto (pt := 147) rfl ?_
                    refine w_virt (ci := 8) (i := 81) (npc := 150) (a := [cr 81, ai_i (z655 - 1), ai_i (z655 - 1)]) (rest := [ai_i (3 + w), ai_i 3200, cr 81]) rfl rfl (hI74.pl (by decide)) (hI74.T (by decide) rfl) rfl rfl rfl rfl (ct_m_readByte (sl := sl) (x := x) (d := d + 3) (z655 - 1) (z655 - 1) hI74) (Or.inl rfl) (fun k9 v9 T9 E861 nx9 kc9 ks9 hq860 hk9 hs9 => ?_)
                    obtain ⟨rfl, rfl, rfl, hI863, hG864, z862, rfl, hz862⟩ := hq860
                    obtain rfl : kc = kc9 := by omega
                    obtain rfl : ks = ks9 := by omega
                    have hF865 := cm_fr.trans hF74 hG864 (by first | (simp; done) | (simp; omega) | (intro i k h; (try simp only at h); (try simp only); omega))
                    have hz866 : E861 81 1 = ai_i z54 := (hG864 81 1 (by simp)).trans hz54
                    have ghz866 := gv_eq hz866
                    refine Or.inr (Or.inl ⟨rfl, ?_⟩)
                    obtain ⟨z867, hz867, hz867a, hz867b⟩ := hI863.int 81 21 (lo := 0) (hi := 3) (by decide) (by decide) rfl
                    have ghz867 := gv_eq hz867
                    refine w_virt (ci := 8) (i := 81) (npc := 153) (a := [cr 81, ai_i 3200, ai_i (3 + w), ai_i z862]) (rest := []) rfl rfl (hI863.pl (by decide)) (hI863.T (by decide) rfl) rfl rfl rfl rfl (ct_m_put (sl := sl) (x := x) (d := d + 4) (3200) (3 + w) (z862) hI863 (by omega) (by omega) (by omega)) (Or.inl rfl) (fun k9 v9 T9 E869 nx9 kc9 ks9 hq868 hk9 hs9 => ?_)
                    obtain ⟨rfl, rfl, rfl, hI871, hG872, hz870⟩ := hq868
                    obtain rfl : kc = kc9 := by omega
                    obtain rfl : ks = ks9 := by omega
                    have hF873 := cm_fr.trans hF865 hG872 (by first | (simp; done) | (simp; omega) | (intro i k h; (try simp only at h); (try simp only); omega))
                    have hz874 : E869 81 1 = ai_i z54 := (hG872 81 1 (by simp)).trans hz866
                    have ghz874 := gv_eq hz874
                    have hz875 : E869 81 21 = ai_i z867 := (hG872 81 21 (by simp)).trans hz867
                    have ghz875 := gv_eq hz875
                    refine Or.inl ⟨rfl, ?_⟩
                    refine w_iinc (i := 1) (n := 1) (npc := 156) (loc' := [cr 81, ai_i (w + 1), ai_i (z655 - 1), ai_i 1]) rfl rfl (by omega) rfl ?_
                    refine w_goto (pt := 74) rfl ?_
                    exact ih74 (w + 1) (ai_i (z655 - 1)) (ai_i 1) E869 (by omega) hI871 hF873 (by
      obtain ⟨d1, d2, d3, d4⟩ := hv74
      have m0 := hz862
      have m1 := hz870
      have y0_0 := gv_fr hG864 (i := 81) (k := 1) (by first | (simp; done) | omega | (simp only; omega) | (simp; omega))
      have y0_1 := gv_fr hG864 (i := 82) (k := (166 * 3200 + 0 : Int).toNat) (by first | (simp; done) | omega | (simp only; omega) | (simp; omega))
      have y0_2 := gv_fr hG864 (i := 82) (k := (166 * 3200 + 1 : Int).toNat) (by first | (simp; done) | omega | (simp only; omega) | (simp; omega))
      have y0_3 := gv_fr hG864 (i := 82) (k := (166 * 3200 + 2 : Int).toNat) (by first | (simp; done) | omega | (simp only; omega) | (simp; omega))
      have y1_0 := gv_fr hG872 (i := 81) (k := 1) (by first | (simp; done) | omega | (simp only; omega) | (simp; omega))
      have y1_1 := gv_fr hG872 (i := 82) (k := (166 * 3200 + 0 : Int).toNat) (by first | (simp; done) | omega | (simp only; omega) | (simp; omega))
      have y1_2 := gv_fr hG872 (i := 82) (k := (166 * 3200 + 1 : Int).toNat) (by first | (simp; done) | omega | (simp only; omega) | (simp; omega))
      have y1_3 := gv_fr hG872 (i := 82) (k := (166 * 3200 + 2 : Int).toNat) (by first | (simp; done) | omega | (simp only; omega) | (simp; omega))
      have v0_0 := gv_fr hG872 (i := 81) (k := 21) (by first | (simp; done) | omega | (simp only; omega) | (simp; omega))
      refine ⟨by omega, by omega, by omega, fun k k0 k1 => ?_⟩
      rw [← gv_fr hG872 (by first | omega | (simp only; omega)), ← gv_fr hG864 (by first | omega | (simp only; omega))]; exact d4 k k0 k1)
        exact loop74 _ (0) (ai_un) (ai_un) E46 (Nat.lt_succ_self _) hI48 hF50 (by
      have m0 := hz6
      have m1 := hz14
      have m2 := hz23
      have m3 := hz31
      have m4 := hz39
      have m5 := hz47
      have y0_0 := gv_fr hG8 (i := 81) (k := 1) (by first | (simp; done) | omega | (simp only; omega) | (simp; omega))
      have y1_0 := gv_fr hG16 (i := 81) (k := 1) (by first | (simp; done) | omega | (simp only; omega) | (simp; omega))
      have y2_0 := gv_fr hG25 (i := 81) (k := 1) (by first | (simp; done) | omega | (simp only; omega) | (simp; omega))
      have y3_0 := gv_fr hG33 (i := 81) (k := 1) (by first | (simp; done) | omega | (simp only; omega) | (simp; omega))
      have y4_0 := gv_fr hG41 (i := 81) (k := 1) (by first | (simp; done) | omega | (simp only; omega) | (simp; omega))
      have y5_0 := gv_fr hG49 (i := 81) (k := 1) (by first | (simp; done) | omega | (simp only; omega) | (simp; omega))
      have v0_0 := gv_fr hG16 (i := 81) (k := 21) (by first | (simp; done) | omega | (simp only; omega) | (simp; omega))
      have v1_0 := gv_fr hG33 (i := 81) (k := 21) (by first | (simp; done) | omega | (simp only; omega) | (simp; omega))
      have v2_0 := gv_fr hG49 (i := 81) (k := 21) (by first | (simp; done) | omega | (simp only; omega) | (simp; omega))
      have a0_0 := gv_fr hG25 (i := 82) (k := (166 * 3200 + 0 : Int).toNat) (by first | (simp; done) | omega | (simp only; omega) | (simp; omega))
      have a1_0 := gv_fr hG33 (i := 82) (k := (166 * 3200 + 0 : Int).toNat) (by first | (simp; done) | omega | (simp only; omega) | (simp; omega))
      have a2_0 := gv_fr hG41 (i := 82) (k := (166 * 3200 + 0 : Int).toNat) (by first | (simp; done) | omega | (simp only; omega) | (simp; omega))
      have a3_0 := gv_fr hG49 (i := 82) (k := (166 * 3200 + 0 : Int).toNat) (by first | (simp; done) | omega | (simp only; omega) | (simp; omega))
      have b0_0 := gv_fr hG41 (i := 82) (k := (166 * 3200 + 1 : Int).toNat) (by first | (simp; done) | omega | (simp only; omega) | (simp; omega))
      have b1_0 := gv_fr hG49 (i := 82) (k := (166 * 3200 + 1 : Int).toNat) (by first | (simp; done) | omega | (simp only; omega) | (simp; omega))
      refine ⟨by omega, by omega, by omega, fun k k0 k1 => ?_⟩
      rw [← gv_fr hG49 (by first | omega | (simp only; omega)), ← gv_fr hG41 (by first | omega | (simp only; omega)), ← gv_fr hG33 (by first | omega | (simp only; omega)), ← gv_fr hG25 (by first | omega | (simp only; omega)), ← gv_fr hG16 (by first | omega | (simp only; omega)), ← gv_fr hG8 (by first | omega | (simp only; omega))]; exact hv2.2.2 k (by omega) (by omega))
      · replace hc1 : ¬ ((166 : Int) ≤ i) := hc1
        refine w_aload (i := 0) (npc := 10) rfl rfl rfl ?_
        refine w_const (n := 3200) (npc := 13) rfl ?_
        refine w_iload (i := 1) (npc := 14) rfl rfl ?_
        refine w_const (n := 0) (npc := 15) rfl ?_
        obtain ⟨z877, hz877, hz877a, hz877b⟩ := hI2.int 81 21 (lo := 0) (hi := 3) (by decide) (by decide) rfl
        have ghz877 := gv_eq hz877
        obtain ⟨z878, hz878, hz878a, hz878b⟩ := hI2.int 81 1 (lo := 1) (hi := 5) (by decide) (by decide) rfl
        have ghz878 := gv_eq hz878
        have g0hz878 : gv E 81 1 = z878 := (gv_fr hF2 (by simp)).trans ghz878
        refine w_virt (ci := 8) (i := 81) (npc := 18) (a := [cr 81, ai_i 3200, ai_i i, ai_i 0]) (rest := []) rfl rfl (hI2.pl (by decide)) (hI2.T (by decide) rfl) rfl rfl rfl rfl (ct_m_put (sl := sl) (x := x) (d := d + 4) (3200) (i) (0) hI2 (by omega) (by omega) (by omega)) (Or.inl rfl) (fun k9 v9 T9 E880 nx9 kc9 ks9 hq879 hk9 hs9 => ?_)
        obtain ⟨rfl, rfl, rfl, hI882, hG883, hz881⟩ := hq879
        obtain rfl : kc = kc9 := by omega
        obtain rfl : ks = ks9 := by omega
        have hF884 := cm_fr.trans hF2 hG883 (by first | (simp; done) | (simp; omega) | (intro i k h; (try simp only at h); (try simp only); omega))
        have hz885 : E880 81 21 = ai_i z877 := (hG883 81 21 (by simp)).trans hz877
        have ghz885 := gv_eq hz885
        have hz886 : E880 81 1 = ai_i z878 := (hG883 81 1 (by simp)).trans hz878
        have ghz886 := gv_eq hz886
        refine Or.inl ⟨rfl, ?_⟩
        refine w_iinc (i := 1) (n := 1) (npc := 21) (loc' := [cr 81, ai_i (i + 1), ai_un, ai_un]) rfl rfl (by omega) rfl ?_
        refine w_goto (pt := 2) rfl ?_
        exact ih2 (i + 1) E880 (by omega) hI882 hF884 (⟨by omega, by omega, fun k k0 k1 => by
      by_cases hk : k = i
      · rw [hk]; exact hz881
      · rw [← gv_fr hG883 (by first | omega | (simp only; omega))]; exact hv2.2.2 k k0 (by omega)⟩)
  exact loop2 _ (0) E (Nat.lt_succ_self _) hI hF (⟨by omega, by omega, fun k k0 k1 => by omega⟩)
set_option maxRecDepth 16384 in
theorem ct_m_hear {sl : Int × Int} {x : ai_E} {d : Nat} {T : cm_T} {E : cm_E} {nx : Nat} (p n : Int) (hI : cs_I T E nx) (hR : rl E) (hp0 : -2147483648 ≤ p ∧ p ≤ 2147483647) (hp1 : -2147483648 ≤ n ∧ n ≤ 2147483647) : cm_ct (ai_ev sl (d + 8)) x 164 [cr 81, ai_i p, ai_i n] T E nx 0 0 (fun rk rv T' E' nx' => rk = 1 ∧ T = T' ∧ nx = nx' ∧ cs_I T E' nx ∧ cm_fr (fun i k => (i = 81 ∧ (k = 0 ∨ k = 17 ∨ k = 18 ∨ k = 19 ∨ k = 20 ∨ k = 21 ∨ k = 22)) ∨ i = 82 ∨ i = 83 ∨ i = 84 ∨ i = 85) E E' ∧ rl E' ∧ ∃ z : Int, rv = ai_i z ∧ ((¬ (0 ≤ p ∧ p < gv E 81 1) → gv E' 81 17 = gv E 81 17) ∧ ((0 ≤ p ∧ p < gv E 81 1) → ¬ (0 ≤ n ∧ n ≤ gv E 81 17) → gv E' 81 17 = gv E 81 17) ∧ ((0 ≤ p ∧ p < gv E 81 1) → 0 ≤ n ∧ n ≤ gv E 81 17 → gv E' 81 17 = 0))) := by
  refine cm_body (M := ai_m164) rfl rfl (fun kc ks => ?_)
  show cm_wp (ai_find ai_c164 sl) (ai_ev sl (d + 7)) x (kc + 0) (ks + 0) _ 0 [cr 81, ai_i p, ai_i n, ai_un] [] T E nx kc ks
  have hF : cm_fr (fun i k => (i = 81 ∧ (k = 0 ∨ k = 17 ∨ k = 18 ∨ k = 19 ∨ k = 20 ∨ k = 21 ∨ k = 22)) ∨ i = 82 ∨ i = 83 ∨ i = 84 ∨ i = 85) E E := fun _ _ _ => rfl
  obtain ⟨z1, hz1, hz1a, hz1b⟩ := hI.int 81 17 (lo := 0) (hi := 400) (by decide) (by decide) rfl
  have ghz1 := gv_eq hz1
  obtain ⟨z2, hz2, hz2a, hz2b⟩ := hI.int 81 1 (lo := 1) (hi := 5) (by decide) (by decide) rfl
  have ghz2 := gv_eq hz2
  refine w_aload (i := 0) (npc := 1) rfl rfl rfl ?_
  refine w_const (n := 0) (npc := 2) rfl ?_
  refine w_putf (i := 81) (ci := 8) (k := 0) (t := 0) (npc := 5) rfl (hI.pl (by decide)) (hI.T (by decide) rfl) (by decide) cm_fit0 ?_
  have hI4 := hI.puti (i := 81) (k := 0) (z := 0) (lo := 0) (hi := 2) (by decide) rfl (by omega)
  have hF6 := cm_fr.up (i := 81) (k := 0) (v := ai_i 0) hF (by first | (simp; done) | (simp; omega) | (intro i k h; (try simp only at h); (try simp only); omega))
  have hR7 := rl.wr (i := 81) (k := 0) (v := ai_i 0) hR (by simp)
  generalize hE5 : cm_up E 81 0 (ai_i 0) = E3 at hI4 hF6 hR7  ⊢
  have hz8 : E3 81 17 = ai_i z1 := by rw [← hE5, cm_up_ne _ _ (by decide)]; exact hz1
  have ghz8 := gv_eq hz8
  have hz9 : E3 81 1 = ai_i z2 := by rw [← hE5, cm_up_ne _ _ (by decide)]; exact hz2
  have ghz9 := gv_eq hz9
  have hz10 : E3 81 0 = ai_i 0 := by rw [← hE5, cm_up_eq]
  have ghz10 := gv_eq hz10
  refine w_aload (i := 0) (npc := 6) rfl rfl rfl ?_
  refine w_iload (i := 1) (npc := 7) rfl rfl ?_
  refine w_virt (ci := 8) (i := 81) (npc := 10) (a := [cr 81, ai_i p]) (rest := []) rfl rfl (hI4.pl (by decide)) (hI4.T (by decide) rfl) rfl rfl rfl rfl (ct_m_isWriter (sl := sl) (x := x) (d := d + 5) (p) hI4) (Or.inl rfl) (fun k9 v9 T9 E12 nx9 kc9 ks9 hq11 hk9 hs9 => ?_)
  obtain ⟨rfl, rfl, rfl, rfl, z13, rfl, hz13⟩ := hq11
  obtain rfl : kc = kc9 := by omega
  obtain rfl : ks = ks9 := by omega
  refine Or.inr (Or.inl ⟨rfl, ?_⟩)
  have hl14 := gv_fr hF6 (i := 81) (k := 1) (by simp)
  refine w_if (c := .ne) (npc := 13) (pt := 19) rfl (fun hc15 => ?_) (fun hc15 => ?_)
  · replace hc15 : z13 ≠ (0 : Int) := hc15
    refine w_iload (i := 2) (npc := 20) rfl rfl ?_
    refine w_if (c := .lt) (npc := 23) (pt := 31) rfl (fun hc16 => ?_) (fun hc16 => ?_)
    · replace hc16 : n < (0 : Int) := hc16
      refine w_aload (i := 0) (npc := 32) rfl rfl rfl ?_
      refine w_const (n := 2) (npc := 33) rfl ?_
      refine w_virt (ci := 8) (i := 81) (npc := 36) (a := [cr 81, ai_i 2]) (rest := []) rfl rfl (hI4.pl (by decide)) (hI4.T (by decide) rfl) rfl rfl rfl rfl (ct_m_fail (sl := sl) (x := x) (d := d + 6) (2) hI4 (by omega)) (Or.inl rfl) (fun k9 v9 T9 E18 nx9 kc9 ks9 hq17 hk9 hs9 => ?_)
      obtain ⟨rfl, rfl, rfl, hI20, hG21, z19, rfl, hz19⟩ := hq17
      obtain rfl : kc = kc9 := by omega
      obtain rfl : ks = ks9 := by omega
      have hF22 := cm_fr.trans hF6 hG21 (by first | (simp; done) | (simp; omega) | (intro i k h; (try simp only at h); (try simp only); omega))
      have hR23 := rl.fr hR7 hG21 (by intro i k h; (try simp only at h); omega)
      have hz24 : E18 81 17 = ai_i z1 := (hG21 81 17 (by simp)).trans hz8
      have ghz24 := gv_eq hz24
      have hz25 : E18 81 1 = ai_i z2 := (hG21 81 1 (by simp)).trans hz9
      have ghz25 := gv_eq hz25
      refine Or.inr (Or.inl ⟨rfl, ?_⟩)
      exact w_iret rfl (⟨rfl, rfl, rfl, hI20, hF22, hR23, z19, rfl, by omega⟩) (by omega) (by omega)
    · replace hc16 : ¬ (n < (0 : Int)) := hc16
      refine w_iload (i := 2) (npc := 24) rfl rfl ?_
      refine w_aload (i := 0) (npc := 25) rfl rfl rfl ?_
      refine w_getf (i := 81) (ci := 8) (k := 17) (npc := 28) rfl (hI4.pl (by decide)) (hI4.T (by decide) rfl) (by decide) hz8 ?_
      refine w_icmp (c := .le) (npc := 31) (pt := 37) rfl (fun hc26 => ?_) (fun hc26 => ?_)
      · replace hc26 : n ≤ z1 := hc26
        refine w_aload (i := 0) (npc := 38) rfl rfl rfl ?_
        refine w_const (n := 0) (npc := 39) rfl ?_
        refine w_putf (i := 81) (ci := 8) (k := 17) (t := 0) (npc := 42) rfl (hI4.pl (by decide)) (hI4.T (by decide) rfl) (by decide) cm_fit0 ?_
        have hI28 := hI4.puti (i := 81) (k := 17) (z := 0) (lo := 0) (hi := 400) (by decide) rfl (by omega)
        have hF30 := cm_fr.up (i := 81) (k := 17) (v := ai_i 0) hF6 (by first | (simp; done) | (simp; omega) | (intro i k h; (try simp only at h); (try simp only); omega))
        have hR31 := rl.wr (i := 81) (k := 17) (v := ai_i 0) hR7 (by simp)
        generalize hE29 : cm_up E3 81 17 (ai_i 0) = E27 at hI28 hF30 hR31  ⊢
        have hz32 : E27 81 1 = ai_i z2 := by rw [← hE29, cm_up_ne _ _ (by decide)]; exact hz9
        have ghz32 := gv_eq hz32
        have hz33 : E27 81 0 = ai_i 0 := by rw [← hE29, cm_up_ne _ _ (by decide)]; exact hz10
        have ghz33 := gv_eq hz33
        have hz34 : E27 81 17 = ai_i 0 := by rw [← hE29, cm_up_eq]
        have ghz34 := gv_eq hz34
        refine w_aload (i := 0) (npc := 43) rfl rfl rfl ?_
        refine w_iload (i := 2) (npc := 44) rfl rfl ?_
        refine w_putf (i := 81) (ci := 8) (k := 20) (t := 0) (npc := 47) rfl (hI28.pl (by decide)) (hI28.T (by decide) rfl) (by decide) cm_fit0 ?_
        have hI36 := hI28.puti (i := 81) (k := 20) (z := n) (lo := 0) (hi := 400) (by decide) rfl (by omega)
        have hF38 := cm_fr.up (i := 81) (k := 20) (v := ai_i n) hF30 (by first | (simp; done) | (simp; omega) | (intro i k h; (try simp only at h); (try simp only); omega))
        have hR39 := rl.wr (i := 81) (k := 20) (v := ai_i n) hR31 (by simp)
        generalize hE37 : cm_up E27 81 20 (ai_i n) = E35 at hI36 hF38 hR39  ⊢
        have hz40 : E35 81 1 = ai_i z2 := by rw [← hE37, cm_up_ne _ _ (by decide)]; exact hz32
        have ghz40 := gv_eq hz40
        have hz41 : E35 81 0 = ai_i 0 := by rw [← hE37, cm_up_ne _ _ (by decide)]; exact hz33
        have ghz41 := gv_eq hz41
        have hz42 : E35 81 17 = ai_i 0 := by rw [← hE37, cm_up_ne _ _ (by decide)]; exact hz34
        have ghz42 := gv_eq hz42
        have hz43 : E35 81 20 = ai_i n := by rw [← hE37, cm_up_eq]
        have ghz43 := gv_eq hz43
        refine w_aload (i := 0) (npc := 48) rfl rfl rfl ?_
        refine w_const (n := 0) (npc := 49) rfl ?_
        refine w_putf (i := 81) (ci := 8) (k := 19) (t := 0) (npc := 52) rfl (hI36.pl (by decide)) (hI36.T (by decide) rfl) (by decide) cm_fit0 ?_
        have hI45 := hI36.puti (i := 81) (k := 19) (z := 0) (lo := 0) (hi := 400) (by decide) rfl (by omega)
        have hF47 := cm_fr.up (i := 81) (k := 19) (v := ai_i 0) hF38 (by first | (simp; done) | (simp; omega) | (intro i k h; (try simp only at h); (try simp only); omega))
        have hR48 := rl.wr (i := 81) (k := 19) (v := ai_i 0) hR39 (by simp)
        generalize hE46 : cm_up E35 81 19 (ai_i 0) = E44 at hI45 hF47 hR48  ⊢
        have hz49 : E44 81 1 = ai_i z2 := by rw [← hE46, cm_up_ne _ _ (by decide)]; exact hz40
        have ghz49 := gv_eq hz49
        have hz50 : E44 81 0 = ai_i 0 := by rw [← hE46, cm_up_ne _ _ (by decide)]; exact hz41
        have ghz50 := gv_eq hz50
        have hz51 : E44 81 17 = ai_i 0 := by rw [← hE46, cm_up_ne _ _ (by decide)]; exact hz42
        have ghz51 := gv_eq hz51
        have hz52 : E44 81 20 = ai_i n := by rw [← hE46, cm_up_ne _ _ (by decide)]; exact hz43
        have ghz52 := gv_eq hz52
        have hz53 : E44 81 19 = ai_i 0 := by rw [← hE46, cm_up_eq]
        have ghz53 := gv_eq hz53
        refine w_aload (i := 0) (npc := 53) rfl rfl rfl ?_
        refine w_const (n := 0) (npc := 54) rfl ?_
        refine w_putf (i := 81) (ci := 8) (k := 21) (t := 0) (npc := 57) rfl (hI45.pl (by decide)) (hI45.T (by decide) rfl) (by decide) cm_fit0 ?_
        have hI55 := hI45.puti (i := 81) (k := 21) (z := 0) (lo := 0) (hi := 3) (by decide) rfl (by omega)
        have hF57 := cm_fr.up (i := 81) (k := 21) (v := ai_i 0) hF47 (by first | (simp; done) | (simp; omega) | (intro i k h; (try simp only at h); (try simp only); omega))
        have hR58 := rl.wr (i := 81) (k := 21) (v := ai_i 0) hR48 (by simp)
        generalize hE56 : cm_up E44 81 21 (ai_i 0) = E54 at hI55 hF57 hR58  ⊢
        have hz59 : E54 81 1 = ai_i z2 := by rw [← hE56, cm_up_ne _ _ (by decide)]; exact hz49
        have ghz59 := gv_eq hz59
        have hz60 : E54 81 0 = ai_i 0 := by rw [← hE56, cm_up_ne _ _ (by decide)]; exact hz50
        have ghz60 := gv_eq hz60
        have hz61 : E54 81 17 = ai_i 0 := by rw [← hE56, cm_up_ne _ _ (by decide)]; exact hz51
        have ghz61 := gv_eq hz61
        have hz62 : E54 81 20 = ai_i n := by rw [← hE56, cm_up_ne _ _ (by decide)]; exact hz52
        have ghz62 := gv_eq hz62
        have hz63 : E54 81 19 = ai_i 0 := by rw [← hE56, cm_up_ne _ _ (by decide)]; exact hz53
        have ghz63 := gv_eq hz63
        have hz64 : E54 81 21 = ai_i 0 := by rw [← hE56, cm_up_eq]
        have ghz64 := gv_eq hz64
        refine w_aload (i := 0) (npc := 58) rfl rfl rfl ?_
        refine w_const (n := (-1)) (npc := 59) rfl ?_
        refine w_putf (i := 81) (ci := 8) (k := 18) (t := 0) (npc := 62) rfl (hI55.pl (by decide)) (hI55.T (by decide) rfl) (by decide) cm_fit0 ?_
        have hI66 := hI55.puti (i := 81) (k := 18) (z := (-1)) (lo := (-1)) (hi := 400) (by decide) rfl (by omega)
        have hF68 := cm_fr.up (i := 81) (k := 18) (v := ai_i ((-1))) hF57 (by first | (simp; done) | (simp; omega) | (intro i k h; (try simp only at h); (try simp only); omega))
        have hR69 := rl.wr (i := 81) (k := 18) (v := ai_i ((-1))) hR58 (by simp)
        generalize hE67 : cm_up E54 81 18 (ai_i ((-1))) = E65 at hI66 hF68 hR69  ⊢
        have hz70 : E65 81 1 = ai_i z2 := by rw [← hE67, cm_up_ne _ _ (by decide)]; exact hz59
        have ghz70 := gv_eq hz70
        have hz71 : E65 81 0 = ai_i 0 := by rw [← hE67, cm_up_ne _ _ (by decide)]; exact hz60
        have ghz71 := gv_eq hz71
        have hz72 : E65 81 17 = ai_i 0 := by rw [← hE67, cm_up_ne _ _ (by decide)]; exact hz61
        have ghz72 := gv_eq hz72
        have hz73 : E65 81 20 = ai_i n := by rw [← hE67, cm_up_ne _ _ (by decide)]; exact hz62
        have ghz73 := gv_eq hz73
        have hz74 : E65 81 19 = ai_i 0 := by rw [← hE67, cm_up_ne _ _ (by decide)]; exact hz63
        have ghz74 := gv_eq hz74
        have hz75 : E65 81 21 = ai_i 0 := by rw [← hE67, cm_up_ne _ _ (by decide)]; exact hz64
        have ghz75 := gv_eq hz75
        have hz76 : E65 81 18 = ai_i ((-1)) := by rw [← hE67, cm_up_eq]
        have ghz76 := gv_eq hz76
        refine w_aload (i := 0) (npc := 63) rfl rfl rfl ?_
        refine w_virt (ci := 8) (i := 81) (npc := 66) (a := [cr 81]) (rest := []) rfl rfl (hI66.pl (by decide)) (hI66.T (by decide) rfl) rfl rfl rfl rfl (ct_m_readPacket (sl := sl) (x := x) (d := d + 1)  hI66) (Or.inl rfl) (fun k9 v9 T9 E78 nx9 kc9 ks9 hq77 hk9 hs9 => ?_)
        obtain ⟨rfl, rfl, rfl, hI80, hG81, hz79⟩ := hq77
        obtain rfl : kc = kc9 := by omega
        obtain rfl : ks = ks9 := by omega
        have hF82 := cm_fr.trans hF68 hG81 (by first | (simp; done) | (simp; omega) | (intro i k h; (try simp only at h); (try simp only); omega))
        have hR83 := rl.fr hR69 hG81 (by intro i k h; (try simp only at h); omega)
        have hz84 : E78 81 1 = ai_i z2 := (hG81 81 1 (by simp)).trans hz70
        have ghz84 := gv_eq hz84
        have hz85 : E78 81 0 = ai_i 0 := (hG81 81 0 (by simp)).trans hz71
        have ghz85 := gv_eq hz85
        have hz86 : E78 81 17 = ai_i 0 := (hG81 81 17 (by simp)).trans hz72
        have ghz86 := gv_eq hz86
        have hz87 : E78 81 20 = ai_i n := (hG81 81 20 (by simp)).trans hz73
        have ghz87 := gv_eq hz87
        have hz88 : E78 81 18 = ai_i ((-1)) := (hG81 81 18 (by simp)).trans hz76
        have ghz88 := gv_eq hz88
        refine Or.inl ⟨rfl, ?_⟩
        refine w_aload (i := 0) (npc := 67) rfl rfl rfl ?_
        obtain ⟨z89, hz89, hz89a, hz89b⟩ := hI80.int 81 21 (lo := 0) (hi := 3) (by decide) (by decide) rfl
        have ghz89 := gv_eq hz89
        refine w_getf (i := 81) (ci := 8) (k := 21) (npc := 70) rfl (hI80.pl (by decide)) (hI80.T (by decide) rfl) (by decide) hz89 ?_
        refine w_if (c := .ne) (npc := 73) (pt := 81) rfl (fun hc90 => ?_) (fun hc90 => ?_)
        · replace hc90 : z89 ≠ (0 : Int) := hc90
          refine w_const (n := 10) (npc := 83) rfl ?_
          refine w_aload (i := 0) (npc := 84) rfl rfl rfl ?_
          refine w_getf (i := 81) (ci := 8) (k := 21) (npc := 87) rfl (hI80.pl (by decide)) (hI80.T (by decide) rfl) (by decide) hz89 ?_
          refine w_iadd (npc := 88) rfl (by omega) ?_
          refine w_istore (i := 3) (npc := 89) (loc' := [cr 81, ai_i p, ai_i n, ai_i (10 + z89)]) rfl rfl ?_
          refine w_iload (i := 3) (npc := 90) rfl rfl ?_
          refine w_const (n := 10) (npc := 92) rfl ?_
          refine w_icmp (c := .le) (npc := 95) (pt := 124) rfl (fun hc92 => ?_) (fun hc92 => ?_)
          · replace hc92 : 10 + z89 ≤ (10 : Int) := hc92
            refine w_iload (i := 3) (npc := 125) rfl rfl ?_
            exact w_iret rfl (⟨rfl, rfl, rfl, hI80, hF82, hR83, 10 + z89, rfl, by omega⟩) (by omega) (by omega)
          · replace hc92 : ¬ (10 + z89 ≤ (10 : Int)) := hc92
            refine w_aload (i := 0) (npc := 96) rfl rfl rfl ?_
            refine w_aload (i := 0) (npc := 97) rfl rfl rfl ?_
            refine w_getf (i := 81) (ci := 8) (k := 21) (npc := 100) rfl (hI80.pl (by decide)) (hI80.T (by decide) rfl) (by decide) hz89 ?_
            refine w_if (c := .ne) (npc := 103) (pt := 107) rfl (fun hc93 => ?_) (fun hc93 => ?_)
            · replace hc93 : z89 ≠ (0 : Int) := hc93
              refine w_aload (i := 0) (npc := 108) rfl rfl rfl ?_
              obtain ⟨z94, hz94, hz94a, hz94b⟩ := hI80.int 81 22 (lo := 0) (hi := 400) (by decide) (by decide) rfl
              have ghz94 := gv_eq hz94
              refine w_getf (i := 81) (ci := 8) (k := 22) (npc := 111) rfl (hI80.pl (by decide)) (hI80.T (by decide) rfl) (by decide) hz94 ?_
              refine w_putf (i := 81) (ci := 8) (k := 18) (t := 0) (npc := 114) rfl (hI80.pl (by decide)) (hI80.T (by decide) rfl) (by decide) cm_fit0 ?_
              have hI96 := hI80.puti (i := 81) (k := 18) (z := z94) (lo := (-1)) (hi := 400) (by decide) rfl (by omega)
              have hF98 := cm_fr.up (i := 81) (k := 18) (v := ai_i z94) hF82 (by first | (simp; done) | (simp; omega) | (intro i k h; (try simp only at h); (try simp only); omega))
              have hR99 := rl.wr (i := 81) (k := 18) (v := ai_i z94) hR83 (by simp)
              generalize hE97 : cm_up E78 81 18 (ai_i z94) = E95 at hI96 hF98 hR99  ⊢
              have hz100 : E95 81 1 = ai_i z2 := by rw [← hE97, cm_up_ne _ _ (by decide)]; exact hz84
              have ghz100 := gv_eq hz100
              have hz101 : E95 81 0 = ai_i 0 := by rw [← hE97, cm_up_ne _ _ (by decide)]; exact hz85
              have ghz101 := gv_eq hz101
              have hz102 : E95 81 17 = ai_i 0 := by rw [← hE97, cm_up_ne _ _ (by decide)]; exact hz86
              have ghz102 := gv_eq hz102
              have hz103 : E95 81 20 = ai_i n := by rw [← hE97, cm_up_ne _ _ (by decide)]; exact hz87
              have ghz103 := gv_eq hz103
              have hz104 : E95 81 21 = ai_i z89 := by rw [← hE97, cm_up_ne _ _ (by decide)]; exact hz89
              have ghz104 := gv_eq hz104
              have hz105 : E95 81 22 = ai_i z94 := by rw [← hE97, cm_up_ne _ _ (by decide)]; exact hz94
              have ghz105 := gv_eq hz105
              have hz106 : E95 81 18 = ai_i z94 := by rw [← hE97, cm_up_eq]
              have ghz106 := gv_eq hz106
              refine w_aload (i := 0) (npc := 115) rfl rfl rfl ?_
              refine w_getf (i := 81) (ci := 8) (k := 5) (npc := 118) rfl (hI96.pl (by decide)) (hI96.T (by decide) rfl) (by decide) (hI96.ref 81 5 (p := 85) (by decide) (by decide) rfl) ?_
              refine w_const (n := 1) (npc := 119) rfl ?_
              refine w_dup2 (npc := 120) rfl rfl rfl ?_
              obtain ⟨z107, hz107, hz107a, hz107b⟩ := hI96.int 85 (1 : Int).toNat (lo := (-2147483648)) (hi := 2147483647) (by decide) (show (1 : Int).toNat < 3 by omega) rfl
              have ghz107 := gv_eq hz107
              refine w_ald (i := 85) (t := 1) (n := 3) (npc := 121) rfl (hI96.pl (by decide)) (hI96.T (by decide) rfl) (by decide) rfl (by omega) hz107 ?_
              refine w_const (n := 1) (npc := 122) rfl ?_
              refine w_iaddw (npc := 123) rfl (fun z108 hz108 hz108b => ?_)
              refine w_ast (i := 85) (k := 1) (n := 3) (npc := 124) rfl (hI96.pl (by decide)) (hI96.T (by decide) rfl) (by decide) (by omega) cm_af1 ?_
              have hI110 := hI96.puti (i := 85) (k := (1 : Int).toNat) (z := z108) (lo := (-2147483648)) (hi := 2147483647) (by decide) rfl (by omega)
              have hF112 := cm_fr.up (i := 85) (k := (1 : Int).toNat) (v := ai_i z108) hF98 (by first | (simp; done) | (simp; omega) | (intro i k h; (try simp only at h); (try simp only); omega))
              have hR113 := rl.wr (i := 85) (k := (1 : Int).toNat) (v := ai_i z108) hR99 (by simp)
              generalize hE111 : cm_up E95 85 (1 : Int).toNat (ai_i z108) = E109 at hI110 hF112 hR113  ⊢
              have hz114 : E109 81 1 = ai_i z2 := by rw [← hE111, cm_up_nei _ _ (by decide)]; exact hz100
              have ghz114 := gv_eq hz114
              have hz115 : E109 81 0 = ai_i 0 := by rw [← hE111, cm_up_nei _ _ (by decide)]; exact hz101
              have ghz115 := gv_eq hz115
              have hz116 : E109 81 17 = ai_i 0 := by rw [← hE111, cm_up_nei _ _ (by decide)]; exact hz102
              have ghz116 := gv_eq hz116
              have hz117 : E109 81 20 = ai_i n := by rw [← hE111, cm_up_nei _ _ (by decide)]; exact hz103
              have ghz117 := gv_eq hz117
              have hz118 : E109 81 21 = ai_i z89 := by rw [← hE111, cm_up_nei _ _ (by decide)]; exact hz104
              have ghz118 := gv_eq hz118
              have hz119 : E109 81 22 = ai_i z94 := by rw [← hE111, cm_up_nei _ _ (by decide)]; exact hz105
              have ghz119 := gv_eq hz119
              have hz120 : E109 81 18 = ai_i z94 := by rw [← hE111, cm_up_nei _ _ (by decide)]; exact hz106
              have ghz120 := gv_eq hz120
              have hz121 : E109 85 (1 : Int).toNat = ai_i z108 := by rw [← hE111, cm_up_eq]
              have ghz121 := gv_eq hz121
              refine w_iload (i := 3) (npc := 125) rfl rfl ?_
              exact w_iret rfl (⟨rfl, rfl, rfl, hI110, hF112, hR113, 10 + z89, rfl, by omega⟩) (by omega) (by omega)
            · replace hc93 : ¬ (z89 ≠ (0 : Int)) := hc93
              refine w_const (n := 0) (npc := 104) rfl ?_
              refine w_goto (pt := 111) rfl ?_
              refine w_putf (i := 81) (ci := 8) (k := 18) (t := 0) (npc := 114) rfl (hI80.pl (by decide)) (hI80.T (by decide) rfl) (by decide) cm_fit0 ?_
              have hI123 := hI80.puti (i := 81) (k := 18) (z := 0) (lo := (-1)) (hi := 400) (by decide) rfl (by omega)
              have hF125 := cm_fr.up (i := 81) (k := 18) (v := ai_i 0) hF82 (by first | (simp; done) | (simp; omega) | (intro i k h; (try simp only at h); (try simp only); omega))
              have hR126 := rl.wr (i := 81) (k := 18) (v := ai_i 0) hR83 (by simp)
              generalize hE124 : cm_up E78 81 18 (ai_i 0) = E122 at hI123 hF125 hR126  ⊢
              have hz127 : E122 81 1 = ai_i z2 := by rw [← hE124, cm_up_ne _ _ (by decide)]; exact hz84
              have ghz127 := gv_eq hz127
              have hz128 : E122 81 0 = ai_i 0 := by rw [← hE124, cm_up_ne _ _ (by decide)]; exact hz85
              have ghz128 := gv_eq hz128
              have hz129 : E122 81 17 = ai_i 0 := by rw [← hE124, cm_up_ne _ _ (by decide)]; exact hz86
              have ghz129 := gv_eq hz129
              have hz130 : E122 81 20 = ai_i n := by rw [← hE124, cm_up_ne _ _ (by decide)]; exact hz87
              have ghz130 := gv_eq hz130
              have hz131 : E122 81 21 = ai_i z89 := by rw [← hE124, cm_up_ne _ _ (by decide)]; exact hz89
              have ghz131 := gv_eq hz131
              have hz132 : E122 81 18 = ai_i 0 := by rw [← hE124, cm_up_eq]
              have ghz132 := gv_eq hz132
              refine w_aload (i := 0) (npc := 115) rfl rfl rfl ?_
              refine w_getf (i := 81) (ci := 8) (k := 5) (npc := 118) rfl (hI123.pl (by decide)) (hI123.T (by decide) rfl) (by decide) (hI123.ref 81 5 (p := 85) (by decide) (by decide) rfl) ?_
              refine w_const (n := 1) (npc := 119) rfl ?_
              refine w_dup2 (npc := 120) rfl rfl rfl ?_
              obtain ⟨z133, hz133, hz133a, hz133b⟩ := hI123.int 85 (1 : Int).toNat (lo := (-2147483648)) (hi := 2147483647) (by decide) (show (1 : Int).toNat < 3 by omega) rfl
              have ghz133 := gv_eq hz133
              refine w_ald (i := 85) (t := 1) (n := 3) (npc := 121) rfl (hI123.pl (by decide)) (hI123.T (by decide) rfl) (by decide) rfl (by omega) hz133 ?_
              refine w_const (n := 1) (npc := 122) rfl ?_
              refine w_iaddw (npc := 123) rfl (fun z134 hz134 hz134b => ?_)
              refine w_ast (i := 85) (k := 1) (n := 3) (npc := 124) rfl (hI123.pl (by decide)) (hI123.T (by decide) rfl) (by decide) (by omega) cm_af1 ?_
              have hI136 := hI123.puti (i := 85) (k := (1 : Int).toNat) (z := z134) (lo := (-2147483648)) (hi := 2147483647) (by decide) rfl (by omega)
              have hF138 := cm_fr.up (i := 85) (k := (1 : Int).toNat) (v := ai_i z134) hF125 (by first | (simp; done) | (simp; omega) | (intro i k h; (try simp only at h); (try simp only); omega))
              have hR139 := rl.wr (i := 85) (k := (1 : Int).toNat) (v := ai_i z134) hR126 (by simp)
              generalize hE137 : cm_up E122 85 (1 : Int).toNat (ai_i z134) = E135 at hI136 hF138 hR139  ⊢
              have hz140 : E135 81 1 = ai_i z2 := by rw [← hE137, cm_up_nei _ _ (by decide)]; exact hz127
              have ghz140 := gv_eq hz140
              have hz141 : E135 81 0 = ai_i 0 := by rw [← hE137, cm_up_nei _ _ (by decide)]; exact hz128
              have ghz141 := gv_eq hz141
              have hz142 : E135 81 17 = ai_i 0 := by rw [← hE137, cm_up_nei _ _ (by decide)]; exact hz129
              have ghz142 := gv_eq hz142
              have hz143 : E135 81 20 = ai_i n := by rw [← hE137, cm_up_nei _ _ (by decide)]; exact hz130
              have ghz143 := gv_eq hz143
              have hz144 : E135 81 21 = ai_i z89 := by rw [← hE137, cm_up_nei _ _ (by decide)]; exact hz131
              have ghz144 := gv_eq hz144
              have hz145 : E135 81 18 = ai_i 0 := by rw [← hE137, cm_up_nei _ _ (by decide)]; exact hz132
              have ghz145 := gv_eq hz145
              have hz146 : E135 85 (1 : Int).toNat = ai_i z134 := by rw [← hE137, cm_up_eq]
              have ghz146 := gv_eq hz146
              refine w_iload (i := 3) (npc := 125) rfl rfl ?_
              exact w_iret rfl (⟨rfl, rfl, rfl, hI136, hF138, hR139, 10 + z89, rfl, by omega⟩) (by omega) (by omega)
        · replace hc90 : ¬ (z89 ≠ (0 : Int)) := hc90
          refine w_aload (i := 0) (npc := 74) rfl rfl rfl ?_
          refine w_iload (i := 1) (npc := 75) rfl rfl ?_
          refine w_virt (ci := 8) (i := 81) (npc := 78) (a := [cr 81, ai_i p]) (rest := []) rfl rfl (hI80.pl (by decide)) (hI80.T (by decide) rfl) rfl rfl rfl rfl (ct_m_heard (sl := sl) (x := x) (d := d + 2) (p) hI80  hR83 (by omega) (hz79 (by omega)).1 (hz79 (by omega)).2) (Or.inl rfl) (fun k9 v9 T9 E148 nx9 kc9 ks9 hq147 hk9 hs9 => ?_)
          obtain ⟨rfl, rfl, rfl, hI150, hG151, hR152, z149, rfl, hz149⟩ := hq147
          obtain rfl : kc = kc9 := by omega
          obtain rfl : ks = ks9 := by omega
          have hF153 := cm_fr.trans hF82 hG151 (by first | (simp; done) | (simp; omega) | (intro i k h; (try simp only at h); (try simp only); omega))
          have hz154 : E148 81 1 = ai_i z2 := (hG151 81 1 (by simp)).trans hz84
          have ghz154 := gv_eq hz154
          have hz155 : E148 81 0 = ai_i 0 := (hG151 81 0 (by simp)).trans hz85
          have ghz155 := gv_eq hz155
          have hz156 : E148 81 17 = ai_i 0 := (hG151 81 17 (by simp)).trans hz86
          have ghz156 := gv_eq hz156
          have hz157 : E148 81 20 = ai_i n := (hG151 81 20 (by simp)).trans hz87
          have ghz157 := gv_eq hz157
          have hz158 : E148 81 18 = ai_i ((-1)) := (hG151 81 18 (by simp)).trans hz88
          have ghz158 := gv_eq hz158
          have hz159 : E148 81 21 = ai_i z89 := (hG151 81 21 (by simp)).trans hz89
          have ghz159 := gv_eq hz159
          refine Or.inr (Or.inl ⟨rfl, ?_⟩)
          refine w_goto (pt := 88) rfl ?_
          refine w_istore (i := 3) (npc := 89) (loc' := [cr 81, ai_i p, ai_i n, ai_i z149]) rfl rfl ?_
          refine w_iload (i := 3) (npc := 90) rfl rfl ?_
          refine w_const (n := 10) (npc := 92) rfl ?_
          refine w_icmp (c := .le) (npc := 95) (pt := 124) rfl (fun hc160 => ?_) (fun hc160 => ?_)
          · replace hc160 : z149 ≤ (10 : Int) := hc160
            refine w_iload (i := 3) (npc := 125) rfl rfl ?_
            exact w_iret rfl (⟨rfl, rfl, rfl, hI150, hF153, hR152, z149, rfl, by omega⟩) (by omega) (by omega)
          · replace hc160 : ¬ (z149 ≤ (10 : Int)) := hc160
            refine w_aload (i := 0) (npc := 96) rfl rfl rfl ?_
            refine w_aload (i := 0) (npc := 97) rfl rfl rfl ?_
            refine w_getf (i := 81) (ci := 8) (k := 21) (npc := 100) rfl (hI150.pl (by decide)) (hI150.T (by decide) rfl) (by decide) hz159 ?_
            refine w_if (c := .ne) (npc := 103) (pt := 107) rfl (fun hc161 => ?_) (fun hc161 => ?_)
            · replace hc161 : z89 ≠ (0 : Int) := hc161
              refine w_aload (i := 0) (npc := 108) rfl rfl rfl ?_
              obtain ⟨z162, hz162, hz162a, hz162b⟩ := hI150.int 81 22 (lo := 0) (hi := 400) (by decide) (by decide) rfl
              have ghz162 := gv_eq hz162
              refine w_getf (i := 81) (ci := 8) (k := 22) (npc := 111) rfl (hI150.pl (by decide)) (hI150.T (by decide) rfl) (by decide) hz162 ?_
              refine w_putf (i := 81) (ci := 8) (k := 18) (t := 0) (npc := 114) rfl (hI150.pl (by decide)) (hI150.T (by decide) rfl) (by decide) cm_fit0 ?_
              have hI164 := hI150.puti (i := 81) (k := 18) (z := z162) (lo := (-1)) (hi := 400) (by decide) rfl (by omega)
              have hF166 := cm_fr.up (i := 81) (k := 18) (v := ai_i z162) hF153 (by first | (simp; done) | (simp; omega) | (intro i k h; (try simp only at h); (try simp only); omega))
              have hR167 := rl.wr (i := 81) (k := 18) (v := ai_i z162) hR152 (by simp)
              generalize hE165 : cm_up E148 81 18 (ai_i z162) = E163 at hI164 hF166 hR167  ⊢
              have hz168 : E163 81 1 = ai_i z2 := by rw [← hE165, cm_up_ne _ _ (by decide)]; exact hz154
              have ghz168 := gv_eq hz168
              have hz169 : E163 81 0 = ai_i 0 := by rw [← hE165, cm_up_ne _ _ (by decide)]; exact hz155
              have ghz169 := gv_eq hz169
              have hz170 : E163 81 17 = ai_i 0 := by rw [← hE165, cm_up_ne _ _ (by decide)]; exact hz156
              have ghz170 := gv_eq hz170
              have hz171 : E163 81 20 = ai_i n := by rw [← hE165, cm_up_ne _ _ (by decide)]; exact hz157
              have ghz171 := gv_eq hz171
              have hz172 : E163 81 21 = ai_i z89 := by rw [← hE165, cm_up_ne _ _ (by decide)]; exact hz159
              have ghz172 := gv_eq hz172
              have hz173 : E163 81 22 = ai_i z162 := by rw [← hE165, cm_up_ne _ _ (by decide)]; exact hz162
              have ghz173 := gv_eq hz173
              have hz174 : E163 81 18 = ai_i z162 := by rw [← hE165, cm_up_eq]
              have ghz174 := gv_eq hz174
              refine w_aload (i := 0) (npc := 115) rfl rfl rfl ?_
              refine w_getf (i := 81) (ci := 8) (k := 5) (npc := 118) rfl (hI164.pl (by decide)) (hI164.T (by decide) rfl) (by decide) (hI164.ref 81 5 (p := 85) (by decide) (by decide) rfl) ?_
              refine w_const (n := 1) (npc := 119) rfl ?_
              refine w_dup2 (npc := 120) rfl rfl rfl ?_
              obtain ⟨z175, hz175, hz175a, hz175b⟩ := hI164.int 85 (1 : Int).toNat (lo := (-2147483648)) (hi := 2147483647) (by decide) (show (1 : Int).toNat < 3 by omega) rfl
              have ghz175 := gv_eq hz175
              refine w_ald (i := 85) (t := 1) (n := 3) (npc := 121) rfl (hI164.pl (by decide)) (hI164.T (by decide) rfl) (by decide) rfl (by omega) hz175 ?_
              refine w_const (n := 1) (npc := 122) rfl ?_
              refine w_iaddw (npc := 123) rfl (fun z176 hz176 hz176b => ?_)
              refine w_ast (i := 85) (k := 1) (n := 3) (npc := 124) rfl (hI164.pl (by decide)) (hI164.T (by decide) rfl) (by decide) (by omega) cm_af1 ?_
              have hI178 := hI164.puti (i := 85) (k := (1 : Int).toNat) (z := z176) (lo := (-2147483648)) (hi := 2147483647) (by decide) rfl (by omega)
              have hF180 := cm_fr.up (i := 85) (k := (1 : Int).toNat) (v := ai_i z176) hF166 (by first | (simp; done) | (simp; omega) | (intro i k h; (try simp only at h); (try simp only); omega))
              have hR181 := rl.wr (i := 85) (k := (1 : Int).toNat) (v := ai_i z176) hR167 (by simp)
              generalize hE179 : cm_up E163 85 (1 : Int).toNat (ai_i z176) = E177 at hI178 hF180 hR181  ⊢
              have hz182 : E177 81 1 = ai_i z2 := by rw [← hE179, cm_up_nei _ _ (by decide)]; exact hz168
              have ghz182 := gv_eq hz182
              have hz183 : E177 81 0 = ai_i 0 := by rw [← hE179, cm_up_nei _ _ (by decide)]; exact hz169
              have ghz183 := gv_eq hz183
              have hz184 : E177 81 17 = ai_i 0 := by rw [← hE179, cm_up_nei _ _ (by decide)]; exact hz170
              have ghz184 := gv_eq hz184
              have hz185 : E177 81 20 = ai_i n := by rw [← hE179, cm_up_nei _ _ (by decide)]; exact hz171
              have ghz185 := gv_eq hz185
              have hz186 : E177 81 21 = ai_i z89 := by rw [← hE179, cm_up_nei _ _ (by decide)]; exact hz172
              have ghz186 := gv_eq hz186
              have hz187 : E177 81 22 = ai_i z162 := by rw [← hE179, cm_up_nei _ _ (by decide)]; exact hz173
              have ghz187 := gv_eq hz187
              have hz188 : E177 81 18 = ai_i z162 := by rw [← hE179, cm_up_nei _ _ (by decide)]; exact hz174
              have ghz188 := gv_eq hz188
              have hz189 : E177 85 (1 : Int).toNat = ai_i z176 := by rw [← hE179, cm_up_eq]
              have ghz189 := gv_eq hz189
              refine w_iload (i := 3) (npc := 125) rfl rfl ?_
              exact w_iret rfl (⟨rfl, rfl, rfl, hI178, hF180, hR181, z149, rfl, by omega⟩) (by omega) (by omega)
            · replace hc161 : ¬ (z89 ≠ (0 : Int)) := hc161
              refine w_const (n := 0) (npc := 104) rfl ?_
              refine w_goto (pt := 111) rfl ?_
              refine w_putf (i := 81) (ci := 8) (k := 18) (t := 0) (npc := 114) rfl (hI150.pl (by decide)) (hI150.T (by decide) rfl) (by decide) cm_fit0 ?_
              have hI191 := hI150.puti (i := 81) (k := 18) (z := 0) (lo := (-1)) (hi := 400) (by decide) rfl (by omega)
              have hF193 := cm_fr.up (i := 81) (k := 18) (v := ai_i 0) hF153 (by first | (simp; done) | (simp; omega) | (intro i k h; (try simp only at h); (try simp only); omega))
              have hR194 := rl.wr (i := 81) (k := 18) (v := ai_i 0) hR152 (by simp)
              generalize hE192 : cm_up E148 81 18 (ai_i 0) = E190 at hI191 hF193 hR194  ⊢
              have hz195 : E190 81 1 = ai_i z2 := by rw [← hE192, cm_up_ne _ _ (by decide)]; exact hz154
              have ghz195 := gv_eq hz195
              have hz196 : E190 81 0 = ai_i 0 := by rw [← hE192, cm_up_ne _ _ (by decide)]; exact hz155
              have ghz196 := gv_eq hz196
              have hz197 : E190 81 17 = ai_i 0 := by rw [← hE192, cm_up_ne _ _ (by decide)]; exact hz156
              have ghz197 := gv_eq hz197
              have hz198 : E190 81 20 = ai_i n := by rw [← hE192, cm_up_ne _ _ (by decide)]; exact hz157
              have ghz198 := gv_eq hz198
              have hz199 : E190 81 21 = ai_i z89 := by rw [← hE192, cm_up_ne _ _ (by decide)]; exact hz159
              have ghz199 := gv_eq hz199
              have hz200 : E190 81 18 = ai_i 0 := by rw [← hE192, cm_up_eq]
              have ghz200 := gv_eq hz200
              refine w_aload (i := 0) (npc := 115) rfl rfl rfl ?_
              refine w_getf (i := 81) (ci := 8) (k := 5) (npc := 118) rfl (hI191.pl (by decide)) (hI191.T (by decide) rfl) (by decide) (hI191.ref 81 5 (p := 85) (by decide) (by decide) rfl) ?_
              refine w_const (n := 1) (npc := 119) rfl ?_
              refine w_dup2 (npc := 120) rfl rfl rfl ?_
              obtain ⟨z201, hz201, hz201a, hz201b⟩ := hI191.int 85 (1 : Int).toNat (lo := (-2147483648)) (hi := 2147483647) (by decide) (show (1 : Int).toNat < 3 by omega) rfl
              have ghz201 := gv_eq hz201
              refine w_ald (i := 85) (t := 1) (n := 3) (npc := 121) rfl (hI191.pl (by decide)) (hI191.T (by decide) rfl) (by decide) rfl (by omega) hz201 ?_
              refine w_const (n := 1) (npc := 122) rfl ?_
              refine w_iaddw (npc := 123) rfl (fun z202 hz202 hz202b => ?_)
              refine w_ast (i := 85) (k := 1) (n := 3) (npc := 124) rfl (hI191.pl (by decide)) (hI191.T (by decide) rfl) (by decide) (by omega) cm_af1 ?_
              have hI204 := hI191.puti (i := 85) (k := (1 : Int).toNat) (z := z202) (lo := (-2147483648)) (hi := 2147483647) (by decide) rfl (by omega)
              have hF206 := cm_fr.up (i := 85) (k := (1 : Int).toNat) (v := ai_i z202) hF193 (by first | (simp; done) | (simp; omega) | (intro i k h; (try simp only at h); (try simp only); omega))
              have hR207 := rl.wr (i := 85) (k := (1 : Int).toNat) (v := ai_i z202) hR194 (by simp)
              generalize hE205 : cm_up E190 85 (1 : Int).toNat (ai_i z202) = E203 at hI204 hF206 hR207  ⊢
              have hz208 : E203 81 1 = ai_i z2 := by rw [← hE205, cm_up_nei _ _ (by decide)]; exact hz195
              have ghz208 := gv_eq hz208
              have hz209 : E203 81 0 = ai_i 0 := by rw [← hE205, cm_up_nei _ _ (by decide)]; exact hz196
              have ghz209 := gv_eq hz209
              have hz210 : E203 81 17 = ai_i 0 := by rw [← hE205, cm_up_nei _ _ (by decide)]; exact hz197
              have ghz210 := gv_eq hz210
              have hz211 : E203 81 20 = ai_i n := by rw [← hE205, cm_up_nei _ _ (by decide)]; exact hz198
              have ghz211 := gv_eq hz211
              have hz212 : E203 81 21 = ai_i z89 := by rw [← hE205, cm_up_nei _ _ (by decide)]; exact hz199
              have ghz212 := gv_eq hz212
              have hz213 : E203 81 18 = ai_i 0 := by rw [← hE205, cm_up_nei _ _ (by decide)]; exact hz200
              have ghz213 := gv_eq hz213
              have hz214 : E203 85 (1 : Int).toNat = ai_i z202 := by rw [← hE205, cm_up_eq]
              have ghz214 := gv_eq hz214
              refine w_iload (i := 3) (npc := 125) rfl rfl ?_
              exact w_iret rfl (⟨rfl, rfl, rfl, hI204, hF206, hR207, z149, rfl, by omega⟩) (by omega) (by omega)
      · replace hc26 : ¬ (n ≤ z1) := hc26
        refine w_aload (i := 0) (npc := 32) rfl rfl rfl ?_
        refine w_const (n := 2) (npc := 33) rfl ?_
        refine w_virt (ci := 8) (i := 81) (npc := 36) (a := [cr 81, ai_i 2]) (rest := []) rfl rfl (hI4.pl (by decide)) (hI4.T (by decide) rfl) rfl rfl rfl rfl (ct_m_fail (sl := sl) (x := x) (d := d + 6) (2) hI4 (by omega)) (Or.inl rfl) (fun k9 v9 T9 E216 nx9 kc9 ks9 hq215 hk9 hs9 => ?_)
        obtain ⟨rfl, rfl, rfl, hI218, hG219, z217, rfl, hz217⟩ := hq215
        obtain rfl : kc = kc9 := by omega
        obtain rfl : ks = ks9 := by omega
        have hF220 := cm_fr.trans hF6 hG219 (by first | (simp; done) | (simp; omega) | (intro i k h; (try simp only at h); (try simp only); omega))
        have hR221 := rl.fr hR7 hG219 (by intro i k h; (try simp only at h); omega)
        have hz222 : E216 81 17 = ai_i z1 := (hG219 81 17 (by simp)).trans hz8
        have ghz222 := gv_eq hz222
        have hz223 : E216 81 1 = ai_i z2 := (hG219 81 1 (by simp)).trans hz9
        have ghz223 := gv_eq hz223
        refine Or.inr (Or.inl ⟨rfl, ?_⟩)
        exact w_iret rfl (⟨rfl, rfl, rfl, hI218, hF220, hR221, z217, rfl, by omega⟩) (by omega) (by omega)
  · replace hc15 : ¬ (z13 ≠ (0 : Int)) := hc15
    refine w_aload (i := 0) (npc := 14) rfl rfl rfl ?_
    refine w_const (n := 1) (npc := 15) rfl ?_
    refine w_virt (ci := 8) (i := 81) (npc := 18) (a := [cr 81, ai_i 1]) (rest := []) rfl rfl (hI4.pl (by decide)) (hI4.T (by decide) rfl) rfl rfl rfl rfl (ct_m_fail (sl := sl) (x := x) (d := d + 6) (1) hI4 (by omega)) (Or.inl rfl) (fun k9 v9 T9 E225 nx9 kc9 ks9 hq224 hk9 hs9 => ?_)
    obtain ⟨rfl, rfl, rfl, hI227, hG228, z226, rfl, hz226⟩ := hq224
    obtain rfl : kc = kc9 := by omega
    obtain rfl : ks = ks9 := by omega
    have hF229 := cm_fr.trans hF6 hG228 (by first | (simp; done) | (simp; omega) | (intro i k h; (try simp only at h); (try simp only); omega))
    have hR230 := rl.fr hR7 hG228 (by intro i k h; (try simp only at h); omega)
    have hz231 : E225 81 17 = ai_i z1 := (hG228 81 17 (by simp)).trans hz8
    have ghz231 := gv_eq hz231
    have hz232 : E225 81 1 = ai_i z2 := (hG228 81 1 (by simp)).trans hz9
    have ghz232 := gv_eq hz232
    refine Or.inr (Or.inl ⟨rfl, ?_⟩)
    exact w_iret rfl (⟨rfl, rfl, rfl, hI227, hF229, hR230, z226, rfl, by omega⟩) (by omega) (by omega)
