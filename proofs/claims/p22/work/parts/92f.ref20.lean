set_option maxRecDepth 16384 in
theorem ct_m_orderOn_s {sl : Int × Int} {x : ai_E} {d : Nat} {T : cm_T} {E : cm_E} {nx : Nat} (n : Int) (hI : cs_I T E nx) (hp0 : 0 ≤ n ∧ n ≤ gv E 81 24) (hp1 : oo E n) (hrec : n < 8 → ∀ E : cm_E, cs_I T E nx → 0 ≤ n + 1 ∧ n + 1 ≤ gv E 81 24 → oo E (n + 1) → cm_ct (ai_ev sl (d + 1)) x 191 [cr 81, ai_i (n + 1)] T E nx 0 0 (fun rk rv T' E' nx' => rk = 0 ∧ T = T' ∧ nx = nx' ∧ cs_I T E' nx ∧ cm_fr (fun i k => (i = 81 ∧ (k = 32 ∨ k = 33)) ∨ (i = 98 ∧ (n + 1).toNat ≤ k) ∨ i = 99 ∨ i = 100) E E' ∧ (True))) : cm_ct (ai_ev sl (d + 2)) x 191 [cr 81, ai_i n] T E nx 0 0 (fun rk rv T' E' nx' => rk = 0 ∧ T = T' ∧ nx = nx' ∧ cs_I T E' nx ∧ cm_fr (fun i k => (i = 81 ∧ (k = 32 ∨ k = 33)) ∨ (i = 98 ∧ n.toNat ≤ k) ∨ i = 99 ∨ i = 100) E E' ∧ (True)) := by
  refine cm_body (M := ai_m191) rfl rfl (fun kc ks => ?_)
  show cm_wp (ai_find ai_c191 sl) (ai_ev sl (d + 1)) x (kc + 0) (ks + 0) _ 0 [cr 81, ai_i n, ai_un, ai_un, ai_un] [] T E nx kc ks
  have hF : cm_fr (fun i k => (i = 81 ∧ (k = 32 ∨ k = 33)) ∨ (i = 98 ∧ n.toNat ≤ k) ∨ i = 99 ∨ i = 100) E E := fun _ _ _ => rfl
  obtain ⟨z1, hz1, hz1a, hz1b⟩ := hI.int 81 24 (lo := 0) (hi := 8) (by decide) (by decide) rfl
  have ghz1 := gv_eq hz1
  refine w_aload (i := 0) (npc := 1) rfl rfl rfl ?_
  refine w_iload (i := 1) (npc := 2) rfl rfl ?_
  refine w_virt (ci := 8) (i := 81) (npc := 5) (a := [cr 81, ai_i n]) (rest := []) rfl rfl (hI.pl (by decide)) (hI.T (by decide) rfl) rfl rfl rfl rfl (ct_m_write (sl := sl) (x := x) (d := d + 0) (n) hI (by omega) (hp1.wr (by omega) (by omega))) (Or.inl rfl) (fun k9 v9 T9 E3 nx9 kc9 ks9 hq2 hk9 hs9 => ?_)
  obtain ⟨rfl, rfl, rfl, hI5, hG6, z4, rfl, hz4⟩ := hq2
  obtain rfl : kc = kc9 := by omega
  obtain rfl : ks = ks9 := by omega
  have hF7 := cm_fr.trans hF hG6 (by first | (simp; done) | (simp; omega) | (intro i k h; (try simp only at h); (try simp only); omega))
  have hz8 : E3 81 24 = ai_i z1 := (hG6 81 24 (by simp)).trans hz1
  have ghz8 := gv_eq hz8
  refine Or.inr (Or.inl ⟨rfl, ?_⟩)
  refine w_istore (i := 2) (npc := 6) (loc' := [cr 81, ai_i n, ai_i z4, ai_un, ai_un]) rfl rfl ?_
  refine w_iload (i := 2) (npc := 7) rfl rfl ?_
  refine w_const (n := (-1)) (npc := 8) rfl ?_
  refine w_icmp (c := .ne) (npc := 11) (pt := 12) rfl (fun hc9 => ?_) (fun hc9 => ?_)
  · replace hc9 : z4 ≠ ((-1) : Int) := hc9
    refine w_aload (i := 0) (npc := 13) rfl rfl rfl ?_
    refine w_aload (i := 0) (npc := 14) rfl rfl rfl ?_
    obtain ⟨z10, hz10, hz10a, hz10b⟩ := hI5.int 81 33 (lo := (-2147483648)) (hi := 2147483647) (by decide) (by decide) rfl
    have ghz10 := gv_eq hz10
    refine w_getf (i := 81) (ci := 8) (k := 33) (npc := 17) rfl (hI5.pl (by decide)) (hI5.T (by decide) rfl) (by decide) hz10 ?_
    refine w_iload (i := 1) (npc := 18) rfl rfl ?_
    refine w_max (npc := 21) rfl rfl ?_
    obtain ⟨z11, hz11⟩ : ∃ z11 : Int, z11 = max z10 n := ⟨_, rfl⟩
    rw [← hz11]
    refine w_putf (i := 81) (ci := 8) (k := 33) (t := 0) (npc := 24) rfl (hI5.pl (by decide)) (hI5.T (by decide) rfl) (by decide) cm_fit0 ?_
    have hI13 := hI5.puti (i := 81) (k := 33) (z := z11) (lo := (-2147483648)) (hi := 2147483647) (by decide) rfl (by omega)
    have hF15 := cm_fr.up (i := 81) (k := 33) (v := ai_i z11) hF7 (by first | (simp; done) | (simp; omega) | (intro i k h; (try simp only at h); (try simp only); omega))
    generalize hE14 : cm_up E3 81 33 (ai_i z11) = E12 at hI13 hF15   ⊢
    have hz16 : E12 81 24 = ai_i z1 := by rw [← hE14, cm_up_ne _ _ (by decide)]; exact hz8
    have ghz16 := gv_eq hz16
    have hz17 : E12 81 33 = ai_i z11 := by rw [← hE14, cm_up_eq]
    have ghz17 := gv_eq hz17
    refine w_iload (i := 1) (npc := 25) rfl rfl ?_
    refine w_aload (i := 0) (npc := 26) rfl rfl rfl ?_
    refine w_getf (i := 81) (ci := 8) (k := 24) (npc := 29) rfl (hI13.pl (by decide)) (hI13.T (by decide) rfl) (by decide) hz16 ?_
    refine w_icmp (c := .ne) (npc := 32) (pt := 143) rfl (fun hc18 => ?_) (fun hc18 => ?_)
    · replace hc18 : n ≠ z1 := hc18
      refine w_const (n := 0) (npc := 144) rfl ?_
      refine w_istore (i := 3) (npc := 145) (loc' := [cr 81, ai_i n, ai_i z4, ai_i 0, ai_un]) rfl rfl ?_
      have loop145 : ∀ (nf : Nat) (p : Int) (u145_4 : ai_V) (Eq145 : cm_E), ((3 - p).toNat) < nf → cs_I T Eq145 nx → cm_fr (fun i k => (i = 81 ∧ (k = 32 ∨ k = 33)) ∨ (i = 98 ∧ n.toNat ≤ k) ∨ i = 99 ∨ i = 100) E Eq145 → (0 ≤ p ∧ p ≤ 3) → cm_wp (ai_find ai_c191 sl) (ai_ev sl (d + 1)) x (kc + 0) (ks + 0) (fun rk rv T' E' nx' => rk = 0 ∧ T = T' ∧ nx = nx' ∧ cs_I T E' nx ∧ cm_fr (fun i k => (i = 81 ∧ (k = 32 ∨ k = 33)) ∨ (i = 98 ∧ n.toNat ≤ k) ∨ i = 99 ∨ i = 100) E E' ∧ (True)) 145 [cr 81, ai_i n, ai_i z4, ai_i p, u145_4] [] T Eq145 nx kc ks := by
        intro nf
        induction nf with
        | zero => intro p u145_4 Eq145 hm; exact absurd hm (Nat.not_lt_zero _)
        | succ nf145 ih =>
          intro p u145_4 Eq145 hm145 hI145 hF145 hv145
          obtain ⟨z19, hz19, hz19a, hz19b⟩ := hI145.int 81 24 (lo := 0) (hi := 8) (by decide) (by decide) rfl
          have ghz19 := gv_eq hz19
          have g0hz19 : gv E 81 24 = z19 := (gv_fr hF145 (by simp)).trans ghz19
          have ih145 := ih; clear ih
          refine w_iload (i := 3) (npc := 146) rfl rfl ?_
          refine w_const (n := 3) (npc := 147) rfl ?_
          refine w_icmp (c := .ge) (npc := 150) (pt := 187) rfl (fun hc20 => ?_) (fun hc20 => ?_)
          · replace hc20 : (3 : Int) ≤ p := hc20
            exact w_vret rfl (⟨rfl, rfl, rfl, hI145, hF145, trivial⟩) (by omega) (by omega)
          · replace hc20 : ¬ ((3 : Int) ≤ p) := hc20
            have hoo : oo Eq145 n := hp1.fr hF145 (by intro i k h; (try simp only at h); omega)
            have h24 := gv_fr hF145 (i := 81) (k := 24) (by simp)
            refine w_aload (i := 0) (npc := 151) rfl rfl rfl ?_
            refine w_iload (i := 3) (npc := 152) rfl rfl ?_
            refine w_iload (i := 1) (npc := 153) rfl rfl ?_
            refine w_virt (ci := 8) (i := 81) (npc := 156) (a := [cr 81, ai_i p, ai_i n]) (rest := []) rfl rfl (hI145.pl (by decide)) (hI145.T (by decide) rfl) rfl rfl rfl rfl (ct_m_inOrder2 (sl := sl) (x := x) (d := d + 0) (p) (n) hI145 (by omega)) (Or.inl rfl) (fun k9 v9 T9 E22 nx9 kc9 ks9 hq21 hk9 hs9 => ?_)
            obtain ⟨rfl, rfl, rfl, rfl, z23, rfl, hz23⟩ := hq21
            obtain rfl : kc = kc9 := by omega
            obtain rfl : ks = ks9 := by omega
            refine Or.inr (Or.inl ⟨rfl, ?_⟩)
            refine w_aload (i := 0) (npc := 157) rfl rfl rfl ?_
            refine w_iload (i := 3) (npc := 158) rfl rfl ?_
            refine w_virt (ci := 8) (i := 81) (npc := 161) (a := [cr 81, ai_i p]) (rest := [ai_i z23]) rfl rfl (hI145.pl (by decide)) (hI145.T (by decide) rfl) rfl rfl rfl rfl (ct_m_actsOf2 (sl := sl) (x := x) (d := d + 0) (p) hI145) (Or.inl rfl) (fun k9 v9 T9 E25 nx9 kc9 ks9 hq24 hk9 hs9 => ?_)
            obtain ⟨rfl, rfl, rfl, rfl, z26, rfl, hz26⟩ := hq24
            obtain rfl : kc = kc9 := by omega
            obtain rfl : ks = ks9 := by omega
            refine Or.inr (Or.inl ⟨rfl, ?_⟩)
            refine w_icmp (c := .ne) (npc := 164) (pt := 167) rfl (fun hc27 => ?_) (fun hc27 => ?_)
            · replace hc27 : z23 ≠ z26 := hc27
              refine w_aload (i := 0) (npc := 168) rfl rfl rfl ?_
              refine w_getf (i := 81) (ci := 8) (k := 29) (npc := 171) rfl (hI145.pl (by decide)) (hI145.T (by decide) rfl) (by decide) (hI145.ref 81 29 (p := 98) (by decide) (by decide) rfl) ?_
              refine w_iload (i := 1) (npc := 172) rfl rfl ?_
              refine w_iload (i := 3) (npc := 173) rfl rfl ?_
              refine w_ast (i := 98) (k := 1) (n := 8) (npc := 174) rfl (hI145.pl (by decide)) (hI145.T (by decide) rfl) (by decide) (by omega) cm_af1 ?_
              have hI29 := hI145.puti (i := 98) (k := (n : Int).toNat) (z := p) (lo := 0) (hi := 2) (by decide) rfl (by omega)
              have hF31 := cm_fr.up (i := 98) (k := (n : Int).toNat) (v := ai_i p) hF145 (by first | (simp; done) | (simp; omega) | (intro i k h; (try simp only at h); (try simp only); omega))
              generalize hE30 : cm_up Eq145 98 (n : Int).toNat (ai_i p) = E28 at hI29 hF31   ⊢
              have hz32 : E28 81 24 = ai_i z19 := by rw [← hE30, cm_up_nei _ _ (by decide)]; exact hz19
              have ghz32 := gv_eq hz32
              have hz33 : E28 98 (n : Int).toNat = ai_i p := by rw [← hE30, cm_up_eq]
              have ghz33 := gv_eq hz33
              refine w_aload (i := 0) (npc := 175) rfl rfl rfl ?_
              refine w_iload (i := 1) (npc := 176) rfl rfl ?_
              refine w_const (n := 1) (npc := 177) rfl ?_
              refine w_iadd (npc := 178) rfl (by omega) ?_
              refine w_virt (ci := 8) (i := 81) (npc := 181) (a := [cr 81, ai_i (n + 1)]) (rest := []) rfl rfl (hI29.pl (by decide)) (hI29.T (by decide) rfl) rfl rfl rfl rfl (hrec (by omega) E28 hI29 (by omega) (oo_next hoo (by omega) (by have h7 := hoo p; omega) hE30)) (Or.inl rfl) (fun k9 v9 T9 E36 nx9 kc9 ks9 hq35 hk9 hs9 => ?_)
              obtain ⟨rfl, rfl, rfl, hI38, hG39, hz37⟩ := hq35
              obtain rfl : kc = kc9 := by omega
              obtain rfl : ks = ks9 := by omega
              have hF40 := cm_fr.trans hF31 hG39 (by first | (simp; done) | (simp; omega) | (intro i k h; (try simp only at h); (try simp only); omega))
              have hz41 : E36 81 24 = ai_i z19 := (hG39 81 24 (by simp)).trans hz32
              have ghz41 := gv_eq hz41
              refine Or.inl ⟨rfl, ?_⟩
              refine w_iinc (i := 3) (n := 1) (npc := 184) (loc' := [cr 81, ai_i n, ai_i z4, ai_i (p + 1), u145_4]) rfl rfl (by omega) rfl ?_
              refine w_goto (pt := 145) rfl ?_
              exact ih145 (p + 1) (u145_4) E36 (by omega) hI38 hF40 (by omega)
            · replace hc27 : ¬ (z23 ≠ z26) := hc27
              refine w_goto (pt := 181) rfl ?_
              refine w_iinc (i := 3) (n := 1) (npc := 184) (loc' := [cr 81, ai_i n, ai_i z4, ai_i (p + 1), u145_4]) rfl rfl (by omega) rfl ?_
              refine w_goto (pt := 145) rfl ?_
              exact ih145 (p + 1) (u145_4) Eq145 (by omega) hI145 hF145 (by omega)
      exact loop145 _ (0) (ai_un) E12 (Nat.lt_succ_self _) hI13 hF15 (by omega)
    · replace hc18 : ¬ (n ≠ z1) := hc18
      refine w_iload (i := 2) (npc := 33) rfl rfl ?_
      refine w_aload (i := 0) (npc := 34) rfl rfl rfl ?_
      obtain ⟨z44, hz44, hz44a, hz44b⟩ := hI13.int 81 23 (lo := 0) (hi := 12) (by decide) (by decide) rfl
      have ghz44 := gv_eq hz44
      have g0hz44 : gv E 81 23 = z44 := (gv_fr hF15 (by simp)).trans ghz44
      refine w_getf (i := 81) (ci := 8) (k := 23) (npc := 37) rfl (hI13.pl (by decide)) (hI13.T (by decide) rfl) (by decide) hz44 ?_
      refine w_icmp (c := .ne) (npc := 40) (pt := 44) rfl (fun hc45 => ?_) (fun hc45 => ?_)
      · replace hc45 : z4 ≠ z44 := hc45
        refine w_const (n := 0) (npc := 45) rfl ?_
        refine w_istore (i := 3) (npc := 46) (loc' := [cr 81, ai_i n, ai_i z4, ai_i 0, ai_un]) rfl rfl ?_
        refine w_const (n := 0) (npc := 47) rfl ?_
        refine w_istore (i := 4) (npc := 49) (loc' := [cr 81, ai_i n, ai_i z4, ai_i 0, ai_i 0]) rfl rfl ?_
        have loop49 : ∀ (nf : Nat) (c : Int) (k : Int), ((12 - k).toNat) < nf → (0 ≤ k ∧ k ≤ 12 ∧ 0 ≤ c ∧ c ≤ 1 ∧ (c = 1 → gv E12 81 23 = (z4))) → cm_wp (ai_find ai_c191 sl) (ai_ev sl (d + 1)) x (kc + 0) (ks + 0) (fun rk rv T' E' nx' => rk = 0 ∧ T = T' ∧ nx = nx' ∧ cs_I T E' nx ∧ cm_fr (fun i k => (i = 81 ∧ (k = 32 ∨ k = 33)) ∨ (i = 98 ∧ n.toNat ≤ k) ∨ i = 99 ∨ i = 100) E E' ∧ (True)) 49 [cr 81, ai_i n, ai_i z4, ai_i c, ai_i k] [] T E12 nx kc ks := by
          intro nf
          induction nf with
          | zero => intro c k hm; exact absurd hm (Nat.not_lt_zero _)
          | succ nf49 ih =>
            intro c k hm49 hv49
            have ih49 := ih; clear ih
            refine w_iload (i := 4) (npc := 51) rfl rfl ?_
            refine w_aload (i := 0) (npc := 52) rfl rfl rfl ?_
            refine w_getf (i := 81) (ci := 8) (k := 23) (npc := 55) rfl (hI13.pl (by decide)) (hI13.T (by decide) rfl) (by decide) hz44 ?_
            refine w_icmp (c := .ge) (npc := 58) (pt := 91) rfl (fun hc46 => ?_) (fun hc46 => ?_)
            · replace hc46 : z44 ≤ k := hc46
              refine w_iload (i := 3) (npc := 92) rfl rfl ?_
              refine w_if (c := .ne) (npc := 95) (pt := 96) rfl (fun hc47 => ?_) (fun hc47 => ?_)
              · replace hc47 : c ≠ (0 : Int) := hc47
                refine w_const (n := 0) (npc := 97) rfl ?_
                refine w_istore (i := 4) (npc := 99) (loc' := [cr 81, ai_i n, ai_i z4, ai_i c, ai_i 0]) rfl rfl ?_
                have loop99 : ∀ (nf : Nat) (k : Int) (Eq99 : cm_E), ((n - k).toNat) < nf → cs_I T Eq99 nx → cm_fr (fun i k => (i = 81 ∧ (k = 32 ∨ k = 33)) ∨ (i = 98 ∧ n.toNat ≤ k) ∨ i = 99 ∨ i = 100) E Eq99 → (0 ≤ k ∧ k ≤ n) → cm_wp (ai_find ai_c191 sl) (ai_ev sl (d + 1)) x (kc + 0) (ks + 0) (fun rk rv T' E' nx' => rk = 0 ∧ T = T' ∧ nx = nx' ∧ cs_I T E' nx ∧ cm_fr (fun i k => (i = 81 ∧ (k = 32 ∨ k = 33)) ∨ (i = 98 ∧ n.toNat ≤ k) ∨ i = 99 ∨ i = 100) E E' ∧ (True)) 99 [cr 81, ai_i n, ai_i z4, ai_i c, ai_i k] [] T Eq99 nx kc ks := by
                  intro nf
                  induction nf with
                  | zero => intro k Eq99 hm; exact absurd hm (Nat.not_lt_zero _)
                  | succ nf99 ih =>
                    intro k Eq99 hm99 hI99 hF99 hv99
                    have ih99 := ih; clear ih
                    refine w_iload (i := 4) (npc := 101) rfl rfl ?_
                    refine w_iload (i := 1) (npc := 102) rfl rfl ?_
                    refine w_icmp (c := .ge) (npc := 105) (pt := 132) rfl (fun hc48 => ?_) (fun hc48 => ?_)
                    · replace hc48 : n ≤ k := hc48
                      refine w_aload (i := 0) (npc := 133) rfl rfl rfl ?_
                      refine w_dup (npc := 134) rfl rfl ?_
                      obtain ⟨z49, hz49, hz49a, hz49b⟩ := hI99.int 81 32 (lo := (-2147483648)) (hi := 2147483647) (by decide) (by decide) rfl
                      have ghz49 := gv_eq hz49
                      refine w_getf (i := 81) (ci := 8) (k := 32) (npc := 137) rfl (hI99.pl (by decide)) (hI99.T (by decide) rfl) (by decide) hz49 ?_
                      refine w_const (n := 1) (npc := 138) rfl ?_
                      refine w_iaddw (npc := 139) rfl (fun z50 hz50 hz50b => ?_)
                      refine w_putf (i := 81) (ci := 8) (k := 32) (t := 0) (npc := 142) rfl (hI99.pl (by decide)) (hI99.T (by decide) rfl) (by decide) cm_fit0 ?_
                      have hI52 := hI99.puti (i := 81) (k := 32) (z := z50) (lo := (-2147483648)) (hi := 2147483647) (by decide) rfl (by omega)
                      have hF54 := cm_fr.up (i := 81) (k := 32) (v := ai_i z50) hF99 (by first | (simp; done) | (simp; omega) | (intro i k h; (try simp only at h); (try simp only); omega))
                      generalize hE53 : cm_up Eq99 81 32 (ai_i z50) = E51 at hI52 hF54   ⊢
                      have hz55 : E51 81 32 = ai_i z50 := by rw [← hE53, cm_up_eq]
                      have ghz55 := gv_eq hz55
                      exact w_vret rfl (⟨rfl, rfl, rfl, hI52, hF54, trivial⟩) (by omega) (by omega)
                    · replace hc48 : ¬ (n ≤ k) := hc48
                      refine w_aload (i := 0) (npc := 106) rfl rfl rfl ?_
                      obtain ⟨z56, hz56, hz56a, hz56b⟩ := hI99.int 81 32 (lo := (-2147483648)) (hi := 2147483647) (by decide) (by decide) rfl
                      have ghz56 := gv_eq hz56
                      refine w_getf (i := 81) (ci := 8) (k := 32) (npc := 109) rfl (hI99.pl (by decide)) (hI99.T (by decide) rfl) (by decide) hz56 ?_
                      refine w_if (c := .ne) (npc := 112) (pt := 132) rfl (fun hc57 => ?_) (fun hc57 => ?_)
                      · replace hc57 : z56 ≠ (0 : Int) := hc57
                        refine w_aload (i := 0) (npc := 133) rfl rfl rfl ?_
                        refine w_dup (npc := 134) rfl rfl ?_
                        refine w_getf (i := 81) (ci := 8) (k := 32) (npc := 137) rfl (hI99.pl (by decide)) (hI99.T (by decide) rfl) (by decide) hz56 ?_
                        refine w_const (n := 1) (npc := 138) rfl ?_
                        refine w_iaddw (npc := 139) rfl (fun z58 hz58 hz58b => ?_)
                        refine w_putf (i := 81) (ci := 8) (k := 32) (t := 0) (npc := 142) rfl (hI99.pl (by decide)) (hI99.T (by decide) rfl) (by decide) cm_fit0 ?_
                        have hI60 := hI99.puti (i := 81) (k := 32) (z := z58) (lo := (-2147483648)) (hi := 2147483647) (by decide) rfl (by omega)
                        have hF62 := cm_fr.up (i := 81) (k := 32) (v := ai_i z58) hF99 (by first | (simp; done) | (simp; omega) | (intro i k h; (try simp only at h); (try simp only); omega))
                        generalize hE61 : cm_up Eq99 81 32 (ai_i z58) = E59 at hI60 hF62   ⊢
                        have hz63 : E59 81 32 = ai_i z58 := by rw [← hE61, cm_up_eq]
                        have ghz63 := gv_eq hz63
                        exact w_vret rfl (⟨rfl, rfl, rfl, hI60, hF62, trivial⟩) (by omega) (by omega)
                      · replace hc57 : ¬ (z56 ≠ (0 : Int)) := hc57
                        refine w_aload (i := 0) (npc := 113) rfl rfl rfl ?_
                        refine w_getf (i := 81) (ci := 8) (k := 30) (npc := 116) rfl (hI99.pl (by decide)) (hI99.T (by decide) rfl) (by decide) (hI99.ref 81 30 (p := 99) (by decide) (by decide) rfl) ?_
                        refine w_iload (i := 4) (npc := 118) rfl rfl ?_
                        refine w_aload (i := 0) (npc := 119) rfl rfl rfl ?_
                        refine w_getf (i := 81) (ci := 8) (k := 29) (npc := 122) rfl (hI99.pl (by decide)) (hI99.T (by decide) rfl) (by decide) (hI99.ref 81 29 (p := 98) (by decide) (by decide) rfl) ?_
                        refine w_iload (i := 4) (npc := 124) rfl rfl ?_
                        obtain ⟨z64, hz64, hz64a, hz64b⟩ := hI99.int 98 (k : Int).toNat (lo := 0) (hi := 2) (by decide) (show (k : Int).toNat < 8 by omega) rfl
                        have ghz64 := gv_eq hz64
                        refine w_ald (i := 98) (t := 1) (n := 8) (npc := 125) rfl (hI99.pl (by decide)) (hI99.T (by decide) rfl) (by decide) rfl (by omega) hz64 ?_
                        refine w_ast (i := 99) (k := 1) (n := 8) (npc := 126) rfl (hI99.pl (by decide)) (hI99.T (by decide) rfl) (by decide) (by omega) cm_af1 ?_
                        have hI66 := hI99.puti (i := 99) (k := (k : Int).toNat) (z := z64) (lo := 0) (hi := 2) (by decide) rfl (by omega)
                        have hF68 := cm_fr.up (i := 99) (k := (k : Int).toNat) (v := ai_i z64) hF99 (by first | (simp; done) | (simp; omega) | (intro i k h; (try simp only at h); (try simp only); omega))
                        generalize hE67 : cm_up Eq99 99 (k : Int).toNat (ai_i z64) = E65 at hI66 hF68   ⊢
                        have hz69 : E65 81 32 = ai_i z56 := by rw [← hE67, cm_up_nei _ _ (by decide)]; exact hz56
                        have ghz69 := gv_eq hz69
                        have hz70 : E65 98 (k : Int).toNat = ai_i z64 := by rw [← hE67, cm_up_nei _ _ (by decide)]; exact hz64
                        have ghz70 := gv_eq hz70
                        have hz71 : E65 99 (k : Int).toNat = ai_i z64 := by rw [← hE67, cm_up_eq]
                        have ghz71 := gv_eq hz71
                        refine w_iinc (i := 4) (n := 1) (npc := 129) (loc' := [cr 81, ai_i n, ai_i z4, ai_i c, ai_i (k + 1)]) rfl rfl (by omega) rfl ?_
                        refine w_goto (pt := 99) rfl ?_
                        exact ih99 (k + 1) E65 (by omega) hI66 hF68 (by omega)
                exact loop99 _ (0) E12 (Nat.lt_succ_self _) hI13 hF15 (by omega)
              · replace hc47 : ¬ (c ≠ (0 : Int)) := hc47
                exact w_vret rfl (⟨rfl, rfl, rfl, hI13, hF15, trivial⟩) (by omega) (by omega)
            · replace hc46 : ¬ (z44 ≤ k) := hc46
              refine w_iload (i := 3) (npc := 59) rfl rfl ?_
              refine w_if (c := .eq) (npc := 62) (pt := 91) rfl (fun hc73 => ?_) (fun hc73 => ?_)
              · replace hc73 : c = (0 : Int) := hc73
                refine w_iload (i := 3) (npc := 92) rfl rfl ?_
                refine w_if (c := .ne) (npc := 95) (pt := 96) rfl (fun hc74 => ?_) (fun hc74 => ?_)
                · replace hc74 : c ≠ (0 : Int) := hc74
                  refine w_const (n := 0) (npc := 97) rfl ?_
                  refine w_istore (i := 4) (npc := 99) (loc' := [cr 81, ai_i n, ai_i z4, ai_i c, ai_i 0]) rfl rfl ?_
                  have loop99 : ∀ (nf : Nat) (k : Int) (Eq99 : cm_E), ((n - k).toNat) < nf → cs_I T Eq99 nx → cm_fr (fun i k => (i = 81 ∧ (k = 32 ∨ k = 33)) ∨ (i = 98 ∧ n.toNat ≤ k) ∨ i = 99 ∨ i = 100) E Eq99 → (0 ≤ k ∧ k ≤ n) → cm_wp (ai_find ai_c191 sl) (ai_ev sl (d + 1)) x (kc + 0) (ks + 0) (fun rk rv T' E' nx' => rk = 0 ∧ T = T' ∧ nx = nx' ∧ cs_I T E' nx ∧ cm_fr (fun i k => (i = 81 ∧ (k = 32 ∨ k = 33)) ∨ (i = 98 ∧ n.toNat ≤ k) ∨ i = 99 ∨ i = 100) E E' ∧ (True)) 99 [cr 81, ai_i n, ai_i z4, ai_i c, ai_i k] [] T Eq99 nx kc ks := by
                    intro nf
                    induction nf with
                    | zero => intro k Eq99 hm; exact absurd hm (Nat.not_lt_zero _)
                    | succ nf99 ih =>
                      intro k Eq99 hm99 hI99 hF99 hv99
                      have ih99 := ih; clear ih
                      refine w_iload (i := 4) (npc := 101) rfl rfl ?_
                      refine w_iload (i := 1) (npc := 102) rfl rfl ?_
                      refine w_icmp (c := .ge) (npc := 105) (pt := 132) rfl (fun hc75 => ?_) (fun hc75 => ?_)
                      · replace hc75 : n ≤ k := hc75
                        refine w_aload (i := 0) (npc := 133) rfl rfl rfl ?_
                        refine w_dup (npc := 134) rfl rfl ?_
                        obtain ⟨z76, hz76, hz76a, hz76b⟩ := hI99.int 81 32 (lo := (-2147483648)) (hi := 2147483647) (by decide) (by decide) rfl
                        have ghz76 := gv_eq hz76
                        refine w_getf (i := 81) (ci := 8) (k := 32) (npc := 137) rfl (hI99.pl (by decide)) (hI99.T (by decide) rfl) (by decide) hz76 ?_
                        refine w_const (n := 1) (npc := 138) rfl ?_
                        refine w_iaddw (npc := 139) rfl (fun z77 hz77 hz77b => ?_)
                        refine w_putf (i := 81) (ci := 8) (k := 32) (t := 0) (npc := 142) rfl (hI99.pl (by decide)) (hI99.T (by decide) rfl) (by decide) cm_fit0 ?_
                        have hI79 := hI99.puti (i := 81) (k := 32) (z := z77) (lo := (-2147483648)) (hi := 2147483647) (by decide) rfl (by omega)
                        have hF81 := cm_fr.up (i := 81) (k := 32) (v := ai_i z77) hF99 (by first | (simp; done) | (simp; omega) | (intro i k h; (try simp only at h); (try simp only); omega))
                        generalize hE80 : cm_up Eq99 81 32 (ai_i z77) = E78 at hI79 hF81   ⊢
                        have hz82 : E78 81 32 = ai_i z77 := by rw [← hE80, cm_up_eq]
                        have ghz82 := gv_eq hz82
                        exact w_vret rfl (⟨rfl, rfl, rfl, hI79, hF81, trivial⟩) (by omega) (by omega)
                      · replace hc75 : ¬ (n ≤ k) := hc75
                        refine w_aload (i := 0) (npc := 106) rfl rfl rfl ?_
                        obtain ⟨z83, hz83, hz83a, hz83b⟩ := hI99.int 81 32 (lo := (-2147483648)) (hi := 2147483647) (by decide) (by decide) rfl
                        have ghz83 := gv_eq hz83
                        refine w_getf (i := 81) (ci := 8) (k := 32) (npc := 109) rfl (hI99.pl (by decide)) (hI99.T (by decide) rfl) (by decide) hz83 ?_
                        refine w_if (c := .ne) (npc := 112) (pt := 132) rfl (fun hc84 => ?_) (fun hc84 => ?_)
                        · replace hc84 : z83 ≠ (0 : Int) := hc84
                          refine w_aload (i := 0) (npc := 133) rfl rfl rfl ?_
                          refine w_dup (npc := 134) rfl rfl ?_
                          refine w_getf (i := 81) (ci := 8) (k := 32) (npc := 137) rfl (hI99.pl (by decide)) (hI99.T (by decide) rfl) (by decide) hz83 ?_
                          refine w_const (n := 1) (npc := 138) rfl ?_
                          refine w_iaddw (npc := 139) rfl (fun z85 hz85 hz85b => ?_)
                          refine w_putf (i := 81) (ci := 8) (k := 32) (t := 0) (npc := 142) rfl (hI99.pl (by decide)) (hI99.T (by decide) rfl) (by decide) cm_fit0 ?_
                          have hI87 := hI99.puti (i := 81) (k := 32) (z := z85) (lo := (-2147483648)) (hi := 2147483647) (by decide) rfl (by omega)
                          have hF89 := cm_fr.up (i := 81) (k := 32) (v := ai_i z85) hF99 (by first | (simp; done) | (simp; omega) | (intro i k h; (try simp only at h); (try simp only); omega))
                          generalize hE88 : cm_up Eq99 81 32 (ai_i z85) = E86 at hI87 hF89   ⊢
                          have hz90 : E86 81 32 = ai_i z85 := by rw [← hE88, cm_up_eq]
                          have ghz90 := gv_eq hz90
                          exact w_vret rfl (⟨rfl, rfl, rfl, hI87, hF89, trivial⟩) (by omega) (by omega)
                        · replace hc84 : ¬ (z83 ≠ (0 : Int)) := hc84
                          refine w_aload (i := 0) (npc := 113) rfl rfl rfl ?_
                          refine w_getf (i := 81) (ci := 8) (k := 30) (npc := 116) rfl (hI99.pl (by decide)) (hI99.T (by decide) rfl) (by decide) (hI99.ref 81 30 (p := 99) (by decide) (by decide) rfl) ?_
                          refine w_iload (i := 4) (npc := 118) rfl rfl ?_
                          refine w_aload (i := 0) (npc := 119) rfl rfl rfl ?_
                          refine w_getf (i := 81) (ci := 8) (k := 29) (npc := 122) rfl (hI99.pl (by decide)) (hI99.T (by decide) rfl) (by decide) (hI99.ref 81 29 (p := 98) (by decide) (by decide) rfl) ?_
                          refine w_iload (i := 4) (npc := 124) rfl rfl ?_
                          obtain ⟨z91, hz91, hz91a, hz91b⟩ := hI99.int 98 (k : Int).toNat (lo := 0) (hi := 2) (by decide) (show (k : Int).toNat < 8 by omega) rfl
                          have ghz91 := gv_eq hz91
                          refine w_ald (i := 98) (t := 1) (n := 8) (npc := 125) rfl (hI99.pl (by decide)) (hI99.T (by decide) rfl) (by decide) rfl (by omega) hz91 ?_
                          refine w_ast (i := 99) (k := 1) (n := 8) (npc := 126) rfl (hI99.pl (by decide)) (hI99.T (by decide) rfl) (by decide) (by omega) cm_af1 ?_
                          have hI93 := hI99.puti (i := 99) (k := (k : Int).toNat) (z := z91) (lo := 0) (hi := 2) (by decide) rfl (by omega)
                          have hF95 := cm_fr.up (i := 99) (k := (k : Int).toNat) (v := ai_i z91) hF99 (by first | (simp; done) | (simp; omega) | (intro i k h; (try simp only at h); (try simp only); omega))
                          generalize hE94 : cm_up Eq99 99 (k : Int).toNat (ai_i z91) = E92 at hI93 hF95   ⊢
                          have hz96 : E92 81 32 = ai_i z83 := by rw [← hE94, cm_up_nei _ _ (by decide)]; exact hz83
                          have ghz96 := gv_eq hz96
                          have hz97 : E92 98 (k : Int).toNat = ai_i z91 := by rw [← hE94, cm_up_nei _ _ (by decide)]; exact hz91
                          have ghz97 := gv_eq hz97
                          have hz98 : E92 99 (k : Int).toNat = ai_i z91 := by rw [← hE94, cm_up_eq]
                          have ghz98 := gv_eq hz98
                          refine w_iinc (i := 4) (n := 1) (npc := 129) (loc' := [cr 81, ai_i n, ai_i z4, ai_i c, ai_i (k + 1)]) rfl rfl (by omega) rfl ?_
                          refine w_goto (pt := 99) rfl ?_
                          exact ih99 (k + 1) E92 (by omega) hI93 hF95 (by omega)
                  exact loop99 _ (0) E12 (Nat.lt_succ_self _) hI13 hF15 (by omega)
                · replace hc74 : ¬ (c ≠ (0 : Int)) := hc74
                  exact w_vret rfl (⟨rfl, rfl, rfl, hI13, hF15, trivial⟩) (by omega) (by omega)
              · replace hc73 : ¬ (c = (0 : Int)) := hc73
                refine w_aload (i := 0) (npc := 63) rfl rfl rfl ?_
                refine w_getf (i := 81) (ci := 8) (k := 31) (npc := 66) rfl (hI13.pl (by decide)) (hI13.T (by decide) rfl) (by decide) (hI13.ref 81 31 (p := 100) (by decide) (by decide) rfl) ?_
                refine w_iload (i := 4) (npc := 68) rfl rfl ?_
                obtain ⟨z100, hz100, hz100a, hz100b⟩ := hI13.int 100 (k : Int).toNat (lo := (-1)) (hi := 126) (by decide) (show (k : Int).toNat < 8 by omega) rfl
                have ghz100 := gv_eq hz100
                refine w_ald (i := 100) (t := 1) (n := 8) (npc := 69) rfl (hI13.pl (by decide)) (hI13.T (by decide) rfl) (by decide) rfl (by omega) hz100 ?_
                refine w_aload (i := 0) (npc := 70) rfl rfl rfl ?_
                refine w_getf (i := 81) (ci := 8) (k := 25) (npc := 73) rfl (hI13.pl (by decide)) (hI13.T (by decide) rfl) (by decide) (hI13.ref 81 25 (p := 94) (by decide) (by decide) rfl) ?_
                refine w_iload (i := 4) (npc := 75) rfl rfl ?_
                obtain ⟨z101, hz101, hz101a, hz101b⟩ := hI13.int 94 (k : Int).toNat (lo := 0) (hi := 126) (by decide) (show (k : Int).toNat < 12 by omega) rfl
                have ghz101 := gv_eq hz101
                have g0hz101 : gv E 94 (k : Int).toNat = z101 := (gv_fr hF15 (by simp)).trans ghz101
                refine w_ald (i := 94) (t := 1) (n := 12) (npc := 76) rfl (hI13.pl (by decide)) (hI13.T (by decide) rfl) (by decide) rfl (by omega) hz101 ?_
                refine w_icmp (c := .ne) (npc := 79) (pt := 83) rfl (fun hc102 => ?_) (fun hc102 => ?_)
                · replace hc102 : z100 ≠ z101 := hc102
                  refine w_const (n := 0) (npc := 84) rfl ?_
                  refine w_istore (i := 3) (npc := 85) (loc' := [cr 81, ai_i n, ai_i z4, ai_i 0, ai_i k]) rfl rfl ?_
                  refine w_iinc (i := 4) (n := 1) (npc := 88) (loc' := [cr 81, ai_i n, ai_i z4, ai_i 0, ai_i (k + 1)]) rfl rfl (by omega) rfl ?_
                  refine w_goto (pt := 49) rfl ?_
                  exact ih49 (0) (k + 1) (by omega) (by omega)
                · replace hc102 : ¬ (z100 ≠ z101) := hc102
                  refine w_const (n := 1) (npc := 80) rfl ?_
                  refine w_goto (pt := 84) rfl ?_
                  refine w_istore (i := 3) (npc := 85) (loc' := [cr 81, ai_i n, ai_i z4, ai_i 1, ai_i k]) rfl rfl ?_
                  refine w_iinc (i := 4) (n := 1) (npc := 88) (loc' := [cr 81, ai_i n, ai_i z4, ai_i 1, ai_i (k + 1)]) rfl rfl (by omega) rfl ?_
                  refine w_goto (pt := 49) rfl ?_
                  exact ih49 (1) (k + 1) (by omega) (by omega)
        exact loop49 _ (0) (0) (Nat.lt_succ_self _) (by omega)
      · replace hc45 : ¬ (z4 ≠ z44) := hc45
        refine w_const (n := 1) (npc := 41) rfl ?_
        refine w_goto (pt := 45) rfl ?_
        refine w_istore (i := 3) (npc := 46) (loc' := [cr 81, ai_i n, ai_i z4, ai_i 1, ai_un]) rfl rfl ?_
        refine w_const (n := 0) (npc := 47) rfl ?_
        refine w_istore (i := 4) (npc := 49) (loc' := [cr 81, ai_i n, ai_i z4, ai_i 1, ai_i 0]) rfl rfl ?_
        have loop49 : ∀ (nf : Nat) (c : Int) (k : Int), ((12 - k).toNat) < nf → (0 ≤ k ∧ k ≤ 12 ∧ 0 ≤ c ∧ c ≤ 1 ∧ (c = 1 → gv E12 81 23 = (z4))) → cm_wp (ai_find ai_c191 sl) (ai_ev sl (d + 1)) x (kc + 0) (ks + 0) (fun rk rv T' E' nx' => rk = 0 ∧ T = T' ∧ nx = nx' ∧ cs_I T E' nx ∧ cm_fr (fun i k => (i = 81 ∧ (k = 32 ∨ k = 33)) ∨ (i = 98 ∧ n.toNat ≤ k) ∨ i = 99 ∨ i = 100) E E' ∧ (True)) 49 [cr 81, ai_i n, ai_i z4, ai_i c, ai_i k] [] T E12 nx kc ks := by
          intro nf
          induction nf with
          | zero => intro c k hm; exact absurd hm (Nat.not_lt_zero _)
          | succ nf49 ih =>
            intro c k hm49 hv49
            have ih49 := ih; clear ih
            refine w_iload (i := 4) (npc := 51) rfl rfl ?_
            refine w_aload (i := 0) (npc := 52) rfl rfl rfl ?_
            refine w_getf (i := 81) (ci := 8) (k := 23) (npc := 55) rfl (hI13.pl (by decide)) (hI13.T (by decide) rfl) (by decide) hz44 ?_
            refine w_icmp (c := .ge) (npc := 58) (pt := 91) rfl (fun hc105 => ?_) (fun hc105 => ?_)
            · replace hc105 : z44 ≤ k := hc105
              refine w_iload (i := 3) (npc := 92) rfl rfl ?_
              refine w_if (c := .ne) (npc := 95) (pt := 96) rfl (fun hc106 => ?_) (fun hc106 => ?_)
              · replace hc106 : c ≠ (0 : Int) := hc106
                refine w_const (n := 0) (npc := 97) rfl ?_
                refine w_istore (i := 4) (npc := 99) (loc' := [cr 81, ai_i n, ai_i z4, ai_i c, ai_i 0]) rfl rfl ?_
                have loop99 : ∀ (nf : Nat) (k : Int) (Eq99 : cm_E), ((n - k).toNat) < nf → cs_I T Eq99 nx → cm_fr (fun i k => (i = 81 ∧ (k = 32 ∨ k = 33)) ∨ (i = 98 ∧ n.toNat ≤ k) ∨ i = 99 ∨ i = 100) E Eq99 → (0 ≤ k ∧ k ≤ n) → cm_wp (ai_find ai_c191 sl) (ai_ev sl (d + 1)) x (kc + 0) (ks + 0) (fun rk rv T' E' nx' => rk = 0 ∧ T = T' ∧ nx = nx' ∧ cs_I T E' nx ∧ cm_fr (fun i k => (i = 81 ∧ (k = 32 ∨ k = 33)) ∨ (i = 98 ∧ n.toNat ≤ k) ∨ i = 99 ∨ i = 100) E E' ∧ (True)) 99 [cr 81, ai_i n, ai_i z4, ai_i c, ai_i k] [] T Eq99 nx kc ks := by
                  intro nf
                  induction nf with
                  | zero => intro k Eq99 hm; exact absurd hm (Nat.not_lt_zero _)
                  | succ nf99 ih =>
                    intro k Eq99 hm99 hI99 hF99 hv99
                    have ih99 := ih; clear ih
                    refine w_iload (i := 4) (npc := 101) rfl rfl ?_
                    refine w_iload (i := 1) (npc := 102) rfl rfl ?_
                    refine w_icmp (c := .ge) (npc := 105) (pt := 132) rfl (fun hc107 => ?_) (fun hc107 => ?_)
                    · replace hc107 : n ≤ k := hc107
                      refine w_aload (i := 0) (npc := 133) rfl rfl rfl ?_
                      refine w_dup (npc := 134) rfl rfl ?_
                      obtain ⟨z108, hz108, hz108a, hz108b⟩ := hI99.int 81 32 (lo := (-2147483648)) (hi := 2147483647) (by decide) (by decide) rfl
                      have ghz108 := gv_eq hz108
                      refine w_getf (i := 81) (ci := 8) (k := 32) (npc := 137) rfl (hI99.pl (by decide)) (hI99.T (by decide) rfl) (by decide) hz108 ?_
                      refine w_const (n := 1) (npc := 138) rfl ?_
                      refine w_iaddw (npc := 139) rfl (fun z109 hz109 hz109b => ?_)
                      refine w_putf (i := 81) (ci := 8) (k := 32) (t := 0) (npc := 142) rfl (hI99.pl (by decide)) (hI99.T (by decide) rfl) (by decide) cm_fit0 ?_
                      have hI111 := hI99.puti (i := 81) (k := 32) (z := z109) (lo := (-2147483648)) (hi := 2147483647) (by decide) rfl (by omega)
                      have hF113 := cm_fr.up (i := 81) (k := 32) (v := ai_i z109) hF99 (by first | (simp; done) | (simp; omega) | (intro i k h; (try simp only at h); (try simp only); omega))
                      generalize hE112 : cm_up Eq99 81 32 (ai_i z109) = E110 at hI111 hF113   ⊢
                      have hz114 : E110 81 32 = ai_i z109 := by rw [← hE112, cm_up_eq]
                      have ghz114 := gv_eq hz114
                      exact w_vret rfl (⟨rfl, rfl, rfl, hI111, hF113, trivial⟩) (by omega) (by omega)
                    · replace hc107 : ¬ (n ≤ k) := hc107
                      refine w_aload (i := 0) (npc := 106) rfl rfl rfl ?_
                      obtain ⟨z115, hz115, hz115a, hz115b⟩ := hI99.int 81 32 (lo := (-2147483648)) (hi := 2147483647) (by decide) (by decide) rfl
                      have ghz115 := gv_eq hz115
                      refine w_getf (i := 81) (ci := 8) (k := 32) (npc := 109) rfl (hI99.pl (by decide)) (hI99.T (by decide) rfl) (by decide) hz115 ?_
                      refine w_if (c := .ne) (npc := 112) (pt := 132) rfl (fun hc116 => ?_) (fun hc116 => ?_)
                      · replace hc116 : z115 ≠ (0 : Int) := hc116
                        refine w_aload (i := 0) (npc := 133) rfl rfl rfl ?_
                        refine w_dup (npc := 134) rfl rfl ?_
                        refine w_getf (i := 81) (ci := 8) (k := 32) (npc := 137) rfl (hI99.pl (by decide)) (hI99.T (by decide) rfl) (by decide) hz115 ?_
                        refine w_const (n := 1) (npc := 138) rfl ?_
                        refine w_iaddw (npc := 139) rfl (fun z117 hz117 hz117b => ?_)
                        refine w_putf (i := 81) (ci := 8) (k := 32) (t := 0) (npc := 142) rfl (hI99.pl (by decide)) (hI99.T (by decide) rfl) (by decide) cm_fit0 ?_
                        have hI119 := hI99.puti (i := 81) (k := 32) (z := z117) (lo := (-2147483648)) (hi := 2147483647) (by decide) rfl (by omega)
                        have hF121 := cm_fr.up (i := 81) (k := 32) (v := ai_i z117) hF99 (by first | (simp; done) | (simp; omega) | (intro i k h; (try simp only at h); (try simp only); omega))
                        generalize hE120 : cm_up Eq99 81 32 (ai_i z117) = E118 at hI119 hF121   ⊢
                        have hz122 : E118 81 32 = ai_i z117 := by rw [← hE120, cm_up_eq]
                        have ghz122 := gv_eq hz122
                        exact w_vret rfl (⟨rfl, rfl, rfl, hI119, hF121, trivial⟩) (by omega) (by omega)
                      · replace hc116 : ¬ (z115 ≠ (0 : Int)) := hc116
                        refine w_aload (i := 0) (npc := 113) rfl rfl rfl ?_
                        refine w_getf (i := 81) (ci := 8) (k := 30) (npc := 116) rfl (hI99.pl (by decide)) (hI99.T (by decide) rfl) (by decide) (hI99.ref 81 30 (p := 99) (by decide) (by decide) rfl) ?_
                        refine w_iload (i := 4) (npc := 118) rfl rfl ?_
                        refine w_aload (i := 0) (npc := 119) rfl rfl rfl ?_
                        refine w_getf (i := 81) (ci := 8) (k := 29) (npc := 122) rfl (hI99.pl (by decide)) (hI99.T (by decide) rfl) (by decide) (hI99.ref 81 29 (p := 98) (by decide) (by decide) rfl) ?_
                        refine w_iload (i := 4) (npc := 124) rfl rfl ?_
                        obtain ⟨z123, hz123, hz123a, hz123b⟩ := hI99.int 98 (k : Int).toNat (lo := 0) (hi := 2) (by decide) (show (k : Int).toNat < 8 by omega) rfl
                        have ghz123 := gv_eq hz123
                        refine w_ald (i := 98) (t := 1) (n := 8) (npc := 125) rfl (hI99.pl (by decide)) (hI99.T (by decide) rfl) (by decide) rfl (by omega) hz123 ?_
                        refine w_ast (i := 99) (k := 1) (n := 8) (npc := 126) rfl (hI99.pl (by decide)) (hI99.T (by decide) rfl) (by decide) (by omega) cm_af1 ?_
                        have hI125 := hI99.puti (i := 99) (k := (k : Int).toNat) (z := z123) (lo := 0) (hi := 2) (by decide) rfl (by omega)
                        have hF127 := cm_fr.up (i := 99) (k := (k : Int).toNat) (v := ai_i z123) hF99 (by first | (simp; done) | (simp; omega) | (intro i k h; (try simp only at h); (try simp only); omega))
                        generalize hE126 : cm_up Eq99 99 (k : Int).toNat (ai_i z123) = E124 at hI125 hF127   ⊢
                        have hz128 : E124 81 32 = ai_i z115 := by rw [← hE126, cm_up_nei _ _ (by decide)]; exact hz115
                        have ghz128 := gv_eq hz128
                        have hz129 : E124 98 (k : Int).toNat = ai_i z123 := by rw [← hE126, cm_up_nei _ _ (by decide)]; exact hz123
                        have ghz129 := gv_eq hz129
                        have hz130 : E124 99 (k : Int).toNat = ai_i z123 := by rw [← hE126, cm_up_eq]
                        have ghz130 := gv_eq hz130
                        refine w_iinc (i := 4) (n := 1) (npc := 129) (loc' := [cr 81, ai_i n, ai_i z4, ai_i c, ai_i (k + 1)]) rfl rfl (by omega) rfl ?_
                        refine w_goto (pt := 99) rfl ?_
                        exact ih99 (k + 1) E124 (by omega) hI125 hF127 (by omega)
                exact loop99 _ (0) E12 (Nat.lt_succ_self _) hI13 hF15 (by omega)
              · replace hc106 : ¬ (c ≠ (0 : Int)) := hc106
                exact w_vret rfl (⟨rfl, rfl, rfl, hI13, hF15, trivial⟩) (by omega) (by omega)
            · replace hc105 : ¬ (z44 ≤ k) := hc105
              refine w_iload (i := 3) (npc := 59) rfl rfl ?_
              refine w_if (c := .eq) (npc := 62) (pt := 91) rfl (fun hc132 => ?_) (fun hc132 => ?_)
              · replace hc132 : c = (0 : Int) := hc132
                refine w_iload (i := 3) (npc := 92) rfl rfl ?_
                refine w_if (c := .ne) (npc := 95) (pt := 96) rfl (fun hc133 => ?_) (fun hc133 => ?_)
                · replace hc133 : c ≠ (0 : Int) := hc133
                  refine w_const (n := 0) (npc := 97) rfl ?_
                  refine w_istore (i := 4) (npc := 99) (loc' := [cr 81, ai_i n, ai_i z4, ai_i c, ai_i 0]) rfl rfl ?_
                  have loop99 : ∀ (nf : Nat) (k : Int) (Eq99 : cm_E), ((n - k).toNat) < nf → cs_I T Eq99 nx → cm_fr (fun i k => (i = 81 ∧ (k = 32 ∨ k = 33)) ∨ (i = 98 ∧ n.toNat ≤ k) ∨ i = 99 ∨ i = 100) E Eq99 → (0 ≤ k ∧ k ≤ n) → cm_wp (ai_find ai_c191 sl) (ai_ev sl (d + 1)) x (kc + 0) (ks + 0) (fun rk rv T' E' nx' => rk = 0 ∧ T = T' ∧ nx = nx' ∧ cs_I T E' nx ∧ cm_fr (fun i k => (i = 81 ∧ (k = 32 ∨ k = 33)) ∨ (i = 98 ∧ n.toNat ≤ k) ∨ i = 99 ∨ i = 100) E E' ∧ (True)) 99 [cr 81, ai_i n, ai_i z4, ai_i c, ai_i k] [] T Eq99 nx kc ks := by
                    intro nf
                    induction nf with
                    | zero => intro k Eq99 hm; exact absurd hm (Nat.not_lt_zero _)
                    | succ nf99 ih =>
                      intro k Eq99 hm99 hI99 hF99 hv99
                      have ih99 := ih; clear ih
                      refine w_iload (i := 4) (npc := 101) rfl rfl ?_
                      refine w_iload (i := 1) (npc := 102) rfl rfl ?_
                      refine w_icmp (c := .ge) (npc := 105) (pt := 132) rfl (fun hc134 => ?_) (fun hc134 => ?_)
                      · replace hc134 : n ≤ k := hc134
                        refine w_aload (i := 0) (npc := 133) rfl rfl rfl ?_
                        refine w_dup (npc := 134) rfl rfl ?_
                        obtain ⟨z135, hz135, hz135a, hz135b⟩ := hI99.int 81 32 (lo := (-2147483648)) (hi := 2147483647) (by decide) (by decide) rfl
                        have ghz135 := gv_eq hz135
                        refine w_getf (i := 81) (ci := 8) (k := 32) (npc := 137) rfl (hI99.pl (by decide)) (hI99.T (by decide) rfl) (by decide) hz135 ?_
                        refine w_const (n := 1) (npc := 138) rfl ?_
                        refine w_iaddw (npc := 139) rfl (fun z136 hz136 hz136b => ?_)
                        refine w_putf (i := 81) (ci := 8) (k := 32) (t := 0) (npc := 142) rfl (hI99.pl (by decide)) (hI99.T (by decide) rfl) (by decide) cm_fit0 ?_
                        have hI138 := hI99.puti (i := 81) (k := 32) (z := z136) (lo := (-2147483648)) (hi := 2147483647) (by decide) rfl (by omega)
                        have hF140 := cm_fr.up (i := 81) (k := 32) (v := ai_i z136) hF99 (by first | (simp; done) | (simp; omega) | (intro i k h; (try simp only at h); (try simp only); omega))
                        generalize hE139 : cm_up Eq99 81 32 (ai_i z136) = E137 at hI138 hF140   ⊢
                        have hz141 : E137 81 32 = ai_i z136 := by rw [← hE139, cm_up_eq]
                        have ghz141 := gv_eq hz141
                        exact w_vret rfl (⟨rfl, rfl, rfl, hI138, hF140, trivial⟩) (by omega) (by omega)
                      · replace hc134 : ¬ (n ≤ k) := hc134
                        refine w_aload (i := 0) (npc := 106) rfl rfl rfl ?_
                        obtain ⟨z142, hz142, hz142a, hz142b⟩ := hI99.int 81 32 (lo := (-2147483648)) (hi := 2147483647) (by decide) (by decide) rfl
                        have ghz142 := gv_eq hz142
                        refine w_getf (i := 81) (ci := 8) (k := 32) (npc := 109) rfl (hI99.pl (by decide)) (hI99.T (by decide) rfl) (by decide) hz142 ?_
                        refine w_if (c := .ne) (npc := 112) (pt := 132) rfl (fun hc143 => ?_) (fun hc143 => ?_)
                        · replace hc143 : z142 ≠ (0 : Int) := hc143
                          refine w_aload (i := 0) (npc := 133) rfl rfl rfl ?_
                          refine w_dup (npc := 134) rfl rfl ?_
                          refine w_getf (i := 81) (ci := 8) (k := 32) (npc := 137) rfl (hI99.pl (by decide)) (hI99.T (by decide) rfl) (by decide) hz142 ?_
                          refine w_const (n := 1) (npc := 138) rfl ?_
                          refine w_iaddw (npc := 139) rfl (fun z144 hz144 hz144b => ?_)
                          refine w_putf (i := 81) (ci := 8) (k := 32) (t := 0) (npc := 142) rfl (hI99.pl (by decide)) (hI99.T (by decide) rfl) (by decide) cm_fit0 ?_
                          have hI146 := hI99.puti (i := 81) (k := 32) (z := z144) (lo := (-2147483648)) (hi := 2147483647) (by decide) rfl (by omega)
                          have hF148 := cm_fr.up (i := 81) (k := 32) (v := ai_i z144) hF99 (by first | (simp; done) | (simp; omega) | (intro i k h; (try simp only at h); (try simp only); omega))
                          generalize hE147 : cm_up Eq99 81 32 (ai_i z144) = E145 at hI146 hF148   ⊢
                          have hz149 : E145 81 32 = ai_i z144 := by rw [← hE147, cm_up_eq]
                          have ghz149 := gv_eq hz149
                          exact w_vret rfl (⟨rfl, rfl, rfl, hI146, hF148, trivial⟩) (by omega) (by omega)
                        · replace hc143 : ¬ (z142 ≠ (0 : Int)) := hc143
                          refine w_aload (i := 0) (npc := 113) rfl rfl rfl ?_
                          refine w_getf (i := 81) (ci := 8) (k := 30) (npc := 116) rfl (hI99.pl (by decide)) (hI99.T (by decide) rfl) (by decide) (hI99.ref 81 30 (p := 99) (by decide) (by decide) rfl) ?_
                          refine w_iload (i := 4) (npc := 118) rfl rfl ?_
                          refine w_aload (i := 0) (npc := 119) rfl rfl rfl ?_
                          refine w_getf (i := 81) (ci := 8) (k := 29) (npc := 122) rfl (hI99.pl (by decide)) (hI99.T (by decide) rfl) (by decide) (hI99.ref 81 29 (p := 98) (by decide) (by decide) rfl) ?_
                          refine w_iload (i := 4) (npc := 124) rfl rfl ?_
                          obtain ⟨z150, hz150, hz150a, hz150b⟩ := hI99.int 98 (k : Int).toNat (lo := 0) (hi := 2) (by decide) (show (k : Int).toNat < 8 by omega) rfl
                          have ghz150 := gv_eq hz150
                          refine w_ald (i := 98) (t := 1) (n := 8) (npc := 125) rfl (hI99.pl (by decide)) (hI99.T (by decide) rfl) (by decide) rfl (by omega) hz150 ?_
                          refine w_ast (i := 99) (k := 1) (n := 8) (npc := 126) rfl (hI99.pl (by decide)) (hI99.T (by decide) rfl) (by decide) (by omega) cm_af1 ?_
                          have hI152 := hI99.puti (i := 99) (k := (k : Int).toNat) (z := z150) (lo := 0) (hi := 2) (by decide) rfl (by omega)
                          have hF154 := cm_fr.up (i := 99) (k := (k : Int).toNat) (v := ai_i z150) hF99 (by first | (simp; done) | (simp; omega) | (intro i k h; (try simp only at h); (try simp only); omega))
                          generalize hE153 : cm_up Eq99 99 (k : Int).toNat (ai_i z150) = E151 at hI152 hF154   ⊢
                          have hz155 : E151 81 32 = ai_i z142 := by rw [← hE153, cm_up_nei _ _ (by decide)]; exact hz142
                          have ghz155 := gv_eq hz155
                          have hz156 : E151 98 (k : Int).toNat = ai_i z150 := by rw [← hE153, cm_up_nei _ _ (by decide)]; exact hz150
                          have ghz156 := gv_eq hz156
                          have hz157 : E151 99 (k : Int).toNat = ai_i z150 := by rw [← hE153, cm_up_eq]
                          have ghz157 := gv_eq hz157
                          refine w_iinc (i := 4) (n := 1) (npc := 129) (loc' := [cr 81, ai_i n, ai_i z4, ai_i c, ai_i (k + 1)]) rfl rfl (by omega) rfl ?_
                          refine w_goto (pt := 99) rfl ?_
                          exact ih99 (k + 1) E151 (by omega) hI152 hF154 (by omega)
                  exact loop99 _ (0) E12 (Nat.lt_succ_self _) hI13 hF15 (by omega)
                · replace hc133 : ¬ (c ≠ (0 : Int)) := hc133
                  exact w_vret rfl (⟨rfl, rfl, rfl, hI13, hF15, trivial⟩) (by omega) (by omega)
              · replace hc132 : ¬ (c = (0 : Int)) := hc132
                refine w_aload (i := 0) (npc := 63) rfl rfl rfl ?_
                refine w_getf (i := 81) (ci := 8) (k := 31) (npc := 66) rfl (hI13.pl (by decide)) (hI13.T (by decide) rfl) (by decide) (hI13.ref 81 31 (p := 100) (by decide) (by decide) rfl) ?_
                refine w_iload (i := 4) (npc := 68) rfl rfl ?_
                obtain ⟨z159, hz159, hz159a, hz159b⟩ := hI13.int 100 (k : Int).toNat (lo := (-1)) (hi := 126) (by decide) (show (k : Int).toNat < 8 by omega) rfl
                have ghz159 := gv_eq hz159
                refine w_ald (i := 100) (t := 1) (n := 8) (npc := 69) rfl (hI13.pl (by decide)) (hI13.T (by decide) rfl) (by decide) rfl (by omega) hz159 ?_
                refine w_aload (i := 0) (npc := 70) rfl rfl rfl ?_
                refine w_getf (i := 81) (ci := 8) (k := 25) (npc := 73) rfl (hI13.pl (by decide)) (hI13.T (by decide) rfl) (by decide) (hI13.ref 81 25 (p := 94) (by decide) (by decide) rfl) ?_
                refine w_iload (i := 4) (npc := 75) rfl rfl ?_
                obtain ⟨z160, hz160, hz160a, hz160b⟩ := hI13.int 94 (k : Int).toNat (lo := 0) (hi := 126) (by decide) (show (k : Int).toNat < 12 by omega) rfl
                have ghz160 := gv_eq hz160
                have g0hz160 : gv E 94 (k : Int).toNat = z160 := (gv_fr hF15 (by simp)).trans ghz160
                refine w_ald (i := 94) (t := 1) (n := 12) (npc := 76) rfl (hI13.pl (by decide)) (hI13.T (by decide) rfl) (by decide) rfl (by omega) hz160 ?_
                refine w_icmp (c := .ne) (npc := 79) (pt := 83) rfl (fun hc161 => ?_) (fun hc161 => ?_)
                · replace hc161 : z159 ≠ z160 := hc161
                  refine w_const (n := 0) (npc := 84) rfl ?_
                  refine w_istore (i := 3) (npc := 85) (loc' := [cr 81, ai_i n, ai_i z4, ai_i 0, ai_i k]) rfl rfl ?_
                  refine w_iinc (i := 4) (n := 1) (npc := 88) (loc' := [cr 81, ai_i n, ai_i z4, ai_i 0, ai_i (k + 1)]) rfl rfl (by omega) rfl ?_
                  refine w_goto (pt := 49) rfl ?_
                  exact ih49 (0) (k + 1) (by omega) (by omega)
                · replace hc161 : ¬ (z159 ≠ z160) := hc161
                  refine w_const (n := 1) (npc := 80) rfl ?_
                  refine w_goto (pt := 84) rfl ?_
                  refine w_istore (i := 3) (npc := 85) (loc' := [cr 81, ai_i n, ai_i z4, ai_i 1, ai_i k]) rfl rfl ?_
                  refine w_iinc (i := 4) (n := 1) (npc := 88) (loc' := [cr 81, ai_i n, ai_i z4, ai_i 1, ai_i (k + 1)]) rfl rfl (by omega) rfl ?_
                  refine w_goto (pt := 49) rfl ?_
                  exact ih49 (1) (k + 1) (by omega) (by omega)
        exact loop49 _ (1) (0) (Nat.lt_succ_self _) (by omega)
  · replace hc9 : ¬ (z4 ≠ ((-1) : Int)) := hc9
    exact w_vret rfl (⟨rfl, rfl, rfl, hI5, hF7, trivial⟩) (by omega) (by omega)
