set_option maxRecDepth 16384 in
theorem ct_m_move {sl : Int × Int} {x : ai_E} {d : Nat} {T : cm_T} {E : cm_E} {nx : Nat} (p f t c : Int) (hI : cs_I T E nx) (hR : rl E) : cm_ct (ai_ev sl (d + 8)) x 186 [cr 81, ai_i p, ai_i f, ai_i t, ai_i c] T E nx 0 0 (fun rk rv T' E' nx' => rk = 1 ∧ T = T' ∧ nx = nx' ∧ cs_I T E' nx ∧ cm_fr (fun i k => (i = 81 ∧ (k = 0 ∨ k = 12 ∨ k = 13)) ∨ i = 82 ∨ i = 83 ∨ i = 84 ∨ i = 85 ∨ i = 86 ∨ i = 87 ∨ i = 88 ∨ i = 89 ∨ i = 90 ∨ i = 91) E E' ∧ rl E' ∧ ∃ z : Int, rv = ai_i z ∧ (True)) := by
  refine cm_body (M := ai_m186) rfl rfl (fun kc ks => ?_)
  show cm_wp (ai_find ai_c186 sl) (ai_ev sl (d + 7)) x (kc + 0) (ks + 0) _ 0 [cr 81, ai_i p, ai_i f, ai_i t, ai_i c, ai_un, ai_un, ai_un, ai_un, ai_un] [] T E nx kc ks
  have hF : cm_fr (fun i k => (i = 81 ∧ (k = 0 ∨ k = 12 ∨ k = 13)) ∨ i = 82 ∨ i = 83 ∨ i = 84 ∨ i = 85 ∨ i = 86 ∨ i = 87 ∨ i = 88 ∨ i = 89 ∨ i = 90 ∨ i = 91) E E := fun _ _ _ => rfl
  refine w_aload (i := 0) (npc := 1) rfl rfl rfl ?_
  refine w_const (n := 0) (npc := 2) rfl ?_
  refine w_putf (i := 81) (ci := 8) (k := 0) (t := 0) (npc := 5) rfl (hI.pl (by decide)) (hI.T (by decide) rfl) (by decide) cm_fit0 ?_
  have hI2 := hI.puti (i := 81) (k := 0) (z := 0) (lo := 0) (hi := 2) (by decide) rfl (by omega)
  have hF4 := cm_fr.up (i := 81) (k := 0) (v := ai_i 0) hF (by first | (simp; done) | (simp; omega) | (intro i k h; (try simp only at h); (try simp only); omega))
  have hR5 := rl.wr (i := 81) (k := 0) (v := ai_i 0) hR (by simp)
  generalize hE3 : cm_up E 81 0 (ai_i 0) = E1 at hI2 hF4 hR5  ⊢
  have hz6 : E1 81 0 = ai_i 0 := by rw [← hE3, cm_up_eq]
  have ghz6 := gv_eq hz6
  refine w_aload (i := 0) (npc := 6) rfl rfl rfl ?_
  refine w_iload (i := 1) (npc := 7) rfl rfl ?_
  obtain ⟨z7, hz7, hz7a, hz7b⟩ := hI2.int 81 13 (lo := 0) (hi := 300) (by decide) (by decide) rfl
  have ghz7 := gv_eq hz7
  refine w_virt (ci := 8) (i := 81) (npc := 10) (a := [cr 81, ai_i p]) (rest := []) rfl rfl (hI2.pl (by decide)) (hI2.T (by decide) rfl) rfl rfl rfl rfl (ct_m_isWriter (sl := sl) (x := x) (d := d + 5) (p) hI2) (Or.inl rfl) (fun k9 v9 T9 E9 nx9 kc9 ks9 hq8 hk9 hs9 => ?_)
  obtain ⟨rfl, rfl, rfl, rfl, z10, rfl, hz10⟩ := hq8
  obtain rfl : kc = kc9 := by omega
  obtain rfl : ks = ks9 := by omega
  refine Or.inr (Or.inl ⟨rfl, ?_⟩)
  have hl11 := gv_fr hF4 (i := 81) (k := 1) (by simp)
  refine w_if (c := .ne) (npc := 13) (pt := 19) rfl (fun hc12 => ?_) (fun hc12 => ?_)
  · replace hc12 : z10 ≠ (0 : Int) := hc12
    refine w_aload (i := 0) (npc := 20) rfl rfl rfl ?_
    refine w_iload (i := 1) (npc := 21) rfl rfl ?_
    refine w_virt (ci := 8) (i := 81) (npc := 24) (a := [cr 81, ai_i p]) (rest := []) rfl rfl (hI2.pl (by decide)) (hI2.T (by decide) rfl) rfl rfl rfl rfl (ct_m_tellPage (sl := sl) (x := x) (d := d + 0) (p) hI2 hR5 (by omega)) (Or.inl rfl) (fun k9 v9 T9 E14 nx9 kc9 ks9 hq13 hk9 hs9 => ?_)
    obtain ⟨rfl, rfl, rfl, hI16, hG17, hR18, hz15⟩ := hq13
    obtain rfl : kc = kc9 := by omega
    obtain rfl : ks = ks9 := by omega
    have hF19 := cm_fr.trans hF4 hG17 (by first | (simp; done) | (simp; omega) | (intro i k h; (try simp only at h); (try simp only); omega))
    have hx20 : tx E14 := hz15
    have hz21 : E14 81 0 = ai_i 0 := (hG17 81 0 (by simp)).trans hz6
    have ghz21 := gv_eq hz21
    refine Or.inl ⟨rfl, ?_⟩
    refine w_iload (i := 2) (npc := 25) rfl rfl ?_
    refine w_if (c := .lt) (npc := 28) (pt := 78) rfl (fun hc22 => ?_) (fun hc22 => ?_)
    · replace hc22 : f < (0 : Int) := hc22
      refine w_const (n := 0) (npc := 79) rfl ?_
      refine w_istore (i := 5) (npc := 81) (loc' := [cr 81, ai_i p, ai_i f, ai_i t, ai_i c, ai_i 0, ai_un, ai_un, ai_un, ai_un]) rfl rfl ?_
      refine w_iload (i := 5) (npc := 83) rfl rfl ?_
      refine w_if (c := .eq) (npc := 86) (pt := 95) rfl (fun hc23 => ?_) (fun hc23 => ?_)
      · replace hc23 : (0 : Int) = 0 := hc23
        refine w_aload (i := 0) (npc := 96) rfl rfl rfl ?_
        obtain ⟨z24, hz24, hz24a, hz24b⟩ := hI16.int 81 13 (lo := 0) (hi := 300) (by decide) (by decide) rfl
        have ghz24 := gv_eq hz24
        refine w_virt (ci := 8) (i := 81) (npc := 99) (a := [cr 81]) (rest := []) rfl rfl (hI16.pl (by decide)) (hI16.T (by decide) rfl) rfl rfl rfl rfl (ct_m_refuse (sl := sl) (x := x) (d := d + 6)  hI16) (Or.inl rfl) (fun k9 v9 T9 E26 nx9 kc9 ks9 hq25 hk9 hs9 => ?_)
        obtain ⟨rfl, rfl, rfl, hI28, hG29, z27, rfl, hz27⟩ := hq25
        obtain rfl : kc = kc9 := by omega
        obtain rfl : ks = ks9 := by omega
        have hF30 := cm_fr.trans hF19 hG29 (by first | (simp; done) | (simp; omega) | (intro i k h; (try simp only at h); (try simp only); omega))
        have hR31 := rl.fr hR18 hG29 (by intro i k h; (try simp only at h); omega)
        have hx32 := tx.fr hx20 hG29 (by intro i k h; (try simp only at h); omega)
        have hz33 : E26 81 0 = ai_i 0 := (hG29 81 0 (by simp)).trans hz21
        have ghz33 := gv_eq hz33
        have hz34 : E26 81 13 = ai_i z24 := (hG29 81 13 (by simp)).trans hz24
        have ghz34 := gv_eq hz34
        refine Or.inr (Or.inl ⟨rfl, ?_⟩)
        exact w_iret rfl (⟨rfl, rfl, rfl, hI28, hF30, hR31, z27, rfl, trivial⟩) (by omega) (by omega)
      · replace hc23 : ¬ ((0 : Int) = 0) := hc23
        refine w_aload (i := 0) (npc := 87) rfl rfl rfl ?_
        refine w_iload (i := 1) (npc := 88) rfl rfl ?_
        refine w_const (n := 3) (npc := 89) rfl ?_
        obtain ⟨z35, hz35, hz35a, hz35b⟩ := hI16.int 81 13 (lo := 0) (hi := 300) (by decide) (by decide) rfl
        have ghz35 := gv_eq hz35
        refine w_virt (ci := 8) (i := 81) (npc := 92) (a := [cr 81, ai_i p, ai_i 3]) (rest := []) rfl rfl (hI16.pl (by decide)) (hI16.T (by decide) rfl) rfl rfl rfl rfl (ct_m_beginStep (sl := sl) (x := x) (d := d + 4) (p) (3) hI16 hR18 (by omega) (by omega)) (Or.inl rfl) (fun k9 v9 T9 E37 nx9 kc9 ks9 hq36 hk9 hs9 => ?_)
        obtain ⟨rfl, rfl, rfl, hI39, hG40, hR41, z38, rfl, hz38⟩ := hq36
        obtain rfl : kc = kc9 := by omega
        obtain rfl : ks = ks9 := by omega
        have hF42 := cm_fr.trans hF19 hG40 (by first | (simp; done) | (simp; omega) | (intro i k h; (try simp only at h); (try simp only); omega))
        have hx43 := tx.fr hx20 hG40 (by intro i k h; (try simp only at h); omega)
        have hz44 : E37 81 0 = ai_i 0 := (hG40 81 0 (by simp)).trans hz21
        have ghz44 := gv_eq hz44
        have hz45 : E37 81 13 = ai_i z35 := (hG40 81 13 (by simp)).trans hz35
        have ghz45 := gv_eq hz45
        refine Or.inr (Or.inl ⟨rfl, ?_⟩)
        refine w_if (c := .ne) (npc := 95) (pt := 100) rfl (fun hc46 => ?_) (fun hc46 => ?_)
        · replace hc46 : z38 ≠ (0 : Int) := hc46
          refine w_aload (i := 0) (npc := 101) rfl rfl rfl ?_
          refine w_const (n := 3200) (npc := 104) rfl ?_
          refine w_const (n := 9) (npc := 106) rfl ?_
          refine w_iload (i := 3) (npc := 107) rfl rfl ?_
          refine w_iload (i := 2) (npc := 108) rfl rfl ?_
          refine w_isub (npc := 109) rfl (by omega) ?_
          refine w_const (n := 1) (npc := 110) rfl ?_
          refine w_iadd (npc := 111) rfl (by omega) ?_
          refine w_virt (ci := 8) (i := 81) (npc := 114) (a := [cr 81, ai_i 3200, ai_i 9, ai_i (t - f + 1)]) (rest := []) rfl rfl (hI39.pl (by decide)) (hI39.T (by decide) rfl) rfl rfl rfl rfl (ct_m_put (sl := sl) (x := x) (d := d + 6) (3200) (9) (t - f + 1) hI39 (by omega) (by omega) (by omega)) (Or.inl rfl) (fun k9 v9 T9 E50 nx9 kc9 ks9 hq49 hk9 hs9 => ?_)
          obtain ⟨rfl, rfl, rfl, hI52, hG53, hz51⟩ := hq49
          obtain rfl : kc = kc9 := by omega
          obtain rfl : ks = ks9 := by omega
          have hF54 := cm_fr.trans hF42 hG53 (by first | (simp; done) | (simp; omega) | (intro i k h; (try simp only at h); (try simp only); omega))
          have hR55 := rl.fr hR41 hG53 (by intro i k h; (try simp only at h); omega)
          have hx56 := tx.fr hx43 hG53 (by intro i k h; (try simp only at h); omega)
          have hz57 : E50 81 0 = ai_i 0 := (hG53 81 0 (by simp)).trans hz44
          have ghz57 := gv_eq hz57
          have hz58 : E50 81 13 = ai_i z35 := (hG53 81 13 (by simp)).trans hz45
          have ghz58 := gv_eq hz58
          refine Or.inl ⟨rfl, ?_⟩
          refine w_aload (i := 0) (npc := 115) rfl rfl rfl ?_
          refine w_iload (i := 4) (npc := 117) rfl rfl ?_
          refine w_virt (ci := 8) (i := 81) (npc := 120) (a := [cr 81, ai_i c]) (rest := []) rfl rfl (hI52.pl (by decide)) (hI52.T (by decide) rfl) rfl rfl rfl rfl (ct_m_keyAhead (sl := sl) (x := x) (d := d + 6) (c) hI52 (by omega)) (Or.inl rfl) (fun k9 v9 T9 E60 nx9 kc9 ks9 hq59 hk9 hs9 => ?_)
          obtain ⟨rfl, rfl, rfl, rfl, z61, rfl, hz61⟩ := hq59
          obtain rfl : kc = kc9 := by omega
          obtain rfl : ks = ks9 := by omega
          refine Or.inr (Or.inl ⟨rfl, ?_⟩)
          refine w_istore (i := 6) (npc := 122) (loc' := [cr 81, ai_i p, ai_i f, ai_i t, ai_i c, ai_i 0, ai_i z61, ai_un, ai_un, ai_un]) rfl rfl ?_
          refine w_aload (i := 0) (npc := 123) rfl rfl rfl ?_
          refine w_iload (i := 4) (npc := 125) rfl rfl ?_
          refine w_virt (ci := 8) (i := 81) (npc := 128) (a := [cr 81, ai_i c]) (rest := []) rfl rfl (hI52.pl (by decide)) (hI52.T (by decide) rfl) rfl rfl rfl rfl (ct_m_keyBehind (sl := sl) (x := x) (d := d + 5) (c) hI52 (by omega) hx56) (Or.inl rfl) (fun k9 v9 T9 E63 nx9 kc9 ks9 hq62 hk9 hs9 => ?_)
          obtain ⟨rfl, rfl, rfl, rfl, z64, rfl, hz64⟩ := hq62
          obtain rfl : kc = kc9 := by omega
          obtain rfl : ks = ks9 := by omega
          refine Or.inr (Or.inl ⟨rfl, ?_⟩)
          refine w_istore (i := 7) (npc := 130) (loc' := [cr 81, ai_i p, ai_i f, ai_i t, ai_i c, ai_i 0, ai_i z61, ai_i z64, ai_un, ai_un]) rfl rfl ?_
          refine w_const (n := 0) (npc := 131) rfl ?_
          refine w_istore (i := 8) (npc := 133) (loc' := [cr 81, ai_i p, ai_i f, ai_i t, ai_i c, ai_i 0, ai_i z61, ai_i z64, ai_i 0, ai_un]) rfl rfl ?_
          have loop133 : ∀ (nf : Nat) (a : Int) (i : Int) (u133_9 : ai_V) (Eq133 : cm_E), ((t - f + 1 - i).toNat) < nf → cs_I T Eq133 nx → cm_fr (fun i k => (i = 81 ∧ (k = 0 ∨ k = 12 ∨ k = 13)) ∨ i = 82 ∨ i = 83 ∨ i = 84 ∨ i = 85 ∨ i = 86 ∨ i = 87 ∨ i = 88 ∨ i = 89 ∨ i = 90 ∨ i = 91) E Eq133 → rl Eq133 → (0 ≤ i ∧ i ≤ t - f + 1 ∧ -1 ≤ a ∧ a ≤ 531341 ∧ gv Eq133 82 (166 * 3200 + 0 : Int).toNat = 3 ∧ gv Eq133 82 (166 * 3200 + 1 : Int).toNat = p ∧ gv Eq133 82 (166 * 3200 + 2 : Int).toNat = gv Eq133 83 (5 * p + p).toNat + 1 ∧ (0 ≤ gv Eq133 83 (5 * p + p).toNat ∧ gv Eq133 83 (5 * p + p).toNat ≤ 59) ∧ gv Eq133 82 (166 * 3200 + 8 : Int).toNat ≤ 65535 ∧ gv Eq133 82 (166 * 3200 + 9 : Int).toNat ≤ 6 ∧ (∀ j : Int, 0 ≤ j → j < 6 → gv Eq133 82 (166 * 3200 + 10 + 26 * j + 1).toNat ≤ 24)) → cm_wp (ai_find ai_c186 sl) (ai_ev sl (d + 7)) x (kc + 0) (ks + 0) (fun rk rv T' E' nx' => rk = 1 ∧ T = T' ∧ nx = nx' ∧ cs_I T E' nx ∧ cm_fr (fun i k => (i = 81 ∧ (k = 0 ∨ k = 12 ∨ k = 13)) ∨ i = 82 ∨ i = 83 ∨ i = 84 ∨ i = 85 ∨ i = 86 ∨ i = 87 ∨ i = 88 ∨ i = 89 ∨ i = 90 ∨ i = 91) E E' ∧ rl E' ∧ ∃ z : Int, rv = ai_i z ∧ (True)) 133 [cr 81, ai_i p, ai_i f, ai_i t, ai_i c, ai_i 0, ai_i a, ai_i z64, ai_i i, u133_9] [] T Eq133 nx kc ks := by
            intro nf
            induction nf with
            | zero => intro a i u133_9 Eq133 hm; exact absurd hm (Nat.not_lt_zero _)
            | succ nf133 ih =>
              intro a i u133_9 Eq133 hm133 hI133 hF133 hR133 hv133
              obtain ⟨z65, hz65, hz65a, hz65b⟩ := hI133.int 81 13 (lo := 0) (hi := 300) (by decide) (by decide) rfl
              have ghz65 := gv_eq hz65
              have ih133 := ih; clear ih
              refine w_iload (i := 8) (npc := 135) rfl rfl ?_
              refine w_iload (i := 3) (npc := 136) rfl rfl ?_
              refine w_iload (i := 2) (npc := 137) rfl rfl ?_
              refine w_isub (npc := 138) rfl (by omega) ?_
              refine w_icmp (c := .gt) (npc := 141) (pt := 211) rfl (fun hc67 => ?_) (fun hc67 => ?_)
              · replace hc67 : t - f < i := hc67
                refine w_aload (i := 0) (npc := 212) rfl rfl rfl ?_
                refine w_iload (i := 1) (npc := 213) rfl rfl ?_
                refine w_virt (ci := 8) (i := 81) (npc := 216) (a := [cr 81, ai_i p]) (rest := []) rfl rfl (hI133.pl (by decide)) (hI133.T (by decide) rfl) rfl rfl rfl rfl (ct_m_endStep (sl := sl) (x := x) (d := d + 2) (p) hI133  hR133 (by omega) (hand_ok (E := Eq133) (a := 3) (p := p) (m := gv Eq133 83 (5 * p + p).toNat) hv133.2.2.2.2.1 hv133.2.2.2.2.2.1 hv133.2.2.2.2.2.2.1 hv133.2.2.2.2.2.2.2.2.1 (by omega) (by omega) (by omega) (by have hl9 := gv_fr hF133 (i := 81) (k := 1) (by simp); omega) (fun q => by omega) (fun q => by omega) (fun _ => ⟨by omega, hv133.2.2.2.2.2.2.2.2.2.2⟩)).1 (hand_ok (E := Eq133) (a := 3) (p := p) (m := gv Eq133 83 (5 * p + p).toNat) hv133.2.2.2.2.1 hv133.2.2.2.2.2.1 hv133.2.2.2.2.2.2.1 hv133.2.2.2.2.2.2.2.2.1 (by omega) (by omega) (by omega) (by have hl9 := gv_fr hF133 (i := 81) (k := 1) (by simp); omega) (fun q => by omega) (fun q => by omega) (fun _ => ⟨by omega, hv133.2.2.2.2.2.2.2.2.2.2⟩)).2 hv133.2.2.2.2.2.1 (by omega)) (Or.inl rfl) (fun k9 v9 T9 E69 nx9 kc9 ks9 hq68 hk9 hs9 => ?_)
                obtain ⟨rfl, rfl, rfl, hI71, hG72, hR73, z70, rfl, hz70⟩ := hq68
                obtain rfl : kc = kc9 := by omega
                obtain rfl : ks = ks9 := by omega
                have hF74 := cm_fr.trans hF133 hG72 (by first | (simp; done) | (simp; omega) | (intro i k h; (try simp only at h); (try simp only); omega))
                have hz75 : E69 81 13 = ai_i z65 := (hG72 81 13 (by simp)).trans hz65
                have ghz75 := gv_eq hz75
                refine Or.inr (Or.inl ⟨rfl, ?_⟩)
                exact w_iret rfl (⟨rfl, rfl, rfl, hI71, hF74, hR73, z70, rfl, trivial⟩) (by omega) (by omega)
              · replace hc67 : ¬ (t - f < i) := hc67
                refine w_const (n := 10) (npc := 143) rfl ?_
                refine w_const (n := 26) (npc := 145) rfl ?_
                refine w_iload (i := 8) (npc := 147) rfl rfl ?_
                refine w_imul (npc := 148) rfl (by omega) ?_
                refine w_iadd (npc := 149) rfl (by omega) ?_
                refine w_istore (i := 9) (npc := 151) (loc' := [cr 81, ai_i p, ai_i f, ai_i t, ai_i c, ai_i 0, ai_i a, ai_i z64, ai_i i, ai_i (10 + (26 * i))]) rfl rfl ?_
                refine w_aload (i := 0) (npc := 152) rfl rfl rfl ?_
                refine w_const (n := 3200) (npc := 155) rfl ?_
                refine w_iload (i := 9) (npc := 157) rfl rfl ?_
                refine w_aload (i := 0) (npc := 158) rfl rfl rfl ?_
                refine w_getf (i := 81) (ci := 8) (k := 11) (npc := 161) rfl (hI133.pl (by decide)) (hI133.T (by decide) rfl) (by decide) (hI133.ref 81 11 (p := 91) (by decide) (by decide) rfl) ?_
                refine w_iload (i := 2) (npc := 162) rfl rfl ?_
                refine w_iload (i := 8) (npc := 164) rfl rfl ?_
                refine w_iadd (npc := 165) rfl (by omega) ?_
                obtain ⟨z79, hz79, hz79a, hz79b⟩ := hI133.int 91 (f + i : Int).toNat (lo := 0) (hi := 299) (by decide) (show (f + i : Int).toNat < 300 by omega) rfl
                have ghz79 := gv_eq hz79
                refine w_ald (i := 91) (t := 1) (n := 300) (npc := 166) rfl (hI133.pl (by decide)) (hI133.T (by decide) rfl) (by decide) rfl (by omega) hz79 ?_
                refine w_call (npc := 169) (a := [ai_i z79]) (rest := [ai_i (10 + (26 * i)), ai_i 3200, cr 81]) rfl rfl rfl rfl rfl (ct_m_nameOf (sl := sl) (x := x) (d := d + 6) (z79) (by omega)) (Or.inr (fun _ _ _ _ _ hq => by have h1 := hq.1; omega)) (fun k9 v9 T9 E81 nx9 kc9 ks9 hq80 hk9 hs9 => ?_)
                obtain ⟨rfl, rfl, rfl, rfl, z82, rfl, hz82⟩ := hq80
                obtain rfl : kc = kc9 := by omega
                obtain rfl : ks = ks9 := by omega
                refine Or.inr (Or.inl ⟨rfl, ?_⟩)
                refine w_virt (ci := 8) (i := 81) (npc := 172) (a := [cr 81, ai_i 3200, ai_i (10 + (26 * i)), ai_i z82]) (rest := []) rfl rfl (hI133.pl (by decide)) (hI133.T (by decide) rfl) rfl rfl rfl rfl (ct_m_put (sl := sl) (x := x) (d := d + 6) (3200) (10 + (26 * i)) (z82) hI133 (by omega) (by omega) (by omega)) (Or.inl rfl) (fun k9 v9 T9 E84 nx9 kc9 ks9 hq83 hk9 hs9 => ?_)
                obtain ⟨rfl, rfl, rfl, hI86, hG87, hz85⟩ := hq83
                obtain rfl : kc = kc9 := by omega
                obtain rfl : ks = ks9 := by omega
                have hF88 := cm_fr.trans hF133 hG87 (by first | (simp; done) | (simp; omega) | (intro i k h; (try simp only at h); (try simp only); omega))
                have hR89 := rl.fr hR133 hG87 (by intro i k h; (try simp only at h); omega)
                have hz90 : E84 81 13 = ai_i z65 := (hG87 81 13 (by simp)).trans hz65
                have ghz90 := gv_eq hz90
                refine Or.inl ⟨rfl, ?_⟩
                refine w_aload (i := 0) (npc := 173) rfl rfl rfl ?_
                refine w_iload (i := 6) (npc := 175) rfl rfl ?_
                refine w_iload (i := 7) (npc := 177) rfl rfl ?_
                refine w_iload (i := 1) (npc := 178) rfl rfl ?_
                refine w_const (n := 531200) (npc := 180) rfl ?_
                refine w_iload (i := 9) (npc := 182) rfl rfl ?_
                refine w_iadd (npc := 183) rfl (by omega) ?_
                refine w_const (n := 1) (npc := 184) rfl ?_
                refine w_iadd (npc := 185) rfl (by omega) ?_
                refine w_virt (ci := 8) (i := 81) (npc := 188) (a := [cr 81, ai_i a, ai_i z64, ai_i p, ai_i (531200 + (10 + (26 * i)) + 1)]) (rest := []) rfl rfl (hI86.pl (by decide)) (hI86.T (by decide) rfl) rfl rfl rfl rfl (ct_m_newKey (sl := sl) (x := x) (d := d + 6) (a) (z64) (p) (531200 + (10 + (26 * i)) + 1) hI86 (by omega) (by omega) (by omega) (by omega)) (Or.inl rfl) (fun k9 v9 T9 E94 nx9 kc9 ks9 hq93 hk9 hs9 => ?_)
                obtain ⟨rfl, rfl, rfl, hI96, hG97, z95, rfl, hz95⟩ := hq93
                obtain rfl : kc = kc9 := by omega
                obtain rfl : ks = ks9 := by omega
                have hF98 := cm_fr.trans hF88 hG97 (by first | (simp; done) | (simp; omega) | (intro i k h; (try simp only at h); (try simp only); omega))
                have hR99 := rl.fr hR89 hG97 (by intro i k h; (try simp only at h); omega)
                have hz100 : E94 81 13 = ai_i z65 := (hG97 81 13 (by simp)).trans hz90
                have ghz100 := gv_eq hz100
                refine Or.inr (Or.inl ⟨rfl, ?_⟩)
                refine w_if (c := .ne) (npc := 191) (pt := 196) rfl (fun hc101 => ?_) (fun hc101 => ?_)
                · replace hc101 : z95 ≠ (0 : Int) := hc101
                  refine w_const (n := 531200) (npc := 198) rfl ?_
                  refine w_iload (i := 9) (npc := 200) rfl rfl ?_
                  refine w_iadd (npc := 201) rfl (by omega) ?_
                  refine w_const (n := 1) (npc := 202) rfl ?_
                  refine w_iadd (npc := 203) rfl (by omega) ?_
                  refine w_istore (i := 6) (npc := 205) (loc' := [cr 81, ai_i p, ai_i f, ai_i t, ai_i c, ai_i 0, ai_i (531200 + (10 + (26 * i)) + 1), ai_i z64, ai_i i, ai_i (10 + (26 * i))]) rfl rfl ?_
                  refine w_iinc (i := 8) (n := 1) (npc := 208) (loc' := [cr 81, ai_i p, ai_i f, ai_i t, ai_i c, ai_i 0, ai_i (531200 + (10 + (26 * i)) + 1), ai_i z64, ai_i (i + 1), ai_i (10 + (26 * i))]) rfl rfl (by omega) rfl ?_
                  refine w_goto (pt := 133) rfl ?_
                  exact ih133 (531200 + (10 + (26 * i)) + 1) (i + 1) (ai_i (10 + (26 * i))) E94 (by omega) hI96 hF98 hR99 (by
      obtain ⟨d1, d2, d3, d4, d5, d6, d7, d8, d9, d10, d11⟩ := hv133
      have y0_0 := gv_fr hG87 (i := 83) (k := (5 * p + p).toNat) (by first | (simp; done) | omega | (simp only; omega) | (simp; omega))
      have y0_1 := gv_fr hG87 (i := 82) (k := (166 * 3200 + 0 : Int).toNat) (by first | (simp; done) | omega | (simp only; omega) | (simp; omega))
      have y0_2 := gv_fr hG87 (i := 82) (k := (166 * 3200 + 1 : Int).toNat) (by first | (simp; done) | omega | (simp only; omega) | (simp; omega))
      have y0_3 := gv_fr hG87 (i := 82) (k := (166 * 3200 + 2 : Int).toNat) (by first | (simp; done) | omega | (simp only; omega) | (simp; omega))
      have y0_4 := gv_fr hG87 (i := 82) (k := (166 * 3200 + 8 : Int).toNat) (by first | (simp; done) | omega | (simp only; omega) | (simp; omega))
      have y0_5 := gv_fr hG87 (i := 82) (k := (166 * 3200 + 9 : Int).toNat) (by first | (simp; done) | omega | (simp only; omega) | (simp; omega))
      have y1_0 := gv_fr hG97 (i := 83) (k := (5 * p + p).toNat) (by first | (simp; done) | omega | (simp only; omega) | (simp; omega))
      have y1_1 := gv_fr hG97 (i := 82) (k := (166 * 3200 + 0 : Int).toNat) (by first | (simp; done) | omega | (simp only; omega) | (simp; omega))
      have y1_2 := gv_fr hG97 (i := 82) (k := (166 * 3200 + 1 : Int).toNat) (by first | (simp; done) | omega | (simp only; omega) | (simp; omega))
      have y1_3 := gv_fr hG97 (i := 82) (k := (166 * 3200 + 2 : Int).toNat) (by first | (simp; done) | omega | (simp only; omega) | (simp; omega))
      have y1_4 := gv_fr hG97 (i := 82) (k := (166 * 3200 + 8 : Int).toNat) (by first | (simp; done) | omega | (simp only; omega) | (simp; omega))
      have y1_5 := gv_fr hG97 (i := 82) (k := (166 * 3200 + 9 : Int).toNat) (by first | (simp; done) | omega | (simp only; omega) | (simp; omega))
      refine ⟨by omega, by omega, by omega, by omega, by omega, by omega, by omega, by omega, by omega, by omega, fun j j0 j1 => ?_⟩
      by_cases hj : j = i
      · rw [hj]
        have q := hz95.2.2
        rw [show 531200 + (10 + 26 * i) + 1 = 166 * 3200 + 10 + 26 * i + 1 by omega] at q
        exact q
      · rw [← gv_fr hG97 (by first | omega | (simp only; omega)), ← gv_fr hG87 (by first | omega | (simp only; omega))]; exact d11 j j0 j1)
                · replace hc101 : ¬ (z95 ≠ (0 : Int)) := hc101
                  refine w_aload (i := 0) (npc := 192) rfl rfl rfl ?_
                  refine w_virt (ci := 8) (i := 81) (npc := 195) (a := [cr 81]) (rest := []) rfl rfl (hI96.pl (by decide)) (hI96.T (by decide) rfl) rfl rfl rfl rfl (ct_m_refuse (sl := sl) (x := x) (d := d + 6)  hI96) (Or.inl rfl) (fun k9 v9 T9 E106 nx9 kc9 ks9 hq105 hk9 hs9 => ?_)
                  obtain ⟨rfl, rfl, rfl, hI108, hG109, z107, rfl, hz107⟩ := hq105
                  obtain rfl : kc = kc9 := by omega
                  obtain rfl : ks = ks9 := by omega
                  have hF110 := cm_fr.trans hF98 hG109 (by first | (simp; done) | (simp; omega) | (intro i k h; (try simp only at h); (try simp only); omega))
                  have hR111 := rl.fr hR99 hG109 (by intro i k h; (try simp only at h); omega)
                  have hz112 : E106 81 13 = ai_i z65 := (hG109 81 13 (by simp)).trans hz100
                  have ghz112 := gv_eq hz112
                  refine Or.inr (Or.inl ⟨rfl, ?_⟩)
                  exact w_iret rfl (⟨rfl, rfl, rfl, hI108, hF110, hR111, z107, rfl, trivial⟩) (by omega) (by omega)
          exact loop133 _ (z61) (0) (ai_un) E50 (Nat.lt_succ_self _) hI52 hF54 hR55 (by
      have q8 := hz38.2.2.2.2.2.2 (by omega)
      have q0 := hz38.1
      have q1 := hz38.2.1
      have q2 := hz38.2.2.1
      have q9 := hz51
      have y0_0 := gv_fr hG40 (i := 83) (k := (5 * p + p).toNat) (by first | (simp; done) | omega | (simp only; omega) | (simp; omega))
      have x0_0 := gv_fr hG53 (i := 83) (k := (5 * p + p).toNat) (by first | (simp; done) | omega | (simp only; omega) | (simp; omega))
      have x0_1 := gv_fr hG53 (i := 82) (k := (166 * 3200 + 0 : Int).toNat) (by first | (simp; done) | omega | (simp only; omega) | (simp; omega))
      have x0_2 := gv_fr hG53 (i := 82) (k := (166 * 3200 + 1 : Int).toNat) (by first | (simp; done) | omega | (simp only; omega) | (simp; omega))
      have x0_3 := gv_fr hG53 (i := 82) (k := (166 * 3200 + 2 : Int).toNat) (by first | (simp; done) | omega | (simp only; omega) | (simp; omega))
      have x0_4 := gv_fr hG53 (i := 82) (k := (166 * 3200 + 8 : Int).toNat) (by first | (simp; done) | omega | (simp only; omega) | (simp; omega))
      refine ⟨by omega, by omega, by omega, by omega, by omega, by omega, by omega, by omega, by omega, by omega, fun j j0 j1 => ?_⟩
      rw [← gv_fr hG53 (by first | omega | (simp only; omega))]
      have q7 := hz38.2.2.2.1 (10 + 26 * j + 1) (by omega) (by omega)
      rw [show 166 * 3200 + (10 + 26 * j + 1) = 166 * 3200 + 10 + 26 * j + 1 by omega] at q7
      omega)
        · replace hc46 : ¬ (z38 ≠ (0 : Int)) := hc46
          refine w_aload (i := 0) (npc := 96) rfl rfl rfl ?_
          refine w_virt (ci := 8) (i := 81) (npc := 99) (a := [cr 81]) (rest := []) rfl rfl (hI39.pl (by decide)) (hI39.T (by decide) rfl) rfl rfl rfl rfl (ct_m_refuse (sl := sl) (x := x) (d := d + 6)  hI39) (Or.inl rfl) (fun k9 v9 T9 E114 nx9 kc9 ks9 hq113 hk9 hs9 => ?_)
          obtain ⟨rfl, rfl, rfl, hI116, hG117, z115, rfl, hz115⟩ := hq113
          obtain rfl : kc = kc9 := by omega
          obtain rfl : ks = ks9 := by omega
          have hF118 := cm_fr.trans hF42 hG117 (by first | (simp; done) | (simp; omega) | (intro i k h; (try simp only at h); (try simp only); omega))
          have hR119 := rl.fr hR41 hG117 (by intro i k h; (try simp only at h); omega)
          have hx120 := tx.fr hx43 hG117 (by intro i k h; (try simp only at h); omega)
          have hz121 : E114 81 0 = ai_i 0 := (hG117 81 0 (by simp)).trans hz44
          have ghz121 := gv_eq hz121
          have hz122 : E114 81 13 = ai_i z35 := (hG117 81 13 (by simp)).trans hz45
          have ghz122 := gv_eq hz122
          refine Or.inr (Or.inl ⟨rfl, ?_⟩)
          exact w_iret rfl (⟨rfl, rfl, rfl, hI116, hF118, hR119, z115, rfl, trivial⟩) (by omega) (by omega)
    · replace hc22 : ¬ (f < (0 : Int)) := hc22
      refine w_iload (i := 2) (npc := 29) rfl rfl ?_
      refine w_iload (i := 3) (npc := 30) rfl rfl ?_
      refine w_icmp (c := .gt) (npc := 33) (pt := 78) rfl (fun hc123 => ?_) (fun hc123 => ?_)
      · replace hc123 : t < f := hc123
        refine w_const (n := 0) (npc := 79) rfl ?_
        refine w_istore (i := 5) (npc := 81) (loc' := [cr 81, ai_i p, ai_i f, ai_i t, ai_i c, ai_i 0, ai_un, ai_un, ai_un, ai_un]) rfl rfl ?_
        refine w_iload (i := 5) (npc := 83) rfl rfl ?_
        refine w_if (c := .eq) (npc := 86) (pt := 95) rfl (fun hc124 => ?_) (fun hc124 => ?_)
        · replace hc124 : (0 : Int) = 0 := hc124
          refine w_aload (i := 0) (npc := 96) rfl rfl rfl ?_
          obtain ⟨z125, hz125, hz125a, hz125b⟩ := hI16.int 81 13 (lo := 0) (hi := 300) (by decide) (by decide) rfl
          have ghz125 := gv_eq hz125
          refine w_virt (ci := 8) (i := 81) (npc := 99) (a := [cr 81]) (rest := []) rfl rfl (hI16.pl (by decide)) (hI16.T (by decide) rfl) rfl rfl rfl rfl (ct_m_refuse (sl := sl) (x := x) (d := d + 6)  hI16) (Or.inl rfl) (fun k9 v9 T9 E127 nx9 kc9 ks9 hq126 hk9 hs9 => ?_)
          obtain ⟨rfl, rfl, rfl, hI129, hG130, z128, rfl, hz128⟩ := hq126
          obtain rfl : kc = kc9 := by omega
          obtain rfl : ks = ks9 := by omega
          have hF131 := cm_fr.trans hF19 hG130 (by first | (simp; done) | (simp; omega) | (intro i k h; (try simp only at h); (try simp only); omega))
          have hR132 := rl.fr hR18 hG130 (by intro i k h; (try simp only at h); omega)
          have hx133 := tx.fr hx20 hG130 (by intro i k h; (try simp only at h); omega)
          have hz134 : E127 81 0 = ai_i 0 := (hG130 81 0 (by simp)).trans hz21
          have ghz134 := gv_eq hz134
          have hz135 : E127 81 13 = ai_i z125 := (hG130 81 13 (by simp)).trans hz125
          have ghz135 := gv_eq hz135
          refine Or.inr (Or.inl ⟨rfl, ?_⟩)
          exact w_iret rfl (⟨rfl, rfl, rfl, hI129, hF131, hR132, z128, rfl, trivial⟩) (by omega) (by omega)
        · replace hc124 : ¬ ((0 : Int) = 0) := hc124
          refine w_aload (i := 0) (npc := 87) rfl rfl rfl ?_
          refine w_iload (i := 1) (npc := 88) rfl rfl ?_
          refine w_const (n := 3) (npc := 89) rfl ?_
          obtain ⟨z136, hz136, hz136a, hz136b⟩ := hI16.int 81 13 (lo := 0) (hi := 300) (by decide) (by decide) rfl
          have ghz136 := gv_eq hz136
          refine w_virt (ci := 8) (i := 81) (npc := 92) (a := [cr 81, ai_i p, ai_i 3]) (rest := []) rfl rfl (hI16.pl (by decide)) (hI16.T (by decide) rfl) rfl rfl rfl rfl (ct_m_beginStep (sl := sl) (x := x) (d := d + 4) (p) (3) hI16 hR18 (by omega) (by omega)) (Or.inl rfl) (fun k9 v9 T9 E138 nx9 kc9 ks9 hq137 hk9 hs9 => ?_)
          obtain ⟨rfl, rfl, rfl, hI140, hG141, hR142, z139, rfl, hz139⟩ := hq137
          obtain rfl : kc = kc9 := by omega
          obtain rfl : ks = ks9 := by omega
          have hF143 := cm_fr.trans hF19 hG141 (by first | (simp; done) | (simp; omega) | (intro i k h; (try simp only at h); (try simp only); omega))
          have hx144 := tx.fr hx20 hG141 (by intro i k h; (try simp only at h); omega)
          have hz145 : E138 81 0 = ai_i 0 := (hG141 81 0 (by simp)).trans hz21
          have ghz145 := gv_eq hz145
          have hz146 : E138 81 13 = ai_i z136 := (hG141 81 13 (by simp)).trans hz136
          have ghz146 := gv_eq hz146
          refine Or.inr (Or.inl ⟨rfl, ?_⟩)
          refine w_if (c := .ne) (npc := 95) (pt := 100) rfl (fun hc147 => ?_) (fun hc147 => ?_)
          · replace hc147 : z139 ≠ (0 : Int) := hc147
            refine w_aload (i := 0) (npc := 101) rfl rfl rfl ?_
            refine w_const (n := 3200) (npc := 104) rfl ?_
            refine w_const (n := 9) (npc := 106) rfl ?_
            refine w_iload (i := 3) (npc := 107) rfl rfl ?_
            refine w_iload (i := 2) (npc := 108) rfl rfl ?_
            refine w_isub (npc := 109) rfl (by omega) ?_
            refine w_const (n := 1) (npc := 110) rfl ?_
            refine w_iadd (npc := 111) rfl (by omega) ?_
            refine w_virt (ci := 8) (i := 81) (npc := 114) (a := [cr 81, ai_i 3200, ai_i 9, ai_i (t - f + 1)]) (rest := []) rfl rfl (hI140.pl (by decide)) (hI140.T (by decide) rfl) rfl rfl rfl rfl (ct_m_put (sl := sl) (x := x) (d := d + 6) (3200) (9) (t - f + 1) hI140 (by omega) (by omega) (by omega)) (Or.inl rfl) (fun k9 v9 T9 E151 nx9 kc9 ks9 hq150 hk9 hs9 => ?_)
            obtain ⟨rfl, rfl, rfl, hI153, hG154, hz152⟩ := hq150
            obtain rfl : kc = kc9 := by omega
            obtain rfl : ks = ks9 := by omega
            have hF155 := cm_fr.trans hF143 hG154 (by first | (simp; done) | (simp; omega) | (intro i k h; (try simp only at h); (try simp only); omega))
            have hR156 := rl.fr hR142 hG154 (by intro i k h; (try simp only at h); omega)
            have hx157 := tx.fr hx144 hG154 (by intro i k h; (try simp only at h); omega)
            have hz158 : E151 81 0 = ai_i 0 := (hG154 81 0 (by simp)).trans hz145
            have ghz158 := gv_eq hz158
            have hz159 : E151 81 13 = ai_i z136 := (hG154 81 13 (by simp)).trans hz146
            have ghz159 := gv_eq hz159
            refine Or.inl ⟨rfl, ?_⟩
            refine w_aload (i := 0) (npc := 115) rfl rfl rfl ?_
            refine w_iload (i := 4) (npc := 117) rfl rfl ?_
            refine w_virt (ci := 8) (i := 81) (npc := 120) (a := [cr 81, ai_i c]) (rest := []) rfl rfl (hI153.pl (by decide)) (hI153.T (by decide) rfl) rfl rfl rfl rfl (ct_m_keyAhead (sl := sl) (x := x) (d := d + 6) (c) hI153 (by omega)) (Or.inl rfl) (fun k9 v9 T9 E161 nx9 kc9 ks9 hq160 hk9 hs9 => ?_)
            obtain ⟨rfl, rfl, rfl, rfl, z162, rfl, hz162⟩ := hq160
            obtain rfl : kc = kc9 := by omega
            obtain rfl : ks = ks9 := by omega
            refine Or.inr (Or.inl ⟨rfl, ?_⟩)
            refine w_istore (i := 6) (npc := 122) (loc' := [cr 81, ai_i p, ai_i f, ai_i t, ai_i c, ai_i 0, ai_i z162, ai_un, ai_un, ai_un]) rfl rfl ?_
            refine w_aload (i := 0) (npc := 123) rfl rfl rfl ?_
            refine w_iload (i := 4) (npc := 125) rfl rfl ?_
            refine w_virt (ci := 8) (i := 81) (npc := 128) (a := [cr 81, ai_i c]) (rest := []) rfl rfl (hI153.pl (by decide)) (hI153.T (by decide) rfl) rfl rfl rfl rfl (ct_m_keyBehind (sl := sl) (x := x) (d := d + 5) (c) hI153 (by omega) hx157) (Or.inl rfl) (fun k9 v9 T9 E164 nx9 kc9 ks9 hq163 hk9 hs9 => ?_)
            obtain ⟨rfl, rfl, rfl, rfl, z165, rfl, hz165⟩ := hq163
            obtain rfl : kc = kc9 := by omega
            obtain rfl : ks = ks9 := by omega
            refine Or.inr (Or.inl ⟨rfl, ?_⟩)
            refine w_istore (i := 7) (npc := 130) (loc' := [cr 81, ai_i p, ai_i f, ai_i t, ai_i c, ai_i 0, ai_i z162, ai_i z165, ai_un, ai_un]) rfl rfl ?_
            refine w_const (n := 0) (npc := 131) rfl ?_
            refine w_istore (i := 8) (npc := 133) (loc' := [cr 81, ai_i p, ai_i f, ai_i t, ai_i c, ai_i 0, ai_i z162, ai_i z165, ai_i 0, ai_un]) rfl rfl ?_
            have loop133 : ∀ (nf : Nat) (a : Int) (i : Int) (u133_9 : ai_V) (Eq133 : cm_E), ((t - f + 1 - i).toNat) < nf → cs_I T Eq133 nx → cm_fr (fun i k => (i = 81 ∧ (k = 0 ∨ k = 12 ∨ k = 13)) ∨ i = 82 ∨ i = 83 ∨ i = 84 ∨ i = 85 ∨ i = 86 ∨ i = 87 ∨ i = 88 ∨ i = 89 ∨ i = 90 ∨ i = 91) E Eq133 → rl Eq133 → (0 ≤ i ∧ i ≤ t - f + 1 ∧ -1 ≤ a ∧ a ≤ 531341 ∧ gv Eq133 82 (166 * 3200 + 0 : Int).toNat = 3 ∧ gv Eq133 82 (166 * 3200 + 1 : Int).toNat = p ∧ gv Eq133 82 (166 * 3200 + 2 : Int).toNat = gv Eq133 83 (5 * p + p).toNat + 1 ∧ (0 ≤ gv Eq133 83 (5 * p + p).toNat ∧ gv Eq133 83 (5 * p + p).toNat ≤ 59) ∧ gv Eq133 82 (166 * 3200 + 8 : Int).toNat ≤ 65535 ∧ gv Eq133 82 (166 * 3200 + 9 : Int).toNat ≤ 6 ∧ (∀ j : Int, 0 ≤ j → j < 6 → gv Eq133 82 (166 * 3200 + 10 + 26 * j + 1).toNat ≤ 24)) → cm_wp (ai_find ai_c186 sl) (ai_ev sl (d + 7)) x (kc + 0) (ks + 0) (fun rk rv T' E' nx' => rk = 1 ∧ T = T' ∧ nx = nx' ∧ cs_I T E' nx ∧ cm_fr (fun i k => (i = 81 ∧ (k = 0 ∨ k = 12 ∨ k = 13)) ∨ i = 82 ∨ i = 83 ∨ i = 84 ∨ i = 85 ∨ i = 86 ∨ i = 87 ∨ i = 88 ∨ i = 89 ∨ i = 90 ∨ i = 91) E E' ∧ rl E' ∧ ∃ z : Int, rv = ai_i z ∧ (True)) 133 [cr 81, ai_i p, ai_i f, ai_i t, ai_i c, ai_i 0, ai_i a, ai_i z165, ai_i i, u133_9] [] T Eq133 nx kc ks := by
              intro nf
              induction nf with
              | zero => intro a i u133_9 Eq133 hm; exact absurd hm (Nat.not_lt_zero _)
              | succ nf133 ih =>
                intro a i u133_9 Eq133 hm133 hI133 hF133 hR133 hv133
                obtain ⟨z166, hz166, hz166a, hz166b⟩ := hI133.int 81 13 (lo := 0) (hi := 300) (by decide) (by decide) rfl
                have ghz166 := gv_eq hz166
                have ih133 := ih; clear ih
                refine w_iload (i := 8) (npc := 135) rfl rfl ?_
                refine w_iload (i := 3) (npc := 136) rfl rfl ?_
                refine w_iload (i := 2) (npc := 137) rfl rfl ?_
                refine w_isub (npc := 138) rfl (by omega) ?_
                refine w_icmp (c := .gt) (npc := 141) (pt := 211) rfl (fun hc168 => ?_) (fun hc168 => ?_)
                · replace hc168 : t - f < i := hc168
                  refine w_aload (i := 0) (npc := 212) rfl rfl rfl ?_
                  refine w_iload (i := 1) (npc := 213) rfl rfl ?_
                  refine w_virt (ci := 8) (i := 81) (npc := 216) (a := [cr 81, ai_i p]) (rest := []) rfl rfl (hI133.pl (by decide)) (hI133.T (by decide) rfl) rfl rfl rfl rfl (ct_m_endStep (sl := sl) (x := x) (d := d + 2) (p) hI133  hR133 (by omega) (hand_ok (E := Eq133) (a := 3) (p := p) (m := gv Eq133 83 (5 * p + p).toNat) hv133.2.2.2.2.1 hv133.2.2.2.2.2.1 hv133.2.2.2.2.2.2.1 hv133.2.2.2.2.2.2.2.2.1 (by omega) (by omega) (by omega) (by have hl9 := gv_fr hF133 (i := 81) (k := 1) (by simp); omega) (fun q => by omega) (fun q => by omega) (fun _ => ⟨by omega, hv133.2.2.2.2.2.2.2.2.2.2⟩)).1 (hand_ok (E := Eq133) (a := 3) (p := p) (m := gv Eq133 83 (5 * p + p).toNat) hv133.2.2.2.2.1 hv133.2.2.2.2.2.1 hv133.2.2.2.2.2.2.1 hv133.2.2.2.2.2.2.2.2.1 (by omega) (by omega) (by omega) (by have hl9 := gv_fr hF133 (i := 81) (k := 1) (by simp); omega) (fun q => by omega) (fun q => by omega) (fun _ => ⟨by omega, hv133.2.2.2.2.2.2.2.2.2.2⟩)).2 hv133.2.2.2.2.2.1 (by omega)) (Or.inl rfl) (fun k9 v9 T9 E170 nx9 kc9 ks9 hq169 hk9 hs9 => ?_)
                  obtain ⟨rfl, rfl, rfl, hI172, hG173, hR174, z171, rfl, hz171⟩ := hq169
                  obtain rfl : kc = kc9 := by omega
                  obtain rfl : ks = ks9 := by omega
                  have hF175 := cm_fr.trans hF133 hG173 (by first | (simp; done) | (simp; omega) | (intro i k h; (try simp only at h); (try simp only); omega))
                  have hz176 : E170 81 13 = ai_i z166 := (hG173 81 13 (by simp)).trans hz166
                  have ghz176 := gv_eq hz176
                  refine Or.inr (Or.inl ⟨rfl, ?_⟩)
                  exact w_iret rfl (⟨rfl, rfl, rfl, hI172, hF175, hR174, z171, rfl, trivial⟩) (by omega) (by omega)
                · replace hc168 : ¬ (t - f < i) := hc168
                  refine w_const (n := 10) (npc := 143) rfl ?_
                  refine w_const (n := 26) (npc := 145) rfl ?_
                  refine w_iload (i := 8) (npc := 147) rfl rfl ?_
                  refine w_imul (npc := 148) rfl (by omega) ?_
                  refine w_iadd (npc := 149) rfl (by omega) ?_
                  refine w_istore (i := 9) (npc := 151) (loc' := [cr 81, ai_i p, ai_i f, ai_i t, ai_i c, ai_i 0, ai_i a, ai_i z165, ai_i i, ai_i (10 + (26 * i))]) rfl rfl ?_
                  refine w_aload (i := 0) (npc := 152) rfl rfl rfl ?_
                  refine w_const (n := 3200) (npc := 155) rfl ?_
                  refine w_iload (i := 9) (npc := 157) rfl rfl ?_
                  refine w_aload (i := 0) (npc := 158) rfl rfl rfl ?_
                  refine w_getf (i := 81) (ci := 8) (k := 11) (npc := 161) rfl (hI133.pl (by decide)) (hI133.T (by decide) rfl) (by decide) (hI133.ref 81 11 (p := 91) (by decide) (by decide) rfl) ?_
                  refine w_iload (i := 2) (npc := 162) rfl rfl ?_
                  refine w_iload (i := 8) (npc := 164) rfl rfl ?_
                  refine w_iadd (npc := 165) rfl (by omega) ?_
                  obtain ⟨z180, hz180, hz180a, hz180b⟩ := hI133.int 91 (f + i : Int).toNat (lo := 0) (hi := 299) (by decide) (show (f + i : Int).toNat < 300 by omega) rfl
                  have ghz180 := gv_eq hz180
                  refine w_ald (i := 91) (t := 1) (n := 300) (npc := 166) rfl (hI133.pl (by decide)) (hI133.T (by decide) rfl) (by decide) rfl (by omega) hz180 ?_
                  refine w_call (npc := 169) (a := [ai_i z180]) (rest := [ai_i (10 + (26 * i)), ai_i 3200, cr 81]) rfl rfl rfl rfl rfl (ct_m_nameOf (sl := sl) (x := x) (d := d + 6) (z180) (by omega)) (Or.inr (fun _ _ _ _ _ hq => by have h1 := hq.1; omega)) (fun k9 v9 T9 E182 nx9 kc9 ks9 hq181 hk9 hs9 => ?_)
                  obtain ⟨rfl, rfl, rfl, rfl, z183, rfl, hz183⟩ := hq181
                  obtain rfl : kc = kc9 := by omega
                  obtain rfl : ks = ks9 := by omega
                  refine Or.inr (Or.inl ⟨rfl, ?_⟩)
                  refine w_virt (ci := 8) (i := 81) (npc := 172) (a := [cr 81, ai_i 3200, ai_i (10 + (26 * i)), ai_i z183]) (rest := []) rfl rfl (hI133.pl (by decide)) (hI133.T (by decide) rfl) rfl rfl rfl rfl (ct_m_put (sl := sl) (x := x) (d := d + 6) (3200) (10 + (26 * i)) (z183) hI133 (by omega) (by omega) (by omega)) (Or.inl rfl) (fun k9 v9 T9 E185 nx9 kc9 ks9 hq184 hk9 hs9 => ?_)
                  obtain ⟨rfl, rfl, rfl, hI187, hG188, hz186⟩ := hq184
                  obtain rfl : kc = kc9 := by omega
                  obtain rfl : ks = ks9 := by omega
                  have hF189 := cm_fr.trans hF133 hG188 (by first | (simp; done) | (simp; omega) | (intro i k h; (try simp only at h); (try simp only); omega))
                  have hR190 := rl.fr hR133 hG188 (by intro i k h; (try simp only at h); omega)
                  have hz191 : E185 81 13 = ai_i z166 := (hG188 81 13 (by simp)).trans hz166
                  have ghz191 := gv_eq hz191
                  refine Or.inl ⟨rfl, ?_⟩
                  refine w_aload (i := 0) (npc := 173) rfl rfl rfl ?_
                  refine w_iload (i := 6) (npc := 175) rfl rfl ?_
                  refine w_iload (i := 7) (npc := 177) rfl rfl ?_
                  refine w_iload (i := 1) (npc := 178) rfl rfl ?_
                  refine w_const (n := 531200) (npc := 180) rfl ?_
                  refine w_iload (i := 9) (npc := 182) rfl rfl ?_
                  refine w_iadd (npc := 183) rfl (by omega) ?_
                  refine w_const (n := 1) (npc := 184) rfl ?_
                  refine w_iadd (npc := 185) rfl (by omega) ?_
                  refine w_virt (ci := 8) (i := 81) (npc := 188) (a := [cr 81, ai_i a, ai_i z165, ai_i p, ai_i (531200 + (10 + (26 * i)) + 1)]) (rest := []) rfl rfl (hI187.pl (by decide)) (hI187.T (by decide) rfl) rfl rfl rfl rfl (ct_m_newKey (sl := sl) (x := x) (d := d + 6) (a) (z165) (p) (531200 + (10 + (26 * i)) + 1) hI187 (by omega) (by omega) (by omega) (by omega)) (Or.inl rfl) (fun k9 v9 T9 E195 nx9 kc9 ks9 hq194 hk9 hs9 => ?_)
                  obtain ⟨rfl, rfl, rfl, hI197, hG198, z196, rfl, hz196⟩ := hq194
                  obtain rfl : kc = kc9 := by omega
                  obtain rfl : ks = ks9 := by omega
                  have hF199 := cm_fr.trans hF189 hG198 (by first | (simp; done) | (simp; omega) | (intro i k h; (try simp only at h); (try simp only); omega))
                  have hR200 := rl.fr hR190 hG198 (by intro i k h; (try simp only at h); omega)
                  have hz201 : E195 81 13 = ai_i z166 := (hG198 81 13 (by simp)).trans hz191
                  have ghz201 := gv_eq hz201
                  refine Or.inr (Or.inl ⟨rfl, ?_⟩)
                  refine w_if (c := .ne) (npc := 191) (pt := 196) rfl (fun hc202 => ?_) (fun hc202 => ?_)
                  · replace hc202 : z196 ≠ (0 : Int) := hc202
                    refine w_const (n := 531200) (npc := 198) rfl ?_
                    refine w_iload (i := 9) (npc := 200) rfl rfl ?_
                    refine w_iadd (npc := 201) rfl (by omega) ?_
                    refine w_const (n := 1) (npc := 202) rfl ?_
                    refine w_iadd (npc := 203) rfl (by omega) ?_
                    refine w_istore (i := 6) (npc := 205) (loc' := [cr 81, ai_i p, ai_i f, ai_i t, ai_i c, ai_i 0, ai_i (531200 + (10 + (26 * i)) + 1), ai_i z165, ai_i i, ai_i (10 + (26 * i))]) rfl rfl ?_
                    refine w_iinc (i := 8) (n := 1) (npc := 208) (loc' := [cr 81, ai_i p, ai_i f, ai_i t, ai_i c, ai_i 0, ai_i (531200 + (10 + (26 * i)) + 1), ai_i z165, ai_i (i + 1), ai_i (10 + (26 * i))]) rfl rfl (by omega) rfl ?_
                    refine w_goto (pt := 133) rfl ?_
                    exact ih133 (531200 + (10 + (26 * i)) + 1) (i + 1) (ai_i (10 + (26 * i))) E195 (by omega) hI197 hF199 hR200 (by
      obtain ⟨d1, d2, d3, d4, d5, d6, d7, d8, d9, d10, d11⟩ := hv133
      have y0_0 := gv_fr hG188 (i := 83) (k := (5 * p + p).toNat) (by first | (simp; done) | omega | (simp only; omega) | (simp; omega))
      have y0_1 := gv_fr hG188 (i := 82) (k := (166 * 3200 + 0 : Int).toNat) (by first | (simp; done) | omega | (simp only; omega) | (simp; omega))
      have y0_2 := gv_fr hG188 (i := 82) (k := (166 * 3200 + 1 : Int).toNat) (by first | (simp; done) | omega | (simp only; omega) | (simp; omega))
      have y0_3 := gv_fr hG188 (i := 82) (k := (166 * 3200 + 2 : Int).toNat) (by first | (simp; done) | omega | (simp only; omega) | (simp; omega))
      have y0_4 := gv_fr hG188 (i := 82) (k := (166 * 3200 + 8 : Int).toNat) (by first | (simp; done) | omega | (simp only; omega) | (simp; omega))
      have y0_5 := gv_fr hG188 (i := 82) (k := (166 * 3200 + 9 : Int).toNat) (by first | (simp; done) | omega | (simp only; omega) | (simp; omega))
      have y1_0 := gv_fr hG198 (i := 83) (k := (5 * p + p).toNat) (by first | (simp; done) | omega | (simp only; omega) | (simp; omega))
      have y1_1 := gv_fr hG198 (i := 82) (k := (166 * 3200 + 0 : Int).toNat) (by first | (simp; done) | omega | (simp only; omega) | (simp; omega))
      have y1_2 := gv_fr hG198 (i := 82) (k := (166 * 3200 + 1 : Int).toNat) (by first | (simp; done) | omega | (simp only; omega) | (simp; omega))
      have y1_3 := gv_fr hG198 (i := 82) (k := (166 * 3200 + 2 : Int).toNat) (by first | (simp; done) | omega | (simp only; omega) | (simp; omega))
      have y1_4 := gv_fr hG198 (i := 82) (k := (166 * 3200 + 8 : Int).toNat) (by first | (simp; done) | omega | (simp only; omega) | (simp; omega))
      have y1_5 := gv_fr hG198 (i := 82) (k := (166 * 3200 + 9 : Int).toNat) (by first | (simp; done) | omega | (simp only; omega) | (simp; omega))
      refine ⟨by omega, by omega, by omega, by omega, by omega, by omega, by omega, by omega, by omega, by omega, fun j j0 j1 => ?_⟩
      by_cases hj : j = i
      · rw [hj]
        have q := hz196.2.2
        rw [show 531200 + (10 + 26 * i) + 1 = 166 * 3200 + 10 + 26 * i + 1 by omega] at q
        exact q
      · rw [← gv_fr hG198 (by first | omega | (simp only; omega)), ← gv_fr hG188 (by first | omega | (simp only; omega))]; exact d11 j j0 j1)
                  · replace hc202 : ¬ (z196 ≠ (0 : Int)) := hc202
                    refine w_aload (i := 0) (npc := 192) rfl rfl rfl ?_
                    refine w_virt (ci := 8) (i := 81) (npc := 195) (a := [cr 81]) (rest := []) rfl rfl (hI197.pl (by decide)) (hI197.T (by decide) rfl) rfl rfl rfl rfl (ct_m_refuse (sl := sl) (x := x) (d := d + 6)  hI197) (Or.inl rfl) (fun k9 v9 T9 E207 nx9 kc9 ks9 hq206 hk9 hs9 => ?_)
                    obtain ⟨rfl, rfl, rfl, hI209, hG210, z208, rfl, hz208⟩ := hq206
                    obtain rfl : kc = kc9 := by omega
                    obtain rfl : ks = ks9 := by omega
                    have hF211 := cm_fr.trans hF199 hG210 (by first | (simp; done) | (simp; omega) | (intro i k h; (try simp only at h); (try simp only); omega))
                    have hR212 := rl.fr hR200 hG210 (by intro i k h; (try simp only at h); omega)
                    have hz213 : E207 81 13 = ai_i z166 := (hG210 81 13 (by simp)).trans hz201
                    have ghz213 := gv_eq hz213
                    refine Or.inr (Or.inl ⟨rfl, ?_⟩)
                    exact w_iret rfl (⟨rfl, rfl, rfl, hI209, hF211, hR212, z208, rfl, trivial⟩) (by omega) (by omega)
            exact loop133 _ (z162) (0) (ai_un) E151 (Nat.lt_succ_self _) hI153 hF155 hR156 (by
      have q8 := hz139.2.2.2.2.2.2 (by omega)
      have q0 := hz139.1
      have q1 := hz139.2.1
      have q2 := hz139.2.2.1
      have q9 := hz152
      have y0_0 := gv_fr hG141 (i := 83) (k := (5 * p + p).toNat) (by first | (simp; done) | omega | (simp only; omega) | (simp; omega))
      have x0_0 := gv_fr hG154 (i := 83) (k := (5 * p + p).toNat) (by first | (simp; done) | omega | (simp only; omega) | (simp; omega))
      have x0_1 := gv_fr hG154 (i := 82) (k := (166 * 3200 + 0 : Int).toNat) (by first | (simp; done) | omega | (simp only; omega) | (simp; omega))
      have x0_2 := gv_fr hG154 (i := 82) (k := (166 * 3200 + 1 : Int).toNat) (by first | (simp; done) | omega | (simp only; omega) | (simp; omega))
      have x0_3 := gv_fr hG154 (i := 82) (k := (166 * 3200 + 2 : Int).toNat) (by first | (simp; done) | omega | (simp only; omega) | (simp; omega))
      have x0_4 := gv_fr hG154 (i := 82) (k := (166 * 3200 + 8 : Int).toNat) (by first | (simp; done) | omega | (simp only; omega) | (simp; omega))
      refine ⟨by omega, by omega, by omega, by omega, by omega, by omega, by omega, by omega, by omega, by omega, fun j j0 j1 => ?_⟩
      rw [← gv_fr hG154 (by first | omega | (simp only; omega))]
      have q7 := hz139.2.2.2.1 (10 + 26 * j + 1) (by omega) (by omega)
      rw [show 166 * 3200 + (10 + 26 * j + 1) = 166 * 3200 + 10 + 26 * j + 1 by omega] at q7
      omega)
          · replace hc147 : ¬ (z139 ≠ (0 : Int)) := hc147
            refine w_aload (i := 0) (npc := 96) rfl rfl rfl ?_
            refine w_virt (ci := 8) (i := 81) (npc := 99) (a := [cr 81]) (rest := []) rfl rfl (hI140.pl (by decide)) (hI140.T (by decide) rfl) rfl rfl rfl rfl (ct_m_refuse (sl := sl) (x := x) (d := d + 6)  hI140) (Or.inl rfl) (fun k9 v9 T9 E215 nx9 kc9 ks9 hq214 hk9 hs9 => ?_)
            obtain ⟨rfl, rfl, rfl, hI217, hG218, z216, rfl, hz216⟩ := hq214
            obtain rfl : kc = kc9 := by omega
            obtain rfl : ks = ks9 := by omega
            have hF219 := cm_fr.trans hF143 hG218 (by first | (simp; done) | (simp; omega) | (intro i k h; (try simp only at h); (try simp only); omega))
            have hR220 := rl.fr hR142 hG218 (by intro i k h; (try simp only at h); omega)
            have hx221 := tx.fr hx144 hG218 (by intro i k h; (try simp only at h); omega)
            have hz222 : E215 81 0 = ai_i 0 := (hG218 81 0 (by simp)).trans hz145
            have ghz222 := gv_eq hz222
            have hz223 : E215 81 13 = ai_i z136 := (hG218 81 13 (by simp)).trans hz146
            have ghz223 := gv_eq hz223
            refine Or.inr (Or.inl ⟨rfl, ?_⟩)
            exact w_iret rfl (⟨rfl, rfl, rfl, hI217, hF219, hR220, z216, rfl, trivial⟩) (by omega) (by omega)
      · replace hc123 : ¬ (t < f) := hc123
        refine w_iload (i := 3) (npc := 34) rfl rfl ?_
        refine w_aload (i := 0) (npc := 35) rfl rfl rfl ?_
        obtain ⟨z224, hz224, hz224a, hz224b⟩ := hI16.int 81 13 (lo := 0) (hi := 300) (by decide) (by decide) rfl
        have ghz224 := gv_eq hz224
        refine w_getf (i := 81) (ci := 8) (k := 13) (npc := 38) rfl (hI16.pl (by decide)) (hI16.T (by decide) rfl) (by decide) hz224 ?_
        refine w_icmp (c := .ge) (npc := 41) (pt := 78) rfl (fun hc225 => ?_) (fun hc225 => ?_)
        · replace hc225 : z224 ≤ t := hc225
          refine w_const (n := 0) (npc := 79) rfl ?_
          refine w_istore (i := 5) (npc := 81) (loc' := [cr 81, ai_i p, ai_i f, ai_i t, ai_i c, ai_i 0, ai_un, ai_un, ai_un, ai_un]) rfl rfl ?_
          refine w_iload (i := 5) (npc := 83) rfl rfl ?_
          refine w_if (c := .eq) (npc := 86) (pt := 95) rfl (fun hc226 => ?_) (fun hc226 => ?_)
          · replace hc226 : (0 : Int) = 0 := hc226
            refine w_aload (i := 0) (npc := 96) rfl rfl rfl ?_
            refine w_virt (ci := 8) (i := 81) (npc := 99) (a := [cr 81]) (rest := []) rfl rfl (hI16.pl (by decide)) (hI16.T (by decide) rfl) rfl rfl rfl rfl (ct_m_refuse (sl := sl) (x := x) (d := d + 6)  hI16) (Or.inl rfl) (fun k9 v9 T9 E228 nx9 kc9 ks9 hq227 hk9 hs9 => ?_)
            obtain ⟨rfl, rfl, rfl, hI230, hG231, z229, rfl, hz229⟩ := hq227
            obtain rfl : kc = kc9 := by omega
            obtain rfl : ks = ks9 := by omega
            have hF232 := cm_fr.trans hF19 hG231 (by first | (simp; done) | (simp; omega) | (intro i k h; (try simp only at h); (try simp only); omega))
            have hR233 := rl.fr hR18 hG231 (by intro i k h; (try simp only at h); omega)
            have hx234 := tx.fr hx20 hG231 (by intro i k h; (try simp only at h); omega)
            have hz235 : E228 81 0 = ai_i 0 := (hG231 81 0 (by simp)).trans hz21
            have ghz235 := gv_eq hz235
            have hz236 : E228 81 13 = ai_i z224 := (hG231 81 13 (by simp)).trans hz224
            have ghz236 := gv_eq hz236
            refine Or.inr (Or.inl ⟨rfl, ?_⟩)
            exact w_iret rfl (⟨rfl, rfl, rfl, hI230, hF232, hR233, z229, rfl, trivial⟩) (by omega) (by omega)
          · replace hc226 : ¬ ((0 : Int) = 0) := hc226
            refine w_aload (i := 0) (npc := 87) rfl rfl rfl ?_
            refine w_iload (i := 1) (npc := 88) rfl rfl ?_
            refine w_const (n := 3) (npc := 89) rfl ?_
            refine w_virt (ci := 8) (i := 81) (npc := 92) (a := [cr 81, ai_i p, ai_i 3]) (rest := []) rfl rfl (hI16.pl (by decide)) (hI16.T (by decide) rfl) rfl rfl rfl rfl (ct_m_beginStep (sl := sl) (x := x) (d := d + 4) (p) (3) hI16 hR18 (by omega) (by omega)) (Or.inl rfl) (fun k9 v9 T9 E238 nx9 kc9 ks9 hq237 hk9 hs9 => ?_)
            obtain ⟨rfl, rfl, rfl, hI240, hG241, hR242, z239, rfl, hz239⟩ := hq237
            obtain rfl : kc = kc9 := by omega
            obtain rfl : ks = ks9 := by omega
            have hF243 := cm_fr.trans hF19 hG241 (by first | (simp; done) | (simp; omega) | (intro i k h; (try simp only at h); (try simp only); omega))
            have hx244 := tx.fr hx20 hG241 (by intro i k h; (try simp only at h); omega)
            have hz245 : E238 81 0 = ai_i 0 := (hG241 81 0 (by simp)).trans hz21
            have ghz245 := gv_eq hz245
            have hz246 : E238 81 13 = ai_i z224 := (hG241 81 13 (by simp)).trans hz224
            have ghz246 := gv_eq hz246
            refine Or.inr (Or.inl ⟨rfl, ?_⟩)
            refine w_if (c := .ne) (npc := 95) (pt := 100) rfl (fun hc247 => ?_) (fun hc247 => ?_)
            · replace hc247 : z239 ≠ (0 : Int) := hc247
              refine w_aload (i := 0) (npc := 101) rfl rfl rfl ?_
              refine w_const (n := 3200) (npc := 104) rfl ?_
              refine w_const (n := 9) (npc := 106) rfl ?_
              refine w_iload (i := 3) (npc := 107) rfl rfl ?_
              refine w_iload (i := 2) (npc := 108) rfl rfl ?_
              refine w_isub (npc := 109) rfl (by omega) ?_
              refine w_const (n := 1) (npc := 110) rfl ?_
              refine w_iadd (npc := 111) rfl (by omega) ?_
              refine w_virt (ci := 8) (i := 81) (npc := 114) (a := [cr 81, ai_i 3200, ai_i 9, ai_i (t - f + 1)]) (rest := []) rfl rfl (hI240.pl (by decide)) (hI240.T (by decide) rfl) rfl rfl rfl rfl (ct_m_put (sl := sl) (x := x) (d := d + 6) (3200) (9) (t - f + 1) hI240 (by omega) (by omega) (by omega)) (Or.inl rfl) (fun k9 v9 T9 E251 nx9 kc9 ks9 hq250 hk9 hs9 => ?_)
              obtain ⟨rfl, rfl, rfl, hI253, hG254, hz252⟩ := hq250
              obtain rfl : kc = kc9 := by omega
              obtain rfl : ks = ks9 := by omega
              have hF255 := cm_fr.trans hF243 hG254 (by first | (simp; done) | (simp; omega) | (intro i k h; (try simp only at h); (try simp only); omega))
              have hR256 := rl.fr hR242 hG254 (by intro i k h; (try simp only at h); omega)
              have hx257 := tx.fr hx244 hG254 (by intro i k h; (try simp only at h); omega)
              have hz258 : E251 81 0 = ai_i 0 := (hG254 81 0 (by simp)).trans hz245
              have ghz258 := gv_eq hz258
              have hz259 : E251 81 13 = ai_i z224 := (hG254 81 13 (by simp)).trans hz246
              have ghz259 := gv_eq hz259
              refine Or.inl ⟨rfl, ?_⟩
              refine w_aload (i := 0) (npc := 115) rfl rfl rfl ?_
              refine w_iload (i := 4) (npc := 117) rfl rfl ?_
              refine w_virt (ci := 8) (i := 81) (npc := 120) (a := [cr 81, ai_i c]) (rest := []) rfl rfl (hI253.pl (by decide)) (hI253.T (by decide) rfl) rfl rfl rfl rfl (ct_m_keyAhead (sl := sl) (x := x) (d := d + 6) (c) hI253 (by omega)) (Or.inl rfl) (fun k9 v9 T9 E261 nx9 kc9 ks9 hq260 hk9 hs9 => ?_)
              obtain ⟨rfl, rfl, rfl, rfl, z262, rfl, hz262⟩ := hq260
              obtain rfl : kc = kc9 := by omega
              obtain rfl : ks = ks9 := by omega
              refine Or.inr (Or.inl ⟨rfl, ?_⟩)
              refine w_istore (i := 6) (npc := 122) (loc' := [cr 81, ai_i p, ai_i f, ai_i t, ai_i c, ai_i 0, ai_i z262, ai_un, ai_un, ai_un]) rfl rfl ?_
              refine w_aload (i := 0) (npc := 123) rfl rfl rfl ?_
              refine w_iload (i := 4) (npc := 125) rfl rfl ?_
              refine w_virt (ci := 8) (i := 81) (npc := 128) (a := [cr 81, ai_i c]) (rest := []) rfl rfl (hI253.pl (by decide)) (hI253.T (by decide) rfl) rfl rfl rfl rfl (ct_m_keyBehind (sl := sl) (x := x) (d := d + 5) (c) hI253 (by omega) hx257) (Or.inl rfl) (fun k9 v9 T9 E264 nx9 kc9 ks9 hq263 hk9 hs9 => ?_)
              obtain ⟨rfl, rfl, rfl, rfl, z265, rfl, hz265⟩ := hq263
              obtain rfl : kc = kc9 := by omega
              obtain rfl : ks = ks9 := by omega
              refine Or.inr (Or.inl ⟨rfl, ?_⟩)
              refine w_istore (i := 7) (npc := 130) (loc' := [cr 81, ai_i p, ai_i f, ai_i t, ai_i c, ai_i 0, ai_i z262, ai_i z265, ai_un, ai_un]) rfl rfl ?_
              refine w_const (n := 0) (npc := 131) rfl ?_
              refine w_istore (i := 8) (npc := 133) (loc' := [cr 81, ai_i p, ai_i f, ai_i t, ai_i c, ai_i 0, ai_i z262, ai_i z265, ai_i 0, ai_un]) rfl rfl ?_
              have loop133 : ∀ (nf : Nat) (a : Int) (i : Int) (u133_9 : ai_V) (Eq133 : cm_E), ((t - f + 1 - i).toNat) < nf → cs_I T Eq133 nx → cm_fr (fun i k => (i = 81 ∧ (k = 0 ∨ k = 12 ∨ k = 13)) ∨ i = 82 ∨ i = 83 ∨ i = 84 ∨ i = 85 ∨ i = 86 ∨ i = 87 ∨ i = 88 ∨ i = 89 ∨ i = 90 ∨ i = 91) E Eq133 → rl Eq133 → (0 ≤ i ∧ i ≤ t - f + 1 ∧ -1 ≤ a ∧ a ≤ 531341 ∧ gv Eq133 82 (166 * 3200 + 0 : Int).toNat = 3 ∧ gv Eq133 82 (166 * 3200 + 1 : Int).toNat = p ∧ gv Eq133 82 (166 * 3200 + 2 : Int).toNat = gv Eq133 83 (5 * p + p).toNat + 1 ∧ (0 ≤ gv Eq133 83 (5 * p + p).toNat ∧ gv Eq133 83 (5 * p + p).toNat ≤ 59) ∧ gv Eq133 82 (166 * 3200 + 8 : Int).toNat ≤ 65535 ∧ gv Eq133 82 (166 * 3200 + 9 : Int).toNat ≤ 6 ∧ (∀ j : Int, 0 ≤ j → j < 6 → gv Eq133 82 (166 * 3200 + 10 + 26 * j + 1).toNat ≤ 24)) → cm_wp (ai_find ai_c186 sl) (ai_ev sl (d + 7)) x (kc + 0) (ks + 0) (fun rk rv T' E' nx' => rk = 1 ∧ T = T' ∧ nx = nx' ∧ cs_I T E' nx ∧ cm_fr (fun i k => (i = 81 ∧ (k = 0 ∨ k = 12 ∨ k = 13)) ∨ i = 82 ∨ i = 83 ∨ i = 84 ∨ i = 85 ∨ i = 86 ∨ i = 87 ∨ i = 88 ∨ i = 89 ∨ i = 90 ∨ i = 91) E E' ∧ rl E' ∧ ∃ z : Int, rv = ai_i z ∧ (True)) 133 [cr 81, ai_i p, ai_i f, ai_i t, ai_i c, ai_i 0, ai_i a, ai_i z265, ai_i i, u133_9] [] T Eq133 nx kc ks := by
                intro nf
                induction nf with
                | zero => intro a i u133_9 Eq133 hm; exact absurd hm (Nat.not_lt_zero _)
                | succ nf133 ih =>
                  intro a i u133_9 Eq133 hm133 hI133 hF133 hR133 hv133
                  obtain ⟨z266, hz266, hz266a, hz266b⟩ := hI133.int 81 13 (lo := 0) (hi := 300) (by decide) (by decide) rfl
                  have ghz266 := gv_eq hz266
                  have ih133 := ih; clear ih
                  refine w_iload (i := 8) (npc := 135) rfl rfl ?_
                  refine w_iload (i := 3) (npc := 136) rfl rfl ?_
                  refine w_iload (i := 2) (npc := 137) rfl rfl ?_
                  refine w_isub (npc := 138) rfl (by omega) ?_
                  refine w_icmp (c := .gt) (npc := 141) (pt := 211) rfl (fun hc268 => ?_) (fun hc268 => ?_)
                  · replace hc268 : t - f < i := hc268
                    refine w_aload (i := 0) (npc := 212) rfl rfl rfl ?_
                    refine w_iload (i := 1) (npc := 213) rfl rfl ?_
                    refine w_virt (ci := 8) (i := 81) (npc := 216) (a := [cr 81, ai_i p]) (rest := []) rfl rfl (hI133.pl (by decide)) (hI133.T (by decide) rfl) rfl rfl rfl rfl (ct_m_endStep (sl := sl) (x := x) (d := d + 2) (p) hI133  hR133 (by omega) (hand_ok (E := Eq133) (a := 3) (p := p) (m := gv Eq133 83 (5 * p + p).toNat) hv133.2.2.2.2.1 hv133.2.2.2.2.2.1 hv133.2.2.2.2.2.2.1 hv133.2.2.2.2.2.2.2.2.1 (by omega) (by omega) (by omega) (by have hl9 := gv_fr hF133 (i := 81) (k := 1) (by simp); omega) (fun q => by omega) (fun q => by omega) (fun _ => ⟨by omega, hv133.2.2.2.2.2.2.2.2.2.2⟩)).1 (hand_ok (E := Eq133) (a := 3) (p := p) (m := gv Eq133 83 (5 * p + p).toNat) hv133.2.2.2.2.1 hv133.2.2.2.2.2.1 hv133.2.2.2.2.2.2.1 hv133.2.2.2.2.2.2.2.2.1 (by omega) (by omega) (by omega) (by have hl9 := gv_fr hF133 (i := 81) (k := 1) (by simp); omega) (fun q => by omega) (fun q => by omega) (fun _ => ⟨by omega, hv133.2.2.2.2.2.2.2.2.2.2⟩)).2 hv133.2.2.2.2.2.1 (by omega)) (Or.inl rfl) (fun k9 v9 T9 E270 nx9 kc9 ks9 hq269 hk9 hs9 => ?_)
                    obtain ⟨rfl, rfl, rfl, hI272, hG273, hR274, z271, rfl, hz271⟩ := hq269
                    obtain rfl : kc = kc9 := by omega
                    obtain rfl : ks = ks9 := by omega
                    have hF275 := cm_fr.trans hF133 hG273 (by first | (simp; done) | (simp; omega) | (intro i k h; (try simp only at h); (try simp only); omega))
                    have hz276 : E270 81 13 = ai_i z266 := (hG273 81 13 (by simp)).trans hz266
                    have ghz276 := gv_eq hz276
                    refine Or.inr (Or.inl ⟨rfl, ?_⟩)
                    exact w_iret rfl (⟨rfl, rfl, rfl, hI272, hF275, hR274, z271, rfl, trivial⟩) (by omega) (by omega)
                  · replace hc268 : ¬ (t - f < i) := hc268
                    refine w_const (n := 10) (npc := 143) rfl ?_
                    refine w_const (n := 26) (npc := 145) rfl ?_
                    refine w_iload (i := 8) (npc := 147) rfl rfl ?_
                    refine w_imul (npc := 148) rfl (by omega) ?_
                    refine w_iadd (npc := 149) rfl (by omega) ?_
                    refine w_istore (i := 9) (npc := 151) (loc' := [cr 81, ai_i p, ai_i f, ai_i t, ai_i c, ai_i 0, ai_i a, ai_i z265, ai_i i, ai_i (10 + (26 * i))]) rfl rfl ?_
                    refine w_aload (i := 0) (npc := 152) rfl rfl rfl ?_
                    refine w_const (n := 3200) (npc := 155) rfl ?_
                    refine w_iload (i := 9) (npc := 157) rfl rfl ?_
                    refine w_aload (i := 0) (npc := 158) rfl rfl rfl ?_
                    refine w_getf (i := 81) (ci := 8) (k := 11) (npc := 161) rfl (hI133.pl (by decide)) (hI133.T (by decide) rfl) (by decide) (hI133.ref 81 11 (p := 91) (by decide) (by decide) rfl) ?_
                    refine w_iload (i := 2) (npc := 162) rfl rfl ?_
                    refine w_iload (i := 8) (npc := 164) rfl rfl ?_
                    refine w_iadd (npc := 165) rfl (by omega) ?_
                    obtain ⟨z280, hz280, hz280a, hz280b⟩ := hI133.int 91 (f + i : Int).toNat (lo := 0) (hi := 299) (by decide) (show (f + i : Int).toNat < 300 by omega) rfl
                    have ghz280 := gv_eq hz280
                    refine w_ald (i := 91) (t := 1) (n := 300) (npc := 166) rfl (hI133.pl (by decide)) (hI133.T (by decide) rfl) (by decide) rfl (by omega) hz280 ?_
                    refine w_call (npc := 169) (a := [ai_i z280]) (rest := [ai_i (10 + (26 * i)), ai_i 3200, cr 81]) rfl rfl rfl rfl rfl (ct_m_nameOf (sl := sl) (x := x) (d := d + 6) (z280) (by omega)) (Or.inr (fun _ _ _ _ _ hq => by have h1 := hq.1; omega)) (fun k9 v9 T9 E282 nx9 kc9 ks9 hq281 hk9 hs9 => ?_)
                    obtain ⟨rfl, rfl, rfl, rfl, z283, rfl, hz283⟩ := hq281
                    obtain rfl : kc = kc9 := by omega
                    obtain rfl : ks = ks9 := by omega
                    refine Or.inr (Or.inl ⟨rfl, ?_⟩)
                    refine w_virt (ci := 8) (i := 81) (npc := 172) (a := [cr 81, ai_i 3200, ai_i (10 + (26 * i)), ai_i z283]) (rest := []) rfl rfl (hI133.pl (by decide)) (hI133.T (by decide) rfl) rfl rfl rfl rfl (ct_m_put (sl := sl) (x := x) (d := d + 6) (3200) (10 + (26 * i)) (z283) hI133 (by omega) (by omega) (by omega)) (Or.inl rfl) (fun k9 v9 T9 E285 nx9 kc9 ks9 hq284 hk9 hs9 => ?_)
                    obtain ⟨rfl, rfl, rfl, hI287, hG288, hz286⟩ := hq284
                    obtain rfl : kc = kc9 := by omega
                    obtain rfl : ks = ks9 := by omega
                    have hF289 := cm_fr.trans hF133 hG288 (by first | (simp; done) | (simp; omega) | (intro i k h; (try simp only at h); (try simp only); omega))
                    have hR290 := rl.fr hR133 hG288 (by intro i k h; (try simp only at h); omega)
                    have hz291 : E285 81 13 = ai_i z266 := (hG288 81 13 (by simp)).trans hz266
                    have ghz291 := gv_eq hz291
                    refine Or.inl ⟨rfl, ?_⟩
                    refine w_aload (i := 0) (npc := 173) rfl rfl rfl ?_
                    refine w_iload (i := 6) (npc := 175) rfl rfl ?_
                    refine w_iload (i := 7) (npc := 177) rfl rfl ?_
                    refine w_iload (i := 1) (npc := 178) rfl rfl ?_
                    refine w_const (n := 531200) (npc := 180) rfl ?_
                    refine w_iload (i := 9) (npc := 182) rfl rfl ?_
                    refine w_iadd (npc := 183) rfl (by omega) ?_
                    refine w_const (n := 1) (npc := 184) rfl ?_
                    refine w_iadd (npc := 185) rfl (by omega) ?_
                    refine w_virt (ci := 8) (i := 81) (npc := 188) (a := [cr 81, ai_i a, ai_i z265, ai_i p, ai_i (531200 + (10 + (26 * i)) + 1)]) (rest := []) rfl rfl (hI287.pl (by decide)) (hI287.T (by decide) rfl) rfl rfl rfl rfl (ct_m_newKey (sl := sl) (x := x) (d := d + 6) (a) (z265) (p) (531200 + (10 + (26 * i)) + 1) hI287 (by omega) (by omega) (by omega) (by omega)) (Or.inl rfl) (fun k9 v9 T9 E295 nx9 kc9 ks9 hq294 hk9 hs9 => ?_)
                    obtain ⟨rfl, rfl, rfl, hI297, hG298, z296, rfl, hz296⟩ := hq294
                    obtain rfl : kc = kc9 := by omega
                    obtain rfl : ks = ks9 := by omega
                    have hF299 := cm_fr.trans hF289 hG298 (by first | (simp; done) | (simp; omega) | (intro i k h; (try simp only at h); (try simp only); omega))
                    have hR300 := rl.fr hR290 hG298 (by intro i k h; (try simp only at h); omega)
                    have hz301 : E295 81 13 = ai_i z266 := (hG298 81 13 (by simp)).trans hz291
                    have ghz301 := gv_eq hz301
                    refine Or.inr (Or.inl ⟨rfl, ?_⟩)
                    refine w_if (c := .ne) (npc := 191) (pt := 196) rfl (fun hc302 => ?_) (fun hc302 => ?_)
                    · replace hc302 : z296 ≠ (0 : Int) := hc302
                      refine w_const (n := 531200) (npc := 198) rfl ?_
                      refine w_iload (i := 9) (npc := 200) rfl rfl ?_
                      refine w_iadd (npc := 201) rfl (by omega) ?_
                      refine w_const (n := 1) (npc := 202) rfl ?_
                      refine w_iadd (npc := 203) rfl (by omega) ?_
                      refine w_istore (i := 6) (npc := 205) (loc' := [cr 81, ai_i p, ai_i f, ai_i t, ai_i c, ai_i 0, ai_i (531200 + (10 + (26 * i)) + 1), ai_i z265, ai_i i, ai_i (10 + (26 * i))]) rfl rfl ?_
                      refine w_iinc (i := 8) (n := 1) (npc := 208) (loc' := [cr 81, ai_i p, ai_i f, ai_i t, ai_i c, ai_i 0, ai_i (531200 + (10 + (26 * i)) + 1), ai_i z265, ai_i (i + 1), ai_i (10 + (26 * i))]) rfl rfl (by omega) rfl ?_
                      refine w_goto (pt := 133) rfl ?_
                      exact ih133 (531200 + (10 + (26 * i)) + 1) (i + 1) (ai_i (10 + (26 * i))) E295 (by omega) hI297 hF299 hR300 (by
      obtain ⟨d1, d2, d3, d4, d5, d6, d7, d8, d9, d10, d11⟩ := hv133
      have y0_0 := gv_fr hG288 (i := 83) (k := (5 * p + p).toNat) (by first | (simp; done) | omega | (simp only; omega) | (simp; omega))
      have y0_1 := gv_fr hG288 (i := 82) (k := (166 * 3200 + 0 : Int).toNat) (by first | (simp; done) | omega | (simp only; omega) | (simp; omega))
      have y0_2 := gv_fr hG288 (i := 82) (k := (166 * 3200 + 1 : Int).toNat) (by first | (simp; done) | omega | (simp only; omega) | (simp; omega))
      have y0_3 := gv_fr hG288 (i := 82) (k := (166 * 3200 + 2 : Int).toNat) (by first | (simp; done) | omega | (simp only; omega) | (simp; omega))
      have y0_4 := gv_fr hG288 (i := 82) (k := (166 * 3200 + 8 : Int).toNat) (by first | (simp; done) | omega | (simp only; omega) | (simp; omega))
      have y0_5 := gv_fr hG288 (i := 82) (k := (166 * 3200 + 9 : Int).toNat) (by first | (simp; done) | omega | (simp only; omega) | (simp; omega))
      have y1_0 := gv_fr hG298 (i := 83) (k := (5 * p + p).toNat) (by first | (simp; done) | omega | (simp only; omega) | (simp; omega))
      have y1_1 := gv_fr hG298 (i := 82) (k := (166 * 3200 + 0 : Int).toNat) (by first | (simp; done) | omega | (simp only; omega) | (simp; omega))
      have y1_2 := gv_fr hG298 (i := 82) (k := (166 * 3200 + 1 : Int).toNat) (by first | (simp; done) | omega | (simp only; omega) | (simp; omega))
      have y1_3 := gv_fr hG298 (i := 82) (k := (166 * 3200 + 2 : Int).toNat) (by first | (simp; done) | omega | (simp only; omega) | (simp; omega))
      have y1_4 := gv_fr hG298 (i := 82) (k := (166 * 3200 + 8 : Int).toNat) (by first | (simp; done) | omega | (simp only; omega) | (simp; omega))
      have y1_5 := gv_fr hG298 (i := 82) (k := (166 * 3200 + 9 : Int).toNat) (by first | (simp; done) | omega | (simp only; omega) | (simp; omega))
      refine ⟨by omega, by omega, by omega, by omega, by omega, by omega, by omega, by omega, by omega, by omega, fun j j0 j1 => ?_⟩
      by_cases hj : j = i
      · rw [hj]
        have q := hz296.2.2
        rw [show 531200 + (10 + 26 * i) + 1 = 166 * 3200 + 10 + 26 * i + 1 by omega] at q
        exact q
      · rw [← gv_fr hG298 (by first | omega | (simp only; omega)), ← gv_fr hG288 (by first | omega | (simp only; omega))]; exact d11 j j0 j1)
                    · replace hc302 : ¬ (z296 ≠ (0 : Int)) := hc302
                      refine w_aload (i := 0) (npc := 192) rfl rfl rfl ?_
                      refine w_virt (ci := 8) (i := 81) (npc := 195) (a := [cr 81]) (rest := []) rfl rfl (hI297.pl (by decide)) (hI297.T (by decide) rfl) rfl rfl rfl rfl (ct_m_refuse (sl := sl) (x := x) (d := d + 6)  hI297) (Or.inl rfl) (fun k9 v9 T9 E307 nx9 kc9 ks9 hq306 hk9 hs9 => ?_)
                      obtain ⟨rfl, rfl, rfl, hI309, hG310, z308, rfl, hz308⟩ := hq306
                      obtain rfl : kc = kc9 := by omega
                      obtain rfl : ks = ks9 := by omega
                      have hF311 := cm_fr.trans hF299 hG310 (by first | (simp; done) | (simp; omega) | (intro i k h; (try simp only at h); (try simp only); omega))
                      have hR312 := rl.fr hR300 hG310 (by intro i k h; (try simp only at h); omega)
                      have hz313 : E307 81 13 = ai_i z266 := (hG310 81 13 (by simp)).trans hz301
                      have ghz313 := gv_eq hz313
                      refine Or.inr (Or.inl ⟨rfl, ?_⟩)
                      exact w_iret rfl (⟨rfl, rfl, rfl, hI309, hF311, hR312, z308, rfl, trivial⟩) (by omega) (by omega)
              exact loop133 _ (z262) (0) (ai_un) E251 (Nat.lt_succ_self _) hI253 hF255 hR256 (by
      have q8 := hz239.2.2.2.2.2.2 (by omega)
      have q0 := hz239.1
      have q1 := hz239.2.1
      have q2 := hz239.2.2.1
      have q9 := hz252
      have y0_0 := gv_fr hG241 (i := 83) (k := (5 * p + p).toNat) (by first | (simp; done) | omega | (simp only; omega) | (simp; omega))
      have x0_0 := gv_fr hG254 (i := 83) (k := (5 * p + p).toNat) (by first | (simp; done) | omega | (simp only; omega) | (simp; omega))
      have x0_1 := gv_fr hG254 (i := 82) (k := (166 * 3200 + 0 : Int).toNat) (by first | (simp; done) | omega | (simp only; omega) | (simp; omega))
      have x0_2 := gv_fr hG254 (i := 82) (k := (166 * 3200 + 1 : Int).toNat) (by first | (simp; done) | omega | (simp only; omega) | (simp; omega))
      have x0_3 := gv_fr hG254 (i := 82) (k := (166 * 3200 + 2 : Int).toNat) (by first | (simp; done) | omega | (simp only; omega) | (simp; omega))
      have x0_4 := gv_fr hG254 (i := 82) (k := (166 * 3200 + 8 : Int).toNat) (by first | (simp; done) | omega | (simp only; omega) | (simp; omega))
      refine ⟨by omega, by omega, by omega, by omega, by omega, by omega, by omega, by omega, by omega, by omega, fun j j0 j1 => ?_⟩
      rw [← gv_fr hG254 (by first | omega | (simp only; omega))]
      have q7 := hz239.2.2.2.1 (10 + 26 * j + 1) (by omega) (by omega)
      rw [show 166 * 3200 + (10 + 26 * j + 1) = 166 * 3200 + 10 + 26 * j + 1 by omega] at q7
      omega)
            · replace hc247 : ¬ (z239 ≠ (0 : Int)) := hc247
              refine w_aload (i := 0) (npc := 96) rfl rfl rfl ?_
              refine w_virt (ci := 8) (i := 81) (npc := 99) (a := [cr 81]) (rest := []) rfl rfl (hI240.pl (by decide)) (hI240.T (by decide) rfl) rfl rfl rfl rfl (ct_m_refuse (sl := sl) (x := x) (d := d + 6)  hI240) (Or.inl rfl) (fun k9 v9 T9 E315 nx9 kc9 ks9 hq314 hk9 hs9 => ?_)
              obtain ⟨rfl, rfl, rfl, hI317, hG318, z316, rfl, hz316⟩ := hq314
              obtain rfl : kc = kc9 := by omega
              obtain rfl : ks = ks9 := by omega
              have hF319 := cm_fr.trans hF243 hG318 (by first | (simp; done) | (simp; omega) | (intro i k h; (try simp only at h); (try simp only); omega))
              have hR320 := rl.fr hR242 hG318 (by intro i k h; (try simp only at h); omega)
              have hx321 := tx.fr hx244 hG318 (by intro i k h; (try simp only at h); omega)
              have hz322 : E315 81 0 = ai_i 0 := (hG318 81 0 (by simp)).trans hz245
              have ghz322 := gv_eq hz322
              have hz323 : E315 81 13 = ai_i z224 := (hG318 81 13 (by simp)).trans hz246
              have ghz323 := gv_eq hz323
              refine Or.inr (Or.inl ⟨rfl, ?_⟩)
              exact w_iret rfl (⟨rfl, rfl, rfl, hI317, hF319, hR320, z316, rfl, trivial⟩) (by omega) (by omega)
        · replace hc225 : ¬ (z224 ≤ t) := hc225
          refine w_iload (i := 3) (npc := 42) rfl rfl ?_
          refine w_iload (i := 2) (npc := 43) rfl rfl ?_
          refine w_isub (npc := 44) rfl (by omega) ?_
          refine w_const (n := 6) (npc := 46) rfl ?_
          refine w_icmp (c := .ge) (npc := 49) (pt := 78) rfl (fun hc325 => ?_) (fun hc325 => ?_)
          · replace hc325 : (6 : Int) ≤ t - f := hc325
            refine w_const (n := 0) (npc := 79) rfl ?_
            refine w_istore (i := 5) (npc := 81) (loc' := [cr 81, ai_i p, ai_i f, ai_i t, ai_i c, ai_i 0, ai_un, ai_un, ai_un, ai_un]) rfl rfl ?_
            refine w_iload (i := 5) (npc := 83) rfl rfl ?_
            refine w_if (c := .eq) (npc := 86) (pt := 95) rfl (fun hc326 => ?_) (fun hc326 => ?_)
            · replace hc326 : (0 : Int) = 0 := hc326
              refine w_aload (i := 0) (npc := 96) rfl rfl rfl ?_
              refine w_virt (ci := 8) (i := 81) (npc := 99) (a := [cr 81]) (rest := []) rfl rfl (hI16.pl (by decide)) (hI16.T (by decide) rfl) rfl rfl rfl rfl (ct_m_refuse (sl := sl) (x := x) (d := d + 6)  hI16) (Or.inl rfl) (fun k9 v9 T9 E328 nx9 kc9 ks9 hq327 hk9 hs9 => ?_)
              obtain ⟨rfl, rfl, rfl, hI330, hG331, z329, rfl, hz329⟩ := hq327
              obtain rfl : kc = kc9 := by omega
              obtain rfl : ks = ks9 := by omega
              have hF332 := cm_fr.trans hF19 hG331 (by first | (simp; done) | (simp; omega) | (intro i k h; (try simp only at h); (try simp only); omega))
              have hR333 := rl.fr hR18 hG331 (by intro i k h; (try simp only at h); omega)
              have hx334 := tx.fr hx20 hG331 (by intro i k h; (try simp only at h); omega)
              have hz335 : E328 81 0 = ai_i 0 := (hG331 81 0 (by simp)).trans hz21
              have ghz335 := gv_eq hz335
              have hz336 : E328 81 13 = ai_i z224 := (hG331 81 13 (by simp)).trans hz224
              have ghz336 := gv_eq hz336
              refine Or.inr (Or.inl ⟨rfl, ?_⟩)
              exact w_iret rfl (⟨rfl, rfl, rfl, hI330, hF332, hR333, z329, rfl, trivial⟩) (by omega) (by omega)
            · replace hc326 : ¬ ((0 : Int) = 0) := hc326
              refine w_aload (i := 0) (npc := 87) rfl rfl rfl ?_
              refine w_iload (i := 1) (npc := 88) rfl rfl ?_
              refine w_const (n := 3) (npc := 89) rfl ?_
              refine w_virt (ci := 8) (i := 81) (npc := 92) (a := [cr 81, ai_i p, ai_i 3]) (rest := []) rfl rfl (hI16.pl (by decide)) (hI16.T (by decide) rfl) rfl rfl rfl rfl (ct_m_beginStep (sl := sl) (x := x) (d := d + 4) (p) (3) hI16 hR18 (by omega) (by omega)) (Or.inl rfl) (fun k9 v9 T9 E338 nx9 kc9 ks9 hq337 hk9 hs9 => ?_)
              obtain ⟨rfl, rfl, rfl, hI340, hG341, hR342, z339, rfl, hz339⟩ := hq337
              obtain rfl : kc = kc9 := by omega
              obtain rfl : ks = ks9 := by omega
              have hF343 := cm_fr.trans hF19 hG341 (by first | (simp; done) | (simp; omega) | (intro i k h; (try simp only at h); (try simp only); omega))
              have hx344 := tx.fr hx20 hG341 (by intro i k h; (try simp only at h); omega)
              have hz345 : E338 81 0 = ai_i 0 := (hG341 81 0 (by simp)).trans hz21
              have ghz345 := gv_eq hz345
              have hz346 : E338 81 13 = ai_i z224 := (hG341 81 13 (by simp)).trans hz224
              have ghz346 := gv_eq hz346
              refine Or.inr (Or.inl ⟨rfl, ?_⟩)
              refine w_if (c := .ne) (npc := 95) (pt := 100) rfl (fun hc347 => ?_) (fun hc347 => ?_)
              · replace hc347 : z339 ≠ (0 : Int) := hc347
                refine w_aload (i := 0) (npc := 101) rfl rfl rfl ?_
                refine w_const (n := 3200) (npc := 104) rfl ?_
                refine w_const (n := 9) (npc := 106) rfl ?_
                refine w_iload (i := 3) (npc := 107) rfl rfl ?_
                refine w_iload (i := 2) (npc := 108) rfl rfl ?_
                refine w_isub (npc := 109) rfl (by omega) ?_
                refine w_const (n := 1) (npc := 110) rfl ?_
                refine w_iadd (npc := 111) rfl (by omega) ?_
                refine w_virt (ci := 8) (i := 81) (npc := 114) (a := [cr 81, ai_i 3200, ai_i 9, ai_i (t - f + 1)]) (rest := []) rfl rfl (hI340.pl (by decide)) (hI340.T (by decide) rfl) rfl rfl rfl rfl (ct_m_put (sl := sl) (x := x) (d := d + 6) (3200) (9) (t - f + 1) hI340 (by omega) (by omega) (by omega)) (Or.inl rfl) (fun k9 v9 T9 E351 nx9 kc9 ks9 hq350 hk9 hs9 => ?_)
                obtain ⟨rfl, rfl, rfl, hI353, hG354, hz352⟩ := hq350
                obtain rfl : kc = kc9 := by omega
                obtain rfl : ks = ks9 := by omega
                have hF355 := cm_fr.trans hF343 hG354 (by first | (simp; done) | (simp; omega) | (intro i k h; (try simp only at h); (try simp only); omega))
                have hR356 := rl.fr hR342 hG354 (by intro i k h; (try simp only at h); omega)
                have hx357 := tx.fr hx344 hG354 (by intro i k h; (try simp only at h); omega)
                have hz358 : E351 81 0 = ai_i 0 := (hG354 81 0 (by simp)).trans hz345
                have ghz358 := gv_eq hz358
                have hz359 : E351 81 13 = ai_i z224 := (hG354 81 13 (by simp)).trans hz346
                have ghz359 := gv_eq hz359
                refine Or.inl ⟨rfl, ?_⟩
                refine w_aload (i := 0) (npc := 115) rfl rfl rfl ?_
                refine w_iload (i := 4) (npc := 117) rfl rfl ?_
                refine w_virt (ci := 8) (i := 81) (npc := 120) (a := [cr 81, ai_i c]) (rest := []) rfl rfl (hI353.pl (by decide)) (hI353.T (by decide) rfl) rfl rfl rfl rfl (ct_m_keyAhead (sl := sl) (x := x) (d := d + 6) (c) hI353 (by omega)) (Or.inl rfl) (fun k9 v9 T9 E361 nx9 kc9 ks9 hq360 hk9 hs9 => ?_)
                obtain ⟨rfl, rfl, rfl, rfl, z362, rfl, hz362⟩ := hq360
                obtain rfl : kc = kc9 := by omega
                obtain rfl : ks = ks9 := by omega
                refine Or.inr (Or.inl ⟨rfl, ?_⟩)
                refine w_istore (i := 6) (npc := 122) (loc' := [cr 81, ai_i p, ai_i f, ai_i t, ai_i c, ai_i 0, ai_i z362, ai_un, ai_un, ai_un]) rfl rfl ?_
                refine w_aload (i := 0) (npc := 123) rfl rfl rfl ?_
                refine w_iload (i := 4) (npc := 125) rfl rfl ?_
                refine w_virt (ci := 8) (i := 81) (npc := 128) (a := [cr 81, ai_i c]) (rest := []) rfl rfl (hI353.pl (by decide)) (hI353.T (by decide) rfl) rfl rfl rfl rfl (ct_m_keyBehind (sl := sl) (x := x) (d := d + 5) (c) hI353 (by omega) hx357) (Or.inl rfl) (fun k9 v9 T9 E364 nx9 kc9 ks9 hq363 hk9 hs9 => ?_)
                obtain ⟨rfl, rfl, rfl, rfl, z365, rfl, hz365⟩ := hq363
                obtain rfl : kc = kc9 := by omega
                obtain rfl : ks = ks9 := by omega
                refine Or.inr (Or.inl ⟨rfl, ?_⟩)
                refine w_istore (i := 7) (npc := 130) (loc' := [cr 81, ai_i p, ai_i f, ai_i t, ai_i c, ai_i 0, ai_i z362, ai_i z365, ai_un, ai_un]) rfl rfl ?_
                refine w_const (n := 0) (npc := 131) rfl ?_
                refine w_istore (i := 8) (npc := 133) (loc' := [cr 81, ai_i p, ai_i f, ai_i t, ai_i c, ai_i 0, ai_i z362, ai_i z365, ai_i 0, ai_un]) rfl rfl ?_
                have loop133 : ∀ (nf : Nat) (a : Int) (i : Int) (u133_9 : ai_V) (Eq133 : cm_E), ((t - f + 1 - i).toNat) < nf → cs_I T Eq133 nx → cm_fr (fun i k => (i = 81 ∧ (k = 0 ∨ k = 12 ∨ k = 13)) ∨ i = 82 ∨ i = 83 ∨ i = 84 ∨ i = 85 ∨ i = 86 ∨ i = 87 ∨ i = 88 ∨ i = 89 ∨ i = 90 ∨ i = 91) E Eq133 → rl Eq133 → (0 ≤ i ∧ i ≤ t - f + 1 ∧ -1 ≤ a ∧ a ≤ 531341 ∧ gv Eq133 82 (166 * 3200 + 0 : Int).toNat = 3 ∧ gv Eq133 82 (166 * 3200 + 1 : Int).toNat = p ∧ gv Eq133 82 (166 * 3200 + 2 : Int).toNat = gv Eq133 83 (5 * p + p).toNat + 1 ∧ (0 ≤ gv Eq133 83 (5 * p + p).toNat ∧ gv Eq133 83 (5 * p + p).toNat ≤ 59) ∧ gv Eq133 82 (166 * 3200 + 8 : Int).toNat ≤ 65535 ∧ gv Eq133 82 (166 * 3200 + 9 : Int).toNat ≤ 6 ∧ (∀ j : Int, 0 ≤ j → j < 6 → gv Eq133 82 (166 * 3200 + 10 + 26 * j + 1).toNat ≤ 24)) → cm_wp (ai_find ai_c186 sl) (ai_ev sl (d + 7)) x (kc + 0) (ks + 0) (fun rk rv T' E' nx' => rk = 1 ∧ T = T' ∧ nx = nx' ∧ cs_I T E' nx ∧ cm_fr (fun i k => (i = 81 ∧ (k = 0 ∨ k = 12 ∨ k = 13)) ∨ i = 82 ∨ i = 83 ∨ i = 84 ∨ i = 85 ∨ i = 86 ∨ i = 87 ∨ i = 88 ∨ i = 89 ∨ i = 90 ∨ i = 91) E E' ∧ rl E' ∧ ∃ z : Int, rv = ai_i z ∧ (True)) 133 [cr 81, ai_i p, ai_i f, ai_i t, ai_i c, ai_i 0, ai_i a, ai_i z365, ai_i i, u133_9] [] T Eq133 nx kc ks := by
                  intro nf
                  induction nf with
                  | zero => intro a i u133_9 Eq133 hm; exact absurd hm (Nat.not_lt_zero _)
                  | succ nf133 ih =>
                    intro a i u133_9 Eq133 hm133 hI133 hF133 hR133 hv133
                    obtain ⟨z366, hz366, hz366a, hz366b⟩ := hI133.int 81 13 (lo := 0) (hi := 300) (by decide) (by decide) rfl
                    have ghz366 := gv_eq hz366
                    have ih133 := ih; clear ih
                    refine w_iload (i := 8) (npc := 135) rfl rfl ?_
                    refine w_iload (i := 3) (npc := 136) rfl rfl ?_
                    refine w_iload (i := 2) (npc := 137) rfl rfl ?_
                    refine w_isub (npc := 138) rfl (by omega) ?_
                    refine w_icmp (c := .gt) (npc := 141) (pt := 211) rfl (fun hc368 => ?_) (fun hc368 => ?_)
                    · replace hc368 : t - f < i := hc368
                      refine w_aload (i := 0) (npc := 212) rfl rfl rfl ?_
                      refine w_iload (i := 1) (npc := 213) rfl rfl ?_
                      refine w_virt (ci := 8) (i := 81) (npc := 216) (a := [cr 81, ai_i p]) (rest := []) rfl rfl (hI133.pl (by decide)) (hI133.T (by decide) rfl) rfl rfl rfl rfl (ct_m_endStep (sl := sl) (x := x) (d := d + 2) (p) hI133  hR133 (by omega) (hand_ok (E := Eq133) (a := 3) (p := p) (m := gv Eq133 83 (5 * p + p).toNat) hv133.2.2.2.2.1 hv133.2.2.2.2.2.1 hv133.2.2.2.2.2.2.1 hv133.2.2.2.2.2.2.2.2.1 (by omega) (by omega) (by omega) (by have hl9 := gv_fr hF133 (i := 81) (k := 1) (by simp); omega) (fun q => by omega) (fun q => by omega) (fun _ => ⟨by omega, hv133.2.2.2.2.2.2.2.2.2.2⟩)).1 (hand_ok (E := Eq133) (a := 3) (p := p) (m := gv Eq133 83 (5 * p + p).toNat) hv133.2.2.2.2.1 hv133.2.2.2.2.2.1 hv133.2.2.2.2.2.2.1 hv133.2.2.2.2.2.2.2.2.1 (by omega) (by omega) (by omega) (by have hl9 := gv_fr hF133 (i := 81) (k := 1) (by simp); omega) (fun q => by omega) (fun q => by omega) (fun _ => ⟨by omega, hv133.2.2.2.2.2.2.2.2.2.2⟩)).2 hv133.2.2.2.2.2.1 (by omega)) (Or.inl rfl) (fun k9 v9 T9 E370 nx9 kc9 ks9 hq369 hk9 hs9 => ?_)
                      obtain ⟨rfl, rfl, rfl, hI372, hG373, hR374, z371, rfl, hz371⟩ := hq369
                      obtain rfl : kc = kc9 := by omega
                      obtain rfl : ks = ks9 := by omega
                      have hF375 := cm_fr.trans hF133 hG373 (by first | (simp; done) | (simp; omega) | (intro i k h; (try simp only at h); (try simp only); omega))
                      have hz376 : E370 81 13 = ai_i z366 := (hG373 81 13 (by simp)).trans hz366
                      have ghz376 := gv_eq hz376
                      refine Or.inr (Or.inl ⟨rfl, ?_⟩)
                      exact w_iret rfl (⟨rfl, rfl, rfl, hI372, hF375, hR374, z371, rfl, trivial⟩) (by omega) (by omega)
                    · replace hc368 : ¬ (t - f < i) := hc368
                      refine w_const (n := 10) (npc := 143) rfl ?_
                      refine w_const (n := 26) (npc := 145) rfl ?_
                      refine w_iload (i := 8) (npc := 147) rfl rfl ?_
                      refine w_imul (npc := 148) rfl (by omega) ?_
                      refine w_iadd (npc := 149) rfl (by omega) ?_
                      refine w_istore (i := 9) (npc := 151) (loc' := [cr 81, ai_i p, ai_i f, ai_i t, ai_i c, ai_i 0, ai_i a, ai_i z365, ai_i i, ai_i (10 + (26 * i))]) rfl rfl ?_
                      refine w_aload (i := 0) (npc := 152) rfl rfl rfl ?_
                      refine w_const (n := 3200) (npc := 155) rfl ?_
                      refine w_iload (i := 9) (npc := 157) rfl rfl ?_
                      refine w_aload (i := 0) (npc := 158) rfl rfl rfl ?_
                      refine w_getf (i := 81) (ci := 8) (k := 11) (npc := 161) rfl (hI133.pl (by decide)) (hI133.T (by decide) rfl) (by decide) (hI133.ref 81 11 (p := 91) (by decide) (by decide) rfl) ?_
                      refine w_iload (i := 2) (npc := 162) rfl rfl ?_
                      refine w_iload (i := 8) (npc := 164) rfl rfl ?_
                      refine w_iadd (npc := 165) rfl (by omega) ?_
                      obtain ⟨z380, hz380, hz380a, hz380b⟩ := hI133.int 91 (f + i : Int).toNat (lo := 0) (hi := 299) (by decide) (show (f + i : Int).toNat < 300 by omega) rfl
                      have ghz380 := gv_eq hz380
                      refine w_ald (i := 91) (t := 1) (n := 300) (npc := 166) rfl (hI133.pl (by decide)) (hI133.T (by decide) rfl) (by decide) rfl (by omega) hz380 ?_
                      refine w_call (npc := 169) (a := [ai_i z380]) (rest := [ai_i (10 + (26 * i)), ai_i 3200, cr 81]) rfl rfl rfl rfl rfl (ct_m_nameOf (sl := sl) (x := x) (d := d + 6) (z380) (by omega)) (Or.inr (fun _ _ _ _ _ hq => by have h1 := hq.1; omega)) (fun k9 v9 T9 E382 nx9 kc9 ks9 hq381 hk9 hs9 => ?_)
                      obtain ⟨rfl, rfl, rfl, rfl, z383, rfl, hz383⟩ := hq381
                      obtain rfl : kc = kc9 := by omega
                      obtain rfl : ks = ks9 := by omega
                      refine Or.inr (Or.inl ⟨rfl, ?_⟩)
                      refine w_virt (ci := 8) (i := 81) (npc := 172) (a := [cr 81, ai_i 3200, ai_i (10 + (26 * i)), ai_i z383]) (rest := []) rfl rfl (hI133.pl (by decide)) (hI133.T (by decide) rfl) rfl rfl rfl rfl (ct_m_put (sl := sl) (x := x) (d := d + 6) (3200) (10 + (26 * i)) (z383) hI133 (by omega) (by omega) (by omega)) (Or.inl rfl) (fun k9 v9 T9 E385 nx9 kc9 ks9 hq384 hk9 hs9 => ?_)
                      obtain ⟨rfl, rfl, rfl, hI387, hG388, hz386⟩ := hq384
                      obtain rfl : kc = kc9 := by omega
                      obtain rfl : ks = ks9 := by omega
                      have hF389 := cm_fr.trans hF133 hG388 (by first | (simp; done) | (simp; omega) | (intro i k h; (try simp only at h); (try simp only); omega))
                      have hR390 := rl.fr hR133 hG388 (by intro i k h; (try simp only at h); omega)
                      have hz391 : E385 81 13 = ai_i z366 := (hG388 81 13 (by simp)).trans hz366
                      have ghz391 := gv_eq hz391
                      refine Or.inl ⟨rfl, ?_⟩
                      refine w_aload (i := 0) (npc := 173) rfl rfl rfl ?_
                      refine w_iload (i := 6) (npc := 175) rfl rfl ?_
                      refine w_iload (i := 7) (npc := 177) rfl rfl ?_
                      refine w_iload (i := 1) (npc := 178) rfl rfl ?_
                      refine w_const (n := 531200) (npc := 180) rfl ?_
                      refine w_iload (i := 9) (npc := 182) rfl rfl ?_
                      refine w_iadd (npc := 183) rfl (by omega) ?_
                      refine w_const (n := 1) (npc := 184) rfl ?_
                      refine w_iadd (npc := 185) rfl (by omega) ?_
                      refine w_virt (ci := 8) (i := 81) (npc := 188) (a := [cr 81, ai_i a, ai_i z365, ai_i p, ai_i (531200 + (10 + (26 * i)) + 1)]) (rest := []) rfl rfl (hI387.pl (by decide)) (hI387.T (by decide) rfl) rfl rfl rfl rfl (ct_m_newKey (sl := sl) (x := x) (d := d + 6) (a) (z365) (p) (531200 + (10 + (26 * i)) + 1) hI387 (by omega) (by omega) (by omega) (by omega)) (Or.inl rfl) (fun k9 v9 T9 E395 nx9 kc9 ks9 hq394 hk9 hs9 => ?_)
                      obtain ⟨rfl, rfl, rfl, hI397, hG398, z396, rfl, hz396⟩ := hq394
                      obtain rfl : kc = kc9 := by omega
                      obtain rfl : ks = ks9 := by omega
                      have hF399 := cm_fr.trans hF389 hG398 (by first | (simp; done) | (simp; omega) | (intro i k h; (try simp only at h); (try simp only); omega))
                      have hR400 := rl.fr hR390 hG398 (by intro i k h; (try simp only at h); omega)
                      have hz401 : E395 81 13 = ai_i z366 := (hG398 81 13 (by simp)).trans hz391
                      have ghz401 := gv_eq hz401
                      refine Or.inr (Or.inl ⟨rfl, ?_⟩)
                      refine w_if (c := .ne) (npc := 191) (pt := 196) rfl (fun hc402 => ?_) (fun hc402 => ?_)
                      · replace hc402 : z396 ≠ (0 : Int) := hc402
                        refine w_const (n := 531200) (npc := 198) rfl ?_
                        refine w_iload (i := 9) (npc := 200) rfl rfl ?_
                        refine w_iadd (npc := 201) rfl (by omega) ?_
                        refine w_const (n := 1) (npc := 202) rfl ?_
                        refine w_iadd (npc := 203) rfl (by omega) ?_
                        refine w_istore (i := 6) (npc := 205) (loc' := [cr 81, ai_i p, ai_i f, ai_i t, ai_i c, ai_i 0, ai_i (531200 + (10 + (26 * i)) + 1), ai_i z365, ai_i i, ai_i (10 + (26 * i))]) rfl rfl ?_
                        refine w_iinc (i := 8) (n := 1) (npc := 208) (loc' := [cr 81, ai_i p, ai_i f, ai_i t, ai_i c, ai_i 0, ai_i (531200 + (10 + (26 * i)) + 1), ai_i z365, ai_i (i + 1), ai_i (10 + (26 * i))]) rfl rfl (by omega) rfl ?_
                        refine w_goto (pt := 133) rfl ?_
                        exact ih133 (531200 + (10 + (26 * i)) + 1) (i + 1) (ai_i (10 + (26 * i))) E395 (by omega) hI397 hF399 hR400 (by
      obtain ⟨d1, d2, d3, d4, d5, d6, d7, d8, d9, d10, d11⟩ := hv133
      have y0_0 := gv_fr hG388 (i := 83) (k := (5 * p + p).toNat) (by first | (simp; done) | omega | (simp only; omega) | (simp; omega))
      have y0_1 := gv_fr hG388 (i := 82) (k := (166 * 3200 + 0 : Int).toNat) (by first | (simp; done) | omega | (simp only; omega) | (simp; omega))
      have y0_2 := gv_fr hG388 (i := 82) (k := (166 * 3200 + 1 : Int).toNat) (by first | (simp; done) | omega | (simp only; omega) | (simp; omega))
      have y0_3 := gv_fr hG388 (i := 82) (k := (166 * 3200 + 2 : Int).toNat) (by first | (simp; done) | omega | (simp only; omega) | (simp; omega))
      have y0_4 := gv_fr hG388 (i := 82) (k := (166 * 3200 + 8 : Int).toNat) (by first | (simp; done) | omega | (simp only; omega) | (simp; omega))
      have y0_5 := gv_fr hG388 (i := 82) (k := (166 * 3200 + 9 : Int).toNat) (by first | (simp; done) | omega | (simp only; omega) | (simp; omega))
      have y1_0 := gv_fr hG398 (i := 83) (k := (5 * p + p).toNat) (by first | (simp; done) | omega | (simp only; omega) | (simp; omega))
      have y1_1 := gv_fr hG398 (i := 82) (k := (166 * 3200 + 0 : Int).toNat) (by first | (simp; done) | omega | (simp only; omega) | (simp; omega))
      have y1_2 := gv_fr hG398 (i := 82) (k := (166 * 3200 + 1 : Int).toNat) (by first | (simp; done) | omega | (simp only; omega) | (simp; omega))
      have y1_3 := gv_fr hG398 (i := 82) (k := (166 * 3200 + 2 : Int).toNat) (by first | (simp; done) | omega | (simp only; omega) | (simp; omega))
      have y1_4 := gv_fr hG398 (i := 82) (k := (166 * 3200 + 8 : Int).toNat) (by first | (simp; done) | omega | (simp only; omega) | (simp; omega))
      have y1_5 := gv_fr hG398 (i := 82) (k := (166 * 3200 + 9 : Int).toNat) (by first | (simp; done) | omega | (simp only; omega) | (simp; omega))
      refine ⟨by omega, by omega, by omega, by omega, by omega, by omega, by omega, by omega, by omega, by omega, fun j j0 j1 => ?_⟩
      by_cases hj : j = i
      · rw [hj]
        have q := hz396.2.2
        rw [show 531200 + (10 + 26 * i) + 1 = 166 * 3200 + 10 + 26 * i + 1 by omega] at q
        exact q
      · rw [← gv_fr hG398 (by first | omega | (simp only; omega)), ← gv_fr hG388 (by first | omega | (simp only; omega))]; exact d11 j j0 j1)
                      · replace hc402 : ¬ (z396 ≠ (0 : Int)) := hc402
                        refine w_aload (i := 0) (npc := 192) rfl rfl rfl ?_
                        refine w_virt (ci := 8) (i := 81) (npc := 195) (a := [cr 81]) (rest := []) rfl rfl (hI397.pl (by decide)) (hI397.T (by decide) rfl) rfl rfl rfl rfl (ct_m_refuse (sl := sl) (x := x) (d := d + 6)  hI397) (Or.inl rfl) (fun k9 v9 T9 E407 nx9 kc9 ks9 hq406 hk9 hs9 => ?_)
                        obtain ⟨rfl, rfl, rfl, hI409, hG410, z408, rfl, hz408⟩ := hq406
                        obtain rfl : kc = kc9 := by omega
                        obtain rfl : ks = ks9 := by omega
                        have hF411 := cm_fr.trans hF399 hG410 (by first | (simp; done) | (simp; omega) | (intro i k h; (try simp only at h); (try simp only); omega))
                        have hR412 := rl.fr hR400 hG410 (by intro i k h; (try simp only at h); omega)
                        have hz413 : E407 81 13 = ai_i z366 := (hG410 81 13 (by simp)).trans hz401
                        have ghz413 := gv_eq hz413
                        refine Or.inr (Or.inl ⟨rfl, ?_⟩)
                        exact w_iret rfl (⟨rfl, rfl, rfl, hI409, hF411, hR412, z408, rfl, trivial⟩) (by omega) (by omega)
                exact loop133 _ (z362) (0) (ai_un) E351 (Nat.lt_succ_self _) hI353 hF355 hR356 (by
      have q8 := hz339.2.2.2.2.2.2 (by omega)
      have q0 := hz339.1
      have q1 := hz339.2.1
      have q2 := hz339.2.2.1
      have q9 := hz352
      have y0_0 := gv_fr hG341 (i := 83) (k := (5 * p + p).toNat) (by first | (simp; done) | omega | (simp only; omega) | (simp; omega))
      have x0_0 := gv_fr hG354 (i := 83) (k := (5 * p + p).toNat) (by first | (simp; done) | omega | (simp only; omega) | (simp; omega))
      have x0_1 := gv_fr hG354 (i := 82) (k := (166 * 3200 + 0 : Int).toNat) (by first | (simp; done) | omega | (simp only; omega) | (simp; omega))
      have x0_2 := gv_fr hG354 (i := 82) (k := (166 * 3200 + 1 : Int).toNat) (by first | (simp; done) | omega | (simp only; omega) | (simp; omega))
      have x0_3 := gv_fr hG354 (i := 82) (k := (166 * 3200 + 2 : Int).toNat) (by first | (simp; done) | omega | (simp only; omega) | (simp; omega))
      have x0_4 := gv_fr hG354 (i := 82) (k := (166 * 3200 + 8 : Int).toNat) (by first | (simp; done) | omega | (simp only; omega) | (simp; omega))
      refine ⟨by omega, by omega, by omega, by omega, by omega, by omega, by omega, by omega, by omega, by omega, fun j j0 j1 => ?_⟩
      rw [← gv_fr hG354 (by first | omega | (simp only; omega))]
      have q7 := hz339.2.2.2.1 (10 + 26 * j + 1) (by omega) (by omega)
      rw [show 166 * 3200 + (10 + 26 * j + 1) = 166 * 3200 + 10 + 26 * j + 1 by omega] at q7
      omega)
              · replace hc347 : ¬ (z339 ≠ (0 : Int)) := hc347
                refine w_aload (i := 0) (npc := 96) rfl rfl rfl ?_
                refine w_virt (ci := 8) (i := 81) (npc := 99) (a := [cr 81]) (rest := []) rfl rfl (hI340.pl (by decide)) (hI340.T (by decide) rfl) rfl rfl rfl rfl (ct_m_refuse (sl := sl) (x := x) (d := d + 6)  hI340) (Or.inl rfl) (fun k9 v9 T9 E415 nx9 kc9 ks9 hq414 hk9 hs9 => ?_)
                obtain ⟨rfl, rfl, rfl, hI417, hG418, z416, rfl, hz416⟩ := hq414
                obtain rfl : kc = kc9 := by omega
                obtain rfl : ks = ks9 := by omega
                have hF419 := cm_fr.trans hF343 hG418 (by first | (simp; done) | (simp; omega) | (intro i k h; (try simp only at h); (try simp only); omega))
                have hR420 := rl.fr hR342 hG418 (by intro i k h; (try simp only at h); omega)
                have hx421 := tx.fr hx344 hG418 (by intro i k h; (try simp only at h); omega)
                have hz422 : E415 81 0 = ai_i 0 := (hG418 81 0 (by simp)).trans hz345
                have ghz422 := gv_eq hz422
                have hz423 : E415 81 13 = ai_i z224 := (hG418 81 13 (by simp)).trans hz346
                have ghz423 := gv_eq hz423
                refine Or.inr (Or.inl ⟨rfl, ?_⟩)
                exact w_iret rfl (⟨rfl, rfl, rfl, hI417, hF419, hR420, z416, rfl, trivial⟩) (by omega) (by omega)
          · replace hc325 : ¬ ((6 : Int) ≤ t - f) := hc325
            refine w_iload (i := 4) (npc := 51) rfl rfl ?_
            refine w_const (n := 0) (npc := 52) rfl ?_
            refine w_aload (i := 0) (npc := 53) rfl rfl rfl ?_
            refine w_getf (i := 81) (ci := 8) (k := 13) (npc := 56) rfl (hI16.pl (by decide)) (hI16.T (by decide) rfl) (by decide) hz224 ?_
            refine w_call (npc := 59) (a := [ai_i c, ai_i 0, ai_i z224]) (rest := []) rfl rfl rfl rfl rfl (ct_m_isIn (sl := sl) (x := x) (d := d + 6) (c) (0) (z224)) (Or.inr (fun _ _ _ _ _ hq => by have h1 := hq.1; omega)) (fun k9 v9 T9 E425 nx9 kc9 ks9 hq424 hk9 hs9 => ?_)
            obtain ⟨rfl, rfl, rfl, rfl, z426, rfl, hz426⟩ := hq424
            obtain rfl : kc = kc9 := by omega
            obtain rfl : ks = ks9 := by omega
            refine Or.inr (Or.inl ⟨rfl, ?_⟩)
            refine w_if (c := .eq) (npc := 62) (pt := 78) rfl (fun hc427 => ?_) (fun hc427 => ?_)
            · replace hc427 : z426 = (0 : Int) := hc427
              refine w_const (n := 0) (npc := 79) rfl ?_
              refine w_istore (i := 5) (npc := 81) (loc' := [cr 81, ai_i p, ai_i f, ai_i t, ai_i c, ai_i 0, ai_un, ai_un, ai_un, ai_un]) rfl rfl ?_
              refine w_iload (i := 5) (npc := 83) rfl rfl ?_
              refine w_if (c := .eq) (npc := 86) (pt := 95) rfl (fun hc428 => ?_) (fun hc428 => ?_)
              · replace hc428 : (0 : Int) = 0 := hc428
                refine w_aload (i := 0) (npc := 96) rfl rfl rfl ?_
                refine w_virt (ci := 8) (i := 81) (npc := 99) (a := [cr 81]) (rest := []) rfl rfl (hI16.pl (by decide)) (hI16.T (by decide) rfl) rfl rfl rfl rfl (ct_m_refuse (sl := sl) (x := x) (d := d + 6)  hI16) (Or.inl rfl) (fun k9 v9 T9 E430 nx9 kc9 ks9 hq429 hk9 hs9 => ?_)
                obtain ⟨rfl, rfl, rfl, hI432, hG433, z431, rfl, hz431⟩ := hq429
                obtain rfl : kc = kc9 := by omega
                obtain rfl : ks = ks9 := by omega
                have hF434 := cm_fr.trans hF19 hG433 (by first | (simp; done) | (simp; omega) | (intro i k h; (try simp only at h); (try simp only); omega))
                have hR435 := rl.fr hR18 hG433 (by intro i k h; (try simp only at h); omega)
                have hx436 := tx.fr hx20 hG433 (by intro i k h; (try simp only at h); omega)
                have hz437 : E430 81 0 = ai_i 0 := (hG433 81 0 (by simp)).trans hz21
                have ghz437 := gv_eq hz437
                have hz438 : E430 81 13 = ai_i z224 := (hG433 81 13 (by simp)).trans hz224
                have ghz438 := gv_eq hz438
                refine Or.inr (Or.inl ⟨rfl, ?_⟩)
                exact w_iret rfl (⟨rfl, rfl, rfl, hI432, hF434, hR435, z431, rfl, trivial⟩) (by omega) (by omega)
              · replace hc428 : ¬ ((0 : Int) = 0) := hc428
                refine w_aload (i := 0) (npc := 87) rfl rfl rfl ?_
                refine w_iload (i := 1) (npc := 88) rfl rfl ?_
                refine w_const (n := 3) (npc := 89) rfl ?_
                refine w_virt (ci := 8) (i := 81) (npc := 92) (a := [cr 81, ai_i p, ai_i 3]) (rest := []) rfl rfl (hI16.pl (by decide)) (hI16.T (by decide) rfl) rfl rfl rfl rfl (ct_m_beginStep (sl := sl) (x := x) (d := d + 4) (p) (3) hI16 hR18 (by omega) (by omega)) (Or.inl rfl) (fun k9 v9 T9 E440 nx9 kc9 ks9 hq439 hk9 hs9 => ?_)
                obtain ⟨rfl, rfl, rfl, hI442, hG443, hR444, z441, rfl, hz441⟩ := hq439
                obtain rfl : kc = kc9 := by omega
                obtain rfl : ks = ks9 := by omega
                have hF445 := cm_fr.trans hF19 hG443 (by first | (simp; done) | (simp; omega) | (intro i k h; (try simp only at h); (try simp only); omega))
                have hx446 := tx.fr hx20 hG443 (by intro i k h; (try simp only at h); omega)
                have hz447 : E440 81 0 = ai_i 0 := (hG443 81 0 (by simp)).trans hz21
                have ghz447 := gv_eq hz447
                have hz448 : E440 81 13 = ai_i z224 := (hG443 81 13 (by simp)).trans hz224
                have ghz448 := gv_eq hz448
                refine Or.inr (Or.inl ⟨rfl, ?_⟩)
                refine w_if (c := .ne) (npc := 95) (pt := 100) rfl (fun hc449 => ?_) (fun hc449 => ?_)
                · replace hc449 : z441 ≠ (0 : Int) := hc449
                  refine w_aload (i := 0) (npc := 101) rfl rfl rfl ?_
                  refine w_const (n := 3200) (npc := 104) rfl ?_
                  refine w_const (n := 9) (npc := 106) rfl ?_
                  refine w_iload (i := 3) (npc := 107) rfl rfl ?_
                  refine w_iload (i := 2) (npc := 108) rfl rfl ?_
                  refine w_isub (npc := 109) rfl (by omega) ?_
                  refine w_const (n := 1) (npc := 110) rfl ?_
                  refine w_iadd (npc := 111) rfl (by omega) ?_
                  refine w_virt (ci := 8) (i := 81) (npc := 114) (a := [cr 81, ai_i 3200, ai_i 9, ai_i (t - f + 1)]) (rest := []) rfl rfl (hI442.pl (by decide)) (hI442.T (by decide) rfl) rfl rfl rfl rfl (ct_m_put (sl := sl) (x := x) (d := d + 6) (3200) (9) (t - f + 1) hI442 (by omega) (by omega) (by omega)) (Or.inl rfl) (fun k9 v9 T9 E453 nx9 kc9 ks9 hq452 hk9 hs9 => ?_)
                  obtain ⟨rfl, rfl, rfl, hI455, hG456, hz454⟩ := hq452
                  obtain rfl : kc = kc9 := by omega
                  obtain rfl : ks = ks9 := by omega
                  have hF457 := cm_fr.trans hF445 hG456 (by first | (simp; done) | (simp; omega) | (intro i k h; (try simp only at h); (try simp only); omega))
                  have hR458 := rl.fr hR444 hG456 (by intro i k h; (try simp only at h); omega)
                  have hx459 := tx.fr hx446 hG456 (by intro i k h; (try simp only at h); omega)
                  have hz460 : E453 81 0 = ai_i 0 := (hG456 81 0 (by simp)).trans hz447
                  have ghz460 := gv_eq hz460
                  have hz461 : E453 81 13 = ai_i z224 := (hG456 81 13 (by simp)).trans hz448
                  have ghz461 := gv_eq hz461
                  refine Or.inl ⟨rfl, ?_⟩
                  refine w_aload (i := 0) (npc := 115) rfl rfl rfl ?_
                  refine w_iload (i := 4) (npc := 117) rfl rfl ?_
                  refine w_virt (ci := 8) (i := 81) (npc := 120) (a := [cr 81, ai_i c]) (rest := []) rfl rfl (hI455.pl (by decide)) (hI455.T (by decide) rfl) rfl rfl rfl rfl (ct_m_keyAhead (sl := sl) (x := x) (d := d + 6) (c) hI455 (by omega)) (Or.inl rfl) (fun k9 v9 T9 E463 nx9 kc9 ks9 hq462 hk9 hs9 => ?_)
                  obtain ⟨rfl, rfl, rfl, rfl, z464, rfl, hz464⟩ := hq462
                  obtain rfl : kc = kc9 := by omega
                  obtain rfl : ks = ks9 := by omega
                  refine Or.inr (Or.inl ⟨rfl, ?_⟩)
                  refine w_istore (i := 6) (npc := 122) (loc' := [cr 81, ai_i p, ai_i f, ai_i t, ai_i c, ai_i 0, ai_i z464, ai_un, ai_un, ai_un]) rfl rfl ?_
                  refine w_aload (i := 0) (npc := 123) rfl rfl rfl ?_
                  refine w_iload (i := 4) (npc := 125) rfl rfl ?_
                  refine w_virt (ci := 8) (i := 81) (npc := 128) (a := [cr 81, ai_i c]) (rest := []) rfl rfl (hI455.pl (by decide)) (hI455.T (by decide) rfl) rfl rfl rfl rfl (ct_m_keyBehind (sl := sl) (x := x) (d := d + 5) (c) hI455 (by omega) hx459) (Or.inl rfl) (fun k9 v9 T9 E466 nx9 kc9 ks9 hq465 hk9 hs9 => ?_)
                  obtain ⟨rfl, rfl, rfl, rfl, z467, rfl, hz467⟩ := hq465
                  obtain rfl : kc = kc9 := by omega
                  obtain rfl : ks = ks9 := by omega
                  refine Or.inr (Or.inl ⟨rfl, ?_⟩)
                  refine w_istore (i := 7) (npc := 130) (loc' := [cr 81, ai_i p, ai_i f, ai_i t, ai_i c, ai_i 0, ai_i z464, ai_i z467, ai_un, ai_un]) rfl rfl ?_
                  refine w_const (n := 0) (npc := 131) rfl ?_
                  refine w_istore (i := 8) (npc := 133) (loc' := [cr 81, ai_i p, ai_i f, ai_i t, ai_i c, ai_i 0, ai_i z464, ai_i z467, ai_i 0, ai_un]) rfl rfl ?_
                  have loop133 : ∀ (nf : Nat) (a : Int) (i : Int) (u133_9 : ai_V) (Eq133 : cm_E), ((t - f + 1 - i).toNat) < nf → cs_I T Eq133 nx → cm_fr (fun i k => (i = 81 ∧ (k = 0 ∨ k = 12 ∨ k = 13)) ∨ i = 82 ∨ i = 83 ∨ i = 84 ∨ i = 85 ∨ i = 86 ∨ i = 87 ∨ i = 88 ∨ i = 89 ∨ i = 90 ∨ i = 91) E Eq133 → rl Eq133 → (0 ≤ i ∧ i ≤ t - f + 1 ∧ -1 ≤ a ∧ a ≤ 531341 ∧ gv Eq133 82 (166 * 3200 + 0 : Int).toNat = 3 ∧ gv Eq133 82 (166 * 3200 + 1 : Int).toNat = p ∧ gv Eq133 82 (166 * 3200 + 2 : Int).toNat = gv Eq133 83 (5 * p + p).toNat + 1 ∧ (0 ≤ gv Eq133 83 (5 * p + p).toNat ∧ gv Eq133 83 (5 * p + p).toNat ≤ 59) ∧ gv Eq133 82 (166 * 3200 + 8 : Int).toNat ≤ 65535 ∧ gv Eq133 82 (166 * 3200 + 9 : Int).toNat ≤ 6 ∧ (∀ j : Int, 0 ≤ j → j < 6 → gv Eq133 82 (166 * 3200 + 10 + 26 * j + 1).toNat ≤ 24)) → cm_wp (ai_find ai_c186 sl) (ai_ev sl (d + 7)) x (kc + 0) (ks + 0) (fun rk rv T' E' nx' => rk = 1 ∧ T = T' ∧ nx = nx' ∧ cs_I T E' nx ∧ cm_fr (fun i k => (i = 81 ∧ (k = 0 ∨ k = 12 ∨ k = 13)) ∨ i = 82 ∨ i = 83 ∨ i = 84 ∨ i = 85 ∨ i = 86 ∨ i = 87 ∨ i = 88 ∨ i = 89 ∨ i = 90 ∨ i = 91) E E' ∧ rl E' ∧ ∃ z : Int, rv = ai_i z ∧ (True)) 133 [cr 81, ai_i p, ai_i f, ai_i t, ai_i c, ai_i 0, ai_i a, ai_i z467, ai_i i, u133_9] [] T Eq133 nx kc ks := by
                    intro nf
                    induction nf with
                    | zero => intro a i u133_9 Eq133 hm; exact absurd hm (Nat.not_lt_zero _)
                    | succ nf133 ih =>
                      intro a i u133_9 Eq133 hm133 hI133 hF133 hR133 hv133
                      obtain ⟨z468, hz468, hz468a, hz468b⟩ := hI133.int 81 13 (lo := 0) (hi := 300) (by decide) (by decide) rfl
                      have ghz468 := gv_eq hz468
                      have ih133 := ih; clear ih
                      refine w_iload (i := 8) (npc := 135) rfl rfl ?_
                      refine w_iload (i := 3) (npc := 136) rfl rfl ?_
                      refine w_iload (i := 2) (npc := 137) rfl rfl ?_
                      refine w_isub (npc := 138) rfl (by omega) ?_
                      refine w_icmp (c := .gt) (npc := 141) (pt := 211) rfl (fun hc470 => ?_) (fun hc470 => ?_)
                      · replace hc470 : t - f < i := hc470
                        refine w_aload (i := 0) (npc := 212) rfl rfl rfl ?_
                        refine w_iload (i := 1) (npc := 213) rfl rfl ?_
                        refine w_virt (ci := 8) (i := 81) (npc := 216) (a := [cr 81, ai_i p]) (rest := []) rfl rfl (hI133.pl (by decide)) (hI133.T (by decide) rfl) rfl rfl rfl rfl (ct_m_endStep (sl := sl) (x := x) (d := d + 2) (p) hI133  hR133 (by omega) (hand_ok (E := Eq133) (a := 3) (p := p) (m := gv Eq133 83 (5 * p + p).toNat) hv133.2.2.2.2.1 hv133.2.2.2.2.2.1 hv133.2.2.2.2.2.2.1 hv133.2.2.2.2.2.2.2.2.1 (by omega) (by omega) (by omega) (by have hl9 := gv_fr hF133 (i := 81) (k := 1) (by simp); omega) (fun q => by omega) (fun q => by omega) (fun _ => ⟨by omega, hv133.2.2.2.2.2.2.2.2.2.2⟩)).1 (hand_ok (E := Eq133) (a := 3) (p := p) (m := gv Eq133 83 (5 * p + p).toNat) hv133.2.2.2.2.1 hv133.2.2.2.2.2.1 hv133.2.2.2.2.2.2.1 hv133.2.2.2.2.2.2.2.2.1 (by omega) (by omega) (by omega) (by have hl9 := gv_fr hF133 (i := 81) (k := 1) (by simp); omega) (fun q => by omega) (fun q => by omega) (fun _ => ⟨by omega, hv133.2.2.2.2.2.2.2.2.2.2⟩)).2 hv133.2.2.2.2.2.1 (by omega)) (Or.inl rfl) (fun k9 v9 T9 E472 nx9 kc9 ks9 hq471 hk9 hs9 => ?_)
                        obtain ⟨rfl, rfl, rfl, hI474, hG475, hR476, z473, rfl, hz473⟩ := hq471
                        obtain rfl : kc = kc9 := by omega
                        obtain rfl : ks = ks9 := by omega
                        have hF477 := cm_fr.trans hF133 hG475 (by first | (simp; done) | (simp; omega) | (intro i k h; (try simp only at h); (try simp only); omega))
                        have hz478 : E472 81 13 = ai_i z468 := (hG475 81 13 (by simp)).trans hz468
                        have ghz478 := gv_eq hz478
                        refine Or.inr (Or.inl ⟨rfl, ?_⟩)
                        exact w_iret rfl (⟨rfl, rfl, rfl, hI474, hF477, hR476, z473, rfl, trivial⟩) (by omega) (by omega)
                      · replace hc470 : ¬ (t - f < i) := hc470
                        refine w_const (n := 10) (npc := 143) rfl ?_
                        refine w_const (n := 26) (npc := 145) rfl ?_
                        refine w_iload (i := 8) (npc := 147) rfl rfl ?_
                        refine w_imul (npc := 148) rfl (by omega) ?_
                        refine w_iadd (npc := 149) rfl (by omega) ?_
                        refine w_istore (i := 9) (npc := 151) (loc' := [cr 81, ai_i p, ai_i f, ai_i t, ai_i c, ai_i 0, ai_i a, ai_i z467, ai_i i, ai_i (10 + (26 * i))]) rfl rfl ?_
                        refine w_aload (i := 0) (npc := 152) rfl rfl rfl ?_
                        refine w_const (n := 3200) (npc := 155) rfl ?_
                        refine w_iload (i := 9) (npc := 157) rfl rfl ?_
                        refine w_aload (i := 0) (npc := 158) rfl rfl rfl ?_
                        refine w_getf (i := 81) (ci := 8) (k := 11) (npc := 161) rfl (hI133.pl (by decide)) (hI133.T (by decide) rfl) (by decide) (hI133.ref 81 11 (p := 91) (by decide) (by decide) rfl) ?_
                        refine w_iload (i := 2) (npc := 162) rfl rfl ?_
                        refine w_iload (i := 8) (npc := 164) rfl rfl ?_
                        refine w_iadd (npc := 165) rfl (by omega) ?_
                        obtain ⟨z482, hz482, hz482a, hz482b⟩ := hI133.int 91 (f + i : Int).toNat (lo := 0) (hi := 299) (by decide) (show (f + i : Int).toNat < 300 by omega) rfl
                        have ghz482 := gv_eq hz482
                        refine w_ald (i := 91) (t := 1) (n := 300) (npc := 166) rfl (hI133.pl (by decide)) (hI133.T (by decide) rfl) (by decide) rfl (by omega) hz482 ?_
                        refine w_call (npc := 169) (a := [ai_i z482]) (rest := [ai_i (10 + (26 * i)), ai_i 3200, cr 81]) rfl rfl rfl rfl rfl (ct_m_nameOf (sl := sl) (x := x) (d := d + 6) (z482) (by omega)) (Or.inr (fun _ _ _ _ _ hq => by have h1 := hq.1; omega)) (fun k9 v9 T9 E484 nx9 kc9 ks9 hq483 hk9 hs9 => ?_)
                        obtain ⟨rfl, rfl, rfl, rfl, z485, rfl, hz485⟩ := hq483
                        obtain rfl : kc = kc9 := by omega
                        obtain rfl : ks = ks9 := by omega
                        refine Or.inr (Or.inl ⟨rfl, ?_⟩)
                        refine w_virt (ci := 8) (i := 81) (npc := 172) (a := [cr 81, ai_i 3200, ai_i (10 + (26 * i)), ai_i z485]) (rest := []) rfl rfl (hI133.pl (by decide)) (hI133.T (by decide) rfl) rfl rfl rfl rfl (ct_m_put (sl := sl) (x := x) (d := d + 6) (3200) (10 + (26 * i)) (z485) hI133 (by omega) (by omega) (by omega)) (Or.inl rfl) (fun k9 v9 T9 E487 nx9 kc9 ks9 hq486 hk9 hs9 => ?_)
                        obtain ⟨rfl, rfl, rfl, hI489, hG490, hz488⟩ := hq486
                        obtain rfl : kc = kc9 := by omega
                        obtain rfl : ks = ks9 := by omega
                        have hF491 := cm_fr.trans hF133 hG490 (by first | (simp; done) | (simp; omega) | (intro i k h; (try simp only at h); (try simp only); omega))
                        have hR492 := rl.fr hR133 hG490 (by intro i k h; (try simp only at h); omega)
                        have hz493 : E487 81 13 = ai_i z468 := (hG490 81 13 (by simp)).trans hz468
                        have ghz493 := gv_eq hz493
                        refine Or.inl ⟨rfl, ?_⟩
                        refine w_aload (i := 0) (npc := 173) rfl rfl rfl ?_
                        refine w_iload (i := 6) (npc := 175) rfl rfl ?_
                        refine w_iload (i := 7) (npc := 177) rfl rfl ?_
                        refine w_iload (i := 1) (npc := 178) rfl rfl ?_
                        refine w_const (n := 531200) (npc := 180) rfl ?_
                        refine w_iload (i := 9) (npc := 182) rfl rfl ?_
                        refine w_iadd (npc := 183) rfl (by omega) ?_
                        refine w_const (n := 1) (npc := 184) rfl ?_
                        refine w_iadd (npc := 185) rfl (by omega) ?_
                        refine w_virt (ci := 8) (i := 81) (npc := 188) (a := [cr 81, ai_i a, ai_i z467, ai_i p, ai_i (531200 + (10 + (26 * i)) + 1)]) (rest := []) rfl rfl (hI489.pl (by decide)) (hI489.T (by decide) rfl) rfl rfl rfl rfl (ct_m_newKey (sl := sl) (x := x) (d := d + 6) (a) (z467) (p) (531200 + (10 + (26 * i)) + 1) hI489 (by omega) (by omega) (by omega) (by omega)) (Or.inl rfl) (fun k9 v9 T9 E497 nx9 kc9 ks9 hq496 hk9 hs9 => ?_)
                        obtain ⟨rfl, rfl, rfl, hI499, hG500, z498, rfl, hz498⟩ := hq496
                        obtain rfl : kc = kc9 := by omega
                        obtain rfl : ks = ks9 := by omega
                        have hF501 := cm_fr.trans hF491 hG500 (by first | (simp; done) | (simp; omega) | (intro i k h; (try simp only at h); (try simp only); omega))
                        have hR502 := rl.fr hR492 hG500 (by intro i k h; (try simp only at h); omega)
                        have hz503 : E497 81 13 = ai_i z468 := (hG500 81 13 (by simp)).trans hz493
                        have ghz503 := gv_eq hz503
                        refine Or.inr (Or.inl ⟨rfl, ?_⟩)
                        refine w_if (c := .ne) (npc := 191) (pt := 196) rfl (fun hc504 => ?_) (fun hc504 => ?_)
                        · replace hc504 : z498 ≠ (0 : Int) := hc504
                          refine w_const (n := 531200) (npc := 198) rfl ?_
                          refine w_iload (i := 9) (npc := 200) rfl rfl ?_
                          refine w_iadd (npc := 201) rfl (by omega) ?_
                          refine w_const (n := 1) (npc := 202) rfl ?_
                          refine w_iadd (npc := 203) rfl (by omega) ?_
                          refine w_istore (i := 6) (npc := 205) (loc' := [cr 81, ai_i p, ai_i f, ai_i t, ai_i c, ai_i 0, ai_i (531200 + (10 + (26 * i)) + 1), ai_i z467, ai_i i, ai_i (10 + (26 * i))]) rfl rfl ?_
                          refine w_iinc (i := 8) (n := 1) (npc := 208) (loc' := [cr 81, ai_i p, ai_i f, ai_i t, ai_i c, ai_i 0, ai_i (531200 + (10 + (26 * i)) + 1), ai_i z467, ai_i (i + 1), ai_i (10 + (26 * i))]) rfl rfl (by omega) rfl ?_
                          refine w_goto (pt := 133) rfl ?_
                          exact ih133 (531200 + (10 + (26 * i)) + 1) (i + 1) (ai_i (10 + (26 * i))) E497 (by omega) hI499 hF501 hR502 (by
      obtain ⟨d1, d2, d3, d4, d5, d6, d7, d8, d9, d10, d11⟩ := hv133
      have y0_0 := gv_fr hG490 (i := 83) (k := (5 * p + p).toNat) (by first | (simp; done) | omega | (simp only; omega) | (simp; omega))
      have y0_1 := gv_fr hG490 (i := 82) (k := (166 * 3200 + 0 : Int).toNat) (by first | (simp; done) | omega | (simp only; omega) | (simp; omega))
      have y0_2 := gv_fr hG490 (i := 82) (k := (166 * 3200 + 1 : Int).toNat) (by first | (simp; done) | omega | (simp only; omega) | (simp; omega))
      have y0_3 := gv_fr hG490 (i := 82) (k := (166 * 3200 + 2 : Int).toNat) (by first | (simp; done) | omega | (simp only; omega) | (simp; omega))
      have y0_4 := gv_fr hG490 (i := 82) (k := (166 * 3200 + 8 : Int).toNat) (by first | (simp; done) | omega | (simp only; omega) | (simp; omega))
      have y0_5 := gv_fr hG490 (i := 82) (k := (166 * 3200 + 9 : Int).toNat) (by first | (simp; done) | omega | (simp only; omega) | (simp; omega))
      have y1_0 := gv_fr hG500 (i := 83) (k := (5 * p + p).toNat) (by first | (simp; done) | omega | (simp only; omega) | (simp; omega))
      have y1_1 := gv_fr hG500 (i := 82) (k := (166 * 3200 + 0 : Int).toNat) (by first | (simp; done) | omega | (simp only; omega) | (simp; omega))
      have y1_2 := gv_fr hG500 (i := 82) (k := (166 * 3200 + 1 : Int).toNat) (by first | (simp; done) | omega | (simp only; omega) | (simp; omega))
      have y1_3 := gv_fr hG500 (i := 82) (k := (166 * 3200 + 2 : Int).toNat) (by first | (simp; done) | omega | (simp only; omega) | (simp; omega))
      have y1_4 := gv_fr hG500 (i := 82) (k := (166 * 3200 + 8 : Int).toNat) (by first | (simp; done) | omega | (simp only; omega) | (simp; omega))
      have y1_5 := gv_fr hG500 (i := 82) (k := (166 * 3200 + 9 : Int).toNat) (by first | (simp; done) | omega | (simp only; omega) | (simp; omega))
      refine ⟨by omega, by omega, by omega, by omega, by omega, by omega, by omega, by omega, by omega, by omega, fun j j0 j1 => ?_⟩
      by_cases hj : j = i
      · rw [hj]
        have q := hz498.2.2
        rw [show 531200 + (10 + 26 * i) + 1 = 166 * 3200 + 10 + 26 * i + 1 by omega] at q
        exact q
      · rw [← gv_fr hG500 (by first | omega | (simp only; omega)), ← gv_fr hG490 (by first | omega | (simp only; omega))]; exact d11 j j0 j1)
                        · replace hc504 : ¬ (z498 ≠ (0 : Int)) := hc504
                          refine w_aload (i := 0) (npc := 192) rfl rfl rfl ?_
                          refine w_virt (ci := 8) (i := 81) (npc := 195) (a := [cr 81]) (rest := []) rfl rfl (hI499.pl (by decide)) (hI499.T (by decide) rfl) rfl rfl rfl rfl (ct_m_refuse (sl := sl) (x := x) (d := d + 6)  hI499) (Or.inl rfl) (fun k9 v9 T9 E509 nx9 kc9 ks9 hq508 hk9 hs9 => ?_)
                          obtain ⟨rfl, rfl, rfl, hI511, hG512, z510, rfl, hz510⟩ := hq508
                          obtain rfl : kc = kc9 := by omega
                          obtain rfl : ks = ks9 := by omega
                          have hF513 := cm_fr.trans hF501 hG512 (by first | (simp; done) | (simp; omega) | (intro i k h; (try simp only at h); (try simp only); omega))
                          have hR514 := rl.fr hR502 hG512 (by intro i k h; (try simp only at h); omega)
                          have hz515 : E509 81 13 = ai_i z468 := (hG512 81 13 (by simp)).trans hz503
                          have ghz515 := gv_eq hz515
                          refine Or.inr (Or.inl ⟨rfl, ?_⟩)
                          exact w_iret rfl (⟨rfl, rfl, rfl, hI511, hF513, hR514, z510, rfl, trivial⟩) (by omega) (by omega)
                  exact loop133 _ (z464) (0) (ai_un) E453 (Nat.lt_succ_self _) hI455 hF457 hR458 (by
      have q8 := hz441.2.2.2.2.2.2 (by omega)
      have q0 := hz441.1
      have q1 := hz441.2.1
      have q2 := hz441.2.2.1
      have q9 := hz454
      have y0_0 := gv_fr hG443 (i := 83) (k := (5 * p + p).toNat) (by first | (simp; done) | omega | (simp only; omega) | (simp; omega))
      have x0_0 := gv_fr hG456 (i := 83) (k := (5 * p + p).toNat) (by first | (simp; done) | omega | (simp only; omega) | (simp; omega))
      have x0_1 := gv_fr hG456 (i := 82) (k := (166 * 3200 + 0 : Int).toNat) (by first | (simp; done) | omega | (simp only; omega) | (simp; omega))
      have x0_2 := gv_fr hG456 (i := 82) (k := (166 * 3200 + 1 : Int).toNat) (by first | (simp; done) | omega | (simp only; omega) | (simp; omega))
      have x0_3 := gv_fr hG456 (i := 82) (k := (166 * 3200 + 2 : Int).toNat) (by first | (simp; done) | omega | (simp only; omega) | (simp; omega))
      have x0_4 := gv_fr hG456 (i := 82) (k := (166 * 3200 + 8 : Int).toNat) (by first | (simp; done) | omega | (simp only; omega) | (simp; omega))
      refine ⟨by omega, by omega, by omega, by omega, by omega, by omega, by omega, by omega, by omega, by omega, fun j j0 j1 => ?_⟩
      rw [← gv_fr hG456 (by first | omega | (simp only; omega))]
      have q7 := hz441.2.2.2.1 (10 + 26 * j + 1) (by omega) (by omega)
      rw [show 166 * 3200 + (10 + 26 * j + 1) = 166 * 3200 + 10 + 26 * j + 1 by omega] at q7
      omega)
                · replace hc449 : ¬ (z441 ≠ (0 : Int)) := hc449
                  refine w_aload (i := 0) (npc := 96) rfl rfl rfl ?_
                  refine w_virt (ci := 8) (i := 81) (npc := 99) (a := [cr 81]) (rest := []) rfl rfl (hI442.pl (by decide)) (hI442.T (by decide) rfl) rfl rfl rfl rfl (ct_m_refuse (sl := sl) (x := x) (d := d + 6)  hI442) (Or.inl rfl) (fun k9 v9 T9 E517 nx9 kc9 ks9 hq516 hk9 hs9 => ?_)
                  obtain ⟨rfl, rfl, rfl, hI519, hG520, z518, rfl, hz518⟩ := hq516
                  obtain rfl : kc = kc9 := by omega
                  obtain rfl : ks = ks9 := by omega
                  have hF521 := cm_fr.trans hF445 hG520 (by first | (simp; done) | (simp; omega) | (intro i k h; (try simp only at h); (try simp only); omega))
                  have hR522 := rl.fr hR444 hG520 (by intro i k h; (try simp only at h); omega)
                  have hx523 := tx.fr hx446 hG520 (by intro i k h; (try simp only at h); omega)
                  have hz524 : E517 81 0 = ai_i 0 := (hG520 81 0 (by simp)).trans hz447
                  have ghz524 := gv_eq hz524
                  have hz525 : E517 81 13 = ai_i z224 := (hG520 81 13 (by simp)).trans hz448
                  have ghz525 := gv_eq hz525
                  refine Or.inr (Or.inl ⟨rfl, ?_⟩)
                  exact w_iret rfl (⟨rfl, rfl, rfl, hI519, hF521, hR522, z518, rfl, trivial⟩) (by omega) (by omega)
            · replace hc427 : ¬ (z426 = (0 : Int)) := hc427
              refine w_iload (i := 4) (npc := 64) rfl rfl ?_
              refine w_iload (i := 2) (npc := 65) rfl rfl ?_
              refine w_icmp (c := .le) (npc := 68) (pt := 74) rfl (fun hc526 => ?_) (fun hc526 => ?_)
              · replace hc526 : c ≤ f := hc526
                refine w_const (n := 1) (npc := 75) rfl ?_
                refine w_goto (pt := 79) rfl ?_
                refine w_istore (i := 5) (npc := 81) (loc' := [cr 81, ai_i p, ai_i f, ai_i t, ai_i c, ai_i 1, ai_un, ai_un, ai_un, ai_un]) rfl rfl ?_
                refine w_iload (i := 5) (npc := 83) rfl rfl ?_
                refine w_if (c := .eq) (npc := 86) (pt := 95) rfl (fun hc527 => ?_) (fun hc527 => ?_)
                · replace hc527 : (1 : Int) = 0 := hc527
                  refine w_aload (i := 0) (npc := 96) rfl rfl rfl ?_
                  refine w_virt (ci := 8) (i := 81) (npc := 99) (a := [cr 81]) (rest := []) rfl rfl (hI16.pl (by decide)) (hI16.T (by decide) rfl) rfl rfl rfl rfl (ct_m_refuse (sl := sl) (x := x) (d := d + 6)  hI16) (Or.inl rfl) (fun k9 v9 T9 E529 nx9 kc9 ks9 hq528 hk9 hs9 => ?_)
                  obtain ⟨rfl, rfl, rfl, hI531, hG532, z530, rfl, hz530⟩ := hq528
                  obtain rfl : kc = kc9 := by omega
                  obtain rfl : ks = ks9 := by omega
                  have hF533 := cm_fr.trans hF19 hG532 (by first | (simp; done) | (simp; omega) | (intro i k h; (try simp only at h); (try simp only); omega))
                  have hR534 := rl.fr hR18 hG532 (by intro i k h; (try simp only at h); omega)
                  have hx535 := tx.fr hx20 hG532 (by intro i k h; (try simp only at h); omega)
                  have hz536 : E529 81 0 = ai_i 0 := (hG532 81 0 (by simp)).trans hz21
                  have ghz536 := gv_eq hz536
                  have hz537 : E529 81 13 = ai_i z224 := (hG532 81 13 (by simp)).trans hz224
                  have ghz537 := gv_eq hz537
                  refine Or.inr (Or.inl ⟨rfl, ?_⟩)
                  exact w_iret rfl (⟨rfl, rfl, rfl, hI531, hF533, hR534, z530, rfl, trivial⟩) (by omega) (by omega)
                · replace hc527 : ¬ ((1 : Int) = 0) := hc527
                  refine w_aload (i := 0) (npc := 87) rfl rfl rfl ?_
                  refine w_iload (i := 1) (npc := 88) rfl rfl ?_
                  refine w_const (n := 3) (npc := 89) rfl ?_
                  refine w_virt (ci := 8) (i := 81) (npc := 92) (a := [cr 81, ai_i p, ai_i 3]) (rest := []) rfl rfl (hI16.pl (by decide)) (hI16.T (by decide) rfl) rfl rfl rfl rfl (ct_m_beginStep (sl := sl) (x := x) (d := d + 4) (p) (3) hI16 hR18 (by omega) (by omega)) (Or.inl rfl) (fun k9 v9 T9 E539 nx9 kc9 ks9 hq538 hk9 hs9 => ?_)
                  obtain ⟨rfl, rfl, rfl, hI541, hG542, hR543, z540, rfl, hz540⟩ := hq538
                  obtain rfl : kc = kc9 := by omega
                  obtain rfl : ks = ks9 := by omega
                  have hF544 := cm_fr.trans hF19 hG542 (by first | (simp; done) | (simp; omega) | (intro i k h; (try simp only at h); (try simp only); omega))
                  have hx545 := tx.fr hx20 hG542 (by intro i k h; (try simp only at h); omega)
                  have hz546 : E539 81 0 = ai_i 0 := (hG542 81 0 (by simp)).trans hz21
                  have ghz546 := gv_eq hz546
                  have hz547 : E539 81 13 = ai_i z224 := (hG542 81 13 (by simp)).trans hz224
                  have ghz547 := gv_eq hz547
                  refine Or.inr (Or.inl ⟨rfl, ?_⟩)
                  refine w_if (c := .ne) (npc := 95) (pt := 100) rfl (fun hc548 => ?_) (fun hc548 => ?_)
                  · replace hc548 : z540 ≠ (0 : Int) := hc548
                    refine w_aload (i := 0) (npc := 101) rfl rfl rfl ?_
                    refine w_const (n := 3200) (npc := 104) rfl ?_
                    refine w_const (n := 9) (npc := 106) rfl ?_
                    refine w_iload (i := 3) (npc := 107) rfl rfl ?_
                    refine w_iload (i := 2) (npc := 108) rfl rfl ?_
                    refine w_isub (npc := 109) rfl (by omega) ?_
                    refine w_const (n := 1) (npc := 110) rfl ?_
                    refine w_iadd (npc := 111) rfl (by omega) ?_
                    refine w_virt (ci := 8) (i := 81) (npc := 114) (a := [cr 81, ai_i 3200, ai_i 9, ai_i (t - f + 1)]) (rest := []) rfl rfl (hI541.pl (by decide)) (hI541.T (by decide) rfl) rfl rfl rfl rfl (ct_m_put (sl := sl) (x := x) (d := d + 6) (3200) (9) (t - f + 1) hI541 (by omega) (by omega) (by omega)) (Or.inl rfl) (fun k9 v9 T9 E552 nx9 kc9 ks9 hq551 hk9 hs9 => ?_)
                    obtain ⟨rfl, rfl, rfl, hI554, hG555, hz553⟩ := hq551
                    obtain rfl : kc = kc9 := by omega
                    obtain rfl : ks = ks9 := by omega
                    have hF556 := cm_fr.trans hF544 hG555 (by first | (simp; done) | (simp; omega) | (intro i k h; (try simp only at h); (try simp only); omega))
                    have hR557 := rl.fr hR543 hG555 (by intro i k h; (try simp only at h); omega)
                    have hx558 := tx.fr hx545 hG555 (by intro i k h; (try simp only at h); omega)
                    have hz559 : E552 81 0 = ai_i 0 := (hG555 81 0 (by simp)).trans hz546
                    have ghz559 := gv_eq hz559
                    have hz560 : E552 81 13 = ai_i z224 := (hG555 81 13 (by simp)).trans hz547
                    have ghz560 := gv_eq hz560
                    refine Or.inl ⟨rfl, ?_⟩
                    refine w_aload (i := 0) (npc := 115) rfl rfl rfl ?_
                    refine w_iload (i := 4) (npc := 117) rfl rfl ?_
                    refine w_virt (ci := 8) (i := 81) (npc := 120) (a := [cr 81, ai_i c]) (rest := []) rfl rfl (hI554.pl (by decide)) (hI554.T (by decide) rfl) rfl rfl rfl rfl (ct_m_keyAhead (sl := sl) (x := x) (d := d + 6) (c) hI554 (by omega)) (Or.inl rfl) (fun k9 v9 T9 E562 nx9 kc9 ks9 hq561 hk9 hs9 => ?_)
                    obtain ⟨rfl, rfl, rfl, rfl, z563, rfl, hz563⟩ := hq561
                    obtain rfl : kc = kc9 := by omega
                    obtain rfl : ks = ks9 := by omega
                    refine Or.inr (Or.inl ⟨rfl, ?_⟩)
                    refine w_istore (i := 6) (npc := 122) (loc' := [cr 81, ai_i p, ai_i f, ai_i t, ai_i c, ai_i 1, ai_i z563, ai_un, ai_un, ai_un]) rfl rfl ?_
                    refine w_aload (i := 0) (npc := 123) rfl rfl rfl ?_
                    refine w_iload (i := 4) (npc := 125) rfl rfl ?_
                    refine w_virt (ci := 8) (i := 81) (npc := 128) (a := [cr 81, ai_i c]) (rest := []) rfl rfl (hI554.pl (by decide)) (hI554.T (by decide) rfl) rfl rfl rfl rfl (ct_m_keyBehind (sl := sl) (x := x) (d := d + 5) (c) hI554 (by omega) hx558) (Or.inl rfl) (fun k9 v9 T9 E565 nx9 kc9 ks9 hq564 hk9 hs9 => ?_)
                    obtain ⟨rfl, rfl, rfl, rfl, z566, rfl, hz566⟩ := hq564
                    obtain rfl : kc = kc9 := by omega
                    obtain rfl : ks = ks9 := by omega
                    refine Or.inr (Or.inl ⟨rfl, ?_⟩)
                    refine w_istore (i := 7) (npc := 130) (loc' := [cr 81, ai_i p, ai_i f, ai_i t, ai_i c, ai_i 1, ai_i z563, ai_i z566, ai_un, ai_un]) rfl rfl ?_
                    refine w_const (n := 0) (npc := 131) rfl ?_
                    refine w_istore (i := 8) (npc := 133) (loc' := [cr 81, ai_i p, ai_i f, ai_i t, ai_i c, ai_i 1, ai_i z563, ai_i z566, ai_i 0, ai_un]) rfl rfl ?_
                    have loop133 : ∀ (nf : Nat) (a : Int) (i : Int) (u133_9 : ai_V) (Eq133 : cm_E), ((t - f + 1 - i).toNat) < nf → cs_I T Eq133 nx → cm_fr (fun i k => (i = 81 ∧ (k = 0 ∨ k = 12 ∨ k = 13)) ∨ i = 82 ∨ i = 83 ∨ i = 84 ∨ i = 85 ∨ i = 86 ∨ i = 87 ∨ i = 88 ∨ i = 89 ∨ i = 90 ∨ i = 91) E Eq133 → rl Eq133 → (0 ≤ i ∧ i ≤ t - f + 1 ∧ -1 ≤ a ∧ a ≤ 531341 ∧ gv Eq133 82 (166 * 3200 + 0 : Int).toNat = 3 ∧ gv Eq133 82 (166 * 3200 + 1 : Int).toNat = p ∧ gv Eq133 82 (166 * 3200 + 2 : Int).toNat = gv Eq133 83 (5 * p + p).toNat + 1 ∧ (0 ≤ gv Eq133 83 (5 * p + p).toNat ∧ gv Eq133 83 (5 * p + p).toNat ≤ 59) ∧ gv Eq133 82 (166 * 3200 + 8 : Int).toNat ≤ 65535 ∧ gv Eq133 82 (166 * 3200 + 9 : Int).toNat ≤ 6 ∧ (∀ j : Int, 0 ≤ j → j < 6 → gv Eq133 82 (166 * 3200 + 10 + 26 * j + 1).toNat ≤ 24)) → cm_wp (ai_find ai_c186 sl) (ai_ev sl (d + 7)) x (kc + 0) (ks + 0) (fun rk rv T' E' nx' => rk = 1 ∧ T = T' ∧ nx = nx' ∧ cs_I T E' nx ∧ cm_fr (fun i k => (i = 81 ∧ (k = 0 ∨ k = 12 ∨ k = 13)) ∨ i = 82 ∨ i = 83 ∨ i = 84 ∨ i = 85 ∨ i = 86 ∨ i = 87 ∨ i = 88 ∨ i = 89 ∨ i = 90 ∨ i = 91) E E' ∧ rl E' ∧ ∃ z : Int, rv = ai_i z ∧ (True)) 133 [cr 81, ai_i p, ai_i f, ai_i t, ai_i c, ai_i 1, ai_i a, ai_i z566, ai_i i, u133_9] [] T Eq133 nx kc ks := by
                      intro nf
                      induction nf with
                      | zero => intro a i u133_9 Eq133 hm; exact absurd hm (Nat.not_lt_zero _)
                      | succ nf133 ih =>
                        intro a i u133_9 Eq133 hm133 hI133 hF133 hR133 hv133
                        obtain ⟨z567, hz567, hz567a, hz567b⟩ := hI133.int 81 13 (lo := 0) (hi := 300) (by decide) (by decide) rfl
                        have ghz567 := gv_eq hz567
                        have ih133 := ih; clear ih
                        refine w_iload (i := 8) (npc := 135) rfl rfl ?_
                        refine w_iload (i := 3) (npc := 136) rfl rfl ?_
                        refine w_iload (i := 2) (npc := 137) rfl rfl ?_
                        refine w_isub (npc := 138) rfl (by omega) ?_
                        refine w_icmp (c := .gt) (npc := 141) (pt := 211) rfl (fun hc569 => ?_) (fun hc569 => ?_)
                        · replace hc569 : t - f < i := hc569
                          refine w_aload (i := 0) (npc := 212) rfl rfl rfl ?_
                          refine w_iload (i := 1) (npc := 213) rfl rfl ?_
                          refine w_virt (ci := 8) (i := 81) (npc := 216) (a := [cr 81, ai_i p]) (rest := []) rfl rfl (hI133.pl (by decide)) (hI133.T (by decide) rfl) rfl rfl rfl rfl (ct_m_endStep (sl := sl) (x := x) (d := d + 2) (p) hI133  hR133 (by omega) (hand_ok (E := Eq133) (a := 3) (p := p) (m := gv Eq133 83 (5 * p + p).toNat) hv133.2.2.2.2.1 hv133.2.2.2.2.2.1 hv133.2.2.2.2.2.2.1 hv133.2.2.2.2.2.2.2.2.1 (by omega) (by omega) (by omega) (by have hl9 := gv_fr hF133 (i := 81) (k := 1) (by simp); omega) (fun q => by omega) (fun q => by omega) (fun _ => ⟨by omega, hv133.2.2.2.2.2.2.2.2.2.2⟩)).1 (hand_ok (E := Eq133) (a := 3) (p := p) (m := gv Eq133 83 (5 * p + p).toNat) hv133.2.2.2.2.1 hv133.2.2.2.2.2.1 hv133.2.2.2.2.2.2.1 hv133.2.2.2.2.2.2.2.2.1 (by omega) (by omega) (by omega) (by have hl9 := gv_fr hF133 (i := 81) (k := 1) (by simp); omega) (fun q => by omega) (fun q => by omega) (fun _ => ⟨by omega, hv133.2.2.2.2.2.2.2.2.2.2⟩)).2 hv133.2.2.2.2.2.1 (by omega)) (Or.inl rfl) (fun k9 v9 T9 E571 nx9 kc9 ks9 hq570 hk9 hs9 => ?_)
                          obtain ⟨rfl, rfl, rfl, hI573, hG574, hR575, z572, rfl, hz572⟩ := hq570
                          obtain rfl : kc = kc9 := by omega
                          obtain rfl : ks = ks9 := by omega
                          have hF576 := cm_fr.trans hF133 hG574 (by first | (simp; done) | (simp; omega) | (intro i k h; (try simp only at h); (try simp only); omega))
                          have hz577 : E571 81 13 = ai_i z567 := (hG574 81 13 (by simp)).trans hz567
                          have ghz577 := gv_eq hz577
                          refine Or.inr (Or.inl ⟨rfl, ?_⟩)
                          exact w_iret rfl (⟨rfl, rfl, rfl, hI573, hF576, hR575, z572, rfl, trivial⟩) (by omega) (by omega)
                        · replace hc569 : ¬ (t - f < i) := hc569
                          refine w_const (n := 10) (npc := 143) rfl ?_
                          refine w_const (n := 26) (npc := 145) rfl ?_
                          refine w_iload (i := 8) (npc := 147) rfl rfl ?_
                          refine w_imul (npc := 148) rfl (by omega) ?_
                          refine w_iadd (npc := 149) rfl (by omega) ?_
                          refine w_istore (i := 9) (npc := 151) (loc' := [cr 81, ai_i p, ai_i f, ai_i t, ai_i c, ai_i 1, ai_i a, ai_i z566, ai_i i, ai_i (10 + (26 * i))]) rfl rfl ?_
                          refine w_aload (i := 0) (npc := 152) rfl rfl rfl ?_
                          refine w_const (n := 3200) (npc := 155) rfl ?_
                          refine w_iload (i := 9) (npc := 157) rfl rfl ?_
                          refine w_aload (i := 0) (npc := 158) rfl rfl rfl ?_
                          refine w_getf (i := 81) (ci := 8) (k := 11) (npc := 161) rfl (hI133.pl (by decide)) (hI133.T (by decide) rfl) (by decide) (hI133.ref 81 11 (p := 91) (by decide) (by decide) rfl) ?_
                          refine w_iload (i := 2) (npc := 162) rfl rfl ?_
                          refine w_iload (i := 8) (npc := 164) rfl rfl ?_
                          refine w_iadd (npc := 165) rfl (by omega) ?_
                          obtain ⟨z581, hz581, hz581a, hz581b⟩ := hI133.int 91 (f + i : Int).toNat (lo := 0) (hi := 299) (by decide) (show (f + i : Int).toNat < 300 by omega) rfl
                          have ghz581 := gv_eq hz581
                          refine w_ald (i := 91) (t := 1) (n := 300) (npc := 166) rfl (hI133.pl (by decide)) (hI133.T (by decide) rfl) (by decide) rfl (by omega) hz581 ?_
                          refine w_call (npc := 169) (a := [ai_i z581]) (rest := [ai_i (10 + (26 * i)), ai_i 3200, cr 81]) rfl rfl rfl rfl rfl (ct_m_nameOf (sl := sl) (x := x) (d := d + 6) (z581) (by omega)) (Or.inr (fun _ _ _ _ _ hq => by have h1 := hq.1; omega)) (fun k9 v9 T9 E583 nx9 kc9 ks9 hq582 hk9 hs9 => ?_)
                          obtain ⟨rfl, rfl, rfl, rfl, z584, rfl, hz584⟩ := hq582
                          obtain rfl : kc = kc9 := by omega
                          obtain rfl : ks = ks9 := by omega
                          refine Or.inr (Or.inl ⟨rfl, ?_⟩)
                          refine w_virt (ci := 8) (i := 81) (npc := 172) (a := [cr 81, ai_i 3200, ai_i (10 + (26 * i)), ai_i z584]) (rest := []) rfl rfl (hI133.pl (by decide)) (hI133.T (by decide) rfl) rfl rfl rfl rfl (ct_m_put (sl := sl) (x := x) (d := d + 6) (3200) (10 + (26 * i)) (z584) hI133 (by omega) (by omega) (by omega)) (Or.inl rfl) (fun k9 v9 T9 E586 nx9 kc9 ks9 hq585 hk9 hs9 => ?_)
                          obtain ⟨rfl, rfl, rfl, hI588, hG589, hz587⟩ := hq585
                          obtain rfl : kc = kc9 := by omega
                          obtain rfl : ks = ks9 := by omega
                          have hF590 := cm_fr.trans hF133 hG589 (by first | (simp; done) | (simp; omega) | (intro i k h; (try simp only at h); (try simp only); omega))
                          have hR591 := rl.fr hR133 hG589 (by intro i k h; (try simp only at h); omega)
                          have hz592 : E586 81 13 = ai_i z567 := (hG589 81 13 (by simp)).trans hz567
                          have ghz592 := gv_eq hz592
                          refine Or.inl ⟨rfl, ?_⟩
                          refine w_aload (i := 0) (npc := 173) rfl rfl rfl ?_
                          refine w_iload (i := 6) (npc := 175) rfl rfl ?_
                          refine w_iload (i := 7) (npc := 177) rfl rfl ?_
                          refine w_iload (i := 1) (npc := 178) rfl rfl ?_
                          refine w_const (n := 531200) (npc := 180) rfl ?_
                          refine w_iload (i := 9) (npc := 182) rfl rfl ?_
                          refine w_iadd (npc := 183) rfl (by omega) ?_
                          refine w_const (n := 1) (npc := 184) rfl ?_
                          refine w_iadd (npc := 185) rfl (by omega) ?_
                          refine w_virt (ci := 8) (i := 81) (npc := 188) (a := [cr 81, ai_i a, ai_i z566, ai_i p, ai_i (531200 + (10 + (26 * i)) + 1)]) (rest := []) rfl rfl (hI588.pl (by decide)) (hI588.T (by decide) rfl) rfl rfl rfl rfl (ct_m_newKey (sl := sl) (x := x) (d := d + 6) (a) (z566) (p) (531200 + (10 + (26 * i)) + 1) hI588 (by omega) (by omega) (by omega) (by omega)) (Or.inl rfl) (fun k9 v9 T9 E596 nx9 kc9 ks9 hq595 hk9 hs9 => ?_)
                          obtain ⟨rfl, rfl, rfl, hI598, hG599, z597, rfl, hz597⟩ := hq595
                          obtain rfl : kc = kc9 := by omega
                          obtain rfl : ks = ks9 := by omega
                          have hF600 := cm_fr.trans hF590 hG599 (by first | (simp; done) | (simp; omega) | (intro i k h; (try simp only at h); (try simp only); omega))
                          have hR601 := rl.fr hR591 hG599 (by intro i k h; (try simp only at h); omega)
                          have hz602 : E596 81 13 = ai_i z567 := (hG599 81 13 (by simp)).trans hz592
                          have ghz602 := gv_eq hz602
                          refine Or.inr (Or.inl ⟨rfl, ?_⟩)
                          refine w_if (c := .ne) (npc := 191) (pt := 196) rfl (fun hc603 => ?_) (fun hc603 => ?_)
                          · replace hc603 : z597 ≠ (0 : Int) := hc603
                            refine w_const (n := 531200) (npc := 198) rfl ?_
                            refine w_iload (i := 9) (npc := 200) rfl rfl ?_
                            refine w_iadd (npc := 201) rfl (by omega) ?_
                            refine w_const (n := 1) (npc := 202) rfl ?_
                            refine w_iadd (npc := 203) rfl (by omega) ?_
                            refine w_istore (i := 6) (npc := 205) (loc' := [cr 81, ai_i p, ai_i f, ai_i t, ai_i c, ai_i 1, ai_i (531200 + (10 + (26 * i)) + 1), ai_i z566, ai_i i, ai_i (10 + (26 * i))]) rfl rfl ?_
                            refine w_iinc (i := 8) (n := 1) (npc := 208) (loc' := [cr 81, ai_i p, ai_i f, ai_i t, ai_i c, ai_i 1, ai_i (531200 + (10 + (26 * i)) + 1), ai_i z566, ai_i (i + 1), ai_i (10 + (26 * i))]) rfl rfl (by omega) rfl ?_
                            refine w_goto (pt := 133) rfl ?_
                            exact ih133 (531200 + (10 + (26 * i)) + 1) (i + 1) (ai_i (10 + (26 * i))) E596 (by omega) hI598 hF600 hR601 (by
      obtain ⟨d1, d2, d3, d4, d5, d6, d7, d8, d9, d10, d11⟩ := hv133
      have y0_0 := gv_fr hG589 (i := 83) (k := (5 * p + p).toNat) (by first | (simp; done) | omega | (simp only; omega) | (simp; omega))
      have y0_1 := gv_fr hG589 (i := 82) (k := (166 * 3200 + 0 : Int).toNat) (by first | (simp; done) | omega | (simp only; omega) | (simp; omega))
      have y0_2 := gv_fr hG589 (i := 82) (k := (166 * 3200 + 1 : Int).toNat) (by first | (simp; done) | omega | (simp only; omega) | (simp; omega))
      have y0_3 := gv_fr hG589 (i := 82) (k := (166 * 3200 + 2 : Int).toNat) (by first | (simp; done) | omega | (simp only; omega) | (simp; omega))
      have y0_4 := gv_fr hG589 (i := 82) (k := (166 * 3200 + 8 : Int).toNat) (by first | (simp; done) | omega | (simp only; omega) | (simp; omega))
      have y0_5 := gv_fr hG589 (i := 82) (k := (166 * 3200 + 9 : Int).toNat) (by first | (simp; done) | omega | (simp only; omega) | (simp; omega))
      have y1_0 := gv_fr hG599 (i := 83) (k := (5 * p + p).toNat) (by first | (simp; done) | omega | (simp only; omega) | (simp; omega))
      have y1_1 := gv_fr hG599 (i := 82) (k := (166 * 3200 + 0 : Int).toNat) (by first | (simp; done) | omega | (simp only; omega) | (simp; omega))
      have y1_2 := gv_fr hG599 (i := 82) (k := (166 * 3200 + 1 : Int).toNat) (by first | (simp; done) | omega | (simp only; omega) | (simp; omega))
      have y1_3 := gv_fr hG599 (i := 82) (k := (166 * 3200 + 2 : Int).toNat) (by first | (simp; done) | omega | (simp only; omega) | (simp; omega))
      have y1_4 := gv_fr hG599 (i := 82) (k := (166 * 3200 + 8 : Int).toNat) (by first | (simp; done) | omega | (simp only; omega) | (simp; omega))
      have y1_5 := gv_fr hG599 (i := 82) (k := (166 * 3200 + 9 : Int).toNat) (by first | (simp; done) | omega | (simp only; omega) | (simp; omega))
      refine ⟨by omega, by omega, by omega, by omega, by omega, by omega, by omega, by omega, by omega, by omega, fun j j0 j1 => ?_⟩
      by_cases hj : j = i
      · rw [hj]
        have q := hz597.2.2
        rw [show 531200 + (10 + 26 * i) + 1 = 166 * 3200 + 10 + 26 * i + 1 by omega] at q
        exact q
      · rw [← gv_fr hG599 (by first | omega | (simp only; omega)), ← gv_fr hG589 (by first | omega | (simp only; omega))]; exact d11 j j0 j1)
                          · replace hc603 : ¬ (z597 ≠ (0 : Int)) := hc603
                            refine w_aload (i := 0) (npc := 192) rfl rfl rfl ?_
                            refine w_virt (ci := 8) (i := 81) (npc := 195) (a := [cr 81]) (rest := []) rfl rfl (hI598.pl (by decide)) (hI598.T (by decide) rfl) rfl rfl rfl rfl (ct_m_refuse (sl := sl) (x := x) (d := d + 6)  hI598) (Or.inl rfl) (fun k9 v9 T9 E608 nx9 kc9 ks9 hq607 hk9 hs9 => ?_)
                            obtain ⟨rfl, rfl, rfl, hI610, hG611, z609, rfl, hz609⟩ := hq607
                            obtain rfl : kc = kc9 := by omega
                            obtain rfl : ks = ks9 := by omega
                            have hF612 := cm_fr.trans hF600 hG611 (by first | (simp; done) | (simp; omega) | (intro i k h; (try simp only at h); (try simp only); omega))
                            have hR613 := rl.fr hR601 hG611 (by intro i k h; (try simp only at h); omega)
                            have hz614 : E608 81 13 = ai_i z567 := (hG611 81 13 (by simp)).trans hz602
                            have ghz614 := gv_eq hz614
                            refine Or.inr (Or.inl ⟨rfl, ?_⟩)
                            exact w_iret rfl (⟨rfl, rfl, rfl, hI610, hF612, hR613, z609, rfl, trivial⟩) (by omega) (by omega)
                    exact loop133 _ (z563) (0) (ai_un) E552 (Nat.lt_succ_self _) hI554 hF556 hR557 (by
      have q8 := hz540.2.2.2.2.2.2 (by omega)
      have q0 := hz540.1
      have q1 := hz540.2.1
      have q2 := hz540.2.2.1
      have q9 := hz553
      have y0_0 := gv_fr hG542 (i := 83) (k := (5 * p + p).toNat) (by first | (simp; done) | omega | (simp only; omega) | (simp; omega))
      have x0_0 := gv_fr hG555 (i := 83) (k := (5 * p + p).toNat) (by first | (simp; done) | omega | (simp only; omega) | (simp; omega))
      have x0_1 := gv_fr hG555 (i := 82) (k := (166 * 3200 + 0 : Int).toNat) (by first | (simp; done) | omega | (simp only; omega) | (simp; omega))
      have x0_2 := gv_fr hG555 (i := 82) (k := (166 * 3200 + 1 : Int).toNat) (by first | (simp; done) | omega | (simp only; omega) | (simp; omega))
      have x0_3 := gv_fr hG555 (i := 82) (k := (166 * 3200 + 2 : Int).toNat) (by first | (simp; done) | omega | (simp only; omega) | (simp; omega))
      have x0_4 := gv_fr hG555 (i := 82) (k := (166 * 3200 + 8 : Int).toNat) (by first | (simp; done) | omega | (simp only; omega) | (simp; omega))
      refine ⟨by omega, by omega, by omega, by omega, by omega, by omega, by omega, by omega, by omega, by omega, fun j j0 j1 => ?_⟩
      rw [← gv_fr hG555 (by first | omega | (simp only; omega))]
      have q7 := hz540.2.2.2.1 (10 + 26 * j + 1) (by omega) (by omega)
      rw [show 166 * 3200 + (10 + 26 * j + 1) = 166 * 3200 + 10 + 26 * j + 1 by omega] at q7
      omega)
                  · replace hc548 : ¬ (z540 ≠ (0 : Int)) := hc548
                    refine w_aload (i := 0) (npc := 96) rfl rfl rfl ?_
                    refine w_virt (ci := 8) (i := 81) (npc := 99) (a := [cr 81]) (rest := []) rfl rfl (hI541.pl (by decide)) (hI541.T (by decide) rfl) rfl rfl rfl rfl (ct_m_refuse (sl := sl) (x := x) (d := d + 6)  hI541) (Or.inl rfl) (fun k9 v9 T9 E616 nx9 kc9 ks9 hq615 hk9 hs9 => ?_)
                    obtain ⟨rfl, rfl, rfl, hI618, hG619, z617, rfl, hz617⟩ := hq615
                    obtain rfl : kc = kc9 := by omega
                    obtain rfl : ks = ks9 := by omega
                    have hF620 := cm_fr.trans hF544 hG619 (by first | (simp; done) | (simp; omega) | (intro i k h; (try simp only at h); (try simp only); omega))
                    have hR621 := rl.fr hR543 hG619 (by intro i k h; (try simp only at h); omega)
                    have hx622 := tx.fr hx545 hG619 (by intro i k h; (try simp only at h); omega)
                    have hz623 : E616 81 0 = ai_i 0 := (hG619 81 0 (by simp)).trans hz546
                    have ghz623 := gv_eq hz623
                    have hz624 : E616 81 13 = ai_i z224 := (hG619 81 13 (by simp)).trans hz547
                    have ghz624 := gv_eq hz624
                    refine Or.inr (Or.inl ⟨rfl, ?_⟩)
                    exact w_iret rfl (⟨rfl, rfl, rfl, hI618, hF620, hR621, z617, rfl, trivial⟩) (by omega) (by omega)
              · replace hc526 : ¬ (c ≤ f) := hc526
                refine w_iload (i := 4) (npc := 70) rfl rfl ?_
                refine w_iload (i := 3) (npc := 71) rfl rfl ?_
                refine w_icmp (c := .le) (npc := 74) (pt := 78) rfl (fun hc625 => ?_) (fun hc625 => ?_)
                · replace hc625 : c ≤ t := hc625
                  refine w_const (n := 0) (npc := 79) rfl ?_
                  refine w_istore (i := 5) (npc := 81) (loc' := [cr 81, ai_i p, ai_i f, ai_i t, ai_i c, ai_i 0, ai_un, ai_un, ai_un, ai_un]) rfl rfl ?_
                  refine w_iload (i := 5) (npc := 83) rfl rfl ?_
                  refine w_if (c := .eq) (npc := 86) (pt := 95) rfl (fun hc626 => ?_) (fun hc626 => ?_)
                  · replace hc626 : (0 : Int) = 0 := hc626
                    refine w_aload (i := 0) (npc := 96) rfl rfl rfl ?_
                    refine w_virt (ci := 8) (i := 81) (npc := 99) (a := [cr 81]) (rest := []) rfl rfl (hI16.pl (by decide)) (hI16.T (by decide) rfl) rfl rfl rfl rfl (ct_m_refuse (sl := sl) (x := x) (d := d + 6)  hI16) (Or.inl rfl) (fun k9 v9 T9 E628 nx9 kc9 ks9 hq627 hk9 hs9 => ?_)
                    obtain ⟨rfl, rfl, rfl, hI630, hG631, z629, rfl, hz629⟩ := hq627
                    obtain rfl : kc = kc9 := by omega
                    obtain rfl : ks = ks9 := by omega
                    have hF632 := cm_fr.trans hF19 hG631 (by first | (simp; done) | (simp; omega) | (intro i k h; (try simp only at h); (try simp only); omega))
                    have hR633 := rl.fr hR18 hG631 (by intro i k h; (try simp only at h); omega)
                    have hx634 := tx.fr hx20 hG631 (by intro i k h; (try simp only at h); omega)
                    have hz635 : E628 81 0 = ai_i 0 := (hG631 81 0 (by simp)).trans hz21
                    have ghz635 := gv_eq hz635
                    have hz636 : E628 81 13 = ai_i z224 := (hG631 81 13 (by simp)).trans hz224
                    have ghz636 := gv_eq hz636
                    refine Or.inr (Or.inl ⟨rfl, ?_⟩)
                    exact w_iret rfl (⟨rfl, rfl, rfl, hI630, hF632, hR633, z629, rfl, trivial⟩) (by omega) (by omega)
                  · replace hc626 : ¬ ((0 : Int) = 0) := hc626
                    refine w_aload (i := 0) (npc := 87) rfl rfl rfl ?_
                    refine w_iload (i := 1) (npc := 88) rfl rfl ?_
                    refine w_const (n := 3) (npc := 89) rfl ?_
                    refine w_virt (ci := 8) (i := 81) (npc := 92) (a := [cr 81, ai_i p, ai_i 3]) (rest := []) rfl rfl (hI16.pl (by decide)) (hI16.T (by decide) rfl) rfl rfl rfl rfl (ct_m_beginStep (sl := sl) (x := x) (d := d + 4) (p) (3) hI16 hR18 (by omega) (by omega)) (Or.inl rfl) (fun k9 v9 T9 E638 nx9 kc9 ks9 hq637 hk9 hs9 => ?_)
                    obtain ⟨rfl, rfl, rfl, hI640, hG641, hR642, z639, rfl, hz639⟩ := hq637
                    obtain rfl : kc = kc9 := by omega
                    obtain rfl : ks = ks9 := by omega
                    have hF643 := cm_fr.trans hF19 hG641 (by first | (simp; done) | (simp; omega) | (intro i k h; (try simp only at h); (try simp only); omega))
                    have hx644 := tx.fr hx20 hG641 (by intro i k h; (try simp only at h); omega)
                    have hz645 : E638 81 0 = ai_i 0 := (hG641 81 0 (by simp)).trans hz21
                    have ghz645 := gv_eq hz645
                    have hz646 : E638 81 13 = ai_i z224 := (hG641 81 13 (by simp)).trans hz224
                    have ghz646 := gv_eq hz646
                    refine Or.inr (Or.inl ⟨rfl, ?_⟩)
                    refine w_if (c := .ne) (npc := 95) (pt := 100) rfl (fun hc647 => ?_) (fun hc647 => ?_)
                    · replace hc647 : z639 ≠ (0 : Int) := hc647
                      refine w_aload (i := 0) (npc := 101) rfl rfl rfl ?_
                      refine w_const (n := 3200) (npc := 104) rfl ?_
                      refine w_const (n := 9) (npc := 106) rfl ?_
                      refine w_iload (i := 3) (npc := 107) rfl rfl ?_
                      refine w_iload (i := 2) (npc := 108) rfl rfl ?_
                      refine w_isub (npc := 109) rfl (by omega) ?_
                      refine w_const (n := 1) (npc := 110) rfl ?_
                      refine w_iadd (npc := 111) rfl (by omega) ?_
                      refine w_virt (ci := 8) (i := 81) (npc := 114) (a := [cr 81, ai_i 3200, ai_i 9, ai_i (t - f + 1)]) (rest := []) rfl rfl (hI640.pl (by decide)) (hI640.T (by decide) rfl) rfl rfl rfl rfl (ct_m_put (sl := sl) (x := x) (d := d + 6) (3200) (9) (t - f + 1) hI640 (by omega) (by omega) (by omega)) (Or.inl rfl) (fun k9 v9 T9 E651 nx9 kc9 ks9 hq650 hk9 hs9 => ?_)
                      obtain ⟨rfl, rfl, rfl, hI653, hG654, hz652⟩ := hq650
                      obtain rfl : kc = kc9 := by omega
                      obtain rfl : ks = ks9 := by omega
                      have hF655 := cm_fr.trans hF643 hG654 (by first | (simp; done) | (simp; omega) | (intro i k h; (try simp only at h); (try simp only); omega))
                      have hR656 := rl.fr hR642 hG654 (by intro i k h; (try simp only at h); omega)
                      have hx657 := tx.fr hx644 hG654 (by intro i k h; (try simp only at h); omega)
                      have hz658 : E651 81 0 = ai_i 0 := (hG654 81 0 (by simp)).trans hz645
                      have ghz658 := gv_eq hz658
                      have hz659 : E651 81 13 = ai_i z224 := (hG654 81 13 (by simp)).trans hz646
                      have ghz659 := gv_eq hz659
                      refine Or.inl ⟨rfl, ?_⟩
                      refine w_aload (i := 0) (npc := 115) rfl rfl rfl ?_
                      refine w_iload (i := 4) (npc := 117) rfl rfl ?_
                      refine w_virt (ci := 8) (i := 81) (npc := 120) (a := [cr 81, ai_i c]) (rest := []) rfl rfl (hI653.pl (by decide)) (hI653.T (by decide) rfl) rfl rfl rfl rfl (ct_m_keyAhead (sl := sl) (x := x) (d := d + 6) (c) hI653 (by omega)) (Or.inl rfl) (fun k9 v9 T9 E661 nx9 kc9 ks9 hq660 hk9 hs9 => ?_)
                      obtain ⟨rfl, rfl, rfl, rfl, z662, rfl, hz662⟩ := hq660
                      obtain rfl : kc = kc9 := by omega
                      obtain rfl : ks = ks9 := by omega
                      refine Or.inr (Or.inl ⟨rfl, ?_⟩)
                      refine w_istore (i := 6) (npc := 122) (loc' := [cr 81, ai_i p, ai_i f, ai_i t, ai_i c, ai_i 0, ai_i z662, ai_un, ai_un, ai_un]) rfl rfl ?_
                      refine w_aload (i := 0) (npc := 123) rfl rfl rfl ?_
                      refine w_iload (i := 4) (npc := 125) rfl rfl ?_
                      refine w_virt (ci := 8) (i := 81) (npc := 128) (a := [cr 81, ai_i c]) (rest := []) rfl rfl (hI653.pl (by decide)) (hI653.T (by decide) rfl) rfl rfl rfl rfl (ct_m_keyBehind (sl := sl) (x := x) (d := d + 5) (c) hI653 (by omega) hx657) (Or.inl rfl) (fun k9 v9 T9 E664 nx9 kc9 ks9 hq663 hk9 hs9 => ?_)
                      obtain ⟨rfl, rfl, rfl, rfl, z665, rfl, hz665⟩ := hq663
                      obtain rfl : kc = kc9 := by omega
                      obtain rfl : ks = ks9 := by omega
                      refine Or.inr (Or.inl ⟨rfl, ?_⟩)
                      refine w_istore (i := 7) (npc := 130) (loc' := [cr 81, ai_i p, ai_i f, ai_i t, ai_i c, ai_i 0, ai_i z662, ai_i z665, ai_un, ai_un]) rfl rfl ?_
                      refine w_const (n := 0) (npc := 131) rfl ?_
                      refine w_istore (i := 8) (npc := 133) (loc' := [cr 81, ai_i p, ai_i f, ai_i t, ai_i c, ai_i 0, ai_i z662, ai_i z665, ai_i 0, ai_un]) rfl rfl ?_
                      have loop133 : ∀ (nf : Nat) (a : Int) (i : Int) (u133_9 : ai_V) (Eq133 : cm_E), ((t - f + 1 - i).toNat) < nf → cs_I T Eq133 nx → cm_fr (fun i k => (i = 81 ∧ (k = 0 ∨ k = 12 ∨ k = 13)) ∨ i = 82 ∨ i = 83 ∨ i = 84 ∨ i = 85 ∨ i = 86 ∨ i = 87 ∨ i = 88 ∨ i = 89 ∨ i = 90 ∨ i = 91) E Eq133 → rl Eq133 → (0 ≤ i ∧ i ≤ t - f + 1 ∧ -1 ≤ a ∧ a ≤ 531341 ∧ gv Eq133 82 (166 * 3200 + 0 : Int).toNat = 3 ∧ gv Eq133 82 (166 * 3200 + 1 : Int).toNat = p ∧ gv Eq133 82 (166 * 3200 + 2 : Int).toNat = gv Eq133 83 (5 * p + p).toNat + 1 ∧ (0 ≤ gv Eq133 83 (5 * p + p).toNat ∧ gv Eq133 83 (5 * p + p).toNat ≤ 59) ∧ gv Eq133 82 (166 * 3200 + 8 : Int).toNat ≤ 65535 ∧ gv Eq133 82 (166 * 3200 + 9 : Int).toNat ≤ 6 ∧ (∀ j : Int, 0 ≤ j → j < 6 → gv Eq133 82 (166 * 3200 + 10 + 26 * j + 1).toNat ≤ 24)) → cm_wp (ai_find ai_c186 sl) (ai_ev sl (d + 7)) x (kc + 0) (ks + 0) (fun rk rv T' E' nx' => rk = 1 ∧ T = T' ∧ nx = nx' ∧ cs_I T E' nx ∧ cm_fr (fun i k => (i = 81 ∧ (k = 0 ∨ k = 12 ∨ k = 13)) ∨ i = 82 ∨ i = 83 ∨ i = 84 ∨ i = 85 ∨ i = 86 ∨ i = 87 ∨ i = 88 ∨ i = 89 ∨ i = 90 ∨ i = 91) E E' ∧ rl E' ∧ ∃ z : Int, rv = ai_i z ∧ (True)) 133 [cr 81, ai_i p, ai_i f, ai_i t, ai_i c, ai_i 0, ai_i a, ai_i z665, ai_i i, u133_9] [] T Eq133 nx kc ks := by
                        intro nf
                        induction nf with
                        | zero => intro a i u133_9 Eq133 hm; exact absurd hm (Nat.not_lt_zero _)
                        | succ nf133 ih =>
                          intro a i u133_9 Eq133 hm133 hI133 hF133 hR133 hv133
                          obtain ⟨z666, hz666, hz666a, hz666b⟩ := hI133.int 81 13 (lo := 0) (hi := 300) (by decide) (by decide) rfl
                          have ghz666 := gv_eq hz666
                          have ih133 := ih; clear ih
                          refine w_iload (i := 8) (npc := 135) rfl rfl ?_
                          refine w_iload (i := 3) (npc := 136) rfl rfl ?_
                          refine w_iload (i := 2) (npc := 137) rfl rfl ?_
                          refine w_isub (npc := 138) rfl (by omega) ?_
                          refine w_icmp (c := .gt) (npc := 141) (pt := 211) rfl (fun hc668 => ?_) (fun hc668 => ?_)
                          · replace hc668 : t - f < i := hc668
                            refine w_aload (i := 0) (npc := 212) rfl rfl rfl ?_
                            refine w_iload (i := 1) (npc := 213) rfl rfl ?_
                            refine w_virt (ci := 8) (i := 81) (npc := 216) (a := [cr 81, ai_i p]) (rest := []) rfl rfl (hI133.pl (by decide)) (hI133.T (by decide) rfl) rfl rfl rfl rfl (ct_m_endStep (sl := sl) (x := x) (d := d + 2) (p) hI133  hR133 (by omega) (hand_ok (E := Eq133) (a := 3) (p := p) (m := gv Eq133 83 (5 * p + p).toNat) hv133.2.2.2.2.1 hv133.2.2.2.2.2.1 hv133.2.2.2.2.2.2.1 hv133.2.2.2.2.2.2.2.2.1 (by omega) (by omega) (by omega) (by have hl9 := gv_fr hF133 (i := 81) (k := 1) (by simp); omega) (fun q => by omega) (fun q => by omega) (fun _ => ⟨by omega, hv133.2.2.2.2.2.2.2.2.2.2⟩)).1 (hand_ok (E := Eq133) (a := 3) (p := p) (m := gv Eq133 83 (5 * p + p).toNat) hv133.2.2.2.2.1 hv133.2.2.2.2.2.1 hv133.2.2.2.2.2.2.1 hv133.2.2.2.2.2.2.2.2.1 (by omega) (by omega) (by omega) (by have hl9 := gv_fr hF133 (i := 81) (k := 1) (by simp); omega) (fun q => by omega) (fun q => by omega) (fun _ => ⟨by omega, hv133.2.2.2.2.2.2.2.2.2.2⟩)).2 hv133.2.2.2.2.2.1 (by omega)) (Or.inl rfl) (fun k9 v9 T9 E670 nx9 kc9 ks9 hq669 hk9 hs9 => ?_)
                            obtain ⟨rfl, rfl, rfl, hI672, hG673, hR674, z671, rfl, hz671⟩ := hq669
                            obtain rfl : kc = kc9 := by omega
                            obtain rfl : ks = ks9 := by omega
                            have hF675 := cm_fr.trans hF133 hG673 (by first | (simp; done) | (simp; omega) | (intro i k h; (try simp only at h); (try simp only); omega))
                            have hz676 : E670 81 13 = ai_i z666 := (hG673 81 13 (by simp)).trans hz666
                            have ghz676 := gv_eq hz676
                            refine Or.inr (Or.inl ⟨rfl, ?_⟩)
                            exact w_iret rfl (⟨rfl, rfl, rfl, hI672, hF675, hR674, z671, rfl, trivial⟩) (by omega) (by omega)
                          · replace hc668 : ¬ (t - f < i) := hc668
                            refine w_const (n := 10) (npc := 143) rfl ?_
                            refine w_const (n := 26) (npc := 145) rfl ?_
                            refine w_iload (i := 8) (npc := 147) rfl rfl ?_
                            refine w_imul (npc := 148) rfl (by omega) ?_
                            refine w_iadd (npc := 149) rfl (by omega) ?_
                            refine w_istore (i := 9) (npc := 151) (loc' := [cr 81, ai_i p, ai_i f, ai_i t, ai_i c, ai_i 0, ai_i a, ai_i z665, ai_i i, ai_i (10 + (26 * i))]) rfl rfl ?_
                            refine w_aload (i := 0) (npc := 152) rfl rfl rfl ?_
                            refine w_const (n := 3200) (npc := 155) rfl ?_
                            refine w_iload (i := 9) (npc := 157) rfl rfl ?_
                            refine w_aload (i := 0) (npc := 158) rfl rfl rfl ?_
                            refine w_getf (i := 81) (ci := 8) (k := 11) (npc := 161) rfl (hI133.pl (by decide)) (hI133.T (by decide) rfl) (by decide) (hI133.ref 81 11 (p := 91) (by decide) (by decide) rfl) ?_
                            refine w_iload (i := 2) (npc := 162) rfl rfl ?_
                            refine w_iload (i := 8) (npc := 164) rfl rfl ?_
                            refine w_iadd (npc := 165) rfl (by omega) ?_
                            obtain ⟨z680, hz680, hz680a, hz680b⟩ := hI133.int 91 (f + i : Int).toNat (lo := 0) (hi := 299) (by decide) (show (f + i : Int).toNat < 300 by omega) rfl
                            have ghz680 := gv_eq hz680
                            refine w_ald (i := 91) (t := 1) (n := 300) (npc := 166) rfl (hI133.pl (by decide)) (hI133.T (by decide) rfl) (by decide) rfl (by omega) hz680 ?_
                            refine w_call (npc := 169) (a := [ai_i z680]) (rest := [ai_i (10 + (26 * i)), ai_i 3200, cr 81]) rfl rfl rfl rfl rfl (ct_m_nameOf (sl := sl) (x := x) (d := d + 6) (z680) (by omega)) (Or.inr (fun _ _ _ _ _ hq => by have h1 := hq.1; omega)) (fun k9 v9 T9 E682 nx9 kc9 ks9 hq681 hk9 hs9 => ?_)
                            obtain ⟨rfl, rfl, rfl, rfl, z683, rfl, hz683⟩ := hq681
                            obtain rfl : kc = kc9 := by omega
                            obtain rfl : ks = ks9 := by omega
                            refine Or.inr (Or.inl ⟨rfl, ?_⟩)
                            refine w_virt (ci := 8) (i := 81) (npc := 172) (a := [cr 81, ai_i 3200, ai_i (10 + (26 * i)), ai_i z683]) (rest := []) rfl rfl (hI133.pl (by decide)) (hI133.T (by decide) rfl) rfl rfl rfl rfl (ct_m_put (sl := sl) (x := x) (d := d + 6) (3200) (10 + (26 * i)) (z683) hI133 (by omega) (by omega) (by omega)) (Or.inl rfl) (fun k9 v9 T9 E685 nx9 kc9 ks9 hq684 hk9 hs9 => ?_)
                            obtain ⟨rfl, rfl, rfl, hI687, hG688, hz686⟩ := hq684
                            obtain rfl : kc = kc9 := by omega
                            obtain rfl : ks = ks9 := by omega
                            have hF689 := cm_fr.trans hF133 hG688 (by first | (simp; done) | (simp; omega) | (intro i k h; (try simp only at h); (try simp only); omega))
                            have hR690 := rl.fr hR133 hG688 (by intro i k h; (try simp only at h); omega)
                            have hz691 : E685 81 13 = ai_i z666 := (hG688 81 13 (by simp)).trans hz666
                            have ghz691 := gv_eq hz691
                            refine Or.inl ⟨rfl, ?_⟩
                            refine w_aload (i := 0) (npc := 173) rfl rfl rfl ?_
                            refine w_iload (i := 6) (npc := 175) rfl rfl ?_
                            refine w_iload (i := 7) (npc := 177) rfl rfl ?_
                            refine w_iload (i := 1) (npc := 178) rfl rfl ?_
                            refine w_const (n := 531200) (npc := 180) rfl ?_
                            refine w_iload (i := 9) (npc := 182) rfl rfl ?_
                            refine w_iadd (npc := 183) rfl (by omega) ?_
                            refine w_const (n := 1) (npc := 184) rfl ?_
                            refine w_iadd (npc := 185) rfl (by omega) ?_
                            refine w_virt (ci := 8) (i := 81) (npc := 188) (a := [cr 81, ai_i a, ai_i z665, ai_i p, ai_i (531200 + (10 + (26 * i)) + 1)]) (rest := []) rfl rfl (hI687.pl (by decide)) (hI687.T (by decide) rfl) rfl rfl rfl rfl (ct_m_newKey (sl := sl) (x := x) (d := d + 6) (a) (z665) (p) (531200 + (10 + (26 * i)) + 1) hI687 (by omega) (by omega) (by omega) (by omega)) (Or.inl rfl) (fun k9 v9 T9 E695 nx9 kc9 ks9 hq694 hk9 hs9 => ?_)
                            obtain ⟨rfl, rfl, rfl, hI697, hG698, z696, rfl, hz696⟩ := hq694
                            obtain rfl : kc = kc9 := by omega
                            obtain rfl : ks = ks9 := by omega
                            have hF699 := cm_fr.trans hF689 hG698 (by first | (simp; done) | (simp; omega) | (intro i k h; (try simp only at h); (try simp only); omega))
                            have hR700 := rl.fr hR690 hG698 (by intro i k h; (try simp only at h); omega)
                            have hz701 : E695 81 13 = ai_i z666 := (hG698 81 13 (by simp)).trans hz691
                            have ghz701 := gv_eq hz701
                            refine Or.inr (Or.inl ⟨rfl, ?_⟩)
                            refine w_if (c := .ne) (npc := 191) (pt := 196) rfl (fun hc702 => ?_) (fun hc702 => ?_)
                            · replace hc702 : z696 ≠ (0 : Int) := hc702
                              refine w_const (n := 531200) (npc := 198) rfl ?_
                              refine w_iload (i := 9) (npc := 200) rfl rfl ?_
                              refine w_iadd (npc := 201) rfl (by omega) ?_
                              refine w_const (n := 1) (npc := 202) rfl ?_
                              refine w_iadd (npc := 203) rfl (by omega) ?_
                              refine w_istore (i := 6) (npc := 205) (loc' := [cr 81, ai_i p, ai_i f, ai_i t, ai_i c, ai_i 0, ai_i (531200 + (10 + (26 * i)) + 1), ai_i z665, ai_i i, ai_i (10 + (26 * i))]) rfl rfl ?_
                              refine w_iinc (i := 8) (n := 1) (npc := 208) (loc' := [cr 81, ai_i p, ai_i f, ai_i t, ai_i c, ai_i 0, ai_i (531200 + (10 + (26 * i)) + 1), ai_i z665, ai_i (i + 1), ai_i (10 + (26 * i))]) rfl rfl (by omega) rfl ?_
                              refine w_goto (pt := 133) rfl ?_
                              exact ih133 (531200 + (10 + (26 * i)) + 1) (i + 1) (ai_i (10 + (26 * i))) E695 (by omega) hI697 hF699 hR700 (by
      obtain ⟨d1, d2, d3, d4, d5, d6, d7, d8, d9, d10, d11⟩ := hv133
      have y0_0 := gv_fr hG688 (i := 83) (k := (5 * p + p).toNat) (by first | (simp; done) | omega | (simp only; omega) | (simp; omega))
      have y0_1 := gv_fr hG688 (i := 82) (k := (166 * 3200 + 0 : Int).toNat) (by first | (simp; done) | omega | (simp only; omega) | (simp; omega))
      have y0_2 := gv_fr hG688 (i := 82) (k := (166 * 3200 + 1 : Int).toNat) (by first | (simp; done) | omega | (simp only; omega) | (simp; omega))
      have y0_3 := gv_fr hG688 (i := 82) (k := (166 * 3200 + 2 : Int).toNat) (by first | (simp; done) | omega | (simp only; omega) | (simp; omega))
      have y0_4 := gv_fr hG688 (i := 82) (k := (166 * 3200 + 8 : Int).toNat) (by first | (simp; done) | omega | (simp only; omega) | (simp; omega))
      have y0_5 := gv_fr hG688 (i := 82) (k := (166 * 3200 + 9 : Int).toNat) (by first | (simp; done) | omega | (simp only; omega) | (simp; omega))
      have y1_0 := gv_fr hG698 (i := 83) (k := (5 * p + p).toNat) (by first | (simp; done) | omega | (simp only; omega) | (simp; omega))
      have y1_1 := gv_fr hG698 (i := 82) (k := (166 * 3200 + 0 : Int).toNat) (by first | (simp; done) | omega | (simp only; omega) | (simp; omega))
      have y1_2 := gv_fr hG698 (i := 82) (k := (166 * 3200 + 1 : Int).toNat) (by first | (simp; done) | omega | (simp only; omega) | (simp; omega))
      have y1_3 := gv_fr hG698 (i := 82) (k := (166 * 3200 + 2 : Int).toNat) (by first | (simp; done) | omega | (simp only; omega) | (simp; omega))
      have y1_4 := gv_fr hG698 (i := 82) (k := (166 * 3200 + 8 : Int).toNat) (by first | (simp; done) | omega | (simp only; omega) | (simp; omega))
      have y1_5 := gv_fr hG698 (i := 82) (k := (166 * 3200 + 9 : Int).toNat) (by first | (simp; done) | omega | (simp only; omega) | (simp; omega))
      refine ⟨by omega, by omega, by omega, by omega, by omega, by omega, by omega, by omega, by omega, by omega, fun j j0 j1 => ?_⟩
      by_cases hj : j = i
      · rw [hj]
        have q := hz696.2.2
        rw [show 531200 + (10 + 26 * i) + 1 = 166 * 3200 + 10 + 26 * i + 1 by omega] at q
        exact q
      · rw [← gv_fr hG698 (by first | omega | (simp only; omega)), ← gv_fr hG688 (by first | omega | (simp only; omega))]; exact d11 j j0 j1)
                            · replace hc702 : ¬ (z696 ≠ (0 : Int)) := hc702
                              refine w_aload (i := 0) (npc := 192) rfl rfl rfl ?_
                              refine w_virt (ci := 8) (i := 81) (npc := 195) (a := [cr 81]) (rest := []) rfl rfl (hI697.pl (by decide)) (hI697.T (by decide) rfl) rfl rfl rfl rfl (ct_m_refuse (sl := sl) (x := x) (d := d + 6)  hI697) (Or.inl rfl) (fun k9 v9 T9 E707 nx9 kc9 ks9 hq706 hk9 hs9 => ?_)
                              obtain ⟨rfl, rfl, rfl, hI709, hG710, z708, rfl, hz708⟩ := hq706
                              obtain rfl : kc = kc9 := by omega
                              obtain rfl : ks = ks9 := by omega
                              have hF711 := cm_fr.trans hF699 hG710 (by first | (simp; done) | (simp; omega) | (intro i k h; (try simp only at h); (try simp only); omega))
                              have hR712 := rl.fr hR700 hG710 (by intro i k h; (try simp only at h); omega)
                              have hz713 : E707 81 13 = ai_i z666 := (hG710 81 13 (by simp)).trans hz701
                              have ghz713 := gv_eq hz713
                              refine Or.inr (Or.inl ⟨rfl, ?_⟩)
                              exact w_iret rfl (⟨rfl, rfl, rfl, hI709, hF711, hR712, z708, rfl, trivial⟩) (by omega) (by omega)
                      exact loop133 _ (z662) (0) (ai_un) E651 (Nat.lt_succ_self _) hI653 hF655 hR656 (by
      have q8 := hz639.2.2.2.2.2.2 (by omega)
      have q0 := hz639.1
      have q1 := hz639.2.1
      have q2 := hz639.2.2.1
      have q9 := hz652
      have y0_0 := gv_fr hG641 (i := 83) (k := (5 * p + p).toNat) (by first | (simp; done) | omega | (simp only; omega) | (simp; omega))
      have x0_0 := gv_fr hG654 (i := 83) (k := (5 * p + p).toNat) (by first | (simp; done) | omega | (simp only; omega) | (simp; omega))
      have x0_1 := gv_fr hG654 (i := 82) (k := (166 * 3200 + 0 : Int).toNat) (by first | (simp; done) | omega | (simp only; omega) | (simp; omega))
      have x0_2 := gv_fr hG654 (i := 82) (k := (166 * 3200 + 1 : Int).toNat) (by first | (simp; done) | omega | (simp only; omega) | (simp; omega))
      have x0_3 := gv_fr hG654 (i := 82) (k := (166 * 3200 + 2 : Int).toNat) (by first | (simp; done) | omega | (simp only; omega) | (simp; omega))
      have x0_4 := gv_fr hG654 (i := 82) (k := (166 * 3200 + 8 : Int).toNat) (by first | (simp; done) | omega | (simp only; omega) | (simp; omega))
      refine ⟨by omega, by omega, by omega, by omega, by omega, by omega, by omega, by omega, by omega, by omega, fun j j0 j1 => ?_⟩
      rw [← gv_fr hG654 (by first | omega | (simp only; omega))]
      have q7 := hz639.2.2.2.1 (10 + 26 * j + 1) (by omega) (by omega)
      rw [show 166 * 3200 + (10 + 26 * j + 1) = 166 * 3200 + 10 + 26 * j + 1 by omega] at q7
      omega)
                    · replace hc647 : ¬ (z639 ≠ (0 : Int)) := hc647
                      refine w_aload (i := 0) (npc := 96) rfl rfl rfl ?_
                      refine w_virt (ci := 8) (i := 81) (npc := 99) (a := [cr 81]) (rest := []) rfl rfl (hI640.pl (by decide)) (hI640.T (by decide) rfl) rfl rfl rfl rfl (ct_m_refuse (sl := sl) (x := x) (d := d + 6)  hI640) (Or.inl rfl) (fun k9 v9 T9 E715 nx9 kc9 ks9 hq714 hk9 hs9 => ?_)
                      obtain ⟨rfl, rfl, rfl, hI717, hG718, z716, rfl, hz716⟩ := hq714
                      obtain rfl : kc = kc9 := by omega
                      obtain rfl : ks = ks9 := by omega
                      have hF719 := cm_fr.trans hF643 hG718 (by first | (simp; done) | (simp; omega) | (intro i k h; (try simp only at h); (try simp only); omega))
                      have hR720 := rl.fr hR642 hG718 (by intro i k h; (try simp only at h); omega)
                      have hx721 := tx.fr hx644 hG718 (by intro i k h; (try simp only at h); omega)
                      have hz722 : E715 81 0 = ai_i 0 := (hG718 81 0 (by simp)).trans hz645
                      have ghz722 := gv_eq hz722
                      have hz723 : E715 81 13 = ai_i z224 := (hG718 81 13 (by simp)).trans hz646
                      have ghz723 := gv_eq hz723
                      refine Or.inr (Or.inl ⟨rfl, ?_⟩)
                      exact w_iret rfl (⟨rfl, rfl, rfl, hI717, hF719, hR720, z716, rfl, trivial⟩) (by omega) (by omega)
                · replace hc625 : ¬ (c ≤ t) := hc625
                  refine w_const (n := 1) (npc := 75) rfl ?_
                  refine w_goto (pt := 79) rfl ?_
                  refine w_istore (i := 5) (npc := 81) (loc' := [cr 81, ai_i p, ai_i f, ai_i t, ai_i c, ai_i 1, ai_un, ai_un, ai_un, ai_un]) rfl rfl ?_
                  refine w_iload (i := 5) (npc := 83) rfl rfl ?_
                  refine w_if (c := .eq) (npc := 86) (pt := 95) rfl (fun hc724 => ?_) (fun hc724 => ?_)
                  · replace hc724 : (1 : Int) = 0 := hc724
                    refine w_aload (i := 0) (npc := 96) rfl rfl rfl ?_
                    refine w_virt (ci := 8) (i := 81) (npc := 99) (a := [cr 81]) (rest := []) rfl rfl (hI16.pl (by decide)) (hI16.T (by decide) rfl) rfl rfl rfl rfl (ct_m_refuse (sl := sl) (x := x) (d := d + 6)  hI16) (Or.inl rfl) (fun k9 v9 T9 E726 nx9 kc9 ks9 hq725 hk9 hs9 => ?_)
                    obtain ⟨rfl, rfl, rfl, hI728, hG729, z727, rfl, hz727⟩ := hq725
                    obtain rfl : kc = kc9 := by omega
                    obtain rfl : ks = ks9 := by omega
                    have hF730 := cm_fr.trans hF19 hG729 (by first | (simp; done) | (simp; omega) | (intro i k h; (try simp only at h); (try simp only); omega))
                    have hR731 := rl.fr hR18 hG729 (by intro i k h; (try simp only at h); omega)
                    have hx732 := tx.fr hx20 hG729 (by intro i k h; (try simp only at h); omega)
                    have hz733 : E726 81 0 = ai_i 0 := (hG729 81 0 (by simp)).trans hz21
                    have ghz733 := gv_eq hz733
                    have hz734 : E726 81 13 = ai_i z224 := (hG729 81 13 (by simp)).trans hz224
                    have ghz734 := gv_eq hz734
                    refine Or.inr (Or.inl ⟨rfl, ?_⟩)
                    exact w_iret rfl (⟨rfl, rfl, rfl, hI728, hF730, hR731, z727, rfl, trivial⟩) (by omega) (by omega)
                  · replace hc724 : ¬ ((1 : Int) = 0) := hc724
                    refine w_aload (i := 0) (npc := 87) rfl rfl rfl ?_
                    refine w_iload (i := 1) (npc := 88) rfl rfl ?_
                    refine w_const (n := 3) (npc := 89) rfl ?_
                    refine w_virt (ci := 8) (i := 81) (npc := 92) (a := [cr 81, ai_i p, ai_i 3]) (rest := []) rfl rfl (hI16.pl (by decide)) (hI16.T (by decide) rfl) rfl rfl rfl rfl (ct_m_beginStep (sl := sl) (x := x) (d := d + 4) (p) (3) hI16 hR18 (by omega) (by omega)) (Or.inl rfl) (fun k9 v9 T9 E736 nx9 kc9 ks9 hq735 hk9 hs9 => ?_)
                    obtain ⟨rfl, rfl, rfl, hI738, hG739, hR740, z737, rfl, hz737⟩ := hq735
                    obtain rfl : kc = kc9 := by omega
                    obtain rfl : ks = ks9 := by omega
                    have hF741 := cm_fr.trans hF19 hG739 (by first | (simp; done) | (simp; omega) | (intro i k h; (try simp only at h); (try simp only); omega))
                    have hx742 := tx.fr hx20 hG739 (by intro i k h; (try simp only at h); omega)
                    have hz743 : E736 81 0 = ai_i 0 := (hG739 81 0 (by simp)).trans hz21
                    have ghz743 := gv_eq hz743
                    have hz744 : E736 81 13 = ai_i z224 := (hG739 81 13 (by simp)).trans hz224
                    have ghz744 := gv_eq hz744
                    refine Or.inr (Or.inl ⟨rfl, ?_⟩)
                    refine w_if (c := .ne) (npc := 95) (pt := 100) rfl (fun hc745 => ?_) (fun hc745 => ?_)
                    · replace hc745 : z737 ≠ (0 : Int) := hc745
                      refine w_aload (i := 0) (npc := 101) rfl rfl rfl ?_
                      refine w_const (n := 3200) (npc := 104) rfl ?_
                      refine w_const (n := 9) (npc := 106) rfl ?_
                      refine w_iload (i := 3) (npc := 107) rfl rfl ?_
                      refine w_iload (i := 2) (npc := 108) rfl rfl ?_
                      refine w_isub (npc := 109) rfl (by omega) ?_
                      refine w_const (n := 1) (npc := 110) rfl ?_
                      refine w_iadd (npc := 111) rfl (by omega) ?_
                      refine w_virt (ci := 8) (i := 81) (npc := 114) (a := [cr 81, ai_i 3200, ai_i 9, ai_i (t - f + 1)]) (rest := []) rfl rfl (hI738.pl (by decide)) (hI738.T (by decide) rfl) rfl rfl rfl rfl (ct_m_put (sl := sl) (x := x) (d := d + 6) (3200) (9) (t - f + 1) hI738 (by omega) (by omega) (by omega)) (Or.inl rfl) (fun k9 v9 T9 E749 nx9 kc9 ks9 hq748 hk9 hs9 => ?_)
                      obtain ⟨rfl, rfl, rfl, hI751, hG752, hz750⟩ := hq748
                      obtain rfl : kc = kc9 := by omega
                      obtain rfl : ks = ks9 := by omega
                      have hF753 := cm_fr.trans hF741 hG752 (by first | (simp; done) | (simp; omega) | (intro i k h; (try simp only at h); (try simp only); omega))
                      have hR754 := rl.fr hR740 hG752 (by intro i k h; (try simp only at h); omega)
                      have hx755 := tx.fr hx742 hG752 (by intro i k h; (try simp only at h); omega)
                      have hz756 : E749 81 0 = ai_i 0 := (hG752 81 0 (by simp)).trans hz743
                      have ghz756 := gv_eq hz756
                      have hz757 : E749 81 13 = ai_i z224 := (hG752 81 13 (by simp)).trans hz744
                      have ghz757 := gv_eq hz757
                      refine Or.inl ⟨rfl, ?_⟩
                      refine w_aload (i := 0) (npc := 115) rfl rfl rfl ?_
                      refine w_iload (i := 4) (npc := 117) rfl rfl ?_
                      refine w_virt (ci := 8) (i := 81) (npc := 120) (a := [cr 81, ai_i c]) (rest := []) rfl rfl (hI751.pl (by decide)) (hI751.T (by decide) rfl) rfl rfl rfl rfl (ct_m_keyAhead (sl := sl) (x := x) (d := d + 6) (c) hI751 (by omega)) (Or.inl rfl) (fun k9 v9 T9 E759 nx9 kc9 ks9 hq758 hk9 hs9 => ?_)
                      obtain ⟨rfl, rfl, rfl, rfl, z760, rfl, hz760⟩ := hq758
                      obtain rfl : kc = kc9 := by omega
                      obtain rfl : ks = ks9 := by omega
                      refine Or.inr (Or.inl ⟨rfl, ?_⟩)
                      refine w_istore (i := 6) (npc := 122) (loc' := [cr 81, ai_i p, ai_i f, ai_i t, ai_i c, ai_i 1, ai_i z760, ai_un, ai_un, ai_un]) rfl rfl ?_
                      refine w_aload (i := 0) (npc := 123) rfl rfl rfl ?_
                      refine w_iload (i := 4) (npc := 125) rfl rfl ?_
                      refine w_virt (ci := 8) (i := 81) (npc := 128) (a := [cr 81, ai_i c]) (rest := []) rfl rfl (hI751.pl (by decide)) (hI751.T (by decide) rfl) rfl rfl rfl rfl (ct_m_keyBehind (sl := sl) (x := x) (d := d + 5) (c) hI751 (by omega) hx755) (Or.inl rfl) (fun k9 v9 T9 E762 nx9 kc9 ks9 hq761 hk9 hs9 => ?_)
                      obtain ⟨rfl, rfl, rfl, rfl, z763, rfl, hz763⟩ := hq761
                      obtain rfl : kc = kc9 := by omega
                      obtain rfl : ks = ks9 := by omega
                      refine Or.inr (Or.inl ⟨rfl, ?_⟩)
                      refine w_istore (i := 7) (npc := 130) (loc' := [cr 81, ai_i p, ai_i f, ai_i t, ai_i c, ai_i 1, ai_i z760, ai_i z763, ai_un, ai_un]) rfl rfl ?_
                      refine w_const (n := 0) (npc := 131) rfl ?_
                      refine w_istore (i := 8) (npc := 133) (loc' := [cr 81, ai_i p, ai_i f, ai_i t, ai_i c, ai_i 1, ai_i z760, ai_i z763, ai_i 0, ai_un]) rfl rfl ?_
                      have loop133 : ∀ (nf : Nat) (a : Int) (i : Int) (u133_9 : ai_V) (Eq133 : cm_E), ((t - f + 1 - i).toNat) < nf → cs_I T Eq133 nx → cm_fr (fun i k => (i = 81 ∧ (k = 0 ∨ k = 12 ∨ k = 13)) ∨ i = 82 ∨ i = 83 ∨ i = 84 ∨ i = 85 ∨ i = 86 ∨ i = 87 ∨ i = 88 ∨ i = 89 ∨ i = 90 ∨ i = 91) E Eq133 → rl Eq133 → (0 ≤ i ∧ i ≤ t - f + 1 ∧ -1 ≤ a ∧ a ≤ 531341 ∧ gv Eq133 82 (166 * 3200 + 0 : Int).toNat = 3 ∧ gv Eq133 82 (166 * 3200 + 1 : Int).toNat = p ∧ gv Eq133 82 (166 * 3200 + 2 : Int).toNat = gv Eq133 83 (5 * p + p).toNat + 1 ∧ (0 ≤ gv Eq133 83 (5 * p + p).toNat ∧ gv Eq133 83 (5 * p + p).toNat ≤ 59) ∧ gv Eq133 82 (166 * 3200 + 8 : Int).toNat ≤ 65535 ∧ gv Eq133 82 (166 * 3200 + 9 : Int).toNat ≤ 6 ∧ (∀ j : Int, 0 ≤ j → j < 6 → gv Eq133 82 (166 * 3200 + 10 + 26 * j + 1).toNat ≤ 24)) → cm_wp (ai_find ai_c186 sl) (ai_ev sl (d + 7)) x (kc + 0) (ks + 0) (fun rk rv T' E' nx' => rk = 1 ∧ T = T' ∧ nx = nx' ∧ cs_I T E' nx ∧ cm_fr (fun i k => (i = 81 ∧ (k = 0 ∨ k = 12 ∨ k = 13)) ∨ i = 82 ∨ i = 83 ∨ i = 84 ∨ i = 85 ∨ i = 86 ∨ i = 87 ∨ i = 88 ∨ i = 89 ∨ i = 90 ∨ i = 91) E E' ∧ rl E' ∧ ∃ z : Int, rv = ai_i z ∧ (True)) 133 [cr 81, ai_i p, ai_i f, ai_i t, ai_i c, ai_i 1, ai_i a, ai_i z763, ai_i i, u133_9] [] T Eq133 nx kc ks := by
                        intro nf
                        induction nf with
                        | zero => intro a i u133_9 Eq133 hm; exact absurd hm (Nat.not_lt_zero _)
                        | succ nf133 ih =>
                          intro a i u133_9 Eq133 hm133 hI133 hF133 hR133 hv133
                          obtain ⟨z764, hz764, hz764a, hz764b⟩ := hI133.int 81 13 (lo := 0) (hi := 300) (by decide) (by decide) rfl
                          have ghz764 := gv_eq hz764
                          have ih133 := ih; clear ih
                          refine w_iload (i := 8) (npc := 135) rfl rfl ?_
                          refine w_iload (i := 3) (npc := 136) rfl rfl ?_
                          refine w_iload (i := 2) (npc := 137) rfl rfl ?_
                          refine w_isub (npc := 138) rfl (by omega) ?_
                          refine w_icmp (c := .gt) (npc := 141) (pt := 211) rfl (fun hc766 => ?_) (fun hc766 => ?_)
                          · replace hc766 : t - f < i := hc766
                            refine w_aload (i := 0) (npc := 212) rfl rfl rfl ?_
                            refine w_iload (i := 1) (npc := 213) rfl rfl ?_
                            refine w_virt (ci := 8) (i := 81) (npc := 216) (a := [cr 81, ai_i p]) (rest := []) rfl rfl (hI133.pl (by decide)) (hI133.T (by decide) rfl) rfl rfl rfl rfl (ct_m_endStep (sl := sl) (x := x) (d := d + 2) (p) hI133  hR133 (by omega) (hand_ok (E := Eq133) (a := 3) (p := p) (m := gv Eq133 83 (5 * p + p).toNat) hv133.2.2.2.2.1 hv133.2.2.2.2.2.1 hv133.2.2.2.2.2.2.1 hv133.2.2.2.2.2.2.2.2.1 (by omega) (by omega) (by omega) (by have hl9 := gv_fr hF133 (i := 81) (k := 1) (by simp); omega) (fun q => by omega) (fun q => by omega) (fun _ => ⟨by omega, hv133.2.2.2.2.2.2.2.2.2.2⟩)).1 (hand_ok (E := Eq133) (a := 3) (p := p) (m := gv Eq133 83 (5 * p + p).toNat) hv133.2.2.2.2.1 hv133.2.2.2.2.2.1 hv133.2.2.2.2.2.2.1 hv133.2.2.2.2.2.2.2.2.1 (by omega) (by omega) (by omega) (by have hl9 := gv_fr hF133 (i := 81) (k := 1) (by simp); omega) (fun q => by omega) (fun q => by omega) (fun _ => ⟨by omega, hv133.2.2.2.2.2.2.2.2.2.2⟩)).2 hv133.2.2.2.2.2.1 (by omega)) (Or.inl rfl) (fun k9 v9 T9 E768 nx9 kc9 ks9 hq767 hk9 hs9 => ?_)
                            obtain ⟨rfl, rfl, rfl, hI770, hG771, hR772, z769, rfl, hz769⟩ := hq767
                            obtain rfl : kc = kc9 := by omega
                            obtain rfl : ks = ks9 := by omega
                            have hF773 := cm_fr.trans hF133 hG771 (by first | (simp; done) | (simp; omega) | (intro i k h; (try simp only at h); (try simp only); omega))
                            have hz774 : E768 81 13 = ai_i z764 := (hG771 81 13 (by simp)).trans hz764
                            have ghz774 := gv_eq hz774
                            refine Or.inr (Or.inl ⟨rfl, ?_⟩)
                            exact w_iret rfl (⟨rfl, rfl, rfl, hI770, hF773, hR772, z769, rfl, trivial⟩) (by omega) (by omega)
                          · replace hc766 : ¬ (t - f < i) := hc766
                            refine w_const (n := 10) (npc := 143) rfl ?_
                            refine w_const (n := 26) (npc := 145) rfl ?_
                            refine w_iload (i := 8) (npc := 147) rfl rfl ?_
                            refine w_imul (npc := 148) rfl (by omega) ?_
                            refine w_iadd (npc := 149) rfl (by omega) ?_
                            refine w_istore (i := 9) (npc := 151) (loc' := [cr 81, ai_i p, ai_i f, ai_i t, ai_i c, ai_i 1, ai_i a, ai_i z763, ai_i i, ai_i (10 + (26 * i))]) rfl rfl ?_
                            refine w_aload (i := 0) (npc := 152) rfl rfl rfl ?_
                            refine w_const (n := 3200) (npc := 155) rfl ?_
                            refine w_iload (i := 9) (npc := 157) rfl rfl ?_
                            refine w_aload (i := 0) (npc := 158) rfl rfl rfl ?_
                            refine w_getf (i := 81) (ci := 8) (k := 11) (npc := 161) rfl (hI133.pl (by decide)) (hI133.T (by decide) rfl) (by decide) (hI133.ref 81 11 (p := 91) (by decide) (by decide) rfl) ?_
                            refine w_iload (i := 2) (npc := 162) rfl rfl ?_
                            refine w_iload (i := 8) (npc := 164) rfl rfl ?_
                            refine w_iadd (npc := 165) rfl (by omega) ?_
                            obtain ⟨z778, hz778, hz778a, hz778b⟩ := hI133.int 91 (f + i : Int).toNat (lo := 0) (hi := 299) (by decide) (show (f + i : Int).toNat < 300 by omega) rfl
                            have ghz778 := gv_eq hz778
                            refine w_ald (i := 91) (t := 1) (n := 300) (npc := 166) rfl (hI133.pl (by decide)) (hI133.T (by decide) rfl) (by decide) rfl (by omega) hz778 ?_
                            refine w_call (npc := 169) (a := [ai_i z778]) (rest := [ai_i (10 + (26 * i)), ai_i 3200, cr 81]) rfl rfl rfl rfl rfl (ct_m_nameOf (sl := sl) (x := x) (d := d + 6) (z778) (by omega)) (Or.inr (fun _ _ _ _ _ hq => by have h1 := hq.1; omega)) (fun k9 v9 T9 E780 nx9 kc9 ks9 hq779 hk9 hs9 => ?_)
                            obtain ⟨rfl, rfl, rfl, rfl, z781, rfl, hz781⟩ := hq779
                            obtain rfl : kc = kc9 := by omega
                            obtain rfl : ks = ks9 := by omega
                            refine Or.inr (Or.inl ⟨rfl, ?_⟩)
                            refine w_virt (ci := 8) (i := 81) (npc := 172) (a := [cr 81, ai_i 3200, ai_i (10 + (26 * i)), ai_i z781]) (rest := []) rfl rfl (hI133.pl (by decide)) (hI133.T (by decide) rfl) rfl rfl rfl rfl (ct_m_put (sl := sl) (x := x) (d := d + 6) (3200) (10 + (26 * i)) (z781) hI133 (by omega) (by omega) (by omega)) (Or.inl rfl) (fun k9 v9 T9 E783 nx9 kc9 ks9 hq782 hk9 hs9 => ?_)
                            obtain ⟨rfl, rfl, rfl, hI785, hG786, hz784⟩ := hq782
                            obtain rfl : kc = kc9 := by omega
                            obtain rfl : ks = ks9 := by omega
                            have hF787 := cm_fr.trans hF133 hG786 (by first | (simp; done) | (simp; omega) | (intro i k h; (try simp only at h); (try simp only); omega))
                            have hR788 := rl.fr hR133 hG786 (by intro i k h; (try simp only at h); omega)
                            have hz789 : E783 81 13 = ai_i z764 := (hG786 81 13 (by simp)).trans hz764
                            have ghz789 := gv_eq hz789
                            refine Or.inl ⟨rfl, ?_⟩
                            refine w_aload (i := 0) (npc := 173) rfl rfl rfl ?_
                            refine w_iload (i := 6) (npc := 175) rfl rfl ?_
                            refine w_iload (i := 7) (npc := 177) rfl rfl ?_
                            refine w_iload (i := 1) (npc := 178) rfl rfl ?_
                            refine w_const (n := 531200) (npc := 180) rfl ?_
                            refine w_iload (i := 9) (npc := 182) rfl rfl ?_
                            refine w_iadd (npc := 183) rfl (by omega) ?_
                            refine w_const (n := 1) (npc := 184) rfl ?_
                            refine w_iadd (npc := 185) rfl (by omega) ?_
                            refine w_virt (ci := 8) (i := 81) (npc := 188) (a := [cr 81, ai_i a, ai_i z763, ai_i p, ai_i (531200 + (10 + (26 * i)) + 1)]) (rest := []) rfl rfl (hI785.pl (by decide)) (hI785.T (by decide) rfl) rfl rfl rfl rfl (ct_m_newKey (sl := sl) (x := x) (d := d + 6) (a) (z763) (p) (531200 + (10 + (26 * i)) + 1) hI785 (by omega) (by omega) (by omega) (by omega)) (Or.inl rfl) (fun k9 v9 T9 E793 nx9 kc9 ks9 hq792 hk9 hs9 => ?_)
                            obtain ⟨rfl, rfl, rfl, hI795, hG796, z794, rfl, hz794⟩ := hq792
                            obtain rfl : kc = kc9 := by omega
                            obtain rfl : ks = ks9 := by omega
                            have hF797 := cm_fr.trans hF787 hG796 (by first | (simp; done) | (simp; omega) | (intro i k h; (try simp only at h); (try simp only); omega))
                            have hR798 := rl.fr hR788 hG796 (by intro i k h; (try simp only at h); omega)
                            have hz799 : E793 81 13 = ai_i z764 := (hG796 81 13 (by simp)).trans hz789
                            have ghz799 := gv_eq hz799
                            refine Or.inr (Or.inl ⟨rfl, ?_⟩)
                            refine w_if (c := .ne) (npc := 191) (pt := 196) rfl (fun hc800 => ?_) (fun hc800 => ?_)
                            · replace hc800 : z794 ≠ (0 : Int) := hc800
                              refine w_const (n := 531200) (npc := 198) rfl ?_
                              refine w_iload (i := 9) (npc := 200) rfl rfl ?_
                              refine w_iadd (npc := 201) rfl (by omega) ?_
                              refine w_const (n := 1) (npc := 202) rfl ?_
                              refine w_iadd (npc := 203) rfl (by omega) ?_
                              refine w_istore (i := 6) (npc := 205) (loc' := [cr 81, ai_i p, ai_i f, ai_i t, ai_i c, ai_i 1, ai_i (531200 + (10 + (26 * i)) + 1), ai_i z763, ai_i i, ai_i (10 + (26 * i))]) rfl rfl ?_
                              refine w_iinc (i := 8) (n := 1) (npc := 208) (loc' := [cr 81, ai_i p, ai_i f, ai_i t, ai_i c, ai_i 1, ai_i (531200 + (10 + (26 * i)) + 1), ai_i z763, ai_i (i + 1), ai_i (10 + (26 * i))]) rfl rfl (by omega) rfl ?_
                              refine w_goto (pt := 133) rfl ?_
                              exact ih133 (531200 + (10 + (26 * i)) + 1) (i + 1) (ai_i (10 + (26 * i))) E793 (by omega) hI795 hF797 hR798 (by
      obtain ⟨d1, d2, d3, d4, d5, d6, d7, d8, d9, d10, d11⟩ := hv133
      have y0_0 := gv_fr hG786 (i := 83) (k := (5 * p + p).toNat) (by first | (simp; done) | omega | (simp only; omega) | (simp; omega))
      have y0_1 := gv_fr hG786 (i := 82) (k := (166 * 3200 + 0 : Int).toNat) (by first | (simp; done) | omega | (simp only; omega) | (simp; omega))
      have y0_2 := gv_fr hG786 (i := 82) (k := (166 * 3200 + 1 : Int).toNat) (by first | (simp; done) | omega | (simp only; omega) | (simp; omega))
      have y0_3 := gv_fr hG786 (i := 82) (k := (166 * 3200 + 2 : Int).toNat) (by first | (simp; done) | omega | (simp only; omega) | (simp; omega))
      have y0_4 := gv_fr hG786 (i := 82) (k := (166 * 3200 + 8 : Int).toNat) (by first | (simp; done) | omega | (simp only; omega) | (simp; omega))
      have y0_5 := gv_fr hG786 (i := 82) (k := (166 * 3200 + 9 : Int).toNat) (by first | (simp; done) | omega | (simp only; omega) | (simp; omega))
      have y1_0 := gv_fr hG796 (i := 83) (k := (5 * p + p).toNat) (by first | (simp; done) | omega | (simp only; omega) | (simp; omega))
      have y1_1 := gv_fr hG796 (i := 82) (k := (166 * 3200 + 0 : Int).toNat) (by first | (simp; done) | omega | (simp only; omega) | (simp; omega))
      have y1_2 := gv_fr hG796 (i := 82) (k := (166 * 3200 + 1 : Int).toNat) (by first | (simp; done) | omega | (simp only; omega) | (simp; omega))
      have y1_3 := gv_fr hG796 (i := 82) (k := (166 * 3200 + 2 : Int).toNat) (by first | (simp; done) | omega | (simp only; omega) | (simp; omega))
      have y1_4 := gv_fr hG796 (i := 82) (k := (166 * 3200 + 8 : Int).toNat) (by first | (simp; done) | omega | (simp only; omega) | (simp; omega))
      have y1_5 := gv_fr hG796 (i := 82) (k := (166 * 3200 + 9 : Int).toNat) (by first | (simp; done) | omega | (simp only; omega) | (simp; omega))
      refine ⟨by omega, by omega, by omega, by omega, by omega, by omega, by omega, by omega, by omega, by omega, fun j j0 j1 => ?_⟩
      by_cases hj : j = i
      · rw [hj]
        have q := hz794.2.2
        rw [show 531200 + (10 + 26 * i) + 1 = 166 * 3200 + 10 + 26 * i + 1 by omega] at q
        exact q
      · rw [← gv_fr hG796 (by first | omega | (simp only; omega)), ← gv_fr hG786 (by first | omega | (simp only; omega))]; exact d11 j j0 j1)
                            · replace hc800 : ¬ (z794 ≠ (0 : Int)) := hc800
                              refine w_aload (i := 0) (npc := 192) rfl rfl rfl ?_
                              refine w_virt (ci := 8) (i := 81) (npc := 195) (a := [cr 81]) (rest := []) rfl rfl (hI795.pl (by decide)) (hI795.T (by decide) rfl) rfl rfl rfl rfl (ct_m_refuse (sl := sl) (x := x) (d := d + 6)  hI795) (Or.inl rfl) (fun k9 v9 T9 E805 nx9 kc9 ks9 hq804 hk9 hs9 => ?_)
                              obtain ⟨rfl, rfl, rfl, hI807, hG808, z806, rfl, hz806⟩ := hq804
                              obtain rfl : kc = kc9 := by omega
                              obtain rfl : ks = ks9 := by omega
                              have hF809 := cm_fr.trans hF797 hG808 (by first | (simp; done) | (simp; omega) | (intro i k h; (try simp only at h); (try simp only); omega))
                              have hR810 := rl.fr hR798 hG808 (by intro i k h; (try simp only at h); omega)
                              have hz811 : E805 81 13 = ai_i z764 := (hG808 81 13 (by simp)).trans hz799
                              have ghz811 := gv_eq hz811
                              refine Or.inr (Or.inl ⟨rfl, ?_⟩)
                              exact w_iret rfl (⟨rfl, rfl, rfl, hI807, hF809, hR810, z806, rfl, trivial⟩) (by omega) (by omega)
                      exact loop133 _ (z760) (0) (ai_un) E749 (Nat.lt_succ_self _) hI751 hF753 hR754 (by
      have q8 := hz737.2.2.2.2.2.2 (by omega)
      have q0 := hz737.1
      have q1 := hz737.2.1
      have q2 := hz737.2.2.1
      have q9 := hz750
      have y0_0 := gv_fr hG739 (i := 83) (k := (5 * p + p).toNat) (by first | (simp; done) | omega | (simp only; omega) | (simp; omega))
      have x0_0 := gv_fr hG752 (i := 83) (k := (5 * p + p).toNat) (by first | (simp; done) | omega | (simp only; omega) | (simp; omega))
      have x0_1 := gv_fr hG752 (i := 82) (k := (166 * 3200 + 0 : Int).toNat) (by first | (simp; done) | omega | (simp only; omega) | (simp; omega))
      have x0_2 := gv_fr hG752 (i := 82) (k := (166 * 3200 + 1 : Int).toNat) (by first | (simp; done) | omega | (simp only; omega) | (simp; omega))
      have x0_3 := gv_fr hG752 (i := 82) (k := (166 * 3200 + 2 : Int).toNat) (by first | (simp; done) | omega | (simp only; omega) | (simp; omega))
      have x0_4 := gv_fr hG752 (i := 82) (k := (166 * 3200 + 8 : Int).toNat) (by first | (simp; done) | omega | (simp only; omega) | (simp; omega))
      refine ⟨by omega, by omega, by omega, by omega, by omega, by omega, by omega, by omega, by omega, by omega, fun j j0 j1 => ?_⟩
      rw [← gv_fr hG752 (by first | omega | (simp only; omega))]
      have q7 := hz737.2.2.2.1 (10 + 26 * j + 1) (by omega) (by omega)
      rw [show 166 * 3200 + (10 + 26 * j + 1) = 166 * 3200 + 10 + 26 * j + 1 by omega] at q7
      omega)
                    · replace hc745 : ¬ (z737 ≠ (0 : Int)) := hc745
                      refine w_aload (i := 0) (npc := 96) rfl rfl rfl ?_
                      refine w_virt (ci := 8) (i := 81) (npc := 99) (a := [cr 81]) (rest := []) rfl rfl (hI738.pl (by decide)) (hI738.T (by decide) rfl) rfl rfl rfl rfl (ct_m_refuse (sl := sl) (x := x) (d := d + 6)  hI738) (Or.inl rfl) (fun k9 v9 T9 E813 nx9 kc9 ks9 hq812 hk9 hs9 => ?_)
                      obtain ⟨rfl, rfl, rfl, hI815, hG816, z814, rfl, hz814⟩ := hq812
                      obtain rfl : kc = kc9 := by omega
                      obtain rfl : ks = ks9 := by omega
                      have hF817 := cm_fr.trans hF741 hG816 (by first | (simp; done) | (simp; omega) | (intro i k h; (try simp only at h); (try simp only); omega))
                      have hR818 := rl.fr hR740 hG816 (by intro i k h; (try simp only at h); omega)
                      have hx819 := tx.fr hx742 hG816 (by intro i k h; (try simp only at h); omega)
                      have hz820 : E813 81 0 = ai_i 0 := (hG816 81 0 (by simp)).trans hz743
                      have ghz820 := gv_eq hz820
                      have hz821 : E813 81 13 = ai_i z224 := (hG816 81 13 (by simp)).trans hz744
                      have ghz821 := gv_eq hz821
                      refine Or.inr (Or.inl ⟨rfl, ?_⟩)
                      exact w_iret rfl (⟨rfl, rfl, rfl, hI815, hF817, hR818, z814, rfl, trivial⟩) (by omega) (by omega)
  · replace hc12 : ¬ (z10 ≠ (0 : Int)) := hc12
    refine w_aload (i := 0) (npc := 14) rfl rfl rfl ?_
    refine w_const (n := 1) (npc := 15) rfl ?_
    refine w_virt (ci := 8) (i := 81) (npc := 18) (a := [cr 81, ai_i 1]) (rest := []) rfl rfl (hI2.pl (by decide)) (hI2.T (by decide) rfl) rfl rfl rfl rfl (ct_m_fail (sl := sl) (x := x) (d := d + 6) (1) hI2 (by omega)) (Or.inl rfl) (fun k9 v9 T9 E823 nx9 kc9 ks9 hq822 hk9 hs9 => ?_)
    obtain ⟨rfl, rfl, rfl, hI825, hG826, z824, rfl, hz824⟩ := hq822
    obtain rfl : kc = kc9 := by omega
    obtain rfl : ks = ks9 := by omega
    have hF827 := cm_fr.trans hF4 hG826 (by first | (simp; done) | (simp; omega) | (intro i k h; (try simp only at h); (try simp only); omega))
    have hR828 := rl.fr hR5 hG826 (by intro i k h; (try simp only at h); omega)
    have hz829 : E823 81 13 = ai_i z7 := (hG826 81 13 (by simp)).trans hz7
    have ghz829 := gv_eq hz829
    refine Or.inr (Or.inl ⟨rfl, ?_⟩)
    exact w_iret rfl (⟨rfl, rfl, rfl, hI825, hF827, hR828, z824, rfl, trivial⟩) (by omega) (by omega)
