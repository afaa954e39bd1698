set_option maxRecDepth 16384 in
theorem ct_m_readByte2 {sl : Int × Int} {x : ai_E} {d : Nat} {T : cm_T} {E : cm_E} {nx : Nat} (a b : Int) (hI : cs_I T E nx) : cm_ct (ai_ev sl (d + 2)) x 196 [cr 81, ai_i a, ai_i b] T E nx 0 0 (fun rk rv T' E' nx' => rk = 1 ∧ T = T' ∧ nx = nx' ∧ cs_I T E' nx ∧ cm_fr (fun i k => (i = 81 ∧ (k = 19 ∨ k = 21 ∨ k = 22))) E E' ∧ ∃ z : Int, rv = ai_i z ∧ (0 ≤ z ∧ z ≤ 255 ∧ (gv E' 81 21 = 0 → gv E 81 21 = 0 ∧ a ≤ z ∧ z ≤ b ∧ gv E' 81 19 = gv E 81 19 + 1))) := by
  refine cm_body (M := ai_m196) rfl rfl (fun kc ks => ?_)
  show cm_wp (ai_find ai_c196 sl) (ai_ev sl (d + 1)) x (kc + 0) (ks + 0) _ 0 [cr 81, ai_i a, ai_i b, ai_un] [] T E nx kc ks
  have hF : cm_fr (fun i k => (i = 81 ∧ (k = 19 ∨ k = 21 ∨ k = 22))) E E := fun _ _ _ => rfl
  refine w_aload (i := 0) (npc := 1) rfl rfl rfl ?_
  obtain ⟨z1, hz1, hz1a, hz1b⟩ := hI.int 81 21 (lo := 0) (hi := 3) (by decide) (by decide) rfl
  have ghz1 := gv_eq hz1
  refine w_getf (i := 81) (ci := 8) (k := 21) (npc := 4) rfl (hI.pl (by decide)) (hI.T (by decide) rfl) (by decide) hz1 ?_
  refine w_if (c := .eq) (npc := 7) (pt := 9) rfl (fun hc2 => ?_) (fun hc2 => ?_)
  · replace hc2 : z1 = (0 : Int) := hc2
    refine w_aload (i := 0) (npc := 10) rfl rfl rfl ?_
    obtain ⟨z3, hz3, hz3a, hz3b⟩ := hI.int 81 19 (lo := 0) (hi := 400) (by decide) (by decide) rfl
    have ghz3 := gv_eq hz3
    refine w_getf (i := 81) (ci := 8) (k := 19) (npc := 13) rfl (hI.pl (by decide)) (hI.T (by decide) rfl) (by decide) hz3 ?_
    refine w_aload (i := 0) (npc := 14) rfl rfl rfl ?_
    obtain ⟨z4, hz4, hz4a, hz4b⟩ := hI.int 81 20 (lo := 0) (hi := 400) (by decide) (by decide) rfl
    have ghz4 := gv_eq hz4
    refine w_getf (i := 81) (ci := 8) (k := 20) (npc := 17) rfl (hI.pl (by decide)) (hI.T (by decide) rfl) (by decide) hz4 ?_
    refine w_icmp (c := .lt) (npc := 20) (pt := 31) rfl (fun hc5 => ?_) (fun hc5 => ?_)
    · replace hc5 : z3 < z4 := hc5
      refine w_aload (i := 0) (npc := 32) rfl rfl rfl ?_
      refine w_getf (i := 81) (ci := 8) (k := 15) (npc := 35) rfl (hI.pl (by decide)) (hI.T (by decide) rfl) (by decide) (hI.ref 81 15 (p := 93) (by decide) (by decide) rfl) ?_
      refine w_aload (i := 0) (npc := 36) rfl rfl rfl ?_
      refine w_getf (i := 81) (ci := 8) (k := 19) (npc := 39) rfl (hI.pl (by decide)) (hI.T (by decide) rfl) (by decide) hz3 ?_
      obtain ⟨z6, hz6, hz6a, hz6b⟩ := hI.int 93 (z3 : Int).toNat (lo := 0) (hi := 255) (by decide) (show (z3 : Int).toNat < 400 by omega) rfl
      have ghz6 := gv_eq hz6
      refine w_ald (i := 93) (t := 1) (n := 400) (npc := 40) rfl (hI.pl (by decide)) (hI.T (by decide) rfl) (by decide) rfl (by omega) hz6 ?_
      refine w_istore (i := 3) (npc := 41) (loc' := [cr 81, ai_i a, ai_i b, ai_i z6]) rfl rfl ?_
      refine w_iload (i := 3) (npc := 42) rfl rfl ?_
      refine w_iload (i := 1) (npc := 43) rfl rfl ?_
      refine w_iload (i := 2) (npc := 44) rfl rfl ?_
      refine w_call (npc := 47) (a := [ai_i z6, ai_i a, ai_i b]) (rest := []) rfl rfl rfl rfl rfl (ct_m_isIn (sl := sl) (x := x) (d := d + 0) (z6) (a) (b)) (Or.inr (fun _ _ _ _ _ hq => by have h1 := hq.1; omega)) (fun k9 v9 T9 E8 nx9 kc9 ks9 hq7 hk9 hs9 => ?_)
      obtain ⟨rfl, rfl, rfl, rfl, z9, rfl, hz9⟩ := hq7
      obtain rfl : kc = kc9 := by omega
      obtain rfl : ks = ks9 := by omega
      refine Or.inr (Or.inl ⟨rfl, ?_⟩)
      refine w_if (c := .ne) (npc := 50) (pt := 59) rfl (fun hc10 => ?_) (fun hc10 => ?_)
      · replace hc10 : z9 ≠ (0 : Int) := hc10
        refine w_aload (i := 0) (npc := 60) rfl rfl rfl ?_
        refine w_dup (npc := 61) rfl rfl ?_
        refine w_getf (i := 81) (ci := 8) (k := 19) (npc := 64) rfl (hI.pl (by decide)) (hI.T (by decide) rfl) (by decide) hz3 ?_
        refine w_const (n := 1) (npc := 65) rfl ?_
        refine w_iadd (npc := 66) rfl (by omega) ?_
        refine w_putf (i := 81) (ci := 8) (k := 19) (t := 0) (npc := 69) rfl (hI.pl (by decide)) (hI.T (by decide) rfl) (by decide) cm_fit0 ?_
        have hI13 := hI.puti (i := 81) (k := 19) (z := z3 + 1) (lo := 0) (hi := 400) (by decide) rfl (by omega)
        have hF15 := cm_fr.up (i := 81) (k := 19) (v := ai_i (z3 + 1)) hF (by first | (simp; done) | (simp; omega) | (intro i k h; (try simp only at h); (try simp only); omega))
        generalize hE14 : cm_up E 81 19 (ai_i (z3 + 1)) = E12 at hI13 hF15   ⊢
        have hz16 : E12 81 21 = ai_i z1 := by rw [← hE14, cm_up_ne _ _ (by decide)]; exact hz1
        have ghz16 := gv_eq hz16
        have hz17 : E12 81 20 = ai_i z4 := by rw [← hE14, cm_up_ne _ _ (by decide)]; exact hz4
        have ghz17 := gv_eq hz17
        have hz18 : E12 93 (z3 : Int).toNat = ai_i z6 := by rw [← hE14, cm_up_nei _ _ (by decide)]; exact hz6
        have ghz18 := gv_eq hz18
        have hz19 : E12 81 19 = ai_i (z3 + 1) := by rw [← hE14, cm_up_eq]
        have ghz19 := gv_eq hz19
        refine w_iload (i := 3) (npc := 70) rfl rfl ?_
        exact w_iret rfl (⟨rfl, rfl, rfl, hI13, hF15, z6, rfl, by omega⟩) (by omega) (by omega)
      · replace hc10 : ¬ (z9 ≠ (0 : Int)) := hc10
        refine w_aload (i := 0) (npc := 51) rfl rfl rfl ?_
        refine w_const (n := 2) (npc := 52) rfl ?_
        refine w_aload (i := 0) (npc := 53) rfl rfl rfl ?_
        refine w_getf (i := 81) (ci := 8) (k := 19) (npc := 56) rfl (hI.pl (by decide)) (hI.T (by decide) rfl) (by decide) hz3 ?_
        refine w_virt (ci := 8) (i := 81) (npc := 59) (a := [cr 81, ai_i 2, ai_i z3]) (rest := []) rfl rfl (hI.pl (by decide)) (hI.T (by decide) rfl) rfl rfl rfl rfl (ct_m_wrong (sl := sl) (x := x) (d := d + 0) (2) (z3) hI (by omega) (by omega)) (Or.inl rfl) (fun k9 v9 T9 E21 nx9 kc9 ks9 hq20 hk9 hs9 => ?_)
        obtain ⟨rfl, rfl, rfl, hI23, hG24, hz22⟩ := hq20
        obtain rfl : kc = kc9 := by omega
        obtain rfl : ks = ks9 := by omega
        have hF25 := cm_fr.trans hF hG24 (by first | (simp; done) | (simp; omega) | (intro i k h; (try simp only at h); (try simp only); omega))
        have hz26 : E21 81 19 = ai_i z3 := (hG24 81 19 (by simp)).trans hz3
        have ghz26 := gv_eq hz26
        have hz27 : E21 81 20 = ai_i z4 := (hG24 81 20 (by simp)).trans hz4
        have ghz27 := gv_eq hz27
        refine Or.inl ⟨rfl, ?_⟩
        obtain ⟨z28, hz28, hz28a, hz28b⟩ := hI23.int 81 21 (lo := 0) (hi := 3) (by decide) (by decide) rfl
        have ghz28 := gv_eq hz28
        refine w_aload (i := 0) (npc := 60) rfl rfl rfl ?_
        refine w_dup (npc := 61) rfl rfl ?_
        refine w_getf (i := 81) (ci := 8) (k := 19) (npc := 64) rfl (hI23.pl (by decide)) (hI23.T (by decide) rfl) (by decide) hz26 ?_
        refine w_const (n := 1) (npc := 65) rfl ?_
        refine w_iadd (npc := 66) rfl (by omega) ?_
        refine w_putf (i := 81) (ci := 8) (k := 19) (t := 0) (npc := 69) rfl (hI23.pl (by decide)) (hI23.T (by decide) rfl) (by decide) cm_fit0 ?_
        have hI31 := hI23.puti (i := 81) (k := 19) (z := z3 + 1) (lo := 0) (hi := 400) (by decide) rfl (by omega)
        have hF33 := cm_fr.up (i := 81) (k := 19) (v := ai_i (z3 + 1)) hF25 (by first | (simp; done) | (simp; omega) | (intro i k h; (try simp only at h); (try simp only); omega))
        generalize hE32 : cm_up E21 81 19 (ai_i (z3 + 1)) = E30 at hI31 hF33   ⊢
        have hz34 : E30 81 20 = ai_i z4 := by rw [← hE32, cm_up_ne _ _ (by decide)]; exact hz27
        have ghz34 := gv_eq hz34
        have hz35 : E30 81 21 = ai_i z28 := by rw [← hE32, cm_up_ne _ _ (by decide)]; exact hz28
        have ghz35 := gv_eq hz35
        have hz36 : E30 81 19 = ai_i (z3 + 1) := by rw [← hE32, cm_up_eq]
        have ghz36 := gv_eq hz36
        refine w_iload (i := 3) (npc := 70) rfl rfl ?_
        exact w_iret rfl (⟨rfl, rfl, rfl, hI31, hF33, z6, rfl, by omega⟩) (by omega) (by omega)
    · replace hc5 : ¬ (z3 < z4) := hc5
      refine w_aload (i := 0) (npc := 21) rfl rfl rfl ?_
      refine w_const (n := 1) (npc := 22) rfl ?_
      refine w_aload (i := 0) (npc := 23) rfl rfl rfl ?_
      refine w_getf (i := 81) (ci := 8) (k := 20) (npc := 26) rfl (hI.pl (by decide)) (hI.T (by decide) rfl) (by decide) hz4 ?_
      refine w_virt (ci := 8) (i := 81) (npc := 29) (a := [cr 81, ai_i 1, ai_i z4]) (rest := []) rfl rfl (hI.pl (by decide)) (hI.T (by decide) rfl) rfl rfl rfl rfl (ct_m_wrong (sl := sl) (x := x) (d := d + 0) (1) (z4) hI (by omega) (by omega)) (Or.inl rfl) (fun k9 v9 T9 E38 nx9 kc9 ks9 hq37 hk9 hs9 => ?_)
      obtain ⟨rfl, rfl, rfl, hI40, hG41, hz39⟩ := hq37
      obtain rfl : kc = kc9 := by omega
      obtain rfl : ks = ks9 := by omega
      have hF42 := cm_fr.trans hF hG41 (by first | (simp; done) | (simp; omega) | (intro i k h; (try simp only at h); (try simp only); omega))
      have hz43 : E38 81 19 = ai_i z3 := (hG41 81 19 (by simp)).trans hz3
      have ghz43 := gv_eq hz43
      have hz44 : E38 81 20 = ai_i z4 := (hG41 81 20 (by simp)).trans hz4
      have ghz44 := gv_eq hz44
      refine Or.inl ⟨rfl, ?_⟩
      refine w_const (n := 0) (npc := 30) rfl ?_
      exact w_iret rfl (⟨rfl, rfl, rfl, hI40, hF42, 0, rfl, by omega⟩) (by omega) (by omega)
  · replace hc2 : ¬ (z1 = (0 : Int)) := hc2
    refine w_const (n := 0) (npc := 8) rfl ?_
    exact w_iret rfl (⟨rfl, rfl, rfl, hI, hF, 0, rfl, by omega⟩) (by omega) (by omega)
set_option maxRecDepth 16384 in
theorem ct_m_readMoves {sl : Int × Int} {x : ai_E} {d : Nat} {T : cm_T} {E : cm_E} {nx : Nat}  (hI : cs_I T E nx) (hp0 : ∀ k : Int, 9 ≤ k → k < 166 → gv E 82 (166 * 3200 + k).toNat = 0) : cm_ct (ai_ev sl (d + 5)) x 199 [cr 81] T E nx 0 0 (fun rk rv T' E' nx' => rk = 0 ∧ T = T' ∧ nx = nx' ∧ cs_I T E' nx ∧ cm_fr (fun i k => (i = 81 ∧ (k = 19 ∨ k = 21 ∨ k = 22)) ∨ (i = 82 ∧ 531209 ≤ k)) E E' ∧ ((gv E' 81 21 = 0 → gv E 81 21 = 0 ∧ gv E' 82 (166 * 3200 + 9 : Int).toNat ≤ 6) ∧ (∀ j : Int, 0 ≤ j → j < 6 → gv E' 82 (166 * 3200 + 10 + 26 * j + 1).toNat ≤ 24))) := by
  refine cm_body (M := ai_m199) rfl rfl (fun kc ks => ?_)
  show cm_wp (ai_find ai_c199 sl) (ai_ev sl (d + 4)) x (kc + 0) (ks + 0) _ 0 [cr 81, ai_un, ai_un, ai_un, ai_un, ai_un] [] T E nx kc ks
  have hF : cm_fr (fun i k => (i = 81 ∧ (k = 19 ∨ k = 21 ∨ k = 22)) ∨ (i = 82 ∧ 531209 ≤ k)) E E := fun _ _ _ => rfl
  refine w_aload (i := 0) (npc := 1) rfl rfl rfl ?_
  refine w_const (n := 1) (npc := 2) rfl ?_
  refine w_const (n := 6) (npc := 4) rfl ?_
  obtain ⟨z1, hz1, hz1a, hz1b⟩ := hI.int 81 21 (lo := 0) (hi := 3) (by decide) (by decide) rfl
  have ghz1 := gv_eq hz1
  refine w_virt (ci := 8) (i := 81) (npc := 7) (a := [cr 81, ai_i 1, ai_i 6]) (rest := []) rfl rfl (hI.pl (by decide)) (hI.T (by decide) rfl) rfl rfl rfl rfl (ct_m_readByte (sl := sl) (x := x) (d := d + 2) (1) (6) hI) (Or.inl rfl) (fun k9 v9 T9 E3 nx9 kc9 ks9 hq2 hk9 hs9 => ?_)
  obtain ⟨rfl, rfl, rfl, hI5, hG6, z4, rfl, hz4⟩ := hq2
  obtain rfl : kc = kc9 := by omega
  obtain rfl : ks = ks9 := by omega
  have hF7 := cm_fr.trans hF hG6 (by first | (simp; done) | (simp; omega) | (intro i k h; (try simp only at h); (try simp only); omega))
  refine Or.inr (Or.inl ⟨rfl, ?_⟩)
  refine w_istore (i := 1) (npc := 8) (loc' := [cr 81, ai_i z4, ai_un, ai_un, ai_un, ai_un]) rfl rfl ?_
  refine w_aload (i := 0) (npc := 9) rfl rfl rfl ?_
  refine w_const (n := 3200) (npc := 12) rfl ?_
  refine w_const (n := 9) (npc := 14) rfl ?_
  refine w_iload (i := 1) (npc := 15) rfl rfl ?_
  obtain ⟨z8, hz8, hz8a, hz8b⟩ := hI5.int 81 21 (lo := 0) (hi := 3) (by decide) (by decide) rfl
  have ghz8 := gv_eq hz8
  refine w_virt (ci := 8) (i := 81) (npc := 18) (a := [cr 81, ai_i 3200, ai_i 9, ai_i z4]) (rest := []) rfl rfl (hI5.pl (by decide)) (hI5.T (by decide) rfl) rfl rfl rfl rfl (ct_m_put (sl := sl) (x := x) (d := d + 3) (3200) (9) (z4) hI5 (by omega) (by omega) (by omega)) (Or.inl rfl) (fun k9 v9 T9 E10 nx9 kc9 ks9 hq9 hk9 hs9 => ?_)
  obtain ⟨rfl, rfl, rfl, hI12, hG13, hz11⟩ := hq9
  obtain rfl : kc = kc9 := by omega
  obtain rfl : ks = ks9 := by omega
  have hF14 := cm_fr.trans hF7 hG13 (by first | (simp; done) | (simp; omega) | (intro i k h; (try simp only at h); (try simp only); omega))
  have hz15 : E10 81 21 = ai_i z8 := (hG13 81 21 (by simp)).trans hz8
  have ghz15 := gv_eq hz15
  refine Or.inl ⟨rfl, ?_⟩
  refine w_const (n := 0) (npc := 19) rfl ?_
  refine w_istore (i := 2) (npc := 20) (loc' := [cr 81, ai_i z4, ai_i 0, ai_un, ai_un, ai_un]) rfl rfl ?_
  have loop20 : ∀ (nf : Nat) (i : Int) (u20_3 : ai_V) (u20_4 : ai_V) (u20_5 : ai_V) (Eq20 : cm_E), ((6 - i).toNat) < nf → cs_I T Eq20 nx → cm_fr (fun i k => (i = 81 ∧ (k = 19 ∨ k = 21 ∨ k = 22)) ∨ (i = 82 ∧ 531209 ≤ k)) E Eq20 → (0 ≤ i ∧ i ≤ 6 ∧ gv Eq20 82 (166 * 3200 + 9 : Int).toNat = (z4) ∧ (gv Eq20 81 21 = 0 → (z4) ≤ 6 ∧ gv E 81 21 = 0) ∧ (∀ j : Int, 0 ≤ j → j < 6 → gv Eq20 82 (166 * 3200 + 10 + 26 * j + 1).toNat ≤ 24)) → cm_wp (ai_find ai_c199 sl) (ai_ev sl (d + 4)) x (kc + 0) (ks + 0) (fun rk rv T' E' nx' => rk = 0 ∧ T = T' ∧ nx = nx' ∧ cs_I T E' nx ∧ cm_fr (fun i k => (i = 81 ∧ (k = 19 ∨ k = 21 ∨ k = 22)) ∨ (i = 82 ∧ 531209 ≤ k)) E E' ∧ ((gv E' 81 21 = 0 → gv E 81 21 = 0 ∧ gv E' 82 (166 * 3200 + 9 : Int).toNat ≤ 6) ∧ (∀ j : Int, 0 ≤ j → j < 6 → gv E' 82 (166 * 3200 + 10 + 26 * j + 1).toNat ≤ 24))) 20 [cr 81, ai_i z4, ai_i i, u20_3, u20_4, u20_5] [] T Eq20 nx kc ks := by
    intro nf
    induction nf with
    | zero => intro i u20_3 u20_4 u20_5 Eq20 hm; exact absurd hm (Nat.not_lt_zero _)
    | succ nf20 ih =>
      intro i u20_3 u20_4 u20_5 Eq20 hm20 hI20 hF20 hv20
      obtain ⟨z16, hz16, hz16a, hz16b⟩ := hI20.int 81 21 (lo := 0) (hi := 3) (by decide) (by decide) rfl
      have ghz16 := gv_eq hz16
      have ih20 := ih; clear ih
      refine w_iload (i := 2) (npc := 21) rfl rfl ?_
      refine w_iload (i := 1) (npc := 22) rfl rfl ?_
      refine w_icmp (c := .ge) (npc := 25) (pt := 126) rfl (fun hc17 => ?_) (fun hc17 => ?_)
      · replace hc17 : z4 ≤ i := hc17
        exact w_vret rfl (⟨rfl, rfl, rfl, hI20, hF20, ⟨by omega, hv20.2.2.2.2⟩⟩) (by omega) (by omega)
      · replace hc17 : ¬ (z4 ≤ i) := hc17
        refine w_aload (i := 0) (npc := 26) rfl rfl rfl ?_
        refine w_getf (i := 81) (ci := 8) (k := 21) (npc := 29) rfl (hI20.pl (by decide)) (hI20.T (by decide) rfl) (by decide) hz16 ?_
        refine w_if (c := .ne) (npc := 32) (pt := 126) rfl (fun hc18 => ?_) (fun hc18 => ?_)
        · replace hc18 : z16 ≠ (0 : Int) := hc18
          exact w_vret rfl (⟨rfl, rfl, rfl, hI20, hF20, ⟨by omega, hv20.2.2.2.2⟩⟩) (by omega) (by omega)
        · replace hc18 : ¬ (z16 ≠ (0 : Int)) := hc18
          refine w_aload (i := 0) (npc := 33) rfl rfl rfl ?_
          obtain ⟨z19, hz19, hz19a, hz19b⟩ := hI20.int 81 19 (lo := 0) (hi := 400) (by decide) (by decide) rfl
          have ghz19 := gv_eq hz19
          refine w_getf (i := 81) (ci := 8) (k := 19) (npc := 36) rfl (hI20.pl (by decide)) (hI20.T (by decide) rfl) (by decide) hz19 ?_
          refine w_istore (i := 3) (npc := 37) (loc' := [cr 81, ai_i z4, ai_i i, ai_i z19, u20_4, u20_5]) rfl rfl ?_
          refine w_aload (i := 0) (npc := 38) rfl rfl rfl ?_
          refine w_virt (ci := 8) (i := 81) (npc := 41) (a := [cr 81]) (rest := []) rfl rfl (hI20.pl (by decide)) (hI20.T (by decide) rfl) rfl rfl rfl rfl (ct_m_readMark (sl := sl) (x := x) (d := d + 1)  hI20) (Or.inl rfl) (fun k9 v9 T9 E21 nx9 kc9 ks9 hq20 hk9 hs9 => ?_)
          obtain ⟨rfl, rfl, rfl, hI23, hG24, z22, rfl, hz22⟩ := hq20
          obtain rfl : kc = kc9 := by omega
          obtain rfl : ks = ks9 := by omega
          have hF25 := cm_fr.trans hF20 hG24 (by first | (simp; done) | (simp; omega) | (intro i k h; (try simp only at h); (try simp only); omega))
          refine Or.inr (Or.inl ⟨rfl, ?_⟩)
          refine w_istore (i := 4) (npc := 43) (loc' := [cr 81, ai_i z4, ai_i i, ai_i z19, ai_i z22, u20_5]) rfl rfl ?_
          refine w_const (n := 0) (npc := 44) rfl ?_
          refine w_istore (i := 5) (npc := 46) (loc' := [cr 81, ai_i z4, ai_i i, ai_i z19, ai_i z22, ai_i 0]) rfl rfl ?_
          have loop46 : ∀ (nf : Nat) (k : Int) (Eq46 : cm_E), ((i - k).toNat) < nf → cs_I T Eq46 nx → cm_fr (fun i k => (i = 81 ∧ (k = 19 ∨ k = 21 ∨ k = 22)) ∨ (i = 82 ∧ 531209 ≤ k)) E Eq46 → (0 ≤ k ∧ k ≤ i ∧ (∀ q : Nat, gv Eq46 82 q = gv Eq20 82 q)) → cm_wp (ai_find ai_c199 sl) (ai_ev sl (d + 4)) x (kc + 0) (ks + 0) (fun rk rv T' E' nx' => rk = 0 ∧ T = T' ∧ nx = nx' ∧ cs_I T E' nx ∧ cm_fr (fun i k => (i = 81 ∧ (k = 19 ∨ k = 21 ∨ k = 22)) ∨ (i = 82 ∧ 531209 ≤ k)) E E' ∧ ((gv E' 81 21 = 0 → gv E 81 21 = 0 ∧ gv E' 82 (166 * 3200 + 9 : Int).toNat ≤ 6) ∧ (∀ j : Int, 0 ≤ j → j < 6 → gv E' 82 (166 * 3200 + 10 + 26 * j + 1).toNat ≤ 24))) 46 [cr 81, ai_i z4, ai_i i, ai_i z19, ai_i z22, ai_i k] [] T Eq46 nx kc ks := by
            intro nf
            induction nf with
            | zero => intro k Eq46 hm; exact absurd hm (Nat.not_lt_zero _)
            | succ nf46 ih =>
              intro k Eq46 hm46 hI46 hF46 hv46
              obtain ⟨z26, hz26, hz26a, hz26b⟩ := hI46.int 81 21 (lo := 0) (hi := 3) (by decide) (by decide) rfl
              have ghz26 := gv_eq hz26
              have ih46 := ih; clear ih
              refine w_iload (i := 5) (npc := 48) rfl rfl ?_
              refine w_iload (i := 2) (npc := 49) rfl rfl ?_
              refine w_icmp (c := .ge) (npc := 52) (pt := 91) rfl (fun hc27 => ?_) (fun hc27 => ?_)
              · replace hc27 : i ≤ k := hc27
                refine w_aload (i := 0) (npc := 92) rfl rfl rfl ?_
                refine w_const (n := 3200) (npc := 95) rfl ?_
                refine w_const (n := 10) (npc := 97) rfl ?_
                refine w_const (n := 26) (npc := 99) rfl ?_
                refine w_iload (i := 2) (npc := 100) rfl rfl ?_
                refine w_imul (npc := 101) rfl (by omega) ?_
                refine w_iadd (npc := 102) rfl (by omega) ?_
                refine w_iload (i := 4) (npc := 104) rfl rfl ?_
                refine w_virt (ci := 8) (i := 81) (npc := 107) (a := [cr 81, ai_i 3200, ai_i (10 + (26 * i)), ai_i z22]) (rest := []) rfl rfl (hI46.pl (by decide)) (hI46.T (by decide) rfl) rfl rfl rfl rfl (ct_m_put (sl := sl) (x := x) (d := d + 3) (3200) (10 + (26 * i)) (z22) hI46 (by omega) (by omega) (by omega)) (Or.inl rfl) (fun k9 v9 T9 E31 nx9 kc9 ks9 hq30 hk9 hs9 => ?_)
                obtain ⟨rfl, rfl, rfl, hI33, hG34, hz32⟩ := hq30
                obtain rfl : kc = kc9 := by omega
                obtain rfl : ks = ks9 := by omega
                have hF35 := cm_fr.trans hF46 hG34 (by first | (simp; done) | (simp; omega) | (intro i k h; (try simp only at h); (try simp only); omega))
                have hz36 : E31 81 21 = ai_i z26 := (hG34 81 21 (by simp)).trans hz26
                have ghz36 := gv_eq hz36
                refine Or.inl ⟨rfl, ?_⟩
                refine w_aload (i := 0) (npc := 108) rfl rfl rfl ?_
                refine w_const (n := 10) (npc := 110) rfl ?_
                refine w_const (n := 26) (npc := 112) rfl ?_
                refine w_iload (i := 2) (npc := 113) rfl rfl ?_
                refine w_imul (npc := 114) rfl (by omega) ?_
                refine w_iadd (npc := 115) rfl (by omega) ?_
                refine w_const (n := 1) (npc := 116) rfl ?_
                refine w_iadd (npc := 117) rfl (by omega) ?_
                refine w_virt (ci := 8) (i := 81) (npc := 120) (a := [cr 81, ai_i (10 + (26 * i) + 1)]) (rest := []) rfl rfl (hI33.pl (by decide)) (hI33.T (by decide) rfl) rfl rfl rfl rfl (ct_m_readKey (sl := sl) (x := x) (d := d + 0) (10 + (26 * i) + 1) hI33 (by omega)) (Or.inl rfl) (fun k9 v9 T9 E41 nx9 kc9 ks9 hq40 hk9 hs9 => ?_)
                obtain ⟨rfl, rfl, rfl, hI43, hG44, hz42⟩ := hq40
                obtain rfl : kc = kc9 := by omega
                obtain rfl : ks = ks9 := by omega
                have hF45 := cm_fr.trans hF35 hG44 (by first | (simp; done) | (simp; omega) | (intro i k h; (try simp only at h); (try simp only); omega))
                refine Or.inl ⟨rfl, ?_⟩
                refine w_iinc (i := 2) (n := 1) (npc := 123) (loc' := [cr 81, ai_i z4, ai_i (i + 1), ai_i z19, ai_i z22, ai_i k]) rfl rfl (by omega) rfl ?_
                refine w_goto (pt := 20) rfl ?_
                exact ih20 (i + 1) (ai_i z19) (ai_i z22) (ai_i k) E41 (by omega) hI43 hF45 (by
      obtain ⟨d1, d2, d3, d4, d5⟩ := hv20
      obtain ⟨c1, c2, c3⟩ := hv46
      have y0_0 := gv_fr hG34 (i := 82) (k := (166 * 3200 + 9 : Int).toNat) (by first | (simp; done) | omega | (simp only; omega) | (simp; omega))
      have y1_0 := gv_fr hG44 (i := 82) (k := (166 * 3200 + 9 : Int).toNat) (by first | (simp; done) | omega | (simp only; omega) | (simp; omega))
      have c9 := c3 (166 * 3200 + 9 : Int).toNat
      refine ⟨by omega, by omega, by omega, by omega, fun j j0 j1 => ?_⟩
      by_cases hj : j = i
      · rw [hj]
        have q := hz42.1
        rw [show 166 * 3200 + (10 + 26 * i + 1) = 166 * 3200 + 10 + 26 * i + 1 by omega] at q
        exact q
      · rw [← gv_fr hG44 (by first | omega | (simp only; omega)), ← gv_fr hG34 (by first | omega | (simp only; omega)), c3]; exact d5 j j0 j1)
              · replace hc27 : ¬ (i ≤ k) := hc27
                refine w_aload (i := 0) (npc := 53) rfl rfl rfl ?_
                refine w_getf (i := 81) (ci := 8) (k := 21) (npc := 56) rfl (hI46.pl (by decide)) (hI46.T (by decide) rfl) (by decide) hz26 ?_
                refine w_if (c := .ne) (npc := 59) (pt := 91) rfl (fun hc47 => ?_) (fun hc47 => ?_)
                · replace hc47 : z26 ≠ (0 : Int) := hc47
                  refine w_aload (i := 0) (npc := 92) rfl rfl rfl ?_
                  refine w_const (n := 3200) (npc := 95) rfl ?_
                  refine w_const (n := 10) (npc := 97) rfl ?_
                  refine w_const (n := 26) (npc := 99) rfl ?_
                  refine w_iload (i := 2) (npc := 100) rfl rfl ?_
                  refine w_imul (npc := 101) rfl (by omega) ?_
                  refine w_iadd (npc := 102) rfl (by omega) ?_
                  refine w_iload (i := 4) (npc := 104) rfl rfl ?_
                  refine w_virt (ci := 8) (i := 81) (npc := 107) (a := [cr 81, ai_i 3200, ai_i (10 + (26 * i)), ai_i z22]) (rest := []) rfl rfl (hI46.pl (by decide)) (hI46.T (by decide) rfl) rfl rfl rfl rfl (ct_m_put (sl := sl) (x := x) (d := d + 3) (3200) (10 + (26 * i)) (z22) hI46 (by omega) (by omega) (by omega)) (Or.inl rfl) (fun k9 v9 T9 E51 nx9 kc9 ks9 hq50 hk9 hs9 => ?_)
                  obtain ⟨rfl, rfl, rfl, hI53, hG54, hz52⟩ := hq50
                  obtain rfl : kc = kc9 := by omega
                  obtain rfl : ks = ks9 := by omega
                  have hF55 := cm_fr.trans hF46 hG54 (by first | (simp; done) | (simp; omega) | (intro i k h; (try simp only at h); (try simp only); omega))
                  have hz56 : E51 81 21 = ai_i z26 := (hG54 81 21 (by simp)).trans hz26
                  have ghz56 := gv_eq hz56
                  refine Or.inl ⟨rfl, ?_⟩
                  refine w_aload (i := 0) (npc := 108) rfl rfl rfl ?_
                  refine w_const (n := 10) (npc := 110) rfl ?_
                  refine w_const (n := 26) (npc := 112) rfl ?_
                  refine w_iload (i := 2) (npc := 113) rfl rfl ?_
                  refine w_imul (npc := 114) rfl (by omega) ?_
                  refine w_iadd (npc := 115) rfl (by omega) ?_
                  refine w_const (n := 1) (npc := 116) rfl ?_
                  refine w_iadd (npc := 117) rfl (by omega) ?_
                  refine w_virt (ci := 8) (i := 81) (npc := 120) (a := [cr 81, ai_i (10 + (26 * i) + 1)]) (rest := []) rfl rfl (hI53.pl (by decide)) (hI53.T (by decide) rfl) rfl rfl rfl rfl (ct_m_readKey (sl := sl) (x := x) (d := d + 0) (10 + (26 * i) + 1) hI53 (by omega)) (Or.inl rfl) (fun k9 v9 T9 E61 nx9 kc9 ks9 hq60 hk9 hs9 => ?_)
                  obtain ⟨rfl, rfl, rfl, hI63, hG64, hz62⟩ := hq60
                  obtain rfl : kc = kc9 := by omega
                  obtain rfl : ks = ks9 := by omega
                  have hF65 := cm_fr.trans hF55 hG64 (by first | (simp; done) | (simp; omega) | (intro i k h; (try simp only at h); (try simp only); omega))
                  refine Or.inl ⟨rfl, ?_⟩
                  refine w_iinc (i := 2) (n := 1) (npc := 123) (loc' := [cr 81, ai_i z4, ai_i (i + 1), ai_i z19, ai_i z22, ai_i k]) rfl rfl (by omega) rfl ?_
                  refine w_goto (pt := 20) rfl ?_
                  exact ih20 (i + 1) (ai_i z19) (ai_i z22) (ai_i k) E61 (by omega) hI63 hF65 (by
      obtain ⟨d1, d2, d3, d4, d5⟩ := hv20
      obtain ⟨c1, c2, c3⟩ := hv46
      have y0_0 := gv_fr hG54 (i := 82) (k := (166 * 3200 + 9 : Int).toNat) (by first | (simp; done) | omega | (simp only; omega) | (simp; omega))
      have y1_0 := gv_fr hG64 (i := 82) (k := (166 * 3200 + 9 : Int).toNat) (by first | (simp; done) | omega | (simp only; omega) | (simp; omega))
      have c9 := c3 (166 * 3200 + 9 : Int).toNat
      refine ⟨by omega, by omega, by omega, by omega, fun j j0 j1 => ?_⟩
      by_cases hj : j = i
      · rw [hj]
        have q := hz62.1
        rw [show 166 * 3200 + (10 + 26 * i + 1) = 166 * 3200 + 10 + 26 * i + 1 by omega] at q
        exact q
      · rw [← gv_fr hG64 (by first | omega | (simp only; omega)), ← gv_fr hG54 (by first | omega | (simp only; omega)), c3]; exact d5 j j0 j1)
                · replace hc47 : ¬ (z26 ≠ (0 : Int)) := hc47
                  refine w_aload (i := 0) (npc := 60) rfl rfl rfl ?_
                  refine w_const (n := 3200) (npc := 63) rfl ?_
                  refine w_const (n := 10) (npc := 65) rfl ?_
                  refine w_const (n := 26) (npc := 67) rfl ?_
                  refine w_iload (i := 5) (npc := 69) rfl rfl ?_
                  refine w_imul (npc := 70) rfl (by omega) ?_
                  refine w_iadd (npc := 71) rfl (by omega) ?_
                  refine w_virt (ci := 8) (i := 81) (npc := 74) (a := [cr 81, ai_i 3200, ai_i (10 + (26 * k))]) (rest := []) rfl rfl (hI46.pl (by decide)) (hI46.T (by decide) rfl) rfl rfl rfl rfl (ct_m_of (sl := sl) (x := x) (d := d + 3) (3200) (10 + (26 * k)) hI46 (by omega) (by omega) (by omega)) (Or.inl rfl) (fun k9 v9 T9 E70 nx9 kc9 ks9 hq69 hk9 hs9 => ?_)
                  obtain ⟨rfl, rfl, rfl, rfl, z71, rfl, hz71⟩ := hq69
                  obtain rfl : kc = kc9 := by omega
                  obtain rfl : ks = ks9 := by omega
                  refine Or.inr (Or.inl ⟨rfl, ?_⟩)
                  refine w_iload (i := 4) (npc := 76) rfl rfl ?_
                  refine w_icmp (c := .ne) (npc := 79) (pt := 85) rfl (fun hc72 => ?_) (fun hc72 => ?_)
                  · replace hc72 : z71 ≠ z22 := hc72
                    refine w_iinc (i := 5) (n := 1) (npc := 88) (loc' := [cr 81, ai_i z4, ai_i i, ai_i z19, ai_i z22, ai_i (k + 1)]) rfl rfl (by omega) rfl ?_
                    refine w_goto (pt := 46) rfl ?_
                    exact ih46 (k + 1) Eq46 (by omega) hI46 hF46 (⟨by omega, by omega, hv46.2.2⟩)
                  · replace hc72 : ¬ (z71 ≠ z22) := hc72
                    refine w_aload (i := 0) (npc := 80) rfl rfl rfl ?_
                    refine w_const (n := 2) (npc := 81) rfl ?_
                    refine w_iload (i := 3) (npc := 82) rfl rfl ?_
                    refine w_virt (ci := 8) (i := 81) (npc := 85) (a := [cr 81, ai_i 2, ai_i z19]) (rest := []) rfl rfl (hI46.pl (by decide)) (hI46.T (by decide) rfl) rfl rfl rfl rfl (ct_m_wrong (sl := sl) (x := x) (d := d + 3) (2) (z19) hI46 (by omega) (by omega)) (Or.inl rfl) (fun k9 v9 T9 E75 nx9 kc9 ks9 hq74 hk9 hs9 => ?_)
                    obtain ⟨rfl, rfl, rfl, hI77, hG78, hz76⟩ := hq74
                    obtain rfl : kc = kc9 := by omega
                    obtain rfl : ks = ks9 := by omega
                    have hF79 := cm_fr.trans hF46 hG78 (by first | (simp; done) | (simp; omega) | (intro i k h; (try simp only at h); (try simp only); omega))
                    refine Or.inl ⟨rfl, ?_⟩
                    refine w_iinc (i := 5) (n := 1) (npc := 88) (loc' := [cr 81, ai_i z4, ai_i i, ai_i z19, ai_i z22, ai_i (k + 1)]) rfl rfl (by omega) rfl ?_
                    refine w_goto (pt := 46) rfl ?_
                    exact ih46 (k + 1) E75 (by omega) hI77 hF79 (⟨by omega, by omega, fun q => by rw [← gv_fr hG78 (by simp)]; exact hv46.2.2 q⟩)
          exact loop46 _ (0) E21 (Nat.lt_succ_self _) hI23 hF25 (⟨by omega, by omega, fun q => (gv_fr hG24 (by simp)).symm⟩)
  exact loop20 _ (0) (ai_un) (ai_un) (ai_un) E10 (Nat.lt_succ_self _) hI12 hF14 (by
      have y0_0 := gv_fr hG13 (i := 81) (k := 21) (by first | (simp; done) | omega | (simp only; omega) | (simp; omega))
      refine ⟨by omega, by omega, by omega, by omega, fun j j0 j1 => ?_⟩
      rw [← gv_fr hG13 (by first | omega | (simp only; omega)), ← gv_fr hG6 (by first | omega | (simp only; omega))]
      have q7 := hp0 (10 + 26 * j + 1) (by omega) (by omega)
      rw [show 166 * 3200 + (10 + 26 * j + 1) = 166 * 3200 + 10 + 26 * j + 1 by omega] at q7
      omega)
