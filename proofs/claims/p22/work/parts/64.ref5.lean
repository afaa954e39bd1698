set_option maxRecDepth 16384 in
theorem ct_m_put {sl : Int × Int} {x : ai_E} {d : Nat} {T : cm_T} {E : cm_E} {nx : Nat} (r w v : Int) (hI : cs_I T E nx) (hp0 : r = 3200) (hp1 : 0 ≤ w ∧ w < 166) (hp2 : 0 ≤ v ∧ v ≤ 65540) : cm_ct (ai_ev sl (d + 1)) x 195 [cr 81, ai_i r, ai_i w, ai_i v] T E nx 0 0 (fun rk rv T' E' nx' => rk = 0 ∧ T = T' ∧ nx = nx' ∧ cs_I T E' nx ∧ cm_fr (fun i k => i = 82 ∧ k = (166 * r + w).toNat) E E' ∧ (gv E' 82 (166 * r + w).toNat = v)) := by
  refine cm_body (M := ai_m195) rfl rfl (fun kc ks => ?_)
  show cm_wp (ai_find ai_c195 sl) (ai_ev sl (d + 0)) x (kc + 0) (ks + 0) _ 0 [cr 81, ai_i r, ai_i w, ai_i v] [] T E nx kc ks
  have hF : cm_fr (fun i k => i = 82 ∧ k = (166 * r + w).toNat) E E := fun _ _ _ => rfl
  refine w_aload (i := 0) (npc := 1) rfl rfl rfl ?_
  refine w_getf (i := 81) (ci := 8) (k := 2) (npc := 4) rfl (hI.pl (by decide)) (hI.T (by decide) rfl) (by decide) (hI.ref 81 2 (p := 82) (by decide) (by decide) rfl) ?_
  refine w_const (n := 166) (npc := 7) rfl ?_
  refine w_iload (i := 1) (npc := 8) rfl rfl ?_
  refine w_imul (npc := 9) rfl (by omega) ?_
  refine w_iload (i := 2) (npc := 10) rfl rfl ?_
  refine w_iadd (npc := 11) rfl (by omega) ?_
  refine w_iload (i := 3) (npc := 12) rfl rfl ?_
  refine w_ast (i := 82) (k := 1) (n := 531366) (npc := 13) rfl (hI.pl (by decide)) (hI.T (by decide) rfl) (by decide) (by omega) cm_af1 ?_
  have hI4 := hI.puti (i := 82) (k := (166 * r + w : Int).toNat) (z := v) (lo := 0) (hi := 65540) (by decide) rfl (by omega)
  have hF6 := cm_fr.up (i := 82) (k := (166 * r + w : Int).toNat) (v := ai_i v) hF (by first | (simp; done) | (simp; omega) | (intro i k h; (try simp only at h); (try simp only); omega))
  generalize hE5 : cm_up E 82 (166 * r + w : Int).toNat (ai_i v) = E3 at hI4 hF6   ⊢
  have hz7 : E3 82 (166 * r + w : Int).toNat = ai_i v := by rw [← hE5, cm_up_eq]
  have ghz7 := gv_eq hz7
  exact w_vret rfl (⟨rfl, rfl, rfl, hI4, hF6, by rw [← hE5]; exact gv_up _ _ _ _⟩) (by omega) (by omega)
set_option maxRecDepth 16384 in
theorem ct_m_wrong {sl : Int × Int} {x : ai_E} {d : Nat} {T : cm_T} {E : cm_E} {nx : Nat} (a b : Int) (hI : cs_I T E nx) (hp0 : 1 ≤ a ∧ a ≤ 3) (hp1 : 0 ≤ b ∧ b ≤ 400) : cm_ct (ai_ev sl (d + 1)) x 223 [cr 81, ai_i a, ai_i b] T E nx 0 0 (fun rk rv T' E' nx' => rk = 0 ∧ T = T' ∧ nx = nx' ∧ cs_I T E' nx ∧ cm_fr (fun i k => (i = 81 ∧ (k = 21 ∨ k = 22))) E E' ∧ (1 ≤ gv E' 81 21)) := by
  refine cm_body (M := ai_m223) rfl rfl (fun kc ks => ?_)
  show cm_wp (ai_find ai_c223 sl) (ai_ev sl (d + 0)) x (kc + 0) (ks + 0) _ 0 [cr 81, ai_i a, ai_i b] [] T E nx kc ks
  have hF : cm_fr (fun i k => (i = 81 ∧ (k = 21 ∨ k = 22))) E E := fun _ _ _ => rfl
  refine w_aload (i := 0) (npc := 1) rfl rfl rfl ?_
  obtain ⟨z1, hz1, hz1a, hz1b⟩ := hI.int 81 21 (lo := 0) (hi := 3) (by decide) (by decide) rfl
  have ghz1 := gv_eq hz1
  refine w_getf (i := 81) (ci := 8) (k := 21) (npc := 4) rfl (hI.pl (by decide)) (hI.T (by decide) rfl) (by decide) hz1 ?_
  refine w_if (c := .eq) (npc := 7) (pt := 8) rfl (fun hc2 => ?_) (fun hc2 => ?_)
  · replace hc2 : z1 = (0 : Int) := hc2
    refine w_aload (i := 0) (npc := 9) rfl rfl rfl ?_
    refine w_iload (i := 1) (npc := 10) rfl rfl ?_
    refine w_putf (i := 81) (ci := 8) (k := 21) (t := 0) (npc := 13) rfl (hI.pl (by decide)) (hI.T (by decide) rfl) (by decide) cm_fit0 ?_
    have hI4 := hI.puti (i := 81) (k := 21) (z := a) (lo := 0) (hi := 3) (by decide) rfl (by omega)
    have hF6 := cm_fr.up (i := 81) (k := 21) (v := ai_i a) hF (by first | (simp; done) | (simp; omega) | (intro i k h; (try simp only at h); (try simp only); omega))
    generalize hE5 : cm_up E 81 21 (ai_i a) = E3 at hI4 hF6   ⊢
    have hz7 : E3 81 21 = ai_i a := by rw [← hE5, cm_up_eq]
    have ghz7 := gv_eq hz7
    refine w_aload (i := 0) (npc := 14) rfl rfl rfl ?_
    refine w_iload (i := 2) (npc := 15) rfl rfl ?_
    refine w_putf (i := 81) (ci := 8) (k := 22) (t := 0) (npc := 18) rfl (hI4.pl (by decide)) (hI4.T (by decide) rfl) (by decide) cm_fit0 ?_
    have hI9 := hI4.puti (i := 81) (k := 22) (z := b) (lo := 0) (hi := 400) (by decide) rfl (by omega)
    have hF11 := cm_fr.up (i := 81) (k := 22) (v := ai_i b) hF6 (by first | (simp; done) | (simp; omega) | (intro i k h; (try simp only at h); (try simp only); omega))
    generalize hE10 : cm_up E3 81 22 (ai_i b) = E8 at hI9 hF11   ⊢
    have hz12 : E8 81 21 = ai_i a := by rw [← hE10, cm_up_ne _ _ (by decide)]; exact hz7
    have ghz12 := gv_eq hz12
    have hz13 : E8 81 22 = ai_i b := by rw [← hE10, cm_up_eq]
    have ghz13 := gv_eq hz13
    exact w_vret rfl (⟨rfl, rfl, rfl, hI9, hF11, by omega⟩) (by omega) (by omega)
  · replace hc2 : ¬ (z1 = (0 : Int)) := hc2
    exact w_vret rfl (⟨rfl, rfl, rfl, hI, hF, by omega⟩) (by omega) (by omega)
set_option maxRecDepth 16384 in
theorem ct_m_readByte {sl : Int × Int} {x : ai_E} {d : Nat} {T : cm_T} {E : cm_E} {nx : Nat} (a b : Int) (hI : cs_I T E nx) : cm_ct (ai_ev sl (d + 2)) x 196 [cr 81, ai_i a, ai_i b] T E nx 0 0 (fun rk rv T' E' nx' => rk = 1 ∧ T = T' ∧ nx = nx' ∧ cs_I T E' nx ∧ cm_fr (fun i k => (i = 81 ∧ (k = 19 ∨ k = 21 ∨ k = 22))) E E' ∧ ∃ z : Int, rv = ai_i z ∧ (0 ≤ z ∧ z ≤ 255 ∧ (gv E' 81 21 = 0 → gv E 81 21 = 0 ∧ a ≤ z ∧ z ≤ b))) := by
  refine cm_body (M := ai_m196) rfl rfl (fun kc ks => ?_)
  show cm_wp (ai_find ai_c196 sl) (ai_ev sl (d + 1)) x (kc + 0) (ks + 0) _ 0 [cr 81, ai_i a, ai_i b, ai_un] [] T E nx kc ks
  have hF : cm_fr (fun i k => (i = 81 ∧ (k = 19 ∨ k = 21 ∨ k = 22))) E E := fun _ _ _ => rfl
  refine w_aload (i := 0) (npc := 1) rfl rfl rfl ?_
  obtain ⟨z1, hz1, hz1a, hz1b⟩ := hI.int 81 21 (lo := 0) (hi := 3) (by decide) (by decide) rfl
  have ghz1 := gv_eq hz1
  refine w_getf (i := 81) (ci := 8) (k := 21) (npc := 4) rfl (hI.pl (by decide)) (hI.T (by decide) rfl) (by decide) hz1 ?_
  refine w_if (c := .eq) (npc := 7) (pt := 9) rfl (fun hc2 => ?_) (fun hc2 => ?_)
  · replace hc2 : z1 = (0 : Int) := hc2
    refine w_aload (i := 0) (npc := 10) rfl rfl rfl ?_
    obtain ⟨z3, hz3, hz3a, hz3b⟩ := hI.int 81 19 (lo := 0) (hi := 400) (by decide) (by decide) rfl
    have ghz3 := gv_eq hz3
    refine w_getf (i := 81) (ci := 8) (k := 19) (npc := 13) rfl (hI.pl (by decide)) (hI.T (by decide) rfl) (by decide) hz3 ?_
    refine w_aload (i := 0) (npc := 14) rfl rfl rfl ?_
    obtain ⟨z4, hz4, hz4a, hz4b⟩ := hI.int 81 20 (lo := 0) (hi := 400) (by decide) (by decide) rfl
    have ghz4 := gv_eq hz4
    refine w_getf (i := 81) (ci := 8) (k := 20) (npc := 17) rfl (hI.pl (by decide)) (hI.T (by decide) rfl) (by decide) hz4 ?_
    refine w_icmp (c := .lt) (npc := 20) (pt := 31) rfl (fun hc5 => ?_) (fun hc5 => ?_)
    · replace hc5 : z3 < z4 := hc5
      refine w_aload (i := 0) (npc := 32) rfl rfl rfl ?_
      refine w_getf (i := 81) (ci := 8) (k := 15) (npc := 35) rfl (hI.pl (by decide)) (hI.T (by decide) rfl) (by decide) (hI.ref 81 15 (p := 93) (by decide) (by decide) rfl) ?_
      refine w_aload (i := 0) (npc := 36) rfl rfl rfl ?_
      refine w_getf (i := 81) (ci := 8) (k := 19) (npc := 39) rfl (hI.pl (by decide)) (hI.T (by decide) rfl) (by decide) hz3 ?_
      obtain ⟨z6, hz6, hz6a, hz6b⟩ := hI.int 93 (z3 : Int).toNat (lo := 0) (hi := 255) (by decide) (show (z3 : Int).toNat < 400 by omega) rfl
      have ghz6 := gv_eq hz6
      refine w_ald (i := 93) (t := 1) (n := 400) (npc := 40) rfl (hI.pl (by decide)) (hI.T (by decide) rfl) (by decide) rfl (by omega) hz6 ?_
      refine w_istore (i := 3) (npc := 41) (loc' := [cr 81, ai_i a, ai_i b, ai_i z6]) rfl rfl ?_
      refine w_iload (i := 3) (npc := 42) rfl rfl ?_
      refine w_iload (i := 1) (npc := 43) rfl rfl ?_
      refine w_iload (i := 2) (npc := 44) rfl rfl ?_
      refine w_call (npc := 47) (a := [ai_i z6, ai_i a, ai_i b]) (rest := []) rfl rfl rfl rfl rfl (ct_m_isIn (sl := sl) (x := x) (d := d + 0) (z6) (a) (b)) (Or.inr (fun _ _ _ _ _ hq => by have h1 := hq.1; omega)) (fun k9 v9 T9 E8 nx9 kc9 ks9 hq7 hk9 hs9 => ?_)
      obtain ⟨rfl, rfl, rfl, rfl, z9, rfl, hz9⟩ := hq7
      obtain rfl : kc = kc9 := by omega
      obtain rfl : ks = ks9 := by omega
      refine Or.inr (Or.inl ⟨rfl, ?_⟩)
      refine w_if (c := .ne) (npc := 50) (pt := 59) rfl (fun hc10 => ?_) (fun hc10 => ?_)
      · replace hc10 : z9 ≠ (0 : Int) := hc10
        refine w_aload (i := 0) (npc := 60) rfl rfl rfl ?_
        refine w_dup (npc := 61) rfl rfl ?_
        refine w_getf (i := 81) (ci := 8) (k := 19) (npc := 64) rfl (hI.pl (by decide)) (hI.T (by decide) rfl) (by decide) hz3 ?_
        refine w_const (n := 1) (npc := 65) rfl ?_
        refine w_iadd (npc := 66) rfl (by omega) ?_
        refine w_putf (i := 81) (ci := 8) (k := 19) (t := 0) (npc := 69) rfl (hI.pl (by decide)) (hI.T (by decide) rfl) (by decide) cm_fit0 ?_
        have hI13 := hI.puti (i := 81) (k := 19) (z := z3 + 1) (lo := 0) (hi := 400) (by decide) rfl (by omega)
        have hF15 := cm_fr.up (i := 81) (k := 19) (v := ai_i (z3 + 1)) hF (by first | (simp; done) | (simp; omega) | (intro i k h; (try simp only at h); (try simp only); omega))
        generalize hE14 : cm_up E 81 19 (ai_i (z3 + 1)) = E12 at hI13 hF15   ⊢
        have hz16 : E12 81 21 = ai_i z1 := by rw [← hE14, cm_up_ne _ _ (by decide)]; exact hz1
        have ghz16 := gv_eq hz16
        have hz17 : E12 81 20 = ai_i z4 := by rw [← hE14, cm_up_ne _ _ (by decide)]; exact hz4
        have ghz17 := gv_eq hz17
        have hz18 : E12 93 (z3 : Int).toNat = ai_i z6 := by rw [← hE14, cm_up_nei _ _ (by decide)]; exact hz6
        have ghz18 := gv_eq hz18
        have hz19 : E12 81 19 = ai_i (z3 + 1) := by rw [← hE14, cm_up_eq]
        have ghz19 := gv_eq hz19
        refine w_iload (i := 3) (npc := 70) rfl rfl ?_
        exact w_iret rfl (⟨rfl, rfl, rfl, hI13, hF15, z6, rfl, by omega⟩) (by omega) (by omega)
      · replace hc10 : ¬ (z9 ≠ (0 : Int)) := hc10
        refine w_aload (i := 0) (npc := 51) rfl rfl rfl ?_
        refine w_const (n := 2) (npc := 52) rfl ?_
        refine w_aload (i := 0) (npc := 53) rfl rfl rfl ?_
        refine w_getf (i := 81) (ci := 8) (k := 19) (npc := 56) rfl (hI.pl (by decide)) (hI.T (by decide) rfl) (by decide) hz3 ?_
        refine w_virt (ci := 8) (i := 81) (npc := 59) (a := [cr 81, ai_i 2, ai_i z3]) (rest := []) rfl rfl (hI.pl (by decide)) (hI.T (by decide) rfl) rfl rfl rfl rfl (ct_m_wrong (sl := sl) (x := x) (d := d + 0) (2) (z3) hI (by omega) (by omega)) (Or.inl rfl) (fun k9 v9 T9 E21 nx9 kc9 ks9 hq20 hk9 hs9 => ?_)
        obtain ⟨rfl, rfl, rfl, hI23, hG24, hz22⟩ := hq20
        obtain rfl : kc = kc9 := by omega
        obtain rfl : ks = ks9 := by omega
        have hF25 := cm_fr.trans hF hG24 (by first | (simp; done) | (simp; omega) | (intro i k h; (try simp only at h); (try simp only); omega))
        have hz26 : E21 81 19 = ai_i z3 := (hG24 81 19 (by simp)).trans hz3
        have ghz26 := gv_eq hz26
        have hz27 : E21 81 20 = ai_i z4 := (hG24 81 20 (by simp)).trans hz4
        have ghz27 := gv_eq hz27
        refine Or.inl ⟨rfl, ?_⟩
        obtain ⟨z28, hz28, hz28a, hz28b⟩ := hI23.int 81 21 (lo := 0) (hi := 3) (by decide) (by decide) rfl
        have ghz28 := gv_eq hz28
        refine w_aload (i := 0) (npc := 60) rfl rfl rfl ?_
        refine w_dup (npc := 61) rfl rfl ?_
        refine w_getf (i := 81) (ci := 8) (k := 19) (npc := 64) rfl (hI23.pl (by decide)) (hI23.T (by decide) rfl) (by decide) hz26 ?_
        refine w_const (n := 1) (npc := 65) rfl ?_
        refine w_iadd (npc := 66) rfl (by omega) ?_
        refine w_putf (i := 81) (ci := 8) (k := 19) (t := 0) (npc := 69) rfl (hI23.pl (by decide)) (hI23.T (by decide) rfl) (by decide) cm_fit0 ?_
        have hI31 := hI23.puti (i := 81) (k := 19) (z := z3 + 1) (lo := 0) (hi := 400) (by decide) rfl (by omega)
        have hF33 := cm_fr.up (i := 81) (k := 19) (v := ai_i (z3 + 1)) hF25 (by first | (simp; done) | (simp; omega) | (intro i k h; (try simp only at h); (try simp only); omega))
        generalize hE32 : cm_up E21 81 19 (ai_i (z3 + 1)) = E30 at hI31 hF33   ⊢
        have hz34 : E30 81 20 = ai_i z4 := by rw [← hE32, cm_up_ne _ _ (by decide)]; exact hz27
        have ghz34 := gv_eq hz34
        have hz35 : E30 81 21 = ai_i z28 := by rw [← hE32, cm_up_ne _ _ (by decide)]; exact hz28
        have ghz35 := gv_eq hz35
        have hz36 : E30 81 19 = ai_i (z3 + 1) := by rw [← hE32, cm_up_eq]
        have ghz36 := gv_eq hz36
        refine w_iload (i := 3) (npc := 70) rfl rfl ?_
        exact w_iret rfl (⟨rfl, rfl, rfl, hI31, hF33, z6, rfl, by omega⟩) (by omega) (by omega)
    · replace hc5 : ¬ (z3 < z4) := hc5
      refine w_aload (i := 0) (npc := 21) rfl rfl rfl ?_
      refine w_const (n := 1) (npc := 22) rfl ?_
      refine w_aload (i := 0) (npc := 23) rfl rfl rfl ?_
      refine w_getf (i := 81) (ci := 8) (k := 20) (npc := 26) rfl (hI.pl (by decide)) (hI.T (by decide) rfl) (by decide) hz4 ?_
      refine w_virt (ci := 8) (i := 81) (npc := 29) (a := [cr 81, ai_i 1, ai_i z4]) (rest := []) rfl rfl (hI.pl (by decide)) (hI.T (by decide) rfl) rfl rfl rfl rfl (ct_m_wrong (sl := sl) (x := x) (d := d + 0) (1) (z4) hI (by omega) (by omega)) (Or.inl rfl) (fun k9 v9 T9 E38 nx9 kc9 ks9 hq37 hk9 hs9 => ?_)
      obtain ⟨rfl, rfl, rfl, hI40, hG41, hz39⟩ := hq37
      obtain rfl : kc = kc9 := by omega
      obtain rfl : ks = ks9 := by omega
      have hF42 := cm_fr.trans hF hG41 (by first | (simp; done) | (simp; omega) | (intro i k h; (try simp only at h); (try simp only); omega))
      have hz43 : E38 81 19 = ai_i z3 := (hG41 81 19 (by simp)).trans hz3
      have ghz43 := gv_eq hz43
      have hz44 : E38 81 20 = ai_i z4 := (hG41 81 20 (by simp)).trans hz4
      have ghz44 := gv_eq hz44
      refine Or.inl ⟨rfl, ?_⟩
      refine w_const (n := 0) (npc := 30) rfl ?_
      exact w_iret rfl (⟨rfl, rfl, rfl, hI40, hF42, 0, rfl, by omega⟩) (by omega) (by omega)
  · replace hc2 : ¬ (z1 = (0 : Int)) := hc2
    refine w_const (n := 0) (npc := 8) rfl ?_
    exact w_iret rfl (⟨rfl, rfl, rfl, hI, hF, 0, rfl, by omega⟩) (by omega) (by omega)
set_option maxRecDepth 16384 in
theorem ct_m_readTwo {sl : Int × Int} {x : ai_E} {d : Nat} {T : cm_T} {E : cm_E} {nx : Nat} (a b : Int) (hI : cs_I T E nx) : cm_ct (ai_ev sl (d + 3)) x 201 [cr 81, ai_i a, ai_i b] T E nx 0 0 (fun rk rv T' E' nx' => rk = 1 ∧ T = T' ∧ nx = nx' ∧ cs_I T E' nx ∧ cm_fr (fun i k => (i = 81 ∧ (k = 19 ∨ k = 21 ∨ k = 22))) E E' ∧ ∃ z : Int, rv = ai_i z ∧ (0 ≤ z ∧ z ≤ 65535 ∧ (gv E' 81 21 = 0 → gv E 81 21 = 0 ∧ a ≤ z ∧ z ≤ b))) := by
  refine cm_body (M := ai_m201) rfl rfl (fun kc ks => ?_)
  show cm_wp (ai_find ai_c201 sl) (ai_ev sl (d + 2)) x (kc + 0) (ks + 0) _ 0 [cr 81, ai_i a, ai_i b, ai_un, ai_un] [] T E nx kc ks
  have hF : cm_fr (fun i k => (i = 81 ∧ (k = 19 ∨ k = 21 ∨ k = 22))) E E := fun _ _ _ => rfl
  refine w_aload (i := 0) (npc := 1) rfl rfl rfl ?_
  obtain ⟨z1, hz1, hz1a, hz1b⟩ := hI.int 81 19 (lo := 0) (hi := 400) (by decide) (by decide) rfl
  have ghz1 := gv_eq hz1
  refine w_getf (i := 81) (ci := 8) (k := 19) (npc := 4) rfl (hI.pl (by decide)) (hI.T (by decide) rfl) (by decide) hz1 ?_
  refine w_istore (i := 3) (npc := 5) (loc' := [cr 81, ai_i a, ai_i b, ai_i z1, ai_un]) rfl rfl ?_
  refine w_const (n := 256) (npc := 8) rfl ?_
  refine w_aload (i := 0) (npc := 9) rfl rfl rfl ?_
  refine w_const (n := 0) (npc := 10) rfl ?_
  refine w_const (n := 255) (npc := 13) rfl ?_
  obtain ⟨z2, hz2, hz2a, hz2b⟩ := hI.int 81 21 (lo := 0) (hi := 3) (by decide) (by decide) rfl
  have ghz2 := gv_eq hz2
  refine w_virt (ci := 8) (i := 81) (npc := 16) (a := [cr 81, ai_i 0, ai_i 255]) (rest := [ai_i 256]) rfl rfl (hI.pl (by decide)) (hI.T (by decide) rfl) rfl rfl rfl rfl (ct_m_readByte (sl := sl) (x := x) (d := d + 0) (0) (255) hI) (Or.inl rfl) (fun k9 v9 T9 E4 nx9 kc9 ks9 hq3 hk9 hs9 => ?_)
  obtain ⟨rfl, rfl, rfl, hI6, hG7, z5, rfl, hz5⟩ := hq3
  obtain rfl : kc = kc9 := by omega
  obtain rfl : ks = ks9 := by omega
  have hF8 := cm_fr.trans hF hG7 (by first | (simp; done) | (simp; omega) | (intro i k h; (try simp only at h); (try simp only); omega))
  refine Or.inr (Or.inl ⟨rfl, ?_⟩)
  refine w_imul (npc := 17) rfl (by omega) ?_
  refine w_istore (i := 4) (npc := 19) (loc' := [cr 81, ai_i a, ai_i b, ai_i z1, ai_i (256 * z5)]) rfl rfl ?_
  refine w_iload (i := 4) (npc := 21) rfl rfl ?_
  refine w_aload (i := 0) (npc := 22) rfl rfl rfl ?_
  refine w_const (n := 0) (npc := 23) rfl ?_
  refine w_const (n := 255) (npc := 26) rfl ?_
  obtain ⟨z10, hz10, hz10a, hz10b⟩ := hI6.int 81 21 (lo := 0) (hi := 3) (by decide) (by decide) rfl
  have ghz10 := gv_eq hz10
  refine w_virt (ci := 8) (i := 81) (npc := 29) (a := [cr 81, ai_i 0, ai_i 255]) (rest := [ai_i (256 * z5)]) rfl rfl (hI6.pl (by decide)) (hI6.T (by decide) rfl) rfl rfl rfl rfl (ct_m_readByte (sl := sl) (x := x) (d := d + 0) (0) (255) hI6) (Or.inl rfl) (fun k9 v9 T9 E12 nx9 kc9 ks9 hq11 hk9 hs9 => ?_)
  obtain ⟨rfl, rfl, rfl, hI14, hG15, z13, rfl, hz13⟩ := hq11
  obtain rfl : kc = kc9 := by omega
  obtain rfl : ks = ks9 := by omega
  have hF16 := cm_fr.trans hF8 hG15 (by first | (simp; done) | (simp; omega) | (intro i k h; (try simp only at h); (try simp only); omega))
  refine Or.inr (Or.inl ⟨rfl, ?_⟩)
  refine w_iadd (npc := 30) rfl (by omega) ?_
  refine w_istore (i := 4) (npc := 32) (loc' := [cr 81, ai_i a, ai_i b, ai_i z1, ai_i (256 * z5 + z13)]) rfl rfl ?_
  refine w_aload (i := 0) (npc := 33) rfl rfl rfl ?_
  obtain ⟨z18, hz18, hz18a, hz18b⟩ := hI14.int 81 21 (lo := 0) (hi := 3) (by decide) (by decide) rfl
  have ghz18 := gv_eq hz18
  refine w_getf (i := 81) (ci := 8) (k := 21) (npc := 36) rfl (hI14.pl (by decide)) (hI14.T (by decide) rfl) (by decide) hz18 ?_
  refine w_if (c := .ne) (npc := 39) (pt := 55) rfl (fun hc19 => ?_) (fun hc19 => ?_)
  · replace hc19 : z18 ≠ (0 : Int) := hc19
    refine w_iload (i := 4) (npc := 57) rfl rfl ?_
    exact w_iret rfl (⟨rfl, rfl, rfl, hI14, hF16, 256 * z5 + z13, rfl, by omega⟩) (by omega) (by omega)
  · replace hc19 : ¬ (z18 ≠ (0 : Int)) := hc19
    refine w_iload (i := 4) (npc := 41) rfl rfl ?_
    refine w_iload (i := 1) (npc := 42) rfl rfl ?_
    refine w_iload (i := 2) (npc := 43) rfl rfl ?_
    refine w_call (npc := 46) (a := [ai_i (256 * z5 + z13), ai_i a, ai_i b]) (rest := []) rfl rfl rfl rfl rfl (ct_m_isIn (sl := sl) (x := x) (d := d + 1) (256 * z5 + z13) (a) (b)) (Or.inr (fun _ _ _ _ _ hq => by have h1 := hq.1; omega)) (fun k9 v9 T9 E21 nx9 kc9 ks9 hq20 hk9 hs9 => ?_)
    obtain ⟨rfl, rfl, rfl, rfl, z22, rfl, hz22⟩ := hq20
    obtain rfl : kc = kc9 := by omega
    obtain rfl : ks = ks9 := by omega
    refine Or.inr (Or.inl ⟨rfl, ?_⟩)
    refine w_if (c := .ne) (npc := 49) (pt := 55) rfl (fun hc23 => ?_) (fun hc23 => ?_)
    · replace hc23 : z22 ≠ (0 : Int) := hc23
      refine w_iload (i := 4) (npc := 57) rfl rfl ?_
      exact w_iret rfl (⟨rfl, rfl, rfl, hI14, hF16, 256 * z5 + z13, rfl, by omega⟩) (by omega) (by omega)
    · replace hc23 : ¬ (z22 ≠ (0 : Int)) := hc23
      refine w_aload (i := 0) (npc := 50) rfl rfl rfl ?_
      refine w_const (n := 2) (npc := 51) rfl ?_
      refine w_iload (i := 3) (npc := 52) rfl rfl ?_
      refine w_virt (ci := 8) (i := 81) (npc := 55) (a := [cr 81, ai_i 2, ai_i z1]) (rest := []) rfl rfl (hI14.pl (by decide)) (hI14.T (by decide) rfl) rfl rfl rfl rfl (ct_m_wrong (sl := sl) (x := x) (d := d + 1) (2) (z1) hI14 (by omega) (by omega)) (Or.inl rfl) (fun k9 v9 T9 E25 nx9 kc9 ks9 hq24 hk9 hs9 => ?_)
      obtain ⟨rfl, rfl, rfl, hI27, hG28, hz26⟩ := hq24
      obtain rfl : kc = kc9 := by omega
      obtain rfl : ks = ks9 := by omega
      have hF29 := cm_fr.trans hF16 hG28 (by first | (simp; done) | (simp; omega) | (intro i k h; (try simp only at h); (try simp only); omega))
      refine Or.inl ⟨rfl, ?_⟩
      refine w_iload (i := 4) (npc := 57) rfl rfl ?_
      exact w_iret rfl (⟨rfl, rfl, rfl, hI27, hF29, 256 * z5 + z13, rfl, by omega⟩) (by omega) (by omega)
set_option maxRecDepth 16384 in
theorem ct_m_readMark {sl : Int × Int} {x : ai_E} {d : Nat} {T : cm_T} {E : cm_E} {nx : Nat}  (hI : cs_I T E nx) : cm_ct (ai_ev sl (d + 3)) x 198 [cr 81] T E nx 0 0 (fun rk rv T' E' nx' => rk = 1 ∧ T = T' ∧ nx = nx' ∧ cs_I T E' nx ∧ cm_fr (fun i k => (i = 81 ∧ (k = 19 ∨ k = 21 ∨ k = 22))) E E' ∧ ∃ z : Int, rv = ai_i z ∧ (0 ≤ z ∧ z ≤ 655 ∧ (gv E' 81 21 = 0 → gv E 81 21 = 0))) := by
  refine cm_body (M := ai_m198) rfl rfl (fun kc ks => ?_)
  show cm_wp (ai_find ai_c198 sl) (ai_ev sl (d + 2)) x (kc + 0) (ks + 0) _ 0 [cr 81, ai_un] [] T E nx kc ks
  have hF : cm_fr (fun i k => (i = 81 ∧ (k = 19 ∨ k = 21 ∨ k = 22))) E E := fun _ _ _ => rfl
  refine w_aload (i := 0) (npc := 1) rfl rfl rfl ?_
  refine w_const (n := 0) (npc := 2) rfl ?_
  refine w_aload (i := 0) (npc := 3) rfl rfl rfl ?_
  obtain ⟨z1, hz1, hz1a, hz1b⟩ := hI.int 81 1 (lo := 1) (hi := 5) (by decide) (by decide) rfl
  have ghz1 := gv_eq hz1
  refine w_getf (i := 81) (ci := 8) (k := 1) (npc := 6) rfl (hI.pl (by decide)) (hI.T (by decide) rfl) (by decide) hz1 ?_
  refine w_const (n := 1) (npc := 7) rfl ?_
  refine w_isub (npc := 8) rfl (by omega) ?_
  obtain ⟨z3, hz3, hz3a, hz3b⟩ := hI.int 81 21 (lo := 0) (hi := 3) (by decide) (by decide) rfl
  have ghz3 := gv_eq hz3
  refine w_virt (ci := 8) (i := 81) (npc := 11) (a := [cr 81, ai_i 0, ai_i (z1 - 1)]) (rest := []) rfl rfl (hI.pl (by decide)) (hI.T (by decide) rfl) rfl rfl rfl rfl (ct_m_readByte (sl := sl) (x := x) (d := d + 0) (0) (z1 - 1) hI) (Or.inl rfl) (fun k9 v9 T9 E5 nx9 kc9 ks9 hq4 hk9 hs9 => ?_)
  obtain ⟨rfl, rfl, rfl, hI7, hG8, z6, rfl, hz6⟩ := hq4
  obtain rfl : kc = kc9 := by omega
  obtain rfl : ks = ks9 := by omega
  have hF9 := cm_fr.trans hF hG8 (by first | (simp; done) | (simp; omega) | (intro i k h; (try simp only at h); (try simp only); omega))
  have hz10 : E5 81 1 = ai_i z1 := (hG8 81 1 (by simp)).trans hz1
  have ghz10 := gv_eq hz10
  refine Or.inr (Or.inl ⟨rfl, ?_⟩)
  refine w_istore (i := 1) (npc := 12) (loc' := [cr 81, ai_i z6]) rfl rfl ?_
  refine w_aload (i := 0) (npc := 13) rfl rfl rfl ?_
  obtain ⟨z11, hz11, hz11a, hz11b⟩ := hI7.int 81 21 (lo := 0) (hi := 3) (by decide) (by decide) rfl
  have ghz11 := gv_eq hz11
  refine w_getf (i := 81) (ci := 8) (k := 21) (npc := 16) rfl (hI7.pl (by decide)) (hI7.T (by decide) rfl) (by decide) hz11 ?_
  refine w_if (c := .eq) (npc := 19) (pt := 21) rfl (fun hc12 => ?_) (fun hc12 => ?_)
  · replace hc12 : z11 = (0 : Int) := hc12
    refine w_const (n := 100) (npc := 23) rfl ?_
    refine w_iload (i := 1) (npc := 24) rfl rfl ?_
    refine w_imul (npc := 25) rfl (by omega) ?_
    refine w_aload (i := 0) (npc := 26) rfl rfl rfl ?_
    refine w_const (n := 1) (npc := 27) rfl ?_
    refine w_aload (i := 0) (npc := 28) rfl rfl rfl ?_
    refine w_const (n := 3200) (npc := 31) rfl ?_
    refine w_const (n := 3) (npc := 32) rfl ?_
    refine w_iload (i := 1) (npc := 33) rfl rfl ?_
    refine w_iadd (npc := 34) rfl (by omega) ?_
    refine w_virt (ci := 8) (i := 81) (npc := 37) (a := [cr 81, ai_i 3200, ai_i (3 + z6)]) (rest := [ai_i 1, cr 81, ai_i (100 * z6)]) rfl rfl (hI7.pl (by decide)) (hI7.T (by decide) rfl) rfl rfl rfl rfl (ct_m_of (sl := sl) (x := x) (d := d + 1) (3200) (3 + z6) hI7 (by omega) (by omega) (by omega)) (Or.inl rfl) (fun k9 v9 T9 E16 nx9 kc9 ks9 hq15 hk9 hs9 => ?_)
    obtain ⟨rfl, rfl, rfl, rfl, z17, rfl, hz17⟩ := hq15
    obtain rfl : kc = kc9 := by omega
    obtain rfl : ks = ks9 := by omega
    refine Or.inr (Or.inl ⟨rfl, ?_⟩)
    have hl18 : gv E 82 (166 * 3200 + (3 + z6)).toNat = gv E5 82 (166 * 3200 + (3 + z6)).toNat := gv_fr hF9 (by simp)
    refine w_virt (ci := 8) (i := 81) (npc := 40) (a := [cr 81, ai_i 1, ai_i z17]) (rest := [ai_i (100 * z6)]) rfl rfl (hI7.pl (by decide)) (hI7.T (by decide) rfl) rfl rfl rfl rfl (ct_m_readByte (sl := sl) (x := x) (d := d + 0) (1) (z17) hI7) (Or.inl rfl) (fun k9 v9 T9 E20 nx9 kc9 ks9 hq19 hk9 hs9 => ?_)
    obtain ⟨rfl, rfl, rfl, hI22, hG23, z21, rfl, hz21⟩ := hq19
    obtain rfl : kc = kc9 := by omega
    obtain rfl : ks = ks9 := by omega
    have hF24 := cm_fr.trans hF9 hG23 (by first | (simp; done) | (simp; omega) | (intro i k h; (try simp only at h); (try simp only); omega))
    have hz25 : E20 81 1 = ai_i z1 := (hG23 81 1 (by simp)).trans hz10
    have ghz25 := gv_eq hz25
    refine Or.inr (Or.inl ⟨rfl, ?_⟩)
    refine w_iadd (npc := 41) rfl (by omega) ?_
    exact w_iret rfl (⟨rfl, rfl, rfl, hI22, hF24, 100 * z6 + z21, rfl, by omega⟩) (by omega) (by omega)
  · replace hc12 : ¬ (z11 = (0 : Int)) := hc12
    refine w_const (n := 0) (npc := 20) rfl ?_
    exact w_iret rfl (⟨rfl, rfl, rfl, hI7, hF9, 0, rfl, by omega⟩) (by omega) (by omega)
set_option maxRecDepth 16384 in
theorem ct_m_readKey {sl : Int × Int} {x : ai_E} {d : Nat} {T : cm_T} {E : cm_E} {nx : Nat} (a : Int) (hI : cs_I T E nx) (hp0 : 10 ≤ a ∧ a ≤ 141) : cm_ct (ai_ev sl (d + 4)) x 197 [cr 81, ai_i a] T E nx 0 0 (fun rk rv T' E' nx' => rk = 0 ∧ T = T' ∧ nx = nx' ∧ cs_I T E' nx ∧ cm_fr (fun i k => (i = 81 ∧ (k = 19 ∨ k = 21 ∨ k = 22)) ∨ (i = 82 ∧ (166 * 3200 + a).toNat ≤ k ∧ k ≤ (166 * 3200 + a + 24).toNat)) E E' ∧ (gv E' 82 (166 * 3200 + a).toNat ≤ 24 ∧ (gv E' 81 21 = 0 → gv E 81 21 = 0))) := by
  refine cm_body (M := ai_m197) rfl rfl (fun kc ks => ?_)
  show cm_wp (ai_find ai_c197 sl) (ai_ev sl (d + 3)) x (kc + 0) (ks + 0) _ 0 [cr 81, ai_i a, ai_un, ai_un] [] T E nx kc ks
  have hF : cm_fr (fun i k => (i = 81 ∧ (k = 19 ∨ k = 21 ∨ k = 22)) ∨ (i = 82 ∧ (166 * 3200 + a).toNat ≤ k ∧ k ≤ (166 * 3200 + a + 24).toNat)) E E := fun _ _ _ => rfl
  refine w_aload (i := 0) (npc := 1) rfl rfl rfl ?_
  refine w_const (n := 1) (npc := 2) rfl ?_
  refine w_const (n := 24) (npc := 4) rfl ?_
  obtain ⟨z1, hz1, hz1a, hz1b⟩ := hI.int 81 21 (lo := 0) (hi := 3) (by decide) (by decide) rfl
  have ghz1 := gv_eq hz1
  refine w_virt (ci := 8) (i := 81) (npc := 7) (a := [cr 81, ai_i 1, ai_i 24]) (rest := []) rfl rfl (hI.pl (by decide)) (hI.T (by decide) rfl) rfl rfl rfl rfl (ct_m_readByte (sl := sl) (x := x) (d := d + 1) (1) (24) hI) (Or.inl rfl) (fun k9 v9 T9 E3 nx9 kc9 ks9 hq2 hk9 hs9 => ?_)
  obtain ⟨rfl, rfl, rfl, hI5, hG6, z4, rfl, hz4⟩ := hq2
  obtain rfl : kc = kc9 := by omega
  obtain rfl : ks = ks9 := by omega
  have hF7 := cm_fr.trans hF hG6 (by first | (simp; done) | (simp; omega) | (intro i k h; (try simp only at h); (try simp only); omega))
  refine Or.inr (Or.inl ⟨rfl, ?_⟩)
  refine w_istore (i := 2) (npc := 8) (loc' := [cr 81, ai_i a, ai_i z4, ai_un]) rfl rfl ?_
  refine w_aload (i := 0) (npc := 9) rfl rfl rfl ?_
  refine w_const (n := 3200) (npc := 12) rfl ?_
  refine w_iload (i := 1) (npc := 13) rfl rfl ?_
  refine w_aload (i := 0) (npc := 14) rfl rfl rfl ?_
  obtain ⟨z8, hz8, hz8a, hz8b⟩ := hI5.int 81 21 (lo := 0) (hi := 3) (by decide) (by decide) rfl
  have ghz8 := gv_eq hz8
  refine w_getf (i := 81) (ci := 8) (k := 21) (npc := 17) rfl (hI5.pl (by decide)) (hI5.T (by decide) rfl) (by decide) hz8 ?_
  refine w_if (c := .ne) (npc := 20) (pt := 24) rfl (fun hc9 => ?_) (fun hc9 => ?_)
  · replace hc9 : z8 ≠ (0 : Int) := hc9
    refine w_const (n := 0) (npc := 25) rfl ?_
    refine w_virt (ci := 8) (i := 81) (npc := 28) (a := [cr 81, ai_i 3200, ai_i a, ai_i 0]) (rest := []) rfl rfl (hI5.pl (by decide)) (hI5.T (by decide) rfl) rfl rfl rfl rfl (ct_m_put (sl := sl) (x := x) (d := d + 2) (3200) (a) (0) hI5 (by omega) (by omega) (by omega)) (Or.inl rfl) (fun k9 v9 T9 E11 nx9 kc9 ks9 hq10 hk9 hs9 => ?_)
    obtain ⟨rfl, rfl, rfl, hI13, hG14, hz12⟩ := hq10
    obtain rfl : kc = kc9 := by omega
    obtain rfl : ks = ks9 := by omega
    have hF15 := cm_fr.trans hF7 hG14 (by first | (simp; done) | (simp; omega) | (intro i k h; (try simp only at h); (try simp only); omega))
    have hz16 : E11 81 21 = ai_i z8 := (hG14 81 21 (by simp)).trans hz8
    have ghz16 := gv_eq hz16
    refine Or.inl ⟨rfl, ?_⟩
    refine w_const (n := 1) (npc := 29) rfl ?_
    refine w_istore (i := 3) (npc := 30) (loc' := [cr 81, ai_i a, ai_i z4, ai_i 1]) rfl rfl ?_
    have loop30 : ∀ (nf : Nat) (i : Int) (Eq30 : cm_E), ((25 - i).toNat) < nf → cs_I T Eq30 nx → cm_fr (fun i k => (i = 81 ∧ (k = 19 ∨ k = 21 ∨ k = 22)) ∨ (i = 82 ∧ (166 * 3200 + a).toNat ≤ k ∧ k ≤ (166 * 3200 + a + 24).toNat)) E Eq30 → (1 ≤ i ∧ i ≤ 25 ∧ (gv Eq30 81 21 = 0 → (z4) ≤ 24) ∧ gv Eq30 82 (166 * 3200 + a).toNat ≤ 24 ∧ (gv Eq30 81 21 = 0 → gv E 81 21 = 0)) → cm_wp (ai_find ai_c197 sl) (ai_ev sl (d + 3)) x (kc + 0) (ks + 0) (fun rk rv T' E' nx' => rk = 0 ∧ T = T' ∧ nx = nx' ∧ cs_I T E' nx ∧ cm_fr (fun i k => (i = 81 ∧ (k = 19 ∨ k = 21 ∨ k = 22)) ∨ (i = 82 ∧ (166 * 3200 + a).toNat ≤ k ∧ k ≤ (166 * 3200 + a + 24).toNat)) E E' ∧ (gv E' 82 (166 * 3200 + a).toNat ≤ 24 ∧ (gv E' 81 21 = 0 → gv E 81 21 = 0))) 30 [cr 81, ai_i a, ai_i z4, ai_i i] [] T Eq30 nx kc ks := by
      intro nf
      induction nf with
      | zero => intro i Eq30 hm; exact absurd hm (Nat.not_lt_zero _)
      | succ nf30 ih =>
        intro i Eq30 hm30 hI30 hF30 hv30
        obtain ⟨z17, hz17, hz17a, hz17b⟩ := hI30.int 81 21 (lo := 0) (hi := 3) (by decide) (by decide) rfl
        have ghz17 := gv_eq hz17
        have ih30 := ih; clear ih
        refine w_iload (i := 3) (npc := 31) rfl rfl ?_
        refine w_iload (i := 2) (npc := 32) rfl rfl ?_
        refine w_icmp (c := .gt) (npc := 35) (pt := 76) rfl (fun hc18 => ?_) (fun hc18 => ?_)
        · replace hc18 : z4 < i := hc18
          exact w_vret rfl (⟨rfl, rfl, rfl, hI30, hF30, by omega⟩) (by omega) (by omega)
        · replace hc18 : ¬ (z4 < i) := hc18
          refine w_aload (i := 0) (npc := 36) rfl rfl rfl ?_
          refine w_getf (i := 81) (ci := 8) (k := 21) (npc := 39) rfl (hI30.pl (by decide)) (hI30.T (by decide) rfl) (by decide) hz17 ?_
          refine w_if (c := .ne) (npc := 42) (pt := 76) rfl (fun hc19 => ?_) (fun hc19 => ?_)
          · replace hc19 : z17 ≠ (0 : Int) := hc19
            exact w_vret rfl (⟨rfl, rfl, rfl, hI30, hF30, by omega⟩) (by omega) (by omega)
          · replace hc19 : ¬ (z17 ≠ (0 : Int)) := hc19
            refine w_aload (i := 0) (npc := 43) rfl rfl rfl ?_
            refine w_const (n := 3200) (npc := 46) rfl ?_
            refine w_iload (i := 1) (npc := 47) rfl rfl ?_
            refine w_iload (i := 3) (npc := 48) rfl rfl ?_
            refine w_iadd (npc := 49) rfl (by omega) ?_
            refine w_aload (i := 0) (npc := 50) rfl rfl rfl ?_
            refine w_iload (i := 3) (npc := 51) rfl rfl ?_
            refine w_iload (i := 2) (npc := 52) rfl rfl ?_
            refine w_icmp (c := .ne) (npc := 55) (pt := 60) rfl (fun hc21 => ?_) (fun hc21 => ?_)
            · replace hc21 : i ≠ z4 := hc21
              refine w_const (n := 0) (npc := 61) rfl ?_
              refine w_const (n := 799) (npc := 64) rfl ?_
              refine w_virt (ci := 8) (i := 81) (npc := 67) (a := [cr 81, ai_i 0, ai_i 799]) (rest := [ai_i (a + i), ai_i 3200, cr 81]) rfl rfl (hI30.pl (by decide)) (hI30.T (by decide) rfl) rfl rfl rfl rfl (ct_m_readTwo (sl := sl) (x := x) (d := d + 0) (0) (799) hI30) (Or.inl rfl) (fun k9 v9 T9 E23 nx9 kc9 ks9 hq22 hk9 hs9 => ?_)
              obtain ⟨rfl, rfl, rfl, hI25, hG26, z24, rfl, hz24⟩ := hq22
              obtain rfl : kc = kc9 := by omega
              obtain rfl : ks = ks9 := by omega
              have hF27 := cm_fr.trans hF30 hG26 (by first | (simp; done) | (simp; omega) | (intro i k h; (try simp only at h); (try simp only); omega))
              refine Or.inr (Or.inl ⟨rfl, ?_⟩)
              obtain ⟨z28, hz28, hz28a, hz28b⟩ := hI25.int 81 21 (lo := 0) (hi := 3) (by decide) (by decide) rfl
              have ghz28 := gv_eq hz28
              refine w_virt (ci := 8) (i := 81) (npc := 70) (a := [cr 81, ai_i 3200, ai_i (a + i), ai_i z24]) (rest := []) rfl rfl (hI25.pl (by decide)) (hI25.T (by decide) rfl) rfl rfl rfl rfl (ct_m_put (sl := sl) (x := x) (d := d + 2) (3200) (a + i) (z24) hI25 (by omega) (by omega) (by omega)) (Or.inl rfl) (fun k9 v9 T9 E30 nx9 kc9 ks9 hq29 hk9 hs9 => ?_)
              obtain ⟨rfl, rfl, rfl, hI32, hG33, hz31⟩ := hq29
              obtain rfl : kc = kc9 := by omega
              obtain rfl : ks = ks9 := by omega
              have hF34 := cm_fr.trans hF27 hG33 (by first | (simp; done) | (simp; omega) | (intro i k h; (try simp only at h); (try simp only); omega))
              have hz35 : E30 81 21 = ai_i z28 := (hG33 81 21 (by simp)).trans hz28
              have ghz35 := gv_eq hz35
              refine Or.inl ⟨rfl, ?_⟩
              refine w_iinc (i := 3) (n := 1) (npc := 73) (loc' := [cr 81, ai_i a, ai_i z4, ai_i (i + 1)]) rfl rfl (by omega) rfl ?_
              refine w_goto (pt := 30) rfl ?_
              exact ih30 (i + 1) E30 (by omega) hI32 hF34 (⟨by omega, by omega, by omega, by rw [← gv_fr hG33 (by simp; omega), ← gv_fr hG26 (by simp)]; exact hv30.2.2.2.1, by omega⟩)
            · replace hc21 : ¬ (i ≠ z4) := hc21
              refine w_const (n := 8) (npc := 57) rfl ?_
              refine w_goto (pt := 61) rfl ?_
              refine w_const (n := 799) (npc := 64) rfl ?_
              refine w_virt (ci := 8) (i := 81) (npc := 67) (a := [cr 81, ai_i 8, ai_i 799]) (rest := [ai_i (a + i), ai_i 3200, cr 81]) rfl rfl (hI30.pl (by decide)) (hI30.T (by decide) rfl) rfl rfl rfl rfl (ct_m_readTwo (sl := sl) (x := x) (d := d + 0) (8) (799) hI30) (Or.inl rfl) (fun k9 v9 T9 E38 nx9 kc9 ks9 hq37 hk9 hs9 => ?_)
              obtain ⟨rfl, rfl, rfl, hI40, hG41, z39, rfl, hz39⟩ := hq37
              obtain rfl : kc = kc9 := by omega
              obtain rfl : ks = ks9 := by omega
              have hF42 := cm_fr.trans hF30 hG41 (by first | (simp; done) | (simp; omega) | (intro i k h; (try simp only at h); (try simp only); omega))
              refine Or.inr (Or.inl ⟨rfl, ?_⟩)
              obtain ⟨z43, hz43, hz43a, hz43b⟩ := hI40.int 81 21 (lo := 0) (hi := 3) (by decide) (by decide) rfl
              have ghz43 := gv_eq hz43
              refine w_virt (ci := 8) (i := 81) (npc := 70) (a := [cr 81, ai_i 3200, ai_i (a + i), ai_i z39]) (rest := []) rfl rfl (hI40.pl (by decide)) (hI40.T (by decide) rfl) rfl rfl rfl rfl (ct_m_put (sl := sl) (x := x) (d := d + 2) (3200) (a + i) (z39) hI40 (by omega) (by omega) (by omega)) (Or.inl rfl) (fun k9 v9 T9 E45 nx9 kc9 ks9 hq44 hk9 hs9 => ?_)
              obtain ⟨rfl, rfl, rfl, hI47, hG48, hz46⟩ := hq44
              obtain rfl : kc = kc9 := by omega
              obtain rfl : ks = ks9 := by omega
              have hF49 := cm_fr.trans hF42 hG48 (by first | (simp; done) | (simp; omega) | (intro i k h; (try simp only at h); (try simp only); omega))
              have hz50 : E45 81 21 = ai_i z43 := (hG48 81 21 (by simp)).trans hz43
              have ghz50 := gv_eq hz50
              refine Or.inl ⟨rfl, ?_⟩
              refine w_iinc (i := 3) (n := 1) (npc := 73) (loc' := [cr 81, ai_i a, ai_i z4, ai_i (i + 1)]) rfl rfl (by omega) rfl ?_
              refine w_goto (pt := 30) rfl ?_
              exact ih30 (i + 1) E45 (by omega) hI47 hF49 (⟨by omega, by omega, by omega, by rw [← gv_fr hG48 (by simp; omega), ← gv_fr hG41 (by simp)]; exact hv30.2.2.2.1, by omega⟩)
    exact loop30 _ (1) E11 (Nat.lt_succ_self _) hI13 hF15 (by omega)
  · replace hc9 : ¬ (z8 ≠ (0 : Int)) := hc9
    refine w_iload (i := 2) (npc := 21) rfl rfl ?_
    refine w_goto (pt := 25) rfl ?_
    refine w_virt (ci := 8) (i := 81) (npc := 28) (a := [cr 81, ai_i 3200, ai_i a, ai_i z4]) (rest := []) rfl rfl (hI5.pl (by decide)) (hI5.T (by decide) rfl) rfl rfl rfl rfl (ct_m_put (sl := sl) (x := x) (d := d + 2) (3200) (a) (z4) hI5 (by omega) (by omega) (by omega)) (Or.inl rfl) (fun k9 v9 T9 E53 nx9 kc9 ks9 hq52 hk9 hs9 => ?_)
    obtain ⟨rfl, rfl, rfl, hI55, hG56, hz54⟩ := hq52
    obtain rfl : kc = kc9 := by omega
    obtain rfl : ks = ks9 := by omega
    have hF57 := cm_fr.trans hF7 hG56 (by first | (simp; done) | (simp; omega) | (intro i k h; (try simp only at h); (try simp only); omega))
    have hz58 : E53 81 21 = ai_i z8 := (hG56 81 21 (by simp)).trans hz8
    have ghz58 := gv_eq hz58
    refine Or.inl ⟨rfl, ?_⟩
    refine w_const (n := 1) (npc := 29) rfl ?_
    refine w_istore (i := 3) (npc := 30) (loc' := [cr 81, ai_i a, ai_i z4, ai_i 1]) rfl rfl ?_
    have loop30 : ∀ (nf : Nat) (i : Int) (Eq30 : cm_E), ((25 - i).toNat) < nf → cs_I T Eq30 nx → cm_fr (fun i k => (i = 81 ∧ (k = 19 ∨ k = 21 ∨ k = 22)) ∨ (i = 82 ∧ (166 * 3200 + a).toNat ≤ k ∧ k ≤ (166 * 3200 + a + 24).toNat)) E Eq30 → (1 ≤ i ∧ i ≤ 25 ∧ (gv Eq30 81 21 = 0 → (z4) ≤ 24) ∧ gv Eq30 82 (166 * 3200 + a).toNat ≤ 24 ∧ (gv Eq30 81 21 = 0 → gv E 81 21 = 0)) → cm_wp (ai_find ai_c197 sl) (ai_ev sl (d + 3)) x (kc + 0) (ks + 0) (fun rk rv T' E' nx' => rk = 0 ∧ T = T' ∧ nx = nx' ∧ cs_I T E' nx ∧ cm_fr (fun i k => (i = 81 ∧ (k = 19 ∨ k = 21 ∨ k = 22)) ∨ (i = 82 ∧ (166 * 3200 + a).toNat ≤ k ∧ k ≤ (166 * 3200 + a + 24).toNat)) E E' ∧ (gv E' 82 (166 * 3200 + a).toNat ≤ 24 ∧ (gv E' 81 21 = 0 → gv E 81 21 = 0))) 30 [cr 81, ai_i a, ai_i z4, ai_i i] [] T Eq30 nx kc ks := by
      intro nf
      induction nf with
      | zero => intro i Eq30 hm; exact absurd hm (Nat.not_lt_zero _)
      | succ nf30 ih =>
        intro i Eq30 hm30 hI30 hF30 hv30
        obtain ⟨z59, hz59, hz59a, hz59b⟩ := hI30.int 81 21 (lo := 0) (hi := 3) (by decide) (by decide) rfl
        have ghz59 := gv_eq hz59
        have ih30 := ih; clear ih
        refine w_iload (i := 3) (npc := 31) rfl rfl ?_
        refine w_iload (i := 2) (npc := 32) rfl rfl ?_
        refine w_icmp (c := .gt) (npc := 35) (pt := 76) rfl (fun hc60 => ?_) (fun hc60 => ?_)
        · replace hc60 : z4 < i := hc60
          exact w_vret rfl (⟨rfl, rfl, rfl, hI30, hF30, by omega⟩) (by omega) (by omega)
        · replace hc60 : ¬ (z4 < i) := hc60
          refine w_aload (i := 0) (npc := 36) rfl rfl rfl ?_
          refine w_getf (i := 81) (ci := 8) (k := 21) (npc := 39) rfl (hI30.pl (by decide)) (hI30.T (by decide) rfl) (by decide) hz59 ?_
          refine w_if (c := .ne) (npc := 42) (pt := 76) rfl (fun hc61 => ?_) (fun hc61 => ?_)
          · replace hc61 : z59 ≠ (0 : Int) := hc61
            exact w_vret rfl (⟨rfl, rfl, rfl, hI30, hF30, by omega⟩) (by omega) (by omega)
          · replace hc61 : ¬ (z59 ≠ (0 : Int)) := hc61
            refine w_aload (i := 0) (npc := 43) rfl rfl rfl ?_
            refine w_const (n := 3200) (npc := 46) rfl ?_
            refine w_iload (i := 1) (npc := 47) rfl rfl ?_
            refine w_iload (i := 3) (npc := 48) rfl rfl ?_
            refine w_iadd (npc := 49) rfl (by omega) ?_
            refine w_aload (i := 0) (npc := 50) rfl rfl rfl ?_
            refine w_iload (i := 3) (npc := 51) rfl rfl ?_
            refine w_iload (i := 2) (npc := 52) rfl rfl ?_
            refine w_icmp (c := .ne) (npc := 55) (pt := 60) rfl (fun hc63 => ?_) (fun hc63 => ?_)
            · replace hc63 : i ≠ z4 := hc63
              refine w_const (n := 0) (npc := 61) rfl ?_
              refine w_const (n := 799) (npc := 64) rfl ?_
              refine w_virt (ci := 8) (i := 81) (npc := 67) (a := [cr 81, ai_i 0, ai_i 799]) (rest := [ai_i (a + i), ai_i 3200, cr 81]) rfl rfl (hI30.pl (by decide)) (hI30.T (by decide) rfl) rfl rfl rfl rfl (ct_m_readTwo (sl := sl) (x := x) (d := d + 0) (0) (799) hI30) (Or.inl rfl) (fun k9 v9 T9 E65 nx9 kc9 ks9 hq64 hk9 hs9 => ?_)
              obtain ⟨rfl, rfl, rfl, hI67, hG68, z66, rfl, hz66⟩ := hq64
              obtain rfl : kc = kc9 := by omega
              obtain rfl : ks = ks9 := by omega
              have hF69 := cm_fr.trans hF30 hG68 (by first | (simp; done) | (simp; omega) | (intro i k h; (try simp only at h); (try simp only); omega))
              refine Or.inr (Or.inl ⟨rfl, ?_⟩)
              obtain ⟨z70, hz70, hz70a, hz70b⟩ := hI67.int 81 21 (lo := 0) (hi := 3) (by decide) (by decide) rfl
              have ghz70 := gv_eq hz70
              refine w_virt (ci := 8) (i := 81) (npc := 70) (a := [cr 81, ai_i 3200, ai_i (a + i), ai_i z66]) (rest := []) rfl rfl (hI67.pl (by decide)) (hI67.T (by decide) rfl) rfl rfl rfl rfl (ct_m_put (sl := sl) (x := x) (d := d + 2) (3200) (a + i) (z66) hI67 (by omega) (by omega) (by omega)) (Or.inl rfl) (fun k9 v9 T9 E72 nx9 kc9 ks9 hq71 hk9 hs9 => ?_)
              obtain ⟨rfl, rfl, rfl, hI74, hG75, hz73⟩ := hq71
              obtain rfl : kc = kc9 := by omega
              obtain rfl : ks = ks9 := by omega
              have hF76 := cm_fr.trans hF69 hG75 (by first | (simp; done) | (simp; omega) | (intro i k h; (try simp only at h); (try simp only); omega))
              have hz77 : E72 81 21 = ai_i z70 := (hG75 81 21 (by simp)).trans hz70
              have ghz77 := gv_eq hz77
              refine Or.inl ⟨rfl, ?_⟩
              refine w_iinc (i := 3) (n := 1) (npc := 73) (loc' := [cr 81, ai_i a, ai_i z4, ai_i (i + 1)]) rfl rfl (by omega) rfl ?_
              refine w_goto (pt := 30) rfl ?_
              exact ih30 (i + 1) E72 (by omega) hI74 hF76 (⟨by omega, by omega, by omega, by rw [← gv_fr hG75 (by simp; omega), ← gv_fr hG68 (by simp)]; exact hv30.2.2.2.1, by omega⟩)
            · replace hc63 : ¬ (i ≠ z4) := hc63
              refine w_const (n := 8) (npc := 57) rfl ?_
              refine w_goto (pt := 61) rfl ?_
              refine w_const (n := 799) (npc := 64) rfl ?_
              refine w_virt (ci := 8) (i := 81) (npc := 67) (a := [cr 81, ai_i 8, ai_i 799]) (rest := [ai_i (a + i), ai_i 3200, cr 81]) rfl rfl (hI30.pl (by decide)) (hI30.T (by decide) rfl) rfl rfl rfl rfl (ct_m_readTwo (sl := sl) (x := x) (d := d + 0) (8) (799) hI30) (Or.inl rfl) (fun k9 v9 T9 E80 nx9 kc9 ks9 hq79 hk9 hs9 => ?_)
              obtain ⟨rfl, rfl, rfl, hI82, hG83, z81, rfl, hz81⟩ := hq79
              obtain rfl : kc = kc9 := by omega
              obtain rfl : ks = ks9 := by omega
              have hF84 := cm_fr.trans hF30 hG83 (by first | (simp; done) | (simp; omega) | (intro i k h; (try simp only at h); (try simp only); omega))
              refine Or.inr (Or.inl ⟨rfl, ?_⟩)
              obtain ⟨z85, hz85, hz85a, hz85b⟩ := hI82.int 81 21 (lo := 0) (hi := 3) (by decide) (by decide) rfl
              have ghz85 := gv_eq hz85
              refine w_virt (ci := 8) (i := 81) (npc := 70) (a := [cr 81, ai_i 3200, ai_i (a + i), ai_i z81]) (rest := []) rfl rfl (hI82.pl (by decide)) (hI82.T (by decide) rfl) rfl rfl rfl rfl (ct_m_put (sl := sl) (x := x) (d := d + 2) (3200) (a + i) (z81) hI82 (by omega) (by omega) (by omega)) (Or.inl rfl) (fun k9 v9 T9 E87 nx9 kc9 ks9 hq86 hk9 hs9 => ?_)
              obtain ⟨rfl, rfl, rfl, hI89, hG90, hz88⟩ := hq86
              obtain rfl : kc = kc9 := by omega
              obtain rfl : ks = ks9 := by omega
              have hF91 := cm_fr.trans hF84 hG90 (by first | (simp; done) | (simp; omega) | (intro i k h; (try simp only at h); (try simp only); omega))
              have hz92 : E87 81 21 = ai_i z85 := (hG90 81 21 (by simp)).trans hz85
              have ghz92 := gv_eq hz92
              refine Or.inl ⟨rfl, ?_⟩
              refine w_iinc (i := 3) (n := 1) (npc := 73) (loc' := [cr 81, ai_i a, ai_i z4, ai_i (i + 1)]) rfl rfl (by omega) rfl ?_
              refine w_goto (pt := 30) rfl ?_
              exact ih30 (i + 1) E87 (by omega) hI89 hF91 (⟨by omega, by omega, by omega, by rw [← gv_fr hG90 (by simp; omega), ← gv_fr hG83 (by simp)]; exact hv30.2.2.2.1, by omega⟩)
    exact loop30 _ (1) E53 (Nat.lt_succ_self _) hI55 hF57 (by omega)
set_option maxRecDepth 16384 in
theorem ct_m_newKey {sl : Int × Int} {x : ai_E} {d : Nat} {T : cm_T} {E : cm_E} {nx : Nat} (a b w t : Int) (hI : cs_I T E nx) (hp0 : -1 ≤ a ∧ a ≤ 531341) (hp1 : -1 ≤ b ∧ b ≤ 531341) (hp2 : 0 ≤ w ∧ w ≤ 4) (hp3 : 531210 ≤ t ∧ t ≤ 531341) : cm_ct (ai_ev sl (d + 1)) x 189 [cr 81, ai_i a, ai_i b, ai_i w, ai_i t] T E nx 0 0 (fun rk rv T' E' nx' => rk = 1 ∧ T = T' ∧ nx = nx' ∧ cs_I T E' nx ∧ cm_fr (fun i k => i = 82 ∧ t.toNat ≤ k ∧ k ≤ (t + 24).toNat) E E' ∧ ∃ z : Int, rv = ai_i z ∧ (0 ≤ z ∧ z ≤ 1 ∧ gv E' 82 t.toNat ≤ 24)) := by
  refine cm_body (M := ai_m189) rfl rfl (fun kc ks => ?_)
  show cm_wp (ai_find ai_c189 sl) (ai_ev sl (d + 0)) x (kc + 0) (ks + 0) _ 0 [cr 81, ai_i a, ai_i b, ai_i w, ai_i t, ai_un, ai_un, ai_un, ai_un] [] T E nx kc ks
  have hF : cm_fr (fun i k => i = 82 ∧ t.toNat ≤ k ∧ k ≤ (t + 24).toNat) E E := fun _ _ _ => rfl
  refine w_iload (i := 2) (npc := 1) rfl rfl ?_
  refine w_const (n := (-1)) (npc := 2) rfl ?_
  refine w_icmp (c := .eq) (npc := 5) (pt := 9) rfl (fun hc1 => ?_) (fun hc1 => ?_)
  · replace hc1 : b = ((-1) : Int) := hc1
    refine w_const (n := 0) (npc := 10) rfl ?_
    refine w_istore (i := 5) (npc := 12) (loc' := [cr 81, ai_i a, ai_i b, ai_i w, ai_i t, ai_i 0, ai_un, ai_un, ai_un]) rfl rfl ?_
    refine w_const (n := 1) (npc := 13) rfl ?_
    refine w_istore (i := 6) (npc := 15) (loc' := [cr 81, ai_i a, ai_i b, ai_i w, ai_i t, ai_i 0, ai_i 1, ai_un, ai_un]) rfl rfl ?_
    have loop15 : ∀ (nf : Nat) (c : Int) (i : Int) (u15_7 : ai_V) (u15_8 : ai_V) (Eq15 : cm_E), ((25 - i).toNat) < nf → cs_I T Eq15 nx → cm_fr (fun i k => i = 82 ∧ t.toNat ≤ k ∧ k ≤ (t + 24).toNat) E Eq15 → (0 ≤ c ∧ c ≤ 1 ∧ (c = 0 ∨ 0 ≤ b) ∧ 1 ≤ i ∧ i ≤ 25 ∧ (1 < i → gv Eq15 82 t.toNat ≤ 24)) → cm_wp (ai_find ai_c189 sl) (ai_ev sl (d + 0)) x (kc + 0) (ks + 0) (fun rk rv T' E' nx' => rk = 1 ∧ T = T' ∧ nx = nx' ∧ cs_I T E' nx ∧ cm_fr (fun i k => i = 82 ∧ t.toNat ≤ k ∧ k ≤ (t + 24).toNat) E E' ∧ ∃ z : Int, rv = ai_i z ∧ (0 ≤ z ∧ z ≤ 1 ∧ gv E' 82 t.toNat ≤ 24)) 15 [cr 81, ai_i a, ai_i b, ai_i w, ai_i t, ai_i c, ai_i i, u15_7, u15_8] [] T Eq15 nx kc ks := by
      intro nf
      induction nf with
      | zero => intro c i u15_7 u15_8 Eq15 hm; exact absurd hm (Nat.not_lt_zero _)
      | succ nf15 ih =>
        intro c i u15_7 u15_8 Eq15 hm15 hI15 hF15 hv15
        have ih15 := ih; clear ih
        refine w_iload (i := 6) (npc := 17) rfl rfl ?_
        refine w_const (n := 24) (npc := 19) rfl ?_
        refine w_icmp (c := .gt) (npc := 22) (pt := 181) rfl (fun hc2 => ?_) (fun hc2 => ?_)
        · replace hc2 : (24 : Int) < i := hc2
          refine w_const (n := 0) (npc := 182) rfl ?_
          exact w_zret rfl (by omega) (⟨rfl, rfl, rfl, hI15, hF15, 0, rfl, ⟨by omega, by omega, by omega⟩⟩) (by omega) (by omega)
        · replace hc2 : ¬ ((24 : Int) < i) := hc2
          refine w_iload (i := 1) (npc := 23) rfl rfl ?_
          refine w_const (n := (-1)) (npc := 24) rfl ?_
          refine w_icmp (c := .eq) (npc := 27) (pt := 50) rfl (fun hc3 => ?_) (fun hc3 => ?_)
          · replace hc3 : a = ((-1) : Int) := hc3
            refine w_const (n := 0) (npc := 51) rfl ?_
            refine w_istore (i := 7) (npc := 53) (loc' := [cr 81, ai_i a, ai_i b, ai_i w, ai_i t, ai_i c, ai_i i, ai_i 0, u15_8]) rfl rfl ?_
            refine w_iload (i := 5) (npc := 55) rfl rfl ?_
            refine w_if (c := .eq) (npc := 58) (pt := 85) rfl (fun hc4 => ?_) (fun hc4 => ?_)
            · replace hc4 : c = (0 : Int) := hc4
              refine w_const (n := 800) (npc := 88) rfl ?_
              refine w_istore (i := 8) (npc := 90) (loc' := [cr 81, ai_i a, ai_i b, ai_i w, ai_i t, ai_i c, ai_i i, ai_i 0, ai_i 800]) rfl rfl ?_
              refine w_aload (i := 0) (npc := 91) rfl rfl rfl ?_
              refine w_getf (i := 81) (ci := 8) (k := 2) (npc := 94) rfl (hI15.pl (by decide)) (hI15.T (by decide) rfl) (by decide) (hI15.ref 81 2 (p := 82) (by decide) (by decide) rfl) ?_
              refine w_iload (i := 4) (npc := 96) rfl rfl ?_
              refine w_iload (i := 6) (npc := 98) rfl rfl ?_
              refine w_ast (i := 82) (k := 1) (n := 531366) (npc := 99) rfl (hI15.pl (by decide)) (hI15.T (by decide) rfl) (by decide) (by omega) cm_af1 ?_
              have hI6 := hI15.puti (i := 82) (k := (t : Int).toNat) (z := i) (lo := 0) (hi := 65540) (by decide) rfl (by omega)
              have hF8 := cm_fr.up (i := 82) (k := (t : Int).toNat) (v := ai_i i) hF15 (by first | (simp; done) | (simp; omega) | (intro i k h; (try simp only at h); (try simp only); omega))
              generalize hE7 : cm_up Eq15 82 (t : Int).toNat (ai_i i) = E5 at hI6 hF8   ⊢
              have hz9 : E5 82 (t : Int).toNat = ai_i i := by rw [← hE7, cm_up_eq]
              have ghz9 := gv_eq hz9
              refine w_iload (i := 8) (npc := 101) rfl rfl ?_
              refine w_const (n := 8) (npc := 103) rfl ?_
              refine w_idiv (npc := 104) rfl (by omega) (by omega) (fun z10 hz10 hz10b hz10c => ?_)
              refine w_iload (i := 7) (npc := 106) rfl rfl ?_
              refine w_const (n := 8) (npc := 108) rfl ?_
              refine w_idiv (npc := 109) rfl (by omega) (by omega) (fun z11 hz11 hz11b hz11c => ?_)
              refine w_isub (npc := 110) rfl (by omega) ?_
              refine w_const (n := 2) (npc := 111) rfl ?_
              refine w_icmp (c := .lt) (npc := 114) (pt := 144) rfl (fun hc13 => ?_) (fun hc13 => ?_)
              · replace hc13 : z10 - z11 < (2 : Int) := hc13
                refine w_aload (i := 0) (npc := 145) rfl rfl rfl ?_
                refine w_getf (i := 81) (ci := 8) (k := 2) (npc := 148) rfl (hI6.pl (by decide)) (hI6.T (by decide) rfl) (by decide) (hI6.ref 81 2 (p := 82) (by decide) (by decide) rfl) ?_
                refine w_iload (i := 4) (npc := 150) rfl rfl ?_
                refine w_iload (i := 6) (npc := 152) rfl rfl ?_
                refine w_iadd (npc := 153) rfl (by omega) ?_
                refine w_iload (i := 7) (npc := 155) rfl rfl ?_
                refine w_ast (i := 82) (k := 1) (n := 531366) (npc := 156) rfl (hI6.pl (by decide)) (hI6.T (by decide) rfl) (by decide) (by omega) cm_af1 ?_
                have hI16 := hI6.puti (i := 82) (k := (t + i : Int).toNat) (z := 0) (lo := 0) (hi := 65540) (by decide) rfl (by omega)
                have hF18 := cm_fr.up (i := 82) (k := (t + i : Int).toNat) (v := ai_i 0) hF8 (by first | (simp; done) | (simp; omega) | (intro i k h; (try simp only at h); (try simp only); omega))
                generalize hE17 : cm_up E5 82 (t + i : Int).toNat (ai_i 0) = E15 at hI16 hF18   ⊢
                have hz19 : E15 82 (t + i : Int).toNat = ai_i 0 := by rw [← hE17, cm_up_eq]
                have ghz19 := gv_eq hz19
                refine w_iload (i := 5) (npc := 158) rfl rfl ?_
                refine w_if (c := .eq) (npc := 161) (pt := 172) rfl (fun hc20 => ?_) (fun hc20 => ?_)
                · replace hc20 : c = (0 : Int) := hc20
                  refine w_const (n := 0) (npc := 173) rfl ?_
                  refine w_istore (i := 5) (npc := 175) (loc' := [cr 81, ai_i a, ai_i b, ai_i w, ai_i t, ai_i 0, ai_i i, ai_i 0, ai_i 800]) rfl rfl ?_
                  refine w_iinc (i := 6) (n := 1) (npc := 178) (loc' := [cr 81, ai_i a, ai_i b, ai_i w, ai_i t, ai_i 0, ai_i (i + 1), ai_i 0, ai_i 800]) rfl rfl (by omega) rfl ?_
                  refine w_goto (pt := 15) rfl ?_
                  exact ih15 (0) (i + 1) (ai_i 0) (ai_i 800) E15 (by omega) hI16 hF18 (by have e1 : gv E15 82 t.toNat = i := (by rw [← hE17, gv_ne _ _ (by omega), ← hE7, gv_up]); omega)
                · replace hc20 : ¬ (c = (0 : Int)) := hc20
                  refine w_iload (i := 7) (npc := 163) rfl rfl ?_
                  refine w_iload (i := 8) (npc := 165) rfl rfl ?_
                  refine w_icmp (c := .ne) (npc := 168) (pt := 172) rfl (fun hc22 => ?_) (fun hc22 => ?_)
                  · replace hc22 : (0 : Int) ≠ 800 := hc22
                    refine w_const (n := 0) (npc := 173) rfl ?_
                    refine w_istore (i := 5) (npc := 175) (loc' := [cr 81, ai_i a, ai_i b, ai_i w, ai_i t, ai_i 0, ai_i i, ai_i 0, ai_i 800]) rfl rfl ?_
                    refine w_iinc (i := 6) (n := 1) (npc := 178) (loc' := [cr 81, ai_i a, ai_i b, ai_i w, ai_i t, ai_i 0, ai_i (i + 1), ai_i 0, ai_i 800]) rfl rfl (by omega) rfl ?_
                    refine w_goto (pt := 15) rfl ?_
                    exact ih15 (0) (i + 1) (ai_i 0) (ai_i 800) E15 (by omega) hI16 hF18 (by have e1 : gv E15 82 t.toNat = i := (by rw [← hE17, gv_ne _ _ (by omega), ← hE7, gv_up]); omega)
                  · replace hc22 : ¬ ((0 : Int) ≠ 800) := hc22
                    refine w_const (n := 1) (npc := 169) rfl ?_
                    refine w_goto (pt := 173) rfl ?_
                    refine w_istore (i := 5) (npc := 175) (loc' := [cr 81, ai_i a, ai_i b, ai_i w, ai_i t, ai_i 1, ai_i i, ai_i 0, ai_i 800]) rfl rfl ?_
                    refine w_iinc (i := 6) (n := 1) (npc := 178) (loc' := [cr 81, ai_i a, ai_i b, ai_i w, ai_i t, ai_i 1, ai_i (i + 1), ai_i 0, ai_i 800]) rfl rfl (by omega) rfl ?_
                    refine w_goto (pt := 15) rfl ?_
                    exact ih15 (1) (i + 1) (ai_i 0) (ai_i 800) E15 (by omega) hI16 hF18 (by have e1 : gv E15 82 t.toNat = i := (by rw [← hE17, gv_ne _ _ (by omega), ← hE7, gv_up]); omega)
              · replace hc13 : ¬ (z10 - z11 < (2 : Int)) := hc13
                refine w_aload (i := 0) (npc := 115) rfl rfl rfl ?_
                refine w_getf (i := 81) (ci := 8) (k := 2) (npc := 118) rfl (hI6.pl (by decide)) (hI6.T (by decide) rfl) (by decide) (hI6.ref 81 2 (p := 82) (by decide) (by decide) rfl) ?_
                refine w_iload (i := 4) (npc := 120) rfl rfl ?_
                refine w_iload (i := 6) (npc := 122) rfl rfl ?_
                refine w_iadd (npc := 123) rfl (by omega) ?_
                refine w_const (n := 8) (npc := 125) rfl ?_
                refine w_iload (i := 7) (npc := 127) rfl rfl ?_
                refine w_const (n := 8) (npc := 129) rfl ?_
                refine w_idiv (npc := 130) rfl (by omega) (by omega) (fun z26 hz26 hz26b hz26c => ?_)
                refine w_iload (i := 8) (npc := 132) rfl rfl ?_
                refine w_const (n := 8) (npc := 134) rfl ?_
                refine w_idiv (npc := 135) rfl (by omega) (by omega) (fun z27 hz27 hz27b hz27c => ?_)
                refine w_iadd (npc := 136) rfl (by omega) ?_
                refine w_const (n := 2) (npc := 137) rfl ?_
                refine w_idiv (npc := 138) rfl (by omega) (by omega) (fun z29 hz29 hz29b hz29c => ?_)
                refine w_imul (npc := 139) rfl (by omega) ?_
                refine w_iload (i := 3) (npc := 140) rfl rfl ?_
                refine w_iadd (npc := 141) rfl (by omega) ?_
                refine w_ast (i := 82) (k := 1) (n := 531366) (npc := 142) rfl (hI6.pl (by decide)) (hI6.T (by decide) rfl) (by decide) (by omega) cm_af1 ?_
                have hI33 := hI6.puti (i := 82) (k := (t + i : Int).toNat) (z := 8 * z29 + w) (lo := 0) (hi := 65540) (by decide) rfl (by omega)
                have hF35 := cm_fr.up (i := 82) (k := (t + i : Int).toNat) (v := ai_i (8 * z29 + w)) hF8 (by first | (simp; done) | (simp; omega) | (intro i k h; (try simp only at h); (try simp only); omega))
                generalize hE34 : cm_up E5 82 (t + i : Int).toNat (ai_i (8 * z29 + w)) = E32 at hI33 hF35   ⊢
                have hz36 : E32 82 (t + i : Int).toNat = ai_i (8 * z29 + w) := by rw [← hE34, cm_up_eq]
                have ghz36 := gv_eq hz36
                refine w_const (n := 1) (npc := 143) rfl ?_
                exact w_zret rfl (by omega) (⟨rfl, rfl, rfl, hI33, hF35, 1, rfl, ⟨by omega, by omega, by rw [← hE34, gv_ne _ _ (by omega), ← hE7, gv_up]; omega⟩⟩) (by omega) (by omega)
            · replace hc4 : ¬ (c = (0 : Int)) := hc4
              refine w_iload (i := 6) (npc := 60) rfl rfl ?_
              refine w_aload (i := 0) (npc := 61) rfl rfl rfl ?_
              refine w_getf (i := 81) (ci := 8) (k := 2) (npc := 64) rfl (hI15.pl (by decide)) (hI15.T (by decide) rfl) (by decide) (hI15.ref 81 2 (p := 82) (by decide) (by decide) rfl) ?_
              refine w_iload (i := 2) (npc := 65) rfl rfl ?_
              obtain ⟨z37, hz37, hz37a, hz37b⟩ := hI15.int 82 (b : Int).toNat (lo := 0) (hi := 65540) (by decide) (show (b : Int).toNat < 531366 by omega) rfl
              have ghz37 := gv_eq hz37
              refine w_ald (i := 82) (t := 1) (n := 531366) (npc := 66) rfl (hI15.pl (by decide)) (hI15.T (by decide) rfl) (by decide) rfl (by omega) hz37 ?_
              refine w_icmp (c := .gt) (npc := 69) (pt := 81) rfl (fun hc38 => ?_) (fun hc38 => ?_)
              · replace hc38 : z37 < i := hc38
                refine w_const (n := 0) (npc := 82) rfl ?_
                refine w_goto (pt := 88) rfl ?_
                refine w_istore (i := 8) (npc := 90) (loc' := [cr 81, ai_i a, ai_i b, ai_i w, ai_i t, ai_i c, ai_i i, ai_i 0, ai_i 0]) rfl rfl ?_
                refine w_aload (i := 0) (npc := 91) rfl rfl rfl ?_
                refine w_getf (i := 81) (ci := 8) (k := 2) (npc := 94) rfl (hI15.pl (by decide)) (hI15.T (by decide) rfl) (by decide) (hI15.ref 81 2 (p := 82) (by decide) (by decide) rfl) ?_
                refine w_iload (i := 4) (npc := 96) rfl rfl ?_
                refine w_iload (i := 6) (npc := 98) rfl rfl ?_
                refine w_ast (i := 82) (k := 1) (n := 531366) (npc := 99) rfl (hI15.pl (by decide)) (hI15.T (by decide) rfl) (by decide) (by omega) cm_af1 ?_
                have hI40 := hI15.puti (i := 82) (k := (t : Int).toNat) (z := i) (lo := 0) (hi := 65540) (by decide) rfl (by omega)
                have hF42 := cm_fr.up (i := 82) (k := (t : Int).toNat) (v := ai_i i) hF15 (by first | (simp; done) | (simp; omega) | (intro i k h; (try simp only at h); (try simp only); omega))
                generalize hE41 : cm_up Eq15 82 (t : Int).toNat (ai_i i) = E39 at hI40 hF42   ⊢
                have hz43 : E39 82 (t : Int).toNat = ai_i i := by rw [← hE41, cm_up_eq]
                have ghz43 := gv_eq hz43
                refine w_iload (i := 8) (npc := 101) rfl rfl ?_
                refine w_const (n := 8) (npc := 103) rfl ?_
                refine w_idiv (npc := 104) rfl (by omega) (by omega) (fun z44 hz44 hz44b hz44c => ?_)
                refine w_iload (i := 7) (npc := 106) rfl rfl ?_
                refine w_const (n := 8) (npc := 108) rfl ?_
                refine w_idiv (npc := 109) rfl (by omega) (by omega) (fun z45 hz45 hz45b hz45c => ?_)
                refine w_isub (npc := 110) rfl (by omega) ?_
                refine w_const (n := 2) (npc := 111) rfl ?_
                refine w_icmp (c := .lt) (npc := 114) (pt := 144) rfl (fun hc47 => ?_) (fun hc47 => ?_)
                · replace hc47 : z44 - z45 < (2 : Int) := hc47
                  refine w_aload (i := 0) (npc := 145) rfl rfl rfl ?_
                  refine w_getf (i := 81) (ci := 8) (k := 2) (npc := 148) rfl (hI40.pl (by decide)) (hI40.T (by decide) rfl) (by decide) (hI40.ref 81 2 (p := 82) (by decide) (by decide) rfl) ?_
                  refine w_iload (i := 4) (npc := 150) rfl rfl ?_
                  refine w_iload (i := 6) (npc := 152) rfl rfl ?_
                  refine w_iadd (npc := 153) rfl (by omega) ?_
                  refine w_iload (i := 7) (npc := 155) rfl rfl ?_
                  refine w_ast (i := 82) (k := 1) (n := 531366) (npc := 156) rfl (hI40.pl (by decide)) (hI40.T (by decide) rfl) (by decide) (by omega) cm_af1 ?_
                  have hI50 := hI40.puti (i := 82) (k := (t + i : Int).toNat) (z := 0) (lo := 0) (hi := 65540) (by decide) rfl (by omega)
                  have hF52 := cm_fr.up (i := 82) (k := (t + i : Int).toNat) (v := ai_i 0) hF42 (by first | (simp; done) | (simp; omega) | (intro i k h; (try simp only at h); (try simp only); omega))
                  generalize hE51 : cm_up E39 82 (t + i : Int).toNat (ai_i 0) = E49 at hI50 hF52   ⊢
                  have hz53 : E49 82 (t + i : Int).toNat = ai_i 0 := by rw [← hE51, cm_up_eq]
                  have ghz53 := gv_eq hz53
                  refine w_iload (i := 5) (npc := 158) rfl rfl ?_
                  refine w_if (c := .eq) (npc := 161) (pt := 172) rfl (fun hc54 => ?_) (fun hc54 => ?_)
                  · replace hc54 : c = (0 : Int) := hc54
                    refine w_const (n := 0) (npc := 173) rfl ?_
                    refine w_istore (i := 5) (npc := 175) (loc' := [cr 81, ai_i a, ai_i b, ai_i w, ai_i t, ai_i 0, ai_i i, ai_i 0, ai_i 0]) rfl rfl ?_
                    refine w_iinc (i := 6) (n := 1) (npc := 178) (loc' := [cr 81, ai_i a, ai_i b, ai_i w, ai_i t, ai_i 0, ai_i (i + 1), ai_i 0, ai_i 0]) rfl rfl (by omega) rfl ?_
                    refine w_goto (pt := 15) rfl ?_
                    exact ih15 (0) (i + 1) (ai_i 0) (ai_i 0) E49 (by omega) hI50 hF52 (by have e1 : gv E49 82 t.toNat = i := (by rw [← hE51, gv_ne _ _ (by omega), ← hE41, gv_up]); omega)
                  · replace hc54 : ¬ (c = (0 : Int)) := hc54
                    refine w_iload (i := 7) (npc := 163) rfl rfl ?_
                    refine w_iload (i := 8) (npc := 165) rfl rfl ?_
                    refine w_icmp (c := .ne) (npc := 168) (pt := 172) rfl (fun hc56 => ?_) (fun hc56 => ?_)
                    · replace hc56 : (0 : Int) ≠ 0 := hc56
                      refine w_const (n := 0) (npc := 173) rfl ?_
                      refine w_istore (i := 5) (npc := 175) (loc' := [cr 81, ai_i a, ai_i b, ai_i w, ai_i t, ai_i 0, ai_i i, ai_i 0, ai_i 0]) rfl rfl ?_
                      refine w_iinc (i := 6) (n := 1) (npc := 178) (loc' := [cr 81, ai_i a, ai_i b, ai_i w, ai_i t, ai_i 0, ai_i (i + 1), ai_i 0, ai_i 0]) rfl rfl (by omega) rfl ?_
                      refine w_goto (pt := 15) rfl ?_
                      exact ih15 (0) (i + 1) (ai_i 0) (ai_i 0) E49 (by omega) hI50 hF52 (by have e1 : gv E49 82 t.toNat = i := (by rw [← hE51, gv_ne _ _ (by omega), ← hE41, gv_up]); omega)
                    · replace hc56 : ¬ ((0 : Int) ≠ 0) := hc56
                      refine w_const (n := 1) (npc := 169) rfl ?_
                      refine w_goto (pt := 173) rfl ?_
                      refine w_istore (i := 5) (npc := 175) (loc' := [cr 81, ai_i a, ai_i b, ai_i w, ai_i t, ai_i 1, ai_i i, ai_i 0, ai_i 0]) rfl rfl ?_
                      refine w_iinc (i := 6) (n := 1) (npc := 178) (loc' := [cr 81, ai_i a, ai_i b, ai_i w, ai_i t, ai_i 1, ai_i (i + 1), ai_i 0, ai_i 0]) rfl rfl (by omega) rfl ?_
                      refine w_goto (pt := 15) rfl ?_
                      exact ih15 (1) (i + 1) (ai_i 0) (ai_i 0) E49 (by omega) hI50 hF52 (by have e1 : gv E49 82 t.toNat = i := (by rw [← hE51, gv_ne _ _ (by omega), ← hE41, gv_up]); omega)
                · replace hc47 : ¬ (z44 - z45 < (2 : Int)) := hc47
                  refine w_aload (i := 0) (npc := 115) rfl rfl rfl ?_
                  refine w_getf (i := 81) (ci := 8) (k := 2) (npc := 118) rfl (hI40.pl (by decide)) (hI40.T (by decide) rfl) (by decide) (hI40.ref 81 2 (p := 82) (by decide) (by decide) rfl) ?_
                  refine w_iload (i := 4) (npc := 120) rfl rfl ?_
                  refine w_iload (i := 6) (npc := 122) rfl rfl ?_
                  refine w_iadd (npc := 123) rfl (by omega) ?_
                  refine w_const (n := 8) (npc := 125) rfl ?_
                  refine w_iload (i := 7) (npc := 127) rfl rfl ?_
                  refine w_const (n := 8) (npc := 129) rfl ?_
                  refine w_idiv (npc := 130) rfl (by omega) (by omega) (fun z60 hz60 hz60b hz60c => ?_)
                  refine w_iload (i := 8) (npc := 132) rfl rfl ?_
                  refine w_const (n := 8) (npc := 134) rfl ?_
                  refine w_idiv (npc := 135) rfl (by omega) (by omega) (fun z61 hz61 hz61b hz61c => ?_)
                  refine w_iadd (npc := 136) rfl (by omega) ?_
                  refine w_const (n := 2) (npc := 137) rfl ?_
                  refine w_idiv (npc := 138) rfl (by omega) (by omega) (fun z63 hz63 hz63b hz63c => ?_)
                  refine w_imul (npc := 139) rfl (by omega) ?_
                  refine w_iload (i := 3) (npc := 140) rfl rfl ?_
                  refine w_iadd (npc := 141) rfl (by omega) ?_
                  refine w_ast (i := 82) (k := 1) (n := 531366) (npc := 142) rfl (hI40.pl (by decide)) (hI40.T (by decide) rfl) (by decide) (by omega) cm_af1 ?_
                  have hI67 := hI40.puti (i := 82) (k := (t + i : Int).toNat) (z := 8 * z63 + w) (lo := 0) (hi := 65540) (by decide) rfl (by omega)
                  have hF69 := cm_fr.up (i := 82) (k := (t + i : Int).toNat) (v := ai_i (8 * z63 + w)) hF42 (by first | (simp; done) | (simp; omega) | (intro i k h; (try simp only at h); (try simp only); omega))
                  generalize hE68 : cm_up E39 82 (t + i : Int).toNat (ai_i (8 * z63 + w)) = E66 at hI67 hF69   ⊢
                  have hz70 : E66 82 (t + i : Int).toNat = ai_i (8 * z63 + w) := by rw [← hE68, cm_up_eq]
                  have ghz70 := gv_eq hz70
                  refine w_const (n := 1) (npc := 143) rfl ?_
                  exact w_zret rfl (by omega) (⟨rfl, rfl, rfl, hI67, hF69, 1, rfl, ⟨by omega, by omega, by rw [← hE68, gv_ne _ _ (by omega), ← hE41, gv_up]; omega⟩⟩) (by omega) (by omega)
              · replace hc38 : ¬ (z37 < i) := hc38
                refine w_aload (i := 0) (npc := 70) rfl rfl rfl ?_
                refine w_getf (i := 81) (ci := 8) (k := 2) (npc := 73) rfl (hI15.pl (by decide)) (hI15.T (by decide) rfl) (by decide) (hI15.ref 81 2 (p := 82) (by decide) (by decide) rfl) ?_
                refine w_iload (i := 2) (npc := 74) rfl rfl ?_
                refine w_iload (i := 6) (npc := 76) rfl rfl ?_
                refine w_iadd (npc := 77) rfl (by omega) ?_
                obtain ⟨z72, hz72, hz72a, hz72b⟩ := hI15.int 82 (b + i : Int).toNat (lo := 0) (hi := 65540) (by decide) (show (b + i : Int).toNat < 531366 by omega) rfl
                have ghz72 := gv_eq hz72
                refine w_ald (i := 82) (t := 1) (n := 531366) (npc := 78) rfl (hI15.pl (by decide)) (hI15.T (by decide) rfl) (by decide) rfl (by omega) hz72 ?_
                refine w_goto (pt := 88) rfl ?_
                refine w_istore (i := 8) (npc := 90) (loc' := [cr 81, ai_i a, ai_i b, ai_i w, ai_i t, ai_i c, ai_i i, ai_i 0, ai_i z72]) rfl rfl ?_
                refine w_aload (i := 0) (npc := 91) rfl rfl rfl ?_
                refine w_getf (i := 81) (ci := 8) (k := 2) (npc := 94) rfl (hI15.pl (by decide)) (hI15.T (by decide) rfl) (by decide) (hI15.ref 81 2 (p := 82) (by decide) (by decide) rfl) ?_
                refine w_iload (i := 4) (npc := 96) rfl rfl ?_
                refine w_iload (i := 6) (npc := 98) rfl rfl ?_
                refine w_ast (i := 82) (k := 1) (n := 531366) (npc := 99) rfl (hI15.pl (by decide)) (hI15.T (by decide) rfl) (by decide) (by omega) cm_af1 ?_
                have hI74 := hI15.puti (i := 82) (k := (t : Int).toNat) (z := i) (lo := 0) (hi := 65540) (by decide) rfl (by omega)
                have hF76 := cm_fr.up (i := 82) (k := (t : Int).toNat) (v := ai_i i) hF15 (by first | (simp; done) | (simp; omega) | (intro i k h; (try simp only at h); (try simp only); omega))
                generalize hE75 : cm_up Eq15 82 (t : Int).toNat (ai_i i) = E73 at hI74 hF76   ⊢
                have hz77 : E73 82 (t : Int).toNat = ai_i i := by rw [← hE75, cm_up_eq]
                have ghz77 := gv_eq hz77
                refine w_iload (i := 8) (npc := 101) rfl rfl ?_
                refine w_const (n := 8) (npc := 103) rfl ?_
                refine w_idiv (npc := 104) rfl (by omega) (by omega) (fun z78 hz78 hz78b hz78c => ?_)
                refine w_iload (i := 7) (npc := 106) rfl rfl ?_
                refine w_const (n := 8) (npc := 108) rfl ?_
                refine w_idiv (npc := 109) rfl (by omega) (by omega) (fun z79 hz79 hz79b hz79c => ?_)
                refine w_isub (npc := 110) rfl (by omega) ?_
                refine w_const (n := 2) (npc := 111) rfl ?_
                refine w_icmp (c := .lt) (npc := 114) (pt := 144) rfl (fun hc81 => ?_) (fun hc81 => ?_)
                · replace hc81 : z78 - z79 < (2 : Int) := hc81
                  refine w_aload (i := 0) (npc := 145) rfl rfl rfl ?_
                  refine w_getf (i := 81) (ci := 8) (k := 2) (npc := 148) rfl (hI74.pl (by decide)) (hI74.T (by decide) rfl) (by decide) (hI74.ref 81 2 (p := 82) (by decide) (by decide) rfl) ?_
                  refine w_iload (i := 4) (npc := 150) rfl rfl ?_
                  refine w_iload (i := 6) (npc := 152) rfl rfl ?_
                  refine w_iadd (npc := 153) rfl (by omega) ?_
                  refine w_iload (i := 7) (npc := 155) rfl rfl ?_
                  refine w_ast (i := 82) (k := 1) (n := 531366) (npc := 156) rfl (hI74.pl (by decide)) (hI74.T (by decide) rfl) (by decide) (by omega) cm_af1 ?_
                  have hI84 := hI74.puti (i := 82) (k := (t + i : Int).toNat) (z := 0) (lo := 0) (hi := 65540) (by decide) rfl (by omega)
                  have hF86 := cm_fr.up (i := 82) (k := (t + i : Int).toNat) (v := ai_i 0) hF76 (by first | (simp; done) | (simp; omega) | (intro i k h; (try simp only at h); (try simp only); omega))
                  generalize hE85 : cm_up E73 82 (t + i : Int).toNat (ai_i 0) = E83 at hI84 hF86   ⊢
                  have hz87 : E83 82 (t + i : Int).toNat = ai_i 0 := by rw [← hE85, cm_up_eq]
                  have ghz87 := gv_eq hz87
                  refine w_iload (i := 5) (npc := 158) rfl rfl ?_
                  refine w_if (c := .eq) (npc := 161) (pt := 172) rfl (fun hc88 => ?_) (fun hc88 => ?_)
                  · replace hc88 : c = (0 : Int) := hc88
                    refine w_const (n := 0) (npc := 173) rfl ?_
                    refine w_istore (i := 5) (npc := 175) (loc' := [cr 81, ai_i a, ai_i b, ai_i w, ai_i t, ai_i 0, ai_i i, ai_i 0, ai_i z72]) rfl rfl ?_
                    refine w_iinc (i := 6) (n := 1) (npc := 178) (loc' := [cr 81, ai_i a, ai_i b, ai_i w, ai_i t, ai_i 0, ai_i (i + 1), ai_i 0, ai_i z72]) rfl rfl (by omega) rfl ?_
                    refine w_goto (pt := 15) rfl ?_
                    exact ih15 (0) (i + 1) (ai_i 0) (ai_i z72) E83 (by omega) hI84 hF86 (by have e1 : gv E83 82 t.toNat = i := (by rw [← hE85, gv_ne _ _ (by omega), ← hE75, gv_up]); omega)
                  · replace hc88 : ¬ (c = (0 : Int)) := hc88
                    refine w_iload (i := 7) (npc := 163) rfl rfl ?_
                    refine w_iload (i := 8) (npc := 165) rfl rfl ?_
                    refine w_icmp (c := .ne) (npc := 168) (pt := 172) rfl (fun hc90 => ?_) (fun hc90 => ?_)
                    · replace hc90 : (0 : Int) ≠ z72 := hc90
                      refine w_const (n := 0) (npc := 173) rfl ?_
                      refine w_istore (i := 5) (npc := 175) (loc' := [cr 81, ai_i a, ai_i b, ai_i w, ai_i t, ai_i 0, ai_i i, ai_i 0, ai_i z72]) rfl rfl ?_
                      refine w_iinc (i := 6) (n := 1) (npc := 178) (loc' := [cr 81, ai_i a, ai_i b, ai_i w, ai_i t, ai_i 0, ai_i (i + 1), ai_i 0, ai_i z72]) rfl rfl (by omega) rfl ?_
                      refine w_goto (pt := 15) rfl ?_
                      exact ih15 (0) (i + 1) (ai_i 0) (ai_i z72) E83 (by omega) hI84 hF86 (by have e1 : gv E83 82 t.toNat = i := (by rw [← hE85, gv_ne _ _ (by omega), ← hE75, gv_up]); omega)
                    · replace hc90 : ¬ ((0 : Int) ≠ z72) := hc90
                      refine w_const (n := 1) (npc := 169) rfl ?_
                      refine w_goto (pt := 173) rfl ?_
                      refine w_istore (i := 5) (npc := 175) (loc' := [cr 81, ai_i a, ai_i b, ai_i w, ai_i t, ai_i 1, ai_i i, ai_i 0, ai_i z72]) rfl rfl ?_
                      refine w_iinc (i := 6) (n := 1) (npc := 178) (loc' := [cr 81, ai_i a, ai_i b, ai_i w, ai_i t, ai_i 1, ai_i (i + 1), ai_i 0, ai_i z72]) rfl rfl (by omega) rfl ?_
                      refine w_goto (pt := 15) rfl ?_
                      exact ih15 (1) (i + 1) (ai_i 0) (ai_i z72) E83 (by omega) hI84 hF86 (by have e1 : gv E83 82 t.toNat = i := (by rw [← hE85, gv_ne _ _ (by omega), ← hE75, gv_up]); omega)
                · replace hc81 : ¬ (z78 - z79 < (2 : Int)) := hc81
                  refine w_aload (i := 0) (npc := 115) rfl rfl rfl ?_
                  refine w_getf (i := 81) (ci := 8) (k := 2) (npc := 118) rfl (hI74.pl (by decide)) (hI74.T (by decide) rfl) (by decide) (hI74.ref 81 2 (p := 82) (by decide) (by decide) rfl) ?_
                  refine w_iload (i := 4) (npc := 120) rfl rfl ?_
                  refine w_iload (i := 6) (npc := 122) rfl rfl ?_
                  refine w_iadd (npc := 123) rfl (by omega) ?_
                  refine w_const (n := 8) (npc := 125) rfl ?_
                  refine w_iload (i := 7) (npc := 127) rfl rfl ?_
                  refine w_const (n := 8) (npc := 129) rfl ?_
                  refine w_idiv (npc := 130) rfl (by omega) (by omega) (fun z94 hz94 hz94b hz94c => ?_)
                  refine w_iload (i := 8) (npc := 132) rfl rfl ?_
                  refine w_const (n := 8) (npc := 134) rfl ?_
                  refine w_idiv (npc := 135) rfl (by omega) (by omega) (fun z95 hz95 hz95b hz95c => ?_)
                  refine w_iadd (npc := 136) rfl (by omega) ?_
                  refine w_const (n := 2) (npc := 137) rfl ?_
                  refine w_idiv (npc := 138) rfl (by omega) (by omega) (fun z97 hz97 hz97b hz97c => ?_)
                  refine w_imul (npc := 139) rfl (by omega) ?_
                  refine w_iload (i := 3) (npc := 140) rfl rfl ?_
                  refine w_iadd (npc := 141) rfl (by omega) ?_
                  refine w_ast (i := 82) (k := 1) (n := 531366) (npc := 142) rfl (hI74.pl (by decide)) (hI74.T (by decide) rfl) (by decide) (by omega) cm_af1 ?_
                  have hI101 := hI74.puti (i := 82) (k := (t + i : Int).toNat) (z := 8 * z97 + w) (lo := 0) (hi := 65540) (by decide) rfl (by omega)
                  have hF103 := cm_fr.up (i := 82) (k := (t + i : Int).toNat) (v := ai_i (8 * z97 + w)) hF76 (by first | (simp; done) | (simp; omega) | (intro i k h; (try simp only at h); (try simp only); omega))
                  generalize hE102 : cm_up E73 82 (t + i : Int).toNat (ai_i (8 * z97 + w)) = E100 at hI101 hF103   ⊢
                  have hz104 : E100 82 (t + i : Int).toNat = ai_i (8 * z97 + w) := by rw [← hE102, cm_up_eq]
                  have ghz104 := gv_eq hz104
                  refine w_const (n := 1) (npc := 143) rfl ?_
                  exact w_zret rfl (by omega) (⟨rfl, rfl, rfl, hI101, hF103, 1, rfl, ⟨by omega, by omega, by rw [← hE102, gv_ne _ _ (by omega), ← hE75, gv_up]; omega⟩⟩) (by omega) (by omega)
          · replace hc3 : ¬ (a = ((-1) : Int)) := hc3
            refine w_iload (i := 6) (npc := 29) rfl rfl ?_
            refine w_aload (i := 0) (npc := 30) rfl rfl rfl ?_
            refine w_getf (i := 81) (ci := 8) (k := 2) (npc := 33) rfl (hI15.pl (by decide)) (hI15.T (by decide) rfl) (by decide) (hI15.ref 81 2 (p := 82) (by decide) (by decide) rfl) ?_
            refine w_iload (i := 1) (npc := 34) rfl rfl ?_
            obtain ⟨z105, hz105, hz105a, hz105b⟩ := hI15.int 82 (a : Int).toNat (lo := 0) (hi := 65540) (by decide) (show (a : Int).toNat < 531366 by omega) rfl
            have ghz105 := gv_eq hz105
            refine w_ald (i := 82) (t := 1) (n := 531366) (npc := 35) rfl (hI15.pl (by decide)) (hI15.T (by decide) rfl) (by decide) rfl (by omega) hz105 ?_
            refine w_icmp (c := .gt) (npc := 38) (pt := 50) rfl (fun hc106 => ?_) (fun hc106 => ?_)
            · replace hc106 : z105 < i := hc106
              refine w_const (n := 0) (npc := 51) rfl ?_
              refine w_istore (i := 7) (npc := 53) (loc' := [cr 81, ai_i a, ai_i b, ai_i w, ai_i t, ai_i c, ai_i i, ai_i 0, u15_8]) rfl rfl ?_
              refine w_iload (i := 5) (npc := 55) rfl rfl ?_
              refine w_if (c := .eq) (npc := 58) (pt := 85) rfl (fun hc107 => ?_) (fun hc107 => ?_)
              · replace hc107 : c = (0 : Int) := hc107
                refine w_const (n := 800) (npc := 88) rfl ?_
                refine w_istore (i := 8) (npc := 90) (loc' := [cr 81, ai_i a, ai_i b, ai_i w, ai_i t, ai_i c, ai_i i, ai_i 0, ai_i 800]) rfl rfl ?_
                refine w_aload (i := 0) (npc := 91) rfl rfl rfl ?_
                refine w_getf (i := 81) (ci := 8) (k := 2) (npc := 94) rfl (hI15.pl (by decide)) (hI15.T (by decide) rfl) (by decide) (hI15.ref 81 2 (p := 82) (by decide) (by decide) rfl) ?_
                refine w_iload (i := 4) (npc := 96) rfl rfl ?_
                refine w_iload (i := 6) (npc := 98) rfl rfl ?_
                refine w_ast (i := 82) (k := 1) (n := 531366) (npc := 99) rfl (hI15.pl (by decide)) (hI15.T (by decide) rfl) (by decide) (by omega) cm_af1 ?_
                have hI109 := hI15.puti (i := 82) (k := (t : Int).toNat) (z := i) (lo := 0) (hi := 65540) (by decide) rfl (by omega)
                have hF111 := cm_fr.up (i := 82) (k := (t : Int).toNat) (v := ai_i i) hF15 (by first | (simp; done) | (simp; omega) | (intro i k h; (try simp only at h); (try simp only); omega))
                generalize hE110 : cm_up Eq15 82 (t : Int).toNat (ai_i i) = E108 at hI109 hF111   ⊢
                have hz112 : E108 82 (t : Int).toNat = ai_i i := by rw [← hE110, cm_up_eq]
                have ghz112 := gv_eq hz112
                refine w_iload (i := 8) (npc := 101) rfl rfl ?_
                refine w_const (n := 8) (npc := 103) rfl ?_
                refine w_idiv (npc := 104) rfl (by omega) (by omega) (fun z113 hz113 hz113b hz113c => ?_)
                refine w_iload (i := 7) (npc := 106) rfl rfl ?_
                refine w_const (n := 8) (npc := 108) rfl ?_
                refine w_idiv (npc := 109) rfl (by omega) (by omega) (fun z114 hz114 hz114b hz114c => ?_)
                refine w_isub (npc := 110) rfl (by omega) ?_
                refine w_const (n := 2) (npc := 111) rfl ?_
                refine w_icmp (c := .lt) (npc := 114) (pt := 144) rfl (fun hc116 => ?_) (fun hc116 => ?_)
                · replace hc116 : z113 - z114 < (2 : Int) := hc116
                  refine w_aload (i := 0) (npc := 145) rfl rfl rfl ?_
                  refine w_getf (i := 81) (ci := 8) (k := 2) (npc := 148) rfl (hI109.pl (by decide)) (hI109.T (by decide) rfl) (by decide) (hI109.ref 81 2 (p := 82) (by decide) (by decide) rfl) ?_
                  refine w_iload (i := 4) (npc := 150) rfl rfl ?_
                  refine w_iload (i := 6) (npc := 152) rfl rfl ?_
                  refine w_iadd (npc := 153) rfl (by omega) ?_
                  refine w_iload (i := 7) (npc := 155) rfl rfl ?_
                  refine w_ast (i := 82) (k := 1) (n := 531366) (npc := 156) rfl (hI109.pl (by decide)) (hI109.T (by decide) rfl) (by decide) (by omega) cm_af1 ?_
                  have hI119 := hI109.puti (i := 82) (k := (t + i : Int).toNat) (z := 0) (lo := 0) (hi := 65540) (by decide) rfl (by omega)
                  have hF121 := cm_fr.up (i := 82) (k := (t + i : Int).toNat) (v := ai_i 0) hF111 (by first | (simp; done) | (simp; omega) | (intro i k h; (try simp only at h); (try simp only); omega))
                  generalize hE120 : cm_up E108 82 (t + i : Int).toNat (ai_i 0) = E118 at hI119 hF121   ⊢
                  have hz122 : E118 82 (t + i : Int).toNat = ai_i 0 := by rw [← hE120, cm_up_eq]
                  have ghz122 := gv_eq hz122
                  refine w_iload (i := 5) (npc := 158) rfl rfl ?_
                  refine w_if (c := .eq) (npc := 161) (pt := 172) rfl (fun hc123 => ?_) (fun hc123 => ?_)
                  · replace hc123 : c = (0 : Int) := hc123
                    refine w_const (n := 0) (npc := 173) rfl ?_
                    refine w_istore (i := 5) (npc := 175) (loc' := [cr 81, ai_i a, ai_i b, ai_i w, ai_i t, ai_i 0, ai_i i, ai_i 0, ai_i 800]) rfl rfl ?_
                    refine w_iinc (i := 6) (n := 1) (npc := 178) (loc' := [cr 81, ai_i a, ai_i b, ai_i w, ai_i t, ai_i 0, ai_i (i + 1), ai_i 0, ai_i 800]) rfl rfl (by omega) rfl ?_
                    refine w_goto (pt := 15) rfl ?_
                    exact ih15 (0) (i + 1) (ai_i 0) (ai_i 800) E118 (by omega) hI119 hF121 (by have e1 : gv E118 82 t.toNat = i := (by rw [← hE120, gv_ne _ _ (by omega), ← hE110, gv_up]); omega)
                  · replace hc123 : ¬ (c = (0 : Int)) := hc123
                    refine w_iload (i := 7) (npc := 163) rfl rfl ?_
                    refine w_iload (i := 8) (npc := 165) rfl rfl ?_
                    refine w_icmp (c := .ne) (npc := 168) (pt := 172) rfl (fun hc125 => ?_) (fun hc125 => ?_)
                    · replace hc125 : (0 : Int) ≠ 800 := hc125
                      refine w_const (n := 0) (npc := 173) rfl ?_
                      refine w_istore (i := 5) (npc := 175) (loc' := [cr 81, ai_i a, ai_i b, ai_i w, ai_i t, ai_i 0, ai_i i, ai_i 0, ai_i 800]) rfl rfl ?_
                      refine w_iinc (i := 6) (n := 1) (npc := 178) (loc' := [cr 81, ai_i a, ai_i b, ai_i w, ai_i t, ai_i 0, ai_i (i + 1), ai_i 0, ai_i 800]) rfl rfl (by omega) rfl ?_
                      refine w_goto (pt := 15) rfl ?_
                      exact ih15 (0) (i + 1) (ai_i 0) (ai_i 800) E118 (by omega) hI119 hF121 (by have e1 : gv E118 82 t.toNat = i := (by rw [← hE120, gv_ne _ _ (by omega), ← hE110, gv_up]); omega)
                    · replace hc125 : ¬ ((0 : Int) ≠ 800) := hc125
                      refine w_const (n := 1) (npc := 169) rfl ?_
                      refine w_goto (pt := 173) rfl ?_
                      refine w_istore (i := 5) (npc := 175) (loc' := [cr 81, ai_i a, ai_i b, ai_i w, ai_i t, ai_i 1, ai_i i, ai_i 0, ai_i 800]) rfl rfl ?_
                      refine w_iinc (i := 6) (n := 1) (npc := 178) (loc' := [cr 81, ai_i a, ai_i b, ai_i w, ai_i t, ai_i 1, ai_i (i + 1), ai_i 0, ai_i 800]) rfl rfl (by omega) rfl ?_
                      refine w_goto (pt := 15) rfl ?_
                      exact ih15 (1) (i + 1) (ai_i 0) (ai_i 800) E118 (by omega) hI119 hF121 (by have e1 : gv E118 82 t.toNat = i := (by rw [← hE120, gv_ne _ _ (by omega), ← hE110, gv_up]); omega)
                · replace hc116 : ¬ (z113 - z114 < (2 : Int)) := hc116
                  refine w_aload (i := 0) (npc := 115) rfl rfl rfl ?_
                  refine w_getf (i := 81) (ci := 8) (k := 2) (npc := 118) rfl (hI109.pl (by decide)) (hI109.T (by decide) rfl) (by decide) (hI109.ref 81 2 (p := 82) (by decide) (by decide) rfl) ?_
                  refine w_iload (i := 4) (npc := 120) rfl rfl ?_
                  refine w_iload (i := 6) (npc := 122) rfl rfl ?_
                  refine w_iadd (npc := 123) rfl (by omega) ?_
                  refine w_const (n := 8) (npc := 125) rfl ?_
                  refine w_iload (i := 7) (npc := 127) rfl rfl ?_
                  refine w_const (n := 8) (npc := 129) rfl ?_
                  refine w_idiv (npc := 130) rfl (by omega) (by omega) (fun z129 hz129 hz129b hz129c => ?_)
                  refine w_iload (i := 8) (npc := 132) rfl rfl ?_
                  refine w_const (n := 8) (npc := 134) rfl ?_
                  refine w_idiv (npc := 135) rfl (by omega) (by omega) (fun z130 hz130 hz130b hz130c => ?_)
                  refine w_iadd (npc := 136) rfl (by omega) ?_
                  refine w_const (n := 2) (npc := 137) rfl ?_
                  refine w_idiv (npc := 138) rfl (by omega) (by omega) (fun z132 hz132 hz132b hz132c => ?_)
                  refine w_imul (npc := 139) rfl (by omega) ?_
                  refine w_iload (i := 3) (npc := 140) rfl rfl ?_
                  refine w_iadd (npc := 141) rfl (by omega) ?_
                  refine w_ast (i := 82) (k := 1) (n := 531366) (npc := 142) rfl (hI109.pl (by decide)) (hI109.T (by decide) rfl) (by decide) (by omega) cm_af1 ?_
                  have hI136 := hI109.puti (i := 82) (k := (t + i : Int).toNat) (z := 8 * z132 + w) (lo := 0) (hi := 65540) (by decide) rfl (by omega)
                  have hF138 := cm_fr.up (i := 82) (k := (t + i : Int).toNat) (v := ai_i (8 * z132 + w)) hF111 (by first | (simp; done) | (simp; omega) | (intro i k h; (try simp only at h); (try simp only); omega))
                  generalize hE137 : cm_up E108 82 (t + i : Int).toNat (ai_i (8 * z132 + w)) = E135 at hI136 hF138   ⊢
                  have hz139 : E135 82 (t + i : Int).toNat = ai_i (8 * z132 + w) := by rw [← hE137, cm_up_eq]
                  have ghz139 := gv_eq hz139
                  refine w_const (n := 1) (npc := 143) rfl ?_
                  exact w_zret rfl (by omega) (⟨rfl, rfl, rfl, hI136, hF138, 1, rfl, ⟨by omega, by omega, by rw [← hE137, gv_ne _ _ (by omega), ← hE110, gv_up]; omega⟩⟩) (by omega) (by omega)
              · replace hc107 : ¬ (c = (0 : Int)) := hc107
                refine w_iload (i := 6) (npc := 60) rfl rfl ?_
                refine w_aload (i := 0) (npc := 61) rfl rfl rfl ?_
                refine w_getf (i := 81) (ci := 8) (k := 2) (npc := 64) rfl (hI15.pl (by decide)) (hI15.T (by decide) rfl) (by decide) (hI15.ref 81 2 (p := 82) (by decide) (by decide) rfl) ?_
                refine w_iload (i := 2) (npc := 65) rfl rfl ?_
                obtain ⟨z140, hz140, hz140a, hz140b⟩ := hI15.int 82 (b : Int).toNat (lo := 0) (hi := 65540) (by decide) (show (b : Int).toNat < 531366 by omega) rfl
                have ghz140 := gv_eq hz140
                refine w_ald (i := 82) (t := 1) (n := 531366) (npc := 66) rfl (hI15.pl (by decide)) (hI15.T (by decide) rfl) (by decide) rfl (by omega) hz140 ?_
                refine w_icmp (c := .gt) (npc := 69) (pt := 81) rfl (fun hc141 => ?_) (fun hc141 => ?_)
                · replace hc141 : z140 < i := hc141
                  refine w_const (n := 0) (npc := 82) rfl ?_
                  refine w_goto (pt := 88) rfl ?_
                  refine w_istore (i := 8) (npc := 90) (loc' := [cr 81, ai_i a, ai_i b, ai_i w, ai_i t, ai_i c, ai_i i, ai_i 0, ai_i 0]) rfl rfl ?_
                  refine w_aload (i := 0) (npc := 91) rfl rfl rfl ?_
                  refine w_getf (i := 81) (ci := 8) (k := 2) (npc := 94) rfl (hI15.pl (by decide)) (hI15.T (by decide) rfl) (by decide) (hI15.ref 81 2 (p := 82) (by decide) (by decide) rfl) ?_
                  refine w_iload (i := 4) (npc := 96) rfl rfl ?_
                  refine w_iload (i := 6) (npc := 98) rfl rfl ?_
                  refine w_ast (i := 82) (k := 1) (n := 531366) (npc := 99) rfl (hI15.pl (by decide)) (hI15.T (by decide) rfl) (by decide) (by omega) cm_af1 ?_
                  have hI143 := hI15.puti (i := 82) (k := (t : Int).toNat) (z := i) (lo := 0) (hi := 65540) (by decide) rfl (by omega)
                  have hF145 := cm_fr.up (i := 82) (k := (t : Int).toNat) (v := ai_i i) hF15 (by first | (simp; done) | (simp; omega) | (intro i k h; (try simp only at h); (try simp only); omega))
                  generalize hE144 : cm_up Eq15 82 (t : Int).toNat (ai_i i) = E142 at hI143 hF145   ⊢
                  have hz146 : E142 82 (t : Int).toNat = ai_i i := by rw [← hE144, cm_up_eq]
                  have ghz146 := gv_eq hz146
                  refine w_iload (i := 8) (npc := 101) rfl rfl ?_
                  refine w_const (n := 8) (npc := 103) rfl ?_
                  refine w_idiv (npc := 104) rfl (by omega) (by omega) (fun z147 hz147 hz147b hz147c => ?_)
                  refine w_iload (i := 7) (npc := 106) rfl rfl ?_
                  refine w_const (n := 8) (npc := 108) rfl ?_
                  refine w_idiv (npc := 109) rfl (by omega) (by omega) (fun z148 hz148 hz148b hz148c => ?_)
                  refine w_isub (npc := 110) rfl (by omega) ?_
                  refine w_const (n := 2) (npc := 111) rfl ?_
                  refine w_icmp (c := .lt) (npc := 114) (pt := 144) rfl (fun hc150 => ?_) (fun hc150 => ?_)
                  · replace hc150 : z147 - z148 < (2 : Int) := hc150
                    refine w_aload (i := 0) (npc := 145) rfl rfl rfl ?_
                    refine w_getf (i := 81) (ci := 8) (k := 2) (npc := 148) rfl (hI143.pl (by decide)) (hI143.T (by decide) rfl) (by decide) (hI143.ref 81 2 (p := 82) (by decide) (by decide) rfl) ?_
                    refine w_iload (i := 4) (npc := 150) rfl rfl ?_
                    refine w_iload (i := 6) (npc := 152) rfl rfl ?_
                    refine w_iadd (npc := 153) rfl (by omega) ?_
                    refine w_iload (i := 7) (npc := 155) rfl rfl ?_
                    refine w_ast (i := 82) (k := 1) (n := 531366) (npc := 156) rfl (hI143.pl (by decide)) (hI143.T (by decide) rfl) (by decide) (by omega) cm_af1 ?_
                    have hI153 := hI143.puti (i := 82) (k := (t + i : Int).toNat) (z := 0) (lo := 0) (hi := 65540) (by decide) rfl (by omega)
                    have hF155 := cm_fr.up (i := 82) (k := (t + i : Int).toNat) (v := ai_i 0) hF145 (by first | (simp; done) | (simp; omega) | (intro i k h; (try simp only at h); (try simp only); omega))
                    generalize hE154 : cm_up E142 82 (t + i : Int).toNat (ai_i 0) = E152 at hI153 hF155   ⊢
                    have hz156 : E152 82 (t + i : Int).toNat = ai_i 0 := by rw [← hE154, cm_up_eq]
                    have ghz156 := gv_eq hz156
                    refine w_iload (i := 5) (npc := 158) rfl rfl ?_
                    refine w_if (c := .eq) (npc := 161) (pt := 172) rfl (fun hc157 => ?_) (fun hc157 => ?_)
                    · replace hc157 : c = (0 : Int) := hc157
                      refine w_const (n := 0) (npc := 173) rfl ?_
                      refine w_istore (i := 5) (npc := 175) (loc' := [cr 81, ai_i a, ai_i b, ai_i w, ai_i t, ai_i 0, ai_i i, ai_i 0, ai_i 0]) rfl rfl ?_
                      refine w_iinc (i := 6) (n := 1) (npc := 178) (loc' := [cr 81, ai_i a, ai_i b, ai_i w, ai_i t, ai_i 0, ai_i (i + 1), ai_i 0, ai_i 0]) rfl rfl (by omega) rfl ?_
                      refine w_goto (pt := 15) rfl ?_
                      exact ih15 (0) (i + 1) (ai_i 0) (ai_i 0) E152 (by omega) hI153 hF155 (by have e1 : gv E152 82 t.toNat = i := (by rw [← hE154, gv_ne _ _ (by omega), ← hE144, gv_up]); omega)
                    · replace hc157 : ¬ (c = (0 : Int)) := hc157
                      refine w_iload (i := 7) (npc := 163) rfl rfl ?_
                      refine w_iload (i := 8) (npc := 165) rfl rfl ?_
                      refine w_icmp (c := .ne) (npc := 168) (pt := 172) rfl (fun hc159 => ?_) (fun hc159 => ?_)
                      · replace hc159 : (0 : Int) ≠ 0 := hc159
                        refine w_const (n := 0) (npc := 173) rfl ?_
                        refine w_istore (i := 5) (npc := 175) (loc' := [cr 81, ai_i a, ai_i b, ai_i w, ai_i t, ai_i 0, ai_i i, ai_i 0, ai_i 0]) rfl rfl ?_
                        refine w_iinc (i := 6) (n := 1) (npc := 178) (loc' := [cr 81, ai_i a, ai_i b, ai_i w, ai_i t, ai_i 0, ai_i (i + 1), ai_i 0, ai_i 0]) rfl rfl (by omega) rfl ?_
                        refine w_goto (pt := 15) rfl ?_
                        exact ih15 (0) (i + 1) (ai_i 0) (ai_i 0) E152 (by omega) hI153 hF155 (by have e1 : gv E152 82 t.toNat = i := (by rw [← hE154, gv_ne _ _ (by omega), ← hE144, gv_up]); omega)
                      · replace hc159 : ¬ ((0 : Int) ≠ 0) := hc159
                        refine w_const (n := 1) (npc := 169) rfl ?_
                        refine w_goto (pt := 173) rfl ?_
                        refine w_istore (i := 5) (npc := 175) (loc' := [cr 81, ai_i a, ai_i b, ai_i w, ai_i t, ai_i 1, ai_i i, ai_i 0, ai_i 0]) rfl rfl ?_
                        refine w_iinc (i := 6) (n := 1) (npc := 178) (loc' := [cr 81, ai_i a, ai_i b, ai_i w, ai_i t, ai_i 1, ai_i (i + 1), ai_i 0, ai_i 0]) rfl rfl (by omega) rfl ?_
                        refine w_goto (pt := 15) rfl ?_
                        exact ih15 (1) (i + 1) (ai_i 0) (ai_i 0) E152 (by omega) hI153 hF155 (by have e1 : gv E152 82 t.toNat = i := (by rw [← hE154, gv_ne _ _ (by omega), ← hE144, gv_up]); omega)
                  · replace hc150 : ¬ (z147 - z148 < (2 : Int)) := hc150
                    refine w_aload (i := 0) (npc := 115) rfl rfl rfl ?_
                    refine w_getf (i := 81) (ci := 8) (k := 2) (npc := 118) rfl (hI143.pl (by decide)) (hI143.T (by decide) rfl) (by decide) (hI143.ref 81 2 (p := 82) (by decide) (by decide) rfl) ?_
                    refine w_iload (i := 4) (npc := 120) rfl rfl ?_
                    refine w_iload (i := 6) (npc := 122) rfl rfl ?_
                    refine w_iadd (npc := 123) rfl (by omega) ?_
                    refine w_const (n := 8) (npc := 125) rfl ?_
                    refine w_iload (i := 7) (npc := 127) rfl rfl ?_
                    refine w_const (n := 8) (npc := 129) rfl ?_
                    refine w_idiv (npc := 130) rfl (by omega) (by omega) (fun z163 hz163 hz163b hz163c => ?_)
                    refine w_iload (i := 8) (npc := 132) rfl rfl ?_
                    refine w_const (n := 8) (npc := 134) rfl ?_
                    refine w_idiv (npc := 135) rfl (by omega) (by omega) (fun z164 hz164 hz164b hz164c => ?_)
                    refine w_iadd (npc := 136) rfl (by omega) ?_
                    refine w_const (n := 2) (npc := 137) rfl ?_
                    refine w_idiv (npc := 138) rfl (by omega) (by omega) (fun z166 hz166 hz166b hz166c => ?_)
                    refine w_imul (npc := 139) rfl (by omega) ?_
                    refine w_iload (i := 3) (npc := 140) rfl rfl ?_
                    refine w_iadd (npc := 141) rfl (by omega) ?_
                    refine w_ast (i := 82) (k := 1) (n := 531366) (npc := 142) rfl (hI143.pl (by decide)) (hI143.T (by decide) rfl) (by decide) (by omega) cm_af1 ?_
                    have hI170 := hI143.puti (i := 82) (k := (t + i : Int).toNat) (z := 8 * z166 + w) (lo := 0) (hi := 65540) (by decide) rfl (by omega)
                    have hF172 := cm_fr.up (i := 82) (k := (t + i : Int).toNat) (v := ai_i (8 * z166 + w)) hF145 (by first | (simp; done) | (simp; omega) | (intro i k h; (try simp only at h); (try simp only); omega))
                    generalize hE171 : cm_up E142 82 (t + i : Int).toNat (ai_i (8 * z166 + w)) = E169 at hI170 hF172   ⊢
                    have hz173 : E169 82 (t + i : Int).toNat = ai_i (8 * z166 + w) := by rw [← hE171, cm_up_eq]
                    have ghz173 := gv_eq hz173
                    refine w_const (n := 1) (npc := 143) rfl ?_
                    exact w_zret rfl (by omega) (⟨rfl, rfl, rfl, hI170, hF172, 1, rfl, ⟨by omega, by omega, by rw [← hE171, gv_ne _ _ (by omega), ← hE144, gv_up]; omega⟩⟩) (by omega) (by omega)
                · replace hc141 : ¬ (z140 < i) := hc141
                  refine w_aload (i := 0) (npc := 70) rfl rfl rfl ?_
                  refine w_getf (i := 81) (ci := 8) (k := 2) (npc := 73) rfl (hI15.pl (by decide)) (hI15.T (by decide) rfl) (by decide) (hI15.ref 81 2 (p := 82) (by decide) (by decide) rfl) ?_
                  refine w_iload (i := 2) (npc := 74) rfl rfl ?_
                  refine w_iload (i := 6) (npc := 76) rfl rfl ?_
                  refine w_iadd (npc := 77) rfl (by omega) ?_
                  obtain ⟨z175, hz175, hz175a, hz175b⟩ := hI15.int 82 (b + i : Int).toNat (lo := 0) (hi := 65540) (by decide) (show (b + i : Int).toNat < 531366 by omega) rfl
                  have ghz175 := gv_eq hz175
                  refine w_ald (i := 82) (t := 1) (n := 531366) (npc := 78) rfl (hI15.pl (by decide)) (hI15.T (by decide) rfl) (by decide) rfl (by omega) hz175 ?_
                  refine w_goto (pt := 88) rfl ?_
                  refine w_istore (i := 8) (npc := 90) (loc' := [cr 81, ai_i a, ai_i b, ai_i w, ai_i t, ai_i c, ai_i i, ai_i 0, ai_i z175]) rfl rfl ?_
                  refine w_aload (i := 0) (npc := 91) rfl rfl rfl ?_
                  refine w_getf (i := 81) (ci := 8) (k := 2) (npc := 94) rfl (hI15.pl (by decide)) (hI15.T (by decide) rfl) (by decide) (hI15.ref 81 2 (p := 82) (by decide) (by decide) rfl) ?_
                  refine w_iload (i := 4) (npc := 96) rfl rfl ?_
                  refine w_iload (i := 6) (npc := 98) rfl rfl ?_
                  refine w_ast (i := 82) (k := 1) (n := 531366) (npc := 99) rfl (hI15.pl (by decide)) (hI15.T (by decide) rfl) (by decide) (by omega) cm_af1 ?_
                  have hI177 := hI15.puti (i := 82) (k := (t : Int).toNat) (z := i) (lo := 0) (hi := 65540) (by decide) rfl (by omega)
                  have hF179 := cm_fr.up (i := 82) (k := (t : Int).toNat) (v := ai_i i) hF15 (by first | (simp; done) | (simp; omega) | (intro i k h; (try simp only at h); (try simp only); omega))
                  generalize hE178 : cm_up Eq15 82 (t : Int).toNat (ai_i i) = E176 at hI177 hF179   ⊢
                  have hz180 : E176 82 (t : Int).toNat = ai_i i := by rw [← hE178, cm_up_eq]
                  have ghz180 := gv_eq hz180
                  refine w_iload (i := 8) (npc := 101) rfl rfl ?_
                  refine w_const (n := 8) (npc := 103) rfl ?_
                  refine w_idiv (npc := 104) rfl (by omega) (by omega) (fun z181 hz181 hz181b hz181c => ?_)
                  refine w_iload (i := 7) (npc := 106) rfl rfl ?_
                  refine w_const (n := 8) (npc := 108) rfl ?_
                  refine w_idiv (npc := 109) rfl (by omega) (by omega) (fun z182 hz182 hz182b hz182c => ?_)
                  refine w_isub (npc := 110) rfl (by omega) ?_
                  refine w_const (n := 2) (npc := 111) rfl ?_
                  refine w_icmp (c := .lt) (npc := 114) (pt := 144) rfl (fun hc184 => ?_) (fun hc184 => ?_)
                  · replace hc184 : z181 - z182 < (2 : Int) := hc184
                    refine w_aload (i := 0) (npc := 145) rfl rfl rfl ?_
                    refine w_getf (i := 81) (ci := 8) (k := 2) (npc := 148) rfl (hI177.pl (by decide)) (hI177.T (by decide) rfl) (by decide) (hI177.ref 81 2 (p := 82) (by decide) (by decide) rfl) ?_
                    refine w_iload (i := 4) (npc := 150) rfl rfl ?_
                    refine w_iload (i := 6) (npc := 152) rfl rfl ?_
                    refine w_iadd (npc := 153) rfl (by omega) ?_
                    refine w_iload (i := 7) (npc := 155) rfl rfl ?_
                    refine w_ast (i := 82) (k := 1) (n := 531366) (npc := 156) rfl (hI177.pl (by decide)) (hI177.T (by decide) rfl) (by decide) (by omega) cm_af1 ?_
                    have hI187 := hI177.puti (i := 82) (k := (t + i : Int).toNat) (z := 0) (lo := 0) (hi := 65540) (by decide) rfl (by omega)
                    have hF189 := cm_fr.up (i := 82) (k := (t + i : Int).toNat) (v := ai_i 0) hF179 (by first | (simp; done) | (simp; omega) | (intro i k h; (try simp only at h); (try simp only); omega))
                    generalize hE188 : cm_up E176 82 (t + i : Int).toNat (ai_i 0) = E186 at hI187 hF189   ⊢
                    have hz190 : E186 82 (t + i : Int).toNat = ai_i 0 := by rw [← hE188, cm_up_eq]
                    have ghz190 := gv_eq hz190
                    refine w_iload (i := 5) (npc := 158) rfl rfl ?_
                    refine w_if (c := .eq) (npc := 161) (pt := 172) rfl (fun hc191 => ?_) (fun hc191 => ?_)
                    · replace hc191 : c = (0 : Int) := hc191
                      refine w_const (n := 0) (npc := 173) rfl ?_
                      refine w_istore (i := 5) (npc := 175) (loc' := [cr 81, ai_i a, ai_i b, ai_i w, ai_i t, ai_i 0, ai_i i, ai_i 0, ai_i z175]) rfl rfl ?_
                      refine w_iinc (i := 6) (n := 1) (npc := 178) (loc' := [cr 81, ai_i a, ai_i b, ai_i w, ai_i t, ai_i 0, ai_i (i + 1), ai_i 0, ai_i z175]) rfl rfl (by omega) rfl ?_
                      refine w_goto (pt := 15) rfl ?_
                      exact ih15 (0) (i + 1) (ai_i 0) (ai_i z175) E186 (by omega) hI187 hF189 (by have e1 : gv E186 82 t.toNat = i := (by rw [← hE188, gv_ne _ _ (by omega), ← hE178, gv_up]); omega)
                    · replace hc191 : ¬ (c = (0 : Int)) := hc191
                      refine w_iload (i := 7) (npc := 163) rfl rfl ?_
                      refine w_iload (i := 8) (npc := 165) rfl rfl ?_
                      refine w_icmp (c := .ne) (npc := 168) (pt := 172) rfl (fun hc193 => ?_) (fun hc193 => ?_)
                      · replace hc193 : (0 : Int) ≠ z175 := hc193
                        refine w_const (n := 0) (npc := 173) rfl ?_
                        refine w_istore (i := 5) (npc := 175) (loc' := [cr 81, ai_i a, ai_i b, ai_i w, ai_i t, ai_i 0, ai_i i, ai_i 0, ai_i z175]) rfl rfl ?_
                        refine w_iinc (i := 6) (n := 1) (npc := 178) (loc' := [cr 81, ai_i a, ai_i b, ai_i w, ai_i t, ai_i 0, ai_i (i + 1), ai_i 0, ai_i z175]) rfl rfl (by omega) rfl ?_
                        refine w_goto (pt := 15) rfl ?_
                        exact ih15 (0) (i + 1) (ai_i 0) (ai_i z175) E186 (by omega) hI187 hF189 (by have e1 : gv E186 82 t.toNat = i := (by rw [← hE188, gv_ne _ _ (by omega), ← hE178, gv_up]); omega)
                      · replace hc193 : ¬ ((0 : Int) ≠ z175) := hc193
                        refine w_const (n := 1) (npc := 169) rfl ?_
                        refine w_goto (pt := 173) rfl ?_
                        refine w_istore (i := 5) (npc := 175) (loc' := [cr 81, ai_i a, ai_i b, ai_i w, ai_i t, ai_i 1, ai_i i, ai_i 0, ai_i z175]) rfl rfl ?_
                        refine w_iinc (i := 6) (n := 1) (npc := 178) (loc' := [cr 81, ai_i a, ai_i b, ai_i w, ai_i t, ai_i 1, ai_i (i + 1), ai_i 0, ai_i z175]) rfl rfl (by omega) rfl ?_
                        refine w_goto (pt := 15) rfl ?_
                        exact ih15 (1) (i + 1) (ai_i 0) (ai_i z175) E186 (by omega) hI187 hF189 (by have e1 : gv E186 82 t.toNat = i := (by rw [← hE188, gv_ne _ _ (by omega), ← hE178, gv_up]); omega)
                  · replace hc184 : ¬ (z181 - z182 < (2 : Int)) := hc184
                    refine w_aload (i := 0) (npc := 115) rfl rfl rfl ?_
                    refine w_getf (i := 81) (ci := 8) (k := 2) (npc := 118) rfl (hI177.pl (by decide)) (hI177.T (by decide) rfl) (by decide) (hI177.ref 81 2 (p := 82) (by decide) (by decide) rfl) ?_
                    refine w_iload (i := 4) (npc := 120) rfl rfl ?_
                    refine w_iload (i := 6) (npc := 122) rfl rfl ?_
                    refine w_iadd (npc := 123) rfl (by omega) ?_
                    refine w_const (n := 8) (npc := 125) rfl ?_
                    refine w_iload (i := 7) (npc := 127) rfl rfl ?_
                    refine w_const (n := 8) (npc := 129) rfl ?_
                    refine w_idiv (npc := 130) rfl (by omega) (by omega) (fun z197 hz197 hz197b hz197c => ?_)
                    refine w_iload (i := 8) (npc := 132) rfl rfl ?_
                    refine w_const (n := 8) (npc := 134) rfl ?_
                    refine w_idiv (npc := 135) rfl (by omega) (by omega) (fun z198 hz198 hz198b hz198c => ?_)
                    refine w_iadd (npc := 136) rfl (by omega) ?_
                    refine w_const (n := 2) (npc := 137) rfl ?_
                    refine w_idiv (npc := 138) rfl (by omega) (by omega) (fun z200 hz200 hz200b hz200c => ?_)
                    refine w_imul (npc := 139) rfl (by omega) ?_
                    refine w_iload (i := 3) (npc := 140) rfl rfl ?_
                    refine w_iadd (npc := 141) rfl (by omega) ?_
                    refine w_ast (i := 82) (k := 1) (n := 531366) (npc := 142) rfl (hI177.pl (by decide)) (hI177.T (by decide) rfl) (by decide) (by omega) cm_af1 ?_
                    have hI204 := hI177.puti (i := 82) (k := (t + i : Int).toNat) (z := 8 * z200 + w) (lo := 0) (hi := 65540) (by decide) rfl (by omega)
                    have hF206 := cm_fr.up (i := 82) (k := (t + i : Int).toNat) (v := ai_i (8 * z200 + w)) hF179 (by first | (simp; done) | (simp; omega) | (intro i k h; (try simp only at h); (try simp only); omega))
                    generalize hE205 : cm_up E176 82 (t + i : Int).toNat (ai_i (8 * z200 + w)) = E203 at hI204 hF206   ⊢
                    have hz207 : E203 82 (t + i : Int).toNat = ai_i (8 * z200 + w) := by rw [← hE205, cm_up_eq]
                    have ghz207 := gv_eq hz207
                    refine w_const (n := 1) (npc := 143) rfl ?_
                    exact w_zret rfl (by omega) (⟨rfl, rfl, rfl, hI204, hF206, 1, rfl, ⟨by omega, by omega, by rw [← hE205, gv_ne _ _ (by omega), ← hE178, gv_up]; omega⟩⟩) (by omega) (by omega)
            · replace hc106 : ¬ (z105 < i) := hc106
              refine w_aload (i := 0) (npc := 39) rfl rfl rfl ?_
              refine w_getf (i := 81) (ci := 8) (k := 2) (npc := 42) rfl (hI15.pl (by decide)) (hI15.T (by decide) rfl) (by decide) (hI15.ref 81 2 (p := 82) (by decide) (by decide) rfl) ?_
              refine w_iload (i := 1) (npc := 43) rfl rfl ?_
              refine w_iload (i := 6) (npc := 45) rfl rfl ?_
              refine w_iadd (npc := 46) rfl (by omega) ?_
              obtain ⟨z209, hz209, hz209a, hz209b⟩ := hI15.int 82 (a + i : Int).toNat (lo := 0) (hi := 65540) (by decide) (show (a + i : Int).toNat < 531366 by omega) rfl
              have ghz209 := gv_eq hz209
              refine w_ald (i := 82) (t := 1) (n := 531366) (npc := 47) rfl (hI15.pl (by decide)) (hI15.T (by decide) rfl) (by decide) rfl (by omega) hz209 ?_
              refine w_goto (pt := 51) rfl ?_
              refine w_istore (i := 7) (npc := 53) (loc' := [cr 81, ai_i a, ai_i b, ai_i w, ai_i t, ai_i c, ai_i i, ai_i z209, u15_8]) rfl rfl ?_
              refine w_iload (i := 5) (npc := 55) rfl rfl ?_
              refine w_if (c := .eq) (npc := 58) (pt := 85) rfl (fun hc210 => ?_) (fun hc210 => ?_)
              · replace hc210 : c = (0 : Int) := hc210
                refine w_const (n := 800) (npc := 88) rfl ?_
                refine w_istore (i := 8) (npc := 90) (loc' := [cr 81, ai_i a, ai_i b, ai_i w, ai_i t, ai_i c, ai_i i, ai_i z209, ai_i 800]) rfl rfl ?_
                refine w_aload (i := 0) (npc := 91) rfl rfl rfl ?_
                refine w_getf (i := 81) (ci := 8) (k := 2) (npc := 94) rfl (hI15.pl (by decide)) (hI15.T (by decide) rfl) (by decide) (hI15.ref 81 2 (p := 82) (by decide) (by decide) rfl) ?_
                refine w_iload (i := 4) (npc := 96) rfl rfl ?_
                refine w_iload (i := 6) (npc := 98) rfl rfl ?_
                refine w_ast (i := 82) (k := 1) (n := 531366) (npc := 99) rfl (hI15.pl (by decide)) (hI15.T (by decide) rfl) (by decide) (by omega) cm_af1 ?_
                have hI212 := hI15.puti (i := 82) (k := (t : Int).toNat) (z := i) (lo := 0) (hi := 65540) (by decide) rfl (by omega)
                have hF214 := cm_fr.up (i := 82) (k := (t : Int).toNat) (v := ai_i i) hF15 (by first | (simp; done) | (simp; omega) | (intro i k h; (try simp only at h); (try simp only); omega))
                generalize hE213 : cm_up Eq15 82 (t : Int).toNat (ai_i i) = E211 at hI212 hF214   ⊢
                have hz215 : E211 82 (t : Int).toNat = ai_i i := by rw [← hE213, cm_up_eq]
                have ghz215 := gv_eq hz215
                refine w_iload (i := 8) (npc := 101) rfl rfl ?_
                refine w_const (n := 8) (npc := 103) rfl ?_
                refine w_idiv (npc := 104) rfl (by omega) (by omega) (fun z216 hz216 hz216b hz216c => ?_)
                refine w_iload (i := 7) (npc := 106) rfl rfl ?_
                refine w_const (n := 8) (npc := 108) rfl ?_
                refine w_idiv (npc := 109) rfl (by omega) (by omega) (fun z217 hz217 hz217b hz217c => ?_)
                refine w_isub (npc := 110) rfl (by omega) ?_
                refine w_const (n := 2) (npc := 111) rfl ?_
                refine w_icmp (c := .lt) (npc := 114) (pt := 144) rfl (fun hc219 => ?_) (fun hc219 => ?_)
                · replace hc219 : z216 - z217 < (2 : Int) := hc219
                  refine w_aload (i := 0) (npc := 145) rfl rfl rfl ?_
                  refine w_getf (i := 81) (ci := 8) (k := 2) (npc := 148) rfl (hI212.pl (by decide)) (hI212.T (by decide) rfl) (by decide) (hI212.ref 81 2 (p := 82) (by decide) (by decide) rfl) ?_
                  refine w_iload (i := 4) (npc := 150) rfl rfl ?_
                  refine w_iload (i := 6) (npc := 152) rfl rfl ?_
                  refine w_iadd (npc := 153) rfl (by omega) ?_
                  refine w_iload (i := 7) (npc := 155) rfl rfl ?_
                  refine w_ast (i := 82) (k := 1) (n := 531366) (npc := 156) rfl (hI212.pl (by decide)) (hI212.T (by decide) rfl) (by decide) (by omega) cm_af1 ?_
                  have hI222 := hI212.puti (i := 82) (k := (t + i : Int).toNat) (z := z209) (lo := 0) (hi := 65540) (by decide) rfl (by omega)
                  have hF224 := cm_fr.up (i := 82) (k := (t + i : Int).toNat) (v := ai_i z209) hF214 (by first | (simp; done) | (simp; omega) | (intro i k h; (try simp only at h); (try simp only); omega))
                  generalize hE223 : cm_up E211 82 (t + i : Int).toNat (ai_i z209) = E221 at hI222 hF224   ⊢
                  have hz225 : E221 82 (t + i : Int).toNat = ai_i z209 := by rw [← hE223, cm_up_eq]
                  have ghz225 := gv_eq hz225
                  refine w_iload (i := 5) (npc := 158) rfl rfl ?_
                  refine w_if (c := .eq) (npc := 161) (pt := 172) rfl (fun hc226 => ?_) (fun hc226 => ?_)
                  · replace hc226 : c = (0 : Int) := hc226
                    refine w_const (n := 0) (npc := 173) rfl ?_
                    refine w_istore (i := 5) (npc := 175) (loc' := [cr 81, ai_i a, ai_i b, ai_i w, ai_i t, ai_i 0, ai_i i, ai_i z209, ai_i 800]) rfl rfl ?_
                    refine w_iinc (i := 6) (n := 1) (npc := 178) (loc' := [cr 81, ai_i a, ai_i b, ai_i w, ai_i t, ai_i 0, ai_i (i + 1), ai_i z209, ai_i 800]) rfl rfl (by omega) rfl ?_
                    refine w_goto (pt := 15) rfl ?_
                    exact ih15 (0) (i + 1) (ai_i z209) (ai_i 800) E221 (by omega) hI222 hF224 (by have e1 : gv E221 82 t.toNat = i := (by rw [← hE223, gv_ne _ _ (by omega), ← hE213, gv_up]); omega)
                  · replace hc226 : ¬ (c = (0 : Int)) := hc226
                    refine w_iload (i := 7) (npc := 163) rfl rfl ?_
                    refine w_iload (i := 8) (npc := 165) rfl rfl ?_
                    refine w_icmp (c := .ne) (npc := 168) (pt := 172) rfl (fun hc228 => ?_) (fun hc228 => ?_)
                    · replace hc228 : z209 ≠ (800 : Int) := hc228
                      refine w_const (n := 0) (npc := 173) rfl ?_
                      refine w_istore (i := 5) (npc := 175) (loc' := [cr 81, ai_i a, ai_i b, ai_i w, ai_i t, ai_i 0, ai_i i, ai_i z209, ai_i 800]) rfl rfl ?_
                      refine w_iinc (i := 6) (n := 1) (npc := 178) (loc' := [cr 81, ai_i a, ai_i b, ai_i w, ai_i t, ai_i 0, ai_i (i + 1), ai_i z209, ai_i 800]) rfl rfl (by omega) rfl ?_
                      refine w_goto (pt := 15) rfl ?_
                      exact ih15 (0) (i + 1) (ai_i z209) (ai_i 800) E221 (by omega) hI222 hF224 (by have e1 : gv E221 82 t.toNat = i := (by rw [← hE223, gv_ne _ _ (by omega), ← hE213, gv_up]); omega)
                    · replace hc228 : ¬ (z209 ≠ (800 : Int)) := hc228
                      refine w_const (n := 1) (npc := 169) rfl ?_
                      refine w_goto (pt := 173) rfl ?_
                      refine w_istore (i := 5) (npc := 175) (loc' := [cr 81, ai_i a, ai_i b, ai_i w, ai_i t, ai_i 1, ai_i i, ai_i z209, ai_i 800]) rfl rfl ?_
                      refine w_iinc (i := 6) (n := 1) (npc := 178) (loc' := [cr 81, ai_i a, ai_i b, ai_i w, ai_i t, ai_i 1, ai_i (i + 1), ai_i z209, ai_i 800]) rfl rfl (by omega) rfl ?_
                      refine w_goto (pt := 15) rfl ?_
                      exact ih15 (1) (i + 1) (ai_i z209) (ai_i 800) E221 (by omega) hI222 hF224 (by have e1 : gv E221 82 t.toNat = i := (by rw [← hE223, gv_ne _ _ (by omega), ← hE213, gv_up]); omega)
                · replace hc219 : ¬ (z216 - z217 < (2 : Int)) := hc219
                  refine w_aload (i := 0) (npc := 115) rfl rfl rfl ?_
                  refine w_getf (i := 81) (ci := 8) (k := 2) (npc := 118) rfl (hI212.pl (by decide)) (hI212.T (by decide) rfl) (by decide) (hI212.ref 81 2 (p := 82) (by decide) (by decide) rfl) ?_
                  refine w_iload (i := 4) (npc := 120) rfl rfl ?_
                  refine w_iload (i := 6) (npc := 122) rfl rfl ?_
                  refine w_iadd (npc := 123) rfl (by omega) ?_
                  refine w_const (n := 8) (npc := 125) rfl ?_
                  refine w_iload (i := 7) (npc := 127) rfl rfl ?_
                  refine w_const (n := 8) (npc := 129) rfl ?_
                  refine w_idiv (npc := 130) rfl (by omega) (by omega) (fun z232 hz232 hz232b hz232c => ?_)
                  refine w_iload (i := 8) (npc := 132) rfl rfl ?_
                  refine w_const (n := 8) (npc := 134) rfl ?_
                  refine w_idiv (npc := 135) rfl (by omega) (by omega) (fun z233 hz233 hz233b hz233c => ?_)
                  refine w_iadd (npc := 136) rfl (by omega) ?_
                  refine w_const (n := 2) (npc := 137) rfl ?_
                  refine w_idiv (npc := 138) rfl (by omega) (by omega) (fun z235 hz235 hz235b hz235c => ?_)
                  refine w_imul (npc := 139) rfl (by omega) ?_
                  refine w_iload (i := 3) (npc := 140) rfl rfl ?_
                  refine w_iadd (npc := 141) rfl (by omega) ?_
                  refine w_ast (i := 82) (k := 1) (n := 531366) (npc := 142) rfl (hI212.pl (by decide)) (hI212.T (by decide) rfl) (by decide) (by omega) cm_af1 ?_
                  have hI239 := hI212.puti (i := 82) (k := (t + i : Int).toNat) (z := 8 * z235 + w) (lo := 0) (hi := 65540) (by decide) rfl (by omega)
                  have hF241 := cm_fr.up (i := 82) (k := (t + i : Int).toNat) (v := ai_i (8 * z235 + w)) hF214 (by first | (simp; done) | (simp; omega) | (intro i k h; (try simp only at h); (try simp only); omega))
                  generalize hE240 : cm_up E211 82 (t + i : Int).toNat (ai_i (8 * z235 + w)) = E238 at hI239 hF241   ⊢
                  have hz242 : E238 82 (t + i : Int).toNat = ai_i (8 * z235 + w) := by rw [← hE240, cm_up_eq]
                  have ghz242 := gv_eq hz242
                  refine w_const (n := 1) (npc := 143) rfl ?_
                  exact w_zret rfl (by omega) (⟨rfl, rfl, rfl, hI239, hF241, 1, rfl, ⟨by omega, by omega, by rw [← hE240, gv_ne _ _ (by omega), ← hE213, gv_up]; omega⟩⟩) (by omega) (by omega)
              · replace hc210 : ¬ (c = (0 : Int)) := hc210
                refine w_iload (i := 6) (npc := 60) rfl rfl ?_
                refine w_aload (i := 0) (npc := 61) rfl rfl rfl ?_
                refine w_getf (i := 81) (ci := 8) (k := 2) (npc := 64) rfl (hI15.pl (by decide)) (hI15.T (by decide) rfl) (by decide) (hI15.ref 81 2 (p := 82) (by decide) (by decide) rfl) ?_
                refine w_iload (i := 2) (npc := 65) rfl rfl ?_
                obtain ⟨z243, hz243, hz243a, hz243b⟩ := hI15.int 82 (b : Int).toNat (lo := 0) (hi := 65540) (by decide) (show (b : Int).toNat < 531366 by omega) rfl
                have ghz243 := gv_eq hz243
                refine w_ald (i := 82) (t := 1) (n := 531366) (npc := 66) rfl (hI15.pl (by decide)) (hI15.T (by decide) rfl) (by decide) rfl (by omega) hz243 ?_
                refine w_icmp (c := .gt) (npc := 69) (pt := 81) rfl (fun hc244 => ?_) (fun hc244 => ?_)
                · replace hc244 : z243 < i := hc244
                  refine w_const (n := 0) (npc := 82) rfl ?_
                  refine w_goto (pt := 88) rfl ?_
                  refine w_istore (i := 8) (npc := 90) (loc' := [cr 81, ai_i a, ai_i b, ai_i w, ai_i t, ai_i c, ai_i i, ai_i z209, ai_i 0]) rfl rfl ?_
                  refine w_aload (i := 0) (npc := 91) rfl rfl rfl ?_
                  refine w_getf (i := 81) (ci := 8) (k := 2) (npc := 94) rfl (hI15.pl (by decide)) (hI15.T (by decide) rfl) (by decide) (hI15.ref 81 2 (p := 82) (by decide) (by decide) rfl) ?_
                  refine w_iload (i := 4) (npc := 96) rfl rfl ?_
                  refine w_iload (i := 6) (npc := 98) rfl rfl ?_
                  refine w_ast (i := 82) (k := 1) (n := 531366) (npc := 99) rfl (hI15.pl (by decide)) (hI15.T (by decide) rfl) (by decide) (by omega) cm_af1 ?_
                  have hI246 := hI15.puti (i := 82) (k := (t : Int).toNat) (z := i) (lo := 0) (hi := 65540) (by decide) rfl (by omega)
                  have hF248 := cm_fr.up (i := 82) (k := (t : Int).toNat) (v := ai_i i) hF15 (by first | (simp; done) | (simp; omega) | (intro i k h; (try simp only at h); (try simp only); omega))
                  generalize hE247 : cm_up Eq15 82 (t : Int).toNat (ai_i i) = E245 at hI246 hF248   ⊢
                  have hz249 : E245 82 (t : Int).toNat = ai_i i := by rw [← hE247, cm_up_eq]
                  have ghz249 := gv_eq hz249
                  refine w_iload (i := 8) (npc := 101) rfl rfl ?_
                  refine w_const (n := 8) (npc := 103) rfl ?_
                  refine w_idiv (npc := 104) rfl (by omega) (by omega) (fun z250 hz250 hz250b hz250c => ?_)
                  refine w_iload (i := 7) (npc := 106) rfl rfl ?_
                  refine w_const (n := 8) (npc := 108) rfl ?_
                  refine w_idiv (npc := 109) rfl (by omega) (by omega) (fun z251 hz251 hz251b hz251c => ?_)
                  refine w_isub (npc := 110) rfl (by omega) ?_
                  refine w_const (n := 2) (npc := 111) rfl ?_
                  refine w_icmp (c := .lt) (npc := 114) (pt := 144) rfl (fun hc253 => ?_) (fun hc253 => ?_)
                  · replace hc253 : z250 - z251 < (2 : Int) := hc253
                    refine w_aload (i := 0) (npc := 145) rfl rfl rfl ?_
                    refine w_getf (i := 81) (ci := 8) (k := 2) (npc := 148) rfl (hI246.pl (by decide)) (hI246.T (by decide) rfl) (by decide) (hI246.ref 81 2 (p := 82) (by decide) (by decide) rfl) ?_
                    refine w_iload (i := 4) (npc := 150) rfl rfl ?_
                    refine w_iload (i := 6) (npc := 152) rfl rfl ?_
                    refine w_iadd (npc := 153) rfl (by omega) ?_
                    refine w_iload (i := 7) (npc := 155) rfl rfl ?_
                    refine w_ast (i := 82) (k := 1) (n := 531366) (npc := 156) rfl (hI246.pl (by decide)) (hI246.T (by decide) rfl) (by decide) (by omega) cm_af1 ?_
                    have hI256 := hI246.puti (i := 82) (k := (t + i : Int).toNat) (z := z209) (lo := 0) (hi := 65540) (by decide) rfl (by omega)
                    have hF258 := cm_fr.up (i := 82) (k := (t + i : Int).toNat) (v := ai_i z209) hF248 (by first | (simp; done) | (simp; omega) | (intro i k h; (try simp only at h); (try simp only); omega))
                    generalize hE257 : cm_up E245 82 (t + i : Int).toNat (ai_i z209) = E255 at hI256 hF258   ⊢
                    have hz259 : E255 82 (t + i : Int).toNat = ai_i z209 := by rw [← hE257, cm_up_eq]
                    have ghz259 := gv_eq hz259
                    refine w_iload (i := 5) (npc := 158) rfl rfl ?_
                    refine w_if (c := .eq) (npc := 161) (pt := 172) rfl (fun hc260 => ?_) (fun hc260 => ?_)
                    · replace hc260 : c = (0 : Int) := hc260
                      refine w_const (n := 0) (npc := 173) rfl ?_
                      refine w_istore (i := 5) (npc := 175) (loc' := [cr 81, ai_i a, ai_i b, ai_i w, ai_i t, ai_i 0, ai_i i, ai_i z209, ai_i 0]) rfl rfl ?_
                      refine w_iinc (i := 6) (n := 1) (npc := 178) (loc' := [cr 81, ai_i a, ai_i b, ai_i w, ai_i t, ai_i 0, ai_i (i + 1), ai_i z209, ai_i 0]) rfl rfl (by omega) rfl ?_
                      refine w_goto (pt := 15) rfl ?_
                      exact ih15 (0) (i + 1) (ai_i z209) (ai_i 0) E255 (by omega) hI256 hF258 (by have e1 : gv E255 82 t.toNat = i := (by rw [← hE257, gv_ne _ _ (by omega), ← hE247, gv_up]); omega)
                    · replace hc260 : ¬ (c = (0 : Int)) := hc260
                      refine w_iload (i := 7) (npc := 163) rfl rfl ?_
                      refine w_iload (i := 8) (npc := 165) rfl rfl ?_
                      refine w_icmp (c := .ne) (npc := 168) (pt := 172) rfl (fun hc262 => ?_) (fun hc262 => ?_)
                      · replace hc262 : z209 ≠ (0 : Int) := hc262
                        refine w_const (n := 0) (npc := 173) rfl ?_
                        refine w_istore (i := 5) (npc := 175) (loc' := [cr 81, ai_i a, ai_i b, ai_i w, ai_i t, ai_i 0, ai_i i, ai_i z209, ai_i 0]) rfl rfl ?_
                        refine w_iinc (i := 6) (n := 1) (npc := 178) (loc' := [cr 81, ai_i a, ai_i b, ai_i w, ai_i t, ai_i 0, ai_i (i + 1), ai_i z209, ai_i 0]) rfl rfl (by omega) rfl ?_
                        refine w_goto (pt := 15) rfl ?_
                        exact ih15 (0) (i + 1) (ai_i z209) (ai_i 0) E255 (by omega) hI256 hF258 (by have e1 : gv E255 82 t.toNat = i := (by rw [← hE257, gv_ne _ _ (by omega), ← hE247, gv_up]); omega)
                      · replace hc262 : ¬ (z209 ≠ (0 : Int)) := hc262
                        refine w_const (n := 1) (npc := 169) rfl ?_
                        refine w_goto (pt := 173) rfl ?_
                        refine w_istore (i := 5) (npc := 175) (loc' := [cr 81, ai_i a, ai_i b, ai_i w, ai_i t, ai_i 1, ai_i i, ai_i z209, ai_i 0]) rfl rfl ?_
                        refine w_iinc (i := 6) (n := 1) (npc := 178) (loc' := [cr 81, ai_i a, ai_i b, ai_i w, ai_i t, ai_i 1, ai_i (i + 1), ai_i z209, ai_i 0]) rfl rfl (by omega) rfl ?_
                        refine w_goto (pt := 15) rfl ?_
                        exact ih15 (1) (i + 1) (ai_i z209) (ai_i 0) E255 (by omega) hI256 hF258 (by have e1 : gv E255 82 t.toNat = i := (by rw [← hE257, gv_ne _ _ (by omega), ← hE247, gv_up]); omega)
                  · replace hc253 : ¬ (z250 - z251 < (2 : Int)) := hc253
                    refine w_aload (i := 0) (npc := 115) rfl rfl rfl ?_
                    refine w_getf (i := 81) (ci := 8) (k := 2) (npc := 118) rfl (hI246.pl (by decide)) (hI246.T (by decide) rfl) (by decide) (hI246.ref 81 2 (p := 82) (by decide) (by decide) rfl) ?_
                    refine w_iload (i := 4) (npc := 120) rfl rfl ?_
                    refine w_iload (i := 6) (npc := 122) rfl rfl ?_
                    refine w_iadd (npc := 123) rfl (by omega) ?_
                    refine w_const (n := 8) (npc := 125) rfl ?_
                    refine w_iload (i := 7) (npc := 127) rfl rfl ?_
                    refine w_const (n := 8) (npc := 129) rfl ?_
                    refine w_idiv (npc := 130) rfl (by omega) (by omega) (fun z266 hz266 hz266b hz266c => ?_)
                    refine w_iload (i := 8) (npc := 132) rfl rfl ?_
                    refine w_const (n := 8) (npc := 134) rfl ?_
                    refine w_idiv (npc := 135) rfl (by omega) (by omega) (fun z267 hz267 hz267b hz267c => ?_)
                    refine w_iadd (npc := 136) rfl (by omega) ?_
                    refine w_const (n := 2) (npc := 137) rfl ?_
                    refine w_idiv (npc := 138) rfl (by omega) (by omega) (fun z269 hz269 hz269b hz269c => ?_)
                    refine w_imul (npc := 139) rfl (by omega) ?_
                    refine w_iload (i := 3) (npc := 140) rfl rfl ?_
                    refine w_iadd (npc := 141) rfl (by omega) ?_
                    refine w_ast (i := 82) (k := 1) (n := 531366) (npc := 142) rfl (hI246.pl (by decide)) (hI246.T (by decide) rfl) (by decide) (by omega) cm_af1 ?_
                    have hI273 := hI246.puti (i := 82) (k := (t + i : Int).toNat) (z := 8 * z269 + w) (lo := 0) (hi := 65540) (by decide) rfl (by omega)
                    have hF275 := cm_fr.up (i := 82) (k := (t + i : Int).toNat) (v := ai_i (8 * z269 + w)) hF248 (by first | (simp; done) | (simp; omega) | (intro i k h; (try simp only at h); (try simp only); omega))
                    generalize hE274 : cm_up E245 82 (t + i : Int).toNat (ai_i (8 * z269 + w)) = E272 at hI273 hF275   ⊢
                    have hz276 : E272 82 (t + i : Int).toNat = ai_i (8 * z269 + w) := by rw [← hE274, cm_up_eq]
                    have ghz276 := gv_eq hz276
                    refine w_const (n := 1) (npc := 143) rfl ?_
                    exact w_zret rfl (by omega) (⟨rfl, rfl, rfl, hI273, hF275, 1, rfl, ⟨by omega, by omega, by rw [← hE274, gv_ne _ _ (by omega), ← hE247, gv_up]; omega⟩⟩) (by omega) (by omega)
                · replace hc244 : ¬ (z243 < i) := hc244
                  refine w_aload (i := 0) (npc := 70) rfl rfl rfl ?_
                  refine w_getf (i := 81) (ci := 8) (k := 2) (npc := 73) rfl (hI15.pl (by decide)) (hI15.T (by decide) rfl) (by decide) (hI15.ref 81 2 (p := 82) (by decide) (by decide) rfl) ?_
                  refine w_iload (i := 2) (npc := 74) rfl rfl ?_
                  refine w_iload (i := 6) (npc := 76) rfl rfl ?_
                  refine w_iadd (npc := 77) rfl (by omega) ?_
                  obtain ⟨z278, hz278, hz278a, hz278b⟩ := hI15.int 82 (b + i : Int).toNat (lo := 0) (hi := 65540) (by decide) (show (b + i : Int).toNat < 531366 by omega) rfl
                  have ghz278 := gv_eq hz278
                  refine w_ald (i := 82) (t := 1) (n := 531366) (npc := 78) rfl (hI15.pl (by decide)) (hI15.T (by decide) rfl) (by decide) rfl (by omega) hz278 ?_
                  refine w_goto (pt := 88) rfl ?_
                  refine w_istore (i := 8) (npc := 90) (loc' := [cr 81, ai_i a, ai_i b, ai_i w, ai_i t, ai_i c, ai_i i, ai_i z209, ai_i z278]) rfl rfl ?_
                  refine w_aload (i := 0) (npc := 91) rfl rfl rfl ?_
                  refine w_getf (i := 81) (ci := 8) (k := 2) (npc := 94) rfl (hI15.pl (by decide)) (hI15.T (by decide) rfl) (by decide) (hI15.ref 81 2 (p := 82) (by decide) (by decide) rfl) ?_
                  refine w_iload (i := 4) (npc := 96) rfl rfl ?_
                  refine w_iload (i := 6) (npc := 98) rfl rfl ?_
                  refine w_ast (i := 82) (k := 1) (n := 531366) (npc := 99) rfl (hI15.pl (by decide)) (hI15.T (by decide) rfl) (by decide) (by omega) cm_af1 ?_
                  have hI280 := hI15.puti (i := 82) (k := (t : Int).toNat) (z := i) (lo := 0) (hi := 65540) (by decide) rfl (by omega)
                  have hF282 := cm_fr.up (i := 82) (k := (t : Int).toNat) (v := ai_i i) hF15 (by first | (simp; done) | (simp; omega) | (intro i k h; (try simp only at h); (try simp only); omega))
                  generalize hE281 : cm_up Eq15 82 (t : Int).toNat (ai_i i) = E279 at hI280 hF282   ⊢
                  have hz283 : E279 82 (t : Int).toNat = ai_i i := by rw [← hE281, cm_up_eq]
                  have ghz283 := gv_eq hz283
                  refine w_iload (i := 8) (npc := 101) rfl rfl ?_
                  refine w_const (n := 8) (npc := 103) rfl ?_
                  refine w_idiv (npc := 104) rfl (by omega) (by omega) (fun z284 hz284 hz284b hz284c => ?_)
                  refine w_iload (i := 7) (npc := 106) rfl rfl ?_
                  refine w_const (n := 8) (npc := 108) rfl ?_
                  refine w_idiv (npc := 109) rfl (by omega) (by omega) (fun z285 hz285 hz285b hz285c => ?_)
                  refine w_isub (npc := 110) rfl (by omega) ?_
                  refine w_const (n := 2) (npc := 111) rfl ?_
                  refine w_icmp (c := .lt) (npc := 114) (pt := 144) rfl (fun hc287 => ?_) (fun hc287 => ?_)
                  · replace hc287 : z284 - z285 < (2 : Int) := hc287
                    refine w_aload (i := 0) (npc := 145) rfl rfl rfl ?_
                    refine w_getf (i := 81) (ci := 8) (k := 2) (npc := 148) rfl (hI280.pl (by decide)) (hI280.T (by decide) rfl) (by decide) (hI280.ref 81 2 (p := 82) (by decide) (by decide) rfl) ?_
                    refine w_iload (i := 4) (npc := 150) rfl rfl ?_
                    refine w_iload (i := 6) (npc := 152) rfl rfl ?_
                    refine w_iadd (npc := 153) rfl (by omega) ?_
                    refine w_iload (i := 7) (npc := 155) rfl rfl ?_
                    refine w_ast (i := 82) (k := 1) (n := 531366) (npc := 156) rfl (hI280.pl (by decide)) (hI280.T (by decide) rfl) (by decide) (by omega) cm_af1 ?_
                    have hI290 := hI280.puti (i := 82) (k := (t + i : Int).toNat) (z := z209) (lo := 0) (hi := 65540) (by decide) rfl (by omega)
                    have hF292 := cm_fr.up (i := 82) (k := (t + i : Int).toNat) (v := ai_i z209) hF282 (by first | (simp; done) | (simp; omega) | (intro i k h; (try simp only at h); (try simp only); omega))
                    generalize hE291 : cm_up E279 82 (t + i : Int).toNat (ai_i z209) = E289 at hI290 hF292   ⊢
                    have hz293 : E289 82 (t + i : Int).toNat = ai_i z209 := by rw [← hE291, cm_up_eq]
                    have ghz293 := gv_eq hz293
                    refine w_iload (i := 5) (npc := 158) rfl rfl ?_
                    refine w_if (c := .eq) (npc := 161) (pt := 172) rfl (fun hc294 => ?_) (fun hc294 => ?_)
                    · replace hc294 : c = (0 : Int) := hc294
                      refine w_const (n := 0) (npc := 173) rfl ?_
                      refine w_istore (i := 5) (npc := 175) (loc' := [cr 81, ai_i a, ai_i b, ai_i w, ai_i t, ai_i 0, ai_i i, ai_i z209, ai_i z278]) rfl rfl ?_
                      refine w_iinc (i := 6) (n := 1) (npc := 178) (loc' := [cr 81, ai_i a, ai_i b, ai_i w, ai_i t, ai_i 0, ai_i (i + 1), ai_i z209, ai_i z278]) rfl rfl (by omega) rfl ?_
                      refine w_goto (pt := 15) rfl ?_
                      exact ih15 (0) (i + 1) (ai_i z209) (ai_i z278) E289 (by omega) hI290 hF292 (by have e1 : gv E289 82 t.toNat = i := (by rw [← hE291, gv_ne _ _ (by omega), ← hE281, gv_up]); omega)
                    · replace hc294 : ¬ (c = (0 : Int)) := hc294
                      refine w_iload (i := 7) (npc := 163) rfl rfl ?_
                      refine w_iload (i := 8) (npc := 165) rfl rfl ?_
                      refine w_icmp (c := .ne) (npc := 168) (pt := 172) rfl (fun hc296 => ?_) (fun hc296 => ?_)
                      · replace hc296 : z209 ≠ z278 := hc296
                        refine w_const (n := 0) (npc := 173) rfl ?_
                        refine w_istore (i := 5) (npc := 175) (loc' := [cr 81, ai_i a, ai_i b, ai_i w, ai_i t, ai_i 0, ai_i i, ai_i z209, ai_i z278]) rfl rfl ?_
                        refine w_iinc (i := 6) (n := 1) (npc := 178) (loc' := [cr 81, ai_i a, ai_i b, ai_i w, ai_i t, ai_i 0, ai_i (i + 1), ai_i z209, ai_i z278]) rfl rfl (by omega) rfl ?_
                        refine w_goto (pt := 15) rfl ?_
                        exact ih15 (0) (i + 1) (ai_i z209) (ai_i z278) E289 (by omega) hI290 hF292 (by have e1 : gv E289 82 t.toNat = i := (by rw [← hE291, gv_ne _ _ (by omega), ← hE281, gv_up]); omega)
                      · replace hc296 : ¬ (z209 ≠ z278) := hc296
                        refine w_const (n := 1) (npc := 169) rfl ?_
                        refine w_goto (pt := 173) rfl ?_
                        refine w_istore (i := 5) (npc := 175) (loc' := [cr 81, ai_i a, ai_i b, ai_i w, ai_i t, ai_i 1, ai_i i, ai_i z209, ai_i z278]) rfl rfl ?_
                        refine w_iinc (i := 6) (n := 1) (npc := 178) (loc' := [cr 81, ai_i a, ai_i b, ai_i w, ai_i t, ai_i 1, ai_i (i + 1), ai_i z209, ai_i z278]) rfl rfl (by omega) rfl ?_
                        refine w_goto (pt := 15) rfl ?_
                        exact ih15 (1) (i + 1) (ai_i z209) (ai_i z278) E289 (by omega) hI290 hF292 (by have e1 : gv E289 82 t.toNat = i := (by rw [← hE291, gv_ne _ _ (by omega), ← hE281, gv_up]); omega)
                  · replace hc287 : ¬ (z284 - z285 < (2 : Int)) := hc287
                    refine w_aload (i := 0) (npc := 115) rfl rfl rfl ?_
                    refine w_getf (i := 81) (ci := 8) (k := 2) (npc := 118) rfl (hI280.pl (by decide)) (hI280.T (by decide) rfl) (by decide) (hI280.ref 81 2 (p := 82) (by decide) (by decide) rfl) ?_
                    refine w_iload (i := 4) (npc := 120) rfl rfl ?_
                    refine w_iload (i := 6) (npc := 122) rfl rfl ?_
                    refine w_iadd (npc := 123) rfl (by omega) ?_
                    refine w_const (n := 8) (npc := 125) rfl ?_
                    refine w_iload (i := 7) (npc := 127) rfl rfl ?_
                    refine w_const (n := 8) (npc := 129) rfl ?_
                    refine w_idiv (npc := 130) rfl (by omega) (by omega) (fun z300 hz300 hz300b hz300c => ?_)
                    refine w_iload (i := 8) (npc := 132) rfl rfl ?_
                    refine w_const (n := 8) (npc := 134) rfl ?_
                    refine w_idiv (npc := 135) rfl (by omega) (by omega) (fun z301 hz301 hz301b hz301c => ?_)
                    refine w_iadd (npc := 136) rfl (by omega) ?_
                    refine w_const (n := 2) (npc := 137) rfl ?_
                    refine w_idiv (npc := 138) rfl (by omega) (by omega) (fun z303 hz303 hz303b hz303c => ?_)
                    refine w_imul (npc := 139) rfl (by omega) ?_
                    refine w_iload (i := 3) (npc := 140) rfl rfl ?_
                    refine w_iadd (npc := 141) rfl (by omega) ?_
                    refine w_ast (i := 82) (k := 1) (n := 531366) (npc := 142) rfl (hI280.pl (by decide)) (hI280.T (by decide) rfl) (by decide) (by omega) cm_af1 ?_
                    have hI307 := hI280.puti (i := 82) (k := (t + i : Int).toNat) (z := 8 * z303 + w) (lo := 0) (hi := 65540) (by decide) rfl (by omega)
                    have hF309 := cm_fr.up (i := 82) (k := (t + i : Int).toNat) (v := ai_i (8 * z303 + w)) hF282 (by first | (simp; done) | (simp; omega) | (intro i k h; (try simp only at h); (try simp only); omega))
                    generalize hE308 : cm_up E279 82 (t + i : Int).toNat (ai_i (8 * z303 + w)) = E306 at hI307 hF309   ⊢
                    have hz310 : E306 82 (t + i : Int).toNat = ai_i (8 * z303 + w) := by rw [← hE308, cm_up_eq]
                    have ghz310 := gv_eq hz310
                    refine w_const (n := 1) (npc := 143) rfl ?_
                    exact w_zret rfl (by omega) (⟨rfl, rfl, rfl, hI307, hF309, 1, rfl, ⟨by omega, by omega, by rw [← hE308, gv_ne _ _ (by omega), ← hE281, gv_up]; omega⟩⟩) (by omega) (by omega)
    exact loop15 _ (0) (1) (ai_un) (ai_un) E (Nat.lt_succ_self _) hI hF (by omega)
  · replace hc1 : ¬ (b = ((-1) : Int)) := hc1
    refine w_const (n := 1) (npc := 6) rfl ?_
    refine w_goto (pt := 10) rfl ?_
    refine w_istore (i := 5) (npc := 12) (loc' := [cr 81, ai_i a, ai_i b, ai_i w, ai_i t, ai_i 1, ai_un, ai_un, ai_un]) rfl rfl ?_
    refine w_const (n := 1) (npc := 13) rfl ?_
    refine w_istore (i := 6) (npc := 15) (loc' := [cr 81, ai_i a, ai_i b, ai_i w, ai_i t, ai_i 1, ai_i 1, ai_un, ai_un]) rfl rfl ?_
    have loop15 : ∀ (nf : Nat) (c : Int) (i : Int) (u15_7 : ai_V) (u15_8 : ai_V) (Eq15 : cm_E), ((25 - i).toNat) < nf → cs_I T Eq15 nx → cm_fr (fun i k => i = 82 ∧ t.toNat ≤ k ∧ k ≤ (t + 24).toNat) E Eq15 → (0 ≤ c ∧ c ≤ 1 ∧ (c = 0 ∨ 0 ≤ b) ∧ 1 ≤ i ∧ i ≤ 25 ∧ (1 < i → gv Eq15 82 t.toNat ≤ 24)) → cm_wp (ai_find ai_c189 sl) (ai_ev sl (d + 0)) x (kc + 0) (ks + 0) (fun rk rv T' E' nx' => rk = 1 ∧ T = T' ∧ nx = nx' ∧ cs_I T E' nx ∧ cm_fr (fun i k => i = 82 ∧ t.toNat ≤ k ∧ k ≤ (t + 24).toNat) E E' ∧ ∃ z : Int, rv = ai_i z ∧ (0 ≤ z ∧ z ≤ 1 ∧ gv E' 82 t.toNat ≤ 24)) 15 [cr 81, ai_i a, ai_i b, ai_i w, ai_i t, ai_i c, ai_i i, u15_7, u15_8] [] T Eq15 nx kc ks := by
      intro nf
      induction nf with
      | zero => intro c i u15_7 u15_8 Eq15 hm; exact absurd hm (Nat.not_lt_zero _)
      | succ nf15 ih =>
        intro c i u15_7 u15_8 Eq15 hm15 hI15 hF15 hv15
        have ih15 := ih; clear ih
        refine w_iload (i := 6) (npc := 17) rfl rfl ?_
        refine w_const (n := 24) (npc := 19) rfl ?_
        refine w_icmp (c := .gt) (npc := 22) (pt := 181) rfl (fun hc311 => ?_) (fun hc311 => ?_)
        · replace hc311 : (24 : Int) < i := hc311
          refine w_const (n := 0) (npc := 182) rfl ?_
          exact w_zret rfl (by omega) (⟨rfl, rfl, rfl, hI15, hF15, 0, rfl, ⟨by omega, by omega, by omega⟩⟩) (by omega) (by omega)
        · replace hc311 : ¬ ((24 : Int) < i) := hc311
          refine w_iload (i := 1) (npc := 23) rfl rfl ?_
          refine w_const (n := (-1)) (npc := 24) rfl ?_
          refine w_icmp (c := .eq) (npc := 27) (pt := 50) rfl (fun hc312 => ?_) (fun hc312 => ?_)
          · replace hc312 : a = ((-1) : Int) := hc312
            refine w_const (n := 0) (npc := 51) rfl ?_
            refine w_istore (i := 7) (npc := 53) (loc' := [cr 81, ai_i a, ai_i b, ai_i w, ai_i t, ai_i c, ai_i i, ai_i 0, u15_8]) rfl rfl ?_
            refine w_iload (i := 5) (npc := 55) rfl rfl ?_
            refine w_if (c := .eq) (npc := 58) (pt := 85) rfl (fun hc313 => ?_) (fun hc313 => ?_)
            · replace hc313 : c = (0 : Int) := hc313
              refine w_const (n := 800) (npc := 88) rfl ?_
              refine w_istore (i := 8) (npc := 90) (loc' := [cr 81, ai_i a, ai_i b, ai_i w, ai_i t, ai_i c, ai_i i, ai_i 0, ai_i 800]) rfl rfl ?_
              refine w_aload (i := 0) (npc := 91) rfl rfl rfl ?_
              refine w_getf (i := 81) (ci := 8) (k := 2) (npc := 94) rfl (hI15.pl (by decide)) (hI15.T (by decide) rfl) (by decide) (hI15.ref 81 2 (p := 82) (by decide) (by decide) rfl) ?_
              refine w_iload (i := 4) (npc := 96) rfl rfl ?_
              refine w_iload (i := 6) (npc := 98) rfl rfl ?_
              refine w_ast (i := 82) (k := 1) (n := 531366) (npc := 99) rfl (hI15.pl (by decide)) (hI15.T (by decide) rfl) (by decide) (by omega) cm_af1 ?_
              have hI315 := hI15.puti (i := 82) (k := (t : Int).toNat) (z := i) (lo := 0) (hi := 65540) (by decide) rfl (by omega)
              have hF317 := cm_fr.up (i := 82) (k := (t : Int).toNat) (v := ai_i i) hF15 (by first | (simp; done) | (simp; omega) | (intro i k h; (try simp only at h); (try simp only); omega))
              generalize hE316 : cm_up Eq15 82 (t : Int).toNat (ai_i i) = E314 at hI315 hF317   ⊢
              have hz318 : E314 82 (t : Int).toNat = ai_i i := by rw [← hE316, cm_up_eq]
              have ghz318 := gv_eq hz318
              refine w_iload (i := 8) (npc := 101) rfl rfl ?_
              refine w_const (n := 8) (npc := 103) rfl ?_
              refine w_idiv (npc := 104) rfl (by omega) (by omega) (fun z319 hz319 hz319b hz319c => ?_)
              refine w_iload (i := 7) (npc := 106) rfl rfl ?_
              refine w_const (n := 8) (npc := 108) rfl ?_
              refine w_idiv (npc := 109) rfl (by omega) (by omega) (fun z320 hz320 hz320b hz320c => ?_)
              refine w_isub (npc := 110) rfl (by omega) ?_
              refine w_const (n := 2) (npc := 111) rfl ?_
              refine w_icmp (c := .lt) (npc := 114) (pt := 144) rfl (fun hc322 => ?_) (fun hc322 => ?_)
              · replace hc322 : z319 - z320 < (2 : Int) := hc322
                refine w_aload (i := 0) (npc := 145) rfl rfl rfl ?_
                refine w_getf (i := 81) (ci := 8) (k := 2) (npc := 148) rfl (hI315.pl (by decide)) (hI315.T (by decide) rfl) (by decide) (hI315.ref 81 2 (p := 82) (by decide) (by decide) rfl) ?_
                refine w_iload (i := 4) (npc := 150) rfl rfl ?_
                refine w_iload (i := 6) (npc := 152) rfl rfl ?_
                refine w_iadd (npc := 153) rfl (by omega) ?_
                refine w_iload (i := 7) (npc := 155) rfl rfl ?_
                refine w_ast (i := 82) (k := 1) (n := 531366) (npc := 156) rfl (hI315.pl (by decide)) (hI315.T (by decide) rfl) (by decide) (by omega) cm_af1 ?_
                have hI325 := hI315.puti (i := 82) (k := (t + i : Int).toNat) (z := 0) (lo := 0) (hi := 65540) (by decide) rfl (by omega)
                have hF327 := cm_fr.up (i := 82) (k := (t + i : Int).toNat) (v := ai_i 0) hF317 (by first | (simp; done) | (simp; omega) | (intro i k h; (try simp only at h); (try simp only); omega))
                generalize hE326 : cm_up E314 82 (t + i : Int).toNat (ai_i 0) = E324 at hI325 hF327   ⊢
                have hz328 : E324 82 (t + i : Int).toNat = ai_i 0 := by rw [← hE326, cm_up_eq]
                have ghz328 := gv_eq hz328
                refine w_iload (i := 5) (npc := 158) rfl rfl ?_
                refine w_if (c := .eq) (npc := 161) (pt := 172) rfl (fun hc329 => ?_) (fun hc329 => ?_)
                · replace hc329 : c = (0 : Int) := hc329
                  refine w_const (n := 0) (npc := 173) rfl ?_
                  refine w_istore (i := 5) (npc := 175) (loc' := [cr 81, ai_i a, ai_i b, ai_i w, ai_i t, ai_i 0, ai_i i, ai_i 0, ai_i 800]) rfl rfl ?_
                  refine w_iinc (i := 6) (n := 1) (npc := 178) (loc' := [cr 81, ai_i a, ai_i b, ai_i w, ai_i t, ai_i 0, ai_i (i + 1), ai_i 0, ai_i 800]) rfl rfl (by omega) rfl ?_
                  refine w_goto (pt := 15) rfl ?_
                  exact ih15 (0) (i + 1) (ai_i 0) (ai_i 800) E324 (by omega) hI325 hF327 (by have e1 : gv E324 82 t.toNat = i := (by rw [← hE326, gv_ne _ _ (by omega), ← hE316, gv_up]); omega)
                · replace hc329 : ¬ (c = (0 : Int)) := hc329
                  refine w_iload (i := 7) (npc := 163) rfl rfl ?_
                  refine w_iload (i := 8) (npc := 165) rfl rfl ?_
                  refine w_icmp (c := .ne) (npc := 168) (pt := 172) rfl (fun hc331 => ?_) (fun hc331 => ?_)
                  · replace hc331 : (0 : Int) ≠ 800 := hc331
                    refine w_const (n := 0) (npc := 173) rfl ?_
                    refine w_istore (i := 5) (npc := 175) (loc' := [cr 81, ai_i a, ai_i b, ai_i w, ai_i t, ai_i 0, ai_i i, ai_i 0, ai_i 800]) rfl rfl ?_
                    refine w_iinc (i := 6) (n := 1) (npc := 178) (loc' := [cr 81, ai_i a, ai_i b, ai_i w, ai_i t, ai_i 0, ai_i (i + 1), ai_i 0, ai_i 800]) rfl rfl (by omega) rfl ?_
                    refine w_goto (pt := 15) rfl ?_
                    exact ih15 (0) (i + 1) (ai_i 0) (ai_i 800) E324 (by omega) hI325 hF327 (by have e1 : gv E324 82 t.toNat = i := (by rw [← hE326, gv_ne _ _ (by omega), ← hE316, gv_up]); omega)
                  · replace hc331 : ¬ ((0 : Int) ≠ 800) := hc331
                    refine w_const (n := 1) (npc := 169) rfl ?_
                    refine w_goto (pt := 173) rfl ?_
                    refine w_istore (i := 5) (npc := 175) (loc' := [cr 81, ai_i a, ai_i b, ai_i w, ai_i t, ai_i 1, ai_i i, ai_i 0, ai_i 800]) rfl rfl ?_
                    refine w_iinc (i := 6) (n := 1) (npc := 178) (loc' := [cr 81, ai_i a, ai_i b, ai_i w, ai_i t, ai_i 1, ai_i (i + 1), ai_i 0, ai_i 800]) rfl rfl (by omega) rfl ?_
                    refine w_goto (pt := 15) rfl ?_
                    exact ih15 (1) (i + 1) (ai_i 0) (ai_i 800) E324 (by omega) hI325 hF327 (by have e1 : gv E324 82 t.toNat = i := (by rw [← hE326, gv_ne _ _ (by omega), ← hE316, gv_up]); omega)
              · replace hc322 : ¬ (z319 - z320 < (2 : Int)) := hc322
                refine w_aload (i := 0) (npc := 115) rfl rfl rfl ?_
                refine w_getf (i := 81) (ci := 8) (k := 2) (npc := 118) rfl (hI315.pl (by decide)) (hI315.T (by decide) rfl) (by decide) (hI315.ref 81 2 (p := 82) (by decide) (by decide) rfl) ?_
                refine w_iload (i := 4) (npc := 120) rfl rfl ?_
                refine w_iload (i := 6) (npc := 122) rfl rfl ?_
                refine w_iadd (npc := 123) rfl (by omega) ?_
                refine w_const (n := 8) (npc := 125) rfl ?_
                refine w_iload (i := 7) (npc := 127) rfl rfl ?_
                refine w_const (n := 8) (npc := 129) rfl ?_
                refine w_idiv (npc := 130) rfl (by omega) (by omega) (fun z335 hz335 hz335b hz335c => ?_)
                refine w_iload (i := 8) (npc := 132) rfl rfl ?_
                refine w_const (n := 8) (npc := 134) rfl ?_
                refine w_idiv (npc := 135) rfl (by omega) (by omega) (fun z336 hz336 hz336b hz336c => ?_)
                refine w_iadd (npc := 136) rfl (by omega) ?_
                refine w_const (n := 2) (npc := 137) rfl ?_
                refine w_idiv (npc := 138) rfl (by omega) (by omega) (fun z338 hz338 hz338b hz338c => ?_)
                refine w_imul (npc := 139) rfl (by omega) ?_
                refine w_iload (i := 3) (npc := 140) rfl rfl ?_
                refine w_iadd (npc := 141) rfl (by omega) ?_
                refine w_ast (i := 82) (k := 1) (n := 531366) (npc := 142) rfl (hI315.pl (by decide)) (hI315.T (by decide) rfl) (by decide) (by omega) cm_af1 ?_
                have hI342 := hI315.puti (i := 82) (k := (t + i : Int).toNat) (z := 8 * z338 + w) (lo := 0) (hi := 65540) (by decide) rfl (by omega)
                have hF344 := cm_fr.up (i := 82) (k := (t + i : Int).toNat) (v := ai_i (8 * z338 + w)) hF317 (by first | (simp; done) | (simp; omega) | (intro i k h; (try simp only at h); (try simp only); omega))
                generalize hE343 : cm_up E314 82 (t + i : Int).toNat (ai_i (8 * z338 + w)) = E341 at hI342 hF344   ⊢
                have hz345 : E341 82 (t + i : Int).toNat = ai_i (8 * z338 + w) := by rw [← hE343, cm_up_eq]
                have ghz345 := gv_eq hz345
                refine w_const (n := 1) (npc := 143) rfl ?_
                exact w_zret rfl (by omega) (⟨rfl, rfl, rfl, hI342, hF344, 1, rfl, ⟨by omega, by omega, by rw [← hE343, gv_ne _ _ (by omega), ← hE316, gv_up]; omega⟩⟩) (by omega) (by omega)
            · replace hc313 : ¬ (c = (0 : Int)) := hc313
              refine w_iload (i := 6) (npc := 60) rfl rfl ?_
              refine w_aload (i := 0) (npc := 61) rfl rfl rfl ?_
              refine w_getf (i := 81) (ci := 8) (k := 2) (npc := 64) rfl (hI15.pl (by decide)) (hI15.T (by decide) rfl) (by decide) (hI15.ref 81 2 (p := 82) (by decide) (by decide) rfl) ?_
              refine w_iload (i := 2) (npc := 65) rfl rfl ?_
              obtain ⟨z346, hz346, hz346a, hz346b⟩ := hI15.int 82 (b : Int).toNat (lo := 0) (hi := 65540) (by decide) (show (b : Int).toNat < 531366 by omega) rfl
              have ghz346 := gv_eq hz346
              refine w_ald (i := 82) (t := 1) (n := 531366) (npc := 66) rfl (hI15.pl (by decide)) (hI15.T (by decide) rfl) (by decide) rfl (by omega) hz346 ?_
              refine w_icmp (c := .gt) (npc := 69) (pt := 81) rfl (fun hc347 => ?_) (fun hc347 => ?_)
              · replace hc347 : z346 < i := hc347
                refine w_const (n := 0) (npc := 82) rfl ?_
                refine w_goto (pt := 88) rfl ?_
                refine w_istore (i := 8) (npc := 90) (loc' := [cr 81, ai_i a, ai_i b, ai_i w, ai_i t, ai_i c, ai_i i, ai_i 0, ai_i 0]) rfl rfl ?_
                refine w_aload (i := 0) (npc := 91) rfl rfl rfl ?_
                refine w_getf (i := 81) (ci := 8) (k := 2) (npc := 94) rfl (hI15.pl (by decide)) (hI15.T (by decide) rfl) (by decide) (hI15.ref 81 2 (p := 82) (by decide) (by decide) rfl) ?_
                refine w_iload (i := 4) (npc := 96) rfl rfl ?_
                refine w_iload (i := 6) (npc := 98) rfl rfl ?_
                refine w_ast (i := 82) (k := 1) (n := 531366) (npc := 99) rfl (hI15.pl (by decide)) (hI15.T (by decide) rfl) (by decide) (by omega) cm_af1 ?_
                have hI349 := hI15.puti (i := 82) (k := (t : Int).toNat) (z := i) (lo := 0) (hi := 65540) (by decide) rfl (by omega)
                have hF351 := cm_fr.up (i := 82) (k := (t : Int).toNat) (v := ai_i i) hF15 (by first | (simp; done) | (simp; omega) | (intro i k h; (try simp only at h); (try simp only); omega))
                generalize hE350 : cm_up Eq15 82 (t : Int).toNat (ai_i i) = E348 at hI349 hF351   ⊢
                have hz352 : E348 82 (t : Int).toNat = ai_i i := by rw [← hE350, cm_up_eq]
                have ghz352 := gv_eq hz352
                refine w_iload (i := 8) (npc := 101) rfl rfl ?_
                refine w_const (n := 8) (npc := 103) rfl ?_
                refine w_idiv (npc := 104) rfl (by omega) (by omega) (fun z353 hz353 hz353b hz353c => ?_)
                refine w_iload (i := 7) (npc := 106) rfl rfl ?_
                refine w_const (n := 8) (npc := 108) rfl ?_
                refine w_idiv (npc := 109) rfl (by omega) (by omega) (fun z354 hz354 hz354b hz354c => ?_)
                refine w_isub (npc := 110) rfl (by omega) ?_
                refine w_const (n := 2) (npc := 111) rfl ?_
                refine w_icmp (c := .lt) (npc := 114) (pt := 144) rfl (fun hc356 => ?_) (fun hc356 => ?_)
                · replace hc356 : z353 - z354 < (2 : Int) := hc356
                  refine w_aload (i := 0) (npc := 145) rfl rfl rfl ?_
                  refine w_getf (i := 81) (ci := 8) (k := 2) (npc := 148) rfl (hI349.pl (by decide)) (hI349.T (by decide) rfl) (by decide) (hI349.ref 81 2 (p := 82) (by decide) (by decide) rfl) ?_
                  refine w_iload (i := 4) (npc := 150) rfl rfl ?_
                  refine w_iload (i := 6) (npc := 152) rfl rfl ?_
                  refine w_iadd (npc := 153) rfl (by omega) ?_
                  refine w_iload (i := 7) (npc := 155) rfl rfl ?_
                  refine w_ast (i := 82) (k := 1) (n := 531366) (npc := 156) rfl (hI349.pl (by decide)) (hI349.T (by decide) rfl) (by decide) (by omega) cm_af1 ?_
                  have hI359 := hI349.puti (i := 82) (k := (t + i : Int).toNat) (z := 0) (lo := 0) (hi := 65540) (by decide) rfl (by omega)
                  have hF361 := cm_fr.up (i := 82) (k := (t + i : Int).toNat) (v := ai_i 0) hF351 (by first | (simp; done) | (simp; omega) | (intro i k h; (try simp only at h); (try simp only); omega))
                  generalize hE360 : cm_up E348 82 (t + i : Int).toNat (ai_i 0) = E358 at hI359 hF361   ⊢
                  have hz362 : E358 82 (t + i : Int).toNat = ai_i 0 := by rw [← hE360, cm_up_eq]
                  have ghz362 := gv_eq hz362
                  refine w_iload (i := 5) (npc := 158) rfl rfl ?_
                  refine w_if (c := .eq) (npc := 161) (pt := 172) rfl (fun hc363 => ?_) (fun hc363 => ?_)
                  · replace hc363 : c = (0 : Int) := hc363
                    refine w_const (n := 0) (npc := 173) rfl ?_
                    refine w_istore (i := 5) (npc := 175) (loc' := [cr 81, ai_i a, ai_i b, ai_i w, ai_i t, ai_i 0, ai_i i, ai_i 0, ai_i 0]) rfl rfl ?_
                    refine w_iinc (i := 6) (n := 1) (npc := 178) (loc' := [cr 81, ai_i a, ai_i b, ai_i w, ai_i t, ai_i 0, ai_i (i + 1), ai_i 0, ai_i 0]) rfl rfl (by omega) rfl ?_
                    refine w_goto (pt := 15) rfl ?_
                    exact ih15 (0) (i + 1) (ai_i 0) (ai_i 0) E358 (by omega) hI359 hF361 (by have e1 : gv E358 82 t.toNat = i := (by rw [← hE360, gv_ne _ _ (by omega), ← hE350, gv_up]); omega)
                  · replace hc363 : ¬ (c = (0 : Int)) := hc363
                    refine w_iload (i := 7) (npc := 163) rfl rfl ?_
                    refine w_iload (i := 8) (npc := 165) rfl rfl ?_
                    refine w_icmp (c := .ne) (npc := 168) (pt := 172) rfl (fun hc365 => ?_) (fun hc365 => ?_)
                    · replace hc365 : (0 : Int) ≠ 0 := hc365
                      refine w_const (n := 0) (npc := 173) rfl ?_
                      refine w_istore (i := 5) (npc := 175) (loc' := [cr 81, ai_i a, ai_i b, ai_i w, ai_i t, ai_i 0, ai_i i, ai_i 0, ai_i 0]) rfl rfl ?_
                      refine w_iinc (i := 6) (n := 1) (npc := 178) (loc' := [cr 81, ai_i a, ai_i b, ai_i w, ai_i t, ai_i 0, ai_i (i + 1), ai_i 0, ai_i 0]) rfl rfl (by omega) rfl ?_
                      refine w_goto (pt := 15) rfl ?_
                      exact ih15 (0) (i + 1) (ai_i 0) (ai_i 0) E358 (by omega) hI359 hF361 (by have e1 : gv E358 82 t.toNat = i := (by rw [← hE360, gv_ne _ _ (by omega), ← hE350, gv_up]); omega)
                    · replace hc365 : ¬ ((0 : Int) ≠ 0) := hc365
                      refine w_const (n := 1) (npc := 169) rfl ?_
                      refine w_goto (pt := 173) rfl ?_
                      refine w_istore (i := 5) (npc := 175) (loc' := [cr 81, ai_i a, ai_i b, ai_i w, ai_i t, ai_i 1, ai_i i, ai_i 0, ai_i 0]) rfl rfl ?_
                      refine w_iinc (i := 6) (n := 1) (npc := 178) (loc' := [cr 81, ai_i a, ai_i b, ai_i w, ai_i t, ai_i 1, ai_i (i + 1), ai_i 0, ai_i 0]) rfl rfl (by omega) rfl ?_
                      refine w_goto (pt := 15) rfl ?_
                      exact ih15 (1) (i + 1) (ai_i 0) (ai_i 0) E358 (by omega) hI359 hF361 (by have e1 : gv E358 82 t.toNat = i := (by rw [← hE360, gv_ne _ _ (by omega), ← hE350, gv_up]); omega)
                · replace hc356 : ¬ (z353 - z354 < (2 : Int)) := hc356
                  refine w_aload (i := 0) (npc := 115) rfl rfl rfl ?_
                  refine w_getf (i := 81) (ci := 8) (k := 2) (npc := 118) rfl (hI349.pl (by decide)) (hI349.T (by decide) rfl) (by decide) (hI349.ref 81 2 (p := 82) (by decide) (by decide) rfl) ?_
                  refine w_iload (i := 4) (npc := 120) rfl rfl ?_
                  refine w_iload (i := 6) (npc := 122) rfl rfl ?_
                  refine w_iadd (npc := 123) rfl (by omega) ?_
                  refine w_const (n := 8) (npc := 125) rfl ?_
                  refine w_iload (i := 7) (npc := 127) rfl rfl ?_
                  refine w_const (n := 8) (npc := 129) rfl ?_
                  refine w_idiv (npc := 130) rfl (by omega) (by omega) (fun z369 hz369 hz369b hz369c => ?_)
                  refine w_iload (i := 8) (npc := 132) rfl rfl ?_
                  refine w_const (n := 8) (npc := 134) rfl ?_
                  refine w_idiv (npc := 135) rfl (by omega) (by omega) (fun z370 hz370 hz370b hz370c => ?_)
                  refine w_iadd (npc := 136) rfl (by omega) ?_
                  refine w_const (n := 2) (npc := 137) rfl ?_
                  refine w_idiv (npc := 138) rfl (by omega) (by omega) (fun z372 hz372 hz372b hz372c => ?_)
                  refine w_imul (npc := 139) rfl (by omega) ?_
                  refine w_iload (i := 3) (npc := 140) rfl rfl ?_
                  refine w_iadd (npc := 141) rfl (by omega) ?_
                  refine w_ast (i := 82) (k := 1) (n := 531366) (npc := 142) rfl (hI349.pl (by decide)) (hI349.T (by decide) rfl) (by decide) (by omega) cm_af1 ?_
                  have hI376 := hI349.puti (i := 82) (k := (t + i : Int).toNat) (z := 8 * z372 + w) (lo := 0) (hi := 65540) (by decide) rfl (by omega)
                  have hF378 := cm_fr.up (i := 82) (k := (t + i : Int).toNat) (v := ai_i (8 * z372 + w)) hF351 (by first | (simp; done) | (simp; omega) | (intro i k h; (try simp only at h); (try simp only); omega))
                  generalize hE377 : cm_up E348 82 (t + i : Int).toNat (ai_i (8 * z372 + w)) = E375 at hI376 hF378   ⊢
                  have hz379 : E375 82 (t + i : Int).toNat = ai_i (8 * z372 + w) := by rw [← hE377, cm_up_eq]
                  have ghz379 := gv_eq hz379
                  refine w_const (n := 1) (npc := 143) rfl ?_
                  exact w_zret rfl (by omega) (⟨rfl, rfl, rfl, hI376, hF378, 1, rfl, ⟨by omega, by omega, by rw [← hE377, gv_ne _ _ (by omega), ← hE350, gv_up]; omega⟩⟩) (by omega) (by omega)
              · replace hc347 : ¬ (z346 < i) := hc347
                refine w_aload (i := 0) (npc := 70) rfl rfl rfl ?_
                refine w_getf (i := 81) (ci := 8) (k := 2) (npc := 73) rfl (hI15.pl (by decide)) (hI15.T (by decide) rfl) (by decide) (hI15.ref 81 2 (p := 82) (by decide) (by decide) rfl) ?_
                refine w_iload (i := 2) (npc := 74) rfl rfl ?_
                refine w_iload (i := 6) (npc := 76) rfl rfl ?_
                refine w_iadd (npc := 77) rfl (by omega) ?_
                obtain ⟨z381, hz381, hz381a, hz381b⟩ := hI15.int 82 (b + i : Int).toNat (lo := 0) (hi := 65540) (by decide) (show (b + i : Int).toNat < 531366 by omega) rfl
                have ghz381 := gv_eq hz381
                refine w_ald (i := 82) (t := 1) (n := 531366) (npc := 78) rfl (hI15.pl (by decide)) (hI15.T (by decide) rfl) (by decide) rfl (by omega) hz381 ?_
                refine w_goto (pt := 88) rfl ?_
                refine w_istore (i := 8) (npc := 90) (loc' := [cr 81, ai_i a, ai_i b, ai_i w, ai_i t, ai_i c, ai_i i, ai_i 0, ai_i z381]) rfl rfl ?_
                refine w_aload (i := 0) (npc := 91) rfl rfl rfl ?_
                refine w_getf (i := 81) (ci := 8) (k := 2) (npc := 94) rfl (hI15.pl (by decide)) (hI15.T (by decide) rfl) (by decide) (hI15.ref 81 2 (p := 82) (by decide) (by decide) rfl) ?_
                refine w_iload (i := 4) (npc := 96) rfl rfl ?_
                refine w_iload (i := 6) (npc := 98) rfl rfl ?_
                refine w_ast (i := 82) (k := 1) (n := 531366) (npc := 99) rfl (hI15.pl (by decide)) (hI15.T (by decide) rfl) (by decide) (by omega) cm_af1 ?_
                have hI383 := hI15.puti (i := 82) (k := (t : Int).toNat) (z := i) (lo := 0) (hi := 65540) (by decide) rfl (by omega)
                have hF385 := cm_fr.up (i := 82) (k := (t : Int).toNat) (v := ai_i i) hF15 (by first | (simp; done) | (simp; omega) | (intro i k h; (try simp only at h); (try simp only); omega))
                generalize hE384 : cm_up Eq15 82 (t : Int).toNat (ai_i i) = E382 at hI383 hF385   ⊢
                have hz386 : E382 82 (t : Int).toNat = ai_i i := by rw [← hE384, cm_up_eq]
                have ghz386 := gv_eq hz386
                refine w_iload (i := 8) (npc := 101) rfl rfl ?_
                refine w_const (n := 8) (npc := 103) rfl ?_
                refine w_idiv (npc := 104) rfl (by omega) (by omega) (fun z387 hz387 hz387b hz387c => ?_)
                refine w_iload (i := 7) (npc := 106) rfl rfl ?_
                refine w_const (n := 8) (npc := 108) rfl ?_
                refine w_idiv (npc := 109) rfl (by omega) (by omega) (fun z388 hz388 hz388b hz388c => ?_)
                refine w_isub (npc := 110) rfl (by omega) ?_
                refine w_const (n := 2) (npc := 111) rfl ?_
                refine w_icmp (c := .lt) (npc := 114) (pt := 144) rfl (fun hc390 => ?_) (fun hc390 => ?_)
                · replace hc390 : z387 - z388 < (2 : Int) := hc390
                  refine w_aload (i := 0) (npc := 145) rfl rfl rfl ?_
                  refine w_getf (i := 81) (ci := 8) (k := 2) (npc := 148) rfl (hI383.pl (by decide)) (hI383.T (by decide) rfl) (by decide) (hI383.ref 81 2 (p := 82) (by decide) (by decide) rfl) ?_
                  refine w_iload (i := 4) (npc := 150) rfl rfl ?_
                  refine w_iload (i := 6) (npc := 152) rfl rfl ?_
                  refine w_iadd (npc := 153) rfl (by omega) ?_
                  refine w_iload (i := 7) (npc := 155) rfl rfl ?_
                  refine w_ast (i := 82) (k := 1) (n := 531366) (npc := 156) rfl (hI383.pl (by decide)) (hI383.T (by decide) rfl) (by decide) (by omega) cm_af1 ?_
                  have hI393 := hI383.puti (i := 82) (k := (t + i : Int).toNat) (z := 0) (lo := 0) (hi := 65540) (by decide) rfl (by omega)
                  have hF395 := cm_fr.up (i := 82) (k := (t + i : Int).toNat) (v := ai_i 0) hF385 (by first | (simp; done) | (simp; omega) | (intro i k h; (try simp only at h); (try simp only); omega))
                  generalize hE394 : cm_up E382 82 (t + i : Int).toNat (ai_i 0) = E392 at hI393 hF395   ⊢
                  have hz396 : E392 82 (t + i : Int).toNat = ai_i 0 := by rw [← hE394, cm_up_eq]
                  have ghz396 := gv_eq hz396
                  refine w_iload (i := 5) (npc := 158) rfl rfl ?_
                  refine w_if (c := .eq) (npc := 161) (pt := 172) rfl (fun hc397 => ?_) (fun hc397 => ?_)
                  · replace hc397 : c = (0 : Int) := hc397
                    refine w_const (n := 0) (npc := 173) rfl ?_
                    refine w_istore (i := 5) (npc := 175) (loc' := [cr 81, ai_i a, ai_i b, ai_i w, ai_i t, ai_i 0, ai_i i, ai_i 0, ai_i z381]) rfl rfl ?_
                    refine w_iinc (i := 6) (n := 1) (npc := 178) (loc' := [cr 81, ai_i a, ai_i b, ai_i w, ai_i t, ai_i 0, ai_i (i + 1), ai_i 0, ai_i z381]) rfl rfl (by omega) rfl ?_
                    refine w_goto (pt := 15) rfl ?_
                    exact ih15 (0) (i + 1) (ai_i 0) (ai_i z381) E392 (by omega) hI393 hF395 (by have e1 : gv E392 82 t.toNat = i := (by rw [← hE394, gv_ne _ _ (by omega), ← hE384, gv_up]); omega)
                  · replace hc397 : ¬ (c = (0 : Int)) := hc397
                    refine w_iload (i := 7) (npc := 163) rfl rfl ?_
                    refine w_iload (i := 8) (npc := 165) rfl rfl ?_
                    refine w_icmp (c := .ne) (npc := 168) (pt := 172) rfl (fun hc399 => ?_) (fun hc399 => ?_)
                    · replace hc399 : (0 : Int) ≠ z381 := hc399
                      refine w_const (n := 0) (npc := 173) rfl ?_
                      refine w_istore (i := 5) (npc := 175) (loc' := [cr 81, ai_i a, ai_i b, ai_i w, ai_i t, ai_i 0, ai_i i, ai_i 0, ai_i z381]) rfl rfl ?_
                      refine w_iinc (i := 6) (n := 1) (npc := 178) (loc' := [cr 81, ai_i a, ai_i b, ai_i w, ai_i t, ai_i 0, ai_i (i + 1), ai_i 0, ai_i z381]) rfl rfl (by omega) rfl ?_
                      refine w_goto (pt := 15) rfl ?_
                      exact ih15 (0) (i + 1) (ai_i 0) (ai_i z381) E392 (by omega) hI393 hF395 (by have e1 : gv E392 82 t.toNat = i := (by rw [← hE394, gv_ne _ _ (by omega), ← hE384, gv_up]); omega)
                    · replace hc399 : ¬ ((0 : Int) ≠ z381) := hc399
                      refine w_const (n := 1) (npc := 169) rfl ?_
                      refine w_goto (pt := 173) rfl ?_
                      refine w_istore (i := 5) (npc := 175) (loc' := [cr 81, ai_i a, ai_i b, ai_i w, ai_i t, ai_i 1, ai_i i, ai_i 0, ai_i z381]) rfl rfl ?_
                      refine w_iinc (i := 6) (n := 1) (npc := 178) (loc' := [cr 81, ai_i a, ai_i b, ai_i w, ai_i t, ai_i 1, ai_i (i + 1), ai_i 0, ai_i z381]) rfl rfl (by omega) rfl ?_
                      refine w_goto (pt := 15) rfl ?_
                      exact ih15 (1) (i + 1) (ai_i 0) (ai_i z381) E392 (by omega) hI393 hF395 (by have e1 : gv E392 82 t.toNat = i := (by rw [← hE394, gv_ne _ _ (by omega), ← hE384, gv_up]); omega)
                · replace hc390 : ¬ (z387 - z388 < (2 : Int)) := hc390
                  refine w_aload (i := 0) (npc := 115) rfl rfl rfl ?_
                  refine w_getf (i := 81) (ci := 8) (k := 2) (npc := 118) rfl (hI383.pl (by decide)) (hI383.T (by decide) rfl) (by decide) (hI383.ref 81 2 (p := 82) (by decide) (by decide) rfl) ?_
                  refine w_iload (i := 4) (npc := 120) rfl rfl ?_
                  refine w_iload (i := 6) (npc := 122) rfl rfl ?_
                  refine w_iadd (npc := 123) rfl (by omega) ?_
                  refine w_const (n := 8) (npc := 125) rfl ?_
                  refine w_iload (i := 7) (npc := 127) rfl rfl ?_
                  refine w_const (n := 8) (npc := 129) rfl ?_
                  refine w_idiv (npc := 130) rfl (by omega) (by omega) (fun z403 hz403 hz403b hz403c => ?_)
                  refine w_iload (i := 8) (npc := 132) rfl rfl ?_
                  refine w_const (n := 8) (npc := 134) rfl ?_
                  refine w_idiv (npc := 135) rfl (by omega) (by omega) (fun z404 hz404 hz404b hz404c => ?_)
                  refine w_iadd (npc := 136) rfl (by omega) ?_
                  refine w_const (n := 2) (npc := 137) rfl ?_
                  refine w_idiv (npc := 138) rfl (by omega) (by omega) (fun z406 hz406 hz406b hz406c => ?_)
                  refine w_imul (npc := 139) rfl (by omega) ?_
                  refine w_iload (i := 3) (npc := 140) rfl rfl ?_
                  refine w_iadd (npc := 141) rfl (by omega) ?_
                  refine w_ast (i := 82) (k := 1) (n := 531366) (npc := 142) rfl (hI383.pl (by decide)) (hI383.T (by decide) rfl) (by decide) (by omega) cm_af1 ?_
                  have hI410 := hI383.puti (i := 82) (k := (t + i : Int).toNat) (z := 8 * z406 + w) (lo := 0) (hi := 65540) (by decide) rfl (by omega)
                  have hF412 := cm_fr.up (i := 82) (k := (t + i : Int).toNat) (v := ai_i (8 * z406 + w)) hF385 (by first | (simp; done) | (simp; omega) | (intro i k h; (try simp only at h); (try simp only); omega))
                  generalize hE411 : cm_up E382 82 (t + i : Int).toNat (ai_i (8 * z406 + w)) = E409 at hI410 hF412   ⊢
                  have hz413 : E409 82 (t + i : Int).toNat = ai_i (8 * z406 + w) := by rw [← hE411, cm_up_eq]
                  have ghz413 := gv_eq hz413
                  refine w_const (n := 1) (npc := 143) rfl ?_
                  exact w_zret rfl (by omega) (⟨rfl, rfl, rfl, hI410, hF412, 1, rfl, ⟨by omega, by omega, by rw [← hE411, gv_ne _ _ (by omega), ← hE384, gv_up]; omega⟩⟩) (by omega) (by omega)
          · replace hc312 : ¬ (a = ((-1) : Int)) := hc312
            refine w_iload (i := 6) (npc := 29) rfl rfl ?_
            refine w_aload (i := 0) (npc := 30) rfl rfl rfl ?_
            refine w_getf (i := 81) (ci := 8) (k := 2) (npc := 33) rfl (hI15.pl (by decide)) (hI15.T (by decide) rfl) (by decide) (hI15.ref 81 2 (p := 82) (by decide) (by decide) rfl) ?_
            refine w_iload (i := 1) (npc := 34) rfl rfl ?_
            obtain ⟨z414, hz414, hz414a, hz414b⟩ := hI15.int 82 (a : Int).toNat (lo := 0) (hi := 65540) (by decide) (show (a : Int).toNat < 531366 by omega) rfl
            have ghz414 := gv_eq hz414
            refine w_ald (i := 82) (t := 1) (n := 531366) (npc := 35) rfl (hI15.pl (by decide)) (hI15.T (by decide) rfl) (by decide) rfl (by omega) hz414 ?_
            refine w_icmp (c := .gt) (npc := 38) (pt := 50) rfl (fun hc415 => ?_) (fun hc415 => ?_)
            · replace hc415 : z414 < i := hc415
              refine w_const (n := 0) (npc := 51) rfl ?_
              refine w_istore (i := 7) (npc := 53) (loc' := [cr 81, ai_i a, ai_i b, ai_i w, ai_i t, ai_i c, ai_i i, ai_i 0, u15_8]) rfl rfl ?_
              refine w_iload (i := 5) (npc := 55) rfl rfl ?_
              refine w_if (c := .eq) (npc := 58) (pt := 85) rfl (fun hc416 => ?_) (fun hc416 => ?_)
              · replace hc416 : c = (0 : Int) := hc416
                refine w_const (n := 800) (npc := 88) rfl ?_
                refine w_istore (i := 8) (npc := 90) (loc' := [cr 81, ai_i a, ai_i b, ai_i w, ai_i t, ai_i c, ai_i i, ai_i 0, ai_i 800]) rfl rfl ?_
                refine w_aload (i := 0) (npc := 91) rfl rfl rfl ?_
                refine w_getf (i := 81) (ci := 8) (k := 2) (npc := 94) rfl (hI15.pl (by decide)) (hI15.T (by decide) rfl) (by decide) (hI15.ref 81 2 (p := 82) (by decide) (by decide) rfl) ?_
                refine w_iload (i := 4) (npc := 96) rfl rfl ?_
                refine w_iload (i := 6) (npc := 98) rfl rfl ?_
                refine w_ast (i := 82) (k := 1) (n := 531366) (npc := 99) rfl (hI15.pl (by decide)) (hI15.T (by decide) rfl) (by decide) (by omega) cm_af1 ?_
                have hI418 := hI15.puti (i := 82) (k := (t : Int).toNat) (z := i) (lo := 0) (hi := 65540) (by decide) rfl (by omega)
                have hF420 := cm_fr.up (i := 82) (k := (t : Int).toNat) (v := ai_i i) hF15 (by first | (simp; done) | (simp; omega) | (intro i k h; (try simp only at h); (try simp only); omega))
                generalize hE419 : cm_up Eq15 82 (t : Int).toNat (ai_i i) = E417 at hI418 hF420   ⊢
                have hz421 : E417 82 (t : Int).toNat = ai_i i := by rw [← hE419, cm_up_eq]
                have ghz421 := gv_eq hz421
                refine w_iload (i := 8) (npc := 101) rfl rfl ?_
                refine w_const (n := 8) (npc := 103) rfl ?_
                refine w_idiv (npc := 104) rfl (by omega) (by omega) (fun z422 hz422 hz422b hz422c => ?_)
                refine w_iload (i := 7) (npc := 106) rfl rfl ?_
                refine w_const (n := 8) (npc := 108) rfl ?_
                refine w_idiv (npc := 109) rfl (by omega) (by omega) (fun z423 hz423 hz423b hz423c => ?_)
                refine w_isub (npc := 110) rfl (by omega) ?_
                refine w_const (n := 2) (npc := 111) rfl ?_
                refine w_icmp (c := .lt) (npc := 114) (pt := 144) rfl (fun hc425 => ?_) (fun hc425 => ?_)
                · replace hc425 : z422 - z423 < (2 : Int) := hc425
                  refine w_aload (i := 0) (npc := 145) rfl rfl rfl ?_
                  refine w_getf (i := 81) (ci := 8) (k := 2) (npc := 148) rfl (hI418.pl (by decide)) (hI418.T (by decide) rfl) (by decide) (hI418.ref 81 2 (p := 82) (by decide) (by decide) rfl) ?_
                  refine w_iload (i := 4) (npc := 150) rfl rfl ?_
                  refine w_iload (i := 6) (npc := 152) rfl rfl ?_
                  refine w_iadd (npc := 153) rfl (by omega) ?_
                  refine w_iload (i := 7) (npc := 155) rfl rfl ?_
                  refine w_ast (i := 82) (k := 1) (n := 531366) (npc := 156) rfl (hI418.pl (by decide)) (hI418.T (by decide) rfl) (by decide) (by omega) cm_af1 ?_
                  have hI428 := hI418.puti (i := 82) (k := (t + i : Int).toNat) (z := 0) (lo := 0) (hi := 65540) (by decide) rfl (by omega)
                  have hF430 := cm_fr.up (i := 82) (k := (t + i : Int).toNat) (v := ai_i 0) hF420 (by first | (simp; done) | (simp; omega) | (intro i k h; (try simp only at h); (try simp only); omega))
                  generalize hE429 : cm_up E417 82 (t + i : Int).toNat (ai_i 0) = E427 at hI428 hF430   ⊢
                  have hz431 : E427 82 (t + i : Int).toNat = ai_i 0 := by rw [← hE429, cm_up_eq]
                  have ghz431 := gv_eq hz431
                  refine w_iload (i := 5) (npc := 158) rfl rfl ?_
                  refine w_if (c := .eq) (npc := 161) (pt := 172) rfl (fun hc432 => ?_) (fun hc432 => ?_)
                  · replace hc432 : c = (0 : Int) := hc432
                    refine w_const (n := 0) (npc := 173) rfl ?_
                    refine w_istore (i := 5) (npc := 175) (loc' := [cr 81, ai_i a, ai_i b, ai_i w, ai_i t, ai_i 0, ai_i i, ai_i 0, ai_i 800]) rfl rfl ?_
                    refine w_iinc (i := 6) (n := 1) (npc := 178) (loc' := [cr 81, ai_i a, ai_i b, ai_i w, ai_i t, ai_i 0, ai_i (i + 1), ai_i 0, ai_i 800]) rfl rfl (by omega) rfl ?_
                    refine w_goto (pt := 15) rfl ?_
                    exact ih15 (0) (i + 1) (ai_i 0) (ai_i 800) E427 (by omega) hI428 hF430 (by have e1 : gv E427 82 t.toNat = i := (by rw [← hE429, gv_ne _ _ (by omega), ← hE419, gv_up]); omega)
                  · replace hc432 : ¬ (c = (0 : Int)) := hc432
                    refine w_iload (i := 7) (npc := 163) rfl rfl ?_
                    refine w_iload (i := 8) (npc := 165) rfl rfl ?_
                    refine w_icmp (c := .ne) (npc := 168) (pt := 172) rfl (fun hc434 => ?_) (fun hc434 => ?_)
                    · replace hc434 : (0 : Int) ≠ 800 := hc434
                      refine w_const (n := 0) (npc := 173) rfl ?_
                      refine w_istore (i := 5) (npc := 175) (loc' := [cr 81, ai_i a, ai_i b, ai_i w, ai_i t, ai_i 0, ai_i i, ai_i 0, ai_i 800]) rfl rfl ?_
                      refine w_iinc (i := 6) (n := 1) (npc := 178) (loc' := [cr 81, ai_i a, ai_i b, ai_i w, ai_i t, ai_i 0, ai_i (i + 1), ai_i 0, ai_i 800]) rfl rfl (by omega) rfl ?_
                      refine w_goto (pt := 15) rfl ?_
                      exact ih15 (0) (i + 1) (ai_i 0) (ai_i 800) E427 (by omega) hI428 hF430 (by have e1 : gv E427 82 t.toNat = i := (by rw [← hE429, gv_ne _ _ (by omega), ← hE419, gv_up]); omega)
                    · replace hc434 : ¬ ((0 : Int) ≠ 800) := hc434
                      refine w_const (n := 1) (npc := 169) rfl ?_
                      refine w_goto (pt := 173) rfl ?_
                      refine w_istore (i := 5) (npc := 175) (loc' := [cr 81, ai_i a, ai_i b, ai_i w, ai_i t, ai_i 1, ai_i i, ai_i 0, ai_i 800]) rfl rfl ?_
                      refine w_iinc (i := 6) (n := 1) (npc := 178) (loc' := [cr 81, ai_i a, ai_i b, ai_i w, ai_i t, ai_i 1, ai_i (i + 1), ai_i 0, ai_i 800]) rfl rfl (by omega) rfl ?_
                      refine w_goto (pt := 15) rfl ?_
                      exact ih15 (1) (i + 1) (ai_i 0) (ai_i 800) E427 (by omega) hI428 hF430 (by have e1 : gv E427 82 t.toNat = i := (by rw [← hE429, gv_ne _ _ (by omega), ← hE419, gv_up]); omega)
                · replace hc425 : ¬ (z422 - z423 < (2 : Int)) := hc425
                  refine w_aload (i := 0) (npc := 115) rfl rfl rfl ?_
                  refine w_getf (i := 81) (ci := 8) (k := 2) (npc := 118) rfl (hI418.pl (by decide)) (hI418.T (by decide) rfl) (by decide) (hI418.ref 81 2 (p := 82) (by decide) (by decide) rfl) ?_
                  refine w_iload (i := 4) (npc := 120) rfl rfl ?_
                  refine w_iload (i := 6) (npc := 122) rfl rfl ?_
                  refine w_iadd (npc := 123) rfl (by omega) ?_
                  refine w_const (n := 8) (npc := 125) rfl ?_
                  refine w_iload (i := 7) (npc := 127) rfl rfl ?_
                  refine w_const (n := 8) (npc := 129) rfl ?_
                  refine w_idiv (npc := 130) rfl (by omega) (by omega) (fun z438 hz438 hz438b hz438c => ?_)
                  refine w_iload (i := 8) (npc := 132) rfl rfl ?_
                  refine w_const (n := 8) (npc := 134) rfl ?_
                  refine w_idiv (npc := 135) rfl (by omega) (by omega) (fun z439 hz439 hz439b hz439c => ?_)
                  refine w_iadd (npc := 136) rfl (by omega) ?_
                  refine w_const (n := 2) (npc := 137) rfl ?_
                  refine w_idiv (npc := 138) rfl (by omega) (by omega) (fun z441 hz441 hz441b hz441c => ?_)
                  refine w_imul (npc := 139) rfl (by omega) ?_
                  refine w_iload (i := 3) (npc := 140) rfl rfl ?_
                  refine w_iadd (npc := 141) rfl (by omega) ?_
                  refine w_ast (i := 82) (k := 1) (n := 531366) (npc := 142) rfl (hI418.pl (by decide)) (hI418.T (by decide) rfl) (by decide) (by omega) cm_af1 ?_
                  have hI445 := hI418.puti (i := 82) (k := (t + i : Int).toNat) (z := 8 * z441 + w) (lo := 0) (hi := 65540) (by decide) rfl (by omega)
                  have hF447 := cm_fr.up (i := 82) (k := (t + i : Int).toNat) (v := ai_i (8 * z441 + w)) hF420 (by first | (simp; done) | (simp; omega) | (intro i k h; (try simp only at h); (try simp only); omega))
                  generalize hE446 : cm_up E417 82 (t + i : Int).toNat (ai_i (8 * z441 + w)) = E444 at hI445 hF447   ⊢
                  have hz448 : E444 82 (t + i : Int).toNat = ai_i (8 * z441 + w) := by rw [← hE446, cm_up_eq]
                  have ghz448 := gv_eq hz448
                  refine w_const (n := 1) (npc := 143) rfl ?_
                  exact w_zret rfl (by omega) (⟨rfl, rfl, rfl, hI445, hF447, 1, rfl, ⟨by omega, by omega, by rw [← hE446, gv_ne _ _ (by omega), ← hE419, gv_up]; omega⟩⟩) (by omega) (by omega)
              · replace hc416 : ¬ (c = (0 : Int)) := hc416
                refine w_iload (i := 6) (npc := 60) rfl rfl ?_
                refine w_aload (i := 0) (npc := 61) rfl rfl rfl ?_
                refine w_getf (i := 81) (ci := 8) (k := 2) (npc := 64) rfl (hI15.pl (by decide)) (hI15.T (by decide) rfl) (by decide) (hI15.ref 81 2 (p := 82) (by decide) (by decide) rfl) ?_
                refine w_iload (i := 2) (npc := 65) rfl rfl ?_
                obtain ⟨z449, hz449, hz449a, hz449b⟩ := hI15.int 82 (b : Int).toNat (lo := 0) (hi := 65540) (by decide) (show (b : Int).toNat < 531366 by omega) rfl
                have ghz449 := gv_eq hz449
                refine w_ald (i := 82) (t := 1) (n := 531366) (npc := 66) rfl (hI15.pl (by decide)) (hI15.T (by decide) rfl) (by decide) rfl (by omega) hz449 ?_
                refine w_icmp (c := .gt) (npc := 69) (pt := 81) rfl (fun hc450 => ?_) (fun hc450 => ?_)
                · replace hc450 : z449 < i := hc450
                  refine w_const (n := 0) (npc := 82) rfl ?_
                  refine w_goto (pt := 88) rfl ?_
                  refine w_istore (i := 8) (npc := 90) (loc' := [cr 81, ai_i a, ai_i b, ai_i w, ai_i t, ai_i c, ai_i i, ai_i 0, ai_i 0]) rfl rfl ?_
                  refine w_aload (i := 0) (npc := 91) rfl rfl rfl ?_
                  refine w_getf (i := 81) (ci := 8) (k := 2) (npc := 94) rfl (hI15.pl (by decide)) (hI15.T (by decide) rfl) (by decide) (hI15.ref 81 2 (p := 82) (by decide) (by decide) rfl) ?_
                  refine w_iload (i := 4) (npc := 96) rfl rfl ?_
                  refine w_iload (i := 6) (npc := 98) rfl rfl ?_
                  refine w_ast (i := 82) (k := 1) (n := 531366) (npc := 99) rfl (hI15.pl (by decide)) (hI15.T (by decide) rfl) (by decide) (by omega) cm_af1 ?_
                  have hI452 := hI15.puti (i := 82) (k := (t : Int).toNat) (z := i) (lo := 0) (hi := 65540) (by decide) rfl (by omega)
                  have hF454 := cm_fr.up (i := 82) (k := (t : Int).toNat) (v := ai_i i) hF15 (by first | (simp; done) | (simp; omega) | (intro i k h; (try simp only at h); (try simp only); omega))
                  generalize hE453 : cm_up Eq15 82 (t : Int).toNat (ai_i i) = E451 at hI452 hF454   ⊢
                  have hz455 : E451 82 (t : Int).toNat = ai_i i := by rw [← hE453, cm_up_eq]
                  have ghz455 := gv_eq hz455
                  refine w_iload (i := 8) (npc := 101) rfl rfl ?_
                  refine w_const (n := 8) (npc := 103) rfl ?_
                  refine w_idiv (npc := 104) rfl (by omega) (by omega) (fun z456 hz456 hz456b hz456c => ?_)
                  refine w_iload (i := 7) (npc := 106) rfl rfl ?_
                  refine w_const (n := 8) (npc := 108) rfl ?_
                  refine w_idiv (npc := 109) rfl (by omega) (by omega) (fun z457 hz457 hz457b hz457c => ?_)
                  refine w_isub (npc := 110) rfl (by omega) ?_
                  refine w_const (n := 2) (npc := 111) rfl ?_
                  refine w_icmp (c := .lt) (npc := 114) (pt := 144) rfl (fun hc459 => ?_) (fun hc459 => ?_)
                  · replace hc459 : z456 - z457 < (2 : Int) := hc459
                    refine w_aload (i := 0) (npc := 145) rfl rfl rfl ?_
                    refine w_getf (i := 81) (ci := 8) (k := 2) (npc := 148) rfl (hI452.pl (by decide)) (hI452.T (by decide) rfl) (by decide) (hI452.ref 81 2 (p := 82) (by decide) (by decide) rfl) ?_
                    refine w_iload (i := 4) (npc := 150) rfl rfl ?_
                    refine w_iload (i := 6) (npc := 152) rfl rfl ?_
                    refine w_iadd (npc := 153) rfl (by omega) ?_
                    refine w_iload (i := 7) (npc := 155) rfl rfl ?_
                    refine w_ast (i := 82) (k := 1) (n := 531366) (npc := 156) rfl (hI452.pl (by decide)) (hI452.T (by decide) rfl) (by decide) (by omega) cm_af1 ?_
                    have hI462 := hI452.puti (i := 82) (k := (t + i : Int).toNat) (z := 0) (lo := 0) (hi := 65540) (by decide) rfl (by omega)
                    have hF464 := cm_fr.up (i := 82) (k := (t + i : Int).toNat) (v := ai_i 0) hF454 (by first | (simp; done) | (simp; omega) | (intro i k h; (try simp only at h); (try simp only); omega))
                    generalize hE463 : cm_up E451 82 (t + i : Int).toNat (ai_i 0) = E461 at hI462 hF464   ⊢
                    have hz465 : E461 82 (t + i : Int).toNat = ai_i 0 := by rw [← hE463, cm_up_eq]
                    have ghz465 := gv_eq hz465
                    refine w_iload (i := 5) (npc := 158) rfl rfl ?_
                    refine w_if (c := .eq) (npc := 161) (pt := 172) rfl (fun hc466 => ?_) (fun hc466 => ?_)
                    · replace hc466 : c = (0 : Int) := hc466
                      refine w_const (n := 0) (npc := 173) rfl ?_
                      refine w_istore (i := 5) (npc := 175) (loc' := [cr 81, ai_i a, ai_i b, ai_i w, ai_i t, ai_i 0, ai_i i, ai_i 0, ai_i 0]) rfl rfl ?_
                      refine w_iinc (i := 6) (n := 1) (npc := 178) (loc' := [cr 81, ai_i a, ai_i b, ai_i w, ai_i t, ai_i 0, ai_i (i + 1), ai_i 0, ai_i 0]) rfl rfl (by omega) rfl ?_
                      refine w_goto (pt := 15) rfl ?_
                      exact ih15 (0) (i + 1) (ai_i 0) (ai_i 0) E461 (by omega) hI462 hF464 (by have e1 : gv E461 82 t.toNat = i := (by rw [← hE463, gv_ne _ _ (by omega), ← hE453, gv_up]); omega)
                    · replace hc466 : ¬ (c = (0 : Int)) := hc466
                      refine w_iload (i := 7) (npc := 163) rfl rfl ?_
                      refine w_iload (i := 8) (npc := 165) rfl rfl ?_
                      refine w_icmp (c := .ne) (npc := 168) (pt := 172) rfl (fun hc468 => ?_) (fun hc468 => ?_)
                      · replace hc468 : (0 : Int) ≠ 0 := hc468
                        refine w_const (n := 0) (npc := 173) rfl ?_
                        refine w_istore (i := 5) (npc := 175) (loc' := [cr 81, ai_i a, ai_i b, ai_i w, ai_i t, ai_i 0, ai_i i, ai_i 0, ai_i 0]) rfl rfl ?_
                        refine w_iinc (i := 6) (n := 1) (npc := 178) (loc' := [cr 81, ai_i a, ai_i b, ai_i w, ai_i t, ai_i 0, ai_i (i + 1), ai_i 0, ai_i 0]) rfl rfl (by omega) rfl ?_
                        refine w_goto (pt := 15) rfl ?_
                        exact ih15 (0) (i + 1) (ai_i 0) (ai_i 0) E461 (by omega) hI462 hF464 (by have e1 : gv E461 82 t.toNat = i := (by rw [← hE463, gv_ne _ _ (by omega), ← hE453, gv_up]); omega)
                      · replace hc468 : ¬ ((0 : Int) ≠ 0) := hc468
                        refine w_const (n := 1) (npc := 169) rfl ?_
                        refine w_goto (pt := 173) rfl ?_
                        refine w_istore (i := 5) (npc := 175) (loc' := [cr 81, ai_i a, ai_i b, ai_i w, ai_i t, ai_i 1, ai_i i, ai_i 0, ai_i 0]) rfl rfl ?_
                        refine w_iinc (i := 6) (n := 1) (npc := 178) (loc' := [cr 81, ai_i a, ai_i b, ai_i w, ai_i t, ai_i 1, ai_i (i + 1), ai_i 0, ai_i 0]) rfl rfl (by omega) rfl ?_
                        refine w_goto (pt := 15) rfl ?_
                        exact ih15 (1) (i + 1) (ai_i 0) (ai_i 0) E461 (by omega) hI462 hF464 (by have e1 : gv E461 82 t.toNat = i := (by rw [← hE463, gv_ne _ _ (by omega), ← hE453, gv_up]); omega)
                  · replace hc459 : ¬ (z456 - z457 < (2 : Int)) := hc459
                    refine w_aload (i := 0) (npc := 115) rfl rfl rfl ?_
                    refine w_getf (i := 81) (ci := 8) (k := 2) (npc := 118) rfl (hI452.pl (by decide)) (hI452.T (by decide) rfl) (by decide) (hI452.ref 81 2 (p := 82) (by decide) (by decide) rfl) ?_
                    refine w_iload (i := 4) (npc := 120) rfl rfl ?_
                    refine w_iload (i := 6) (npc := 122) rfl rfl ?_
                    refine w_iadd (npc := 123) rfl (by omega) ?_
                    refine w_const (n := 8) (npc := 125) rfl ?_
                    refine w_iload (i := 7) (npc := 127) rfl rfl ?_
                    refine w_const (n := 8) (npc := 129) rfl ?_
                    refine w_idiv (npc := 130) rfl (by omega) (by omega) (fun z472 hz472 hz472b hz472c => ?_)
                    refine w_iload (i := 8) (npc := 132) rfl rfl ?_
                    refine w_const (n := 8) (npc := 134) rfl ?_
                    refine w_idiv (npc := 135) rfl (by omega) (by omega) (fun z473 hz473 hz473b hz473c => ?_)
                    refine w_iadd (npc := 136) rfl (by omega) ?_
                    refine w_const (n := 2) (npc := 137) rfl ?_
                    refine w_idiv (npc := 138) rfl (by omega) (by omega) (fun z475 hz475 hz475b hz475c => ?_)
                    refine w_imul (npc := 139) rfl (by omega) ?_
                    refine w_iload (i := 3) (npc := 140) rfl rfl ?_
                    refine w_iadd (npc := 141) rfl (by omega) ?_
                    refine w_ast (i := 82) (k := 1) (n := 531366) (npc := 142) rfl (hI452.pl (by decide)) (hI452.T (by decide) rfl) (by decide) (by omega) cm_af1 ?_
                    have hI479 := hI452.puti (i := 82) (k := (t + i : Int).toNat) (z := 8 * z475 + w) (lo := 0) (hi := 65540) (by decide) rfl (by omega)
                    have hF481 := cm_fr.up (i := 82) (k := (t + i : Int).toNat) (v := ai_i (8 * z475 + w)) hF454 (by first | (simp; done) | (simp; omega) | (intro i k h; (try simp only at h); (try simp only); omega))
                    generalize hE480 : cm_up E451 82 (t + i : Int).toNat (ai_i (8 * z475 + w)) = E478 at hI479 hF481   ⊢
                    have hz482 : E478 82 (t + i : Int).toNat = ai_i (8 * z475 + w) := by rw [← hE480, cm_up_eq]
                    have ghz482 := gv_eq hz482
                    refine w_const (n := 1) (npc := 143) rfl ?_
                    exact w_zret rfl (by omega) (⟨rfl, rfl, rfl, hI479, hF481, 1, rfl, ⟨by omega, by omega, by rw [← hE480, gv_ne _ _ (by omega), ← hE453, gv_up]; omega⟩⟩) (by omega) (by omega)
                · replace hc450 : ¬ (z449 < i) := hc450
                  refine w_aload (i := 0) (npc := 70) rfl rfl rfl ?_
                  refine w_getf (i := 81) (ci := 8) (k := 2) (npc := 73) rfl (hI15.pl (by decide)) (hI15.T (by decide) rfl) (by decide) (hI15.ref 81 2 (p := 82) (by decide) (by decide) rfl) ?_
                  refine w_iload (i := 2) (npc := 74) rfl rfl ?_
                  refine w_iload (i := 6) (npc := 76) rfl rfl ?_
                  refine w_iadd (npc := 77) rfl (by omega) ?_
                  obtain ⟨z484, hz484, hz484a, hz484b⟩ := hI15.int 82 (b + i : Int).toNat (lo := 0) (hi := 65540) (by decide) (show (b + i : Int).toNat < 531366 by omega) rfl
                  have ghz484 := gv_eq hz484
                  refine w_ald (i := 82) (t := 1) (n := 531366) (npc := 78) rfl (hI15.pl (by decide)) (hI15.T (by decide) rfl) (by decide) rfl (by omega) hz484 ?_
                  refine w_goto (pt := 88) rfl ?_
                  refine w_istore (i := 8) (npc := 90) (loc' := [cr 81, ai_i a, ai_i b, ai_i w, ai_i t, ai_i c, ai_i i, ai_i 0, ai_i z484]) rfl rfl ?_
                  refine w_aload (i := 0) (npc := 91) rfl rfl rfl ?_
                  refine w_getf (i := 81) (ci := 8) (k := 2) (npc := 94) rfl (hI15.pl (by decide)) (hI15.T (by decide) rfl) (by decide) (hI15.ref 81 2 (p := 82) (by decide) (by decide) rfl) ?_
                  refine w_iload (i := 4) (npc := 96) rfl rfl ?_
                  refine w_iload (i := 6) (npc := 98) rfl rfl ?_
                  refine w_ast (i := 82) (k := 1) (n := 531366) (npc := 99) rfl (hI15.pl (by decide)) (hI15.T (by decide) rfl) (by decide) (by omega) cm_af1 ?_
                  have hI486 := hI15.puti (i := 82) (k := (t : Int).toNat) (z := i) (lo := 0) (hi := 65540) (by decide) rfl (by omega)
                  have hF488 := cm_fr.up (i := 82) (k := (t : Int).toNat) (v := ai_i i) hF15 (by first | (simp; done) | (simp; omega) | (intro i k h; (try simp only at h); (try simp only); omega))
                  generalize hE487 : cm_up Eq15 82 (t : Int).toNat (ai_i i) = E485 at hI486 hF488   ⊢
                  have hz489 : E485 82 (t : Int).toNat = ai_i i := by rw [← hE487, cm_up_eq]
                  have ghz489 := gv_eq hz489
                  refine w_iload (i := 8) (npc := 101) rfl rfl ?_
                  refine w_const (n := 8) (npc := 103) rfl ?_
                  refine w_idiv (npc := 104) rfl (by omega) (by omega) (fun z490 hz490 hz490b hz490c => ?_)
                  refine w_iload (i := 7) (npc := 106) rfl rfl ?_
                  refine w_const (n := 8) (npc := 108) rfl ?_
                  refine w_idiv (npc := 109) rfl (by omega) (by omega) (fun z491 hz491 hz491b hz491c => ?_)
                  refine w_isub (npc := 110) rfl (by omega) ?_
                  refine w_const (n := 2) (npc := 111) rfl ?_
                  refine w_icmp (c := .lt) (npc := 114) (pt := 144) rfl (fun hc493 => ?_) (fun hc493 => ?_)
                  · replace hc493 : z490 - z491 < (2 : Int) := hc493
                    refine w_aload (i := 0) (npc := 145) rfl rfl rfl ?_
                    refine w_getf (i := 81) (ci := 8) (k := 2) (npc := 148) rfl (hI486.pl (by decide)) (hI486.T (by decide) rfl) (by decide) (hI486.ref 81 2 (p := 82) (by decide) (by decide) rfl) ?_
                    refine w_iload (i := 4) (npc := 150) rfl rfl ?_
                    refine w_iload (i := 6) (npc := 152) rfl rfl ?_
                    refine w_iadd (npc := 153) rfl (by omega) ?_
                    refine w_iload (i := 7) (npc := 155) rfl rfl ?_
                    refine w_ast (i := 82) (k := 1) (n := 531366) (npc := 156) rfl (hI486.pl (by decide)) (hI486.T (by decide) rfl) (by decide) (by omega) cm_af1 ?_
                    have hI496 := hI486.puti (i := 82) (k := (t + i : Int).toNat) (z := 0) (lo := 0) (hi := 65540) (by decide) rfl (by omega)
                    have hF498 := cm_fr.up (i := 82) (k := (t + i : Int).toNat) (v := ai_i 0) hF488 (by first | (simp; done) | (simp; omega) | (intro i k h; (try simp only at h); (try simp only); omega))
                    generalize hE497 : cm_up E485 82 (t + i : Int).toNat (ai_i 0) = E495 at hI496 hF498   ⊢
                    have hz499 : E495 82 (t + i : Int).toNat = ai_i 0 := by rw [← hE497, cm_up_eq]
                    have ghz499 := gv_eq hz499
                    refine w_iload (i := 5) (npc := 158) rfl rfl ?_
                    refine w_if (c := .eq) (npc := 161) (pt := 172) rfl (fun hc500 => ?_) (fun hc500 => ?_)
                    · replace hc500 : c = (0 : Int) := hc500
                      refine w_const (n := 0) (npc := 173) rfl ?_
                      refine w_istore (i := 5) (npc := 175) (loc' := [cr 81, ai_i a, ai_i b, ai_i w, ai_i t, ai_i 0, ai_i i, ai_i 0, ai_i z484]) rfl rfl ?_
                      refine w_iinc (i := 6) (n := 1) (npc := 178) (loc' := [cr 81, ai_i a, ai_i b, ai_i w, ai_i t, ai_i 0, ai_i (i + 1), ai_i 0, ai_i z484]) rfl rfl (by omega) rfl ?_
                      refine w_goto (pt := 15) rfl ?_
                      exact ih15 (0) (i + 1) (ai_i 0) (ai_i z484) E495 (by omega) hI496 hF498 (by have e1 : gv E495 82 t.toNat = i := (by rw [← hE497, gv_ne _ _ (by omega), ← hE487, gv_up]); omega)
                    · replace hc500 : ¬ (c = (0 : Int)) := hc500
                      refine w_iload (i := 7) (npc := 163) rfl rfl ?_
                      refine w_iload (i := 8) (npc := 165) rfl rfl ?_
                      refine w_icmp (c := .ne) (npc := 168) (pt := 172) rfl (fun hc502 => ?_) (fun hc502 => ?_)
                      · replace hc502 : (0 : Int) ≠ z484 := hc502
                        refine w_const (n := 0) (npc := 173) rfl ?_
                        refine w_istore (i := 5) (npc := 175) (loc' := [cr 81, ai_i a, ai_i b, ai_i w, ai_i t, ai_i 0, ai_i i, ai_i 0, ai_i z484]) rfl rfl ?_
                        refine w_iinc (i := 6) (n := 1) (npc := 178) (loc' := [cr 81, ai_i a, ai_i b, ai_i w, ai_i t, ai_i 0, ai_i (i + 1), ai_i 0, ai_i z484]) rfl rfl (by omega) rfl ?_
                        refine w_goto (pt := 15) rfl ?_
                        exact ih15 (0) (i + 1) (ai_i 0) (ai_i z484) E495 (by omega) hI496 hF498 (by have e1 : gv E495 82 t.toNat = i := (by rw [← hE497, gv_ne _ _ (by omega), ← hE487, gv_up]); omega)
                      · replace hc502 : ¬ ((0 : Int) ≠ z484) := hc502
                        refine w_const (n := 1) (npc := 169) rfl ?_
                        refine w_goto (pt := 173) rfl ?_
                        refine w_istore (i := 5) (npc := 175) (loc' := [cr 81, ai_i a, ai_i b, ai_i w, ai_i t, ai_i 1, ai_i i, ai_i 0, ai_i z484]) rfl rfl ?_
                        refine w_iinc (i := 6) (n := 1) (npc := 178) (loc' := [cr 81, ai_i a, ai_i b, ai_i w, ai_i t, ai_i 1, ai_i (i + 1), ai_i 0, ai_i z484]) rfl rfl (by omega) rfl ?_
                        refine w_goto (pt := 15) rfl ?_
                        exact ih15 (1) (i + 1) (ai_i 0) (ai_i z484) E495 (by omega) hI496 hF498 (by have e1 : gv E495 82 t.toNat = i := (by rw [← hE497, gv_ne _ _ (by omega), ← hE487, gv_up]); omega)
                  · replace hc493 : ¬ (z490 - z491 < (2 : Int)) := hc493
                    refine w_aload (i := 0) (npc := 115) rfl rfl rfl ?_
                    refine w_getf (i := 81) (ci := 8) (k := 2) (npc := 118) rfl (hI486.pl (by decide)) (hI486.T (by decide) rfl) (by decide) (hI486.ref 81 2 (p := 82) (by decide) (by decide) rfl) ?_
                    refine w_iload (i := 4) (npc := 120) rfl rfl ?_
                    refine w_iload (i := 6) (npc := 122) rfl rfl ?_
                    refine w_iadd (npc := 123) rfl (by omega) ?_
                    refine w_const (n := 8) (npc := 125) rfl ?_
                    refine w_iload (i := 7) (npc := 127) rfl rfl ?_
                    refine w_const (n := 8) (npc := 129) rfl ?_
                    refine w_idiv (npc := 130) rfl (by omega) (by omega) (fun z506 hz506 hz506b hz506c => ?_)
                    refine w_iload (i := 8) (npc := 132) rfl rfl ?_
                    refine w_const (n := 8) (npc := 134) rfl ?_
                    refine w_idiv (npc := 135) rfl (by omega) (by omega) (fun z507 hz507 hz507b hz507c => ?_)
                    refine w_iadd (npc := 136) rfl (by omega) ?_
                    refine w_const (n := 2) (npc := 137) rfl ?_
                    refine w_idiv (npc := 138) rfl (by omega) (by omega) (fun z509 hz509 hz509b hz509c => ?_)
                    refine w_imul (npc := 139) rfl (by omega) ?_
                    refine w_iload (i := 3) (npc := 140) rfl rfl ?_
                    refine w_iadd (npc := 141) rfl (by omega) ?_
                    refine w_ast (i := 82) (k := 1) (n := 531366) (npc := 142) rfl (hI486.pl (by decide)) (hI486.T (by decide) rfl) (by decide) (by omega) cm_af1 ?_
                    have hI513 := hI486.puti (i := 82) (k := (t + i : Int).toNat) (z := 8 * z509 + w) (lo := 0) (hi := 65540) (by decide) rfl (by omega)
                    have hF515 := cm_fr.up (i := 82) (k := (t + i : Int).toNat) (v := ai_i (8 * z509 + w)) hF488 (by first | (simp; done) | (simp; omega) | (intro i k h; (try simp only at h); (try simp only); omega))
                    generalize hE514 : cm_up E485 82 (t + i : Int).toNat (ai_i (8 * z509 + w)) = E512 at hI513 hF515   ⊢
                    have hz516 : E512 82 (t + i : Int).toNat = ai_i (8 * z509 + w) := by rw [← hE514, cm_up_eq]
                    have ghz516 := gv_eq hz516
                    refine w_const (n := 1) (npc := 143) rfl ?_
                    exact w_zret rfl (by omega) (⟨rfl, rfl, rfl, hI513, hF515, 1, rfl, ⟨by omega, by omega, by rw [← hE514, gv_ne _ _ (by omega), ← hE487, gv_up]; omega⟩⟩) (by omega) (by omega)
            · replace hc415 : ¬ (z414 < i) := hc415
              refine w_aload (i := 0) (npc := 39) rfl rfl rfl ?_
              refine w_getf (i := 81) (ci := 8) (k := 2) (npc := 42) rfl (hI15.pl (by decide)) (hI15.T (by decide) rfl) (by decide) (hI15.ref 81 2 (p := 82) (by decide) (by decide) rfl) ?_
              refine w_iload (i := 1) (npc := 43) rfl rfl ?_
              refine w_iload (i := 6) (npc := 45) rfl rfl ?_
              refine w_iadd (npc := 46) rfl (by omega) ?_
              obtain ⟨z518, hz518, hz518a, hz518b⟩ := hI15.int 82 (a + i : Int).toNat (lo := 0) (hi := 65540) (by decide) (show (a + i : Int).toNat < 531366 by omega) rfl
              have ghz518 := gv_eq hz518
              refine w_ald (i := 82) (t := 1) (n := 531366) (npc := 47) rfl (hI15.pl (by decide)) (hI15.T (by decide) rfl) (by decide) rfl (by omega) hz518 ?_
              refine w_goto (pt := 51) rfl ?_
              refine w_istore (i := 7) (npc := 53) (loc' := [cr 81, ai_i a, ai_i b, ai_i w, ai_i t, ai_i c, ai_i i, ai_i z518, u15_8]) rfl rfl ?_
              refine w_iload (i := 5) (npc := 55) rfl rfl ?_
              refine w_if (c := .eq) (npc := 58) (pt := 85) rfl (fun hc519 => ?_) (fun hc519 => ?_)
              · replace hc519 : c = (0 : Int) := hc519
                refine w_const (n := 800) (npc := 88) rfl ?_
                refine w_istore (i := 8) (npc := 90) (loc' := [cr 81, ai_i a, ai_i b, ai_i w, ai_i t, ai_i c, ai_i i, ai_i z518, ai_i 800]) rfl rfl ?_
                refine w_aload (i := 0) (npc := 91) rfl rfl rfl ?_
                refine w_getf (i := 81) (ci := 8) (k := 2) (npc := 94) rfl (hI15.pl (by decide)) (hI15.T (by decide) rfl) (by decide) (hI15.ref 81 2 (p := 82) (by decide) (by decide) rfl) ?_
                refine w_iload (i := 4) (npc := 96) rfl rfl ?_
                refine w_iload (i := 6) (npc := 98) rfl rfl ?_
                refine w_ast (i := 82) (k := 1) (n := 531366) (npc := 99) rfl (hI15.pl (by decide)) (hI15.T (by decide) rfl) (by decide) (by omega) cm_af1 ?_
                have hI521 := hI15.puti (i := 82) (k := (t : Int).toNat) (z := i) (lo := 0) (hi := 65540) (by decide) rfl (by omega)
                have hF523 := cm_fr.up (i := 82) (k := (t : Int).toNat) (v := ai_i i) hF15 (by first | (simp; done) | (simp; omega) | (intro i k h; (try simp only at h); (try simp only); omega))
                generalize hE522 : cm_up Eq15 82 (t : Int).toNat (ai_i i) = E520 at hI521 hF523   ⊢
                have hz524 : E520 82 (t : Int).toNat = ai_i i := by rw [← hE522, cm_up_eq]
                have ghz524 := gv_eq hz524
                refine w_iload (i := 8) (npc := 101) rfl rfl ?_
                refine w_const (n := 8) (npc := 103) rfl ?_
                refine w_idiv (npc := 104) rfl (by omega) (by omega) (fun z525 hz525 hz525b hz525c => ?_)
                refine w_iload (i := 7) (npc := 106) rfl rfl ?_
                refine w_const (n := 8) (npc := 108) rfl ?_
                refine w_idiv (npc := 109) rfl (by omega) (by omega) (fun z526 hz526 hz526b hz526c => ?_)
                refine w_isub (npc := 110) rfl (by omega) ?_
                refine w_const (n := 2) (npc := 111) rfl ?_
                refine w_icmp (c := .lt) (npc := 114) (pt := 144) rfl (fun hc528 => ?_) (fun hc528 => ?_)
                · replace hc528 : z525 - z526 < (2 : Int) := hc528
                  refine w_aload (i := 0) (npc := 145) rfl rfl rfl ?_
                  refine w_getf (i := 81) (ci := 8) (k := 2) (npc := 148) rfl (hI521.pl (by decide)) (hI521.T (by decide) rfl) (by decide) (hI521.ref 81 2 (p := 82) (by decide) (by decide) rfl) ?_
                  refine w_iload (i := 4) (npc := 150) rfl rfl ?_
                  refine w_iload (i := 6) (npc := 152) rfl rfl ?_
                  refine w_iadd (npc := 153) rfl (by omega) ?_
                  refine w_iload (i := 7) (npc := 155) rfl rfl ?_
                  refine w_ast (i := 82) (k := 1) (n := 531366) (npc := 156) rfl (hI521.pl (by decide)) (hI521.T (by decide) rfl) (by decide) (by omega) cm_af1 ?_
                  have hI531 := hI521.puti (i := 82) (k := (t + i : Int).toNat) (z := z518) (lo := 0) (hi := 65540) (by decide) rfl (by omega)
                  have hF533 := cm_fr.up (i := 82) (k := (t + i : Int).toNat) (v := ai_i z518) hF523 (by first | (simp; done) | (simp; omega) | (intro i k h; (try simp only at h); (try simp only); omega))
                  generalize hE532 : cm_up E520 82 (t + i : Int).toNat (ai_i z518) = E530 at hI531 hF533   ⊢
                  have hz534 : E530 82 (t + i : Int).toNat = ai_i z518 := by rw [← hE532, cm_up_eq]
                  have ghz534 := gv_eq hz534
                  refine w_iload (i := 5) (npc := 158) rfl rfl ?_
                  refine w_if (c := .eq) (npc := 161) (pt := 172) rfl (fun hc535 => ?_) (fun hc535 => ?_)
                  · replace hc535 : c = (0 : Int) := hc535
                    refine w_const (n := 0) (npc := 173) rfl ?_
                    refine w_istore (i := 5) (npc := 175) (loc' := [cr 81, ai_i a, ai_i b, ai_i w, ai_i t, ai_i 0, ai_i i, ai_i z518, ai_i 800]) rfl rfl ?_
                    refine w_iinc (i := 6) (n := 1) (npc := 178) (loc' := [cr 81, ai_i a, ai_i b, ai_i w, ai_i t, ai_i 0, ai_i (i + 1), ai_i z518, ai_i 800]) rfl rfl (by omega) rfl ?_
                    refine w_goto (pt := 15) rfl ?_
                    exact ih15 (0) (i + 1) (ai_i z518) (ai_i 800) E530 (by omega) hI531 hF533 (by have e1 : gv E530 82 t.toNat = i := (by rw [← hE532, gv_ne _ _ (by omega), ← hE522, gv_up]); omega)
                  · replace hc535 : ¬ (c = (0 : Int)) := hc535
                    refine w_iload (i := 7) (npc := 163) rfl rfl ?_
                    refine w_iload (i := 8) (npc := 165) rfl rfl ?_
                    refine w_icmp (c := .ne) (npc := 168) (pt := 172) rfl (fun hc537 => ?_) (fun hc537 => ?_)
                    · replace hc537 : z518 ≠ (800 : Int) := hc537
                      refine w_const (n := 0) (npc := 173) rfl ?_
                      refine w_istore (i := 5) (npc := 175) (loc' := [cr 81, ai_i a, ai_i b, ai_i w, ai_i t, ai_i 0, ai_i i, ai_i z518, ai_i 800]) rfl rfl ?_
                      refine w_iinc (i := 6) (n := 1) (npc := 178) (loc' := [cr 81, ai_i a, ai_i b, ai_i w, ai_i t, ai_i 0, ai_i (i + 1), ai_i z518, ai_i 800]) rfl rfl (by omega) rfl ?_
                      refine w_goto (pt := 15) rfl ?_
                      exact ih15 (0) (i + 1) (ai_i z518) (ai_i 800) E530 (by omega) hI531 hF533 (by have e1 : gv E530 82 t.toNat = i := (by rw [← hE532, gv_ne _ _ (by omega), ← hE522, gv_up]); omega)
                    · replace hc537 : ¬ (z518 ≠ (800 : Int)) := hc537
                      refine w_const (n := 1) (npc := 169) rfl ?_
                      refine w_goto (pt := 173) rfl ?_
                      refine w_istore (i := 5) (npc := 175) (loc' := [cr 81, ai_i a, ai_i b, ai_i w, ai_i t, ai_i 1, ai_i i, ai_i z518, ai_i 800]) rfl rfl ?_
                      refine w_iinc (i := 6) (n := 1) (npc := 178) (loc' := [cr 81, ai_i a, ai_i b, ai_i w, ai_i t, ai_i 1, ai_i (i + 1), ai_i z518, ai_i 800]) rfl rfl (by omega) rfl ?_
                      refine w_goto (pt := 15) rfl ?_
                      exact ih15 (1) (i + 1) (ai_i z518) (ai_i 800) E530 (by omega) hI531 hF533 (by have e1 : gv E530 82 t.toNat = i := (by rw [← hE532, gv_ne _ _ (by omega), ← hE522, gv_up]); omega)
                · replace hc528 : ¬ (z525 - z526 < (2 : Int)) := hc528
                  refine w_aload (i := 0) (npc := 115) rfl rfl rfl ?_
                  refine w_getf (i := 81) (ci := 8) (k := 2) (npc := 118) rfl (hI521.pl (by decide)) (hI521.T (by decide) rfl) (by decide) (hI521.ref 81 2 (p := 82) (by decide) (by decide) rfl) ?_
                  refine w_iload (i := 4) (npc := 120) rfl rfl ?_
                  refine w_iload (i := 6) (npc := 122) rfl rfl ?_
                  refine w_iadd (npc := 123) rfl (by omega) ?_
                  refine w_const (n := 8) (npc := 125) rfl ?_
                  refine w_iload (i := 7) (npc := 127) rfl rfl ?_
                  refine w_const (n := 8) (npc := 129) rfl ?_
                  refine w_idiv (npc := 130) rfl (by omega) (by omega) (fun z541 hz541 hz541b hz541c => ?_)
                  refine w_iload (i := 8) (npc := 132) rfl rfl ?_
                  refine w_const (n := 8) (npc := 134) rfl ?_
                  refine w_idiv (npc := 135) rfl (by omega) (by omega) (fun z542 hz542 hz542b hz542c => ?_)
                  refine w_iadd (npc := 136) rfl (by omega) ?_
                  refine w_const (n := 2) (npc := 137) rfl ?_
                  refine w_idiv (npc := 138) rfl (by omega) (by omega) (fun z544 hz544 hz544b hz544c => ?_)
                  refine w_imul (npc := 139) rfl (by omega) ?_
                  refine w_iload (i := 3) (npc := 140) rfl rfl ?_
                  refine w_iadd (npc := 141) rfl (by omega) ?_
                  refine w_ast (i := 82) (k := 1) (n := 531366) (npc := 142) rfl (hI521.pl (by decide)) (hI521.T (by decide) rfl) (by decide) (by omega) cm_af1 ?_
                  have hI548 := hI521.puti (i := 82) (k := (t + i : Int).toNat) (z := 8 * z544 + w) (lo := 0) (hi := 65540) (by decide) rfl (by omega)
                  have hF550 := cm_fr.up (i := 82) (k := (t + i : Int).toNat) (v := ai_i (8 * z544 + w)) hF523 (by first | (simp; done) | (simp; omega) | (intro i k h; (try simp only at h); (try simp only); omega))
                  generalize hE549 : cm_up E520 82 (t + i : Int).toNat (ai_i (8 * z544 + w)) = E547 at hI548 hF550   ⊢
                  have hz551 : E547 82 (t + i : Int).toNat = ai_i (8 * z544 + w) := by rw [← hE549, cm_up_eq]
                  have ghz551 := gv_eq hz551
                  refine w_const (n := 1) (npc := 143) rfl ?_
                  exact w_zret rfl (by omega) (⟨rfl, rfl, rfl, hI548, hF550, 1, rfl, ⟨by omega, by omega, by rw [← hE549, gv_ne _ _ (by omega), ← hE522, gv_up]; omega⟩⟩) (by omega) (by omega)
              · replace hc519 : ¬ (c = (0 : Int)) := hc519
                refine w_iload (i := 6) (npc := 60) rfl rfl ?_
                refine w_aload (i := 0) (npc := 61) rfl rfl rfl ?_
                refine w_getf (i := 81) (ci := 8) (k := 2) (npc := 64) rfl (hI15.pl (by decide)) (hI15.T (by decide) rfl) (by decide) (hI15.ref 81 2 (p := 82) (by decide) (by decide) rfl) ?_
                refine w_iload (i := 2) (npc := 65) rfl rfl ?_
                obtain ⟨z552, hz552, hz552a, hz552b⟩ := hI15.int 82 (b : Int).toNat (lo := 0) (hi := 65540) (by decide) (show (b : Int).toNat < 531366 by omega) rfl
                have ghz552 := gv_eq hz552
                refine w_ald (i := 82) (t := 1) (n := 531366) (npc := 66) rfl (hI15.pl (by decide)) (hI15.T (by decide) rfl) (by decide) rfl (by omega) hz552 ?_
                refine w_icmp (c := .gt) (npc := 69) (pt := 81) rfl (fun hc553 => ?_) (fun hc553 => ?_)
                · replace hc553 : z552 < i := hc553
                  refine w_const (n := 0) (npc := 82) rfl ?_
                  refine w_goto (pt := 88) rfl ?_
                  refine w_istore (i := 8) (npc := 90) (loc' := [cr 81, ai_i a, ai_i b, ai_i w, ai_i t, ai_i c, ai_i i, ai_i z518, ai_i 0]) rfl rfl ?_
                  refine w_aload (i := 0) (npc := 91) rfl rfl rfl ?_
                  refine w_getf (i := 81) (ci := 8) (k := 2) (npc := 94) rfl (hI15.pl (by decide)) (hI15.T (by decide) rfl) (by decide) (hI15.ref 81 2 (p := 82) (by decide) (by decide) rfl) ?_
                  refine w_iload (i := 4) (npc := 96) rfl rfl ?_
                  refine w_iload (i := 6) (npc := 98) rfl rfl ?_
                  refine w_ast (i := 82) (k := 1) (n := 531366) (npc := 99) rfl (hI15.pl (by decide)) (hI15.T (by decide) rfl) (by decide) (by omega) cm_af1 ?_
                  have hI555 := hI15.puti (i := 82) (k := (t : Int).toNat) (z := i) (lo := 0) (hi := 65540) (by decide) rfl (by omega)
                  have hF557 := cm_fr.up (i := 82) (k := (t : Int).toNat) (v := ai_i i) hF15 (by first | (simp; done) | (simp; omega) | (intro i k h; (try simp only at h); (try simp only); omega))
                  generalize hE556 : cm_up Eq15 82 (t : Int).toNat (ai_i i) = E554 at hI555 hF557   ⊢
                  have hz558 : E554 82 (t : Int).toNat = ai_i i := by rw [← hE556, cm_up_eq]
                  have ghz558 := gv_eq hz558
                  refine w_iload (i := 8) (npc := 101) rfl rfl ?_
                  refine w_const (n := 8) (npc := 103) rfl ?_
                  refine w_idiv (npc := 104) rfl (by omega) (by omega) (fun z559 hz559 hz559b hz559c => ?_)
                  refine w_iload (i := 7) (npc := 106) rfl rfl ?_
                  refine w_const (n := 8) (npc := 108) rfl ?_
                  refine w_idiv (npc := 109) rfl (by omega) (by omega) (fun z560 hz560 hz560b hz560c => ?_)
                  refine w_isub (npc := 110) rfl (by omega) ?_
                  refine w_const (n := 2) (npc := 111) rfl ?_
                  refine w_icmp (c := .lt) (npc := 114) (pt := 144) rfl (fun hc562 => ?_) (fun hc562 => ?_)
                  · replace hc562 : z559 - z560 < (2 : Int) := hc562
                    refine w_aload (i := 0) (npc := 145) rfl rfl rfl ?_
                    refine w_getf (i := 81) (ci := 8) (k := 2) (npc := 148) rfl (hI555.pl (by decide)) (hI555.T (by decide) rfl) (by decide) (hI555.ref 81 2 (p := 82) (by decide) (by decide) rfl) ?_
                    refine w_iload (i := 4) (npc := 150) rfl rfl ?_
                    refine w_iload (i := 6) (npc := 152) rfl rfl ?_
                    refine w_iadd (npc := 153) rfl (by omega) ?_
                    refine w_iload (i := 7) (npc := 155) rfl rfl ?_
                    refine w_ast (i := 82) (k := 1) (n := 531366) (npc := 156) rfl (hI555.pl (by decide)) (hI555.T (by decide) rfl) (by decide) (by omega) cm_af1 ?_
                    have hI565 := hI555.puti (i := 82) (k := (t + i : Int).toNat) (z := z518) (lo := 0) (hi := 65540) (by decide) rfl (by omega)
                    have hF567 := cm_fr.up (i := 82) (k := (t + i : Int).toNat) (v := ai_i z518) hF557 (by first | (simp; done) | (simp; omega) | (intro i k h; (try simp only at h); (try simp only); omega))
                    generalize hE566 : cm_up E554 82 (t + i : Int).toNat (ai_i z518) = E564 at hI565 hF567   ⊢
                    have hz568 : E564 82 (t + i : Int).toNat = ai_i z518 := by rw [← hE566, cm_up_eq]
                    have ghz568 := gv_eq hz568
                    refine w_iload (i := 5) (npc := 158) rfl rfl ?_
                    refine w_if (c := .eq) (npc := 161) (pt := 172) rfl (fun hc569 => ?_) (fun hc569 => ?_)
                    · replace hc569 : c = (0 : Int) := hc569
                      refine w_const (n := 0) (npc := 173) rfl ?_
                      refine w_istore (i := 5) (npc := 175) (loc' := [cr 81, ai_i a, ai_i b, ai_i w, ai_i t, ai_i 0, ai_i i, ai_i z518, ai_i 0]) rfl rfl ?_
                      refine w_iinc (i := 6) (n := 1) (npc := 178) (loc' := [cr 81, ai_i a, ai_i b, ai_i w, ai_i t, ai_i 0, ai_i (i + 1), ai_i z518, ai_i 0]) rfl rfl (by omega) rfl ?_
                      refine w_goto (pt := 15) rfl ?_
                      exact ih15 (0) (i + 1) (ai_i z518) (ai_i 0) E564 (by omega) hI565 hF567 (by have e1 : gv E564 82 t.toNat = i := (by rw [← hE566, gv_ne _ _ (by omega), ← hE556, gv_up]); omega)
                    · replace hc569 : ¬ (c = (0 : Int)) := hc569
                      refine w_iload (i := 7) (npc := 163) rfl rfl ?_
                      refine w_iload (i := 8) (npc := 165) rfl rfl ?_
                      refine w_icmp (c := .ne) (npc := 168) (pt := 172) rfl (fun hc571 => ?_) (fun hc571 => ?_)
                      · replace hc571 : z518 ≠ (0 : Int) := hc571
                        refine w_const (n := 0) (npc := 173) rfl ?_
                        refine w_istore (i := 5) (npc := 175) (loc' := [cr 81, ai_i a, ai_i b, ai_i w, ai_i t, ai_i 0, ai_i i, ai_i z518, ai_i 0]) rfl rfl ?_
                        refine w_iinc (i := 6) (n := 1) (npc := 178) (loc' := [cr 81, ai_i a, ai_i b, ai_i w, ai_i t, ai_i 0, ai_i (i + 1), ai_i z518, ai_i 0]) rfl rfl (by omega) rfl ?_
                        refine w_goto (pt := 15) rfl ?_
                        exact ih15 (0) (i + 1) (ai_i z518) (ai_i 0) E564 (by omega) hI565 hF567 (by have e1 : gv E564 82 t.toNat = i := (by rw [← hE566, gv_ne _ _ (by omega), ← hE556, gv_up]); omega)
                      · replace hc571 : ¬ (z518 ≠ (0 : Int)) := hc571
                        refine w_const (n := 1) (npc := 169) rfl ?_
                        refine w_goto (pt := 173) rfl ?_
                        refine w_istore (i := 5) (npc := 175) (loc' := [cr 81, ai_i a, ai_i b, ai_i w, ai_i t, ai_i 1, ai_i i, ai_i z518, ai_i 0]) rfl rfl ?_
                        refine w_iinc (i := 6) (n := 1) (npc := 178) (loc' := [cr 81, ai_i a, ai_i b, ai_i w, ai_i t, ai_i 1, ai_i (i + 1), ai_i z518, ai_i 0]) rfl rfl (by omega) rfl ?_
                        refine w_goto (pt := 15) rfl ?_
                        exact ih15 (1) (i + 1) (ai_i z518) (ai_i 0) E564 (by omega) hI565 hF567 (by have e1 : gv E564 82 t.toNat = i := (by rw [← hE566, gv_ne _ _ (by omega), ← hE556, gv_up]); omega)
                  · replace hc562 : ¬ (z559 - z560 < (2 : Int)) := hc562
                    refine w_aload (i := 0) (npc := 115) rfl rfl rfl ?_
                    refine w_getf (i := 81) (ci := 8) (k := 2) (npc := 118) rfl (hI555.pl (by decide)) (hI555.T (by decide) rfl) (by decide) (hI555.ref 81 2 (p := 82) (by decide) (by decide) rfl) ?_
                    refine w_iload (i := 4) (npc := 120) rfl rfl ?_
                    refine w_iload (i := 6) (npc := 122) rfl rfl ?_
                    refine w_iadd (npc := 123) rfl (by omega) ?_
                    refine w_const (n := 8) (npc := 125) rfl ?_
                    refine w_iload (i := 7) (npc := 127) rfl rfl ?_
                    refine w_const (n := 8) (npc := 129) rfl ?_
                    refine w_idiv (npc := 130) rfl (by omega) (by omega) (fun z575 hz575 hz575b hz575c => ?_)
                    refine w_iload (i := 8) (npc := 132) rfl rfl ?_
                    refine w_const (n := 8) (npc := 134) rfl ?_
                    refine w_idiv (npc := 135) rfl (by omega) (by omega) (fun z576 hz576 hz576b hz576c => ?_)
                    refine w_iadd (npc := 136) rfl (by omega) ?_
                    refine w_const (n := 2) (npc := 137) rfl ?_
                    refine w_idiv (npc := 138) rfl (by omega) (by omega) (fun z578 hz578 hz578b hz578c => ?_)
                    refine w_imul (npc := 139) rfl (by omega) ?_
                    refine w_iload (i := 3) (npc := 140) rfl rfl ?_
                    refine w_iadd (npc := 141) rfl (by omega) ?_
                    refine w_ast (i := 82) (k := 1) (n := 531366) (npc := 142) rfl (hI555.pl (by decide)) (hI555.T (by decide) rfl) (by decide) (by omega) cm_af1 ?_
                    have hI582 := hI555.puti (i := 82) (k := (t + i : Int).toNat) (z := 8 * z578 + w) (lo := 0) (hi := 65540) (by decide) rfl (by omega)
                    have hF584 := cm_fr.up (i := 82) (k := (t + i : Int).toNat) (v := ai_i (8 * z578 + w)) hF557 (by first | (simp; done) | (simp; omega) | (intro i k h; (try simp only at h); (try simp only); omega))
                    generalize hE583 : cm_up E554 82 (t + i : Int).toNat (ai_i (8 * z578 + w)) = E581 at hI582 hF584   ⊢
                    have hz585 : E581 82 (t + i : Int).toNat = ai_i (8 * z578 + w) := by rw [← hE583, cm_up_eq]
                    have ghz585 := gv_eq hz585
                    refine w_const (n := 1) (npc := 143) rfl ?_
                    exact w_zret rfl (by omega) (⟨rfl, rfl, rfl, hI582, hF584, 1, rfl, ⟨by omega, by omega, by rw [← hE583, gv_ne _ _ (by omega), ← hE556, gv_up]; omega⟩⟩) (by omega) (by omega)
                · replace hc553 : ¬ (z552 < i) := hc553
                  refine w_aload (i := 0) (npc := 70) rfl rfl rfl ?_
                  refine w_getf (i := 81) (ci := 8) (k := 2) (npc := 73) rfl (hI15.pl (by decide)) (hI15.T (by decide) rfl) (by decide) (hI15.ref 81 2 (p := 82) (by decide) (by decide) rfl) ?_
                  refine w_iload (i := 2) (npc := 74) rfl rfl ?_
                  refine w_iload (i := 6) (npc := 76) rfl rfl ?_
                  refine w_iadd (npc := 77) rfl (by omega) ?_
                  obtain ⟨z587, hz587, hz587a, hz587b⟩ := hI15.int 82 (b + i : Int).toNat (lo := 0) (hi := 65540) (by decide) (show (b + i : Int).toNat < 531366 by omega) rfl
                  have ghz587 := gv_eq hz587
                  refine w_ald (i := 82) (t := 1) (n := 531366) (npc := 78) rfl (hI15.pl (by decide)) (hI15.T (by decide) rfl) (by decide) rfl (by omega) hz587 ?_
                  refine w_goto (pt := 88) rfl ?_
                  refine w_istore (i := 8) (npc := 90) (loc' := [cr 81, ai_i a, ai_i b, ai_i w, ai_i t, ai_i c, ai_i i, ai_i z518, ai_i z587]) rfl rfl ?_
                  refine w_aload (i := 0) (npc := 91) rfl rfl rfl ?_
                  refine w_getf (i := 81) (ci := 8) (k := 2) (npc := 94) rfl (hI15.pl (by decide)) (hI15.T (by decide) rfl) (by decide) (hI15.ref 81 2 (p := 82) (by decide) (by decide) rfl) ?_
                  refine w_iload (i := 4) (npc := 96) rfl rfl ?_
                  refine w_iload (i := 6) (npc := 98) rfl rfl ?_
                  refine w_ast (i := 82) (k := 1) (n := 531366) (npc := 99) rfl (hI15.pl (by decide)) (hI15.T (by decide) rfl) (by decide) (by omega) cm_af1 ?_
                  have hI589 := hI15.puti (i := 82) (k := (t : Int).toNat) (z := i) (lo := 0) (hi := 65540) (by decide) rfl (by omega)
                  have hF591 := cm_fr.up (i := 82) (k := (t : Int).toNat) (v := ai_i i) hF15 (by first | (simp; done) | (simp; omega) | (intro i k h; (try simp only at h); (try simp only); omega))
                  generalize hE590 : cm_up Eq15 82 (t : Int).toNat (ai_i i) = E588 at hI589 hF591   ⊢
                  have hz592 : E588 82 (t : Int).toNat = ai_i i := by rw [← hE590, cm_up_eq]
                  have ghz592 := gv_eq hz592
                  refine w_iload (i := 8) (npc := 101) rfl rfl ?_
                  refine w_const (n := 8) (npc := 103) rfl ?_
                  refine w_idiv (npc := 104) rfl (by omega) (by omega) (fun z593 hz593 hz593b hz593c => ?_)
                  refine w_iload (i := 7) (npc := 106) rfl rfl ?_
                  refine w_const (n := 8) (npc := 108) rfl ?_
                  refine w_idiv (npc := 109) rfl (by omega) (by omega) (fun z594 hz594 hz594b hz594c => ?_)
                  refine w_isub (npc := 110) rfl (by omega) ?_
                  refine w_const (n := 2) (npc := 111) rfl ?_
                  refine w_icmp (c := .lt) (npc := 114) (pt := 144) rfl (fun hc596 => ?_) (fun hc596 => ?_)
                  · replace hc596 : z593 - z594 < (2 : Int) := hc596
                    refine w_aload (i := 0) (npc := 145) rfl rfl rfl ?_
                    refine w_getf (i := 81) (ci := 8) (k := 2) (npc := 148) rfl (hI589.pl (by decide)) (hI589.T (by decide) rfl) (by decide) (hI589.ref 81 2 (p := 82) (by decide) (by decide) rfl) ?_
                    refine w_iload (i := 4) (npc := 150) rfl rfl ?_
                    refine w_iload (i := 6) (npc := 152) rfl rfl ?_
                    refine w_iadd (npc := 153) rfl (by omega) ?_
                    refine w_iload (i := 7) (npc := 155) rfl rfl ?_
                    refine w_ast (i := 82) (k := 1) (n := 531366) (npc := 156) rfl (hI589.pl (by decide)) (hI589.T (by decide) rfl) (by decide) (by omega) cm_af1 ?_
                    have hI599 := hI589.puti (i := 82) (k := (t + i : Int).toNat) (z := z518) (lo := 0) (hi := 65540) (by decide) rfl (by omega)
                    have hF601 := cm_fr.up (i := 82) (k := (t + i : Int).toNat) (v := ai_i z518) hF591 (by first | (simp; done) | (simp; omega) | (intro i k h; (try simp only at h); (try simp only); omega))
                    generalize hE600 : cm_up E588 82 (t + i : Int).toNat (ai_i z518) = E598 at hI599 hF601   ⊢
                    have hz602 : E598 82 (t + i : Int).toNat = ai_i z518 := by rw [← hE600, cm_up_eq]
                    have ghz602 := gv_eq hz602
                    refine w_iload (i := 5) (npc := 158) rfl rfl ?_
                    refine w_if (c := .eq) (npc := 161) (pt := 172) rfl (fun hc603 => ?_) (fun hc603 => ?_)
                    · replace hc603 : c = (0 : Int) := hc603
                      refine w_const (n := 0) (npc := 173) rfl ?_
                      refine w_istore (i := 5) (npc := 175) (loc' := [cr 81, ai_i a, ai_i b, ai_i w, ai_i t, ai_i 0, ai_i i, ai_i z518, ai_i z587]) rfl rfl ?_
                      refine w_iinc (i := 6) (n := 1) (npc := 178) (loc' := [cr 81, ai_i a, ai_i b, ai_i w, ai_i t, ai_i 0, ai_i (i + 1), ai_i z518, ai_i z587]) rfl rfl (by omega) rfl ?_
                      refine w_goto (pt := 15) rfl ?_
                      exact ih15 (0) (i + 1) (ai_i z518) (ai_i z587) E598 (by omega) hI599 hF601 (by have e1 : gv E598 82 t.toNat = i := (by rw [← hE600, gv_ne _ _ (by omega), ← hE590, gv_up]); omega)
                    · replace hc603 : ¬ (c = (0 : Int)) := hc603
                      refine w_iload (i := 7) (npc := 163) rfl rfl ?_
                      refine w_iload (i := 8) (npc := 165) rfl rfl ?_
                      refine w_icmp (c := .ne) (npc := 168) (pt := 172) rfl (fun hc605 => ?_) (fun hc605 => ?_)
                      · replace hc605 : z518 ≠ z587 := hc605
                        refine w_const (n := 0) (npc := 173) rfl ?_
                        refine w_istore (i := 5) (npc := 175) (loc' := [cr 81, ai_i a, ai_i b, ai_i w, ai_i t, ai_i 0, ai_i i, ai_i z518, ai_i z587]) rfl rfl ?_
                        refine w_iinc (i := 6) (n := 1) (npc := 178) (loc' := [cr 81, ai_i a, ai_i b, ai_i w, ai_i t, ai_i 0, ai_i (i + 1), ai_i z518, ai_i z587]) rfl rfl (by omega) rfl ?_
                        refine w_goto (pt := 15) rfl ?_
                        exact ih15 (0) (i + 1) (ai_i z518) (ai_i z587) E598 (by omega) hI599 hF601 (by have e1 : gv E598 82 t.toNat = i := (by rw [← hE600, gv_ne _ _ (by omega), ← hE590, gv_up]); omega)
                      · replace hc605 : ¬ (z518 ≠ z587) := hc605
                        refine w_const (n := 1) (npc := 169) rfl ?_
                        refine w_goto (pt := 173) rfl ?_
                        refine w_istore (i := 5) (npc := 175) (loc' := [cr 81, ai_i a, ai_i b, ai_i w, ai_i t, ai_i 1, ai_i i, ai_i z518, ai_i z587]) rfl rfl ?_
                        refine w_iinc (i := 6) (n := 1) (npc := 178) (loc' := [cr 81, ai_i a, ai_i b, ai_i w, ai_i t, ai_i 1, ai_i (i + 1), ai_i z518, ai_i z587]) rfl rfl (by omega) rfl ?_
                        refine w_goto (pt := 15) rfl ?_
                        exact ih15 (1) (i + 1) (ai_i z518) (ai_i z587) E598 (by omega) hI599 hF601 (by have e1 : gv E598 82 t.toNat = i := (by rw [← hE600, gv_ne _ _ (by omega), ← hE590, gv_up]); omega)
                  · replace hc596 : ¬ (z593 - z594 < (2 : Int)) := hc596
                    refine w_aload (i := 0) (npc := 115) rfl rfl rfl ?_
                    refine w_getf (i := 81) (ci := 8) (k := 2) (npc := 118) rfl (hI589.pl (by decide)) (hI589.T (by decide) rfl) (by decide) (hI589.ref 81 2 (p := 82) (by decide) (by decide) rfl) ?_
                    refine w_iload (i := 4) (npc := 120) rfl rfl ?_
                    refine w_iload (i := 6) (npc := 122) rfl rfl ?_
                    refine w_iadd (npc := 123) rfl (by omega) ?_
                    refine w_const (n := 8) (npc := 125) rfl ?_
                    refine w_iload (i := 7) (npc := 127) rfl rfl ?_
                    refine w_const (n := 8) (npc := 129) rfl ?_
                    refine w_idiv (npc := 130) rfl (by omega) (by omega) (fun z609 hz609 hz609b hz609c => ?_)
                    refine w_iload (i := 8) (npc := 132) rfl rfl ?_
                    refine w_const (n := 8) (npc := 134) rfl ?_
                    refine w_idiv (npc := 135) rfl (by omega) (by omega) (fun z610 hz610 hz610b hz610c => ?_)
                    refine w_iadd (npc := 136) rfl (by omega) ?_
                    refine w_const (n := 2) (npc := 137) rfl ?_
                    refine w_idiv (npc := 138) rfl (by omega) (by omega) (fun z612 hz612 hz612b hz612c => ?_)
                    refine w_imul (npc := 139) rfl (by omega) ?_
                    refine w_iload (i := 3) (npc := 140) rfl rfl ?_
                    refine w_iadd (npc := 141) rfl (by omega) ?_
                    refine w_ast (i := 82) (k := 1) (n := 531366) (npc := 142) rfl (hI589.pl (by decide)) (hI589.T (by decide) rfl) (by decide) (by omega) cm_af1 ?_
                    have hI616 := hI589.puti (i := 82) (k := (t + i : Int).toNat) (z := 8 * z612 + w) (lo := 0) (hi := 65540) (by decide) rfl (by omega)
                    have hF618 := cm_fr.up (i := 82) (k := (t + i : Int).toNat) (v := ai_i (8 * z612 + w)) hF591 (by first | (simp; done) | (simp; omega) | (intro i k h; (try simp only at h); (try simp only); omega))
                    generalize hE617 : cm_up E588 82 (t + i : Int).toNat (ai_i (8 * z612 + w)) = E615 at hI616 hF618   ⊢
                    have hz619 : E615 82 (t + i : Int).toNat = ai_i (8 * z612 + w) := by rw [← hE617, cm_up_eq]
                    have ghz619 := gv_eq hz619
                    refine w_const (n := 1) (npc := 143) rfl ?_
                    exact w_zret rfl (by omega) (⟨rfl, rfl, rfl, hI616, hF618, 1, rfl, ⟨by omega, by omega, by rw [← hE617, gv_ne _ _ (by omega), ← hE590, gv_up]; omega⟩⟩) (by omega) (by omega)
    exact loop15 _ (1) (1) (ai_un) (ai_un) E (Nat.lt_succ_self _) hI hF (by omega)
set_option maxRecDepth 16384 in
theorem ct_m_lay {sl : Int × Int} {x : ai_E} {d : Nat} {T : cm_T} {E : cm_E} {nx : Nat} (v : Int) (hI : cs_I T E nx) (hp0 : 0 ≤ v ∧ v ≤ 65540) (hp1 : gv E 81 16 ≤ 399) : cm_ct (ai_ev sl (d + 1)) x 179 [cr 81, ai_i v] T E nx 0 0 (fun rk rv T' E' nx' => rk = 0 ∧ T = T' ∧ nx = nx' ∧ cs_I T E' nx ∧ cm_fr (fun i k => (i = 81 ∧ (k = 16)) ∨ i = 92) E E' ∧ (gv E' 81 16 = gv E 81 16 + 1)) := by
  refine cm_body (M := ai_m179) rfl rfl (fun kc ks => ?_)
  show cm_wp (ai_find ai_c179 sl) (ai_ev sl (d + 0)) x (kc + 0) (ks + 0) _ 0 [cr 81, ai_i v] [] T E nx kc ks
  have hF : cm_fr (fun i k => (i = 81 ∧ (k = 16)) ∨ i = 92) E E := fun _ _ _ => rfl
  refine w_aload (i := 0) (npc := 1) rfl rfl rfl ?_
  refine w_getf (i := 81) (ci := 8) (k := 14) (npc := 4) rfl (hI.pl (by decide)) (hI.T (by decide) rfl) (by decide) (hI.ref 81 14 (p := 92) (by decide) (by decide) rfl) ?_
  refine w_aload (i := 0) (npc := 5) rfl rfl rfl ?_
  obtain ⟨z1, hz1, hz1a, hz1b⟩ := hI.int 81 16 (lo := 0) (hi := 400) (by decide) (by decide) rfl
  have ghz1 := gv_eq hz1
  refine w_getf (i := 81) (ci := 8) (k := 16) (npc := 8) rfl (hI.pl (by decide)) (hI.T (by decide) rfl) (by decide) hz1 ?_
  refine w_iload (i := 1) (npc := 9) rfl rfl ?_
  refine w_ast (i := 92) (k := 1) (n := 400) (npc := 10) rfl (hI.pl (by decide)) (hI.T (by decide) rfl) (by decide) (by omega) cm_af1 ?_
  have hI3 := hI.puti (i := 92) (k := (z1 : Int).toNat) (z := v) (lo := 0) (hi := 65540) (by decide) rfl (by omega)
  have hF5 := cm_fr.up (i := 92) (k := (z1 : Int).toNat) (v := ai_i v) hF (by first | (simp; done) | (simp; omega) | (intro i k h; (try simp only at h); (try simp only); omega))
  generalize hE4 : cm_up E 92 (z1 : Int).toNat (ai_i v) = E2 at hI3 hF5   ⊢
  have hz6 : E2 81 16 = ai_i z1 := by rw [← hE4, cm_up_nei _ _ (by decide)]; exact hz1
  have ghz6 := gv_eq hz6
  have hz7 : E2 92 (z1 : Int).toNat = ai_i v := by rw [← hE4, cm_up_eq]
  have ghz7 := gv_eq hz7
  refine w_aload (i := 0) (npc := 11) rfl rfl rfl ?_
  refine w_dup (npc := 12) rfl rfl ?_
  refine w_getf (i := 81) (ci := 8) (k := 16) (npc := 15) rfl (hI3.pl (by decide)) (hI3.T (by decide) rfl) (by decide) hz6 ?_
  refine w_const (n := 1) (npc := 16) rfl ?_
  refine w_iadd (npc := 17) rfl (by omega) ?_
  refine w_putf (i := 81) (ci := 8) (k := 16) (t := 0) (npc := 20) rfl (hI3.pl (by decide)) (hI3.T (by decide) rfl) (by decide) cm_fit0 ?_
  have hI10 := hI3.puti (i := 81) (k := 16) (z := z1 + 1) (lo := 0) (hi := 400) (by decide) rfl (by omega)
  have hF12 := cm_fr.up (i := 81) (k := 16) (v := ai_i (z1 + 1)) hF5 (by first | (simp; done) | (simp; omega) | (intro i k h; (try simp only at h); (try simp only); omega))
  generalize hE11 : cm_up E2 81 16 (ai_i (z1 + 1)) = E9 at hI10 hF12   ⊢
  have hz13 : E9 92 (z1 : Int).toNat = ai_i v := by rw [← hE11, cm_up_nei _ _ (by decide)]; exact hz7
  have ghz13 := gv_eq hz13
  have hz14 : E9 81 16 = ai_i (z1 + 1) := by rw [← hE11, cm_up_eq]
  have ghz14 := gv_eq hz14
  exact w_vret rfl (⟨rfl, rfl, rfl, hI10, hF12, by omega⟩) (by omega) (by omega)
set_option maxRecDepth 16384 in
theorem ct_m_layMarkBytes {sl : Int × Int} {x : ai_E} {d : Nat} {T : cm_T} {E : cm_E} {nx : Nat} (a : Int) (hI : cs_I T E nx) (hp0 : 0 ≤ a ∧ a ≤ 65540) (hp1 : gv E 81 16 ≤ 398) : cm_ct (ai_ev sl (d + 2)) x 182 [cr 81, ai_i a] T E nx 0 0 (fun rk rv T' E' nx' => rk = 0 ∧ T = T' ∧ nx = nx' ∧ cs_I T E' nx ∧ cm_fr (fun i k => (i = 81 ∧ (k = 16)) ∨ i = 92) E E' ∧ (gv E' 81 16 = gv E 81 16 + 2)) := by
  refine cm_body (M := ai_m182) rfl rfl (fun kc ks => ?_)
  show cm_wp (ai_find ai_c182 sl) (ai_ev sl (d + 1)) x (kc + 0) (ks + 0) _ 0 [cr 81, ai_i a] [] T E nx kc ks
  have hF : cm_fr (fun i k => (i = 81 ∧ (k = 16)) ∨ i = 92) E E := fun _ _ _ => rfl
  refine w_aload (i := 0) (npc := 1) rfl rfl rfl ?_
  refine w_iload (i := 1) (npc := 2) rfl rfl ?_
  refine w_const (n := 100) (npc := 4) rfl ?_
  refine w_idiv (npc := 5) rfl (by omega) (by omega) (fun z1 hz1 hz1b hz1c => ?_)
  obtain ⟨z2, hz2, hz2a, hz2b⟩ := hI.int 81 16 (lo := 0) (hi := 400) (by decide) (by decide) rfl
  have ghz2 := gv_eq hz2
  refine w_virt (ci := 8) (i := 81) (npc := 8) (a := [cr 81, ai_i z1]) (rest := []) rfl rfl (hI.pl (by decide)) (hI.T (by decide) rfl) rfl rfl rfl rfl (ct_m_lay (sl := sl) (x := x) (d := d + 0) (z1) hI (by omega) (by omega)) (Or.inl rfl) (fun k9 v9 T9 E4 nx9 kc9 ks9 hq3 hk9 hs9 => ?_)
  obtain ⟨rfl, rfl, rfl, hI6, hG7, hz5⟩ := hq3
  obtain rfl : kc = kc9 := by omega
  obtain rfl : ks = ks9 := by omega
  have hF8 := cm_fr.trans hF hG7 (by first | (simp; done) | (simp; omega) | (intro i k h; (try simp only at h); (try simp only); omega))
  refine Or.inl ⟨rfl, ?_⟩
  refine w_aload (i := 0) (npc := 9) rfl rfl rfl ?_
  refine w_iload (i := 1) (npc := 10) rfl rfl ?_
  refine w_const (n := 100) (npc := 12) rfl ?_
  refine w_irem (npc := 13) rfl (by omega) (by omega) (fun z9 hz9 hz9b => ?_)
  obtain ⟨z10, hz10, hz10a, hz10b⟩ := hI6.int 81 16 (lo := 0) (hi := 400) (by decide) (by decide) rfl
  have ghz10 := gv_eq hz10
  refine w_virt (ci := 8) (i := 81) (npc := 16) (a := [cr 81, ai_i z9]) (rest := []) rfl rfl (hI6.pl (by decide)) (hI6.T (by decide) rfl) rfl rfl rfl rfl (ct_m_lay (sl := sl) (x := x) (d := d + 0) (z9) hI6 (by omega) (by omega)) (Or.inl rfl) (fun k9 v9 T9 E12 nx9 kc9 ks9 hq11 hk9 hs9 => ?_)
  obtain ⟨rfl, rfl, rfl, hI14, hG15, hz13⟩ := hq11
  obtain rfl : kc = kc9 := by omega
  obtain rfl : ks = ks9 := by omega
  have hF16 := cm_fr.trans hF8 hG15 (by first | (simp; done) | (simp; omega) | (intro i k h; (try simp only at h); (try simp only); omega))
  refine Or.inl ⟨rfl, ?_⟩
  exact w_vret rfl (⟨rfl, rfl, rfl, hI14, hF16, by omega⟩) (by omega) (by omega)
set_option maxRecDepth 16384 in
theorem ct_m_layKey {sl : Int × Int} {x : ai_E} {d : Nat} {T : cm_T} {E : cm_E} {nx : Nat} (a : Int) (hI : cs_I T E nx) (hp0 : 0 ≤ a ∧ a ≤ 300000) (hp1 : gv E 82 a.toNat ≤ 24) (hp2 : gv E 81 16 ≤ 351) : cm_ct (ai_ev sl (d + 2)) x 180 [cr 81, ai_i a] T E nx 0 0 (fun rk rv T' E' nx' => rk = 0 ∧ T = T' ∧ nx = nx' ∧ cs_I T E' nx ∧ cm_fr (fun i k => (i = 81 ∧ (k = 16)) ∨ i = 92) E E' ∧ (gv E' 81 16 ≤ gv E 81 16 + 49)) := by
  refine cm_body (M := ai_m180) rfl rfl (fun kc ks => ?_)
  show cm_wp (ai_find ai_c180 sl) (ai_ev sl (d + 1)) x (kc + 0) (ks + 0) _ 0 [cr 81, ai_i a, ai_un] [] T E nx kc ks
  have hF : cm_fr (fun i k => (i = 81 ∧ (k = 16)) ∨ i = 92) E E := fun _ _ _ => rfl
  refine w_aload (i := 0) (npc := 1) rfl rfl rfl ?_
  refine w_aload (i := 0) (npc := 2) rfl rfl rfl ?_
  refine w_getf (i := 81) (ci := 8) (k := 2) (npc := 5) rfl (hI.pl (by decide)) (hI.T (by decide) rfl) (by decide) (hI.ref 81 2 (p := 82) (by decide) (by decide) rfl) ?_
  refine w_iload (i := 1) (npc := 6) rfl rfl ?_
  obtain ⟨z1, hz1, hz1a, hz1b⟩ := hI.int 82 (a : Int).toNat (lo := 0) (hi := 65540) (by decide) (show (a : Int).toNat < 531366 by omega) rfl
  have ghz1 := gv_eq hz1
  refine w_ald (i := 82) (t := 1) (n := 531366) (npc := 7) rfl (hI.pl (by decide)) (hI.T (by decide) rfl) (by decide) rfl (by omega) hz1 ?_
  obtain ⟨z2, hz2, hz2a, hz2b⟩ := hI.int 81 16 (lo := 0) (hi := 400) (by decide) (by decide) rfl
  have ghz2 := gv_eq hz2
  refine w_virt (ci := 8) (i := 81) (npc := 10) (a := [cr 81, ai_i z1]) (rest := []) rfl rfl (hI.pl (by decide)) (hI.T (by decide) rfl) rfl rfl rfl rfl (ct_m_lay (sl := sl) (x := x) (d := d + 0) (z1) hI (by omega) (by omega)) (Or.inl rfl) (fun k9 v9 T9 E4 nx9 kc9 ks9 hq3 hk9 hs9 => ?_)
  obtain ⟨rfl, rfl, rfl, hI6, hG7, hz5⟩ := hq3
  obtain rfl : kc = kc9 := by omega
  obtain rfl : ks = ks9 := by omega
  have hF8 := cm_fr.trans hF hG7 (by first | (simp; done) | (simp; omega) | (intro i k h; (try simp only at h); (try simp only); omega))
  refine Or.inl ⟨rfl, ?_⟩
  refine w_const (n := 1) (npc := 11) rfl ?_
  refine w_istore (i := 2) (npc := 12) (loc' := [cr 81, ai_i a, ai_i 1]) rfl rfl ?_
  have loop12 : ∀ (nf : Nat) (i : Int) (Eq12 : cm_E), ((25 - i).toNat) < nf → cs_I T Eq12 nx → cm_fr (fun i k => (i = 81 ∧ (k = 16)) ∨ i = 92) E Eq12 → (1 ≤ i ∧ i ≤ 25 ∧ gv Eq12 81 16 ≤ gv E 81 16 + 2 * i - 1) → cm_wp (ai_find ai_c180 sl) (ai_ev sl (d + 1)) x (kc + 0) (ks + 0) (fun rk rv T' E' nx' => rk = 0 ∧ T = T' ∧ nx = nx' ∧ cs_I T E' nx ∧ cm_fr (fun i k => (i = 81 ∧ (k = 16)) ∨ i = 92) E E' ∧ (gv E' 81 16 ≤ gv E 81 16 + 49)) 12 [cr 81, ai_i a, ai_i i] [] T Eq12 nx kc ks := by
    intro nf
    induction nf with
    | zero => intro i Eq12 hm; exact absurd hm (Nat.not_lt_zero _)
    | succ nf12 ih =>
      intro i Eq12 hm12 hI12 hF12 hv12
      obtain ⟨z9, hz9, hz9a, hz9b⟩ := hI12.int 81 16 (lo := 0) (hi := 400) (by decide) (by decide) rfl
      have ghz9 := gv_eq hz9
      have ih12 := ih; clear ih
      refine w_iload (i := 2) (npc := 13) rfl rfl ?_
      refine w_aload (i := 0) (npc := 14) rfl rfl rfl ?_
      refine w_getf (i := 81) (ci := 8) (k := 2) (npc := 17) rfl (hI12.pl (by decide)) (hI12.T (by decide) rfl) (by decide) (hI12.ref 81 2 (p := 82) (by decide) (by decide) rfl) ?_
      refine w_iload (i := 1) (npc := 18) rfl rfl ?_
      obtain ⟨z10, hz10, hz10a, hz10b⟩ := hI12.int 82 (a : Int).toNat (lo := 0) (hi := 65540) (by decide) (show (a : Int).toNat < 531366 by omega) rfl
      have ghz10 := gv_eq hz10
      have g0hz10 : gv E 82 (a : Int).toNat = z10 := (gv_fr hF12 (by simp)).trans ghz10
      refine w_ald (i := 82) (t := 1) (n := 531366) (npc := 19) rfl (hI12.pl (by decide)) (hI12.T (by decide) rfl) (by decide) rfl (by omega) hz10 ?_
      refine w_icmp (c := .gt) (npc := 22) (pt := 60) rfl (fun hc11 => ?_) (fun hc11 => ?_)
      · replace hc11 : z10 < i := hc11
        exact w_vret rfl (⟨rfl, rfl, rfl, hI12, hF12, by omega⟩) (by omega) (by omega)
      · replace hc11 : ¬ (z10 < i) := hc11
        refine w_aload (i := 0) (npc := 23) rfl rfl rfl ?_
        refine w_aload (i := 0) (npc := 24) rfl rfl rfl ?_
        refine w_getf (i := 81) (ci := 8) (k := 2) (npc := 27) rfl (hI12.pl (by decide)) (hI12.T (by decide) rfl) (by decide) (hI12.ref 81 2 (p := 82) (by decide) (by decide) rfl) ?_
        refine w_iload (i := 1) (npc := 28) rfl rfl ?_
        refine w_iload (i := 2) (npc := 29) rfl rfl ?_
        refine w_iadd (npc := 30) rfl (by omega) ?_
        obtain ⟨z13, hz13, hz13a, hz13b⟩ := hI12.int 82 (a + i : Int).toNat (lo := 0) (hi := 65540) (by decide) (show (a + i : Int).toNat < 531366 by omega) rfl
        have ghz13 := gv_eq hz13
        have g0hz13 : gv E 82 (a + i : Int).toNat = z13 := (gv_fr hF12 (by simp)).trans ghz13
        refine w_ald (i := 82) (t := 1) (n := 531366) (npc := 31) rfl (hI12.pl (by decide)) (hI12.T (by decide) rfl) (by decide) rfl (by omega) hz13 ?_
        refine w_const (n := 256) (npc := 34) rfl ?_
        refine w_idiv (npc := 35) rfl (by omega) (by omega) (fun z14 hz14 hz14b hz14c => ?_)
        refine w_virt (ci := 8) (i := 81) (npc := 38) (a := [cr 81, ai_i z14]) (rest := []) rfl rfl (hI12.pl (by decide)) (hI12.T (by decide) rfl) rfl rfl rfl rfl (ct_m_lay (sl := sl) (x := x) (d := d + 0) (z14) hI12 (by omega) (by omega)) (Or.inl rfl) (fun k9 v9 T9 E16 nx9 kc9 ks9 hq15 hk9 hs9 => ?_)
        obtain ⟨rfl, rfl, rfl, hI18, hG19, hz17⟩ := hq15
        obtain rfl : kc = kc9 := by omega
        obtain rfl : ks = ks9 := by omega
        have hF20 := cm_fr.trans hF12 hG19 (by first | (simp; done) | (simp; omega) | (intro i k h; (try simp only at h); (try simp only); omega))
        refine Or.inl ⟨rfl, ?_⟩
        refine w_aload (i := 0) (npc := 39) rfl rfl rfl ?_
        refine w_aload (i := 0) (npc := 40) rfl rfl rfl ?_
        refine w_getf (i := 81) (ci := 8) (k := 2) (npc := 43) rfl (hI18.pl (by decide)) (hI18.T (by decide) rfl) (by decide) (hI18.ref 81 2 (p := 82) (by decide) (by decide) rfl) ?_
        refine w_iload (i := 1) (npc := 44) rfl rfl ?_
        refine w_iload (i := 2) (npc := 45) rfl rfl ?_
        refine w_iadd (npc := 46) rfl (by omega) ?_
        obtain ⟨z22, hz22, hz22a, hz22b⟩ := hI18.int 82 (a + i : Int).toNat (lo := 0) (hi := 65540) (by decide) (show (a + i : Int).toNat < 531366 by omega) rfl
        have ghz22 := gv_eq hz22
        have g0hz22 : gv E 82 (a + i : Int).toNat = z22 := (gv_fr hF20 (by simp)).trans ghz22
        refine w_ald (i := 82) (t := 1) (n := 531366) (npc := 47) rfl (hI18.pl (by decide)) (hI18.T (by decide) rfl) (by decide) rfl (by omega) hz22 ?_
        refine w_const (n := 256) (npc := 50) rfl ?_
        refine w_irem (npc := 51) rfl (by omega) (by omega) (fun z23 hz23 hz23b => ?_)
        obtain ⟨z24, hz24, hz24a, hz24b⟩ := hI18.int 81 16 (lo := 0) (hi := 400) (by decide) (by decide) rfl
        have ghz24 := gv_eq hz24
        refine w_virt (ci := 8) (i := 81) (npc := 54) (a := [cr 81, ai_i z23]) (rest := []) rfl rfl (hI18.pl (by decide)) (hI18.T (by decide) rfl) rfl rfl rfl rfl (ct_m_lay (sl := sl) (x := x) (d := d + 0) (z23) hI18 (by omega) (by omega)) (Or.inl rfl) (fun k9 v9 T9 E26 nx9 kc9 ks9 hq25 hk9 hs9 => ?_)
        obtain ⟨rfl, rfl, rfl, hI28, hG29, hz27⟩ := hq25
        obtain rfl : kc = kc9 := by omega
        obtain rfl : ks = ks9 := by omega
        have hF30 := cm_fr.trans hF20 hG29 (by first | (simp; done) | (simp; omega) | (intro i k h; (try simp only at h); (try simp only); omega))
        refine Or.inl ⟨rfl, ?_⟩
        refine w_iinc (i := 2) (n := 1) (npc := 57) (loc' := [cr 81, ai_i a, ai_i (i + 1)]) rfl rfl (by omega) rfl ?_
        refine w_goto (pt := 12) rfl ?_
        exact ih12 (i + 1) E26 (by omega) hI28 hF30 (by omega)
  exact loop12 _ (1) E4 (Nat.lt_succ_self _) hI6 hF8 (by omega)
