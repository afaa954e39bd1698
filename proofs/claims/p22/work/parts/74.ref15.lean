set_option maxRecDepth 16384 in
theorem ct_m_send {sl : Int × Int} {x : ai_E} {d : Nat} {T : cm_T} {E : cm_E} {nx : Nat} (p o w n : Int) (hI : cs_I T E nx) (hR : rl E) (hp0 : -2147483648 ≤ p ∧ p ≤ 2147483647) (hp1 : -2147483648 ≤ o ∧ o ≤ 2147483647) (hp2 : -2147483648 ≤ w ∧ w ≤ 2147483647) (hp3 : -2147483648 ≤ n ∧ n ≤ 2147483647) : cm_ct (ai_ev sl (d + 6)) x 208 [cr 81, ai_i p, ai_i o, ai_i w, ai_i n] T E nx 0 0 (fun rk rv T' E' nx' => rk = 1 ∧ T = T' ∧ nx = nx' ∧ cs_I T E' nx ∧ cm_fr (fun i k => (i = 81 ∧ (k = 0)) ∨ i = 82 ∨ i = 83 ∨ i = 84 ∨ i = 85) E E' ∧ rl E' ∧ ∃ z : Int, rv = ai_i z ∧ (True)) := by
  refine cm_body (M := ai_m208) rfl rfl (fun kc ks => ?_)
  show cm_wp (ai_find ai_c208 sl) (ai_ev sl (d + 5)) x (kc + 0) (ks + 0) _ 0 [cr 81, ai_i p, ai_i o, ai_i w, ai_i n, ai_un] [] T E nx kc ks
  have hF : cm_fr (fun i k => (i = 81 ∧ (k = 0)) ∨ i = 82 ∨ i = 83 ∨ i = 84 ∨ i = 85) E E := fun _ _ _ => rfl
  refine w_aload (i := 0) (npc := 1) rfl rfl rfl ?_
  refine w_const (n := 0) (npc := 2) rfl ?_
  refine w_putf (i := 81) (ci := 8) (k := 0) (t := 0) (npc := 5) rfl (hI.pl (by decide)) (hI.T (by decide) rfl) (by decide) cm_fit0 ?_
  have hI2 := hI.puti (i := 81) (k := 0) (z := 0) (lo := 0) (hi := 2) (by decide) rfl (by omega)
  have hF4 := cm_fr.up (i := 81) (k := 0) (v := ai_i 0) hF (by first | (simp; done) | (simp; omega) | (intro i k h; (try simp only at h); (try simp only); omega))
  have hR5 := rl.wr (i := 81) (k := 0) (v := ai_i 0) hR (by simp)
  generalize hE3 : cm_up E 81 0 (ai_i 0) = E1 at hI2 hF4 hR5  ⊢
  have hz6 : E1 81 0 = ai_i 0 := by rw [← hE3, cm_up_eq]
  have ghz6 := gv_eq hz6
  refine w_aload (i := 0) (npc := 6) rfl rfl rfl ?_
  refine w_iload (i := 1) (npc := 7) rfl rfl ?_
  obtain ⟨z7, hz7, hz7a, hz7b⟩ := hI2.int 81 1 (lo := 1) (hi := 5) (by decide) (by decide) rfl
  have ghz7 := gv_eq hz7
  have g0hz7 : gv E 81 1 = z7 := (gv_fr hF4 (by simp)).trans ghz7
  refine w_virt (ci := 8) (i := 81) (npc := 10) (a := [cr 81, ai_i p]) (rest := []) rfl rfl (hI2.pl (by decide)) (hI2.T (by decide) rfl) rfl rfl rfl rfl (ct_m_isWriter (sl := sl) (x := x) (d := d + 3) (p) hI2) (Or.inl rfl) (fun k9 v9 T9 E9 nx9 kc9 ks9 hq8 hk9 hs9 => ?_)
  obtain ⟨rfl, rfl, rfl, rfl, z10, rfl, hz10⟩ := hq8
  obtain rfl : kc = kc9 := by omega
  obtain rfl : ks = ks9 := by omega
  refine Or.inr (Or.inl ⟨rfl, ?_⟩)
  refine w_if (c := .eq) (npc := 13) (pt := 32) rfl (fun hc11 => ?_) (fun hc11 => ?_)
  · replace hc11 : z10 = (0 : Int) := hc11
    refine w_aload (i := 0) (npc := 33) rfl rfl rfl ?_
    refine w_const (n := 1) (npc := 34) rfl ?_
    refine w_virt (ci := 8) (i := 81) (npc := 37) (a := [cr 81, ai_i 1]) (rest := []) rfl rfl (hI2.pl (by decide)) (hI2.T (by decide) rfl) rfl rfl rfl rfl (ct_m_fail (sl := sl) (x := x) (d := d + 4) (1) hI2 (by omega)) (Or.inl rfl) (fun k9 v9 T9 E13 nx9 kc9 ks9 hq12 hk9 hs9 => ?_)
    obtain ⟨rfl, rfl, rfl, hI15, hG16, z14, rfl, hz14⟩ := hq12
    obtain rfl : kc = kc9 := by omega
    obtain rfl : ks = ks9 := by omega
    have hF17 := cm_fr.trans hF4 hG16 (by first | (simp; done) | (simp; omega) | (intro i k h; (try simp only at h); (try simp only); omega))
    have hR18 := rl.fr hR5 hG16 (by intro i k h; (try simp only at h); omega)
    have hz19 : E13 81 1 = ai_i z7 := (hG16 81 1 (by simp)).trans hz7
    have ghz19 := gv_eq hz19
    refine Or.inr (Or.inl ⟨rfl, ?_⟩)
    exact w_iret rfl (⟨rfl, rfl, rfl, hI15, hF17, hR18, z14, rfl, trivial⟩) (by omega) (by omega)
  · replace hc11 : ¬ (z10 = (0 : Int)) := hc11
    refine w_aload (i := 0) (npc := 14) rfl rfl rfl ?_
    refine w_iload (i := 2) (npc := 15) rfl rfl ?_
    refine w_virt (ci := 8) (i := 81) (npc := 18) (a := [cr 81, ai_i o]) (rest := []) rfl rfl (hI2.pl (by decide)) (hI2.T (by decide) rfl) rfl rfl rfl rfl (ct_m_isWriter (sl := sl) (x := x) (d := d + 3) (o) hI2) (Or.inl rfl) (fun k9 v9 T9 E21 nx9 kc9 ks9 hq20 hk9 hs9 => ?_)
    obtain ⟨rfl, rfl, rfl, rfl, z22, rfl, hz22⟩ := hq20
    obtain rfl : kc = kc9 := by omega
    obtain rfl : ks = ks9 := by omega
    refine Or.inr (Or.inl ⟨rfl, ?_⟩)
    refine w_if (c := .eq) (npc := 21) (pt := 32) rfl (fun hc23 => ?_) (fun hc23 => ?_)
    · replace hc23 : z22 = (0 : Int) := hc23
      refine w_aload (i := 0) (npc := 33) rfl rfl rfl ?_
      refine w_const (n := 1) (npc := 34) rfl ?_
      refine w_virt (ci := 8) (i := 81) (npc := 37) (a := [cr 81, ai_i 1]) (rest := []) rfl rfl (hI2.pl (by decide)) (hI2.T (by decide) rfl) rfl rfl rfl rfl (ct_m_fail (sl := sl) (x := x) (d := d + 4) (1) hI2 (by omega)) (Or.inl rfl) (fun k9 v9 T9 E25 nx9 kc9 ks9 hq24 hk9 hs9 => ?_)
      obtain ⟨rfl, rfl, rfl, hI27, hG28, z26, rfl, hz26⟩ := hq24
      obtain rfl : kc = kc9 := by omega
      obtain rfl : ks = ks9 := by omega
      have hF29 := cm_fr.trans hF4 hG28 (by first | (simp; done) | (simp; omega) | (intro i k h; (try simp only at h); (try simp only); omega))
      have hR30 := rl.fr hR5 hG28 (by intro i k h; (try simp only at h); omega)
      have hz31 : E25 81 1 = ai_i z7 := (hG28 81 1 (by simp)).trans hz7
      have ghz31 := gv_eq hz31
      refine Or.inr (Or.inl ⟨rfl, ?_⟩)
      exact w_iret rfl (⟨rfl, rfl, rfl, hI27, hF29, hR30, z26, rfl, trivial⟩) (by omega) (by omega)
    · replace hc23 : ¬ (z22 = (0 : Int)) := hc23
      refine w_aload (i := 0) (npc := 22) rfl rfl rfl ?_
      refine w_iload (i := 1) (npc := 23) rfl rfl ?_
      refine w_iload (i := 3) (npc := 24) rfl rfl ?_
      refine w_iload (i := 4) (npc := 26) rfl rfl ?_
      refine w_virt (ci := 8) (i := 81) (npc := 29) (a := [cr 81, ai_i p, ai_i w, ai_i n]) (rest := []) rfl rfl (hI2.pl (by decide)) (hI2.T (by decide) rfl) rfl rfl rfl rfl (ct_m_hasStep (sl := sl) (x := x) (d := d + 2) (p) (w) (n) hI2 (by omega)) (Or.inl rfl) (fun k9 v9 T9 E33 nx9 kc9 ks9 hq32 hk9 hs9 => ?_)
      obtain ⟨rfl, rfl, rfl, rfl, z34, rfl, hz34⟩ := hq32
      obtain rfl : kc = kc9 := by omega
      obtain rfl : ks = ks9 := by omega
      refine Or.inr (Or.inl ⟨rfl, ?_⟩)
      refine w_if (c := .ne) (npc := 32) (pt := 38) rfl (fun hc35 => ?_) (fun hc35 => ?_)
      · replace hc35 : z34 ≠ (0 : Int) := hc35
        refine w_aload (i := 0) (npc := 39) rfl rfl rfl ?_
        refine w_iload (i := 1) (npc := 40) rfl rfl ?_
        refine w_iload (i := 3) (npc := 41) rfl rfl ?_
        refine w_iload (i := 4) (npc := 43) rfl rfl ?_
        refine w_call (npc := 46) (a := [ai_i p, ai_i w, ai_i n]) (rest := [cr 81]) rfl rfl rfl rfl rfl (ct_m_rowOf (sl := sl) (x := x) (d := d + 4) (p) (w) (n) (by omega) (by omega) (by omega)) (Or.inr (fun _ _ _ _ _ hq => by have h1 := hq.1; omega)) (fun k9 v9 T9 E37 nx9 kc9 ks9 hq36 hk9 hs9 => ?_)
        obtain ⟨rfl, rfl, rfl, rfl, z38, rfl, hz38⟩ := hq36
        obtain rfl : kc = kc9 := by omega
        obtain rfl : ks = ks9 := by omega
        refine Or.inr (Or.inl ⟨rfl, ?_⟩)
        refine w_const (n := 3200) (npc := 49) rfl ?_
        refine w_virt (ci := 8) (i := 81) (npc := 52) (a := [cr 81, ai_i z38, ai_i 3200]) (rest := []) rfl rfl (hI2.pl (by decide)) (hI2.T (by decide) rfl) rfl rfl rfl rfl (ct_m_copy (sl := sl) (x := x) (d := d + 4) (z38) (3200) hI2 (by omega) (by omega) (by omega)) (Or.inl rfl) (fun k9 v9 T9 E40 nx9 kc9 ks9 hq39 hk9 hs9 => ?_)
        obtain ⟨rfl, rfl, rfl, hI42, hG43, hz41⟩ := hq39
        obtain rfl : kc = kc9 := by omega
        obtain rfl : ks = ks9 := by omega
        have hF44 := cm_fr.trans hF4 hG43 (by first | (simp; done) | (simp; omega) | (intro i k h; (try simp only at h); (try simp only); omega))
        have hz45 : E40 81 0 = ai_i 0 := (hG43 81 0 (by simp)).trans hz6
        have ghz45 := gv_eq hz45
        have hz46 : E40 81 1 = ai_i z7 := (hG43 81 1 (by simp)).trans hz7
        have ghz46 := gv_eq hz46
        refine Or.inl ⟨rfl, ?_⟩
        have hR47 := rl.fr hR5 hG43 (by intro i k h; (try simp only at h); omega)
        have hrw : rl_row E40 3200 := (hR5.1 z38 (by omega) (by omega)).of hz41
        have hhd : rl_hd E40 3200 := by
          have q := hR5.2.1 p w n (by omega) (by omega) (by omega) (by omega) (by omega) (by omega) (by omega)
          rw [show (0 : Int) + ((5 * p + w) * 60 + n - 1) = z38 by omega] at q
          exact q.of hz41 (gv_fr hG43 (by simp)).symm
        refine w_aload (i := 0) (npc := 53) rfl rfl rfl ?_
        refine w_iload (i := 2) (npc := 54) rfl rfl ?_
        refine w_virt (ci := 8) (i := 81) (npc := 57) (a := [cr 81, ai_i o]) (rest := []) rfl rfl (hI42.pl (by decide)) (hI42.T (by decide) rfl) rfl rfl rfl rfl (ct_m_heard (sl := sl) (x := x) (d := d + 0) (o) hI42  hR47 (by omega) hrw hhd) (Or.inl rfl) (fun k9 v9 T9 E49 nx9 kc9 ks9 hq48 hk9 hs9 => ?_)
        obtain ⟨rfl, rfl, rfl, hI51, hG52, hR53, z50, rfl, hz50⟩ := hq48
        obtain rfl : kc = kc9 := by omega
        obtain rfl : ks = ks9 := by omega
        have hF54 := cm_fr.trans hF44 hG52 (by first | (simp; done) | (simp; omega) | (intro i k h; (try simp only at h); (try simp only); omega))
        have hz55 : E49 81 0 = ai_i 0 := (hG52 81 0 (by simp)).trans hz45
        have ghz55 := gv_eq hz55
        have hz56 : E49 81 1 = ai_i z7 := (hG52 81 1 (by simp)).trans hz46
        have ghz56 := gv_eq hz56
        refine Or.inr (Or.inl ⟨rfl, ?_⟩)
        refine w_istore (i := 5) (npc := 59) (loc' := [cr 81, ai_i p, ai_i o, ai_i w, ai_i n, ai_i z50]) rfl rfl ?_
        refine w_iload (i := 5) (npc := 61) rfl rfl ?_
        refine w_const (n := 2) (npc := 62) rfl ?_
        refine w_icmp (c := .le) (npc := 65) (pt := 77) rfl (fun hc57 => ?_) (fun hc57 => ?_)
        · replace hc57 : z50 ≤ (2 : Int) := hc57
          refine w_iload (i := 5) (npc := 79) rfl rfl ?_
          exact w_iret rfl (⟨rfl, rfl, rfl, hI51, hF54, hR53, z50, rfl, trivial⟩) (by omega) (by omega)
        · replace hc57 : ¬ (z50 ≤ (2 : Int)) := hc57
          refine w_aload (i := 0) (npc := 66) rfl rfl rfl ?_
          refine w_getf (i := 81) (ci := 8) (k := 5) (npc := 69) rfl (hI51.pl (by decide)) (hI51.T (by decide) rfl) (by decide) (hI51.ref 81 5 (p := 85) (by decide) (by decide) rfl) ?_
          refine w_const (n := 1) (npc := 70) rfl ?_
          refine w_dup2 (npc := 71) rfl rfl rfl ?_
          obtain ⟨z58, hz58, hz58a, hz58b⟩ := hI51.int 85 (1 : Int).toNat (lo := (-2147483648)) (hi := 2147483647) (by decide) (show (1 : Int).toNat < 3 by omega) rfl
          have ghz58 := gv_eq hz58
          refine w_ald (i := 85) (t := 1) (n := 3) (npc := 72) rfl (hI51.pl (by decide)) (hI51.T (by decide) rfl) (by decide) rfl (by omega) hz58 ?_
          refine w_const (n := 1) (npc := 73) rfl ?_
          refine w_iaddw (npc := 74) rfl (fun z59 hz59 hz59b => ?_)
          refine w_ast (i := 85) (k := 1) (n := 3) (npc := 75) rfl (hI51.pl (by decide)) (hI51.T (by decide) rfl) (by decide) (by omega) cm_af1 ?_
          have hI61 := hI51.puti (i := 85) (k := (1 : Int).toNat) (z := z59) (lo := (-2147483648)) (hi := 2147483647) (by decide) rfl (by omega)
          have hF63 := cm_fr.up (i := 85) (k := (1 : Int).toNat) (v := ai_i z59) hF54 (by first | (simp; done) | (simp; omega) | (intro i k h; (try simp only at h); (try simp only); omega))
          have hR64 := rl.wr (i := 85) (k := (1 : Int).toNat) (v := ai_i z59) hR53 (by simp)
          generalize hE62 : cm_up E49 85 (1 : Int).toNat (ai_i z59) = E60 at hI61 hF63 hR64  ⊢
          have hz65 : E60 81 0 = ai_i 0 := by rw [← hE62, cm_up_nei _ _ (by decide)]; exact hz55
          have ghz65 := gv_eq hz65
          have hz66 : E60 81 1 = ai_i z7 := by rw [← hE62, cm_up_nei _ _ (by decide)]; exact hz56
          have ghz66 := gv_eq hz66
          have hz67 : E60 85 (1 : Int).toNat = ai_i z59 := by rw [← hE62, cm_up_eq]
          have ghz67 := gv_eq hz67
          refine w_const (n := (-1)) (npc := 76) rfl ?_
          exact w_iret rfl (⟨rfl, rfl, rfl, hI61, hF63, hR64, (-1), rfl, trivial⟩) (by omega) (by omega)
      · replace hc35 : ¬ (z34 ≠ (0 : Int)) := hc35
        refine w_aload (i := 0) (npc := 33) rfl rfl rfl ?_
        refine w_const (n := 1) (npc := 34) rfl ?_
        refine w_virt (ci := 8) (i := 81) (npc := 37) (a := [cr 81, ai_i 1]) (rest := []) rfl rfl (hI2.pl (by decide)) (hI2.T (by decide) rfl) rfl rfl rfl rfl (ct_m_fail (sl := sl) (x := x) (d := d + 4) (1) hI2 (by omega)) (Or.inl rfl) (fun k9 v9 T9 E69 nx9 kc9 ks9 hq68 hk9 hs9 => ?_)
        obtain ⟨rfl, rfl, rfl, hI71, hG72, z70, rfl, hz70⟩ := hq68
        obtain rfl : kc = kc9 := by omega
        obtain rfl : ks = ks9 := by omega
        have hF73 := cm_fr.trans hF4 hG72 (by first | (simp; done) | (simp; omega) | (intro i k h; (try simp only at h); (try simp only); omega))
        have hR74 := rl.fr hR5 hG72 (by intro i k h; (try simp only at h); omega)
        have hz75 : E69 81 1 = ai_i z7 := (hG72 81 1 (by simp)).trans hz7
        have ghz75 := gv_eq hz75
        refine Or.inr (Or.inl ⟨rfl, ?_⟩)
        exact w_iret rfl (⟨rfl, rfl, rfl, hI71, hF73, hR74, z70, rfl, trivial⟩) (by omega) (by omega)
