set_option maxRecDepth 16384 in
theorem ct_m_story {sl : Int × Int} {x : ai_E} {d : Nat} {T : cm_T} {E : cm_E} {nx : Nat} (c : Int) (hI : cs_I T E nx) (hR : rl E) (hp0 : -2147483648 ≤ c ∧ c ≤ 2147483647) : cm_ct (ai_ev sl (d + 11)) x 212 [cr 81, ai_i c] T E nx 0 0 (fun rk rv T' E' nx' => rk = 1 ∧ T = T' ∧ nx = nx' ∧ cs_I T E' nx ∧ cm_fr (fun i k => (i = 81 ∧ (k = 0 ∨ k = 32 ∨ k = 33)) ∨ i = 98 ∨ i = 99 ∨ i = 100) E E' ∧ rl E' ∧ ∃ z : Int, rv = ai_i z ∧ (True)) := by
  refine cm_body (M := ai_m212) rfl rfl (fun kc ks => ?_)
  show cm_wp (ai_find ai_c212 sl) (ai_ev sl (d + 10)) x (kc + 0) (ks + 0) _ 0 [cr 81, ai_i c] [] T E nx kc ks
  have hF : cm_fr (fun i k => (i = 81 ∧ (k = 0 ∨ k = 32 ∨ k = 33)) ∨ i = 98 ∨ i = 99 ∨ i = 100) E E := fun _ _ _ => rfl
  obtain ⟨z1, hz1, hz1a, hz1b⟩ := hI.int 81 24 (lo := 0) (hi := 8) (by decide) (by decide) rfl
  have ghz1 := gv_eq hz1
  refine w_aload (i := 0) (npc := 1) rfl rfl rfl ?_
  refine w_const (n := 0) (npc := 2) rfl ?_
  refine w_putf (i := 81) (ci := 8) (k := 0) (t := 0) (npc := 5) rfl (hI.pl (by decide)) (hI.T (by decide) rfl) (by decide) cm_fit0 ?_
  have hI3 := hI.puti (i := 81) (k := 0) (z := 0) (lo := 0) (hi := 2) (by decide) rfl (by omega)
  have hF5 := cm_fr.up (i := 81) (k := 0) (v := ai_i 0) hF (by first | (simp; done) | (simp; omega) | (intro i k h; (try simp only at h); (try simp only); omega))
  have hR6 := rl.wr (i := 81) (k := 0) (v := ai_i 0) hR (by simp)
  generalize hE4 : cm_up E 81 0 (ai_i 0) = E2 at hI3 hF5 hR6  ⊢
  have hz7 : E2 81 24 = ai_i z1 := by rw [← hE4, cm_up_ne _ _ (by decide)]; exact hz1
  have ghz7 := gv_eq hz7
  have hz8 : E2 81 0 = ai_i 0 := by rw [← hE4, cm_up_eq]
  have ghz8 := gv_eq hz8
  refine w_aload (i := 0) (npc := 6) rfl rfl rfl ?_
  refine w_const (n := 0) (npc := 7) rfl ?_
  refine w_putf (i := 81) (ci := 8) (k := 32) (t := 0) (npc := 10) rfl (hI3.pl (by decide)) (hI3.T (by decide) rfl) (by decide) cm_fit0 ?_
  have hI10 := hI3.puti (i := 81) (k := 32) (z := 0) (lo := (-2147483648)) (hi := 2147483647) (by decide) rfl (by omega)
  have hF12 := cm_fr.up (i := 81) (k := 32) (v := ai_i 0) hF5 (by first | (simp; done) | (simp; omega) | (intro i k h; (try simp only at h); (try simp only); omega))
  have hR13 := rl.wr (i := 81) (k := 32) (v := ai_i 0) hR6 (by simp)
  generalize hE11 : cm_up E2 81 32 (ai_i 0) = E9 at hI10 hF12 hR13  ⊢
  have hz14 : E9 81 24 = ai_i z1 := by rw [← hE11, cm_up_ne _ _ (by decide)]; exact hz7
  have ghz14 := gv_eq hz14
  have hz15 : E9 81 0 = ai_i 0 := by rw [← hE11, cm_up_ne _ _ (by decide)]; exact hz8
  have ghz15 := gv_eq hz15
  have hz16 : E9 81 32 = ai_i 0 := by rw [← hE11, cm_up_eq]
  have ghz16 := gv_eq hz16
  refine w_aload (i := 0) (npc := 11) rfl rfl rfl ?_
  refine w_const (n := 0) (npc := 12) rfl ?_
  refine w_putf (i := 81) (ci := 8) (k := 33) (t := 0) (npc := 15) rfl (hI10.pl (by decide)) (hI10.T (by decide) rfl) (by decide) cm_fit0 ?_
  have hI18 := hI10.puti (i := 81) (k := 33) (z := 0) (lo := (-2147483648)) (hi := 2147483647) (by decide) rfl (by omega)
  have hF20 := cm_fr.up (i := 81) (k := 33) (v := ai_i 0) hF12 (by first | (simp; done) | (simp; omega) | (intro i k h; (try simp only at h); (try simp only); omega))
  have hR21 := rl.wr (i := 81) (k := 33) (v := ai_i 0) hR13 (by simp)
  generalize hE19 : cm_up E9 81 33 (ai_i 0) = E17 at hI18 hF20 hR21  ⊢
  have hz22 : E17 81 24 = ai_i z1 := by rw [← hE19, cm_up_ne _ _ (by decide)]; exact hz14
  have ghz22 := gv_eq hz22
  have hz23 : E17 81 0 = ai_i 0 := by rw [← hE19, cm_up_ne _ _ (by decide)]; exact hz15
  have ghz23 := gv_eq hz23
  have hz24 : E17 81 32 = ai_i 0 := by rw [← hE19, cm_up_ne _ _ (by decide)]; exact hz16
  have ghz24 := gv_eq hz24
  have hz25 : E17 81 33 = ai_i 0 := by rw [← hE19, cm_up_eq]
  have ghz25 := gv_eq hz25
  refine w_aload (i := 0) (npc := 16) rfl rfl rfl ?_
  refine w_const (n := 0) (npc := 17) rfl ?_
  refine w_virt (ci := 8) (i := 81) (npc := 20) (a := [cr 81, ai_i 0]) (rest := []) rfl rfl (hI18.pl (by decide)) (hI18.T (by decide) rfl) rfl rfl rfl rfl (ct_m_orderOn (sl := sl) (x := x) (d := d + 0) (0) hI18 (by omega) (oo_0 _)) (Or.inl rfl) (fun k9 v9 T9 E27 nx9 kc9 ks9 hq26 hk9 hs9 => ?_)
  obtain ⟨rfl, rfl, rfl, hI29, hG30, hz28⟩ := hq26
  obtain rfl : kc = kc9 := by omega
  obtain rfl : ks = ks9 := by omega
  have hF31 := cm_fr.trans hF20 hG30 (by first | (simp; done) | (simp; omega) | (intro i k h; (try simp only at h); (try simp only); omega))
  have hR32 := rl.fr hR21 hG30 (by intro i k h; (try simp only at h); omega)
  have hz33 : E27 81 24 = ai_i z1 := (hG30 81 24 (by simp)).trans hz22
  have ghz33 := gv_eq hz33
  have hz34 : E27 81 0 = ai_i 0 := (hG30 81 0 (by simp)).trans hz23
  have ghz34 := gv_eq hz34
  refine Or.inl ⟨rfl, ?_⟩
  refine w_iload (i := 1) (npc := 21) rfl rfl ?_
  refine w_const (n := 10) (npc := 23) rfl ?_
  refine w_icmp (c := .lt) (npc := 26) (pt := 62) rfl (fun hc35 => ?_) (fun hc35 => ?_)
  · replace hc35 : c < (10 : Int) := hc35
    refine w_iload (i := 1) (npc := 63) rfl rfl ?_
    refine w_if (c := .ne) (npc := 66) (pt := 73) rfl (fun hc36 => ?_) (fun hc36 => ?_)
    · replace hc36 : c ≠ (0 : Int) := hc36
      refine w_iload (i := 1) (npc := 74) rfl rfl ?_
      refine w_const (n := 1) (npc := 75) rfl ?_
      refine w_icmp (c := .ne) (npc := 78) (pt := 85) rfl (fun hc37 => ?_) (fun hc37 => ?_)
      · replace hc37 : c ≠ (1 : Int) := hc37
        refine w_aload (i := 0) (npc := 86) rfl rfl rfl ?_
        refine w_const (n := 1) (npc := 87) rfl ?_
        refine w_virt (ci := 8) (i := 81) (npc := 90) (a := [cr 81, ai_i 1]) (rest := []) rfl rfl (hI29.pl (by decide)) (hI29.T (by decide) rfl) rfl rfl rfl rfl (ct_m_fail (sl := sl) (x := x) (d := d + 9) (1) hI29 (by omega)) (Or.inl rfl) (fun k9 v9 T9 E39 nx9 kc9 ks9 hq38 hk9 hs9 => ?_)
        obtain ⟨rfl, rfl, rfl, hI41, hG42, z40, rfl, hz40⟩ := hq38
        obtain rfl : kc = kc9 := by omega
        obtain rfl : ks = ks9 := by omega
        have hF43 := cm_fr.trans hF31 hG42 (by first | (simp; done) | (simp; omega) | (intro i k h; (try simp only at h); (try simp only); omega))
        have hR44 := rl.fr hR32 hG42 (by intro i k h; (try simp only at h); omega)
        have hz45 : E39 81 24 = ai_i z1 := (hG42 81 24 (by simp)).trans hz33
        have ghz45 := gv_eq hz45
        refine Or.inr (Or.inl ⟨rfl, ?_⟩)
        exact w_iret rfl (⟨rfl, rfl, rfl, hI41, hF43, hR44, z40, rfl, trivial⟩) (by omega) (by omega)
      · replace hc37 : ¬ (c ≠ (1 : Int)) := hc37
        refine w_aload (i := 0) (npc := 79) rfl rfl rfl ?_
        obtain ⟨z46, hz46, hz46a, hz46b⟩ := hI29.int 81 33 (lo := (-2147483648)) (hi := 2147483647) (by decide) (by decide) rfl
        have ghz46 := gv_eq hz46
        refine w_getf (i := 81) (ci := 8) (k := 33) (npc := 82) rfl (hI29.pl (by decide)) (hI29.T (by decide) rfl) (by decide) hz46 ?_
        refine w_goto (pt := 90) rfl ?_
        exact w_iret rfl (⟨rfl, rfl, rfl, hI29, hF31, hR32, z46, rfl, trivial⟩) (by omega) (by omega)
    · replace hc36 : ¬ (c ≠ (0 : Int)) := hc36
      refine w_aload (i := 0) (npc := 67) rfl rfl rfl ?_
      obtain ⟨z47, hz47, hz47a, hz47b⟩ := hI29.int 81 32 (lo := (-2147483648)) (hi := 2147483647) (by decide) (by decide) rfl
      have ghz47 := gv_eq hz47
      refine w_getf (i := 81) (ci := 8) (k := 32) (npc := 70) rfl (hI29.pl (by decide)) (hI29.T (by decide) rfl) (by decide) hz47 ?_
      refine w_goto (pt := 90) rfl ?_
      exact w_iret rfl (⟨rfl, rfl, rfl, hI29, hF31, hR32, z47, rfl, trivial⟩) (by omega) (by omega)
  · replace hc35 : ¬ (c < (10 : Int)) := hc35
    refine w_aload (i := 0) (npc := 27) rfl rfl rfl ?_
    obtain ⟨z48, hz48, hz48a, hz48b⟩ := hI29.int 81 32 (lo := (-2147483648)) (hi := 2147483647) (by decide) (by decide) rfl
    have ghz48 := gv_eq hz48
    refine w_getf (i := 81) (ci := 8) (k := 32) (npc := 30) rfl (hI29.pl (by decide)) (hI29.T (by decide) rfl) (by decide) hz48 ?_
    refine w_if (c := .le) (npc := 33) (pt := 56) rfl (fun hc49 => ?_) (fun hc49 => ?_)
    · replace hc49 : z48 ≤ (0 : Int) := hc49
      refine w_aload (i := 0) (npc := 57) rfl rfl rfl ?_
      refine w_const (n := 1) (npc := 58) rfl ?_
      refine w_virt (ci := 8) (i := 81) (npc := 61) (a := [cr 81, ai_i 1]) (rest := []) rfl rfl (hI29.pl (by decide)) (hI29.T (by decide) rfl) rfl rfl rfl rfl (ct_m_fail (sl := sl) (x := x) (d := d + 9) (1) hI29 (by omega)) (Or.inl rfl) (fun k9 v9 T9 E51 nx9 kc9 ks9 hq50 hk9 hs9 => ?_)
      obtain ⟨rfl, rfl, rfl, hI53, hG54, z52, rfl, hz52⟩ := hq50
      obtain rfl : kc = kc9 := by omega
      obtain rfl : ks = ks9 := by omega
      have hF55 := cm_fr.trans hF31 hG54 (by first | (simp; done) | (simp; omega) | (intro i k h; (try simp only at h); (try simp only); omega))
      have hR56 := rl.fr hR32 hG54 (by intro i k h; (try simp only at h); omega)
      have hz57 : E51 81 24 = ai_i z1 := (hG54 81 24 (by simp)).trans hz33
      have ghz57 := gv_eq hz57
      have hz58 : E51 81 32 = ai_i z48 := (hG54 81 32 (by simp)).trans hz48
      have ghz58 := gv_eq hz58
      refine Or.inr (Or.inl ⟨rfl, ?_⟩)
      exact w_iret rfl (⟨rfl, rfl, rfl, hI53, hF55, hR56, z52, rfl, trivial⟩) (by omega) (by omega)
    · replace hc49 : ¬ (z48 ≤ (0 : Int)) := hc49
      refine w_iload (i := 1) (npc := 34) rfl rfl ?_
      refine w_const (n := 10) (npc := 36) rfl ?_
      refine w_isub (npc := 37) rfl (by omega) ?_
      refine w_aload (i := 0) (npc := 38) rfl rfl rfl ?_
      refine w_getf (i := 81) (ci := 8) (k := 24) (npc := 41) rfl (hI29.pl (by decide)) (hI29.T (by decide) rfl) (by decide) hz33 ?_
      refine w_icmp (c := .ge) (npc := 44) (pt := 56) rfl (fun hc60 => ?_) (fun hc60 => ?_)
      · replace hc60 : z1 ≤ c - 10 := hc60
        refine w_aload (i := 0) (npc := 57) rfl rfl rfl ?_
        refine w_const (n := 1) (npc := 58) rfl ?_
        refine w_virt (ci := 8) (i := 81) (npc := 61) (a := [cr 81, ai_i 1]) (rest := []) rfl rfl (hI29.pl (by decide)) (hI29.T (by decide) rfl) rfl rfl rfl rfl (ct_m_fail (sl := sl) (x := x) (d := d + 9) (1) hI29 (by omega)) (Or.inl rfl) (fun k9 v9 T9 E62 nx9 kc9 ks9 hq61 hk9 hs9 => ?_)
        obtain ⟨rfl, rfl, rfl, hI64, hG65, z63, rfl, hz63⟩ := hq61
        obtain rfl : kc = kc9 := by omega
        obtain rfl : ks = ks9 := by omega
        have hF66 := cm_fr.trans hF31 hG65 (by first | (simp; done) | (simp; omega) | (intro i k h; (try simp only at h); (try simp only); omega))
        have hR67 := rl.fr hR32 hG65 (by intro i k h; (try simp only at h); omega)
        have hz68 : E62 81 24 = ai_i z1 := (hG65 81 24 (by simp)).trans hz33
        have ghz68 := gv_eq hz68
        have hz69 : E62 81 32 = ai_i z48 := (hG65 81 32 (by simp)).trans hz48
        have ghz69 := gv_eq hz69
        refine Or.inr (Or.inl ⟨rfl, ?_⟩)
        exact w_iret rfl (⟨rfl, rfl, rfl, hI64, hF66, hR67, z63, rfl, trivial⟩) (by omega) (by omega)
      · replace hc60 : ¬ (z1 ≤ c - 10) := hc60
        refine w_aload (i := 0) (npc := 45) rfl rfl rfl ?_
        refine w_getf (i := 81) (ci := 8) (k := 30) (npc := 48) rfl (hI29.pl (by decide)) (hI29.T (by decide) rfl) (by decide) (hI29.ref 81 30 (p := 99) (by decide) (by decide) rfl) ?_
        refine w_iload (i := 1) (npc := 49) rfl rfl ?_
        refine w_const (n := 10) (npc := 51) rfl ?_
        refine w_isub (npc := 52) rfl (by omega) ?_
        obtain ⟨z71, hz71, hz71a, hz71b⟩ := hI29.int 99 (c - 10 : Int).toNat (lo := 0) (hi := 2) (by decide) (show (c - 10 : Int).toNat < 8 by omega) rfl
        have ghz71 := gv_eq hz71
        refine w_ald (i := 99) (t := 1) (n := 8) (npc := 53) rfl (hI29.pl (by decide)) (hI29.T (by decide) rfl) (by decide) rfl (by omega) hz71 ?_
        refine w_goto (pt := 61) rfl ?_
        exact w_iret rfl (⟨rfl, rfl, rfl, hI29, hF31, hR32, z71, rfl, trivial⟩) (by omega) (by omega)
