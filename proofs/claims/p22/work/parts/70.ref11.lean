set_option maxRecDepth 16384 in
theorem ct_m_set {sl : Int × Int} {x : ai_E} {d : Nat} {T : cm_T} {E : cm_E} {nx : Nat} (p l g : Int) (hI : cs_I T E nx) (hR : rl E) : cm_ct (ai_ev sl (d + 8)) x 209 [cr 81, ai_i p, ai_i l, ai_i g] T E nx 0 0 (fun rk rv T' E' nx' => rk = 1 ∧ T = T' ∧ nx = nx' ∧ cs_I T E' nx ∧ cm_fr (fun i k => (i = 81 ∧ (k = 0 ∨ k = 12 ∨ k = 13)) ∨ i = 82 ∨ i = 83 ∨ i = 84 ∨ i = 85 ∨ i = 86 ∨ i = 87 ∨ i = 88 ∨ i = 89 ∨ i = 90 ∨ i = 91) E E' ∧ rl E' ∧ ∃ z : Int, rv = ai_i z ∧ (True)) := by
  refine cm_body (M := ai_m209) rfl rfl (fun kc ks => ?_)
  show cm_wp (ai_find ai_c209 sl) (ai_ev sl (d + 7)) x (kc + 0) (ks + 0) _ 0 [cr 81, ai_i p, ai_i l, ai_i g, ai_un] [] T E nx kc ks
  have hF : cm_fr (fun i k => (i = 81 ∧ (k = 0 ∨ k = 12 ∨ k = 13)) ∨ i = 82 ∨ i = 83 ∨ i = 84 ∨ i = 85 ∨ i = 86 ∨ i = 87 ∨ i = 88 ∨ i = 89 ∨ i = 90 ∨ i = 91) E E := fun _ _ _ => rfl
  refine w_aload (i := 0) (npc := 1) rfl rfl rfl ?_
  refine w_const (n := 0) (npc := 2) rfl ?_
  refine w_putf (i := 81) (ci := 8) (k := 0) (t := 0) (npc := 5) rfl (hI.pl (by decide)) (hI.T (by decide) rfl) (by decide) cm_fit0 ?_
  have hI2 := hI.puti (i := 81) (k := 0) (z := 0) (lo := 0) (hi := 2) (by decide) rfl (by omega)
  have hF4 := cm_fr.up (i := 81) (k := 0) (v := ai_i 0) hF (by first | (simp; done) | (simp; omega) | (intro i k h; (try simp only at h); (try simp only); omega))
  have hR5 := rl.wr (i := 81) (k := 0) (v := ai_i 0) hR (by simp)
  generalize hE3 : cm_up E 81 0 (ai_i 0) = E1 at hI2 hF4 hR5  ⊢
  have hz6 : E1 81 0 = ai_i 0 := by rw [← hE3, cm_up_eq]
  have ghz6 := gv_eq hz6
  refine w_aload (i := 0) (npc := 6) rfl rfl rfl ?_
  refine w_iload (i := 1) (npc := 7) rfl rfl ?_
  obtain ⟨z7, hz7, hz7a, hz7b⟩ := hI2.int 81 13 (lo := 0) (hi := 300) (by decide) (by decide) rfl
  have ghz7 := gv_eq hz7
  refine w_virt (ci := 8) (i := 81) (npc := 10) (a := [cr 81, ai_i p]) (rest := []) rfl rfl (hI2.pl (by decide)) (hI2.T (by decide) rfl) rfl rfl rfl rfl (ct_m_isWriter (sl := sl) (x := x) (d := d + 5) (p) hI2) (Or.inl rfl) (fun k9 v9 T9 E9 nx9 kc9 ks9 hq8 hk9 hs9 => ?_)
  obtain ⟨rfl, rfl, rfl, rfl, z10, rfl, hz10⟩ := hq8
  obtain rfl : kc = kc9 := by omega
  obtain rfl : ks = ks9 := by omega
  refine Or.inr (Or.inl ⟨rfl, ?_⟩)
  have hl11 := gv_fr hF4 (i := 81) (k := 1) (by simp)
  refine w_if (c := .ne) (npc := 13) (pt := 19) rfl (fun hc12 => ?_) (fun hc12 => ?_)
  · replace hc12 : z10 ≠ (0 : Int) := hc12
    refine w_aload (i := 0) (npc := 20) rfl rfl rfl ?_
    refine w_iload (i := 1) (npc := 21) rfl rfl ?_
    refine w_virt (ci := 8) (i := 81) (npc := 24) (a := [cr 81, ai_i p]) (rest := []) rfl rfl (hI2.pl (by decide)) (hI2.T (by decide) rfl) rfl rfl rfl rfl (ct_m_tellPage (sl := sl) (x := x) (d := d + 0) (p) hI2 hR5 (by omega)) (Or.inl rfl) (fun k9 v9 T9 E14 nx9 kc9 ks9 hq13 hk9 hs9 => ?_)
    obtain ⟨rfl, rfl, rfl, hI16, hG17, hR18, hz15⟩ := hq13
    obtain rfl : kc = kc9 := by omega
    obtain rfl : ks = ks9 := by omega
    have hF19 := cm_fr.trans hF4 hG17 (by first | (simp; done) | (simp; omega) | (intro i k h; (try simp only at h); (try simp only); omega))
    have hx20 : tx E14 := hz15
    have hz21 : E14 81 0 = ai_i 0 := (hG17 81 0 (by simp)).trans hz6
    have ghz21 := gv_eq hz21
    refine Or.inl ⟨rfl, ?_⟩
    refine w_iload (i := 2) (npc := 25) rfl rfl ?_
    refine w_const (n := 0) (npc := 26) rfl ?_
    refine w_aload (i := 0) (npc := 27) rfl rfl rfl ?_
    obtain ⟨z22, hz22, hz22a, hz22b⟩ := hI16.int 81 13 (lo := 0) (hi := 300) (by decide) (by decide) rfl
    have ghz22 := gv_eq hz22
    refine w_getf (i := 81) (ci := 8) (k := 13) (npc := 30) rfl (hI16.pl (by decide)) (hI16.T (by decide) rfl) (by decide) hz22 ?_
    refine w_call (npc := 33) (a := [ai_i l, ai_i 0, ai_i z22]) (rest := []) rfl rfl rfl rfl rfl (ct_m_isIn (sl := sl) (x := x) (d := d + 6) (l) (0) (z22)) (Or.inr (fun _ _ _ _ _ hq => by have h1 := hq.1; omega)) (fun k9 v9 T9 E24 nx9 kc9 ks9 hq23 hk9 hs9 => ?_)
    obtain ⟨rfl, rfl, rfl, rfl, z25, rfl, hz25⟩ := hq23
    obtain rfl : kc = kc9 := by omega
    obtain rfl : ks = ks9 := by omega
    refine Or.inr (Or.inl ⟨rfl, ?_⟩)
    refine w_if (c := .eq) (npc := 36) (pt := 56) rfl (fun hc26 => ?_) (fun hc26 => ?_)
    · replace hc26 : z25 = (0 : Int) := hc26
      refine w_aload (i := 0) (npc := 57) rfl rfl rfl ?_
      refine w_virt (ci := 8) (i := 81) (npc := 60) (a := [cr 81]) (rest := []) rfl rfl (hI16.pl (by decide)) (hI16.T (by decide) rfl) rfl rfl rfl rfl (ct_m_refuse (sl := sl) (x := x) (d := d + 6)  hI16) (Or.inl rfl) (fun k9 v9 T9 E28 nx9 kc9 ks9 hq27 hk9 hs9 => ?_)
      obtain ⟨rfl, rfl, rfl, hI30, hG31, z29, rfl, hz29⟩ := hq27
      obtain rfl : kc = kc9 := by omega
      obtain rfl : ks = ks9 := by omega
      have hF32 := cm_fr.trans hF19 hG31 (by first | (simp; done) | (simp; omega) | (intro i k h; (try simp only at h); (try simp only); omega))
      have hR33 := rl.fr hR18 hG31 (by intro i k h; (try simp only at h); omega)
      have hx34 := tx.fr hx20 hG31 (by intro i k h; (try simp only at h); omega)
      have hz35 : E28 81 0 = ai_i 0 := (hG31 81 0 (by simp)).trans hz21
      have ghz35 := gv_eq hz35
      have hz36 : E28 81 13 = ai_i z22 := (hG31 81 13 (by simp)).trans hz22
      have ghz36 := gv_eq hz36
      refine Or.inr (Or.inl ⟨rfl, ?_⟩)
      exact w_iret rfl (⟨rfl, rfl, rfl, hI30, hF32, hR33, z29, rfl, trivial⟩) (by omega) (by omega)
    · replace hc26 : ¬ (z25 = (0 : Int)) := hc26
      refine w_iload (i := 3) (npc := 37) rfl rfl ?_
      refine w_const (n := 32) (npc := 39) rfl ?_
      refine w_const (n := 126) (npc := 41) rfl ?_
      refine w_call (npc := 44) (a := [ai_i g, ai_i 32, ai_i 126]) (rest := []) rfl rfl rfl rfl rfl (ct_m_isIn (sl := sl) (x := x) (d := d + 6) (g) (32) (126)) (Or.inr (fun _ _ _ _ _ hq => by have h1 := hq.1; omega)) (fun k9 v9 T9 E38 nx9 kc9 ks9 hq37 hk9 hs9 => ?_)
      obtain ⟨rfl, rfl, rfl, rfl, z39, rfl, hz39⟩ := hq37
      obtain rfl : kc = kc9 := by omega
      obtain rfl : ks = ks9 := by omega
      refine Or.inr (Or.inl ⟨rfl, ?_⟩)
      refine w_if (c := .eq) (npc := 47) (pt := 56) rfl (fun hc40 => ?_) (fun hc40 => ?_)
      · replace hc40 : z39 = (0 : Int) := hc40
        refine w_aload (i := 0) (npc := 57) rfl rfl rfl ?_
        refine w_virt (ci := 8) (i := 81) (npc := 60) (a := [cr 81]) (rest := []) rfl rfl (hI16.pl (by decide)) (hI16.T (by decide) rfl) rfl rfl rfl rfl (ct_m_refuse (sl := sl) (x := x) (d := d + 6)  hI16) (Or.inl rfl) (fun k9 v9 T9 E42 nx9 kc9 ks9 hq41 hk9 hs9 => ?_)
        obtain ⟨rfl, rfl, rfl, hI44, hG45, z43, rfl, hz43⟩ := hq41
        obtain rfl : kc = kc9 := by omega
        obtain rfl : ks = ks9 := by omega
        have hF46 := cm_fr.trans hF19 hG45 (by first | (simp; done) | (simp; omega) | (intro i k h; (try simp only at h); (try simp only); omega))
        have hR47 := rl.fr hR18 hG45 (by intro i k h; (try simp only at h); omega)
        have hx48 := tx.fr hx20 hG45 (by intro i k h; (try simp only at h); omega)
        have hz49 : E42 81 0 = ai_i 0 := (hG45 81 0 (by simp)).trans hz21
        have ghz49 := gv_eq hz49
        have hz50 : E42 81 13 = ai_i z22 := (hG45 81 13 (by simp)).trans hz22
        have ghz50 := gv_eq hz50
        refine Or.inr (Or.inl ⟨rfl, ?_⟩)
        exact w_iret rfl (⟨rfl, rfl, rfl, hI44, hF46, hR47, z43, rfl, trivial⟩) (by omega) (by omega)
      · replace hc40 : ¬ (z39 = (0 : Int)) := hc40
        refine w_aload (i := 0) (npc := 48) rfl rfl rfl ?_
        refine w_iload (i := 1) (npc := 49) rfl rfl ?_
        refine w_const (n := 0) (npc := 50) rfl ?_
        refine w_virt (ci := 8) (i := 81) (npc := 53) (a := [cr 81, ai_i p, ai_i 0]) (rest := []) rfl rfl (hI16.pl (by decide)) (hI16.T (by decide) rfl) rfl rfl rfl rfl (ct_m_beginStep (sl := sl) (x := x) (d := d + 4) (p) (0) hI16 hR18 (by omega) (by omega)) (Or.inl rfl) (fun k9 v9 T9 E52 nx9 kc9 ks9 hq51 hk9 hs9 => ?_)
        obtain ⟨rfl, rfl, rfl, hI54, hG55, hR56, z53, rfl, hz53⟩ := hq51
        obtain rfl : kc = kc9 := by omega
        obtain rfl : ks = ks9 := by omega
        have hF57 := cm_fr.trans hF19 hG55 (by first | (simp; done) | (simp; omega) | (intro i k h; (try simp only at h); (try simp only); omega))
        have hx58 := tx.fr hx20 hG55 (by intro i k h; (try simp only at h); omega)
        have hz59 : E52 81 0 = ai_i 0 := (hG55 81 0 (by simp)).trans hz21
        have ghz59 := gv_eq hz59
        have hz60 : E52 81 13 = ai_i z22 := (hG55 81 13 (by simp)).trans hz22
        have ghz60 := gv_eq hz60
        refine Or.inr (Or.inl ⟨rfl, ?_⟩)
        refine w_if (c := .ne) (npc := 56) (pt := 61) rfl (fun hc61 => ?_) (fun hc61 => ?_)
        · replace hc61 : z53 ≠ (0 : Int) := hc61
          refine w_aload (i := 0) (npc := 62) rfl rfl rfl ?_
          refine w_const (n := 3200) (npc := 65) rfl ?_
          refine w_const (n := 9) (npc := 67) rfl ?_
          refine w_iload (i := 3) (npc := 68) rfl rfl ?_
          refine w_virt (ci := 8) (i := 81) (npc := 71) (a := [cr 81, ai_i 3200, ai_i 9, ai_i g]) (rest := []) rfl rfl (hI54.pl (by decide)) (hI54.T (by decide) rfl) rfl rfl rfl rfl (ct_m_put (sl := sl) (x := x) (d := d + 6) (3200) (9) (g) hI54 (by omega) (by omega) (by omega)) (Or.inl rfl) (fun k9 v9 T9 E63 nx9 kc9 ks9 hq62 hk9 hs9 => ?_)
          obtain ⟨rfl, rfl, rfl, hI65, hG66, hz64⟩ := hq62
          obtain rfl : kc = kc9 := by omega
          obtain rfl : ks = ks9 := by omega
          have hF67 := cm_fr.trans hF57 hG66 (by first | (simp; done) | (simp; omega) | (intro i k h; (try simp only at h); (try simp only); omega))
          have hR68 := rl.fr hR56 hG66 (by intro i k h; (try simp only at h); omega)
          have hx69 := tx.fr hx58 hG66 (by intro i k h; (try simp only at h); omega)
          have hz70 : E63 81 0 = ai_i 0 := (hG66 81 0 (by simp)).trans hz59
          have ghz70 := gv_eq hz70
          have hz71 : E63 81 13 = ai_i z22 := (hG66 81 13 (by simp)).trans hz60
          have ghz71 := gv_eq hz71
          refine Or.inl ⟨rfl, ?_⟩
          refine w_aload (i := 0) (npc := 72) rfl rfl rfl ?_
          refine w_aload (i := 0) (npc := 73) rfl rfl rfl ?_
          refine w_iload (i := 2) (npc := 74) rfl rfl ?_
          refine w_virt (ci := 8) (i := 81) (npc := 77) (a := [cr 81, ai_i l]) (rest := [cr 81]) rfl rfl (hI65.pl (by decide)) (hI65.T (by decide) rfl) rfl rfl rfl rfl (ct_m_keyAhead (sl := sl) (x := x) (d := d + 6) (l) hI65 (by omega)) (Or.inl rfl) (fun k9 v9 T9 E73 nx9 kc9 ks9 hq72 hk9 hs9 => ?_)
          obtain ⟨rfl, rfl, rfl, rfl, z74, rfl, hz74⟩ := hq72
          obtain rfl : kc = kc9 := by omega
          obtain rfl : ks = ks9 := by omega
          refine Or.inr (Or.inl ⟨rfl, ?_⟩)
          refine w_aload (i := 0) (npc := 78) rfl rfl rfl ?_
          refine w_iload (i := 2) (npc := 79) rfl rfl ?_
          refine w_virt (ci := 8) (i := 81) (npc := 82) (a := [cr 81, ai_i l]) (rest := [ai_i z74, cr 81]) rfl rfl (hI65.pl (by decide)) (hI65.T (by decide) rfl) rfl rfl rfl rfl (ct_m_keyBehind (sl := sl) (x := x) (d := d + 5) (l) hI65 (by omega) hx69) (Or.inl rfl) (fun k9 v9 T9 E76 nx9 kc9 ks9 hq75 hk9 hs9 => ?_)
          obtain ⟨rfl, rfl, rfl, rfl, z77, rfl, hz77⟩ := hq75
          obtain rfl : kc = kc9 := by omega
          obtain rfl : ks = ks9 := by omega
          refine Or.inr (Or.inl ⟨rfl, ?_⟩)
          refine w_iload (i := 1) (npc := 83) rfl rfl ?_
          refine w_const (n := 531210) (npc := 85) rfl ?_
          refine w_virt (ci := 8) (i := 81) (npc := 88) (a := [cr 81, ai_i z74, ai_i z77, ai_i p, ai_i 531210]) (rest := []) rfl rfl (hI65.pl (by decide)) (hI65.T (by decide) rfl) rfl rfl rfl rfl (ct_m_newKey (sl := sl) (x := x) (d := d + 6) (z74) (z77) (p) (531210) hI65 (by omega) (by omega) (by omega) (by omega)) (Or.inl rfl) (fun k9 v9 T9 E79 nx9 kc9 ks9 hq78 hk9 hs9 => ?_)
          obtain ⟨rfl, rfl, rfl, hI81, hG82, z80, rfl, hz80⟩ := hq78
          obtain rfl : kc = kc9 := by omega
          obtain rfl : ks = ks9 := by omega
          have hF83 := cm_fr.trans hF67 hG82 (by first | (simp; done) | (simp; omega) | (intro i k h; (try simp only at h); (try simp only); omega))
          have hR84 := rl.fr hR68 hG82 (by intro i k h; (try simp only at h); omega)
          have hx85 := tx.fr hx69 hG82 (by intro i k h; (try simp only at h); omega)
          have hz86 : E79 81 0 = ai_i 0 := (hG82 81 0 (by simp)).trans hz70
          have ghz86 := gv_eq hz86
          have hz87 : E79 81 13 = ai_i z22 := (hG82 81 13 (by simp)).trans hz71
          have ghz87 := gv_eq hz87
          refine Or.inr (Or.inl ⟨rfl, ?_⟩)
          refine w_istore (i := 4) (npc := 90) (loc' := [cr 81, ai_i p, ai_i l, ai_i g, ai_i z80]) rfl rfl ?_
          refine w_iload (i := 4) (npc := 92) rfl rfl ?_
          refine w_if (c := .eq) (npc := 95) (pt := 103) rfl (fun hc88 => ?_) (fun hc88 => ?_)
          · replace hc88 : z80 = (0 : Int) := hc88
            refine w_aload (i := 0) (npc := 104) rfl rfl rfl ?_
            refine w_virt (ci := 8) (i := 81) (npc := 107) (a := [cr 81]) (rest := []) rfl rfl (hI81.pl (by decide)) (hI81.T (by decide) rfl) rfl rfl rfl rfl (ct_m_refuse (sl := sl) (x := x) (d := d + 6)  hI81) (Or.inl rfl) (fun k9 v9 T9 E90 nx9 kc9 ks9 hq89 hk9 hs9 => ?_)
            obtain ⟨rfl, rfl, rfl, hI92, hG93, z91, rfl, hz91⟩ := hq89
            obtain rfl : kc = kc9 := by omega
            obtain rfl : ks = ks9 := by omega
            have hF94 := cm_fr.trans hF83 hG93 (by first | (simp; done) | (simp; omega) | (intro i k h; (try simp only at h); (try simp only); omega))
            have hR95 := rl.fr hR84 hG93 (by intro i k h; (try simp only at h); omega)
            have hx96 := tx.fr hx85 hG93 (by intro i k h; (try simp only at h); omega)
            have hz97 : E90 81 0 = ai_i 0 := (hG93 81 0 (by simp)).trans hz86
            have ghz97 := gv_eq hz97
            have hz98 : E90 81 13 = ai_i z22 := (hG93 81 13 (by simp)).trans hz87
            have ghz98 := gv_eq hz98
            refine Or.inr (Or.inl ⟨rfl, ?_⟩)
            exact w_iret rfl (⟨rfl, rfl, rfl, hI92, hF94, hR95, z91, rfl, trivial⟩) (by omega) (by omega)
          · replace hc88 : ¬ (z80 = (0 : Int)) := hc88
            refine w_aload (i := 0) (npc := 96) rfl rfl rfl ?_
            refine w_iload (i := 1) (npc := 97) rfl rfl ?_
            refine w_virt (ci := 8) (i := 81) (npc := 100) (a := [cr 81, ai_i p]) (rest := []) rfl rfl (hI81.pl (by decide)) (hI81.T (by decide) rfl) rfl rfl rfl rfl (ct_m_endStep (sl := sl) (x := x) (d := d + 2) (p) hI81  hR84 (by omega) (hand_ok (E := E79) (a := 0) (p := p) (m := gv E14 83 (5 * p + p).toNat) (by rw [← gv_fr hG82 (by first | omega | (simp only; omega)), ← gv_fr hG66 (by first | omega | (simp only; omega))]; exact hz53.1) (by rw [← gv_fr hG82 (by first | omega | (simp only; omega)), ← gv_fr hG66 (by first | omega | (simp only; omega))]; exact hz53.2.1) (by rw [← gv_fr hG82 (by first | omega | (simp only; omega)), ← gv_fr hG66 (by first | omega | (simp only; omega))]; exact hz53.2.2.1) (by rw [← gv_fr hG82 (by first | omega | (simp only; omega)), ← gv_fr hG66 (by first | omega | (simp only; omega))]; have h89 := hz53.2.2.2.2.2.2; omega) (by omega) (by omega) (by omega) (by have hl9 := gv_fr hF83 (i := 81) (k := 1) (by simp); omega) (fun _ => hz80.2.2) (fun q => by omega) (fun q => by omega)).1 (hand_ok (E := E79) (a := 0) (p := p) (m := gv E14 83 (5 * p + p).toNat) (by rw [← gv_fr hG82 (by first | omega | (simp only; omega)), ← gv_fr hG66 (by first | omega | (simp only; omega))]; exact hz53.1) (by rw [← gv_fr hG82 (by first | omega | (simp only; omega)), ← gv_fr hG66 (by first | omega | (simp only; omega))]; exact hz53.2.1) (by rw [← gv_fr hG82 (by first | omega | (simp only; omega)), ← gv_fr hG66 (by first | omega | (simp only; omega))]; exact hz53.2.2.1) (by rw [← gv_fr hG82 (by first | omega | (simp only; omega)), ← gv_fr hG66 (by first | omega | (simp only; omega))]; have h89 := hz53.2.2.2.2.2.2; omega) (by omega) (by omega) (by omega) (by have hl9 := gv_fr hF83 (i := 81) (k := 1) (by simp); omega) (fun _ => hz80.2.2) (fun q => by omega) (fun q => by omega)).2 (by rw [← gv_fr hG82 (by first | omega | (simp only; omega)), ← gv_fr hG66 (by first | omega | (simp only; omega))]; exact hz53.2.1) (by rw [← gv_fr hG82 (by first | omega | (simp only; omega)), ← gv_fr hG66 (by first | omega | (simp only; omega)), ← gv_fr hG55 (by first | omega | (simp only; omega))]; omega)) (Or.inl rfl) (fun k9 v9 T9 E100 nx9 kc9 ks9 hq99 hk9 hs9 => ?_)
            obtain ⟨rfl, rfl, rfl, hI102, hG103, hR104, z101, rfl, hz101⟩ := hq99
            obtain rfl : kc = kc9 := by omega
            obtain rfl : ks = ks9 := by omega
            have hF105 := cm_fr.trans hF83 hG103 (by first | (simp; done) | (simp; omega) | (intro i k h; (try simp only at h); (try simp only); omega))
            have hx106 := tx.fr hx85 hG103 (by intro i k h; (try simp only at h); omega)
            have hz107 : E100 81 0 = ai_i 0 := (hG103 81 0 (by simp)).trans hz86
            have ghz107 := gv_eq hz107
            have hz108 : E100 81 13 = ai_i z22 := (hG103 81 13 (by simp)).trans hz87
            have ghz108 := gv_eq hz108
            refine Or.inr (Or.inl ⟨rfl, ?_⟩)
            refine w_goto (pt := 107) rfl ?_
            exact w_iret rfl (⟨rfl, rfl, rfl, hI102, hF105, hR104, z101, rfl, trivial⟩) (by omega) (by omega)
        · replace hc61 : ¬ (z53 ≠ (0 : Int)) := hc61
          refine w_aload (i := 0) (npc := 57) rfl rfl rfl ?_
          refine w_virt (ci := 8) (i := 81) (npc := 60) (a := [cr 81]) (rest := []) rfl rfl (hI54.pl (by decide)) (hI54.T (by decide) rfl) rfl rfl rfl rfl (ct_m_refuse (sl := sl) (x := x) (d := d + 6)  hI54) (Or.inl rfl) (fun k9 v9 T9 E110 nx9 kc9 ks9 hq109 hk9 hs9 => ?_)
          obtain ⟨rfl, rfl, rfl, hI112, hG113, z111, rfl, hz111⟩ := hq109
          obtain rfl : kc = kc9 := by omega
          obtain rfl : ks = ks9 := by omega
          have hF114 := cm_fr.trans hF57 hG113 (by first | (simp; done) | (simp; omega) | (intro i k h; (try simp only at h); (try simp only); omega))
          have hR115 := rl.fr hR56 hG113 (by intro i k h; (try simp only at h); omega)
          have hx116 := tx.fr hx58 hG113 (by intro i k h; (try simp only at h); omega)
          have hz117 : E110 81 0 = ai_i 0 := (hG113 81 0 (by simp)).trans hz59
          have ghz117 := gv_eq hz117
          have hz118 : E110 81 13 = ai_i z22 := (hG113 81 13 (by simp)).trans hz60
          have ghz118 := gv_eq hz118
          refine Or.inr (Or.inl ⟨rfl, ?_⟩)
          exact w_iret rfl (⟨rfl, rfl, rfl, hI112, hF114, hR115, z111, rfl, trivial⟩) (by omega) (by omega)
  · replace hc12 : ¬ (z10 ≠ (0 : Int)) := hc12
    refine w_aload (i := 0) (npc := 14) rfl rfl rfl ?_
    refine w_const (n := 1) (npc := 15) rfl ?_
    refine w_virt (ci := 8) (i := 81) (npc := 18) (a := [cr 81, ai_i 1]) (rest := []) rfl rfl (hI2.pl (by decide)) (hI2.T (by decide) rfl) rfl rfl rfl rfl (ct_m_fail (sl := sl) (x := x) (d := d + 6) (1) hI2 (by omega)) (Or.inl rfl) (fun k9 v9 T9 E120 nx9 kc9 ks9 hq119 hk9 hs9 => ?_)
    obtain ⟨rfl, rfl, rfl, hI122, hG123, z121, rfl, hz121⟩ := hq119
    obtain rfl : kc = kc9 := by omega
    obtain rfl : ks = ks9 := by omega
    have hF124 := cm_fr.trans hF4 hG123 (by first | (simp; done) | (simp; omega) | (intro i k h; (try simp only at h); (try simp only); omega))
    have hR125 := rl.fr hR5 hG123 (by intro i k h; (try simp only at h); omega)
    have hz126 : E120 81 13 = ai_i z7 := (hG123 81 13 (by simp)).trans hz7
    have ghz126 := gv_eq hz126
    refine Or.inr (Or.inl ⟨rfl, ?_⟩)
    exact w_iret rfl (⟨rfl, rfl, rfl, hI122, hF124, hR125, z121, rfl, trivial⟩) (by omega) (by omega)
set_option maxRecDepth 16384 in
theorem ct_m_strike {sl : Int × Int} {x : ai_E} {d : Nat} {T : cm_T} {E : cm_E} {nx : Nat} (p l : Int) (hI : cs_I T E nx) (hR : rl E) : cm_ct (ai_ev sl (d + 8)) x 213 [cr 81, ai_i p, ai_i l] T E nx 0 0 (fun rk rv T' E' nx' => rk = 1 ∧ T = T' ∧ nx = nx' ∧ cs_I T E' nx ∧ cm_fr (fun i k => (i = 81 ∧ (k = 0 ∨ k = 12 ∨ k = 13)) ∨ i = 82 ∨ i = 83 ∨ i = 84 ∨ i = 85 ∨ i = 86 ∨ i = 87 ∨ i = 88 ∨ i = 89 ∨ i = 90 ∨ i = 91) E E' ∧ rl E' ∧ ∃ z : Int, rv = ai_i z ∧ (True)) := by
  refine cm_body (M := ai_m213) rfl rfl (fun kc ks => ?_)
  show cm_wp (ai_find ai_c213 sl) (ai_ev sl (d + 7)) x (kc + 0) (ks + 0) _ 0 [cr 81, ai_i p, ai_i l] [] T E nx kc ks
  have hF : cm_fr (fun i k => (i = 81 ∧ (k = 0 ∨ k = 12 ∨ k = 13)) ∨ i = 82 ∨ i = 83 ∨ i = 84 ∨ i = 85 ∨ i = 86 ∨ i = 87 ∨ i = 88 ∨ i = 89 ∨ i = 90 ∨ i = 91) E E := fun _ _ _ => rfl
  refine w_aload (i := 0) (npc := 1) rfl rfl rfl ?_
  refine w_const (n := 0) (npc := 2) rfl ?_
  refine w_putf (i := 81) (ci := 8) (k := 0) (t := 0) (npc := 5) rfl (hI.pl (by decide)) (hI.T (by decide) rfl) (by decide) cm_fit0 ?_
  have hI2 := hI.puti (i := 81) (k := 0) (z := 0) (lo := 0) (hi := 2) (by decide) rfl (by omega)
  have hF4 := cm_fr.up (i := 81) (k := 0) (v := ai_i 0) hF (by first | (simp; done) | (simp; omega) | (intro i k h; (try simp only at h); (try simp only); omega))
  have hR5 := rl.wr (i := 81) (k := 0) (v := ai_i 0) hR (by simp)
  generalize hE3 : cm_up E 81 0 (ai_i 0) = E1 at hI2 hF4 hR5  ⊢
  have hz6 : E1 81 0 = ai_i 0 := by rw [← hE3, cm_up_eq]
  have ghz6 := gv_eq hz6
  refine w_aload (i := 0) (npc := 6) rfl rfl rfl ?_
  refine w_iload (i := 1) (npc := 7) rfl rfl ?_
  obtain ⟨z7, hz7, hz7a, hz7b⟩ := hI2.int 81 13 (lo := 0) (hi := 300) (by decide) (by decide) rfl
  have ghz7 := gv_eq hz7
  refine w_virt (ci := 8) (i := 81) (npc := 10) (a := [cr 81, ai_i p]) (rest := []) rfl rfl (hI2.pl (by decide)) (hI2.T (by decide) rfl) rfl rfl rfl rfl (ct_m_isWriter (sl := sl) (x := x) (d := d + 5) (p) hI2) (Or.inl rfl) (fun k9 v9 T9 E9 nx9 kc9 ks9 hq8 hk9 hs9 => ?_)
  obtain ⟨rfl, rfl, rfl, rfl, z10, rfl, hz10⟩ := hq8
  obtain rfl : kc = kc9 := by omega
  obtain rfl : ks = ks9 := by omega
  refine Or.inr (Or.inl ⟨rfl, ?_⟩)
  have hl11 := gv_fr hF4 (i := 81) (k := 1) (by simp)
  refine w_if (c := .ne) (npc := 13) (pt := 19) rfl (fun hc12 => ?_) (fun hc12 => ?_)
  · replace hc12 : z10 ≠ (0 : Int) := hc12
    refine w_aload (i := 0) (npc := 20) rfl rfl rfl ?_
    refine w_iload (i := 1) (npc := 21) rfl rfl ?_
    refine w_virt (ci := 8) (i := 81) (npc := 24) (a := [cr 81, ai_i p]) (rest := []) rfl rfl (hI2.pl (by decide)) (hI2.T (by decide) rfl) rfl rfl rfl rfl (ct_m_tellPage (sl := sl) (x := x) (d := d + 0) (p) hI2 hR5 (by omega)) (Or.inl rfl) (fun k9 v9 T9 E14 nx9 kc9 ks9 hq13 hk9 hs9 => ?_)
    obtain ⟨rfl, rfl, rfl, hI16, hG17, hR18, hz15⟩ := hq13
    obtain rfl : kc = kc9 := by omega
    obtain rfl : ks = ks9 := by omega
    have hF19 := cm_fr.trans hF4 hG17 (by first | (simp; done) | (simp; omega) | (intro i k h; (try simp only at h); (try simp only); omega))
    have hx20 : tx E14 := hz15
    have hz21 : E14 81 0 = ai_i 0 := (hG17 81 0 (by simp)).trans hz6
    have ghz21 := gv_eq hz21
    refine Or.inl ⟨rfl, ?_⟩
    refine w_iload (i := 2) (npc := 25) rfl rfl ?_
    refine w_const (n := 0) (npc := 26) rfl ?_
    refine w_aload (i := 0) (npc := 27) rfl rfl rfl ?_
    obtain ⟨z22, hz22, hz22a, hz22b⟩ := hI16.int 81 13 (lo := 0) (hi := 300) (by decide) (by decide) rfl
    have ghz22 := gv_eq hz22
    refine w_getf (i := 81) (ci := 8) (k := 13) (npc := 30) rfl (hI16.pl (by decide)) (hI16.T (by decide) rfl) (by decide) hz22 ?_
    refine w_const (n := 1) (npc := 31) rfl ?_
    refine w_isub (npc := 32) rfl (by omega) ?_
    refine w_call (npc := 35) (a := [ai_i l, ai_i 0, ai_i (z22 - 1)]) (rest := []) rfl rfl rfl rfl rfl (ct_m_isIn (sl := sl) (x := x) (d := d + 6) (l) (0) (z22 - 1)) (Or.inr (fun _ _ _ _ _ hq => by have h1 := hq.1; omega)) (fun k9 v9 T9 E25 nx9 kc9 ks9 hq24 hk9 hs9 => ?_)
    obtain ⟨rfl, rfl, rfl, rfl, z26, rfl, hz26⟩ := hq24
    obtain rfl : kc = kc9 := by omega
    obtain rfl : ks = ks9 := by omega
    refine Or.inr (Or.inl ⟨rfl, ?_⟩)
    refine w_if (c := .eq) (npc := 38) (pt := 47) rfl (fun hc27 => ?_) (fun hc27 => ?_)
    · replace hc27 : z26 = (0 : Int) := hc27
      refine w_aload (i := 0) (npc := 48) rfl rfl rfl ?_
      refine w_virt (ci := 8) (i := 81) (npc := 51) (a := [cr 81]) (rest := []) rfl rfl (hI16.pl (by decide)) (hI16.T (by decide) rfl) rfl rfl rfl rfl (ct_m_refuse (sl := sl) (x := x) (d := d + 6)  hI16) (Or.inl rfl) (fun k9 v9 T9 E29 nx9 kc9 ks9 hq28 hk9 hs9 => ?_)
      obtain ⟨rfl, rfl, rfl, hI31, hG32, z30, rfl, hz30⟩ := hq28
      obtain rfl : kc = kc9 := by omega
      obtain rfl : ks = ks9 := by omega
      have hF33 := cm_fr.trans hF19 hG32 (by first | (simp; done) | (simp; omega) | (intro i k h; (try simp only at h); (try simp only); omega))
      have hR34 := rl.fr hR18 hG32 (by intro i k h; (try simp only at h); omega)
      have hx35 := tx.fr hx20 hG32 (by intro i k h; (try simp only at h); omega)
      have hz36 : E29 81 0 = ai_i 0 := (hG32 81 0 (by simp)).trans hz21
      have ghz36 := gv_eq hz36
      have hz37 : E29 81 13 = ai_i z22 := (hG32 81 13 (by simp)).trans hz22
      have ghz37 := gv_eq hz37
      refine Or.inr (Or.inl ⟨rfl, ?_⟩)
      exact w_iret rfl (⟨rfl, rfl, rfl, hI31, hF33, hR34, z30, rfl, trivial⟩) (by omega) (by omega)
    · replace hc27 : ¬ (z26 = (0 : Int)) := hc27
      refine w_aload (i := 0) (npc := 39) rfl rfl rfl ?_
      refine w_iload (i := 1) (npc := 40) rfl rfl ?_
      refine w_const (n := 1) (npc := 41) rfl ?_
      refine w_virt (ci := 8) (i := 81) (npc := 44) (a := [cr 81, ai_i p, ai_i 1]) (rest := []) rfl rfl (hI16.pl (by decide)) (hI16.T (by decide) rfl) rfl rfl rfl rfl (ct_m_beginStep (sl := sl) (x := x) (d := d + 4) (p) (1) hI16 hR18 (by omega) (by omega)) (Or.inl rfl) (fun k9 v9 T9 E39 nx9 kc9 ks9 hq38 hk9 hs9 => ?_)
      obtain ⟨rfl, rfl, rfl, hI41, hG42, hR43, z40, rfl, hz40⟩ := hq38
      obtain rfl : kc = kc9 := by omega
      obtain rfl : ks = ks9 := by omega
      have hF44 := cm_fr.trans hF19 hG42 (by first | (simp; done) | (simp; omega) | (intro i k h; (try simp only at h); (try simp only); omega))
      have hx45 := tx.fr hx20 hG42 (by intro i k h; (try simp only at h); omega)
      have hz46 : E39 81 0 = ai_i 0 := (hG42 81 0 (by simp)).trans hz21
      have ghz46 := gv_eq hz46
      have hz47 : E39 81 13 = ai_i z22 := (hG42 81 13 (by simp)).trans hz22
      have ghz47 := gv_eq hz47
      refine Or.inr (Or.inl ⟨rfl, ?_⟩)
      refine w_if (c := .ne) (npc := 47) (pt := 52) rfl (fun hc48 => ?_) (fun hc48 => ?_)
      · replace hc48 : z40 ≠ (0 : Int) := hc48
        refine w_aload (i := 0) (npc := 53) rfl rfl rfl ?_
        refine w_const (n := 3200) (npc := 56) rfl ?_
        refine w_const (n := 9) (npc := 58) rfl ?_
        refine w_aload (i := 0) (npc := 59) rfl rfl rfl ?_
        refine w_getf (i := 81) (ci := 8) (k := 11) (npc := 62) rfl (hI41.pl (by decide)) (hI41.T (by decide) rfl) (by decide) (hI41.ref 81 11 (p := 91) (by decide) (by decide) rfl) ?_
        refine w_iload (i := 2) (npc := 63) rfl rfl ?_
        obtain ⟨z49, hz49, hz49a, hz49b⟩ := hI41.int 91 (l : Int).toNat (lo := 0) (hi := 299) (by decide) (show (l : Int).toNat < 300 by omega) rfl
        have ghz49 := gv_eq hz49
        refine w_ald (i := 91) (t := 1) (n := 300) (npc := 64) rfl (hI41.pl (by decide)) (hI41.T (by decide) rfl) (by decide) rfl (by omega) hz49 ?_
        refine w_call (npc := 67) (a := [ai_i z49]) (rest := [ai_i 9, ai_i 3200, cr 81]) rfl rfl rfl rfl rfl (ct_m_nameOf (sl := sl) (x := x) (d := d + 6) (z49) (by omega)) (Or.inr (fun _ _ _ _ _ hq => by have h1 := hq.1; omega)) (fun k9 v9 T9 E51 nx9 kc9 ks9 hq50 hk9 hs9 => ?_)
        obtain ⟨rfl, rfl, rfl, rfl, z52, rfl, hz52⟩ := hq50
        obtain rfl : kc = kc9 := by omega
        obtain rfl : ks = ks9 := by omega
        refine Or.inr (Or.inl ⟨rfl, ?_⟩)
        refine w_virt (ci := 8) (i := 81) (npc := 70) (a := [cr 81, ai_i 3200, ai_i 9, ai_i z52]) (rest := []) rfl rfl (hI41.pl (by decide)) (hI41.T (by decide) rfl) rfl rfl rfl rfl (ct_m_put (sl := sl) (x := x) (d := d + 6) (3200) (9) (z52) hI41 (by omega) (by omega) (by omega)) (Or.inl rfl) (fun k9 v9 T9 E54 nx9 kc9 ks9 hq53 hk9 hs9 => ?_)
        obtain ⟨rfl, rfl, rfl, hI56, hG57, hz55⟩ := hq53
        obtain rfl : kc = kc9 := by omega
        obtain rfl : ks = ks9 := by omega
        have hF58 := cm_fr.trans hF44 hG57 (by first | (simp; done) | (simp; omega) | (intro i k h; (try simp only at h); (try simp only); omega))
        have hR59 := rl.fr hR43 hG57 (by intro i k h; (try simp only at h); omega)
        have hx60 := tx.fr hx45 hG57 (by intro i k h; (try simp only at h); omega)
        have hz61 : E54 81 0 = ai_i 0 := (hG57 81 0 (by simp)).trans hz46
        have ghz61 := gv_eq hz61
        have hz62 : E54 81 13 = ai_i z22 := (hG57 81 13 (by simp)).trans hz47
        have ghz62 := gv_eq hz62
        refine Or.inl ⟨rfl, ?_⟩
        refine w_aload (i := 0) (npc := 71) rfl rfl rfl ?_
        refine w_iload (i := 1) (npc := 72) rfl rfl ?_
        refine w_virt (ci := 8) (i := 81) (npc := 75) (a := [cr 81, ai_i p]) (rest := []) rfl rfl (hI56.pl (by decide)) (hI56.T (by decide) rfl) rfl rfl rfl rfl (ct_m_endStep (sl := sl) (x := x) (d := d + 2) (p) hI56  hR59 (by omega) (hand_ok (E := E54) (a := 1) (p := p) (m := gv E14 83 (5 * p + p).toNat) (by rw [← gv_fr hG57 (by first | omega | (simp only; omega))]; exact hz40.1) (by rw [← gv_fr hG57 (by first | omega | (simp only; omega))]; exact hz40.2.1) (by rw [← gv_fr hG57 (by first | omega | (simp only; omega))]; exact hz40.2.2.1) (by rw [← gv_fr hG57 (by first | omega | (simp only; omega))]; have h89 := hz40.2.2.2.2.2.2; omega) (by omega) (by omega) (by omega) (by have hl9 := gv_fr hF58 (i := 81) (k := 1) (by simp); omega) (fun q => by omega) (fun q => by omega) (fun q => by omega)).1 (hand_ok (E := E54) (a := 1) (p := p) (m := gv E14 83 (5 * p + p).toNat) (by rw [← gv_fr hG57 (by first | omega | (simp only; omega))]; exact hz40.1) (by rw [← gv_fr hG57 (by first | omega | (simp only; omega))]; exact hz40.2.1) (by rw [← gv_fr hG57 (by first | omega | (simp only; omega))]; exact hz40.2.2.1) (by rw [← gv_fr hG57 (by first | omega | (simp only; omega))]; have h89 := hz40.2.2.2.2.2.2; omega) (by omega) (by omega) (by omega) (by have hl9 := gv_fr hF58 (i := 81) (k := 1) (by simp); omega) (fun q => by omega) (fun q => by omega) (fun q => by omega)).2 (by rw [← gv_fr hG57 (by first | omega | (simp only; omega))]; exact hz40.2.1) (by rw [← gv_fr hG57 (by first | omega | (simp only; omega)), ← gv_fr hG42 (by first | omega | (simp only; omega))]; omega)) (Or.inl rfl) (fun k9 v9 T9 E64 nx9 kc9 ks9 hq63 hk9 hs9 => ?_)
        obtain ⟨rfl, rfl, rfl, hI66, hG67, hR68, z65, rfl, hz65⟩ := hq63
        obtain rfl : kc = kc9 := by omega
        obtain rfl : ks = ks9 := by omega
        have hF69 := cm_fr.trans hF58 hG67 (by first | (simp; done) | (simp; omega) | (intro i k h; (try simp only at h); (try simp only); omega))
        have hx70 := tx.fr hx60 hG67 (by intro i k h; (try simp only at h); omega)
        have hz71 : E64 81 0 = ai_i 0 := (hG67 81 0 (by simp)).trans hz61
        have ghz71 := gv_eq hz71
        have hz72 : E64 81 13 = ai_i z22 := (hG67 81 13 (by simp)).trans hz62
        have ghz72 := gv_eq hz72
        refine Or.inr (Or.inl ⟨rfl, ?_⟩)
        exact w_iret rfl (⟨rfl, rfl, rfl, hI66, hF69, hR68, z65, rfl, trivial⟩) (by omega) (by omega)
      · replace hc48 : ¬ (z40 ≠ (0 : Int)) := hc48
        refine w_aload (i := 0) (npc := 48) rfl rfl rfl ?_
        refine w_virt (ci := 8) (i := 81) (npc := 51) (a := [cr 81]) (rest := []) rfl rfl (hI41.pl (by decide)) (hI41.T (by decide) rfl) rfl rfl rfl rfl (ct_m_refuse (sl := sl) (x := x) (d := d + 6)  hI41) (Or.inl rfl) (fun k9 v9 T9 E74 nx9 kc9 ks9 hq73 hk9 hs9 => ?_)
        obtain ⟨rfl, rfl, rfl, hI76, hG77, z75, rfl, hz75⟩ := hq73
        obtain rfl : kc = kc9 := by omega
        obtain rfl : ks = ks9 := by omega
        have hF78 := cm_fr.trans hF44 hG77 (by first | (simp; done) | (simp; omega) | (intro i k h; (try simp only at h); (try simp only); omega))
        have hR79 := rl.fr hR43 hG77 (by intro i k h; (try simp only at h); omega)
        have hx80 := tx.fr hx45 hG77 (by intro i k h; (try simp only at h); omega)
        have hz81 : E74 81 0 = ai_i 0 := (hG77 81 0 (by simp)).trans hz46
        have ghz81 := gv_eq hz81
        have hz82 : E74 81 13 = ai_i z22 := (hG77 81 13 (by simp)).trans hz47
        have ghz82 := gv_eq hz82
        refine Or.inr (Or.inl ⟨rfl, ?_⟩)
        exact w_iret rfl (⟨rfl, rfl, rfl, hI76, hF78, hR79, z75, rfl, trivial⟩) (by omega) (by omega)
  · replace hc12 : ¬ (z10 ≠ (0 : Int)) := hc12
    refine w_aload (i := 0) (npc := 14) rfl rfl rfl ?_
    refine w_const (n := 1) (npc := 15) rfl ?_
    refine w_virt (ci := 8) (i := 81) (npc := 18) (a := [cr 81, ai_i 1]) (rest := []) rfl rfl (hI2.pl (by decide)) (hI2.T (by decide) rfl) rfl rfl rfl rfl (ct_m_fail (sl := sl) (x := x) (d := d + 6) (1) hI2 (by omega)) (Or.inl rfl) (fun k9 v9 T9 E84 nx9 kc9 ks9 hq83 hk9 hs9 => ?_)
    obtain ⟨rfl, rfl, rfl, hI86, hG87, z85, rfl, hz85⟩ := hq83
    obtain rfl : kc = kc9 := by omega
    obtain rfl : ks = ks9 := by omega
    have hF88 := cm_fr.trans hF4 hG87 (by first | (simp; done) | (simp; omega) | (intro i k h; (try simp only at h); (try simp only); omega))
    have hR89 := rl.fr hR5 hG87 (by intro i k h; (try simp only at h); omega)
    have hz90 : E84 81 13 = ai_i z7 := (hG87 81 13 (by simp)).trans hz7
    have ghz90 := gv_eq hz90
    refine Or.inr (Or.inl ⟨rfl, ?_⟩)
    exact w_iret rfl (⟨rfl, rfl, rfl, hI86, hF88, hR89, z85, rfl, trivial⟩) (by omega) (by omega)
set_option maxRecDepth 16384 in
theorem ct_m_mayUndo {sl : Int × Int} {x : ai_E} {d : Nat} {T : cm_T} {E : cm_E} {nx : Nat} (p n : Int) (hI : cs_I T E nx) (hp0 : 0 ≤ p ∧ p ≤ 4) : cm_ct (ai_ev sl (d + 6)) x 185 [cr 81, ai_i p, ai_i n] T E nx 0 0 (fun rk rv T' E' nx' => rk = 1 ∧ T = T' ∧ E = E' ∧ nx = nx' ∧ ∃ z : Int, rv = ai_i z ∧ (0 ≤ z ∧ z ≤ 1 ∧ (z = 1 → 1 ≤ n ∧ n ≤ 60))) := by
  refine cm_body (M := ai_m185) rfl rfl (fun kc ks => ?_)
  show cm_wp (ai_find ai_c185 sl) (ai_ev sl (d + 5)) x (kc + 0) (ks + 0) _ 0 [cr 81, ai_i p, ai_i n, ai_un, ai_un] [] T E nx kc ks
  refine w_aload (i := 0) (npc := 1) rfl rfl rfl ?_
  refine w_iload (i := 1) (npc := 2) rfl rfl ?_
  refine w_iload (i := 1) (npc := 3) rfl rfl ?_
  refine w_iload (i := 2) (npc := 4) rfl rfl ?_
  refine w_virt (ci := 8) (i := 81) (npc := 7) (a := [cr 81, ai_i p, ai_i p, ai_i n]) (rest := []) rfl rfl (hI.pl (by decide)) (hI.T (by decide) rfl) rfl rfl rfl rfl (ct_m_hasStep (sl := sl) (x := x) (d := d + 2) (p) (p) (n) hI (by omega)) (Or.inl rfl) (fun k9 v9 T9 E2 nx9 kc9 ks9 hq1 hk9 hs9 => ?_)
  obtain ⟨rfl, rfl, rfl, rfl, z3, rfl, hz3⟩ := hq1
  obtain rfl : kc = kc9 := by omega
  obtain rfl : ks = ks9 := by omega
  refine Or.inr (Or.inl ⟨rfl, ?_⟩)
  refine w_if (c := .eq) (npc := 10) (pt := 23) rfl (fun hc4 => ?_) (fun hc4 => ?_)
  · replace hc4 : z3 = (0 : Int) := hc4
    refine w_const (n := 0) (npc := 24) rfl ?_
    exact w_zret rfl (by omega) (⟨rfl, rfl, rfl, rfl, 0, rfl, by omega⟩) (by omega) (by omega)
  · replace hc4 : ¬ (z3 = (0 : Int)) := hc4
    refine w_aload (i := 0) (npc := 11) rfl rfl rfl ?_
    refine w_getf (i := 81) (ci := 8) (k := 6) (npc := 14) rfl (hI.pl (by decide)) (hI.T (by decide) rfl) (by decide) (hI.ref 81 6 (p := 86) (by decide) (by decide) rfl) ?_
    refine w_iload (i := 1) (npc := 15) rfl rfl ?_
    refine w_iload (i := 2) (npc := 16) rfl rfl ?_
    refine w_call (npc := 19) (a := [ai_i p, ai_i n]) (rest := [cr 86]) rfl rfl rfl rfl rfl (ct_m_markOf (sl := sl) (x := x) (d := d + 4) (p) (n) (by omega) (by omega)) (Or.inr (fun _ _ _ _ _ hq => by have h1 := hq.1; omega)) (fun k9 v9 T9 E6 nx9 kc9 ks9 hq5 hk9 hs9 => ?_)
    obtain ⟨rfl, rfl, rfl, rfl, z7, rfl, hz7⟩ := hq5
    obtain rfl : kc = kc9 := by omega
    obtain rfl : ks = ks9 := by omega
    refine Or.inr (Or.inl ⟨rfl, ?_⟩)
    obtain ⟨z8, hz8, hz8a, hz8b⟩ := hI.int 86 (z7 : Int).toNat (lo := 0) (hi := 1) (by decide) (show (z7 : Int).toNat < 300 by omega) rfl
    have ghz8 := gv_eq hz8
    refine w_ald (i := 86) (t := 2) (n := 300) (npc := 20) rfl (hI.pl (by decide)) (hI.T (by decide) rfl) (by decide) rfl (by omega) hz8 ?_
    refine w_if (c := .ne) (npc := 23) (pt := 25) rfl (fun hc9 => ?_) (fun hc9 => ?_)
    · replace hc9 : z8 ≠ (0 : Int) := hc9
      refine w_iload (i := 1) (npc := 26) rfl rfl ?_
      refine w_iload (i := 1) (npc := 27) rfl rfl ?_
      refine w_iload (i := 2) (npc := 28) rfl rfl ?_
      refine w_call (npc := 31) (a := [ai_i p, ai_i p, ai_i n]) (rest := []) rfl rfl rfl rfl rfl (ct_m_rowOf (sl := sl) (x := x) (d := d + 4) (p) (p) (n) (by omega) (by omega) (by omega)) (Or.inr (fun _ _ _ _ _ hq => by have h1 := hq.1; omega)) (fun k9 v9 T9 E11 nx9 kc9 ks9 hq10 hk9 hs9 => ?_)
      obtain ⟨rfl, rfl, rfl, rfl, z12, rfl, hz12⟩ := hq10
      obtain rfl : kc = kc9 := by omega
      obtain rfl : ks = ks9 := by omega
      refine Or.inr (Or.inl ⟨rfl, ?_⟩)
      refine w_istore (i := 3) (npc := 32) (loc' := [cr 81, ai_i p, ai_i n, ai_i z12, ai_un]) rfl rfl ?_
      refine w_aload (i := 0) (npc := 33) rfl rfl rfl ?_
      refine w_iload (i := 3) (npc := 34) rfl rfl ?_
      refine w_const (n := 0) (npc := 35) rfl ?_
      refine w_virt (ci := 8) (i := 81) (npc := 38) (a := [cr 81, ai_i z12, ai_i 0]) (rest := []) rfl rfl (hI.pl (by decide)) (hI.T (by decide) rfl) rfl rfl rfl rfl (ct_m_of (sl := sl) (x := x) (d := d + 4) (z12) (0) hI (by omega) (by omega) (by omega)) (Or.inl rfl) (fun k9 v9 T9 E14 nx9 kc9 ks9 hq13 hk9 hs9 => ?_)
      obtain ⟨rfl, rfl, rfl, rfl, z15, rfl, hz15⟩ := hq13
      obtain rfl : kc = kc9 := by omega
      obtain rfl : ks = ks9 := by omega
      refine Or.inr (Or.inl ⟨rfl, ?_⟩)
      refine w_const (n := 1) (npc := 39) rfl ?_
      refine w_icmp (c := .ne) (npc := 42) (pt := 57) rfl (fun hc16 => ?_) (fun hc16 => ?_)
      · replace hc16 : z15 ≠ (1 : Int) := hc16
        refine w_const (n := (-1)) (npc := 58) rfl ?_
        refine w_istore (i := 4) (npc := 60) (loc' := [cr 81, ai_i p, ai_i n, ai_i z12, ai_i ((-1))]) rfl rfl ?_
        refine w_iload (i := 4) (npc := 62) rfl rfl ?_
        refine w_const (n := (-1)) (npc := 63) rfl ?_
        refine w_icmp (c := .eq) (npc := 66) (pt := 76) rfl (fun hc17 => ?_) (fun hc17 => ?_)
        · replace hc17 : ((-1) : Int) = (-1) := hc17
          refine w_const (n := 1) (npc := 77) rfl ?_
          refine w_goto (pt := 81) rfl ?_
          exact w_zret rfl (by omega) (⟨rfl, rfl, rfl, rfl, 1, rfl, by omega⟩) (by omega) (by omega)
        · replace hc17 : ¬ (((-1) : Int) = (-1)) := hc17
          refine w_aload (i := 0) (npc := 67) rfl rfl rfl ?_
          refine w_iload (i := 1) (npc := 68) rfl rfl ?_
          refine w_iload (i := 4) (npc := 70) rfl rfl ?_
          refine w_virt (ci := 8) (i := 81) (npc := 73) (a := [cr 81, ai_i p, ai_i ((-1))]) (rest := []) rfl rfl (hI.pl (by decide)) (hI.T (by decide) rfl) rfl rfl rfl rfl (ct_m_isGone (sl := sl) (x := x) (d := d + 2) (p) ((-1)) hI (by omega) (by omega)) (Or.inl rfl) (fun k9 v9 T9 E19 nx9 kc9 ks9 hq18 hk9 hs9 => ?_)
          obtain ⟨rfl, rfl, rfl, rfl, z20, rfl, hz20⟩ := hq18
          obtain rfl : kc = kc9 := by omega
          obtain rfl : ks = ks9 := by omega
          refine Or.inr (Or.inl ⟨rfl, ?_⟩)
          refine w_if (c := .ne) (npc := 76) (pt := 80) rfl (fun hc21 => ?_) (fun hc21 => ?_)
          · replace hc21 : z20 ≠ (0 : Int) := hc21
            refine w_const (n := 0) (npc := 81) rfl ?_
            exact w_zret rfl (by omega) (⟨rfl, rfl, rfl, rfl, 0, rfl, by omega⟩) (by omega) (by omega)
          · replace hc21 : ¬ (z20 ≠ (0 : Int)) := hc21
            refine w_const (n := 1) (npc := 77) rfl ?_
            refine w_goto (pt := 81) rfl ?_
            exact w_zret rfl (by omega) (⟨rfl, rfl, rfl, rfl, 1, rfl, by omega⟩) (by omega) (by omega)
      · replace hc16 : ¬ (z15 ≠ (1 : Int)) := hc16
        refine w_aload (i := 0) (npc := 43) rfl rfl rfl ?_
        refine w_iload (i := 1) (npc := 44) rfl rfl ?_
        refine w_aload (i := 0) (npc := 45) rfl rfl rfl ?_
        refine w_iload (i := 3) (npc := 46) rfl rfl ?_
        refine w_const (n := 9) (npc := 48) rfl ?_
        refine w_virt (ci := 8) (i := 81) (npc := 51) (a := [cr 81, ai_i z12, ai_i 9]) (rest := [ai_i p, cr 81]) rfl rfl (hI.pl (by decide)) (hI.T (by decide) rfl) rfl rfl rfl rfl (ct_m_of (sl := sl) (x := x) (d := d + 4) (z12) (9) hI (by omega) (by omega) (by omega)) (Or.inl rfl) (fun k9 v9 T9 E23 nx9 kc9 ks9 hq22 hk9 hs9 => ?_)
        obtain ⟨rfl, rfl, rfl, rfl, z24, rfl, hz24⟩ := hq22
        obtain rfl : kc = kc9 := by omega
        obtain rfl : ks = ks9 := by omega
        refine Or.inr (Or.inl ⟨rfl, ?_⟩)
        refine w_virt (ci := 8) (i := 81) (npc := 54) (a := [cr 81, ai_i p, ai_i z24]) (rest := []) rfl rfl (hI.pl (by decide)) (hI.T (by decide) rfl) rfl rfl rfl rfl (ct_m_setNamed (sl := sl) (x := x) (d := d + 0) (p) (z24) hI (by omega) (by omega)) (Or.inl rfl) (fun k9 v9 T9 E26 nx9 kc9 ks9 hq25 hk9 hs9 => ?_)
        obtain ⟨rfl, rfl, rfl, rfl, z27, rfl, hz27⟩ := hq25
        obtain rfl : kc = kc9 := by omega
        obtain rfl : ks = ks9 := by omega
        refine Or.inr (Or.inl ⟨rfl, ?_⟩)
        refine w_goto (pt := 58) rfl ?_
        refine w_istore (i := 4) (npc := 60) (loc' := [cr 81, ai_i p, ai_i n, ai_i z12, ai_i z27]) rfl rfl ?_
        refine w_iload (i := 4) (npc := 62) rfl rfl ?_
        refine w_const (n := (-1)) (npc := 63) rfl ?_
        refine w_icmp (c := .eq) (npc := 66) (pt := 76) rfl (fun hc28 => ?_) (fun hc28 => ?_)
        · replace hc28 : z27 = ((-1) : Int) := hc28
          refine w_const (n := 1) (npc := 77) rfl ?_
          refine w_goto (pt := 81) rfl ?_
          exact w_zret rfl (by omega) (⟨rfl, rfl, rfl, rfl, 1, rfl, by omega⟩) (by omega) (by omega)
        · replace hc28 : ¬ (z27 = ((-1) : Int)) := hc28
          refine w_aload (i := 0) (npc := 67) rfl rfl rfl ?_
          refine w_iload (i := 1) (npc := 68) rfl rfl ?_
          refine w_iload (i := 4) (npc := 70) rfl rfl ?_
          refine w_virt (ci := 8) (i := 81) (npc := 73) (a := [cr 81, ai_i p, ai_i z27]) (rest := []) rfl rfl (hI.pl (by decide)) (hI.T (by decide) rfl) rfl rfl rfl rfl (ct_m_isGone (sl := sl) (x := x) (d := d + 2) (p) (z27) hI (by omega) (by omega)) (Or.inl rfl) (fun k9 v9 T9 E30 nx9 kc9 ks9 hq29 hk9 hs9 => ?_)
          obtain ⟨rfl, rfl, rfl, rfl, z31, rfl, hz31⟩ := hq29
          obtain rfl : kc = kc9 := by omega
          obtain rfl : ks = ks9 := by omega
          refine Or.inr (Or.inl ⟨rfl, ?_⟩)
          refine w_if (c := .ne) (npc := 76) (pt := 80) rfl (fun hc32 => ?_) (fun hc32 => ?_)
          · replace hc32 : z31 ≠ (0 : Int) := hc32
            refine w_const (n := 0) (npc := 81) rfl ?_
            exact w_zret rfl (by omega) (⟨rfl, rfl, rfl, rfl, 0, rfl, by omega⟩) (by omega) (by omega)
          · replace hc32 : ¬ (z31 ≠ (0 : Int)) := hc32
            refine w_const (n := 1) (npc := 77) rfl ?_
            refine w_goto (pt := 81) rfl ?_
            exact w_zret rfl (by omega) (⟨rfl, rfl, rfl, rfl, 1, rfl, by omega⟩) (by omega) (by omega)
    · replace hc9 : ¬ (z8 ≠ (0 : Int)) := hc9
      refine w_const (n := 0) (npc := 24) rfl ?_
      exact w_zret rfl (by omega) (⟨rfl, rfl, rfl, rfl, 0, rfl, by omega⟩) (by omega) (by omega)
set_option maxRecDepth 16384 in
theorem ct_m_undo {sl : Int × Int} {x : ai_E} {d : Nat} {T : cm_T} {E : cm_E} {nx : Nat} (p n : Int) (hI : cs_I T E nx) (hR : rl E) : cm_ct (ai_ev sl (d + 8)) x 219 [cr 81, ai_i p, ai_i n] T E nx 0 0 (fun rk rv T' E' nx' => rk = 1 ∧ T = T' ∧ nx = nx' ∧ cs_I T E' nx ∧ cm_fr (fun i k => (i = 81 ∧ (k = 0 ∨ k = 12 ∨ k = 13)) ∨ i = 82 ∨ i = 83 ∨ i = 84 ∨ i = 85 ∨ i = 86 ∨ i = 87 ∨ i = 88 ∨ i = 89 ∨ i = 90 ∨ i = 91) E E' ∧ rl E' ∧ ∃ z : Int, rv = ai_i z ∧ (True)) := by
  refine cm_body (M := ai_m219) rfl rfl (fun kc ks => ?_)
  show cm_wp (ai_find ai_c219 sl) (ai_ev sl (d + 7)) x (kc + 0) (ks + 0) _ 0 [cr 81, ai_i p, ai_i n] [] T E nx kc ks
  have hF : cm_fr (fun i k => (i = 81 ∧ (k = 0 ∨ k = 12 ∨ k = 13)) ∨ i = 82 ∨ i = 83 ∨ i = 84 ∨ i = 85 ∨ i = 86 ∨ i = 87 ∨ i = 88 ∨ i = 89 ∨ i = 90 ∨ i = 91) E E := fun _ _ _ => rfl
  refine w_aload (i := 0) (npc := 1) rfl rfl rfl ?_
  refine w_const (n := 0) (npc := 2) rfl ?_
  refine w_putf (i := 81) (ci := 8) (k := 0) (t := 0) (npc := 5) rfl (hI.pl (by decide)) (hI.T (by decide) rfl) (by decide) cm_fit0 ?_
  have hI2 := hI.puti (i := 81) (k := 0) (z := 0) (lo := 0) (hi := 2) (by decide) rfl (by omega)
  have hF4 := cm_fr.up (i := 81) (k := 0) (v := ai_i 0) hF (by first | (simp; done) | (simp; omega) | (intro i k h; (try simp only at h); (try simp only); omega))
  have hR5 := rl.wr (i := 81) (k := 0) (v := ai_i 0) hR (by simp)
  generalize hE3 : cm_up E 81 0 (ai_i 0) = E1 at hI2 hF4 hR5  ⊢
  have hz6 : E1 81 0 = ai_i 0 := by rw [← hE3, cm_up_eq]
  have ghz6 := gv_eq hz6
  refine w_aload (i := 0) (npc := 6) rfl rfl rfl ?_
  refine w_iload (i := 1) (npc := 7) rfl rfl ?_
  refine w_virt (ci := 8) (i := 81) (npc := 10) (a := [cr 81, ai_i p]) (rest := []) rfl rfl (hI2.pl (by decide)) (hI2.T (by decide) rfl) rfl rfl rfl rfl (ct_m_isWriter (sl := sl) (x := x) (d := d + 5) (p) hI2) (Or.inl rfl) (fun k9 v9 T9 E8 nx9 kc9 ks9 hq7 hk9 hs9 => ?_)
  obtain ⟨rfl, rfl, rfl, rfl, z9, rfl, hz9⟩ := hq7
  obtain rfl : kc = kc9 := by omega
  obtain rfl : ks = ks9 := by omega
  refine Or.inr (Or.inl ⟨rfl, ?_⟩)
  have hl10 := gv_fr hF4 (i := 81) (k := 1) (by simp)
  refine w_if (c := .ne) (npc := 13) (pt := 19) rfl (fun hc11 => ?_) (fun hc11 => ?_)
  · replace hc11 : z9 ≠ (0 : Int) := hc11
    refine w_aload (i := 0) (npc := 20) rfl rfl rfl ?_
    refine w_iload (i := 1) (npc := 21) rfl rfl ?_
    refine w_virt (ci := 8) (i := 81) (npc := 24) (a := [cr 81, ai_i p]) (rest := []) rfl rfl (hI2.pl (by decide)) (hI2.T (by decide) rfl) rfl rfl rfl rfl (ct_m_tellPage (sl := sl) (x := x) (d := d + 0) (p) hI2 hR5 (by omega)) (Or.inl rfl) (fun k9 v9 T9 E13 nx9 kc9 ks9 hq12 hk9 hs9 => ?_)
    obtain ⟨rfl, rfl, rfl, hI15, hG16, hR17, hz14⟩ := hq12
    obtain rfl : kc = kc9 := by omega
    obtain rfl : ks = ks9 := by omega
    have hF18 := cm_fr.trans hF4 hG16 (by first | (simp; done) | (simp; omega) | (intro i k h; (try simp only at h); (try simp only); omega))
    have hx19 : tx E13 := hz14
    have hz20 : E13 81 0 = ai_i 0 := (hG16 81 0 (by simp)).trans hz6
    have ghz20 := gv_eq hz20
    refine Or.inl ⟨rfl, ?_⟩
    refine w_aload (i := 0) (npc := 25) rfl rfl rfl ?_
    refine w_iload (i := 1) (npc := 26) rfl rfl ?_
    refine w_iload (i := 2) (npc := 27) rfl rfl ?_
    refine w_virt (ci := 8) (i := 81) (npc := 30) (a := [cr 81, ai_i p, ai_i n]) (rest := []) rfl rfl (hI15.pl (by decide)) (hI15.T (by decide) rfl) rfl rfl rfl rfl (ct_m_mayUndo (sl := sl) (x := x) (d := d + 1) (p) (n) hI15 (by omega)) (Or.inl rfl) (fun k9 v9 T9 E22 nx9 kc9 ks9 hq21 hk9 hs9 => ?_)
    obtain ⟨rfl, rfl, rfl, rfl, z23, rfl, hz23⟩ := hq21
    obtain rfl : kc = kc9 := by omega
    obtain rfl : ks = ks9 := by omega
    refine Or.inr (Or.inl ⟨rfl, ?_⟩)
    refine w_if (c := .eq) (npc := 33) (pt := 42) rfl (fun hc24 => ?_) (fun hc24 => ?_)
    · replace hc24 : z23 = (0 : Int) := hc24
      refine w_aload (i := 0) (npc := 43) rfl rfl rfl ?_
      refine w_virt (ci := 8) (i := 81) (npc := 46) (a := [cr 81]) (rest := []) rfl rfl (hI15.pl (by decide)) (hI15.T (by decide) rfl) rfl rfl rfl rfl (ct_m_refuse (sl := sl) (x := x) (d := d + 6)  hI15) (Or.inl rfl) (fun k9 v9 T9 E26 nx9 kc9 ks9 hq25 hk9 hs9 => ?_)
      obtain ⟨rfl, rfl, rfl, hI28, hG29, z27, rfl, hz27⟩ := hq25
      obtain rfl : kc = kc9 := by omega
      obtain rfl : ks = ks9 := by omega
      have hF30 := cm_fr.trans hF18 hG29 (by first | (simp; done) | (simp; omega) | (intro i k h; (try simp only at h); (try simp only); omega))
      have hR31 := rl.fr hR17 hG29 (by intro i k h; (try simp only at h); omega)
      have hx32 := tx.fr hx19 hG29 (by intro i k h; (try simp only at h); omega)
      have hz33 : E26 81 0 = ai_i 0 := (hG29 81 0 (by simp)).trans hz20
      have ghz33 := gv_eq hz33
      refine Or.inr (Or.inl ⟨rfl, ?_⟩)
      exact w_iret rfl (⟨rfl, rfl, rfl, hI28, hF30, hR31, z27, rfl, trivial⟩) (by omega) (by omega)
    · replace hc24 : ¬ (z23 = (0 : Int)) := hc24
      refine w_aload (i := 0) (npc := 34) rfl rfl rfl ?_
      refine w_iload (i := 1) (npc := 35) rfl rfl ?_
      refine w_const (n := 2) (npc := 36) rfl ?_
      refine w_virt (ci := 8) (i := 81) (npc := 39) (a := [cr 81, ai_i p, ai_i 2]) (rest := []) rfl rfl (hI15.pl (by decide)) (hI15.T (by decide) rfl) rfl rfl rfl rfl (ct_m_beginStep (sl := sl) (x := x) (d := d + 4) (p) (2) hI15 hR17 (by omega) (by omega)) (Or.inl rfl) (fun k9 v9 T9 E35 nx9 kc9 ks9 hq34 hk9 hs9 => ?_)
      obtain ⟨rfl, rfl, rfl, hI37, hG38, hR39, z36, rfl, hz36⟩ := hq34
      obtain rfl : kc = kc9 := by omega
      obtain rfl : ks = ks9 := by omega
      have hF40 := cm_fr.trans hF18 hG38 (by first | (simp; done) | (simp; omega) | (intro i k h; (try simp only at h); (try simp only); omega))
      have hx41 := tx.fr hx19 hG38 (by intro i k h; (try simp only at h); omega)
      have hz42 : E35 81 0 = ai_i 0 := (hG38 81 0 (by simp)).trans hz20
      have ghz42 := gv_eq hz42
      refine Or.inr (Or.inl ⟨rfl, ?_⟩)
      refine w_if (c := .ne) (npc := 42) (pt := 47) rfl (fun hc43 => ?_) (fun hc43 => ?_)
      · replace hc43 : z36 ≠ (0 : Int) := hc43
        refine w_aload (i := 0) (npc := 48) rfl rfl rfl ?_
        refine w_const (n := 3200) (npc := 51) rfl ?_
        refine w_const (n := 9) (npc := 53) rfl ?_
        refine w_iload (i := 2) (npc := 54) rfl rfl ?_
        refine w_virt (ci := 8) (i := 81) (npc := 57) (a := [cr 81, ai_i 3200, ai_i 9, ai_i n]) (rest := []) rfl rfl (hI37.pl (by decide)) (hI37.T (by decide) rfl) rfl rfl rfl rfl (ct_m_put (sl := sl) (x := x) (d := d + 6) (3200) (9) (n) hI37 (by omega) (by omega) (by omega)) (Or.inl rfl) (fun k9 v9 T9 E45 nx9 kc9 ks9 hq44 hk9 hs9 => ?_)
        obtain ⟨rfl, rfl, rfl, hI47, hG48, hz46⟩ := hq44
        obtain rfl : kc = kc9 := by omega
        obtain rfl : ks = ks9 := by omega
        have hF49 := cm_fr.trans hF40 hG48 (by first | (simp; done) | (simp; omega) | (intro i k h; (try simp only at h); (try simp only); omega))
        have hR50 := rl.fr hR39 hG48 (by intro i k h; (try simp only at h); omega)
        have hx51 := tx.fr hx41 hG48 (by intro i k h; (try simp only at h); omega)
        have hz52 : E45 81 0 = ai_i 0 := (hG48 81 0 (by simp)).trans hz42
        have ghz52 := gv_eq hz52
        refine Or.inl ⟨rfl, ?_⟩
        refine w_aload (i := 0) (npc := 58) rfl rfl rfl ?_
        refine w_iload (i := 1) (npc := 59) rfl rfl ?_
        refine w_virt (ci := 8) (i := 81) (npc := 62) (a := [cr 81, ai_i p]) (rest := []) rfl rfl (hI47.pl (by decide)) (hI47.T (by decide) rfl) rfl rfl rfl rfl (ct_m_endStep (sl := sl) (x := x) (d := d + 2) (p) hI47  hR50 (by omega) (hand_ok (E := E45) (a := 2) (p := p) (m := gv E13 83 (5 * p + p).toNat) (by rw [← gv_fr hG48 (by first | omega | (simp only; omega))]; exact hz36.1) (by rw [← gv_fr hG48 (by first | omega | (simp only; omega))]; exact hz36.2.1) (by rw [← gv_fr hG48 (by first | omega | (simp only; omega))]; exact hz36.2.2.1) (by rw [← gv_fr hG48 (by first | omega | (simp only; omega))]; have h89 := hz36.2.2.2.2.2.2; omega) (by omega) (by omega) (by omega) (by have hl9 := gv_fr hF49 (i := 81) (k := 1) (by simp); omega) (fun q => by omega) (fun _ => by have hz9 := hz46; omega) (fun q => by omega)).1 (hand_ok (E := E45) (a := 2) (p := p) (m := gv E13 83 (5 * p + p).toNat) (by rw [← gv_fr hG48 (by first | omega | (simp only; omega))]; exact hz36.1) (by rw [← gv_fr hG48 (by first | omega | (simp only; omega))]; exact hz36.2.1) (by rw [← gv_fr hG48 (by first | omega | (simp only; omega))]; exact hz36.2.2.1) (by rw [← gv_fr hG48 (by first | omega | (simp only; omega))]; have h89 := hz36.2.2.2.2.2.2; omega) (by omega) (by omega) (by omega) (by have hl9 := gv_fr hF49 (i := 81) (k := 1) (by simp); omega) (fun q => by omega) (fun _ => by have hz9 := hz46; omega) (fun q => by omega)).2 (by rw [← gv_fr hG48 (by first | omega | (simp only; omega))]; exact hz36.2.1) (by rw [← gv_fr hG48 (by first | omega | (simp only; omega)), ← gv_fr hG38 (by first | omega | (simp only; omega))]; omega)) (Or.inl rfl) (fun k9 v9 T9 E54 nx9 kc9 ks9 hq53 hk9 hs9 => ?_)
        obtain ⟨rfl, rfl, rfl, hI56, hG57, hR58, z55, rfl, hz55⟩ := hq53
        obtain rfl : kc = kc9 := by omega
        obtain rfl : ks = ks9 := by omega
        have hF59 := cm_fr.trans hF49 hG57 (by first | (simp; done) | (simp; omega) | (intro i k h; (try simp only at h); (try simp only); omega))
        have hx60 := tx.fr hx51 hG57 (by intro i k h; (try simp only at h); omega)
        have hz61 : E54 81 0 = ai_i 0 := (hG57 81 0 (by simp)).trans hz52
        have ghz61 := gv_eq hz61
        refine Or.inr (Or.inl ⟨rfl, ?_⟩)
        exact w_iret rfl (⟨rfl, rfl, rfl, hI56, hF59, hR58, z55, rfl, trivial⟩) (by omega) (by omega)
      · replace hc43 : ¬ (z36 ≠ (0 : Int)) := hc43
        refine w_aload (i := 0) (npc := 43) rfl rfl rfl ?_
        refine w_virt (ci := 8) (i := 81) (npc := 46) (a := [cr 81]) (rest := []) rfl rfl (hI37.pl (by decide)) (hI37.T (by decide) rfl) rfl rfl rfl rfl (ct_m_refuse (sl := sl) (x := x) (d := d + 6)  hI37) (Or.inl rfl) (fun k9 v9 T9 E63 nx9 kc9 ks9 hq62 hk9 hs9 => ?_)
        obtain ⟨rfl, rfl, rfl, hI65, hG66, z64, rfl, hz64⟩ := hq62
        obtain rfl : kc = kc9 := by omega
        obtain rfl : ks = ks9 := by omega
        have hF67 := cm_fr.trans hF40 hG66 (by first | (simp; done) | (simp; omega) | (intro i k h; (try simp only at h); (try simp only); omega))
        have hR68 := rl.fr hR39 hG66 (by intro i k h; (try simp only at h); omega)
        have hx69 := tx.fr hx41 hG66 (by intro i k h; (try simp only at h); omega)
        have hz70 : E63 81 0 = ai_i 0 := (hG66 81 0 (by simp)).trans hz42
        have ghz70 := gv_eq hz70
        refine Or.inr (Or.inl ⟨rfl, ?_⟩)
        exact w_iret rfl (⟨rfl, rfl, rfl, hI65, hF67, hR68, z64, rfl, trivial⟩) (by omega) (by omega)
  · replace hc11 : ¬ (z9 ≠ (0 : Int)) := hc11
    refine w_aload (i := 0) (npc := 14) rfl rfl rfl ?_
    refine w_const (n := 1) (npc := 15) rfl ?_
    refine w_virt (ci := 8) (i := 81) (npc := 18) (a := [cr 81, ai_i 1]) (rest := []) rfl rfl (hI2.pl (by decide)) (hI2.T (by decide) rfl) rfl rfl rfl rfl (ct_m_fail (sl := sl) (x := x) (d := d + 6) (1) hI2 (by omega)) (Or.inl rfl) (fun k9 v9 T9 E72 nx9 kc9 ks9 hq71 hk9 hs9 => ?_)
    obtain ⟨rfl, rfl, rfl, hI74, hG75, z73, rfl, hz73⟩ := hq71
    obtain rfl : kc = kc9 := by omega
    obtain rfl : ks = ks9 := by omega
    have hF76 := cm_fr.trans hF4 hG75 (by first | (simp; done) | (simp; omega) | (intro i k h; (try simp only at h); (try simp only); omega))
    have hR77 := rl.fr hR5 hG75 (by intro i k h; (try simp only at h); omega)
    refine Or.inr (Or.inl ⟨rfl, ?_⟩)
    exact w_iret rfl (⟨rfl, rfl, rfl, hI74, hF76, hR77, z73, rfl, trivial⟩) (by omega) (by omega)
