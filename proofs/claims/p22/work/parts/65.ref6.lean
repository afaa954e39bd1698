set_option maxRecDepth 16384 in
theorem ct_m_layPacket {sl : Int × Int} {x : ai_E} {d : Nat} {T : cm_T} {E : cm_E} {nx : Nat} (r : Int) (hI : cs_I T E nx) (hR : rl E) (hp0 : 0 ≤ r ∧ r ≤ 1499) : cm_ct (ai_ev sl (d + 3)) x 183 [cr 81, ai_i r] T E nx 0 0 (fun rk rv T' E' nx' => rk = 0 ∧ T = T' ∧ nx = nx' ∧ cs_I T E' nx ∧ cm_fr (fun i k => (i = 81 ∧ (k = 16)) ∨ i = 92) E E' ∧ rl E' ∧ (True)) := by
  refine cm_body (M := ai_m183) rfl rfl (fun kc ks => ?_)
  show cm_wp (ai_find ai_c183 sl) (ai_ev sl (d + 2)) x (kc + 0) (ks + 0) _ 0 [cr 81, ai_i r, ai_un, ai_un, ai_un] [] T E nx kc ks
  have hF : cm_fr (fun i k => (i = 81 ∧ (k = 16)) ∨ i = 92) E E := fun _ _ _ => rfl
  refine w_aload (i := 0) (npc := 1) rfl rfl rfl ?_
  refine w_const (n := 0) (npc := 2) rfl ?_
  refine w_putf (i := 81) (ci := 8) (k := 16) (t := 0) (npc := 5) rfl (hI.pl (by decide)) (hI.T (by decide) rfl) (by decide) cm_fit0 ?_
  have hI2 := hI.puti (i := 81) (k := 16) (z := 0) (lo := 0) (hi := 400) (by decide) rfl (by omega)
  have hF4 := cm_fr.up (i := 81) (k := 16) (v := ai_i 0) hF (by first | (simp; done) | (simp; omega) | (intro i k h; (try simp only at h); (try simp only); omega))
  have hR5 := rl.wr (i := 81) (k := 16) (v := ai_i 0) hR (by simp)
  generalize hE3 : cm_up E 81 16 (ai_i 0) = E1 at hI2 hF4 hR5  ⊢
  have hz6 : E1 81 16 = ai_i 0 := by rw [← hE3, cm_up_eq]
  have ghz6 := gv_eq hz6
  refine w_const (n := 0) (npc := 6) rfl ?_
  refine w_istore (i := 2) (npc := 7) (loc' := [cr 81, ai_i r, ai_i 0, ai_un, ai_un]) rfl rfl ?_
  have loop7 : ∀ (nf : Nat) (i : Int) (Eq7 : cm_E), ((8 - i).toNat) < nf → cs_I T Eq7 nx → cm_fr (fun i k => (i = 81 ∧ (k = 16)) ∨ i = 92) E Eq7 → rl Eq7 → (0 ≤ i ∧ i ≤ 8 ∧ gv Eq7 81 16 = i) → cm_wp (ai_find ai_c183 sl) (ai_ev sl (d + 2)) x (kc + 0) (ks + 0) (fun rk rv T' E' nx' => rk = 0 ∧ T = T' ∧ nx = nx' ∧ cs_I T E' nx ∧ cm_fr (fun i k => (i = 81 ∧ (k = 16)) ∨ i = 92) E E' ∧ rl E' ∧ (True)) 7 [cr 81, ai_i r, ai_i i, ai_un, ai_un] [] T Eq7 nx kc ks := by
    intro nf
    induction nf with
    | zero => intro i Eq7 hm; exact absurd hm (Nat.not_lt_zero _)
    | succ nf7 ih =>
      intro i Eq7 hm7 hI7 hF7 hR7 hv7
      obtain ⟨z7, hz7, hz7a, hz7b⟩ := hI7.int 81 16 (lo := 0) (hi := 400) (by decide) (by decide) rfl
      have ghz7 := gv_eq hz7
      have ih7 := ih; clear ih
      refine w_iload (i := 2) (npc := 8) rfl rfl ?_
      refine w_const (n := 8) (npc := 10) rfl ?_
      refine w_icmp (c := .ge) (npc := 13) (pt := 29) rfl (fun hc8 => ?_) (fun hc8 => ?_)
      · replace hc8 : (8 : Int) ≤ i := hc8
        refine w_aload (i := 0) (npc := 30) rfl rfl rfl ?_
        refine w_aload (i := 0) (npc := 31) rfl rfl rfl ?_
        refine w_iload (i := 1) (npc := 32) rfl rfl ?_
        refine w_const (n := 8) (npc := 34) rfl ?_
        refine w_virt (ci := 8) (i := 81) (npc := 37) (a := [cr 81, ai_i r, ai_i 8]) (rest := [cr 81]) rfl rfl (hI7.pl (by decide)) (hI7.T (by decide) rfl) rfl rfl rfl rfl (ct_m_of (sl := sl) (x := x) (d := d + 1) (r) (8) hI7 (by omega) (by omega) (by omega)) (Or.inl rfl) (fun k9 v9 T9 E10 nx9 kc9 ks9 hq9 hk9 hs9 => ?_)
        obtain ⟨rfl, rfl, rfl, rfl, z11, rfl, hz11⟩ := hq9
        obtain rfl : kc = kc9 := by omega
        obtain rfl : ks = ks9 := by omega
        refine Or.inr (Or.inl ⟨rfl, ?_⟩)
        have hl12 : gv E 82 (166 * r + 8).toNat = gv Eq7 82 (166 * r + 8).toNat := gv_fr hF7 (by simp)
        refine w_const (n := 256) (npc := 40) rfl ?_
        refine w_idiv (npc := 41) rfl (by omega) (by omega) (fun z13 hz13 hz13b hz13c => ?_)
        refine w_virt (ci := 8) (i := 81) (npc := 44) (a := [cr 81, ai_i z13]) (rest := []) rfl rfl (hI7.pl (by decide)) (hI7.T (by decide) rfl) rfl rfl rfl rfl (ct_m_lay (sl := sl) (x := x) (d := d + 1) (z13) hI7 (by omega) (by omega)) (Or.inl rfl) (fun k9 v9 T9 E15 nx9 kc9 ks9 hq14 hk9 hs9 => ?_)
        obtain ⟨rfl, rfl, rfl, hI17, hG18, hz16⟩ := hq14
        obtain rfl : kc = kc9 := by omega
        obtain rfl : ks = ks9 := by omega
        have hF19 := cm_fr.trans hF7 hG18 (by first | (simp; done) | (simp; omega) | (intro i k h; (try simp only at h); (try simp only); omega))
        have hR20 := rl.fr hR7 hG18 (by intro i k h; (try simp only at h); omega)
        refine Or.inl ⟨rfl, ?_⟩
        refine w_aload (i := 0) (npc := 45) rfl rfl rfl ?_
        refine w_aload (i := 0) (npc := 46) rfl rfl rfl ?_
        refine w_iload (i := 1) (npc := 47) rfl rfl ?_
        refine w_const (n := 8) (npc := 49) rfl ?_
        obtain ⟨z21, hz21, hz21a, hz21b⟩ := hI17.int 81 16 (lo := 0) (hi := 400) (by decide) (by decide) rfl
        have ghz21 := gv_eq hz21
        refine w_virt (ci := 8) (i := 81) (npc := 52) (a := [cr 81, ai_i r, ai_i 8]) (rest := [cr 81]) rfl rfl (hI17.pl (by decide)) (hI17.T (by decide) rfl) rfl rfl rfl rfl (ct_m_of (sl := sl) (x := x) (d := d + 1) (r) (8) hI17 (by omega) (by omega) (by omega)) (Or.inl rfl) (fun k9 v9 T9 E23 nx9 kc9 ks9 hq22 hk9 hs9 => ?_)
        obtain ⟨rfl, rfl, rfl, rfl, z24, rfl, hz24⟩ := hq22
        obtain rfl : kc = kc9 := by omega
        obtain rfl : ks = ks9 := by omega
        refine Or.inr (Or.inl ⟨rfl, ?_⟩)
        have hl25 : gv E 82 (166 * r + 8).toNat = gv E15 82 (166 * r + 8).toNat := gv_fr hF19 (by simp)
        refine w_const (n := 256) (npc := 55) rfl ?_
        refine w_irem (npc := 56) rfl (by omega) (by omega) (fun z26 hz26 hz26b => ?_)
        refine w_virt (ci := 8) (i := 81) (npc := 59) (a := [cr 81, ai_i z26]) (rest := []) rfl rfl (hI17.pl (by decide)) (hI17.T (by decide) rfl) rfl rfl rfl rfl (ct_m_lay (sl := sl) (x := x) (d := d + 1) (z26) hI17 (by omega) (by omega)) (Or.inl rfl) (fun k9 v9 T9 E28 nx9 kc9 ks9 hq27 hk9 hs9 => ?_)
        obtain ⟨rfl, rfl, rfl, hI30, hG31, hz29⟩ := hq27
        obtain rfl : kc = kc9 := by omega
        obtain rfl : ks = ks9 := by omega
        have hF32 := cm_fr.trans hF19 hG31 (by first | (simp; done) | (simp; omega) | (intro i k h; (try simp only at h); (try simp only); omega))
        have hR33 := rl.fr hR20 hG31 (by intro i k h; (try simp only at h); omega)
        refine Or.inl ⟨rfl, ?_⟩
        refine w_aload (i := 0) (npc := 60) rfl rfl rfl ?_
        refine w_iload (i := 1) (npc := 61) rfl rfl ?_
        refine w_const (n := 0) (npc := 62) rfl ?_
        obtain ⟨z34, hz34, hz34a, hz34b⟩ := hI30.int 81 16 (lo := 0) (hi := 400) (by decide) (by decide) rfl
        have ghz34 := gv_eq hz34
        refine w_virt (ci := 8) (i := 81) (npc := 65) (a := [cr 81, ai_i r, ai_i 0]) (rest := []) rfl rfl (hI30.pl (by decide)) (hI30.T (by decide) rfl) rfl rfl rfl rfl (ct_m_of (sl := sl) (x := x) (d := d + 1) (r) (0) hI30 (by omega) (by omega) (by omega)) (Or.inl rfl) (fun k9 v9 T9 E36 nx9 kc9 ks9 hq35 hk9 hs9 => ?_)
        obtain ⟨rfl, rfl, rfl, rfl, z37, rfl, hz37⟩ := hq35
        obtain rfl : kc = kc9 := by omega
        obtain rfl : ks = ks9 := by omega
        refine Or.inr (Or.inl ⟨rfl, ?_⟩)
        have hl38 : gv E 82 (166 * r + 0).toNat = gv E28 82 (166 * r + 0).toNat := gv_fr hF32 (by simp)
        refine w_istore (i := 2) (npc := 66) (loc' := [cr 81, ai_i r, ai_i z37, ai_un, ai_un]) rfl rfl ?_
        obtain ⟨hw0, hw1, hw2, hw3, hw4, hw5⟩ := hR.1 r (by omega) (by omega)
        refine w_iload (i := 2) (npc := 67) rfl rfl ?_
        refine w_if (c := .ne) (npc := 70) (pt := 96) rfl (fun hc39 => ?_) (fun hc39 => ?_)
        · replace hc39 : z37 ≠ (0 : Int) := hc39
          refine w_iload (i := 2) (npc := 97) rfl rfl ?_
          refine w_const (n := 1) (npc := 98) rfl ?_
          refine w_icmp (c := .ne) (npc := 101) (pt := 115) rfl (fun hc40 => ?_) (fun hc40 => ?_)
          · replace hc40 : z37 ≠ (1 : Int) := hc40
            refine w_aload (i := 0) (npc := 116) rfl rfl rfl ?_
            refine w_aload (i := 0) (npc := 117) rfl rfl rfl ?_
            refine w_iload (i := 1) (npc := 118) rfl rfl ?_
            refine w_const (n := 9) (npc := 120) rfl ?_
            refine w_virt (ci := 8) (i := 81) (npc := 123) (a := [cr 81, ai_i r, ai_i 9]) (rest := [cr 81]) rfl rfl (hI30.pl (by decide)) (hI30.T (by decide) rfl) rfl rfl rfl rfl (ct_m_of (sl := sl) (x := x) (d := d + 1) (r) (9) hI30 (by omega) (by omega) (by omega)) (Or.inl rfl) (fun k9 v9 T9 E42 nx9 kc9 ks9 hq41 hk9 hs9 => ?_)
            obtain ⟨rfl, rfl, rfl, rfl, z43, rfl, hz43⟩ := hq41
            obtain rfl : kc = kc9 := by omega
            obtain rfl : ks = ks9 := by omega
            refine Or.inr (Or.inl ⟨rfl, ?_⟩)
            have hl44 : gv E 82 (166 * r + 9).toNat = gv E28 82 (166 * r + 9).toNat := gv_fr hF32 (by simp)
            refine w_virt (ci := 8) (i := 81) (npc := 126) (a := [cr 81, ai_i z43]) (rest := []) rfl rfl (hI30.pl (by decide)) (hI30.T (by decide) rfl) rfl rfl rfl rfl (ct_m_lay (sl := sl) (x := x) (d := d + 1) (z43) hI30 (by omega) (by omega)) (Or.inl rfl) (fun k9 v9 T9 E46 nx9 kc9 ks9 hq45 hk9 hs9 => ?_)
            obtain ⟨rfl, rfl, rfl, hI48, hG49, hz47⟩ := hq45
            obtain rfl : kc = kc9 := by omega
            obtain rfl : ks = ks9 := by omega
            have hF50 := cm_fr.trans hF32 hG49 (by first | (simp; done) | (simp; omega) | (intro i k h; (try simp only at h); (try simp only); omega))
            have hR51 := rl.fr hR33 hG49 (by intro i k h; (try simp only at h); omega)
            refine Or.inl ⟨rfl, ?_⟩
            refine w_const (n := 0) (npc := 127) rfl ?_
            refine w_istore (i := 3) (npc := 128) (loc' := [cr 81, ai_i r, ai_i z37, ai_i 0, ai_un]) rfl rfl ?_
            have loop128 : ∀ (nf : Nat) (i : Int) (Eq128 : cm_E), ((6 - i).toNat) < nf → cs_I T Eq128 nx → cm_fr (fun i k => (i = 81 ∧ (k = 16)) ∨ i = 92) E Eq128 → rl Eq128 → (0 ≤ i ∧ i ≤ 6 ∧ gv Eq128 81 16 ≤ 11 + 51 * i) → cm_wp (ai_find ai_c183 sl) (ai_ev sl (d + 2)) x (kc + 0) (ks + 0) (fun rk rv T' E' nx' => rk = 0 ∧ T = T' ∧ nx = nx' ∧ cs_I T E' nx ∧ cm_fr (fun i k => (i = 81 ∧ (k = 16)) ∨ i = 92) E E' ∧ rl E' ∧ (True)) 128 [cr 81, ai_i r, ai_i z37, ai_i i, ai_un] [] T Eq128 nx kc ks := by
              intro nf
              induction nf with
              | zero => intro i Eq128 hm; exact absurd hm (Nat.not_lt_zero _)
              | succ nf128 ih =>
                intro i Eq128 hm128 hI128 hF128 hR128 hv128
                obtain ⟨z52, hz52, hz52a, hz52b⟩ := hI128.int 81 16 (lo := 0) (hi := 400) (by decide) (by decide) rfl
                have ghz52 := gv_eq hz52
                have ih128 := ih; clear ih
                refine w_iload (i := 3) (npc := 129) rfl rfl ?_
                refine w_aload (i := 0) (npc := 130) rfl rfl rfl ?_
                refine w_iload (i := 1) (npc := 131) rfl rfl ?_
                refine w_const (n := 9) (npc := 133) rfl ?_
                refine w_virt (ci := 8) (i := 81) (npc := 136) (a := [cr 81, ai_i r, ai_i 9]) (rest := [ai_i i]) rfl rfl (hI128.pl (by decide)) (hI128.T (by decide) rfl) rfl rfl rfl rfl (ct_m_of (sl := sl) (x := x) (d := d + 1) (r) (9) hI128 (by omega) (by omega) (by omega)) (Or.inl rfl) (fun k9 v9 T9 E54 nx9 kc9 ks9 hq53 hk9 hs9 => ?_)
                obtain ⟨rfl, rfl, rfl, rfl, z55, rfl, hz55⟩ := hq53
                obtain rfl : kc = kc9 := by omega
                obtain rfl : ks = ks9 := by omega
                refine Or.inr (Or.inl ⟨rfl, ?_⟩)
                have hl56 : gv E 82 (166 * r + 9).toNat = gv Eq128 82 (166 * r + 9).toNat := gv_fr hF128 (by simp)
                refine w_icmp (c := .ge) (npc := 139) (pt := 185) rfl (fun hc57 => ?_) (fun hc57 => ?_)
                · replace hc57 : z55 ≤ i := hc57
                  refine w_const (n := 0) (npc := 186) rfl ?_
                  refine w_istore (i := 3) (npc := 187) (loc' := [cr 81, ai_i r, ai_i z37, ai_i 0, ai_un]) rfl rfl ?_
                  refine w_const (n := 0) (npc := 188) rfl ?_
                  refine w_istore (i := 4) (npc := 190) (loc' := [cr 81, ai_i r, ai_i z37, ai_i 0, ai_i 0]) rfl rfl ?_
                  have loop190 : ∀ (nf : Nat) (s : Int) (i : Int), ((400 - i).toNat) < nf → (0 ≤ i ∧ i ≤ 400 ∧ 0 ≤ s ∧ s ≤ 65540 * i) → cm_wp (ai_find ai_c183 sl) (ai_ev sl (d + 2)) x (kc + 0) (ks + 0) (fun rk rv T' E' nx' => rk = 0 ∧ T = T' ∧ nx = nx' ∧ cs_I T E' nx ∧ cm_fr (fun i k => (i = 81 ∧ (k = 16)) ∨ i = 92) E E' ∧ rl E' ∧ (True)) 190 [cr 81, ai_i r, ai_i z37, ai_i s, ai_i i] [] T Eq128 nx kc ks := by
                    intro nf
                    induction nf with
                    | zero => intro s i hm; exact absurd hm (Nat.not_lt_zero _)
                    | succ nf190 ih =>
                      intro s i hm190 hv190
                      have ih190 := ih; clear ih
                      refine w_iload (i := 4) (npc := 192) rfl rfl ?_
                      refine w_aload (i := 0) (npc := 193) rfl rfl rfl ?_
                      refine w_getf (i := 81) (ci := 8) (k := 16) (npc := 196) rfl (hI128.pl (by decide)) (hI128.T (by decide) rfl) (by decide) hz52 ?_
                      refine w_icmp (c := .ge) (npc := 199) (pt := 215) rfl (fun hc58 => ?_) (fun hc58 => ?_)
                      · replace hc58 : z52 ≤ i := hc58
                        refine w_aload (i := 0) (npc := 216) rfl rfl rfl ?_
                        refine w_iload (i := 3) (npc := 217) rfl rfl ?_
                        refine w_const (n := 256) (npc := 220) rfl ?_
                        refine w_irem (npc := 221) rfl (by omega) (by omega) (fun z59 hz59 hz59b => ?_)
                        refine w_virt (ci := 8) (i := 81) (npc := 224) (a := [cr 81, ai_i z59]) (rest := []) rfl rfl (hI128.pl (by decide)) (hI128.T (by decide) rfl) rfl rfl rfl rfl (ct_m_lay (sl := sl) (x := x) (d := d + 1) (z59) hI128 (by omega) (by omega)) (Or.inl rfl) (fun k9 v9 T9 E61 nx9 kc9 ks9 hq60 hk9 hs9 => ?_)
                        obtain ⟨rfl, rfl, rfl, hI63, hG64, hz62⟩ := hq60
                        obtain rfl : kc = kc9 := by omega
                        obtain rfl : ks = ks9 := by omega
                        have hF65 := cm_fr.trans hF128 hG64 (by first | (simp; done) | (simp; omega) | (intro i k h; (try simp only at h); (try simp only); omega))
                        have hR66 := rl.fr hR128 hG64 (by intro i k h; (try simp only at h); omega)
                        refine Or.inl ⟨rfl, ?_⟩
                        exact w_vret rfl (⟨rfl, rfl, rfl, hI63, hF65, hR66, trivial⟩) (by omega) (by omega)
                      · replace hc58 : ¬ (z52 ≤ i) := hc58
                        refine w_iload (i := 3) (npc := 200) rfl rfl ?_
                        refine w_aload (i := 0) (npc := 201) rfl rfl rfl ?_
                        refine w_getf (i := 81) (ci := 8) (k := 14) (npc := 204) rfl (hI128.pl (by decide)) (hI128.T (by decide) rfl) (by decide) (hI128.ref 81 14 (p := 92) (by decide) (by decide) rfl) ?_
                        refine w_iload (i := 4) (npc := 206) rfl rfl ?_
                        obtain ⟨z67, hz67, hz67a, hz67b⟩ := hI128.int 92 (i : Int).toNat (lo := 0) (hi := 65540) (by decide) (show (i : Int).toNat < 400 by omega) rfl
                        have ghz67 := gv_eq hz67
                        refine w_ald (i := 92) (t := 1) (n := 400) (npc := 207) rfl (hI128.pl (by decide)) (hI128.T (by decide) rfl) (by decide) rfl (by omega) hz67 ?_
                        refine w_iadd (npc := 208) rfl (by omega) ?_
                        refine w_istore (i := 3) (npc := 209) (loc' := [cr 81, ai_i r, ai_i z37, ai_i (s + z67), ai_i i]) rfl rfl ?_
                        refine w_iinc (i := 4) (n := 1) (npc := 212) (loc' := [cr 81, ai_i r, ai_i z37, ai_i (s + z67), ai_i (i + 1)]) rfl rfl (by omega) rfl ?_
                        refine w_goto (pt := 190) rfl ?_
                        exact ih190 (s + z67) (i + 1) (by omega) (by omega)
                  exact loop190 _ (0) (0) (Nat.lt_succ_self _) (by omega)
                · replace hc57 : ¬ (z55 ≤ i) := hc57
                  refine w_iload (i := 2) (npc := 140) rfl rfl ?_
                  refine w_const (n := 3) (npc := 141) rfl ?_
                  refine w_icmp (c := .ne) (npc := 144) (pt := 185) rfl (fun hc70 => ?_) (fun hc70 => ?_)
                  · replace hc70 : z37 ≠ (3 : Int) := hc70
                    refine w_const (n := 0) (npc := 186) rfl ?_
                    refine w_istore (i := 3) (npc := 187) (loc' := [cr 81, ai_i r, ai_i z37, ai_i 0, ai_un]) rfl rfl ?_
                    refine w_const (n := 0) (npc := 188) rfl ?_
                    refine w_istore (i := 4) (npc := 190) (loc' := [cr 81, ai_i r, ai_i z37, ai_i 0, ai_i 0]) rfl rfl ?_
                    have loop190 : ∀ (nf : Nat) (s : Int) (i : Int), ((400 - i).toNat) < nf → (0 ≤ i ∧ i ≤ 400 ∧ 0 ≤ s ∧ s ≤ 65540 * i) → cm_wp (ai_find ai_c183 sl) (ai_ev sl (d + 2)) x (kc + 0) (ks + 0) (fun rk rv T' E' nx' => rk = 0 ∧ T = T' ∧ nx = nx' ∧ cs_I T E' nx ∧ cm_fr (fun i k => (i = 81 ∧ (k = 16)) ∨ i = 92) E E' ∧ rl E' ∧ (True)) 190 [cr 81, ai_i r, ai_i z37, ai_i s, ai_i i] [] T Eq128 nx kc ks := by
                      intro nf
                      induction nf with
                      | zero => intro s i hm; exact absurd hm (Nat.not_lt_zero _)
                      | succ nf190 ih =>
                        intro s i hm190 hv190
                        have ih190 := ih; clear ih
                        refine w_iload (i := 4) (npc := 192) rfl rfl ?_
                        refine w_aload (i := 0) (npc := 193) rfl rfl rfl ?_
                        refine w_getf (i := 81) (ci := 8) (k := 16) (npc := 196) rfl (hI128.pl (by decide)) (hI128.T (by decide) rfl) (by decide) hz52 ?_
                        refine w_icmp (c := .ge) (npc := 199) (pt := 215) rfl (fun hc71 => ?_) (fun hc71 => ?_)
                        · replace hc71 : z52 ≤ i := hc71
                          refine w_aload (i := 0) (npc := 216) rfl rfl rfl ?_
                          refine w_iload (i := 3) (npc := 217) rfl rfl ?_
                          refine w_const (n := 256) (npc := 220) rfl ?_
                          refine w_irem (npc := 221) rfl (by omega) (by omega) (fun z72 hz72 hz72b => ?_)
                          refine w_virt (ci := 8) (i := 81) (npc := 224) (a := [cr 81, ai_i z72]) (rest := []) rfl rfl (hI128.pl (by decide)) (hI128.T (by decide) rfl) rfl rfl rfl rfl (ct_m_lay (sl := sl) (x := x) (d := d + 1) (z72) hI128 (by omega) (by omega)) (Or.inl rfl) (fun k9 v9 T9 E74 nx9 kc9 ks9 hq73 hk9 hs9 => ?_)
                          obtain ⟨rfl, rfl, rfl, hI76, hG77, hz75⟩ := hq73
                          obtain rfl : kc = kc9 := by omega
                          obtain rfl : ks = ks9 := by omega
                          have hF78 := cm_fr.trans hF128 hG77 (by first | (simp; done) | (simp; omega) | (intro i k h; (try simp only at h); (try simp only); omega))
                          have hR79 := rl.fr hR128 hG77 (by intro i k h; (try simp only at h); omega)
                          refine Or.inl ⟨rfl, ?_⟩
                          exact w_vret rfl (⟨rfl, rfl, rfl, hI76, hF78, hR79, trivial⟩) (by omega) (by omega)
                        · replace hc71 : ¬ (z52 ≤ i) := hc71
                          refine w_iload (i := 3) (npc := 200) rfl rfl ?_
                          refine w_aload (i := 0) (npc := 201) rfl rfl rfl ?_
                          refine w_getf (i := 81) (ci := 8) (k := 14) (npc := 204) rfl (hI128.pl (by decide)) (hI128.T (by decide) rfl) (by decide) (hI128.ref 81 14 (p := 92) (by decide) (by decide) rfl) ?_
                          refine w_iload (i := 4) (npc := 206) rfl rfl ?_
                          obtain ⟨z80, hz80, hz80a, hz80b⟩ := hI128.int 92 (i : Int).toNat (lo := 0) (hi := 65540) (by decide) (show (i : Int).toNat < 400 by omega) rfl
                          have ghz80 := gv_eq hz80
                          refine w_ald (i := 92) (t := 1) (n := 400) (npc := 207) rfl (hI128.pl (by decide)) (hI128.T (by decide) rfl) (by decide) rfl (by omega) hz80 ?_
                          refine w_iadd (npc := 208) rfl (by omega) ?_
                          refine w_istore (i := 3) (npc := 209) (loc' := [cr 81, ai_i r, ai_i z37, ai_i (s + z80), ai_i i]) rfl rfl ?_
                          refine w_iinc (i := 4) (n := 1) (npc := 212) (loc' := [cr 81, ai_i r, ai_i z37, ai_i (s + z80), ai_i (i + 1)]) rfl rfl (by omega) rfl ?_
                          refine w_goto (pt := 190) rfl ?_
                          exact ih190 (s + z80) (i + 1) (by omega) (by omega)
                    exact loop190 _ (0) (0) (Nat.lt_succ_self _) (by omega)
                  · replace hc70 : ¬ (z37 ≠ (3 : Int)) := hc70
                    refine w_aload (i := 0) (npc := 145) rfl rfl rfl ?_
                    refine w_aload (i := 0) (npc := 146) rfl rfl rfl ?_
                    refine w_iload (i := 1) (npc := 147) rfl rfl ?_
                    refine w_const (n := 10) (npc := 149) rfl ?_
                    refine w_const (n := 26) (npc := 151) rfl ?_
                    refine w_iload (i := 3) (npc := 152) rfl rfl ?_
                    refine w_imul (npc := 153) rfl (by omega) ?_
                    refine w_iadd (npc := 154) rfl (by omega) ?_
                    refine w_virt (ci := 8) (i := 81) (npc := 157) (a := [cr 81, ai_i r, ai_i (10 + (26 * i))]) (rest := [cr 81]) rfl rfl (hI128.pl (by decide)) (hI128.T (by decide) rfl) rfl rfl rfl rfl (ct_m_of (sl := sl) (x := x) (d := d + 1) (r) (10 + (26 * i)) hI128 (by omega) (by omega) (by omega)) (Or.inl rfl) (fun k9 v9 T9 E86 nx9 kc9 ks9 hq85 hk9 hs9 => ?_)
                    obtain ⟨rfl, rfl, rfl, rfl, z87, rfl, hz87⟩ := hq85
                    obtain rfl : kc = kc9 := by omega
                    obtain rfl : ks = ks9 := by omega
                    refine Or.inr (Or.inl ⟨rfl, ?_⟩)
                    have hl88 : gv E 82 (166 * r + (10 + (26 * i))).toNat = gv Eq128 82 (166 * r + (10 + (26 * i))).toNat := gv_fr hF128 (by simp)
                    refine w_virt (ci := 8) (i := 81) (npc := 160) (a := [cr 81, ai_i z87]) (rest := []) rfl rfl (hI128.pl (by decide)) (hI128.T (by decide) rfl) rfl rfl rfl rfl (ct_m_layMarkBytes (sl := sl) (x := x) (d := d + 0) (z87) hI128 (by omega) (by omega)) (Or.inl rfl) (fun k9 v9 T9 E90 nx9 kc9 ks9 hq89 hk9 hs9 => ?_)
                    obtain ⟨rfl, rfl, rfl, hI92, hG93, hz91⟩ := hq89
                    obtain rfl : kc = kc9 := by omega
                    obtain rfl : ks = ks9 := by omega
                    have hF94 := cm_fr.trans hF128 hG93 (by first | (simp; done) | (simp; omega) | (intro i k h; (try simp only at h); (try simp only); omega))
                    have hR95 := rl.fr hR128 hG93 (by intro i k h; (try simp only at h); omega)
                    refine Or.inl ⟨rfl, ?_⟩
                    refine w_aload (i := 0) (npc := 161) rfl rfl rfl ?_
                    refine w_const (n := 166) (npc := 164) rfl ?_
                    refine w_iload (i := 1) (npc := 165) rfl rfl ?_
                    refine w_imul (npc := 166) rfl (by omega) ?_
                    refine w_const (n := 10) (npc := 168) rfl ?_
                    refine w_iadd (npc := 169) rfl (by omega) ?_
                    refine w_const (n := 26) (npc := 171) rfl ?_
                    refine w_iload (i := 3) (npc := 172) rfl rfl ?_
                    refine w_imul (npc := 173) rfl (by omega) ?_
                    refine w_iadd (npc := 174) rfl (by omega) ?_
                    refine w_const (n := 1) (npc := 175) rfl ?_
                    refine w_iadd (npc := 176) rfl (by omega) ?_
                    have hk8 := (hw5 (by omega)).2 i (by omega) (by omega)
                    have hl101 : gv E 82 (166 * r + 10 + 26 * i + 1).toNat = gv E90 82 (166 * r + 10 + 26 * i + 1).toNat := gv_fr hF94 (by simp)
                    obtain ⟨z102, hz102, hz102a, hz102b⟩ := hI92.int 81 16 (lo := 0) (hi := 400) (by decide) (by decide) rfl
                    have ghz102 := gv_eq hz102
                    refine w_virt (ci := 8) (i := 81) (npc := 179) (a := [cr 81, ai_i (166 * r + 10 + (26 * i) + 1)]) (rest := []) rfl rfl (hI92.pl (by decide)) (hI92.T (by decide) rfl) rfl rfl rfl rfl (ct_m_layKey (sl := sl) (x := x) (d := d + 0) (166 * r + 10 + (26 * i) + 1) hI92 (by omega) (by omega) (by omega)) (Or.inl rfl) (fun k9 v9 T9 E104 nx9 kc9 ks9 hq103 hk9 hs9 => ?_)
                    obtain ⟨rfl, rfl, rfl, hI106, hG107, hz105⟩ := hq103
                    obtain rfl : kc = kc9 := by omega
                    obtain rfl : ks = ks9 := by omega
                    have hF108 := cm_fr.trans hF94 hG107 (by first | (simp; done) | (simp; omega) | (intro i k h; (try simp only at h); (try simp only); omega))
                    have hR109 := rl.fr hR95 hG107 (by intro i k h; (try simp only at h); omega)
                    refine Or.inl ⟨rfl, ?_⟩
                    refine w_iinc (i := 3) (n := 1) (npc := 182) (loc' := [cr 81, ai_i r, ai_i z37, ai_i (i + 1), ai_un]) rfl rfl (by omega) rfl ?_
                    refine w_goto (pt := 128) rfl ?_
                    exact ih128 (i + 1) E104 (by omega) hI106 hF108 hR109 (by omega)
            exact loop128 _ (0) E46 (Nat.lt_succ_self _) hI48 hF50 hR51 (by omega)
          · replace hc40 : ¬ (z37 ≠ (1 : Int)) := hc40
            refine w_aload (i := 0) (npc := 102) rfl rfl rfl ?_
            refine w_aload (i := 0) (npc := 103) rfl rfl rfl ?_
            refine w_iload (i := 1) (npc := 104) rfl rfl ?_
            refine w_const (n := 9) (npc := 106) rfl ?_
            refine w_virt (ci := 8) (i := 81) (npc := 109) (a := [cr 81, ai_i r, ai_i 9]) (rest := [cr 81]) rfl rfl (hI30.pl (by decide)) (hI30.T (by decide) rfl) rfl rfl rfl rfl (ct_m_of (sl := sl) (x := x) (d := d + 1) (r) (9) hI30 (by omega) (by omega) (by omega)) (Or.inl rfl) (fun k9 v9 T9 E112 nx9 kc9 ks9 hq111 hk9 hs9 => ?_)
            obtain ⟨rfl, rfl, rfl, rfl, z113, rfl, hz113⟩ := hq111
            obtain rfl : kc = kc9 := by omega
            obtain rfl : ks = ks9 := by omega
            refine Or.inr (Or.inl ⟨rfl, ?_⟩)
            have hl114 : gv E 82 (166 * r + 9).toNat = gv E28 82 (166 * r + 9).toNat := gv_fr hF32 (by simp)
            refine w_virt (ci := 8) (i := 81) (npc := 112) (a := [cr 81, ai_i z113]) (rest := []) rfl rfl (hI30.pl (by decide)) (hI30.T (by decide) rfl) rfl rfl rfl rfl (ct_m_layMarkBytes (sl := sl) (x := x) (d := d + 0) (z113) hI30 (by omega) (by omega)) (Or.inl rfl) (fun k9 v9 T9 E116 nx9 kc9 ks9 hq115 hk9 hs9 => ?_)
            obtain ⟨rfl, rfl, rfl, hI118, hG119, hz117⟩ := hq115
            obtain rfl : kc = kc9 := by omega
            obtain rfl : ks = ks9 := by omega
            have hF120 := cm_fr.trans hF32 hG119 (by first | (simp; done) | (simp; omega) | (intro i k h; (try simp only at h); (try simp only); omega))
            have hR121 := rl.fr hR33 hG119 (by intro i k h; (try simp only at h); omega)
            refine Or.inl ⟨rfl, ?_⟩
            refine w_goto (pt := 185) rfl ?_
            refine w_const (n := 0) (npc := 186) rfl ?_
            refine w_istore (i := 3) (npc := 187) (loc' := [cr 81, ai_i r, ai_i z37, ai_i 0, ai_un]) rfl rfl ?_
            refine w_const (n := 0) (npc := 188) rfl ?_
            refine w_istore (i := 4) (npc := 190) (loc' := [cr 81, ai_i r, ai_i z37, ai_i 0, ai_i 0]) rfl rfl ?_
            have loop190 : ∀ (nf : Nat) (s : Int) (i : Int), ((400 - i).toNat) < nf → (0 ≤ i ∧ i ≤ 400 ∧ 0 ≤ s ∧ s ≤ 65540 * i) → cm_wp (ai_find ai_c183 sl) (ai_ev sl (d + 2)) x (kc + 0) (ks + 0) (fun rk rv T' E' nx' => rk = 0 ∧ T = T' ∧ nx = nx' ∧ cs_I T E' nx ∧ cm_fr (fun i k => (i = 81 ∧ (k = 16)) ∨ i = 92) E E' ∧ rl E' ∧ (True)) 190 [cr 81, ai_i r, ai_i z37, ai_i s, ai_i i] [] T E116 nx kc ks := by
              intro nf
              induction nf with
              | zero => intro s i hm; exact absurd hm (Nat.not_lt_zero _)
              | succ nf190 ih =>
                intro s i hm190 hv190
                have ih190 := ih; clear ih
                obtain ⟨z122, hz122, hz122a, hz122b⟩ := hI118.int 81 16 (lo := 0) (hi := 400) (by decide) (by decide) rfl
                have ghz122 := gv_eq hz122
                refine w_iload (i := 4) (npc := 192) rfl rfl ?_
                refine w_aload (i := 0) (npc := 193) rfl rfl rfl ?_
                refine w_getf (i := 81) (ci := 8) (k := 16) (npc := 196) rfl (hI118.pl (by decide)) (hI118.T (by decide) rfl) (by decide) hz122 ?_
                refine w_icmp (c := .ge) (npc := 199) (pt := 215) rfl (fun hc123 => ?_) (fun hc123 => ?_)
                · replace hc123 : z122 ≤ i := hc123
                  refine w_aload (i := 0) (npc := 216) rfl rfl rfl ?_
                  refine w_iload (i := 3) (npc := 217) rfl rfl ?_
                  refine w_const (n := 256) (npc := 220) rfl ?_
                  refine w_irem (npc := 221) rfl (by omega) (by omega) (fun z124 hz124 hz124b => ?_)
                  refine w_virt (ci := 8) (i := 81) (npc := 224) (a := [cr 81, ai_i z124]) (rest := []) rfl rfl (hI118.pl (by decide)) (hI118.T (by decide) rfl) rfl rfl rfl rfl (ct_m_lay (sl := sl) (x := x) (d := d + 1) (z124) hI118 (by omega) (by omega)) (Or.inl rfl) (fun k9 v9 T9 E126 nx9 kc9 ks9 hq125 hk9 hs9 => ?_)
                  obtain ⟨rfl, rfl, rfl, hI128, hG129, hz127⟩ := hq125
                  obtain rfl : kc = kc9 := by omega
                  obtain rfl : ks = ks9 := by omega
                  have hF130 := cm_fr.trans hF120 hG129 (by first | (simp; done) | (simp; omega) | (intro i k h; (try simp only at h); (try simp only); omega))
                  have hR131 := rl.fr hR121 hG129 (by intro i k h; (try simp only at h); omega)
                  refine Or.inl ⟨rfl, ?_⟩
                  exact w_vret rfl (⟨rfl, rfl, rfl, hI128, hF130, hR131, trivial⟩) (by omega) (by omega)
                · replace hc123 : ¬ (z122 ≤ i) := hc123
                  refine w_iload (i := 3) (npc := 200) rfl rfl ?_
                  refine w_aload (i := 0) (npc := 201) rfl rfl rfl ?_
                  refine w_getf (i := 81) (ci := 8) (k := 14) (npc := 204) rfl (hI118.pl (by decide)) (hI118.T (by decide) rfl) (by decide) (hI118.ref 81 14 (p := 92) (by decide) (by decide) rfl) ?_
                  refine w_iload (i := 4) (npc := 206) rfl rfl ?_
                  obtain ⟨z132, hz132, hz132a, hz132b⟩ := hI118.int 92 (i : Int).toNat (lo := 0) (hi := 65540) (by decide) (show (i : Int).toNat < 400 by omega) rfl
                  have ghz132 := gv_eq hz132
                  refine w_ald (i := 92) (t := 1) (n := 400) (npc := 207) rfl (hI118.pl (by decide)) (hI118.T (by decide) rfl) (by decide) rfl (by omega) hz132 ?_
                  refine w_iadd (npc := 208) rfl (by omega) ?_
                  refine w_istore (i := 3) (npc := 209) (loc' := [cr 81, ai_i r, ai_i z37, ai_i (s + z132), ai_i i]) rfl rfl ?_
                  refine w_iinc (i := 4) (n := 1) (npc := 212) (loc' := [cr 81, ai_i r, ai_i z37, ai_i (s + z132), ai_i (i + 1)]) rfl rfl (by omega) rfl ?_
                  refine w_goto (pt := 190) rfl ?_
                  exact ih190 (s + z132) (i + 1) (by omega) (by omega)
            exact loop190 _ (0) (0) (Nat.lt_succ_self _) (by omega)
        · replace hc39 : ¬ (z37 ≠ (0 : Int)) := hc39
          refine w_aload (i := 0) (npc := 71) rfl rfl rfl ?_
          refine w_aload (i := 0) (npc := 72) rfl rfl rfl ?_
          refine w_iload (i := 1) (npc := 73) rfl rfl ?_
          refine w_const (n := 9) (npc := 75) rfl ?_
          refine w_virt (ci := 8) (i := 81) (npc := 78) (a := [cr 81, ai_i r, ai_i 9]) (rest := [cr 81]) rfl rfl (hI30.pl (by decide)) (hI30.T (by decide) rfl) rfl rfl rfl rfl (ct_m_of (sl := sl) (x := x) (d := d + 1) (r) (9) hI30 (by omega) (by omega) (by omega)) (Or.inl rfl) (fun k9 v9 T9 E136 nx9 kc9 ks9 hq135 hk9 hs9 => ?_)
          obtain ⟨rfl, rfl, rfl, rfl, z137, rfl, hz137⟩ := hq135
          obtain rfl : kc = kc9 := by omega
          obtain rfl : ks = ks9 := by omega
          refine Or.inr (Or.inl ⟨rfl, ?_⟩)
          have hl138 : gv E 82 (166 * r + 9).toNat = gv E28 82 (166 * r + 9).toNat := gv_fr hF32 (by simp)
          refine w_virt (ci := 8) (i := 81) (npc := 81) (a := [cr 81, ai_i z137]) (rest := []) rfl rfl (hI30.pl (by decide)) (hI30.T (by decide) rfl) rfl rfl rfl rfl (ct_m_lay (sl := sl) (x := x) (d := d + 1) (z137) hI30 (by omega) (by omega)) (Or.inl rfl) (fun k9 v9 T9 E140 nx9 kc9 ks9 hq139 hk9 hs9 => ?_)
          obtain ⟨rfl, rfl, rfl, hI142, hG143, hz141⟩ := hq139
          obtain rfl : kc = kc9 := by omega
          obtain rfl : ks = ks9 := by omega
          have hF144 := cm_fr.trans hF32 hG143 (by first | (simp; done) | (simp; omega) | (intro i k h; (try simp only at h); (try simp only); omega))
          have hR145 := rl.fr hR33 hG143 (by intro i k h; (try simp only at h); omega)
          refine Or.inl ⟨rfl, ?_⟩
          refine w_aload (i := 0) (npc := 82) rfl rfl rfl ?_
          refine w_const (n := 166) (npc := 85) rfl ?_
          refine w_iload (i := 1) (npc := 86) rfl rfl ?_
          refine w_imul (npc := 87) rfl (by omega) ?_
          refine w_const (n := 10) (npc := 89) rfl ?_
          refine w_iadd (npc := 90) rfl (by omega) ?_
          have hl148 : gv E 82 (166 * r + 10).toNat = gv E140 82 (166 * r + 10).toNat := gv_fr hF144 (by simp)
          obtain ⟨z149, hz149, hz149a, hz149b⟩ := hI142.int 81 16 (lo := 0) (hi := 400) (by decide) (by decide) rfl
          have ghz149 := gv_eq hz149
          refine w_virt (ci := 8) (i := 81) (npc := 93) (a := [cr 81, ai_i (166 * r + 10)]) (rest := []) rfl rfl (hI142.pl (by decide)) (hI142.T (by decide) rfl) rfl rfl rfl rfl (ct_m_layKey (sl := sl) (x := x) (d := d + 0) (166 * r + 10) hI142 (by omega) (by omega) (by omega)) (Or.inl rfl) (fun k9 v9 T9 E151 nx9 kc9 ks9 hq150 hk9 hs9 => ?_)
          obtain ⟨rfl, rfl, rfl, hI153, hG154, hz152⟩ := hq150
          obtain rfl : kc = kc9 := by omega
          obtain rfl : ks = ks9 := by omega
          have hF155 := cm_fr.trans hF144 hG154 (by first | (simp; done) | (simp; omega) | (intro i k h; (try simp only at h); (try simp only); omega))
          have hR156 := rl.fr hR145 hG154 (by intro i k h; (try simp only at h); omega)
          refine Or.inl ⟨rfl, ?_⟩
          refine w_goto (pt := 185) rfl ?_
          refine w_const (n := 0) (npc := 186) rfl ?_
          refine w_istore (i := 3) (npc := 187) (loc' := [cr 81, ai_i r, ai_i z37, ai_i 0, ai_un]) rfl rfl ?_
          refine w_const (n := 0) (npc := 188) rfl ?_
          refine w_istore (i := 4) (npc := 190) (loc' := [cr 81, ai_i r, ai_i z37, ai_i 0, ai_i 0]) rfl rfl ?_
          have loop190 : ∀ (nf : Nat) (s : Int) (i : Int), ((400 - i).toNat) < nf → (0 ≤ i ∧ i ≤ 400 ∧ 0 ≤ s ∧ s ≤ 65540 * i) → cm_wp (ai_find ai_c183 sl) (ai_ev sl (d + 2)) x (kc + 0) (ks + 0) (fun rk rv T' E' nx' => rk = 0 ∧ T = T' ∧ nx = nx' ∧ cs_I T E' nx ∧ cm_fr (fun i k => (i = 81 ∧ (k = 16)) ∨ i = 92) E E' ∧ rl E' ∧ (True)) 190 [cr 81, ai_i r, ai_i z37, ai_i s, ai_i i] [] T E151 nx kc ks := by
            intro nf
            induction nf with
            | zero => intro s i hm; exact absurd hm (Nat.not_lt_zero _)
            | succ nf190 ih =>
              intro s i hm190 hv190
              have ih190 := ih; clear ih
              obtain ⟨z157, hz157, hz157a, hz157b⟩ := hI153.int 81 16 (lo := 0) (hi := 400) (by decide) (by decide) rfl
              have ghz157 := gv_eq hz157
              refine w_iload (i := 4) (npc := 192) rfl rfl ?_
              refine w_aload (i := 0) (npc := 193) rfl rfl rfl ?_
              refine w_getf (i := 81) (ci := 8) (k := 16) (npc := 196) rfl (hI153.pl (by decide)) (hI153.T (by decide) rfl) (by decide) hz157 ?_
              refine w_icmp (c := .ge) (npc := 199) (pt := 215) rfl (fun hc158 => ?_) (fun hc158 => ?_)
              · replace hc158 : z157 ≤ i := hc158
                refine w_aload (i := 0) (npc := 216) rfl rfl rfl ?_
                refine w_iload (i := 3) (npc := 217) rfl rfl ?_
                refine w_const (n := 256) (npc := 220) rfl ?_
                refine w_irem (npc := 221) rfl (by omega) (by omega) (fun z159 hz159 hz159b => ?_)
                refine w_virt (ci := 8) (i := 81) (npc := 224) (a := [cr 81, ai_i z159]) (rest := []) rfl rfl (hI153.pl (by decide)) (hI153.T (by decide) rfl) rfl rfl rfl rfl (ct_m_lay (sl := sl) (x := x) (d := d + 1) (z159) hI153 (by omega) (by omega)) (Or.inl rfl) (fun k9 v9 T9 E161 nx9 kc9 ks9 hq160 hk9 hs9 => ?_)
                obtain ⟨rfl, rfl, rfl, hI163, hG164, hz162⟩ := hq160
                obtain rfl : kc = kc9 := by omega
                obtain rfl : ks = ks9 := by omega
                have hF165 := cm_fr.trans hF155 hG164 (by first | (simp; done) | (simp; omega) | (intro i k h; (try simp only at h); (try simp only); omega))
                have hR166 := rl.fr hR156 hG164 (by intro i k h; (try simp only at h); omega)
                refine Or.inl ⟨rfl, ?_⟩
                exact w_vret rfl (⟨rfl, rfl, rfl, hI163, hF165, hR166, trivial⟩) (by omega) (by omega)
              · replace hc158 : ¬ (z157 ≤ i) := hc158
                refine w_iload (i := 3) (npc := 200) rfl rfl ?_
                refine w_aload (i := 0) (npc := 201) rfl rfl rfl ?_
                refine w_getf (i := 81) (ci := 8) (k := 14) (npc := 204) rfl (hI153.pl (by decide)) (hI153.T (by decide) rfl) (by decide) (hI153.ref 81 14 (p := 92) (by decide) (by decide) rfl) ?_
                refine w_iload (i := 4) (npc := 206) rfl rfl ?_
                obtain ⟨z167, hz167, hz167a, hz167b⟩ := hI153.int 92 (i : Int).toNat (lo := 0) (hi := 65540) (by decide) (show (i : Int).toNat < 400 by omega) rfl
                have ghz167 := gv_eq hz167
                refine w_ald (i := 92) (t := 1) (n := 400) (npc := 207) rfl (hI153.pl (by decide)) (hI153.T (by decide) rfl) (by decide) rfl (by omega) hz167 ?_
                refine w_iadd (npc := 208) rfl (by omega) ?_
                refine w_istore (i := 3) (npc := 209) (loc' := [cr 81, ai_i r, ai_i z37, ai_i (s + z167), ai_i i]) rfl rfl ?_
                refine w_iinc (i := 4) (n := 1) (npc := 212) (loc' := [cr 81, ai_i r, ai_i z37, ai_i (s + z167), ai_i (i + 1)]) rfl rfl (by omega) rfl ?_
                refine w_goto (pt := 190) rfl ?_
                exact ih190 (s + z167) (i + 1) (by omega) (by omega)
          exact loop190 _ (0) (0) (Nat.lt_succ_self _) (by omega)
      · replace hc8 : ¬ ((8 : Int) ≤ i) := hc8
        refine w_aload (i := 0) (npc := 14) rfl rfl rfl ?_
        refine w_aload (i := 0) (npc := 15) rfl rfl rfl ?_
        refine w_iload (i := 1) (npc := 16) rfl rfl ?_
        refine w_iload (i := 2) (npc := 17) rfl rfl ?_
        refine w_virt (ci := 8) (i := 81) (npc := 20) (a := [cr 81, ai_i r, ai_i i]) (rest := [cr 81]) rfl rfl (hI7.pl (by decide)) (hI7.T (by decide) rfl) rfl rfl rfl rfl (ct_m_of (sl := sl) (x := x) (d := d + 1) (r) (i) hI7 (by omega) (by omega) (by omega)) (Or.inl rfl) (fun k9 v9 T9 E171 nx9 kc9 ks9 hq170 hk9 hs9 => ?_)
        obtain ⟨rfl, rfl, rfl, rfl, z172, rfl, hz172⟩ := hq170
        obtain rfl : kc = kc9 := by omega
        obtain rfl : ks = ks9 := by omega
        refine Or.inr (Or.inl ⟨rfl, ?_⟩)
        have hl173 : gv E 82 (166 * r + i).toNat = gv Eq7 82 (166 * r + i).toNat := gv_fr hF7 (by simp)
        refine w_virt (ci := 8) (i := 81) (npc := 23) (a := [cr 81, ai_i z172]) (rest := []) rfl rfl (hI7.pl (by decide)) (hI7.T (by decide) rfl) rfl rfl rfl rfl (ct_m_lay (sl := sl) (x := x) (d := d + 1) (z172) hI7 (by omega) (by omega)) (Or.inl rfl) (fun k9 v9 T9 E175 nx9 kc9 ks9 hq174 hk9 hs9 => ?_)
        obtain ⟨rfl, rfl, rfl, hI177, hG178, hz176⟩ := hq174
        obtain rfl : kc = kc9 := by omega
        obtain rfl : ks = ks9 := by omega
        have hF179 := cm_fr.trans hF7 hG178 (by first | (simp; done) | (simp; omega) | (intro i k h; (try simp only at h); (try simp only); omega))
        have hR180 := rl.fr hR7 hG178 (by intro i k h; (try simp only at h); omega)
        refine Or.inl ⟨rfl, ?_⟩
        refine w_iinc (i := 2) (n := 1) (npc := 26) (loc' := [cr 81, ai_i r, ai_i (i + 1), ai_un, ai_un]) rfl rfl (by omega) rfl ?_
        refine w_goto (pt := 7) rfl ?_
        exact ih7 (i + 1) E175 (by omega) hI177 hF179 hR180 (by omega)
  exact loop7 _ (0) E1 (Nat.lt_succ_self _) hI2 hF4 hR5 (by omega)
set_option maxRecDepth 16384 in
theorem ct_m_packet {sl : Int × Int} {x : ai_E} {d : Nat} {T : cm_T} {E : cm_E} {nx : Nat} (p w n i : Int) (hI : cs_I T E nx) (hR : rl E) : cm_ct (ai_ev sl (d + 4)) x 192 [cr 81, ai_i p, ai_i w, ai_i n, ai_i i] T E nx 0 0 (fun rk rv T' E' nx' => rk = 1 ∧ T = T' ∧ nx = nx' ∧ cs_I T E' nx ∧ cm_fr (fun i k => (i = 81 ∧ (k = 0 ∨ k = 16)) ∨ i = 92) E E' ∧ rl E' ∧ ∃ z : Int, rv = ai_i z ∧ (True)) := by
  refine cm_body (M := ai_m192) rfl rfl (fun kc ks => ?_)
  show cm_wp (ai_find ai_c192 sl) (ai_ev sl (d + 3)) x (kc + 0) (ks + 0) _ 0 [cr 81, ai_i p, ai_i w, ai_i n, ai_i i] [] T E nx kc ks
  have hF : cm_fr (fun i k => (i = 81 ∧ (k = 0 ∨ k = 16)) ∨ i = 92) E E := fun _ _ _ => rfl
  refine w_aload (i := 0) (npc := 1) rfl rfl rfl ?_
  refine w_const (n := 0) (npc := 2) rfl ?_
  refine w_putf (i := 81) (ci := 8) (k := 0) (t := 0) (npc := 5) rfl (hI.pl (by decide)) (hI.T (by decide) rfl) (by decide) cm_fit0 ?_
  have hI2 := hI.puti (i := 81) (k := 0) (z := 0) (lo := 0) (hi := 2) (by decide) rfl (by omega)
  have hF4 := cm_fr.up (i := 81) (k := 0) (v := ai_i 0) hF (by first | (simp; done) | (simp; omega) | (intro i k h; (try simp only at h); (try simp only); omega))
  have hR5 := rl.wr (i := 81) (k := 0) (v := ai_i 0) hR (by simp)
  generalize hE3 : cm_up E 81 0 (ai_i 0) = E1 at hI2 hF4 hR5  ⊢
  have hz6 : E1 81 0 = ai_i 0 := by rw [← hE3, cm_up_eq]
  have ghz6 := gv_eq hz6
  refine w_aload (i := 0) (npc := 6) rfl rfl rfl ?_
  refine w_iload (i := 1) (npc := 7) rfl rfl ?_
  refine w_virt (ci := 8) (i := 81) (npc := 10) (a := [cr 81, ai_i p]) (rest := []) rfl rfl (hI2.pl (by decide)) (hI2.T (by decide) rfl) rfl rfl rfl rfl (ct_m_isWriter (sl := sl) (x := x) (d := d + 1) (p) hI2) (Or.inl rfl) (fun k9 v9 T9 E8 nx9 kc9 ks9 hq7 hk9 hs9 => ?_)
  obtain ⟨rfl, rfl, rfl, rfl, z9, rfl, hz9⟩ := hq7
  obtain rfl : kc = kc9 := by omega
  obtain rfl : ks = ks9 := by omega
  refine Or.inr (Or.inl ⟨rfl, ?_⟩)
  refine w_if (c := .eq) (npc := 13) (pt := 23) rfl (fun hc10 => ?_) (fun hc10 => ?_)
  · replace hc10 : z9 = (0 : Int) := hc10
    refine w_aload (i := 0) (npc := 24) rfl rfl rfl ?_
    refine w_const (n := 1) (npc := 25) rfl ?_
    refine w_virt (ci := 8) (i := 81) (npc := 28) (a := [cr 81, ai_i 1]) (rest := []) rfl rfl (hI2.pl (by decide)) (hI2.T (by decide) rfl) rfl rfl rfl rfl (ct_m_fail (sl := sl) (x := x) (d := d + 2) (1) hI2 (by omega)) (Or.inl rfl) (fun k9 v9 T9 E12 nx9 kc9 ks9 hq11 hk9 hs9 => ?_)
    obtain ⟨rfl, rfl, rfl, hI14, hG15, z13, rfl, hz13⟩ := hq11
    obtain rfl : kc = kc9 := by omega
    obtain rfl : ks = ks9 := by omega
    have hF16 := cm_fr.trans hF4 hG15 (by first | (simp; done) | (simp; omega) | (intro i k h; (try simp only at h); (try simp only); omega))
    have hR17 := rl.fr hR5 hG15 (by intro i k h; (try simp only at h); omega)
    refine Or.inr (Or.inl ⟨rfl, ?_⟩)
    exact w_iret rfl (⟨rfl, rfl, rfl, hI14, hF16, hR17, z13, rfl, trivial⟩) (by omega) (by omega)
  · replace hc10 : ¬ (z9 = (0 : Int)) := hc10
    refine w_aload (i := 0) (npc := 14) rfl rfl rfl ?_
    refine w_iload (i := 1) (npc := 15) rfl rfl ?_
    refine w_iload (i := 2) (npc := 16) rfl rfl ?_
    refine w_iload (i := 3) (npc := 17) rfl rfl ?_
    refine w_virt (ci := 8) (i := 81) (npc := 20) (a := [cr 81, ai_i p, ai_i w, ai_i n]) (rest := []) rfl rfl (hI2.pl (by decide)) (hI2.T (by decide) rfl) rfl rfl rfl rfl (ct_m_hasStep (sl := sl) (x := x) (d := d + 0) (p) (w) (n) hI2 (by omega)) (Or.inl rfl) (fun k9 v9 T9 E19 nx9 kc9 ks9 hq18 hk9 hs9 => ?_)
    obtain ⟨rfl, rfl, rfl, rfl, z20, rfl, hz20⟩ := hq18
    obtain rfl : kc = kc9 := by omega
    obtain rfl : ks = ks9 := by omega
    refine Or.inr (Or.inl ⟨rfl, ?_⟩)
    refine w_if (c := .ne) (npc := 23) (pt := 29) rfl (fun hc21 => ?_) (fun hc21 => ?_)
    · replace hc21 : z20 ≠ (0 : Int) := hc21
      refine w_aload (i := 0) (npc := 30) rfl rfl rfl ?_
      refine w_iload (i := 1) (npc := 31) rfl rfl ?_
      refine w_iload (i := 2) (npc := 32) rfl rfl ?_
      refine w_iload (i := 3) (npc := 33) rfl rfl ?_
      refine w_call (npc := 36) (a := [ai_i p, ai_i w, ai_i n]) (rest := [cr 81]) rfl rfl rfl rfl rfl (ct_m_rowOf (sl := sl) (x := x) (d := d + 2) (p) (w) (n) (by omega) (by omega) (by omega)) (Or.inr (fun _ _ _ _ _ hq => by have h1 := hq.1; omega)) (fun k9 v9 T9 E23 nx9 kc9 ks9 hq22 hk9 hs9 => ?_)
      obtain ⟨rfl, rfl, rfl, rfl, z24, rfl, hz24⟩ := hq22
      obtain rfl : kc = kc9 := by omega
      obtain rfl : ks = ks9 := by omega
      refine Or.inr (Or.inl ⟨rfl, ?_⟩)
      refine w_virt (ci := 8) (i := 81) (npc := 39) (a := [cr 81, ai_i z24]) (rest := []) rfl rfl (hI2.pl (by decide)) (hI2.T (by decide) rfl) rfl rfl rfl rfl (ct_m_layPacket (sl := sl) (x := x) (d := d + 0) (z24) hI2 hR5 (by omega)) (Or.inl rfl) (fun k9 v9 T9 E26 nx9 kc9 ks9 hq25 hk9 hs9 => ?_)
      obtain ⟨rfl, rfl, rfl, hI28, hG29, hR30, hz27⟩ := hq25
      obtain rfl : kc = kc9 := by omega
      obtain rfl : ks = ks9 := by omega
      have hF31 := cm_fr.trans hF4 hG29 (by first | (simp; done) | (simp; omega) | (intro i k h; (try simp only at h); (try simp only); omega))
      have hz32 : E26 81 0 = ai_i 0 := (hG29 81 0 (by simp)).trans hz6
      have ghz32 := gv_eq hz32
      refine Or.inl ⟨rfl, ?_⟩
      refine w_iload (i := 4) (npc := 41) rfl rfl ?_
      refine w_const (n := (-1)) (npc := 42) rfl ?_
      refine w_icmp (c := .ne) (npc := 45) (pt := 52) rfl (fun hc33 => ?_) (fun hc33 => ?_)
      · replace hc33 : i ≠ ((-1) : Int) := hc33
        refine w_iload (i := 4) (npc := 54) rfl rfl ?_
        refine w_const (n := 0) (npc := 55) rfl ?_
        refine w_aload (i := 0) (npc := 56) rfl rfl rfl ?_
        obtain ⟨z34, hz34, hz34a, hz34b⟩ := hI28.int 81 16 (lo := 0) (hi := 400) (by decide) (by decide) rfl
        have ghz34 := gv_eq hz34
        refine w_getf (i := 81) (ci := 8) (k := 16) (npc := 59) rfl (hI28.pl (by decide)) (hI28.T (by decide) rfl) (by decide) hz34 ?_
        refine w_const (n := 1) (npc := 60) rfl ?_
        refine w_isub (npc := 61) rfl (by omega) ?_
        refine w_call (npc := 64) (a := [ai_i i, ai_i 0, ai_i (z34 - 1)]) (rest := []) rfl rfl rfl rfl rfl (ct_m_isIn (sl := sl) (x := x) (d := d + 2) (i) (0) (z34 - 1)) (Or.inr (fun _ _ _ _ _ hq => by have h1 := hq.1; omega)) (fun k9 v9 T9 E37 nx9 kc9 ks9 hq36 hk9 hs9 => ?_)
        obtain ⟨rfl, rfl, rfl, rfl, z38, rfl, hz38⟩ := hq36
        obtain rfl : kc = kc9 := by omega
        obtain rfl : ks = ks9 := by omega
        refine Or.inr (Or.inl ⟨rfl, ?_⟩)
        refine w_if (c := .eq) (npc := 67) (pt := 77) rfl (fun hc39 => ?_) (fun hc39 => ?_)
        · replace hc39 : z38 = (0 : Int) := hc39
          refine w_aload (i := 0) (npc := 78) rfl rfl rfl ?_
          refine w_const (n := 1) (npc := 79) rfl ?_
          refine w_virt (ci := 8) (i := 81) (npc := 82) (a := [cr 81, ai_i 1]) (rest := []) rfl rfl (hI28.pl (by decide)) (hI28.T (by decide) rfl) rfl rfl rfl rfl (ct_m_fail (sl := sl) (x := x) (d := d + 2) (1) hI28 (by omega)) (Or.inl rfl) (fun k9 v9 T9 E41 nx9 kc9 ks9 hq40 hk9 hs9 => ?_)
          obtain ⟨rfl, rfl, rfl, hI43, hG44, z42, rfl, hz42⟩ := hq40
          obtain rfl : kc = kc9 := by omega
          obtain rfl : ks = ks9 := by omega
          have hF45 := cm_fr.trans hF31 hG44 (by first | (simp; done) | (simp; omega) | (intro i k h; (try simp only at h); (try simp only); omega))
          have hR46 := rl.fr hR30 hG44 (by intro i k h; (try simp only at h); omega)
          have hz47 : E41 81 16 = ai_i z34 := (hG44 81 16 (by simp)).trans hz34
          have ghz47 := gv_eq hz47
          refine Or.inr (Or.inl ⟨rfl, ?_⟩)
          exact w_iret rfl (⟨rfl, rfl, rfl, hI43, hF45, hR46, z42, rfl, trivial⟩) (by omega) (by omega)
        · replace hc39 : ¬ (z38 = (0 : Int)) := hc39
          refine w_aload (i := 0) (npc := 68) rfl rfl rfl ?_
          refine w_getf (i := 81) (ci := 8) (k := 14) (npc := 71) rfl (hI28.pl (by decide)) (hI28.T (by decide) rfl) (by decide) (hI28.ref 81 14 (p := 92) (by decide) (by decide) rfl) ?_
          refine w_iload (i := 4) (npc := 73) rfl rfl ?_
          obtain ⟨z48, hz48, hz48a, hz48b⟩ := hI28.int 92 (i : Int).toNat (lo := 0) (hi := 65540) (by decide) (show (i : Int).toNat < 400 by omega) rfl
          have ghz48 := gv_eq hz48
          refine w_ald (i := 92) (t := 1) (n := 400) (npc := 74) rfl (hI28.pl (by decide)) (hI28.T (by decide) rfl) (by decide) rfl (by omega) hz48 ?_
          refine w_goto (pt := 82) rfl ?_
          exact w_iret rfl (⟨rfl, rfl, rfl, hI28, hF31, hR30, z48, rfl, trivial⟩) (by omega) (by omega)
      · replace hc33 : ¬ (i ≠ ((-1) : Int)) := hc33
        refine w_aload (i := 0) (npc := 46) rfl rfl rfl ?_
        obtain ⟨z49, hz49, hz49a, hz49b⟩ := hI28.int 81 16 (lo := 0) (hi := 400) (by decide) (by decide) rfl
        have ghz49 := gv_eq hz49
        refine w_getf (i := 81) (ci := 8) (k := 16) (npc := 49) rfl (hI28.pl (by decide)) (hI28.T (by decide) rfl) (by decide) hz49 ?_
        refine w_goto (pt := 82) rfl ?_
        exact w_iret rfl (⟨rfl, rfl, rfl, hI28, hF31, hR30, z49, rfl, trivial⟩) (by omega) (by omega)
    · replace hc21 : ¬ (z20 ≠ (0 : Int)) := hc21
      refine w_aload (i := 0) (npc := 24) rfl rfl rfl ?_
      refine w_const (n := 1) (npc := 25) rfl ?_
      refine w_virt (ci := 8) (i := 81) (npc := 28) (a := [cr 81, ai_i 1]) (rest := []) rfl rfl (hI2.pl (by decide)) (hI2.T (by decide) rfl) rfl rfl rfl rfl (ct_m_fail (sl := sl) (x := x) (d := d + 2) (1) hI2 (by omega)) (Or.inl rfl) (fun k9 v9 T9 E51 nx9 kc9 ks9 hq50 hk9 hs9 => ?_)
      obtain ⟨rfl, rfl, rfl, hI53, hG54, z52, rfl, hz52⟩ := hq50
      obtain rfl : kc = kc9 := by omega
      obtain rfl : ks = ks9 := by omega
      have hF55 := cm_fr.trans hF4 hG54 (by first | (simp; done) | (simp; omega) | (intro i k h; (try simp only at h); (try simp only); omega))
      have hR56 := rl.fr hR5 hG54 (by intro i k h; (try simp only at h); omega)
      refine Or.inr (Or.inl ⟨rfl, ?_⟩)
      exact w_iret rfl (⟨rfl, rfl, rfl, hI53, hF55, hR56, z52, rfl, trivial⟩) (by omega) (by omega)
