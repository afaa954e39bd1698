set_option maxRecDepth 16384 in
theorem ct_m_ageOf {sl : Int × Int} {x : ai_E} {d : Nat} {T : cm_T} {E : cm_E} {nx : Nat} (p : Int) (hI : cs_I T E nx) (hp0 : 0 ≤ p ∧ p ≤ 4) (hp1 : rl_A E) : cm_ct (ai_ev sl (d + 2)) x 147 [cr 81, ai_i p] T E nx 0 0 (fun rk rv T' E' nx' => rk = 1 ∧ T = T' ∧ E = E' ∧ nx = nx' ∧ ∃ z : Int, rv = ai_i z ∧ (0 ≤ z ∧ z ≤ 65535 ∧ (∀ w' n' : Int, 0 ≤ w' → w' < gv E 81 1 → 1 ≤ n' → n' ≤ gv E 83 (5 * p + w').toNat → gv E 82 (166 * ((5 * p + w') * 60 + n' - 1) + 8).toNat ≤ z) ∧ ag_at E p (z))) := by
  refine cm_body (M := ai_m147) rfl rfl (fun kc ks => ?_)
  show cm_wp (ai_find ai_c147 sl) (ai_ev sl (d + 1)) x (kc + 0) (ks + 0) _ 0 [cr 81, ai_i p, ai_un, ai_un, ai_un] [] T E nx kc ks
  refine w_const (n := 0) (npc := 1) rfl ?_
  refine w_istore (i := 2) (npc := 2) (loc' := [cr 81, ai_i p, ai_i 0, ai_un, ai_un]) rfl rfl ?_
  refine w_const (n := 0) (npc := 3) rfl ?_
  refine w_istore (i := 3) (npc := 4) (loc' := [cr 81, ai_i p, ai_i 0, ai_i 0, ai_un]) rfl rfl ?_
  have loop4 : ∀ (nf : Nat) (a : Int) (w : Int) (u4_4 : ai_V), ((5 - w).toNat) < nf → (0 ≤ a ∧ a ≤ 65535 ∧ 0 ≤ w ∧ w ≤ 5 ∧ (∀ w' n' : Int, 0 ≤ w' → w' < w → 1 ≤ n' → n' ≤ gv E 83 (5 * p + w').toNat → gv E 82 (166 * ((5 * p + w') * 60 + n' - 1) + 8).toNat ≤ a) ∧ ag_at E p (a)) → cm_wp (ai_find ai_c147 sl) (ai_ev sl (d + 1)) x (kc + 0) (ks + 0) (fun rk rv T' E' nx' => rk = 1 ∧ T = T' ∧ E = E' ∧ nx = nx' ∧ ∃ z : Int, rv = ai_i z ∧ (0 ≤ z ∧ z ≤ 65535 ∧ (∀ w' n' : Int, 0 ≤ w' → w' < gv E 81 1 → 1 ≤ n' → n' ≤ gv E 83 (5 * p + w').toNat → gv E 82 (166 * ((5 * p + w') * 60 + n' - 1) + 8).toNat ≤ z) ∧ ag_at E p (z))) 4 [cr 81, ai_i p, ai_i a, ai_i w, u4_4] [] T E nx kc ks := by
    intro nf
    induction nf with
    | zero => intro a w u4_4 hm; exact absurd hm (Nat.not_lt_zero _)
    | succ nf4 ih =>
      intro a w u4_4 hm4 hv4
      have ih4 := ih; clear ih
      refine w_iload (i := 3) (npc := 5) rfl rfl ?_
      refine w_aload (i := 0) (npc := 6) rfl rfl rfl ?_
      obtain ⟨z1, hz1, hz1a, hz1b⟩ := hI.int 81 1 (lo := 1) (hi := 5) (by decide) (by decide) rfl
      have ghz1 := gv_eq hz1
      refine w_getf (i := 81) (ci := 8) (k := 1) (npc := 9) rfl (hI.pl (by decide)) (hI.T (by decide) rfl) (by decide) hz1 ?_
      refine w_icmp (c := .ge) (npc := 12) (pt := 60) rfl (fun hc2 => ?_) (fun hc2 => ?_)
      · replace hc2 : z1 ≤ w := hc2
        refine w_iload (i := 2) (npc := 61) rfl rfl ?_
        exact w_iret rfl (⟨rfl, rfl, rfl, rfl, a, rfl, ⟨by omega, by omega, fun w' n' a1 a2 a3 a4 => hv4.2.2.2.2.1 w' n' a1 (by omega) a3 a4, hv4.2.2.2.2.2⟩⟩) (by omega) (by omega)
      · replace hc2 : ¬ (z1 ≤ w) := hc2
        refine w_const (n := 1) (npc := 13) rfl ?_
        refine w_istore (i := 4) (npc := 15) (loc' := [cr 81, ai_i p, ai_i a, ai_i w, ai_i 1]) rfl rfl ?_
        have loop15 : ∀ (nf : Nat) (b : Int) (n : Int), ((61 - n).toNat) < nf → (0 ≤ b ∧ b ≤ 65535 ∧ 1 ≤ n ∧ n ≤ 61 ∧ (∀ w' n' : Int, 0 ≤ w' → w' < w → 1 ≤ n' → n' ≤ gv E 83 (5 * p + w').toNat → gv E 82 (166 * ((5 * p + w') * 60 + n' - 1) + 8).toNat ≤ b) ∧ (∀ n' : Int, 1 ≤ n' → n' < n → n' ≤ gv E 83 (5 * p + w).toNat → gv E 82 (166 * ((5 * p + w) * 60 + n' - 1) + 8).toNat ≤ b) ∧ ag_at E p (b)) → cm_wp (ai_find ai_c147 sl) (ai_ev sl (d + 1)) x (kc + 0) (ks + 0) (fun rk rv T' E' nx' => rk = 1 ∧ T = T' ∧ E = E' ∧ nx = nx' ∧ ∃ z : Int, rv = ai_i z ∧ (0 ≤ z ∧ z ≤ 65535 ∧ (∀ w' n' : Int, 0 ≤ w' → w' < gv E 81 1 → 1 ≤ n' → n' ≤ gv E 83 (5 * p + w').toNat → gv E 82 (166 * ((5 * p + w') * 60 + n' - 1) + 8).toNat ≤ z) ∧ ag_at E p (z))) 15 [cr 81, ai_i p, ai_i b, ai_i w, ai_i n] [] T E nx kc ks := by
          intro nf
          induction nf with
          | zero => intro b n hm; exact absurd hm (Nat.not_lt_zero _)
          | succ nf15 ih =>
            intro b n hm15 hv15
            have ih15 := ih; clear ih
            refine w_iload (i := 4) (npc := 17) rfl rfl ?_
            refine w_aload (i := 0) (npc := 18) rfl rfl rfl ?_
            refine w_getf (i := 81) (ci := 8) (k := 3) (npc := 21) rfl (hI.pl (by decide)) (hI.T (by decide) rfl) (by decide) (hI.ref 81 3 (p := 83) (by decide) (by decide) rfl) ?_
            refine w_const (n := 5) (npc := 22) rfl ?_
            refine w_iload (i := 1) (npc := 23) rfl rfl ?_
            refine w_imul (npc := 24) rfl (by omega) ?_
            refine w_iload (i := 3) (npc := 25) rfl rfl ?_
            refine w_iadd (npc := 26) rfl (by omega) ?_
            obtain ⟨z5, hz5, hz5a, hz5b⟩ := hI.int 83 (5 * p + w : Int).toNat (lo := 0) (hi := 60) (by decide) (show (5 * p + w : Int).toNat < 25 by omega) rfl
            have ghz5 := gv_eq hz5
            refine w_ald (i := 83) (t := 1) (n := 25) (npc := 27) rfl (hI.pl (by decide)) (hI.T (by decide) rfl) (by decide) rfl (by omega) hz5 ?_
            refine w_icmp (c := .gt) (npc := 30) (pt := 54) rfl (fun hc6 => ?_) (fun hc6 => ?_)
            · replace hc6 : z5 < n := hc6
              refine w_iinc (i := 3) (n := 1) (npc := 57) (loc' := [cr 81, ai_i p, ai_i b, ai_i (w + 1), ai_i n]) rfl rfl (by omega) rfl ?_
              refine w_goto (pt := 4) rfl ?_
              exact ih4 (b) (w + 1) (ai_i n) (by omega) (by
      obtain ⟨d1, d2, d3, d4, d5, d6, d7⟩ := hv15
      refine ⟨by omega, by omega, by omega, by omega, fun w' n' a1 a2 a3 a4 => ?_, d7⟩
      by_cases hw : w' = w
      · rw [hw] at a4 ⊢; exact d6 n' a3 (by omega) a4
      · exact d5 w' n' a1 (by omega) a3 a4)
            · replace hc6 : ¬ (z5 < n) := hc6
              refine w_iload (i := 2) (npc := 31) rfl rfl ?_
              refine w_aload (i := 0) (npc := 32) rfl rfl rfl ?_
              refine w_iload (i := 1) (npc := 33) rfl rfl ?_
              refine w_iload (i := 3) (npc := 34) rfl rfl ?_
              refine w_iload (i := 4) (npc := 36) rfl rfl ?_
              refine w_call (npc := 39) (a := [ai_i p, ai_i w, ai_i n]) (rest := [cr 81, ai_i b]) rfl rfl rfl rfl rfl (ct_m_rowOf (sl := sl) (x := x) (d := d + 0) (p) (w) (n) (by omega) (by omega) (by omega)) (Or.inr (fun _ _ _ _ _ hq => by have h1 := hq.1; omega)) (fun k9 v9 T9 E9 nx9 kc9 ks9 hq8 hk9 hs9 => ?_)
              obtain ⟨rfl, rfl, rfl, rfl, z10, rfl, hz10⟩ := hq8
              obtain rfl : kc = kc9 := by omega
              obtain rfl : ks = ks9 := by omega
              refine Or.inr (Or.inl ⟨rfl, ?_⟩)
              obtain rfl : (5 * p + w) * 60 + n - 1 = z10 := by omega
              have hag := (hp1 ((5 * p + w) * 60 + n - 1) (by omega) (by omega)).1.2
              refine w_const (n := 8) (npc := 41) rfl ?_
              refine w_virt (ci := 8) (i := 81) (npc := 44) (a := [cr 81, ai_i ((5 * p + w) * 60 + n - 1), ai_i 8]) (rest := [ai_i b]) rfl rfl (hI.pl (by decide)) (hI.T (by decide) rfl) rfl rfl rfl rfl (ct_m_of (sl := sl) (x := x) (d := d + 0) ((5 * p + w) * 60 + n - 1) (8) hI (by omega) (by omega) (by omega)) (Or.inl rfl) (fun k9 v9 T9 E12 nx9 kc9 ks9 hq11 hk9 hs9 => ?_)
              obtain ⟨rfl, rfl, rfl, rfl, z13, rfl, hz13⟩ := hq11
              obtain rfl : kc = kc9 := by omega
              obtain rfl : ks = ks9 := by omega
              refine Or.inr (Or.inl ⟨rfl, ?_⟩)
              refine w_max (npc := 47) rfl rfl ?_
              obtain ⟨z14, hz14⟩ : ∃ z14 : Int, z14 = max b z13 := ⟨_, rfl⟩
              rw [← hz14]
              refine w_istore (i := 2) (npc := 48) (loc' := [cr 81, ai_i p, ai_i z14, ai_i w, ai_i n]) rfl rfl ?_
              refine w_iinc (i := 4) (n := 1) (npc := 51) (loc' := [cr 81, ai_i p, ai_i z14, ai_i w, ai_i (n + 1)]) rfl rfl (by omega) rfl ?_
              refine w_goto (pt := 15) rfl ?_
              exact ih15 (z14) (n + 1) (by omega) (by
      obtain ⟨d1, d2, d3, d4, d5, d6, d7⟩ := hv15
      refine ⟨by omega, by omega, by omega, by omega, fun w' n' a1 a2 a3 a4 => by have := d5 w' n' a1 a2 a3 a4; omega, fun n' a1 a2 a3 => ?_, ?_⟩
      · by_cases hn : n' = n
        · rw [hn]; omega
        · have := d6 n' a1 (by omega) a3; omega
      · rcases d7 with d7 | d7
        · by_cases hz0 : z14 = 0
          · exact Or.inl hz0
          · exact Or.inr ⟨w, n, by omega, by omega, by omega, by omega, by omega⟩
        · obtain ⟨w', n', a1, a2, a3, a4, a5⟩ := d7
          by_cases hzb : z14 = b
          · exact Or.inr ⟨w', n', a1, a2, a3, a4, by omega⟩
          · exact Or.inr ⟨w, n, by omega, by omega, by omega, by omega, by omega⟩)
        exact loop15 _ (a) (1) (Nat.lt_succ_self _) (⟨by omega, by omega, by omega, by omega, hv4.2.2.2.2.1, fun n' a1 a2 a3 => by omega, hv4.2.2.2.2.2⟩)
  exact loop4 _ (0) (0) (ai_un) (Nat.lt_succ_self _) (⟨by omega, by omega, by omega, by omega, fun w' n' a1 a2 a3 a4 => by omega, Or.inl rfl⟩)
set_option maxRecDepth 16384 in
theorem ct_m_beginStep {sl : Int × Int} {x : ai_E} {d : Nat} {T : cm_T} {E : cm_E} {nx : Nat} (p a : Int) (hI : cs_I T E nx) (hR : rl E) (hp0 : 0 ≤ p ∧ p ≤ 4) (hp1 : 0 ≤ a ∧ a ≤ 3) : cm_ct (ai_ev sl (d + 3)) x 149 [cr 81, ai_i p, ai_i a] T E nx 0 0 (fun rk rv T' E' nx' => rk = 1 ∧ T = T' ∧ nx = nx' ∧ cs_I T E' nx ∧ cm_fr (fun i k => i = 82 ∧ 531200 ≤ k) E E' ∧ rl E' ∧ ∃ z : Int, rv = ai_i z ∧ (gv E' 82 (166 * 3200 + 0 : Int).toNat = a ∧ gv E' 82 (166 * 3200 + 1 : Int).toNat = p ∧ gv E' 82 (166 * 3200 + 2 : Int).toNat = gv E 83 (5 * p + p).toNat + 1 ∧ (∀ k : Int, 9 ≤ k → k < 166 → gv E' 82 (166 * 3200 + k).toNat = 0) ∧ 0 ≤ z ∧ z ≤ 1 ∧ (z = 1 → 0 ≤ gv E 83 (5 * p + p).toNat ∧ gv E 83 (5 * p + p).toNat ≤ 59 ∧ gv E' 82 (166 * 3200 + 8 : Int).toNat ≤ 65535))) := by
  refine cm_body (M := ai_m149) rfl rfl (fun kc ks => ?_)
  show cm_wp (ai_find ai_c149 sl) (ai_ev sl (d + 2)) x (kc + 0) (ks + 0) _ 0 [cr 81, ai_i p, ai_i a, ai_un] [] T E nx kc ks
  have hF : cm_fr (fun i k => i = 82 ∧ 531200 ≤ k) E E := fun _ _ _ => rfl
  refine w_const (n := 0) (npc := 1) rfl ?_
  refine w_istore (i := 3) (npc := 2) (loc' := [cr 81, ai_i p, ai_i a, ai_i 0]) rfl rfl ?_
  have loop2 : ∀ (nf : Nat) (i : Int) (Eq2 : cm_E), ((166 - i).toNat) < nf → cs_I T Eq2 nx → cm_fr (fun i k => i = 82 ∧ 531200 ≤ k) E Eq2 → rl Eq2 → (0 ≤ i ∧ i ≤ 166 ∧ ∀ k : Int, 0 ≤ k → k < i → gv Eq2 82 (166 * 3200 + k).toNat = 0) → cm_wp (ai_find ai_c149 sl) (ai_ev sl (d + 2)) x (kc + 0) (ks + 0) (fun rk rv T' E' nx' => rk = 1 ∧ T = T' ∧ nx = nx' ∧ cs_I T E' nx ∧ cm_fr (fun i k => i = 82 ∧ 531200 ≤ k) E E' ∧ rl E' ∧ ∃ z : Int, rv = ai_i z ∧ (gv E' 82 (166 * 3200 + 0 : Int).toNat = a ∧ gv E' 82 (166 * 3200 + 1 : Int).toNat = p ∧ gv E' 82 (166 * 3200 + 2 : Int).toNat = gv E 83 (5 * p + p).toNat + 1 ∧ (∀ k : Int, 9 ≤ k → k < 166 → gv E' 82 (166 * 3200 + k).toNat = 0) ∧ 0 ≤ z ∧ z ≤ 1 ∧ (z = 1 → 0 ≤ gv E 83 (5 * p + p).toNat ∧ gv E 83 (5 * p + p).toNat ≤ 59 ∧ gv E' 82 (166 * 3200 + 8 : Int).toNat ≤ 65535))) 2 [cr 81, ai_i p, ai_i a, ai_i i] [] T Eq2 nx kc ks := by
    intro nf
    induction nf with
    | zero => intro i Eq2 hm; exact absurd hm (Nat.not_lt_zero _)
    | succ nf2 ih =>
      intro i Eq2 hm2 hI2 hF2 hR2 hv2
      have ih2 := ih; clear ih
      refine w_iload (i := 3) (npc := 3) rfl rfl ?_
      refine w_const (n := 166) (npc := 6) rfl ?_
      refine w_icmp (c := .ge) (npc := 9) (pt := 24) rfl (fun hc1 => ?_) (fun hc1 => ?_)
      · replace hc1 : (166 : Int) ≤ i := hc1
        refine w_aload (i := 0) (npc := 25) rfl rfl rfl ?_
        refine w_const (n := 3200) (npc := 28) rfl ?_
        refine w_const (n := 0) (npc := 29) rfl ?_
        refine w_iload (i := 2) (npc := 30) rfl rfl ?_
        refine w_virt (ci := 8) (i := 81) (npc := 33) (a := [cr 81, ai_i 3200, ai_i 0, ai_i a]) (rest := []) rfl rfl (hI2.pl (by decide)) (hI2.T (by decide) rfl) rfl rfl rfl rfl (ct_m_put (sl := sl) (x := x) (d := d + 1) (3200) (0) (a) hI2 (by omega) (by omega) (by omega)) (Or.inl rfl) (fun k9 v9 T9 E3 nx9 kc9 ks9 hq2 hk9 hs9 => ?_)
        obtain ⟨rfl, rfl, rfl, hI5, hG6, hz4⟩ := hq2
        obtain rfl : kc = kc9 := by omega
        obtain rfl : ks = ks9 := by omega
        have hF7 := cm_fr.trans hF2 hG6 (by first | (simp; done) | (simp; omega) | (intro i k h; (try simp only at h); (try simp only); omega))
        have hR8 := rl.fr hR2 hG6 (by intro i k h; (try simp only at h); omega)
        refine Or.inl ⟨rfl, ?_⟩
        refine w_aload (i := 0) (npc := 34) rfl rfl rfl ?_
        refine w_const (n := 3200) (npc := 37) rfl ?_
        refine w_const (n := 1) (npc := 38) rfl ?_
        refine w_iload (i := 1) (npc := 39) rfl rfl ?_
        refine w_virt (ci := 8) (i := 81) (npc := 42) (a := [cr 81, ai_i 3200, ai_i 1, ai_i p]) (rest := []) rfl rfl (hI5.pl (by decide)) (hI5.T (by decide) rfl) rfl rfl rfl rfl (ct_m_put (sl := sl) (x := x) (d := d + 1) (3200) (1) (p) hI5 (by omega) (by omega) (by omega)) (Or.inl rfl) (fun k9 v9 T9 E10 nx9 kc9 ks9 hq9 hk9 hs9 => ?_)
        obtain ⟨rfl, rfl, rfl, hI12, hG13, hz11⟩ := hq9
        obtain rfl : kc = kc9 := by omega
        obtain rfl : ks = ks9 := by omega
        have hF14 := cm_fr.trans hF7 hG13 (by first | (simp; done) | (simp; omega) | (intro i k h; (try simp only at h); (try simp only); omega))
        have hR15 := rl.fr hR8 hG13 (by intro i k h; (try simp only at h); omega)
        refine Or.inl ⟨rfl, ?_⟩
        refine w_aload (i := 0) (npc := 43) rfl rfl rfl ?_
        refine w_const (n := 3200) (npc := 46) rfl ?_
        refine w_const (n := 2) (npc := 47) rfl ?_
        refine w_aload (i := 0) (npc := 48) rfl rfl rfl ?_
        refine w_getf (i := 81) (ci := 8) (k := 3) (npc := 51) rfl (hI12.pl (by decide)) (hI12.T (by decide) rfl) (by decide) (hI12.ref 81 3 (p := 83) (by decide) (by decide) rfl) ?_
        refine w_const (n := 5) (npc := 52) rfl ?_
        refine w_iload (i := 1) (npc := 53) rfl rfl ?_
        refine w_imul (npc := 54) rfl (by omega) ?_
        refine w_iload (i := 1) (npc := 55) rfl rfl ?_
        refine w_iadd (npc := 56) rfl (by omega) ?_
        obtain ⟨z18, hz18, hz18a, hz18b⟩ := hI12.int 83 (5 * p + p : Int).toNat (lo := 0) (hi := 60) (by decide) (show (5 * p + p : Int).toNat < 25 by omega) rfl
        have ghz18 := gv_eq hz18
        have g0hz18 : gv E 83 (5 * p + p : Int).toNat = z18 := (gv_fr hF14 (by simp)).trans ghz18
        refine w_ald (i := 83) (t := 1) (n := 25) (npc := 57) rfl (hI12.pl (by decide)) (hI12.T (by decide) rfl) (by decide) rfl (by omega) hz18 ?_
        refine w_const (n := 1) (npc := 58) rfl ?_
        refine w_iadd (npc := 59) rfl (by omega) ?_
        refine w_virt (ci := 8) (i := 81) (npc := 62) (a := [cr 81, ai_i 3200, ai_i 2, ai_i (z18 + 1)]) (rest := []) rfl rfl (hI12.pl (by decide)) (hI12.T (by decide) rfl) rfl rfl rfl rfl (ct_m_put (sl := sl) (x := x) (d := d + 1) (3200) (2) (z18 + 1) hI12 (by omega) (by omega) (by omega)) (Or.inl rfl) (fun k9 v9 T9 E21 nx9 kc9 ks9 hq20 hk9 hs9 => ?_)
        obtain ⟨rfl, rfl, rfl, hI23, hG24, hz22⟩ := hq20
        obtain rfl : kc = kc9 := by omega
        obtain rfl : ks = ks9 := by omega
        have hF25 := cm_fr.trans hF14 hG24 (by first | (simp; done) | (simp; omega) | (intro i k h; (try simp only at h); (try simp only); omega))
        have hR26 := rl.fr hR15 hG24 (by intro i k h; (try simp only at h); omega)
        refine Or.inl ⟨rfl, ?_⟩
        refine w_const (n := 0) (npc := 63) rfl ?_
        refine w_istore (i := 3) (npc := 64) (loc' := [cr 81, ai_i p, ai_i a, ai_i 0]) rfl rfl ?_
        have loop64 : ∀ (nf : Nat) (w : Int) (Eq64 : cm_E), ((5 - w).toNat) < nf → cs_I T Eq64 nx → cm_fr (fun i k => i = 82 ∧ 531200 ≤ k) E Eq64 → rl Eq64 → (0 ≤ w ∧ w ≤ 5 ∧ gv Eq64 82 (166 * 3200 + 0 : Int).toNat = a ∧ gv Eq64 82 (166 * 3200 + 1 : Int).toNat = p ∧ gv Eq64 82 (166 * 3200 + 2 : Int).toNat = gv E 83 (5 * p + p).toNat + 1 ∧ (∀ k : Int, 9 ≤ k → k < 166 → gv Eq64 82 (166 * 3200 + k).toNat = 0)) → cm_wp (ai_find ai_c149 sl) (ai_ev sl (d + 2)) x (kc + 0) (ks + 0) (fun rk rv T' E' nx' => rk = 1 ∧ T = T' ∧ nx = nx' ∧ cs_I T E' nx ∧ cm_fr (fun i k => i = 82 ∧ 531200 ≤ k) E E' ∧ rl E' ∧ ∃ z : Int, rv = ai_i z ∧ (gv E' 82 (166 * 3200 + 0 : Int).toNat = a ∧ gv E' 82 (166 * 3200 + 1 : Int).toNat = p ∧ gv E' 82 (166 * 3200 + 2 : Int).toNat = gv E 83 (5 * p + p).toNat + 1 ∧ (∀ k : Int, 9 ≤ k → k < 166 → gv E' 82 (166 * 3200 + k).toNat = 0) ∧ 0 ≤ z ∧ z ≤ 1 ∧ (z = 1 → 0 ≤ gv E 83 (5 * p + p).toNat ∧ gv E 83 (5 * p + p).toNat ≤ 59 ∧ gv E' 82 (166 * 3200 + 8 : Int).toNat ≤ 65535))) 64 [cr 81, ai_i p, ai_i a, ai_i w] [] T Eq64 nx kc ks := by
          intro nf
          induction nf with
          | zero => intro w Eq64 hm; exact absurd hm (Nat.not_lt_zero _)
          | succ nf64 ih =>
            intro w Eq64 hm64 hI64 hF64 hR64 hv64
            have ih64 := ih; clear ih
            refine w_iload (i := 3) (npc := 65) rfl rfl ?_
            refine w_aload (i := 0) (npc := 66) rfl rfl rfl ?_
            obtain ⟨z27, hz27, hz27a, hz27b⟩ := hI64.int 81 1 (lo := 1) (hi := 5) (by decide) (by decide) rfl
            have ghz27 := gv_eq hz27
            have g0hz27 : gv E 81 1 = z27 := (gv_fr hF64 (by simp)).trans ghz27
            refine w_getf (i := 81) (ci := 8) (k := 1) (npc := 69) rfl (hI64.pl (by decide)) (hI64.T (by decide) rfl) (by decide) hz27 ?_
            refine w_icmp (c := .ge) (npc := 72) (pt := 98) rfl (fun hc28 => ?_) (fun hc28 => ?_)
            · replace hc28 : z27 ≤ w := hc28
              refine w_aload (i := 0) (npc := 99) rfl rfl rfl ?_
              refine w_const (n := 3200) (npc := 102) rfl ?_
              refine w_const (n := 8) (npc := 104) rfl ?_
              refine w_aload (i := 0) (npc := 105) rfl rfl rfl ?_
              refine w_iload (i := 1) (npc := 106) rfl rfl ?_
              refine w_virt (ci := 8) (i := 81) (npc := 109) (a := [cr 81, ai_i p]) (rest := [ai_i 8, ai_i 3200, cr 81]) rfl rfl (hI64.pl (by decide)) (hI64.T (by decide) rfl) rfl rfl rfl rfl (ct_m_ageOf (sl := sl) (x := x) (d := d + 0) (p) hI64 (by omega) hR64.1) (Or.inl rfl) (fun k9 v9 T9 E30 nx9 kc9 ks9 hq29 hk9 hs9 => ?_)
              obtain ⟨rfl, rfl, rfl, rfl, z31, rfl, hz31⟩ := hq29
              obtain rfl : kc = kc9 := by omega
              obtain rfl : ks = ks9 := by omega
              refine Or.inr (Or.inl ⟨rfl, ?_⟩)
              refine w_const (n := 1) (npc := 110) rfl ?_
              refine w_iadd (npc := 111) rfl (by omega) ?_
              refine w_virt (ci := 8) (i := 81) (npc := 114) (a := [cr 81, ai_i 3200, ai_i 8, ai_i (z31 + 1)]) (rest := []) rfl rfl (hI64.pl (by decide)) (hI64.T (by decide) rfl) rfl rfl rfl rfl (ct_m_put (sl := sl) (x := x) (d := d + 1) (3200) (8) (z31 + 1) hI64 (by omega) (by omega) (by omega)) (Or.inl rfl) (fun k9 v9 T9 E34 nx9 kc9 ks9 hq33 hk9 hs9 => ?_)
              obtain ⟨rfl, rfl, rfl, hI36, hG37, hz35⟩ := hq33
              obtain rfl : kc = kc9 := by omega
              obtain rfl : ks = ks9 := by omega
              have hF38 := cm_fr.trans hF64 hG37 (by first | (simp; done) | (simp; omega) | (intro i k h; (try simp only at h); (try simp only); omega))
              have hR39 := rl.fr hR64 hG37 (by intro i k h; (try simp only at h); omega)
              have hz40 : E34 81 1 = ai_i z27 := (hG37 81 1 (by simp)).trans hz27
              have ghz40 := gv_eq hz40
              refine Or.inl ⟨rfl, ?_⟩
              refine w_aload (i := 0) (npc := 115) rfl rfl rfl ?_
              refine w_getf (i := 81) (ci := 8) (k := 3) (npc := 118) rfl (hI36.pl (by decide)) (hI36.T (by decide) rfl) (by decide) (hI36.ref 81 3 (p := 83) (by decide) (by decide) rfl) ?_
              refine w_const (n := 5) (npc := 119) rfl ?_
              refine w_iload (i := 1) (npc := 120) rfl rfl ?_
              refine w_imul (npc := 121) rfl (by omega) ?_
              refine w_iload (i := 1) (npc := 122) rfl rfl ?_
              refine w_iadd (npc := 123) rfl (by omega) ?_
              obtain ⟨z43, hz43, hz43a, hz43b⟩ := hI36.int 83 (5 * p + p : Int).toNat (lo := 0) (hi := 60) (by decide) (show (5 * p + p : Int).toNat < 25 by omega) rfl
              have ghz43 := gv_eq hz43
              have g0hz43 : gv E 83 (5 * p + p : Int).toNat = z43 := (gv_fr hF38 (by simp)).trans ghz43
              refine w_ald (i := 83) (t := 1) (n := 25) (npc := 124) rfl (hI36.pl (by decide)) (hI36.T (by decide) rfl) (by decide) rfl (by omega) hz43 ?_
              refine w_const (n := 60) (npc := 126) rfl ?_
              refine w_icmp (c := .ge) (npc := 129) (pt := 143) rfl (fun hc44 => ?_) (fun hc44 => ?_)
              · replace hc44 : (60 : Int) ≤ z43 := hc44
                refine w_const (n := 0) (npc := 144) rfl ?_
                exact w_zret rfl (by omega) (⟨rfl, rfl, rfl, hI36, hF38, hR39, 0, rfl, by
      obtain ⟨d1, d2, d3, d4, d5, d6⟩ := hv64
      exact ⟨by rw [← gv_fr hG37 (by first | omega | (simp only; omega))]; exact d3, by rw [← gv_fr hG37 (by first | omega | (simp only; omega))]; exact d4, by rw [← gv_fr hG37 (by first | omega | (simp only; omega))]; exact d5, fun k k0 k1 => by rw [← gv_fr hG37 (by first | omega | (simp only; omega))]; exact d6 k k0 k1, by omega, by omega, by omega⟩⟩) (by omega) (by omega)
              · replace hc44 : ¬ ((60 : Int) ≤ z43) := hc44
                refine w_aload (i := 0) (npc := 130) rfl rfl rfl ?_
                refine w_iload (i := 1) (npc := 131) rfl rfl ?_
                refine w_virt (ci := 8) (i := 81) (npc := 134) (a := [cr 81, ai_i p]) (rest := []) rfl rfl (hI36.pl (by decide)) (hI36.T (by decide) rfl) rfl rfl rfl rfl (ct_m_ageOf (sl := sl) (x := x) (d := d + 0) (p) hI36 (by omega) hR39.1) (Or.inl rfl) (fun k9 v9 T9 E46 nx9 kc9 ks9 hq45 hk9 hs9 => ?_)
                obtain ⟨rfl, rfl, rfl, rfl, z47, rfl, hz47⟩ := hq45
                obtain rfl : kc = kc9 := by omega
                obtain rfl : ks = ks9 := by omega
                refine Or.inr (Or.inl ⟨rfl, ?_⟩)
                have hage : z31 ≤ z47 := by
                  rcases hz31.2.2.2 with q | ⟨w', n', a1, a2, a3, a4, a5⟩
                  · omega
                  · have e1 := gv_fr hG37 (i := 81) (k := 1) (by simp)
                    have e2 := gv_fr hG37 (i := 83) (k := (5 * p + w').toNat) (by simp)
                    have e4 := hz31.1
                    have e5 := gv_fr hF64 (i := 83) (k := (5 * p + w').toNat) (by simp)
                    obtain ⟨zq, hzq, hzqa, hzqb⟩ := hI64.int 83 (5 * p + w').toNat (lo := 0) (hi := 60) (by decide) (show (5 * p + w').toNat < 25 by omega) rfl
                    have e6 := gv_eq hzq
                    have e3 := gv_fr hG37 (i := 82) (k := (166 * ((5 * p + w') * 60 + n' - 1) + 8).toNat) (by first | omega | (simp only; omega))
                    have := hz47.2.2.1 w' n' a1 (by omega) a3 (by omega)
                    omega
                refine w_const (n := 65535) (npc := 136) rfl ?_
                refine w_icmp (c := .ge) (npc := 139) (pt := 143) rfl (fun hc48 => ?_) (fun hc48 => ?_)
                · replace hc48 : (65535 : Int) ≤ z47 := hc48
                  refine w_const (n := 0) (npc := 144) rfl ?_
                  exact w_zret rfl (by omega) (⟨rfl, rfl, rfl, hI36, hF38, hR39, 0, rfl, by
      obtain ⟨d1, d2, d3, d4, d5, d6⟩ := hv64
      exact ⟨by rw [← gv_fr hG37 (by first | omega | (simp only; omega))]; exact d3, by rw [← gv_fr hG37 (by first | omega | (simp only; omega))]; exact d4, by rw [← gv_fr hG37 (by first | omega | (simp only; omega))]; exact d5, fun k k0 k1 => by rw [← gv_fr hG37 (by first | omega | (simp only; omega))]; exact d6 k k0 k1, by omega, by omega, by omega⟩⟩) (by omega) (by omega)
                · replace hc48 : ¬ ((65535 : Int) ≤ z47) := hc48
                  refine w_const (n := 1) (npc := 140) rfl ?_
                  refine w_goto (pt := 144) rfl ?_
                  exact w_zret rfl (by omega) (⟨rfl, rfl, rfl, hI36, hF38, hR39, 1, rfl, by
      obtain ⟨d1, d2, d3, d4, d5, d6⟩ := hv64
      exact ⟨by rw [← gv_fr hG37 (by first | omega | (simp only; omega))]; exact d3, by rw [← gv_fr hG37 (by first | omega | (simp only; omega))]; exact d4, by rw [← gv_fr hG37 (by first | omega | (simp only; omega))]; exact d5, fun k k0 k1 => by rw [← gv_fr hG37 (by first | omega | (simp only; omega))]; exact d6 k k0 k1, by omega, by omega, by omega⟩⟩) (by omega) (by omega)
            · replace hc28 : ¬ (z27 ≤ w) := hc28
              refine w_aload (i := 0) (npc := 73) rfl rfl rfl ?_
              refine w_const (n := 3200) (npc := 76) rfl ?_
              refine w_const (n := 3) (npc := 77) rfl ?_
              refine w_iload (i := 3) (npc := 78) rfl rfl ?_
              refine w_iadd (npc := 79) rfl (by omega) ?_
              refine w_aload (i := 0) (npc := 80) rfl rfl rfl ?_
              refine w_getf (i := 81) (ci := 8) (k := 3) (npc := 83) rfl (hI64.pl (by decide)) (hI64.T (by decide) rfl) (by decide) (hI64.ref 81 3 (p := 83) (by decide) (by decide) rfl) ?_
              refine w_const (n := 5) (npc := 84) rfl ?_
              refine w_iload (i := 1) (npc := 85) rfl rfl ?_
              refine w_imul (npc := 86) rfl (by omega) ?_
              refine w_iload (i := 3) (npc := 87) rfl rfl ?_
              refine w_iadd (npc := 88) rfl (by omega) ?_
              obtain ⟨z52, hz52, hz52a, hz52b⟩ := hI64.int 83 (5 * p + w : Int).toNat (lo := 0) (hi := 60) (by decide) (show (5 * p + w : Int).toNat < 25 by omega) rfl
              have ghz52 := gv_eq hz52
              have g0hz52 : gv E 83 (5 * p + w : Int).toNat = z52 := (gv_fr hF64 (by simp)).trans ghz52
              refine w_ald (i := 83) (t := 1) (n := 25) (npc := 89) rfl (hI64.pl (by decide)) (hI64.T (by decide) rfl) (by decide) rfl (by omega) hz52 ?_
              refine w_virt (ci := 8) (i := 81) (npc := 92) (a := [cr 81, ai_i 3200, ai_i (3 + w), ai_i z52]) (rest := []) rfl rfl (hI64.pl (by decide)) (hI64.T (by decide) rfl) rfl rfl rfl rfl (ct_m_put (sl := sl) (x := x) (d := d + 1) (3200) (3 + w) (z52) hI64 (by omega) (by omega) (by omega)) (Or.inl rfl) (fun k9 v9 T9 E54 nx9 kc9 ks9 hq53 hk9 hs9 => ?_)
              obtain ⟨rfl, rfl, rfl, hI56, hG57, hz55⟩ := hq53
              obtain rfl : kc = kc9 := by omega
              obtain rfl : ks = ks9 := by omega
              have hF58 := cm_fr.trans hF64 hG57 (by first | (simp; done) | (simp; omega) | (intro i k h; (try simp only at h); (try simp only); omega))
              have hR59 := rl.fr hR64 hG57 (by intro i k h; (try simp only at h); omega)
              have hz60 : E54 81 1 = ai_i z27 := (hG57 81 1 (by simp)).trans hz27
              have ghz60 := gv_eq hz60
              refine Or.inl ⟨rfl, ?_⟩
              refine w_iinc (i := 3) (n := 1) (npc := 95) (loc' := [cr 81, ai_i p, ai_i a, ai_i (w + 1)]) rfl rfl (by omega) rfl ?_
              refine w_goto (pt := 64) rfl ?_
              exact ih64 (w + 1) E54 (by omega) hI56 hF58 hR59 (by
      obtain ⟨d1, d2, d3, d4, d5, d6⟩ := hv64
      exact ⟨by omega, by omega, by rw [← gv_fr hG57 (by first | omega | (simp only; omega))]; exact d3, by rw [← gv_fr hG57 (by first | omega | (simp only; omega))]; exact d4, by rw [← gv_fr hG57 (by first | omega | (simp only; omega))]; exact d5, fun k k0 k1 => by rw [← gv_fr hG57 (by first | omega | (simp only; omega))]; exact d6 k k0 k1⟩)
        exact loop64 _ (0) E21 (Nat.lt_succ_self _) hI23 hF25 hR26 (⟨by omega, by omega, by rw [← gv_fr hG24 (by first | omega | (simp only; omega)), ← gv_fr hG13 (by first | omega | (simp only; omega))]; exact hz4, by rw [← gv_fr hG24 (by first | omega | (simp only; omega))]; exact hz11, by omega, fun k k0 k1 => by rw [← gv_fr hG24 (by first | omega | (simp only; omega)), ← gv_fr hG13 (by first | omega | (simp only; omega)), ← gv_fr hG6 (by first | omega | (simp only; omega))]; exact hv2.2.2 k (by omega) (by omega)⟩)
      · replace hc1 : ¬ ((166 : Int) ≤ i) := hc1
        refine w_aload (i := 0) (npc := 10) rfl rfl rfl ?_
        refine w_const (n := 3200) (npc := 13) rfl ?_
        refine w_iload (i := 3) (npc := 14) rfl rfl ?_
        refine w_const (n := 0) (npc := 15) rfl ?_
        refine w_virt (ci := 8) (i := 81) (npc := 18) (a := [cr 81, ai_i 3200, ai_i i, ai_i 0]) (rest := []) rfl rfl (hI2.pl (by decide)) (hI2.T (by decide) rfl) rfl rfl rfl rfl (ct_m_put (sl := sl) (x := x) (d := d + 1) (3200) (i) (0) hI2 (by omega) (by omega) (by omega)) (Or.inl rfl) (fun k9 v9 T9 E63 nx9 kc9 ks9 hq62 hk9 hs9 => ?_)
        obtain ⟨rfl, rfl, rfl, hI65, hG66, hz64⟩ := hq62
        obtain rfl : kc = kc9 := by omega
        obtain rfl : ks = ks9 := by omega
        have hF67 := cm_fr.trans hF2 hG66 (by first | (simp; done) | (simp; omega) | (intro i k h; (try simp only at h); (try simp only); omega))
        have hR68 := rl.fr hR2 hG66 (by intro i k h; (try simp only at h); omega)
        refine Or.inl ⟨rfl, ?_⟩
        refine w_iinc (i := 3) (n := 1) (npc := 21) (loc' := [cr 81, ai_i p, ai_i a, ai_i (i + 1)]) rfl rfl (by omega) rfl ?_
        refine w_goto (pt := 2) rfl ?_
        exact ih2 (i + 1) E63 (by omega) hI65 hF67 hR68 (⟨by omega, by omega, fun k k0 k1 => by
      by_cases hk : k = i
      · rw [hk]; exact hz64
      · rw [← gv_fr hG66 (by first | omega | (simp only; omega))]; exact hv2.2.2 k k0 (by omega)⟩)
  exact loop2 _ (0) E (Nat.lt_succ_self _) hI hF hR (⟨by omega, by omega, fun k k0 k1 => by omega⟩)
