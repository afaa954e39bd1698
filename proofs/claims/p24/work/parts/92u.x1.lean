set_option maxRecDepth 16384 in
theorem ct_c_writers24 {sl : Int × Int} {x : ai_E} {d : Nat} {T : cm_T} {E : cm_E} {nx : Nat} (n : Int)  (hI : cs_I T E nx) (hN : hn E) : cm_ct (ai_ev sl (d + 3)) x 43 [cr 0, ai_i n] T E nx 4 430 (fun rk rv T' E' nx' => (rk = 3 ∧ T = T' ∧ nx = nx' ∧ cs_I T E' nx ∧ cm_fr (fun i k => i < 81 ∧ ¬ (23 ≤ i ∧ i ≤ 40) ∧ ¬ (i = 0 ∧ (k = 11))) E E' ∧ hn E' ∧ (¬ (1 ≤ n ∧ n ≤ 5) ∧ gv E' 0 10 = gv E 0 10 ∧ gv E' 0 14 = gv E 0 14)) ∨ (rk = 0 ∧ T = T' ∧ nx = nx' ∧ cs_I T E' nx ∧ cm_fr (fun i k => i < 81 ∧ ¬ (23 ≤ i ∧ i ≤ 40) ∧ ¬ (i = 0 ∧ (k = 11))) E E' ∧ hn E' ∧ ((1 ≤ n ∧ n ≤ 5) ∧ gv E' 0 10 = n ∧ gv E' 0 14 = 0))) := by
  refine cm_body (M := ai_m43) rfl rfl (fun kc ks => ?_)
  show cm_wp (ai_find ai_c43 sl) (ai_ev sl (d + 2)) x (kc + 4) (ks + 430) _ 0 [cr 0, ai_i n, ai_un] [] T E nx kc ks
  have hF : cm_fr (fun i k => i < 81 ∧ ¬ (23 ≤ i ∧ i ≤ 40) ∧ ¬ (i = 0 ∧ (k = 11))) E E := fun _ _ _ => rfl
  refine w_iload (i := 1) (npc := 1) rfl rfl ?_
  refine w_const (n := 1) (npc := 2) rfl ?_
  refine w_icmp (c := .lt) (npc := 5) (pt := 10) rfl (fun hc1 => ?_) (fun hc1 => ?_)
  · replace hc1 : n < (1 : Int) := hc1
    exact w_throw (k := 3) rfl (Or.inl ⟨rfl, rfl, rfl, hI, hF, hN, by omega⟩) (by omega) (by omega)
  · replace hc1 : ¬ (n < (1 : Int)) := hc1
    refine w_iload (i := 1) (npc := 6) rfl rfl ?_
    refine w_const (n := 5) (npc := 7) rfl ?_
    refine w_icmp (c := .le) (npc := 10) (pt := 20) rfl (fun hc2 => ?_) (fun hc2 => ?_)
    · replace hc2 : n ≤ (5 : Int) := hc2
      refine w_aload (i := 0) (npc := 21) (v := cr 0) rfl rfl rfl ?_
      refine w_iload (i := 1) (npc := 22) rfl rfl ?_
      refine w_putf (i := 0) (ci := 7) (k := 10) (t := 0) (npc := 25) rfl (hI.pl (by decide)) (hI.T (by decide) rfl) (by decide) cm_fit0 ?_
      have hI4 := hI.puti (i := 0) (k := 10) (z := n) (lo := 1) (hi := 5) (by decide) rfl (by omega)
      have hF6 := cm_fr.up (i := 0) (k := 10) (v := ai_i n) hF (by first | omega | (simp; done) | (simp; omega) | (simp only; omega))
      have hN7 := hn.wr (i := 0) (k := 10) (v := ai_i n) hN (by omega)
      generalize hE5 : cm_up E 0 10 (ai_i n) = E3 at hI4 hF6 hN7 ⊢
      have hz8 : E3 0 10 = ai_i n := by rw [← hE5, cm_up_eq]
      have ghz8 := gv_eq hz8
      refine w_const (n := 0) (npc := 26) rfl ?_
      refine w_istore (i := 2) (npc := 27) (loc' := [cr 0, ai_i n, ai_i 0]) rfl rfl ?_
      have loop27 : ∀ (nf : Nat) (w : Int) (Eq27 : cm_E), ((5 - w).toNat) < nf → cs_I T Eq27 nx → cm_fr (fun i k => i < 81 ∧ ¬ (23 ≤ i ∧ i ≤ 40) ∧ ¬ (i = 0 ∧ (k = 11))) E Eq27 → hn Eq27 → (0 ≤ w ∧ w ≤ 5 ∧ gv Eq27 0 10 = n) → cm_wp (ai_find ai_c43 sl) (ai_ev sl (d + 2)) x (kc + 4) (ks + 430) (fun rk rv T' E' nx' => (rk = 3 ∧ T = T' ∧ nx = nx' ∧ cs_I T E' nx ∧ cm_fr (fun i k => i < 81 ∧ ¬ (23 ≤ i ∧ i ≤ 40) ∧ ¬ (i = 0 ∧ (k = 11))) E E' ∧ hn E' ∧ (¬ (1 ≤ n ∧ n ≤ 5) ∧ gv E' 0 10 = gv E 0 10 ∧ gv E' 0 14 = gv E 0 14)) ∨ (rk = 0 ∧ T = T' ∧ nx = nx' ∧ cs_I T E' nx ∧ cm_fr (fun i k => i < 81 ∧ ¬ (23 ≤ i ∧ i ≤ 40) ∧ ¬ (i = 0 ∧ (k = 11))) E E' ∧ hn E' ∧ ((1 ≤ n ∧ n ≤ 5) ∧ gv E' 0 10 = n ∧ gv E' 0 14 = 0))) 27 [cr 0, ai_i n, ai_i w] [] T Eq27 nx kc ks := by
        intro nf
        induction nf with
        | zero => intro w Eq27 hm; exact absurd hm (Nat.not_lt_zero _)
        | succ nf27 ih =>
          intro w Eq27 hm27 hI27 hF27 hN27 hv27
          obtain ⟨z9, hz9, hz9a, hz9b⟩ := hI27.int 0 10 (lo := 1) (hi := 5) (by decide) (by decide) rfl
          have ghz9 := gv_eq hz9
          have ih27 := ih; clear ih
          refine w_iload (i := 2) (npc := 28) rfl rfl ?_
          refine w_const (n := 5) (npc := 29) rfl ?_
          refine w_icmp (c := .ge) (npc := 32) (pt := 47) rfl (fun hc10 => ?_) (fun hc10 => ?_)
          · replace hc10 : (5 : Int) ≤ w := hc10
            refine w_aload (i := 0) (npc := 48) (v := cr 0) rfl rfl rfl ?_
            refine w_const (n := 0) (npc := 49) rfl ?_
            refine w_putf (i := 0) (ci := 7) (k := 14) (t := 1) (npc := 52) rfl (hI27.pl (by decide)) (hI27.T (by decide) rfl) (by decide) (cm_fit1 (by omega)) ?_
            have hI12 := hI27.puti (i := 0) (k := 14) (z := 0) (lo := 0) (hi := 1) (by decide) rfl (by omega)
            have hF14 := cm_fr.up (i := 0) (k := 14) (v := ai_i 0) hF27 (by first | omega | (simp; done) | (simp; omega) | (simp only; omega))
            have hN15 := hn.wr (i := 0) (k := 14) (v := ai_i 0) hN27 (by omega)
            generalize hE13 : cm_up Eq27 0 14 (ai_i 0) = E11 at hI12 hF14 hN15 ⊢
            have hz16 : E11 0 10 = ai_i z9 := by rw [← hE13, cm_up_ne _ _ (by decide)]; exact hz9
            have ghz16 := gv_eq hz16
            have hz17 : E11 0 14 = ai_i 0 := by rw [← hE13, cm_up_eq]
            have ghz17 := gv_eq hz17
            refine w_aload (i := 0) (npc := 53) (v := cr 0) rfl rfl rfl ?_
            refine w_const (n := (-1)) (npc := 54) rfl ?_
            refine w_putf (i := 0) (ci := 7) (k := 13) (t := 0) (npc := 57) rfl (hI12.pl (by decide)) (hI12.T (by decide) rfl) (by decide) cm_fit0 ?_
            have hI19 := hI12.puti (i := 0) (k := 13) (z := (-1)) (lo := (-1)) (hi := 4) (by decide) rfl (by omega)
            have hF21 := cm_fr.up (i := 0) (k := 13) (v := ai_i ((-1))) hF14 (by first | omega | (simp; done) | (simp; omega) | (simp only; omega))
            have hN22 := hn.wr (i := 0) (k := 13) (v := ai_i ((-1))) hN15 (by omega)
            generalize hE20 : cm_up E11 0 13 (ai_i ((-1))) = E18 at hI19 hF21 hN22 ⊢
            have hz23 : E18 0 10 = ai_i z9 := by rw [← hE20, cm_up_ne _ _ (by decide)]; exact hz16
            have ghz23 := gv_eq hz23
            have hz24 : E18 0 14 = ai_i 0 := by rw [← hE20, cm_up_ne _ _ (by decide)]; exact hz17
            have ghz24 := gv_eq hz24
            have hz25 : E18 0 13 = ai_i ((-1)) := by rw [← hE20, cm_up_eq]
            have ghz25 := gv_eq hz25
            exact w_vret rfl (Or.inr (⟨rfl, rfl, rfl, hI19, hF21, hN22, by omega⟩)) (by omega) (by omega)
          · replace hc10 : ¬ ((5 : Int) ≤ w) := hc10
            refine w_aload (i := 0) (npc := 33) (v := cr 0) rfl rfl rfl ?_
            refine w_getf (i := 0) (ci := 7) (k := 0) (npc := 36) rfl (hI27.pl (by decide)) (hI27.T (by decide) rfl) (by decide) (hI27.ref 0 0 (p := 1) (by decide) (by decide) rfl) ?_
            refine w_iload (i := 2) (npc := 37) rfl rfl ?_
            obtain ⟨b26, hb27e⟩ : ∃ b26 : Nat, b26 = 41 + 8 * (w : Int).toNat := ⟨_, rfl⟩
            have hb27 : 41 ≤ b26 ∧ b26 ≤ 77 ∧ b26 % 4 = 1 := by omega
            refine w_ald (i := 1) (t := 4) (n := 5) (npc := 38) rfl (hI27.pl (by decide)) (hI27.T (by decide) rfl) (by decide) rfl (by omega) (v := cr b26) (by rw [hb27e]; exact hI27.pages (by omega)) ?_
            refine w_virt (ci := 3) (i := b26) (npc := 41) (a := [cr b26]) (rest := []) rfl rfl (hI27.pl (by omega)) (hI27.pgT0 hb27) rfl rfl rfl rfl (ct_pg_empty (sl := sl) (x := x) (d := d + 0)  (b := b26) hb27 hI27 hN27) (Or.inl rfl) (fun k9 v9 T29 E29 nx29 kc29 ks29 hq28 hk29 hv29 => ?_)
            obtain ⟨rfl, rfl, rfl, hI31, hG32, hN33, hz30⟩ := hq28
            obtain rfl : kc = kc29 := by omega
            obtain rfl : ks = ks29 := by omega
            have hF34 := cm_fr.trans hF27 hG32 (by intro i k h; (try simp only at h); (try simp only); omega)
            have hz35 : E29 0 10 = ai_i z9 := (hG32 0 10 (by first | omega | (simp; done) | (simp; omega) | (simp only; omega))).trans hz9
            have ghz35 := gv_eq hz35
            refine Or.inl ⟨rfl, ?_⟩
            refine w_iinc (i := 2) (n := 1) (npc := 44) (loc' := [cr 0, ai_i n, ai_i (w + 1)]) rfl rfl (by omega) rfl ?_
            refine w_goto (pt := 27) rfl ?_
            exact ih27 (w + 1) E29 (by omega) hI31 hF34 hN33 (by omega)
      exact loop27 _ (0) E3 (Nat.lt_succ_self _) hI4 hF6 hN7 (by omega)
    · replace hc2 : ¬ (n ≤ (5 : Int)) := hc2
      exact w_throw (k := 3) rfl (Or.inl ⟨rfl, rfl, rfl, hI, hF, hN, by omega⟩) (by omega) (by omega)
set_option maxRecDepth 16384 in
theorem ct_c_count24 {sl : Int × Int} {x : ai_E} {d : Nat} {T : cm_T} {E : cm_E} {nx : Nat} (c : Int)  (hI : cs_I T E nx) (hN : hn E) : cm_ct (ai_ev sl (d + 1)) x 7 [cr 0, ai_i c] T E nx 4 430 (fun rk rv T' E' nx' => (rk = 2 ∧ T = T' ∧ nx = nx' ∧ cs_I T E' nx ∧ cm_fr (fun i k => i < 81 ∧ ¬ (23 ≤ i ∧ i ≤ 40) ∧ ¬ (i = 0 ∧ (k = 10 ∨ k = 11 ∨ k = 14))) E E' ∧ hn E' ∧ (True)) ∨ (rk = 1 ∧ T = T' ∧ nx = nx' ∧ cs_I T E' nx ∧ cm_fr (fun i k => i < 81 ∧ ¬ (23 ≤ i ∧ i ≤ 40) ∧ ¬ (i = 0 ∧ (k = 10 ∨ k = 11 ∨ k = 14))) E E' ∧ hn E' ∧ ∃ z : Int, rv = ai_i z ∧ (True))) := by
  refine cm_body (M := ai_m7) rfl rfl (fun kc ks => ?_)
  show cm_wp (ai_find ai_c7 sl) (ai_ev sl (d + 0)) x (kc + 4) (ks + 430) _ 0 [cr 0, ai_i c] [] T E nx kc ks
  have hF : cm_fr (fun i k => i < 81 ∧ ¬ (23 ≤ i ∧ i ≤ 40) ∧ ¬ (i = 0 ∧ (k = 10 ∨ k = 11 ∨ k = 14))) E E := fun _ _ _ => rfl
  refine w_iload (i := 1) (npc := 1) rfl rfl ?_
  rcases (show (c < 0 ∨ 6 < c) ∨ c = 0 + ((0 : Nat) : Int) ∨ c = 0 + ((1 : Nat) : Int) ∨ c = 0 + ((2 : Nat) : Int) ∨ c = 0 + ((3 : Nat) : Int) ∨ c = 0 + ((4 : Nat) : Int) ∨ c = 0 + ((5 : Nat) : Int) ∨ c = 0 + ((6 : Nat) : Int) by omega) with hs1 | hs1 | hs1 | hs1 | hs1 | hs1 | hs1 | hs1
  · refine w_swd rfl rfl hs1 ?_
    exact w_throw (k := 2) rfl (Or.inl ⟨rfl, rfl, rfl, hI, hF, hN, trivial⟩) (by omega) (by omega)
  · refine w_swc 0 (pt := 44) rfl rfl hs1 (by decide) rfl ?_
    refine w_aload (i := 0) (npc := 45) (v := cr 0) rfl rfl rfl ?_
    obtain ⟨z2, hz2, hz2a, hz2b⟩ := hI.int 0 10 (lo := 1) (hi := 5) (by decide) (by decide) rfl
    have ghz2 := gv_eq hz2
    refine w_getf (i := 0) (ci := 7) (k := 10) (npc := 48) rfl (hI.pl (by decide)) (hI.T (by decide) rfl) (by decide) hz2 ?_
    exact w_iret rfl (Or.inr (⟨rfl, rfl, rfl, hI, hF, hN, z2, rfl, trivial⟩)) (by omega) (by omega)
  · refine w_swc 1 (pt := 49) rfl rfl hs1 (by decide) rfl ?_
    refine w_aload (i := 0) (npc := 50) (v := cr 0) rfl rfl rfl ?_
    obtain ⟨z3, hz3, hz3a, hz3b⟩ := hI.int 0 11 (lo := 0) (hi := 400) (by decide) (by decide) rfl
    have ghz3 := gv_eq hz3
    refine w_getf (i := 0) (ci := 7) (k := 11) (npc := 53) rfl (hI.pl (by decide)) (hI.T (by decide) rfl) (by decide) hz3 ?_
    exact w_iret rfl (Or.inr (⟨rfl, rfl, rfl, hI, hF, hN, z3, rfl, trivial⟩)) (by omega) (by omega)
  · refine w_swc 2 (pt := 54) rfl rfl hs1 (by decide) rfl ?_
    refine w_aload (i := 0) (npc := 55) (v := cr 0) rfl rfl rfl ?_
    refine w_getf (i := 0) (ci := 7) (k := 2) (npc := 58) rfl (hI.pl (by decide)) (hI.T (by decide) rfl) (by decide) (hI.ref 0 2 (p := 3) (by decide) (by decide) rfl) ?_
    refine w_const (n := 0) (npc := 59) rfl ?_
    obtain ⟨z4, hz4, hz4a, hz4b⟩ := hI.int 3 (0 : Int).toNat (lo := (-2147483648)) (hi := 2147483647) (by decide) (show (0 : Int).toNat < 3 by omega) rfl
    have ghz4 := gv_eq hz4
    refine w_ald (i := 3) (t := 1) (n := 3) (npc := 60) rfl (hI.pl (by decide)) (hI.T (by decide) rfl) (by decide) rfl (by omega) hz4 ?_
    exact w_iret rfl (Or.inr (⟨rfl, rfl, rfl, hI, hF, hN, z4, rfl, trivial⟩)) (by omega) (by omega)
  · refine w_swc 3 (pt := 61) rfl rfl hs1 (by decide) rfl ?_
    refine w_aload (i := 0) (npc := 62) (v := cr 0) rfl rfl rfl ?_
    refine w_getf (i := 0) (ci := 7) (k := 2) (npc := 65) rfl (hI.pl (by decide)) (hI.T (by decide) rfl) (by decide) (hI.ref 0 2 (p := 3) (by decide) (by decide) rfl) ?_
    refine w_const (n := 1) (npc := 66) rfl ?_
    obtain ⟨z5, hz5, hz5a, hz5b⟩ := hI.int 3 (1 : Int).toNat (lo := (-2147483648)) (hi := 2147483647) (by decide) (show (1 : Int).toNat < 3 by omega) rfl
    have ghz5 := gv_eq hz5
    refine w_ald (i := 3) (t := 1) (n := 3) (npc := 67) rfl (hI.pl (by decide)) (hI.T (by decide) rfl) (by decide) rfl (by omega) hz5 ?_
    exact w_iret rfl (Or.inr (⟨rfl, rfl, rfl, hI, hF, hN, z5, rfl, trivial⟩)) (by omega) (by omega)
  · refine w_swc 4 (pt := 68) rfl rfl hs1 (by decide) rfl ?_
    refine w_aload (i := 0) (npc := 69) (v := cr 0) rfl rfl rfl ?_
    refine w_getf (i := 0) (ci := 7) (k := 2) (npc := 72) rfl (hI.pl (by decide)) (hI.T (by decide) rfl) (by decide) (hI.ref 0 2 (p := 3) (by decide) (by decide) rfl) ?_
    refine w_const (n := 2) (npc := 73) rfl ?_
    obtain ⟨z6, hz6, hz6a, hz6b⟩ := hI.int 3 (2 : Int).toNat (lo := (-2147483648)) (hi := 2147483647) (by decide) (show (2 : Int).toNat < 3 by omega) rfl
    have ghz6 := gv_eq hz6
    refine w_ald (i := 3) (t := 1) (n := 3) (npc := 74) rfl (hI.pl (by decide)) (hI.T (by decide) rfl) (by decide) rfl (by omega) hz6 ?_
    exact w_iret rfl (Or.inr (⟨rfl, rfl, rfl, hI, hF, hN, z6, rfl, trivial⟩)) (by omega) (by omega)
  · refine w_swc 5 (pt := 75) rfl rfl hs1 (by decide) rfl ?_
    refine w_aload (i := 0) (npc := 76) (v := cr 0) rfl rfl rfl ?_
    refine w_getf (i := 0) (ci := 7) (k := 9) (npc := 79) rfl (hI.pl (by decide)) (hI.T (by decide) rfl) (by decide) (hI.ref 0 9 (p := 23) (by decide) (by decide) rfl) ?_
    obtain ⟨z7, hz7, hz7a, hz7b⟩ := hI.int 23 9 (lo := 0) (hi := 8) (by decide) (by decide) rfl
    have ghz7 := gv_eq hz7
    refine w_getf (i := 23) (ci := 5) (k := 9) (npc := 82) rfl (hI.pl (by decide)) (hI.T (by decide) rfl) (by decide) hz7 ?_
    exact w_iret rfl (Or.inr (⟨rfl, rfl, rfl, hI, hF, hN, z7, rfl, trivial⟩)) (by omega) (by omega)
  · refine w_swc 6 (pt := 83) rfl rfl hs1 (by decide) rfl ?_
    refine w_aload (i := 0) (npc := 84) (v := cr 0) rfl rfl rfl ?_
    refine w_getf (i := 0) (ci := 7) (k := 9) (npc := 87) rfl (hI.pl (by decide)) (hI.T (by decide) rfl) (by decide) (hI.ref 0 9 (p := 23) (by decide) (by decide) rfl) ?_
    obtain ⟨z8, hz8, hz8a, hz8b⟩ := hI.int 23 8 (lo := 0) (hi := 12) (by decide) (by decide) rfl
    have ghz8 := gv_eq hz8
    refine w_getf (i := 23) (ci := 5) (k := 8) (npc := 90) rfl (hI.pl (by decide)) (hI.T (by decide) rfl) (by decide) hz8 ?_
    exact w_iret rfl (Or.inr (⟨rfl, rfl, rfl, hI, hF, hN, z8, rfl, trivial⟩)) (by omega) (by omega)
set_option maxRecDepth 16384 in
theorem ct_c_page24 {sl : Int × Int} {x : ai_E} {d : Nat} {T : cm_T} {E : cm_E} {nx : Nat} (p c : Int)  (hI : cs_I T E nx) (hN : hn E) (hp0 : -2147483648 ≤ c ∧ c ≤ 2147483647) : cm_ct (ai_ev sl (d + 8)) x 24 [cr 0, ai_i p, ai_i c] T E nx 4 430 (fun rk rv T' E' nx' => (rk = 2 ∧ T = T' ∧ nx = nx' ∧ cs_I T E' nx ∧ cm_fr (fun i k => i < 81 ∧ ¬ (23 ≤ i ∧ i ≤ 40) ∧ ¬ (i = 0 ∧ (k = 10 ∨ k = 11 ∨ k = 14))) E E' ∧ hn E' ∧ (True)) ∨ (rk = 1 ∧ T = T' ∧ nx = nx' ∧ cs_I T E' nx ∧ cm_fr (fun i k => i < 81 ∧ ¬ (23 ≤ i ∧ i ≤ 40) ∧ ¬ (i = 0 ∧ (k = 10 ∨ k = 11 ∨ k = 14))) E E' ∧ hn E' ∧ ∃ z : Int, rv = ai_i z ∧ (True))) := by
  refine cm_body (M := ai_m24) rfl rfl (fun kc ks => ?_)
  show cm_wp (ai_find ai_c24 sl) (ai_ev sl (d + 7)) x (kc + 4) (ks + 430) _ 0 [cr 0, ai_i p, ai_i c, ai_un] [] T E nx kc ks
  have hF : cm_fr (fun i k => i < 81 ∧ ¬ (23 ≤ i ∧ i ≤ 40) ∧ ¬ (i = 0 ∧ (k = 10 ∨ k = 11 ∨ k = 14))) E E := fun _ _ _ => rfl
  obtain ⟨z1, hz1, hz1a, hz1b⟩ := hI.int 0 10 (lo := 1) (hi := 5) (by decide) (by decide) rfl
  have ghz1 := gv_eq hz1
  refine w_aload (i := 0) (npc := 1) (v := cr 0) rfl rfl rfl ?_
  refine w_iload (i := 1) (npc := 2) rfl rfl ?_
  refine w_virt (ci := 7) (i := 0) (npc := 5) (a := [cr 0, ai_i p]) (rest := []) rfl rfl (hI.pl (by decide)) (hI.T (by decide) rfl) rfl rfl rfl rfl (ct_c_pageAt (sl := sl) (x := x) (d := d + 6) (p) hI) (Or.inl rfl) (fun k9 v9 T3 E3 nx3 kc3 ks3 hq2 hk3 hv3 => ?_)
  rcases hq2 with hq2 | hq2
  · obtain ⟨rfl, rfl, rfl, rfl, hz4⟩ := hq2
    exact Or.inr (Or.inr (Or.inl ⟨rfl, rfl, Or.inl ⟨rfl, rfl, rfl, hI, hF, hN, trivial⟩, by omega, by omega⟩))
  obtain ⟨rfl, rfl, rfl, rfl, b8, rfl, hz4⟩ := hq2
  have hb9 : 41 ≤ b8 ∧ b8 ≤ 77 ∧ b8 % 4 = 1 := by omega
  refine Or.inr (Or.inl ⟨rfl, ?_⟩)
  refine w_astore (i := 3) (npc := 6) (loc' := [cr 0, ai_i p, ai_i c, cr b8]) rfl rfl rfl ?_
  refine w_iload (i := 2) (npc := 7) rfl rfl ?_
  refine w_const (n := 10) (npc := 9) rfl ?_
  refine w_icmp (c := .lt) (npc := 12) (pt := 32) rfl (fun hc10 => ?_) (fun hc10 => ?_)
  · replace hc10 : c < (10 : Int) := hc10
    refine w_iload (i := 2) (npc := 33) rfl rfl ?_
    rcases (show (c < 0 ∨ 4 < c) ∨ c = 0 + ((0 : Nat) : Int) ∨ c = 0 + ((1 : Nat) : Int) ∨ c = 0 + ((2 : Nat) : Int) ∨ c = 0 + ((3 : Nat) : Int) ∨ c = 0 + ((4 : Nat) : Int) by omega) with hs11 | hs11 | hs11 | hs11 | hs11 | hs11
    · refine w_swd rfl rfl hs11 ?_
      exact w_throw (k := 2) rfl (Or.inl ⟨rfl, rfl, rfl, hI, hF, hN, trivial⟩) (by omega) (by omega)
    · refine w_swc 0 (pt := 68) rfl rfl hs11 (by decide) rfl ?_
      refine w_aload (i := 0) (npc := 69) (v := cr 0) rfl rfl rfl ?_
      refine w_iload (i := 1) (npc := 70) rfl rfl ?_
      refine w_virt (ci := 7) (i := 0) (npc := 73) (a := [cr 0, ai_i p]) (rest := []) rfl rfl (hI.pl (by decide)) (hI.T (by decide) rfl) rfl rfl rfl rfl (ct_c_viewOf (sl := sl) (x := x) (d := d + 0) (p) hI (by omega)) (Or.inl rfl) (fun k9 v9 T13 E13 nx13 kc13 ks13 hq12 hk13 hv13 => ?_)
      obtain ⟨rfl, rfl, rfl, hI15, hG16, rfl, hz14⟩ := hq12
      obtain rfl : kc3 = kc13 := by omega
      obtain rfl : ks3 = ks13 := by omega
      have hF18 := cm_fr.trans hF hG16 (by intro i k h; (try simp only at h); (try simp only); omega)
      have hN19 := hN.fr hG16 (by intro i k h; (try simp only at h); omega)
      have hz20 : E13 0 10 = ai_i z1 := (hG16 0 10 (by first | omega | (simp; done) | (simp; omega) | (simp only; omega))).trans hz1
      have ghz20 := gv_eq hz20
      refine Or.inr (Or.inl ⟨rfl, ?_⟩)
      obtain ⟨z21, hz21, hz21a, hz21b⟩ := hI15.int 6 7 (lo := 0) (hi := 300) (by decide) (by decide) rfl
      have ghz21 := gv_eq hz21
      refine w_getf (i := 6) (ci := 6) (k := 7) (npc := 76) rfl (hI15.pl (by decide)) (hI15.T (by decide) rfl) (by decide) hz21 ?_
      exact w_iret rfl (Or.inr (⟨rfl, rfl, rfl, hI15, hF18, hN19, z21, rfl, trivial⟩)) (by omega) (by omega)
    · refine w_swc 1 (pt := 77) rfl rfl hs11 (by decide) rfl ?_
      refine w_aload (i := 0) (npc := 78) (v := cr 0) rfl rfl rfl ?_
      refine w_iload (i := 1) (npc := 79) rfl rfl ?_
      refine w_virt (ci := 7) (i := 0) (npc := 82) (a := [cr 0, ai_i p]) (rest := []) rfl rfl (hI.pl (by decide)) (hI.T (by decide) rfl) rfl rfl rfl rfl (ct_c_viewOf (sl := sl) (x := x) (d := d + 0) (p) hI (by omega)) (Or.inl rfl) (fun k9 v9 T23 E23 nx23 kc23 ks23 hq22 hk23 hv23 => ?_)
      obtain ⟨rfl, rfl, rfl, hI25, hG26, rfl, hz24⟩ := hq22
      obtain rfl : kc3 = kc23 := by omega
      obtain rfl : ks3 = ks23 := by omega
      have hF28 := cm_fr.trans hF hG26 (by intro i k h; (try simp only at h); (try simp only); omega)
      have hN29 := hN.fr hG26 (by intro i k h; (try simp only at h); omega)
      have hz30 : E23 0 10 = ai_i z1 := (hG26 0 10 (by first | omega | (simp; done) | (simp; omega) | (simp only; omega))).trans hz1
      have ghz30 := gv_eq hz30
      refine Or.inr (Or.inl ⟨rfl, ?_⟩)
      obtain ⟨z31, hz31, hz31a, hz31b⟩ := hI25.int 6 8 (lo := 0) (hi := 300) (by decide) (by decide) rfl
      have ghz31 := gv_eq hz31
      refine w_getf (i := 6) (ci := 6) (k := 8) (npc := 85) rfl (hI25.pl (by decide)) (hI25.T (by decide) rfl) (by decide) hz31 ?_
      exact w_iret rfl (Or.inr (⟨rfl, rfl, rfl, hI25, hF28, hN29, z31, rfl, trivial⟩)) (by omega) (by omega)
    · refine w_swc 2 (pt := 86) rfl rfl hs11 (by decide) rfl ?_
      refine w_aload (i := 3) (npc := 87) (v := cr b8) rfl rfl rfl ?_
      obtain ⟨z32, hz32, hz32a, hz32b⟩ := hI.pg4 hb9
      have ghz32 := gv_eq hz32
      refine w_getf (i := b8) (ci := 3) (k := 4) (npc := 90) rfl (hI.pl (by omega)) (hI.pgT0 hb9) (by decide) hz32 ?_
      exact w_iret rfl (Or.inr (⟨rfl, rfl, rfl, hI, hF, hN, z32, rfl, trivial⟩)) (by omega) (by omega)
    · refine w_swc 3 (pt := 91) rfl rfl hs11 (by decide) rfl ?_
      refine w_aload (i := 0) (npc := 92) (v := cr 0) rfl rfl rfl ?_
      refine w_iload (i := 1) (npc := 93) rfl rfl ?_
      refine w_virt (ci := 7) (i := 0) (npc := 96) (a := [cr 0, ai_i p]) (rest := []) rfl rfl (hI.pl (by decide)) (hI.T (by decide) rfl) rfl rfl rfl rfl (ct_c_viewOf (sl := sl) (x := x) (d := d + 0) (p) hI (by omega)) (Or.inl rfl) (fun k9 v9 T34 E34 nx34 kc34 ks34 hq33 hk34 hv34 => ?_)
      obtain ⟨rfl, rfl, rfl, hI36, hG37, rfl, hz35⟩ := hq33
      obtain rfl : kc3 = kc34 := by omega
      obtain rfl : ks3 = ks34 := by omega
      have hF39 := cm_fr.trans hF hG37 (by intro i k h; (try simp only at h); (try simp only); omega)
      have hN40 := hN.fr hG37 (by intro i k h; (try simp only at h); omega)
      have hz41 : E34 0 10 = ai_i z1 := (hG37 0 10 (by first | omega | (simp; done) | (simp; omega) | (simp only; omega))).trans hz1
      have ghz41 := gv_eq hz41
      refine Or.inr (Or.inl ⟨rfl, ?_⟩)
      refine w_aload (i := 3) (npc := 97) (v := cr b8) rfl rfl rfl ?_
      refine w_aload (i := 0) (npc := 98) (v := cr 0) rfl rfl rfl ?_
      refine w_getf (i := 0) (ci := 7) (k := 10) (npc := 101) rfl (hI36.pl (by decide)) (hI36.T (by decide) rfl) (by decide) hz41 ?_
      refine w_virt (ci := 6) (i := 6) (npc := 104) (a := [cr 6, cr b8, ai_i z1]) (rest := []) rfl rfl (hI36.pl (by decide)) (hI36.T (by decide) rfl) rfl rfl rfl rfl (ct_vw_countGone (sl := sl) (x := x) (d := d + 1) (z1) (b := b8) hb9 hI36 (by omega)) (Or.inl rfl) (fun k9 v9 T43 E43 nx43 kc43 ks43 hq42 hk43 hv43 => ?_)
      obtain ⟨rfl, rfl, rfl, hI45, hG46, z44, rfl, hz44⟩ := hq42
      obtain rfl : kc3 = kc43 := by omega
      obtain rfl : ks3 = ks43 := by omega
      have hF48 := cm_fr.trans hF39 hG46 (by intro i k h; (try simp only at h); (try simp only); omega)
      have hN49 := hN40.fr hG46 (by intro i k h; (try simp only at h); omega)
      have hz50 : E43 0 10 = ai_i z1 := (hG46 0 10 (by first | omega | (simp; done) | (simp; omega) | (simp only; omega))).trans hz41
      have ghz50 := gv_eq hz50
      refine Or.inr (Or.inl ⟨rfl, ?_⟩)
      exact w_iret rfl (Or.inr (⟨rfl, rfl, rfl, hI45, hF48, hN49, z44, rfl, trivial⟩)) (by omega) (by omega)
    · refine w_swc 4 (pt := 105) rfl rfl hs11 (by decide) rfl ?_
      refine w_aload (i := 3) (npc := 106) (v := cr b8) rfl rfl rfl ?_
      obtain ⟨z51, hz51, hz51a, hz51b⟩ := hI.pg5 hb9
      have ghz51 := gv_eq hz51
      refine w_getf (i := b8) (ci := 3) (k := 5) (npc := 109) rfl (hI.pl (by omega)) (hI.pgT0 hb9) (by decide) hz51 ?_
      exact w_iret rfl (Or.inr (⟨rfl, rfl, rfl, hI, hF, hN, z51, rfl, trivial⟩)) (by omega) (by omega)
  · replace hc10 : ¬ (c < (10 : Int)) := hc10
    refine w_iload (i := 2) (npc := 13) rfl rfl ?_
    refine w_const (n := 10) (npc := 15) rfl ?_
    refine w_isub (npc := 16) rfl (by omega) ?_
    refine w_aload (i := 0) (npc := 17) (v := cr 0) rfl rfl rfl ?_
    refine w_getf (i := 0) (ci := 7) (k := 10) (npc := 20) rfl (hI.pl (by decide)) (hI.T (by decide) rfl) (by decide) hz1 ?_
    refine w_icmp (c := .ge) (npc := 23) (pt := 32) rfl (fun hc53 => ?_) (fun hc53 => ?_)
    · replace hc53 : z1 ≤ c - 10 := hc53
      refine w_iload (i := 2) (npc := 33) rfl rfl ?_
      rcases (show (c < 0 ∨ 4 < c) ∨ c = 0 + ((0 : Nat) : Int) ∨ c = 0 + ((1 : Nat) : Int) ∨ c = 0 + ((2 : Nat) : Int) ∨ c = 0 + ((3 : Nat) : Int) ∨ c = 0 + ((4 : Nat) : Int) by omega) with hs54 | hs54 | hs54 | hs54 | hs54 | hs54
      · refine w_swd rfl rfl hs54 ?_
        exact w_throw (k := 2) rfl (Or.inl ⟨rfl, rfl, rfl, hI, hF, hN, trivial⟩) (by omega) (by omega)
      · refine w_swc 0 (pt := 68) rfl rfl hs54 (by decide) rfl ?_
        refine w_aload (i := 0) (npc := 69) (v := cr 0) rfl rfl rfl ?_
        refine w_iload (i := 1) (npc := 70) rfl rfl ?_
        refine w_virt (ci := 7) (i := 0) (npc := 73) (a := [cr 0, ai_i p]) (rest := []) rfl rfl (hI.pl (by decide)) (hI.T (by decide) rfl) rfl rfl rfl rfl (ct_c_viewOf (sl := sl) (x := x) (d := d + 0) (p) hI (by omega)) (Or.inl rfl) (fun k9 v9 T56 E56 nx56 kc56 ks56 hq55 hk56 hv56 => ?_)
        obtain ⟨rfl, rfl, rfl, hI58, hG59, rfl, hz57⟩ := hq55
        obtain rfl : kc3 = kc56 := by omega
        obtain rfl : ks3 = ks56 := by omega
        have hF61 := cm_fr.trans hF hG59 (by intro i k h; (try simp only at h); (try simp only); omega)
        have hN62 := hN.fr hG59 (by intro i k h; (try simp only at h); omega)
        have hz63 : E56 0 10 = ai_i z1 := (hG59 0 10 (by first | omega | (simp; done) | (simp; omega) | (simp only; omega))).trans hz1
        have ghz63 := gv_eq hz63
        refine Or.inr (Or.inl ⟨rfl, ?_⟩)
        obtain ⟨z64, hz64, hz64a, hz64b⟩ := hI58.int 6 7 (lo := 0) (hi := 300) (by decide) (by decide) rfl
        have ghz64 := gv_eq hz64
        refine w_getf (i := 6) (ci := 6) (k := 7) (npc := 76) rfl (hI58.pl (by decide)) (hI58.T (by decide) rfl) (by decide) hz64 ?_
        exact w_iret rfl (Or.inr (⟨rfl, rfl, rfl, hI58, hF61, hN62, z64, rfl, trivial⟩)) (by omega) (by omega)
      · refine w_swc 1 (pt := 77) rfl rfl hs54 (by decide) rfl ?_
        refine w_aload (i := 0) (npc := 78) (v := cr 0) rfl rfl rfl ?_
        refine w_iload (i := 1) (npc := 79) rfl rfl ?_
        refine w_virt (ci := 7) (i := 0) (npc := 82) (a := [cr 0, ai_i p]) (rest := []) rfl rfl (hI.pl (by decide)) (hI.T (by decide) rfl) rfl rfl rfl rfl (ct_c_viewOf (sl := sl) (x := x) (d := d + 0) (p) hI (by omega)) (Or.inl rfl) (fun k9 v9 T66 E66 nx66 kc66 ks66 hq65 hk66 hv66 => ?_)
        obtain ⟨rfl, rfl, rfl, hI68, hG69, rfl, hz67⟩ := hq65
        obtain rfl : kc3 = kc66 := by omega
        obtain rfl : ks3 = ks66 := by omega
        have hF71 := cm_fr.trans hF hG69 (by intro i k h; (try simp only at h); (try simp only); omega)
        have hN72 := hN.fr hG69 (by intro i k h; (try simp only at h); omega)
        have hz73 : E66 0 10 = ai_i z1 := (hG69 0 10 (by first | omega | (simp; done) | (simp; omega) | (simp only; omega))).trans hz1
        have ghz73 := gv_eq hz73
        refine Or.inr (Or.inl ⟨rfl, ?_⟩)
        obtain ⟨z74, hz74, hz74a, hz74b⟩ := hI68.int 6 8 (lo := 0) (hi := 300) (by decide) (by decide) rfl
        have ghz74 := gv_eq hz74
        refine w_getf (i := 6) (ci := 6) (k := 8) (npc := 85) rfl (hI68.pl (by decide)) (hI68.T (by decide) rfl) (by decide) hz74 ?_
        exact w_iret rfl (Or.inr (⟨rfl, rfl, rfl, hI68, hF71, hN72, z74, rfl, trivial⟩)) (by omega) (by omega)
      · refine w_swc 2 (pt := 86) rfl rfl hs54 (by decide) rfl ?_
        refine w_aload (i := 3) (npc := 87) (v := cr b8) rfl rfl rfl ?_
        obtain ⟨z75, hz75, hz75a, hz75b⟩ := hI.pg4 hb9
        have ghz75 := gv_eq hz75
        refine w_getf (i := b8) (ci := 3) (k := 4) (npc := 90) rfl (hI.pl (by omega)) (hI.pgT0 hb9) (by decide) hz75 ?_
        exact w_iret rfl (Or.inr (⟨rfl, rfl, rfl, hI, hF, hN, z75, rfl, trivial⟩)) (by omega) (by omega)
      · refine w_swc 3 (pt := 91) rfl rfl hs54 (by decide) rfl ?_
        refine w_aload (i := 0) (npc := 92) (v := cr 0) rfl rfl rfl ?_
        refine w_iload (i := 1) (npc := 93) rfl rfl ?_
        refine w_virt (ci := 7) (i := 0) (npc := 96) (a := [cr 0, ai_i p]) (rest := []) rfl rfl (hI.pl (by decide)) (hI.T (by decide) rfl) rfl rfl rfl rfl (ct_c_viewOf (sl := sl) (x := x) (d := d + 0) (p) hI (by omega)) (Or.inl rfl) (fun k9 v9 T77 E77 nx77 kc77 ks77 hq76 hk77 hv77 => ?_)
        obtain ⟨rfl, rfl, rfl, hI79, hG80, rfl, hz78⟩ := hq76
        obtain rfl : kc3 = kc77 := by omega
        obtain rfl : ks3 = ks77 := by omega
        have hF82 := cm_fr.trans hF hG80 (by intro i k h; (try simp only at h); (try simp only); omega)
        have hN83 := hN.fr hG80 (by intro i k h; (try simp only at h); omega)
        have hz84 : E77 0 10 = ai_i z1 := (hG80 0 10 (by first | omega | (simp; done) | (simp; omega) | (simp only; omega))).trans hz1
        have ghz84 := gv_eq hz84
        refine Or.inr (Or.inl ⟨rfl, ?_⟩)
        refine w_aload (i := 3) (npc := 97) (v := cr b8) rfl rfl rfl ?_
        refine w_aload (i := 0) (npc := 98) (v := cr 0) rfl rfl rfl ?_
        refine w_getf (i := 0) (ci := 7) (k := 10) (npc := 101) rfl (hI79.pl (by decide)) (hI79.T (by decide) rfl) (by decide) hz84 ?_
        refine w_virt (ci := 6) (i := 6) (npc := 104) (a := [cr 6, cr b8, ai_i z1]) (rest := []) rfl rfl (hI79.pl (by decide)) (hI79.T (by decide) rfl) rfl rfl rfl rfl (ct_vw_countGone (sl := sl) (x := x) (d := d + 1) (z1) (b := b8) hb9 hI79 (by omega)) (Or.inl rfl) (fun k9 v9 T86 E86 nx86 kc86 ks86 hq85 hk86 hv86 => ?_)
        obtain ⟨rfl, rfl, rfl, hI88, hG89, z87, rfl, hz87⟩ := hq85
        obtain rfl : kc3 = kc86 := by omega
        obtain rfl : ks3 = ks86 := by omega
        have hF91 := cm_fr.trans hF82 hG89 (by intro i k h; (try simp only at h); (try simp only); omega)
        have hN92 := hN83.fr hG89 (by intro i k h; (try simp only at h); omega)
        have hz93 : E86 0 10 = ai_i z1 := (hG89 0 10 (by first | omega | (simp; done) | (simp; omega) | (simp only; omega))).trans hz84
        have ghz93 := gv_eq hz93
        refine Or.inr (Or.inl ⟨rfl, ?_⟩)
        exact w_iret rfl (Or.inr (⟨rfl, rfl, rfl, hI88, hF91, hN92, z87, rfl, trivial⟩)) (by omega) (by omega)
      · refine w_swc 4 (pt := 105) rfl rfl hs54 (by decide) rfl ?_
        refine w_aload (i := 3) (npc := 106) (v := cr b8) rfl rfl rfl ?_
        obtain ⟨z94, hz94, hz94a, hz94b⟩ := hI.pg5 hb9
        have ghz94 := gv_eq hz94
        refine w_getf (i := b8) (ci := 3) (k := 5) (npc := 109) rfl (hI.pl (by omega)) (hI.pgT0 hb9) (by decide) hz94 ?_
        exact w_iret rfl (Or.inr (⟨rfl, rfl, rfl, hI, hF, hN, z94, rfl, trivial⟩)) (by omega) (by omega)
    · replace hc53 : ¬ (z1 ≤ c - 10) := hc53
      refine w_aload (i := 3) (npc := 24) (v := cr b8) rfl rfl rfl ?_
      refine w_iload (i := 2) (npc := 25) rfl rfl ?_
      refine w_const (n := 10) (npc := 27) rfl ?_
      refine w_isub (npc := 28) rfl (by omega) ?_
      refine w_virt (ci := 3) (i := b8) (npc := 31) (a := [cr b8, ai_i (c - 10)]) (rest := []) rfl rfl (hI.pl (by omega)) (hI.pgT0 hb9) rfl rfl rfl rfl (ct_pg_stepsOf (sl := sl) (x := x) (d := d + 6) (c - 10) (b := b8) hb9 hI) (Or.inl rfl) (fun k9 v9 T97 E97 nx97 kc97 ks97 hq96 hk97 hv97 => ?_)
      obtain ⟨rfl, rfl, rfl, rfl, z98, rfl, hz98⟩ := hq96
      obtain rfl : kc3 = kc97 := by omega
      obtain rfl : ks3 = ks97 := by omega
      refine Or.inr (Or.inl ⟨rfl, ?_⟩)
      exact w_iret rfl (Or.inr (⟨rfl, rfl, rfl, hI, hF, hN, z98, rfl, trivial⟩)) (by omega) (by omega)
set_option maxRecDepth 16384 in
theorem ct_c_text24 {sl : Int × Int} {x : ai_E} {d : Nat} {T : cm_T} {E : cm_E} {nx : Nat} (p l c : Int)  (hI : cs_I T E nx) (hN : hn E) (hp0 : -2147483648 ≤ c ∧ c ≤ 2147483647) : cm_ct (ai_ev sl (d + 8)) x 39 [cr 0, ai_i p, ai_i l, ai_i c] T E nx 4 430 (fun rk rv T' E' nx' => (rk = 2 ∧ T = T' ∧ nx = nx' ∧ cs_I T E' nx ∧ cm_fr (fun i k => i < 81 ∧ ¬ (23 ≤ i ∧ i ≤ 40) ∧ ¬ (i = 0 ∧ (k = 10 ∨ k = 11 ∨ k = 14))) E E' ∧ hn E' ∧ (True)) ∨ (rk = 1 ∧ T = T' ∧ nx = nx' ∧ cs_I T E' nx ∧ cm_fr (fun i k => i < 81 ∧ ¬ (23 ≤ i ∧ i ≤ 40) ∧ ¬ (i = 0 ∧ (k = 10 ∨ k = 11 ∨ k = 14))) E E' ∧ hn E' ∧ ∃ z : Int, rv = ai_i z ∧ (True))) := by
  refine cm_body (M := ai_m39) rfl rfl (fun kc ks => ?_)
  show cm_wp (ai_find ai_c39 sl) (ai_ev sl (d + 7)) x (kc + 4) (ks + 430) _ 0 [cr 0, ai_i p, ai_i l, ai_i c, ai_un, ai_un, ai_un] [] T E nx kc ks
  have hF : cm_fr (fun i k => i < 81 ∧ ¬ (23 ≤ i ∧ i ≤ 40) ∧ ¬ (i = 0 ∧ (k = 10 ∨ k = 11 ∨ k = 14))) E E := fun _ _ _ => rfl
  obtain ⟨z1, hz1, hz1a, hz1b⟩ := hI.int 0 10 (lo := 1) (hi := 5) (by decide) (by decide) rfl
  have ghz1 := gv_eq hz1
  refine w_aload (i := 0) (npc := 1) (v := cr 0) rfl rfl rfl ?_
  refine w_iload (i := 1) (npc := 2) rfl rfl ?_
  refine w_virt (ci := 7) (i := 0) (npc := 5) (a := [cr 0, ai_i p]) (rest := []) rfl rfl (hI.pl (by decide)) (hI.T (by decide) rfl) rfl rfl rfl rfl (ct_c_pageAt (sl := sl) (x := x) (d := d + 6) (p) hI) (Or.inl rfl) (fun k9 v9 T3 E3 nx3 kc3 ks3 hq2 hk3 hv3 => ?_)
  rcases hq2 with hq2 | hq2
  · obtain ⟨rfl, rfl, rfl, rfl, hz4⟩ := hq2
    exact Or.inr (Or.inr (Or.inl ⟨rfl, rfl, Or.inl ⟨rfl, rfl, rfl, hI, hF, hN, trivial⟩, by omega, by omega⟩))
  obtain ⟨rfl, rfl, rfl, rfl, b8, rfl, hz4⟩ := hq2
  have hb9 : 41 ≤ b8 ∧ b8 ≤ 77 ∧ b8 % 4 = 1 := by omega
  refine Or.inr (Or.inl ⟨rfl, ?_⟩)
  refine w_astore (i := 4) (npc := 7) (loc' := [cr 0, ai_i p, ai_i l, ai_i c, cr b8, ai_un, ai_un]) rfl rfl rfl ?_
  refine w_aload (i := 0) (npc := 8) (v := cr 0) rfl rfl rfl ?_
  refine w_iload (i := 1) (npc := 9) rfl rfl ?_
  refine w_virt (ci := 7) (i := 0) (npc := 12) (a := [cr 0, ai_i p]) (rest := []) rfl rfl (hI.pl (by decide)) (hI.T (by decide) rfl) rfl rfl rfl rfl (ct_c_viewOf (sl := sl) (x := x) (d := d + 0) (p) hI (by omega)) (Or.inl rfl) (fun k9 v9 T11 E11 nx11 kc11 ks11 hq10 hk11 hv11 => ?_)
  obtain ⟨rfl, rfl, rfl, hI13, hG14, rfl, hz12⟩ := hq10
  obtain rfl : kc3 = kc11 := by omega
  obtain rfl : ks3 = ks11 := by omega
  have hF16 := cm_fr.trans hF hG14 (by intro i k h; (try simp only at h); (try simp only); omega)
  have hN17 := hN.fr hG14 (by intro i k h; (try simp only at h); omega)
  have hz18 : E11 0 10 = ai_i z1 := (hG14 0 10 (by first | omega | (simp; done) | (simp; omega) | (simp only; omega))).trans hz1
  have ghz18 := gv_eq hz18
  refine Or.inr (Or.inl ⟨rfl, ?_⟩)
  refine w_astore (i := 5) (npc := 14) (loc' := [cr 0, ai_i p, ai_i l, ai_i c, cr b8, cr 6, ai_un]) rfl rfl rfl ?_
  refine w_aload (i := 5) (npc := 16) (v := cr 6) rfl rfl rfl ?_
  refine w_iload (i := 2) (npc := 17) rfl rfl ?_
  refine w_virt (ci := 6) (i := 6) (npc := 20) (a := [cr 6, ai_i l]) (rest := []) rfl rfl (hI13.pl (by decide)) (hI13.T (by decide) rfl) rfl rfl rfl rfl (ct_vw_slotAt (sl := sl) (x := x) (d := d + 6) (l) hI13) (Or.inl rfl) (fun k9 v9 T20 E20 nx20 kc20 ks20 hq19 hk20 hv20 => ?_)
  obtain ⟨rfl, rfl, rfl, rfl, z21, rfl, hz21⟩ := hq19
  obtain rfl : kc3 = kc20 := by omega
  obtain rfl : ks3 = ks20 := by omega
  refine Or.inr (Or.inl ⟨rfl, ?_⟩)
  refine w_istore (i := 6) (npc := 22) (loc' := [cr 0, ai_i p, ai_i l, ai_i c, cr b8, cr 6, ai_i z21]) rfl rfl ?_
  refine w_iload (i := 6) (npc := 24) rfl rfl ?_
  refine w_const (n := (-1)) (npc := 25) rfl ?_
  refine w_icmp (c := .ne) (npc := 28) (pt := 38) rfl (fun hc25 => ?_) (fun hc25 => ?_)
  · replace hc25 : z21 ≠ ((-1) : Int) := hc25
    refine w_iload (i := 3) (npc := 39) rfl rfl ?_
    rcases (show (c < 0 ∨ 2 < c) ∨ c = 0 + ((0 : Nat) : Int) ∨ c = 0 + ((1 : Nat) : Int) ∨ c = 0 + ((2 : Nat) : Int) by omega) with hs26 | hs26 | hs26 | hs26
    · refine w_swd rfl rfl hs26 ?_
      refine w_aload (i := 0) (npc := 87) (v := cr 0) rfl rfl rfl ?_
      refine w_aload (i := 5) (npc := 89) (v := cr 6) rfl rfl rfl ?_
      refine w_iload (i := 6) (npc := 91) rfl rfl ?_
      refine w_iload (i := 3) (npc := 92) rfl rfl ?_
      refine w_virt (ci := 7) (i := 0) (npc := 95) (a := [cr 0, cr 6, ai_i z21, ai_i c]) (rest := []) rfl rfl (hI13.pl (by decide)) (hI13.T (by decide) rfl) rfl rfl rfl rfl (ct_c_keyNumber (sl := sl) (x := x) (d := d + 4) (z21) (c) hI13 (by omega) (by omega)) (Or.inl rfl) (fun k9 v9 T28 E28 nx28 kc28 ks28 hq27 hk28 hv28 => ?_)
      rcases hq27 with hq27 | hq27
      · obtain ⟨rfl, rfl, rfl, rfl, hz29⟩ := hq27
        exact Or.inr (Or.inr (Or.inl ⟨rfl, rfl, Or.inl ⟨rfl, rfl, rfl, hI13, hF16, hN17, trivial⟩, by omega, by omega⟩))
      obtain ⟨rfl, rfl, rfl, rfl, z29, rfl, hz29⟩ := hq27
      refine Or.inr (Or.inl ⟨rfl, ?_⟩)
      exact w_iret rfl (Or.inr (⟨rfl, rfl, rfl, hI13, hF16, hN17, z29, rfl, trivial⟩)) (by omega) (by omega)
    · refine w_swc 0 (pt := 64) rfl rfl hs26 (by decide) rfl ?_
      refine w_aload (i := 4) (npc := 66) (v := cr b8) rfl rfl rfl ?_
      refine w_iload (i := 6) (npc := 68) rfl rfl ?_
      refine w_call (npc := 71) (a := [cr b8, ai_i z21]) (rest := []) rfl rfl rfl rfl rfl (ct_c_signOf (sl := sl) (x := x) (d := d + 5) (z21) (b := b8) hb9 hI13 (by omega)) (Or.inr (fun _ _ _ _ _ hq => by have h1 := hq.1; omega)) (fun k9 v9 T34 E34 nx34 kc34 ks34 hq33 hk34 hv34 => ?_)
      obtain ⟨rfl, rfl, rfl, rfl, z35, rfl, hz35⟩ := hq33
      obtain rfl : kc3 = kc34 := by omega
      obtain rfl : ks3 = ks34 := by omega
      refine Or.inr (Or.inl ⟨rfl, ?_⟩)
      exact w_iret rfl (Or.inr (⟨rfl, rfl, rfl, hI13, hF16, hN17, z35, rfl, trivial⟩)) (by omega) (by omega)
    · refine w_swc 1 (pt := 72) rfl rfl hs26 (by decide) rfl ?_
      refine w_iload (i := 6) (npc := 74) rfl rfl ?_
      refine w_call (npc := 77) (a := [ai_i z21]) (rest := []) rfl rfl rfl rfl rfl (ct_c_markOf (sl := sl) (x := x) (d := d + 6) (z21) (by omega)) (Or.inr (fun _ _ _ _ _ hq => by have h1 := hq.1; omega)) (fun k9 v9 T40 E40 nx40 kc40 ks40 hq39 hk40 hv40 => ?_)
      obtain ⟨rfl, rfl, rfl, rfl, z41, rfl, hz41⟩ := hq39
      obtain rfl : kc3 = kc40 := by omega
      obtain rfl : ks3 = ks40 := by omega
      refine Or.inr (Or.inl ⟨rfl, ?_⟩)
      exact w_iret rfl (Or.inr (⟨rfl, rfl, rfl, hI13, hF16, hN17, z41, rfl, trivial⟩)) (by omega) (by omega)
    · refine w_swc 2 (pt := 78) rfl rfl hs26 (by decide) rfl ?_
      refine w_aload (i := 5) (npc := 80) (v := cr 6) rfl rfl rfl ?_
      refine w_iload (i := 6) (npc := 82) rfl rfl ?_
      refine w_virt (ci := 6) (i := 6) (npc := 85) (a := [cr 6, ai_i z21]) (rest := []) rfl rfl (hI13.pl (by decide)) (hI13.T (by decide) rfl) rfl rfl rfl rfl (ct_vw_keyLengthOf (sl := sl) (x := x) (d := d + 5) (z21) hI13 (by omega)) (Or.inl rfl) (fun k9 v9 T46 E46 nx46 kc46 ks46 hq45 hk46 hv46 => ?_)
      obtain ⟨rfl, rfl, rfl, rfl, z47, rfl, hz47⟩ := hq45
      obtain rfl : kc3 = kc46 := by omega
      obtain rfl : ks3 = ks46 := by omega
      refine Or.inr (Or.inl ⟨rfl, ?_⟩)
      exact w_iret rfl (Or.inr (⟨rfl, rfl, rfl, hI13, hF16, hN17, z47, rfl, trivial⟩)) (by omega) (by omega)
  · replace hc25 : ¬ (z21 ≠ ((-1) : Int)) := hc25
    exact w_throw (k := 2) rfl (Or.inl ⟨rfl, rfl, rfl, hI13, hF16, hN17, trivial⟩) (by omega) (by omega)
set_option maxRecDepth 16384 in
theorem ct_c_step24 {sl : Int × Int} {x : ai_E} {d : Nat} {T : cm_T} {E : cm_E} {nx : Nat} (p w n c : Int)  (hI : cs_I T E nx) (hN : hn E) : cm_ct (ai_ev sl (d + 8)) x 35 [cr 0, ai_i p, ai_i w, ai_i n, ai_i c] T E nx 4 430 (fun rk rv T' E' nx' => (rk = 2 ∧ T = T' ∧ nx = nx' ∧ cs_I T E' nx ∧ cm_fr (fun i k => i < 81 ∧ ¬ (23 ≤ i ∧ i ≤ 40) ∧ ¬ (i = 0 ∧ (k = 10 ∨ k = 11 ∨ k = 14))) E E' ∧ hn E' ∧ (True)) ∨ (rk = 1 ∧ T = T' ∧ nx = nx' ∧ cs_I T E' nx ∧ cm_fr (fun i k => i < 81 ∧ ¬ (23 ≤ i ∧ i ≤ 40) ∧ ¬ (i = 0 ∧ (k = 10 ∨ k = 11 ∨ k = 14))) E E' ∧ hn E' ∧ ∃ z : Int, rv = ai_i z ∧ (True))) := by
  refine cm_body (M := ai_m35) rfl rfl (fun kc ks => ?_)
  show cm_wp (ai_find ai_c35 sl) (ai_ev sl (d + 7)) x (kc + 4) (ks + 430) _ 0 [cr 0, ai_i p, ai_i w, ai_i n, ai_i c, ai_un] [] T E nx kc ks
  have hF : cm_fr (fun i k => i < 81 ∧ ¬ (23 ≤ i ∧ i ≤ 40) ∧ ¬ (i = 0 ∧ (k = 10 ∨ k = 11 ∨ k = 14))) E E := fun _ _ _ => rfl
  obtain ⟨z1, hz1, hz1a, hz1b⟩ := hI.int 0 10 (lo := 1) (hi := 5) (by decide) (by decide) rfl
  have ghz1 := gv_eq hz1
  refine w_aload (i := 0) (npc := 1) (v := cr 0) rfl rfl rfl ?_
  refine w_iload (i := 1) (npc := 2) rfl rfl ?_
  refine w_iload (i := 2) (npc := 3) rfl rfl ?_
  refine w_iload (i := 3) (npc := 4) rfl rfl ?_
  refine w_virt (ci := 7) (i := 0) (npc := 7) (a := [cr 0, ai_i p, ai_i w, ai_i n]) (rest := []) rfl rfl (hI.pl (by decide)) (hI.T (by decide) rfl) rfl rfl rfl rfl (ct_c_stepAt (sl := sl) (x := x) (d := d + 4) (p) (w) (n) hI) (Or.inl rfl) (fun k9 v9 T3 E3 nx3 kc3 ks3 hq2 hk3 hv3 => ?_)
  rcases hq2 with hq2 | hq2
  · obtain ⟨rfl, rfl, rfl, rfl, hz4⟩ := hq2
    exact Or.inr (Or.inr (Or.inl ⟨rfl, rfl, Or.inl ⟨rfl, rfl, rfl, hI, hF, hN, trivial⟩, by omega, by omega⟩))
  obtain ⟨rfl, rfl, rfl, rfl, q8, rfl, hs9, hz4⟩ := hq2
  refine Or.inr (Or.inl ⟨rfl, ?_⟩)
  refine w_astore (i := 5) (npc := 9) (loc' := [cr 0, ai_i p, ai_i w, ai_i n, ai_i c, cr q8]) rfl rfl rfl ?_
  refine w_iload (i := 4) (npc := 11) rfl rfl ?_
  rcases (show (c < 0 ∨ 3 < c) ∨ c = 0 + ((0 : Nat) : Int) ∨ c = 0 + ((1 : Nat) : Int) ∨ c = 0 + ((2 : Nat) : Int) ∨ c = 0 + ((3 : Nat) : Int) by omega) with hs10 | hs10 | hs10 | hs10 | hs10
  · refine w_swd rfl rfl hs10 ?_
    exact w_throw (k := 2) rfl (Or.inl ⟨rfl, rfl, rfl, hI, hF, hN, trivial⟩) (by omega) (by omega)
  · refine w_swc 0 (pt := 40) rfl rfl hs10 (by decide) rfl ?_
    refine w_aload (i := 5) (npc := 42) (v := cr q8) rfl rfl rfl ?_
    refine w_virt (ci := 4) (i := q8) (npc := 45) (a := [cr q8]) (rest := []) rfl rfl hs9.lt hs9.T0 rfl rfl rfl rfl (ct_sp_kind (sl := sl) (x := x) (d := d + 5)  hs9) (Or.inl rfl) (fun k9 v9 T12 E12 nx12 kc12 ks12 hq11 hk12 hv12 => ?_)
    obtain ⟨rfl, rfl, rfl, rfl, z13, rfl, hz13⟩ := hq11
    obtain rfl : kc3 = kc12 := by omega
    obtain rfl : ks3 = ks12 := by omega
    refine Or.inr (Or.inl ⟨rfl, ?_⟩)
    exact w_iret rfl (Or.inr (⟨rfl, rfl, rfl, hI, hF, hN, z13, rfl, trivial⟩)) (by omega) (by omega)
  · refine w_swc 1 (pt := 46) rfl rfl hs10 (by decide) rfl ?_
    refine w_aload (i := 5) (npc := 48) (v := cr q8) rfl rfl rfl ?_
    refine w_virt (ci := 4) (i := q8) (npc := 51) (a := [cr q8]) (rest := []) rfl rfl hs9.lt hs9.T0 rfl rfl rfl rfl (ct_sp_age (sl := sl) (x := x) (d := d + 5)  hs9) (Or.inl rfl) (fun k9 v9 T18 E18 nx18 kc18 ks18 hq17 hk18 hv18 => ?_)
    obtain ⟨rfl, rfl, rfl, rfl, z19, rfl, hz19⟩ := hq17
    obtain rfl : kc3 = kc18 := by omega
    obtain rfl : ks3 = ks18 := by omega
    refine Or.inr (Or.inl ⟨rfl, ?_⟩)
    exact w_iret rfl (Or.inr (⟨rfl, rfl, rfl, hI, hF, hN, z19, rfl, trivial⟩)) (by omega) (by omega)
  · refine w_swc 2 (pt := 52) rfl rfl hs10 (by decide) rfl ?_
    refine w_aload (i := 0) (npc := 53) (v := cr 0) rfl rfl rfl ?_
    refine w_iload (i := 1) (npc := 54) rfl rfl ?_
    refine w_virt (ci := 7) (i := 0) (npc := 57) (a := [cr 0, ai_i p]) (rest := []) rfl rfl (hI.pl (by decide)) (hI.T (by decide) rfl) rfl rfl rfl rfl (ct_c_viewOf (sl := sl) (x := x) (d := d + 0) (p) hI (by omega)) (Or.inl rfl) (fun k9 v9 T24 E24 nx24 kc24 ks24 hq23 hk24 hv24 => ?_)
    obtain ⟨rfl, rfl, rfl, hI26, hG27, rfl, hz25⟩ := hq23
    obtain rfl : kc3 = kc24 := by omega
    obtain rfl : ks3 = ks24 := by omega
    have hF29 := cm_fr.trans hF hG27 (by intro i k h; (try simp only at h); (try simp only); omega)
    have hN30 := hN.fr hG27 (by intro i k h; (try simp only at h); omega)
    have hs31 := hs9.fr hG27 (by intro i k h; (try simp only at h); omega)
    have hz32 : E24 0 10 = ai_i z1 := (hG27 0 10 (by first | omega | (simp; done) | (simp; omega) | (simp only; omega))).trans hz1
    have ghz32 := gv_eq hz32
    refine Or.inr (Or.inl ⟨rfl, ?_⟩)
    refine w_getf (i := 6) (ci := 6) (k := 0) (npc := 60) rfl (hI26.pl (by decide)) (hI26.T (by decide) rfl) (by decide) (hI26.ref 6 0 (p := 7) (by decide) (by decide) rfl) ?_
    refine w_iload (i := 2) (npc := 61) rfl rfl ?_
    refine w_iload (i := 3) (npc := 62) rfl rfl ?_
    refine w_call (npc := 65) (a := [ai_i w, ai_i n]) (rest := [cr 7]) rfl rfl rfl rfl rfl (ct_c_slotOf (sl := sl) (x := x) (d := d + 6) (w) (n) (by omega) (by omega)) (Or.inr (fun _ _ _ _ _ hq => by have h1 := hq.1; omega)) (fun k9 v9 T34 E34 nx34 kc34 ks34 hq33 hk34 hv34 => ?_)
    obtain ⟨rfl, rfl, rfl, rfl, z35, rfl, hz35⟩ := hq33
    obtain rfl : kc3 = kc34 := by omega
    obtain rfl : ks3 = ks34 := by omega
    refine Or.inr (Or.inl ⟨rfl, ?_⟩)
    obtain ⟨z39, hz39, hz39a, hz39b⟩ := hI26.int 7 (z35 : Int).toNat (lo := 0) (hi := 1) (by decide) (show (z35 : Int).toNat < 300 by omega) rfl
    have ghz39 := gv_eq hz39
    refine w_ald (i := 7) (t := 2) (n := 300) (npc := 66) rfl (hI26.pl (by decide)) (hI26.T (by decide) rfl) (by decide) rfl (by omega) hz39 ?_
    refine w_if (c := .eq) (npc := 69) (pt := 73) rfl (fun hc40 => ?_) (fun hc40 => ?_)
    · replace hc40 : z39 = (0 : Int) := hc40
      refine w_const (n := 0) (npc := 74) rfl ?_
      exact w_iret rfl (Or.inr (⟨rfl, rfl, rfl, hI26, hF29, hN30, 0, rfl, trivial⟩)) (by omega) (by omega)
    · replace hc40 : ¬ (z39 = (0 : Int)) := hc40
      refine w_const (n := 1) (npc := 70) rfl ?_
      refine w_goto (pt := 74) rfl ?_
      exact w_iret rfl (Or.inr (⟨rfl, rfl, rfl, hI26, hF29, hN30, 1, rfl, trivial⟩)) (by omega) (by omega)
  · refine w_swc 3 (pt := 75) rfl rfl hs10 (by decide) rfl ?_
    refine w_aload (i := 5) (npc := 77) (v := cr q8) rfl rfl rfl ?_
    refine w_virt (ci := 4) (i := q8) (npc := 80) (a := [cr q8]) (rest := []) rfl rfl hs9.lt hs9.T0 rfl rfl rfl rfl (ct_sp_target (sl := sl) (x := x) (d := d + 4)  hs9) (Or.inl rfl) (fun k9 v9 T42 E42 nx42 kc42 ks42 hq41 hk42 hv42 => ?_)
    obtain ⟨rfl, rfl, rfl, rfl, z43, rfl, hz43⟩ := hq41
    obtain rfl : kc3 = kc42 := by omega
    obtain rfl : ks3 = ks42 := by omega
    refine Or.inr (Or.inl ⟨rfl, ?_⟩)
    exact w_iret rfl (Or.inr (⟨rfl, rfl, rfl, hI, hF, hN, z43, rfl, trivial⟩)) (by omega) (by omega)
set_option maxRecDepth 16384 in
theorem ct_c_packet24 {sl : Int × Int} {x : ai_E} {d : Nat} {T : cm_T} {E : cm_E} {nx : Nat} (p w n j : Int)  (hI : cs_I T E nx) (hN : hn E) : cm_ct (ai_ev sl (d + 4)) x 23 [cr 0, ai_i p, ai_i w, ai_i n, ai_i j] T E nx 4 430 (fun rk rv T' E' nx' => (rk = 2 ∧ T = T' ∧ nx = nx' ∧ cs_I T E' nx ∧ cm_fr (fun i k => i < 81 ∧ ¬ (23 ≤ i ∧ i ≤ 40) ∧ ¬ (i = 0 ∧ (k = 10 ∨ k = 11 ∨ k = 14))) E E' ∧ hn E' ∧ (True)) ∨ (rk = 1 ∧ T = T' ∧ nx = nx' ∧ cs_I T E' nx ∧ cm_fr (fun i k => i < 81 ∧ ¬ (23 ≤ i ∧ i ≤ 40) ∧ ¬ (i = 0 ∧ (k = 10 ∨ k = 11 ∨ k = 14))) E E' ∧ hn E' ∧ ∃ z : Int, rv = ai_i z ∧ (True))) := by
  refine cm_body (M := ai_m23) rfl rfl (fun kc ks => ?_)
  show cm_wp (ai_find ai_c23 sl) (ai_ev sl (d + 3)) x (kc + 4) (ks + 430) _ 0 [cr 0, ai_i p, ai_i w, ai_i n, ai_i j, ai_un] [] T E nx kc ks
  have hF : cm_fr (fun i k => i < 81 ∧ ¬ (23 ≤ i ∧ i ≤ 40) ∧ ¬ (i = 0 ∧ (k = 10 ∨ k = 11 ∨ k = 14))) E E := fun _ _ _ => rfl
  refine w_aload (i := 0) (npc := 1) (v := cr 0) rfl rfl rfl ?_
  refine w_iload (i := 1) (npc := 2) rfl rfl ?_
  refine w_iload (i := 2) (npc := 3) rfl rfl ?_
  refine w_iload (i := 3) (npc := 4) rfl rfl ?_
  refine w_virt (ci := 7) (i := 0) (npc := 7) (a := [cr 0, ai_i p, ai_i w, ai_i n]) (rest := []) rfl rfl (hI.pl (by decide)) (hI.T (by decide) rfl) rfl rfl rfl rfl (ct_c_stepAt (sl := sl) (x := x) (d := d + 0) (p) (w) (n) hI) (Or.inl rfl) (fun k9 v9 T2 E2 nx2 kc2 ks2 hq1 hk2 hv2 => ?_)
  rcases hq1 with hq1 | hq1
  · obtain ⟨rfl, rfl, rfl, rfl, hz3⟩ := hq1
    exact Or.inr (Or.inr (Or.inl ⟨rfl, rfl, Or.inl ⟨rfl, rfl, rfl, hI, hF, hN, trivial⟩, by omega, by omega⟩))
  obtain ⟨rfl, rfl, rfl, rfl, q7, rfl, hs8, hz3⟩ := hq1
  refine Or.inr (Or.inl ⟨rfl, ?_⟩)
  refine w_astore (i := 5) (npc := 9) (loc' := [cr 0, ai_i p, ai_i w, ai_i n, ai_i j, cr q7]) rfl rfl rfl ?_
  refine w_iload (i := 4) (npc := 11) rfl rfl ?_
  refine w_const (n := (-1)) (npc := 12) rfl ?_
  refine w_icmp (c := .ne) (npc := 15) (pt := 21) rfl (fun hc9 => ?_) (fun hc9 => ?_)
  · replace hc9 : j ≠ ((-1) : Int) := hc9
    refine w_iload (i := 4) (npc := 23) rfl rfl ?_
    refine w_if (c := .lt) (npc := 26) (pt := 36) rfl (fun hc10 => ?_) (fun hc10 => ?_)
    · replace hc10 : j < (0 : Int) := hc10
      exact w_throw (k := 2) rfl (Or.inl ⟨rfl, rfl, rfl, hI, hF, hN, trivial⟩) (by omega) (by omega)
    · replace hc10 : ¬ (j < (0 : Int)) := hc10
      refine w_iload (i := 4) (npc := 28) rfl rfl ?_
      refine w_aload (i := 5) (npc := 30) (v := cr q7) rfl rfl rfl ?_
      refine w_virt (ci := 4) (i := q7) (npc := 33) (a := [cr q7]) (rest := [ai_i j]) rfl rfl hs8.lt hs8.T0 rfl rfl rfl rfl (ct_sp_length (sl := sl) (x := x) (d := d + 2)  hs8) (Or.inl rfl) (fun k9 v9 T12 E12 nx12 kc12 ks12 hq11 hk12 hv12 => ?_)
      obtain ⟨rfl, rfl, rfl, rfl, z13, rfl, hz13⟩ := hq11
      obtain rfl : kc2 = kc12 := by omega
      obtain rfl : ks2 = ks12 := by omega
      refine Or.inr (Or.inl ⟨rfl, ?_⟩)
      refine w_icmp (c := .lt) (npc := 36) (pt := 46) rfl (fun hc17 => ?_) (fun hc17 => ?_)
      · replace hc17 : j < z13 := hc17
        refine w_aload (i := 5) (npc := 48) (v := cr q7) rfl rfl rfl ?_
        refine w_iload (i := 4) (npc := 50) rfl rfl ?_
        refine w_virt (ci := 4) (i := q7) (npc := 53) (a := [cr q7, ai_i j]) (rest := []) rfl rfl hs8.lt hs8.T0 rfl rfl rfl rfl (ct_sp_byteAt (sl := sl) (x := x) (d := d + 2) (j) hs8) (Or.inl rfl) (fun k9 v9 T19 E19 nx19 kc19 ks19 hq18 hk19 hv19 => ?_)
        obtain ⟨rfl, rfl, rfl, rfl, z20, rfl, hz20⟩ := hq18
        obtain rfl : kc2 = kc19 := by omega
        obtain rfl : ks2 = ks19 := by omega
        refine Or.inr (Or.inl ⟨rfl, ?_⟩)
        exact w_iret rfl (Or.inr (⟨rfl, rfl, rfl, hI, hF, hN, z20, rfl, trivial⟩)) (by omega) (by omega)
      · replace hc17 : ¬ (j < z13) := hc17
        exact w_throw (k := 2) rfl (Or.inl ⟨rfl, rfl, rfl, hI, hF, hN, trivial⟩) (by omega) (by omega)
  · replace hc9 : ¬ (j ≠ ((-1) : Int)) := hc9
    refine w_aload (i := 5) (npc := 17) (v := cr q7) rfl rfl rfl ?_
    refine w_virt (ci := 4) (i := q7) (npc := 20) (a := [cr q7]) (rest := []) rfl rfl hs8.lt hs8.T0 rfl rfl rfl rfl (ct_sp_length (sl := sl) (x := x) (d := d + 2)  hs8) (Or.inl rfl) (fun k9 v9 T25 E25 nx25 kc25 ks25 hq24 hk25 hv25 => ?_)
    obtain ⟨rfl, rfl, rfl, rfl, z26, rfl, hz26⟩ := hq24
    obtain rfl : kc2 = kc25 := by omega
    obtain rfl : ks2 = ks25 := by omega
    refine Or.inr (Or.inl ⟨rfl, ?_⟩)
    exact w_iret rfl (Or.inr (⟨rfl, rfl, rfl, hI, hF, hN, z26, rfl, trivial⟩)) (by omega) (by omega)
set_option maxRecDepth 16384 in
theorem ct_c_fault24 {sl : Int × Int} {x : ai_E} {d : Nat} {T : cm_T} {E : cm_E} {nx : Nat}  (hI : cs_I T E nx) (hN : hn E) : cm_ct (ai_ev sl (d + 1)) x 9 [cr 0] T E nx 4 430 (fun rk rv T' E' nx' => rk = 1 ∧ T = T' ∧ nx = nx' ∧ cs_I T E' nx ∧ cm_fr (fun i k => i < 81 ∧ ¬ (23 ≤ i ∧ i ≤ 40) ∧ ¬ (i = 0 ∧ (k = 10 ∨ k = 11 ∨ k = 14))) E E' ∧ hn E' ∧ ∃ z : Int, rv = ai_i z ∧ (True)) := by
  refine cm_body (M := ai_m9) rfl rfl (fun kc ks => ?_)
  show cm_wp (ai_find ai_c9 sl) (ai_ev sl (d + 0)) x (kc + 4) (ks + 430) _ 0 [cr 0] [] T E nx kc ks
  have hF : cm_fr (fun i k => i < 81 ∧ ¬ (23 ≤ i ∧ i ≤ 40) ∧ ¬ (i = 0 ∧ (k = 10 ∨ k = 11 ∨ k = 14))) E E := fun _ _ _ => rfl
  refine w_aload (i := 0) (npc := 1) (v := cr 0) rfl rfl rfl ?_
  obtain ⟨z1, hz1, hz1a, hz1b⟩ := hI.int 0 12 (lo := (-1)) (hi := 400) (by decide) (by decide) rfl
  have ghz1 := gv_eq hz1
  refine w_getf (i := 0) (ci := 7) (k := 12) (npc := 4) rfl (hI.pl (by decide)) (hI.T (by decide) rfl) (by decide) hz1 ?_
  exact w_iret rfl (⟨rfl, rfl, rfl, hI, hF, hN, z1, rfl, trivial⟩) (by omega) (by omega)
set_option maxRecDepth 16384 in
theorem ct_c_send24 {sl : Int × Int} {x : ai_E} {d : Nat} {T : cm_T} {E : cm_E} {nx : Nat} (p o w n : Int)  (hI : cs_I T E nx) (hN : hn E) : cm_ct (ai_ev sl (d + 7)) x 31 [cr 0, ai_i p, ai_i o, ai_i w, ai_i n] T E nx 4 430 (fun rk rv T' E' nx' => (rk = 2 ∧ T = T' ∧ nx = nx' ∧ cs_I T E' nx ∧ cm_fr (fun i k => i < 81 ∧ ¬ (23 ≤ i ∧ i ≤ 40) ∧ ¬ (i = 0 ∧ (k = 10 ∨ k = 11 ∨ k = 14))) E E' ∧ hn E' ∧ (True)) ∨ (rk = 1 ∧ T = T' ∧ nx = nx' ∧ cs_I T E' nx ∧ cm_fr (fun i k => i < 81 ∧ ¬ (23 ≤ i ∧ i ≤ 40) ∧ ¬ (i = 0 ∧ (k = 10 ∨ k = 11 ∨ k = 14))) E E' ∧ hn E' ∧ ∃ z : Int, rv = ai_i z ∧ (True))) := by
  refine cm_body (M := ai_m31) rfl rfl (fun kc ks => ?_)
  show cm_wp (ai_find ai_c31 sl) (ai_ev sl (d + 6)) x (kc + 4) (ks + 430) _ 0 [cr 0, ai_i p, ai_i o, ai_i w, ai_i n, ai_un, ai_un, ai_un] [] T E nx kc ks
  have hF : cm_fr (fun i k => i < 81 ∧ ¬ (23 ≤ i ∧ i ≤ 40) ∧ ¬ (i = 0 ∧ (k = 10 ∨ k = 11 ∨ k = 14))) E E := fun _ _ _ => rfl
  refine w_aload (i := 0) (npc := 1) (v := cr 0) rfl rfl rfl ?_
  refine w_iload (i := 1) (npc := 2) rfl rfl ?_
  refine w_iload (i := 3) (npc := 3) rfl rfl ?_
  refine w_iload (i := 4) (npc := 5) rfl rfl ?_
  refine w_virt (ci := 7) (i := 0) (npc := 8) (a := [cr 0, ai_i p, ai_i w, ai_i n]) (rest := []) rfl rfl (hI.pl (by decide)) (hI.T (by decide) rfl) rfl rfl rfl rfl (ct_c_stepAt (sl := sl) (x := x) (d := d + 3) (p) (w) (n) hI) (Or.inl rfl) (fun k9 v9 T2 E2 nx2 kc2 ks2 hq1 hk2 hv2 => ?_)
  rcases hq1 with hq1 | hq1
  · obtain ⟨rfl, rfl, rfl, rfl, hz3⟩ := hq1
    exact Or.inr (Or.inr (Or.inl ⟨rfl, rfl, Or.inl ⟨rfl, rfl, rfl, hI, hF, hN, trivial⟩, by omega, by omega⟩))
  obtain ⟨rfl, rfl, rfl, rfl, q7, rfl, hs8, hz3⟩ := hq1
  refine Or.inr (Or.inl ⟨rfl, ?_⟩)
  refine w_astore (i := 5) (npc := 10) (loc' := [cr 0, ai_i p, ai_i o, ai_i w, ai_i n, cr q7, ai_un, ai_un]) rfl rfl rfl ?_
  refine w_aload (i := 0) (npc := 11) (v := cr 0) rfl rfl rfl ?_
  refine w_iload (i := 2) (npc := 12) rfl rfl ?_
  refine w_virt (ci := 7) (i := 0) (npc := 15) (a := [cr 0, ai_i o]) (rest := []) rfl rfl (hI.pl (by decide)) (hI.T (by decide) rfl) rfl rfl rfl rfl (ct_c_pageAt (sl := sl) (x := x) (d := d + 5) (o) hI) (Or.inl rfl) (fun k9 v9 T10 E10 nx10 kc10 ks10 hq9 hk10 hv10 => ?_)
  rcases hq9 with hq9 | hq9
  · obtain ⟨rfl, rfl, rfl, rfl, hz11⟩ := hq9
    exact Or.inr (Or.inr (Or.inl ⟨rfl, rfl, Or.inl ⟨rfl, rfl, rfl, hI, hF, hN, trivial⟩, by omega, by omega⟩))
  obtain ⟨rfl, rfl, rfl, rfl, b15, rfl, hz11⟩ := hq9
  have hb16 : 41 ≤ b15 ∧ b15 ≤ 77 ∧ b15 % 4 = 1 := by omega
  refine Or.inr (Or.inl ⟨rfl, ?_⟩)
  refine w_astore (i := 6) (npc := 17) (loc' := [cr 0, ai_i p, ai_i o, ai_i w, ai_i n, cr q7, cr b15, ai_un]) rfl rfl rfl ?_
  refine w_aload (i := 0) (npc := 18) (v := cr 0) rfl rfl rfl ?_
  refine w_const (n := (-1)) (npc := 19) rfl ?_
  refine w_putf (i := 0) (ci := 7) (k := 13) (t := 0) (npc := 22) rfl (hI.pl (by decide)) (hI.T (by decide) rfl) (by decide) cm_fit0 ?_
  have hI18 := hI.puti (i := 0) (k := 13) (z := (-1)) (lo := (-1)) (hi := 4) (by decide) rfl (by omega)
  have hF20 := cm_fr.up (i := 0) (k := 13) (v := ai_i ((-1))) hF (by first | omega | (simp; done) | (simp; omega) | (simp only; omega))
  have hN21 := hn.wr (i := 0) (k := 13) (v := ai_i ((-1))) hN (by omega)
  have hs22 := hs8.up (i := 0) (k := 13) (v := ai_i ((-1))) (by decide)
  generalize hE19 : cm_up E 0 13 (ai_i ((-1))) = E17 at hI18 hF20 hN21 hs22 ⊢
  have hz23 : E17 0 13 = ai_i ((-1)) := by rw [← hE19, cm_up_eq]
  have ghz23 := gv_eq hz23
  refine w_aload (i := 6) (npc := 24) (v := cr b15) rfl rfl rfl ?_
  refine w_aload (i := 5) (npc := 26) (v := cr q7) rfl rfl rfl ?_
  refine w_virt (ci := 3) (i := b15) (npc := 29) (a := [cr b15, cr q7]) (rest := []) rfl rfl (hI18.pl (by omega)) (hI18.pgT0 hb16) rfl rfl rfl rfl (ct_pg_receive (sl := sl) (x := x) (d := d + 0)  (b := b15) hb16 hs22 hI18 hN21) (Or.inl rfl) (fun k9 v9 T25 E25 nx25 kc25 ks25 hq24 hk25 hv25 => ?_)
  obtain ⟨rfl, rfl, rfl, hI27, hG28, hN29, z26, rfl, hz26⟩ := hq24
  obtain rfl : kc10 = kc25 := by omega
  obtain rfl : ks10 = ks25 := by omega
  have hF30 := cm_fr.trans hF20 hG28 (by intro i k h; (try simp only at h); (try simp only); omega)
  have hs31 := hs22.fr hG28 (by intro i k h; (try simp only at h); omega)
  have hz32 : E25 0 13 = ai_i ((-1)) := (hG28 0 13 (by first | omega | (simp; done) | (simp; omega) | (simp only; omega))).trans hz23
  have ghz32 := gv_eq hz32
  refine Or.inr (Or.inl ⟨rfl, ?_⟩)
  refine w_istore (i := 7) (npc := 31) (loc' := [cr 0, ai_i p, ai_i o, ai_i w, ai_i n, cr q7, cr b15, ai_i z26]) rfl rfl ?_
  refine w_iload (i := 7) (npc := 33) rfl rfl ?_
  refine w_const (n := 10) (npc := 35) rfl ?_
  refine w_icmp (c := .le) (npc := 38) (pt := 46) rfl (fun hc33 => ?_) (fun hc33 => ?_)
  · replace hc33 : z26 ≤ (10 : Int) := hc33
    refine w_iload (i := 7) (npc := 48) rfl rfl ?_
    exact w_iret rfl (Or.inr (⟨rfl, rfl, rfl, hI27, hF30, hN29, z26, rfl, trivial⟩)) (by omega) (by omega)
  · replace hc33 : ¬ (z26 ≤ (10 : Int)) := hc33
    refine w_aload (i := 0) (npc := 39) (v := cr 0) rfl rfl rfl ?_
    refine w_const (n := 1) (npc := 40) rfl ?_
    refine w_virt (ci := 7) (i := 0) (npc := 43) (a := [cr 0, ai_i 1]) (rest := []) rfl rfl (hI27.pl (by decide)) (hI27.T (by decide) rfl) rfl rfl rfl rfl (ct_c_refuse (sl := sl) (x := x) (d := d + 5) (1) hI27 (by omega)) (Or.inl rfl) (fun k9 v9 T35 E35 nx35 kc35 ks35 hq34 hk35 hv35 => ?_)
    obtain ⟨rfl, rfl, rfl, hI37, hG38, z36, rfl, hz36⟩ := hq34
    obtain rfl : kc10 = kc35 := by omega
    obtain rfl : ks10 = ks35 := by omega
    have hF40 := cm_fr.trans hF30 hG38 (by intro i k h; (try simp only at h); (try simp only); omega)
    have hN41 := hN29.fr hG38 (by intro i k h; (try simp only at h); omega)
    have hs42 := hs31.fr hG38 (by intro i k h; (try simp only at h); omega)
    have hz43 : E35 0 13 = ai_i ((-1)) := (hG38 0 13 (by first | omega | (simp; done) | (simp; omega) | (simp only; omega))).trans hz32
    have ghz43 := gv_eq hz43
    refine Or.inr (Or.inl ⟨rfl, ?_⟩)
    refine w_goto (pt := 48) rfl ?_
    exact w_iret rfl (Or.inr (⟨rfl, rfl, rfl, hI37, hF40, hN41, z36, rfl, trivial⟩)) (by omega) (by omega)
set_option maxRecDepth 16384 in
theorem ct_c_lacks24 {sl : Int × Int} {x : ai_E} {d : Nat} {T : cm_T} {E : cm_E} {nx : Nat} (p o j : Int)  (hI : cs_I T E nx) (hN : hn E) : cm_ct (ai_ev sl (d + 4)) x 20 [cr 0, ai_i p, ai_i o, ai_i j] T E nx 4 430 (fun rk rv T' E' nx' => (rk = 2 ∧ T = T' ∧ nx = nx' ∧ cs_I T E' nx ∧ cm_fr (fun i k => i < 81 ∧ ¬ (23 ≤ i ∧ i ≤ 40) ∧ ¬ (i = 0 ∧ (k = 10 ∨ k = 11 ∨ k = 14))) E E' ∧ hn E' ∧ (True)) ∨ (rk = 1 ∧ T = T' ∧ nx = nx' ∧ cs_I T E' nx ∧ cm_fr (fun i k => i < 81 ∧ ¬ (23 ≤ i ∧ i ≤ 40) ∧ ¬ (i = 0 ∧ (k = 10 ∨ k = 11 ∨ k = 14))) E E' ∧ hn E' ∧ ∃ z : Int, rv = ai_i z ∧ (True))) := by
  refine cm_body (M := ai_m20) rfl rfl (fun kc ks => ?_)
  show cm_wp (ai_find ai_c20 sl) (ai_ev sl (d + 3)) x (kc + 4) (ks + 430) _ 0 [cr 0, ai_i p, ai_i o, ai_i j, ai_un, ai_un, ai_un] [] T E nx kc ks
  have hF : cm_fr (fun i k => i < 81 ∧ ¬ (23 ≤ i ∧ i ≤ 40) ∧ ¬ (i = 0 ∧ (k = 10 ∨ k = 11 ∨ k = 14))) E E := fun _ _ _ => rfl
  refine w_aload (i := 0) (npc := 1) (v := cr 0) rfl rfl rfl ?_
  refine w_iload (i := 1) (npc := 2) rfl rfl ?_
  refine w_virt (ci := 7) (i := 0) (npc := 5) (a := [cr 0, ai_i p]) (rest := []) rfl rfl (hI.pl (by decide)) (hI.T (by decide) rfl) rfl rfl rfl rfl (ct_c_pageAt (sl := sl) (x := x) (d := d + 2) (p) hI) (Or.inl rfl) (fun k9 v9 T2 E2 nx2 kc2 ks2 hq1 hk2 hv2 => ?_)
  rcases hq1 with hq1 | hq1
  · obtain ⟨rfl, rfl, rfl, rfl, hz3⟩ := hq1
    exact Or.inr (Or.inr (Or.inl ⟨rfl, rfl, Or.inl ⟨rfl, rfl, rfl, hI, hF, hN, trivial⟩, by omega, by omega⟩))
  obtain ⟨rfl, rfl, rfl, rfl, b7, rfl, hz3⟩ := hq1
  have hb8 : 41 ≤ b7 ∧ b7 ≤ 77 ∧ b7 % 4 = 1 := by omega
  refine Or.inr (Or.inl ⟨rfl, ?_⟩)
  refine w_astore (i := 4) (npc := 7) (loc' := [cr 0, ai_i p, ai_i o, ai_i j, cr b7, ai_un, ai_un]) rfl rfl rfl ?_
  refine w_aload (i := 0) (npc := 8) (v := cr 0) rfl rfl rfl ?_
  refine w_iload (i := 2) (npc := 9) rfl rfl ?_
  refine w_virt (ci := 7) (i := 0) (npc := 12) (a := [cr 0, ai_i o]) (rest := []) rfl rfl (hI.pl (by decide)) (hI.T (by decide) rfl) rfl rfl rfl rfl (ct_c_pageAt (sl := sl) (x := x) (d := d + 2) (o) hI) (Or.inl rfl) (fun k9 v9 T10 E10 nx10 kc10 ks10 hq9 hk10 hv10 => ?_)
  rcases hq9 with hq9 | hq9
  · obtain ⟨rfl, rfl, rfl, rfl, hz11⟩ := hq9
    exact Or.inr (Or.inr (Or.inl ⟨rfl, rfl, Or.inl ⟨rfl, rfl, rfl, hI, hF, hN, trivial⟩, by omega, by omega⟩))
  obtain ⟨rfl, rfl, rfl, rfl, b15, rfl, hz11⟩ := hq9
  have hb16 : 41 ≤ b15 ∧ b15 ≤ 77 ∧ b15 % 4 = 1 := by omega
  refine Or.inr (Or.inl ⟨rfl, ?_⟩)
  refine w_astore (i := 5) (npc := 14) (loc' := [cr 0, ai_i p, ai_i o, ai_i j, cr b7, cr b15, ai_un]) rfl rfl rfl ?_
  refine w_iload (i := 3) (npc := 15) rfl rfl ?_
  refine w_const (n := (-1)) (npc := 16) rfl ?_
  refine w_icmp (c := .ne) (npc := 19) (pt := 27) rfl (fun hc17 => ?_) (fun hc17 => ?_)
  · replace hc17 : j ≠ ((-1) : Int) := hc17
    refine w_aload (i := 4) (npc := 29) (v := cr b7) rfl rfl rfl ?_
    refine w_aload (i := 5) (npc := 31) (v := cr b15) rfl rfl rfl ?_
    refine w_iload (i := 3) (npc := 32) rfl rfl ?_
    refine w_call (npc := 35) (a := [cr b7, cr b15, ai_i j]) (rest := []) rfl rfl rfl rfl rfl (ct_c_findLack (sl := sl) (x := x) (d := d + 0) (j) (a := b7) hb8 (b := b15) hb16 hI) (Or.inr (fun _ _ _ _ _ hq => by have h1 := hq.1; omega)) (fun k9 v9 T19 E19 nx19 kc19 ks19 hq18 hk19 hv19 => ?_)
    obtain ⟨rfl, rfl, rfl, rfl, z20, rfl, hz20⟩ := hq18
    obtain rfl : kc10 = kc19 := by omega
    obtain rfl : ks10 = ks19 := by omega
    refine Or.inr (Or.inl ⟨rfl, ?_⟩)
    refine w_istore (i := 6) (npc := 37) (loc' := [cr 0, ai_i p, ai_i o, ai_i j, cr b7, cr b15, ai_i z20]) rfl rfl ?_
    refine w_iload (i := 6) (npc := 39) rfl rfl ?_
    refine w_const (n := (-1)) (npc := 40) rfl ?_
    refine w_icmp (c := .ne) (npc := 43) (pt := 54) rfl (fun hc24 => ?_) (fun hc24 => ?_)
    · replace hc24 : z20 ≠ ((-1) : Int) := hc24
      refine w_iload (i := 6) (npc := 56) rfl rfl ?_
      exact w_iret rfl (Or.inr (⟨rfl, rfl, rfl, hI, hF, hN, z20, rfl, trivial⟩)) (by omega) (by omega)
    · replace hc24 : ¬ (z20 ≠ ((-1) : Int)) := hc24
      exact w_throw (k := 2) rfl (Or.inl ⟨rfl, rfl, rfl, hI, hF, hN, trivial⟩) (by omega) (by omega)
  · replace hc17 : ¬ (j ≠ ((-1) : Int)) := hc17
    refine w_aload (i := 4) (npc := 21) (v := cr b7) rfl rfl rfl ?_
    refine w_aload (i := 5) (npc := 23) (v := cr b15) rfl rfl rfl ?_
    refine w_call (npc := 26) (a := [cr b7, cr b15]) (rest := []) rfl rfl rfl rfl rfl (ct_c_countLacks (sl := sl) (x := x) (d := d + 0)  (a := b7) hb8 (b := b15) hb16 hI) (Or.inr (fun _ _ _ _ _ hq => by have h1 := hq.1; omega)) (fun k9 v9 T26 E26 nx26 kc26 ks26 hq25 hk26 hv26 => ?_)
    obtain ⟨rfl, rfl, rfl, rfl, z27, rfl, hz27⟩ := hq25
    obtain rfl : kc10 = kc26 := by omega
    obtain rfl : ks10 = ks26 := by omega
    refine Or.inr (Or.inl ⟨rfl, ?_⟩)
    exact w_iret rfl (Or.inr (⟨rfl, rfl, rfl, hI, hF, hN, z27, rfl, trivial⟩)) (by omega) (by omega)
set_option maxRecDepth 16384 in
theorem ct_c_fewest24 {sl : Int × Int} {x : ai_E} {d : Nat} {T : cm_T} {E : cm_E} {nx : Nat} (p o : Int)  (hI : cs_I T E nx) (hN : hn E) : cm_ct (ai_ev sl (d + 4)) x 12 [cr 0, ai_i p, ai_i o] T E nx 4 430 (fun rk rv T' E' nx' => (rk = 2 ∧ T = T' ∧ nx = nx' ∧ cs_I T E' nx ∧ cm_fr (fun i k => i < 81 ∧ ¬ (23 ≤ i ∧ i ≤ 40) ∧ ¬ (i = 0 ∧ (k = 10 ∨ k = 11 ∨ k = 14))) E E' ∧ hn E' ∧ (True)) ∨ (rk = 1 ∧ T = T' ∧ nx = nx' ∧ cs_I T E' nx ∧ cm_fr (fun i k => i < 81 ∧ ¬ (23 ≤ i ∧ i ≤ 40) ∧ ¬ (i = 0 ∧ (k = 10 ∨ k = 11 ∨ k = 14))) E E' ∧ hn E' ∧ ∃ z : Int, rv = ai_i z ∧ (True))) := by
  refine cm_body (M := ai_m12) rfl rfl (fun kc ks => ?_)
  show cm_wp (ai_find ai_c12 sl) (ai_ev sl (d + 3)) x (kc + 4) (ks + 430) _ 0 [cr 0, ai_i p, ai_i o, ai_un, ai_un] [] T E nx kc ks
  have hF : cm_fr (fun i k => i < 81 ∧ ¬ (23 ≤ i ∧ i ≤ 40) ∧ ¬ (i = 0 ∧ (k = 10 ∨ k = 11 ∨ k = 14))) E E := fun _ _ _ => rfl
  refine w_aload (i := 0) (npc := 1) (v := cr 0) rfl rfl rfl ?_
  refine w_iload (i := 1) (npc := 2) rfl rfl ?_
  refine w_virt (ci := 7) (i := 0) (npc := 5) (a := [cr 0, ai_i p]) (rest := []) rfl rfl (hI.pl (by decide)) (hI.T (by decide) rfl) rfl rfl rfl rfl (ct_c_pageAt (sl := sl) (x := x) (d := d + 2) (p) hI) (Or.inl rfl) (fun k9 v9 T2 E2 nx2 kc2 ks2 hq1 hk2 hv2 => ?_)
  rcases hq1 with hq1 | hq1
  · obtain ⟨rfl, rfl, rfl, rfl, hz3⟩ := hq1
    exact Or.inr (Or.inr (Or.inl ⟨rfl, rfl, Or.inl ⟨rfl, rfl, rfl, hI, hF, hN, trivial⟩, by omega, by omega⟩))
  obtain ⟨rfl, rfl, rfl, rfl, b7, rfl, hz3⟩ := hq1
  have hb8 : 41 ≤ b7 ∧ b7 ≤ 77 ∧ b7 % 4 = 1 := by omega
  refine Or.inr (Or.inl ⟨rfl, ?_⟩)
  refine w_astore (i := 3) (npc := 6) (loc' := [cr 0, ai_i p, ai_i o, cr b7, ai_un]) rfl rfl rfl ?_
  refine w_aload (i := 0) (npc := 7) (v := cr 0) rfl rfl rfl ?_
  refine w_iload (i := 2) (npc := 8) rfl rfl ?_
  refine w_virt (ci := 7) (i := 0) (npc := 11) (a := [cr 0, ai_i o]) (rest := []) rfl rfl (hI.pl (by decide)) (hI.T (by decide) rfl) rfl rfl rfl rfl (ct_c_pageAt (sl := sl) (x := x) (d := d + 2) (o) hI) (Or.inl rfl) (fun k9 v9 T10 E10 nx10 kc10 ks10 hq9 hk10 hv10 => ?_)
  rcases hq9 with hq9 | hq9
  · obtain ⟨rfl, rfl, rfl, rfl, hz11⟩ := hq9
    exact Or.inr (Or.inr (Or.inl ⟨rfl, rfl, Or.inl ⟨rfl, rfl, rfl, hI, hF, hN, trivial⟩, by omega, by omega⟩))
  obtain ⟨rfl, rfl, rfl, rfl, b15, rfl, hz11⟩ := hq9
  have hb16 : 41 ≤ b15 ∧ b15 ≤ 77 ∧ b15 % 4 = 1 := by omega
  refine Or.inr (Or.inl ⟨rfl, ?_⟩)
  refine w_astore (i := 4) (npc := 13) (loc' := [cr 0, ai_i p, ai_i o, cr b7, cr b15]) rfl rfl rfl ?_
  refine w_aload (i := 3) (npc := 14) (v := cr b7) rfl rfl rfl ?_
  refine w_aload (i := 4) (npc := 16) (v := cr b15) rfl rfl rfl ?_
  refine w_call (npc := 19) (a := [cr b7, cr b15]) (rest := []) rfl rfl rfl rfl rfl (ct_c_countLacks (sl := sl) (x := x) (d := d + 0)  (a := b7) hb8 (b := b15) hb16 hI) (Or.inr (fun _ _ _ _ _ hq => by have h1 := hq.1; omega)) (fun k9 v9 T18 E18 nx18 kc18 ks18 hq17 hk18 hv18 => ?_)
  obtain ⟨rfl, rfl, rfl, rfl, z19, rfl, hz19⟩ := hq17
  obtain rfl : kc10 = kc18 := by omega
  obtain rfl : ks10 = ks18 := by omega
  refine Or.inr (Or.inl ⟨rfl, ?_⟩)
  refine w_aload (i := 4) (npc := 21) (v := cr b15) rfl rfl rfl ?_
  refine w_aload (i := 3) (npc := 22) (v := cr b7) rfl rfl rfl ?_
  refine w_call (npc := 25) (a := [cr b15, cr b7]) (rest := [ai_i z19]) rfl rfl rfl rfl rfl (ct_c_countLacks (sl := sl) (x := x) (d := d + 0)  (a := b15) hb16 (b := b7) hb8 hI) (Or.inr (fun _ _ _ _ _ hq => by have h1 := hq.1; omega)) (fun k9 v9 T24 E24 nx24 kc24 ks24 hq23 hk24 hv24 => ?_)
  obtain ⟨rfl, rfl, rfl, rfl, z25, rfl, hz25⟩ := hq23
  obtain rfl : kc10 = kc24 := by omega
  obtain rfl : ks10 = ks24 := by omega
  refine Or.inr (Or.inl ⟨rfl, ?_⟩)
  refine w_iadd (npc := 26) rfl (by omega) ?_
  exact w_iret rfl (Or.inr (⟨rfl, rfl, rfl, hI, hF, hN, z19 + z25, rfl, trivial⟩)) (by omega) (by omega)
set_option maxRecDepth 16384 in
theorem ct_c_alike24 {sl : Int × Int} {x : ai_E} {d : Nat} {T : cm_T} {E : cm_E} {nx : Nat} (p o : Int)  (hI : cs_I T E nx) (hN : hn E) : cm_ct (ai_ev sl (d + 4)) x 3 [cr 0, ai_i p, ai_i o] T E nx 4 430 (fun rk rv T' E' nx' => (rk = 2 ∧ T = T' ∧ nx = nx' ∧ cs_I T E' nx ∧ cm_fr (fun i k => i < 81 ∧ ¬ (23 ≤ i ∧ i ≤ 40) ∧ ¬ (i = 0 ∧ (k = 10 ∨ k = 11 ∨ k = 14))) E E' ∧ hn E' ∧ (True)) ∨ (rk = 1 ∧ T = T' ∧ nx = nx' ∧ cs_I T E' nx ∧ cm_fr (fun i k => i < 81 ∧ ¬ (23 ≤ i ∧ i ≤ 40) ∧ ¬ (i = 0 ∧ (k = 10 ∨ k = 11 ∨ k = 14))) E E' ∧ hn E' ∧ ∃ z : Int, rv = ai_i z ∧ (0 ≤ z ∧ z ≤ 1))) := by
  refine cm_body (M := ai_m3) rfl rfl (fun kc ks => ?_)
  show cm_wp (ai_find ai_c3 sl) (ai_ev sl (d + 3)) x (kc + 4) (ks + 430) _ 0 [cr 0, ai_i p, ai_i o, ai_un, ai_un] [] T E nx kc ks
  have hF : cm_fr (fun i k => i < 81 ∧ ¬ (23 ≤ i ∧ i ≤ 40) ∧ ¬ (i = 0 ∧ (k = 10 ∨ k = 11 ∨ k = 14))) E E := fun _ _ _ => rfl
  refine w_aload (i := 0) (npc := 1) (v := cr 0) rfl rfl rfl ?_
  refine w_iload (i := 1) (npc := 2) rfl rfl ?_
  refine w_virt (ci := 7) (i := 0) (npc := 5) (a := [cr 0, ai_i p]) (rest := []) rfl rfl (hI.pl (by decide)) (hI.T (by decide) rfl) rfl rfl rfl rfl (ct_c_pageAt (sl := sl) (x := x) (d := d + 2) (p) hI) (Or.inl rfl) (fun k9 v9 T2 E2 nx2 kc2 ks2 hq1 hk2 hv2 => ?_)
  rcases hq1 with hq1 | hq1
  · obtain ⟨rfl, rfl, rfl, rfl, hz3⟩ := hq1
    exact Or.inr (Or.inr (Or.inl ⟨rfl, rfl, Or.inl ⟨rfl, rfl, rfl, hI, hF, hN, trivial⟩, by omega, by omega⟩))
  obtain ⟨rfl, rfl, rfl, rfl, b7, rfl, hz3⟩ := hq1
  have hb8 : 41 ≤ b7 ∧ b7 ≤ 77 ∧ b7 % 4 = 1 := by omega
  refine Or.inr (Or.inl ⟨rfl, ?_⟩)
  refine w_astore (i := 3) (npc := 6) (loc' := [cr 0, ai_i p, ai_i o, cr b7, ai_un]) rfl rfl rfl ?_
  refine w_aload (i := 0) (npc := 7) (v := cr 0) rfl rfl rfl ?_
  refine w_iload (i := 2) (npc := 8) rfl rfl ?_
  refine w_virt (ci := 7) (i := 0) (npc := 11) (a := [cr 0, ai_i o]) (rest := []) rfl rfl (hI.pl (by decide)) (hI.T (by decide) rfl) rfl rfl rfl rfl (ct_c_pageAt (sl := sl) (x := x) (d := d + 2) (o) hI) (Or.inl rfl) (fun k9 v9 T10 E10 nx10 kc10 ks10 hq9 hk10 hv10 => ?_)
  rcases hq9 with hq9 | hq9
  · obtain ⟨rfl, rfl, rfl, rfl, hz11⟩ := hq9
    exact Or.inr (Or.inr (Or.inl ⟨rfl, rfl, Or.inl ⟨rfl, rfl, rfl, hI, hF, hN, trivial⟩, by omega, by omega⟩))
  obtain ⟨rfl, rfl, rfl, rfl, b15, rfl, hz11⟩ := hq9
  have hb16 : 41 ≤ b15 ∧ b15 ≤ 77 ∧ b15 % 4 = 1 := by omega
  refine Or.inr (Or.inl ⟨rfl, ?_⟩)
  refine w_astore (i := 4) (npc := 13) (loc' := [cr 0, ai_i p, ai_i o, cr b7, cr b15]) rfl rfl rfl ?_
  refine w_aload (i := 3) (npc := 14) (v := cr b7) rfl rfl rfl ?_
  refine w_aload (i := 4) (npc := 16) (v := cr b15) rfl rfl rfl ?_
  refine w_call (npc := 19) (a := [cr b7, cr b15]) (rest := []) rfl rfl rfl rfl rfl (ct_c_countLacks (sl := sl) (x := x) (d := d + 0)  (a := b7) hb8 (b := b15) hb16 hI) (Or.inr (fun _ _ _ _ _ hq => by have h1 := hq.1; omega)) (fun k9 v9 T18 E18 nx18 kc18 ks18 hq17 hk18 hv18 => ?_)
  obtain ⟨rfl, rfl, rfl, rfl, z19, rfl, hz19⟩ := hq17
  obtain rfl : kc10 = kc18 := by omega
  obtain rfl : ks10 = ks18 := by omega
  refine Or.inr (Or.inl ⟨rfl, ?_⟩)
  refine w_if (c := .ne) (npc := 22) (pt := 35) rfl (fun hc23 => ?_) (fun hc23 => ?_)
  · replace hc23 : z19 ≠ (0 : Int) := hc23
    refine w_const (n := 0) (npc := 36) rfl ?_
    exact w_zret rfl (by omega) (Or.inr (⟨rfl, rfl, rfl, hI, hF, hN, 0, rfl, by omega⟩)) (by omega) (by omega)
  · replace hc23 : ¬ (z19 ≠ (0 : Int)) := hc23
    refine w_aload (i := 4) (npc := 24) (v := cr b15) rfl rfl rfl ?_
    refine w_aload (i := 3) (npc := 25) (v := cr b7) rfl rfl rfl ?_
    refine w_call (npc := 28) (a := [cr b15, cr b7]) (rest := []) rfl rfl rfl rfl rfl (ct_c_countLacks (sl := sl) (x := x) (d := d + 0)  (a := b15) hb16 (b := b7) hb8 hI) (Or.inr (fun _ _ _ _ _ hq => by have h1 := hq.1; omega)) (fun k9 v9 T25 E25 nx25 kc25 ks25 hq24 hk25 hv25 => ?_)
    obtain ⟨rfl, rfl, rfl, rfl, z26, rfl, hz26⟩ := hq24
    obtain rfl : kc10 = kc25 := by omega
    obtain rfl : ks10 = ks25 := by omega
    refine Or.inr (Or.inl ⟨rfl, ?_⟩)
    refine w_if (c := .ne) (npc := 31) (pt := 35) rfl (fun hc30 => ?_) (fun hc30 => ?_)
    · replace hc30 : z26 ≠ (0 : Int) := hc30
      refine w_const (n := 0) (npc := 36) rfl ?_
      exact w_zret rfl (by omega) (Or.inr (⟨rfl, rfl, rfl, hI, hF, hN, 0, rfl, by omega⟩)) (by omega) (by omega)
    · replace hc30 : ¬ (z26 ≠ (0 : Int)) := hc30
      refine w_const (n := 1) (npc := 32) rfl ?_
      refine w_goto (pt := 36) rfl ?_
      exact w_zret rfl (by omega) (Or.inr (⟨rfl, rfl, rfl, hI, hF, hN, 1, rfl, by omega⟩)) (by omega) (by omega)
set_option maxRecDepth 16384 in
theorem ct_c_whose24 {sl : Int × Int} {x : ai_E} {d : Nat} {T : cm_T} {E : cm_E} {nx : Nat} (p w : Int)  (hI : cs_I T E nx) (hN : hn E) : cm_ct (ai_ev sl (d + 8)) x 42 [cr 0, ai_i p, ai_i w] T E nx 4 430 (fun rk rv T' E' nx' => (rk = 2 ∧ T = T' ∧ nx = nx' ∧ cs_I T E' nx ∧ cm_fr (fun i k => i < 81 ∧ ¬ (23 ≤ i ∧ i ≤ 40) ∧ ¬ (i = 0 ∧ (k = 10 ∨ k = 11 ∨ k = 14))) E E' ∧ hn E' ∧ (True)) ∨ (rk = 1 ∧ T = T' ∧ nx = nx' ∧ cs_I T E' nx ∧ cm_fr (fun i k => i < 81 ∧ ¬ (23 ≤ i ∧ i ≤ 40) ∧ ¬ (i = 0 ∧ (k = 10 ∨ k = 11 ∨ k = 14))) E E' ∧ hn E' ∧ ∃ z : Int, rv = ai_i z ∧ (True))) := by
  refine cm_body (M := ai_m42) rfl rfl (fun kc ks => ?_)
  show cm_wp (ai_find ai_c42 sl) (ai_ev sl (d + 7)) x (kc + 4) (ks + 430) _ 0 [cr 0, ai_i p, ai_i w] [] T E nx kc ks
  have hF : cm_fr (fun i k => i < 81 ∧ ¬ (23 ≤ i ∧ i ≤ 40) ∧ ¬ (i = 0 ∧ (k = 10 ∨ k = 11 ∨ k = 14))) E E := fun _ _ _ => rfl
  obtain ⟨z1, hz1, hz1a, hz1b⟩ := hI.int 0 10 (lo := 1) (hi := 5) (by decide) (by decide) rfl
  have ghz1 := gv_eq hz1
  refine w_aload (i := 0) (npc := 1) (v := cr 0) rfl rfl rfl ?_
  refine w_iload (i := 1) (npc := 2) rfl rfl ?_
  refine w_virt (ci := 7) (i := 0) (npc := 5) (a := [cr 0, ai_i p]) (rest := []) rfl rfl (hI.pl (by decide)) (hI.T (by decide) rfl) rfl rfl rfl rfl (ct_c_pageAt (sl := sl) (x := x) (d := d + 6) (p) hI) (Or.inl rfl) (fun k9 v9 T3 E3 nx3 kc3 ks3 hq2 hk3 hv3 => ?_)
  rcases hq2 with hq2 | hq2
  · obtain ⟨rfl, rfl, rfl, rfl, hz4⟩ := hq2
    exact Or.inr (Or.inr (Or.inl ⟨rfl, rfl, Or.inl ⟨rfl, rfl, rfl, hI, hF, hN, trivial⟩, by omega, by omega⟩))
  obtain ⟨rfl, rfl, rfl, rfl, b8, rfl, hz4⟩ := hq2
  have hb9 : 41 ≤ b8 ∧ b8 ≤ 77 ∧ b8 % 4 = 1 := by omega
  refine Or.inr (Or.inl ⟨rfl, ?_⟩)
  refine w_pop (npc := 6) rfl rfl ?_
  refine w_iload (i := 2) (npc := 7) rfl rfl ?_
  refine w_if (c := .lt) (npc := 10) (pt := 18) rfl (fun hc10 => ?_) (fun hc10 => ?_)
  · replace hc10 : w < (0 : Int) := hc10
    exact w_throw (k := 2) rfl (Or.inl ⟨rfl, rfl, rfl, hI, hF, hN, trivial⟩) (by omega) (by omega)
  · replace hc10 : ¬ (w < (0 : Int)) := hc10
    refine w_iload (i := 2) (npc := 11) rfl rfl ?_
    refine w_aload (i := 0) (npc := 12) (v := cr 0) rfl rfl rfl ?_
    refine w_getf (i := 0) (ci := 7) (k := 10) (npc := 15) rfl (hI.pl (by decide)) (hI.T (by decide) rfl) (by decide) hz1 ?_
    refine w_icmp (c := .lt) (npc := 18) (pt := 29) rfl (fun hc11 => ?_) (fun hc11 => ?_)
    · replace hc11 : w < z1 := hc11
      refine w_aload (i := 0) (npc := 30) (v := cr 0) rfl rfl rfl ?_
      refine w_iload (i := 1) (npc := 31) rfl rfl ?_
      refine w_virt (ci := 7) (i := 0) (npc := 34) (a := [cr 0, ai_i p]) (rest := []) rfl rfl (hI.pl (by decide)) (hI.T (by decide) rfl) rfl rfl rfl rfl (ct_c_viewOf (sl := sl) (x := x) (d := d + 0) (p) hI (by omega)) (Or.inl rfl) (fun k9 v9 T13 E13 nx13 kc13 ks13 hq12 hk13 hv13 => ?_)
      obtain ⟨rfl, rfl, rfl, hI15, hG16, rfl, hz14⟩ := hq12
      obtain rfl : kc3 = kc13 := by omega
      obtain rfl : ks3 = ks13 := by omega
      have hF18 := cm_fr.trans hF hG16 (by intro i k h; (try simp only at h); (try simp only); omega)
      have hN19 := hN.fr hG16 (by intro i k h; (try simp only at h); omega)
      have hz20 : E13 0 10 = ai_i z1 := (hG16 0 10 (by first | omega | (simp; done) | (simp; omega) | (simp only; omega))).trans hz1
      have ghz20 := gv_eq hz20
      refine Or.inr (Or.inl ⟨rfl, ?_⟩)
      refine w_iload (i := 2) (npc := 35) rfl rfl ?_
      refine w_virt (ci := 6) (i := 6) (npc := 38) (a := [cr 6, ai_i w]) (rest := []) rfl rfl (hI15.pl (by decide)) (hI15.T (by decide) rfl) rfl rfl rfl rfl (ct_vw_countOf (sl := sl) (x := x) (d := d + 5) (w) hI15) (Or.inl rfl) (fun k9 v9 T22 E22 nx22 kc22 ks22 hq21 hk22 hv22 => ?_)
      obtain ⟨rfl, rfl, rfl, rfl, z23, rfl, hz23⟩ := hq21
      obtain rfl : kc3 = kc22 := by omega
      obtain rfl : ks3 = ks22 := by omega
      refine Or.inr (Or.inl ⟨rfl, ?_⟩)
      exact w_iret rfl (Or.inr (⟨rfl, rfl, rfl, hI15, hF18, hN19, z23, rfl, trivial⟩)) (by omega) (by omega)
    · replace hc11 : ¬ (w < z1) := hc11
      exact w_throw (k := 2) rfl (Or.inl ⟨rfl, rfl, rfl, hI, hF, hN, trivial⟩) (by omega) (by omega)
set_option maxRecDepth 16384 in
theorem ct_c_gone24 {sl : Int × Int} {x : ai_E} {d : Nat} {T : cm_T} {E : cm_E} {nx : Nat} (p m : Int)  (hI : cs_I T E nx) (hN : hn E) (hp0 : -2147483648 ≤ m ∧ m ≤ 2147483647) : cm_ct (ai_ev sl (d + 8)) x 14 [cr 0, ai_i p, ai_i m] T E nx 4 430 (fun rk rv T' E' nx' => (rk = 2 ∧ T = T' ∧ nx = nx' ∧ cs_I T E' nx ∧ cm_fr (fun i k => i < 81 ∧ ¬ (23 ≤ i ∧ i ≤ 40) ∧ ¬ (i = 0 ∧ (k = 10 ∨ k = 11 ∨ k = 14))) E E' ∧ hn E' ∧ (True)) ∨ (rk = 1 ∧ T = T' ∧ nx = nx' ∧ cs_I T E' nx ∧ cm_fr (fun i k => i < 81 ∧ ¬ (23 ≤ i ∧ i ≤ 40) ∧ ¬ (i = 0 ∧ (k = 10 ∨ k = 11 ∨ k = 14))) E E' ∧ hn E' ∧ ∃ z : Int, rv = ai_i z ∧ (0 ≤ z ∧ z ≤ 1))) := by
  refine cm_body (M := ai_m14) rfl rfl (fun kc ks => ?_)
  show cm_wp (ai_find ai_c14 sl) (ai_ev sl (d + 7)) x (kc + 4) (ks + 430) _ 0 [cr 0, ai_i p, ai_i m, ai_un, ai_un] [] T E nx kc ks
  have hF : cm_fr (fun i k => i < 81 ∧ ¬ (23 ≤ i ∧ i ≤ 40) ∧ ¬ (i = 0 ∧ (k = 10 ∨ k = 11 ∨ k = 14))) E E := fun _ _ _ => rfl
  obtain ⟨z1, hz1, hz1a, hz1b⟩ := hI.int 0 10 (lo := 1) (hi := 5) (by decide) (by decide) rfl
  have ghz1 := gv_eq hz1
  refine w_aload (i := 0) (npc := 1) (v := cr 0) rfl rfl rfl ?_
  refine w_iload (i := 1) (npc := 2) rfl rfl ?_
  refine w_virt (ci := 7) (i := 0) (npc := 5) (a := [cr 0, ai_i p]) (rest := []) rfl rfl (hI.pl (by decide)) (hI.T (by decide) rfl) rfl rfl rfl rfl (ct_c_pageAt (sl := sl) (x := x) (d := d + 6) (p) hI) (Or.inl rfl) (fun k9 v9 T3 E3 nx3 kc3 ks3 hq2 hk3 hv3 => ?_)
  rcases hq2 with hq2 | hq2
  · obtain ⟨rfl, rfl, rfl, rfl, hz4⟩ := hq2
    exact Or.inr (Or.inr (Or.inl ⟨rfl, rfl, Or.inl ⟨rfl, rfl, rfl, hI, hF, hN, trivial⟩, by omega, by omega⟩))
  obtain ⟨rfl, rfl, rfl, rfl, b8, rfl, hz4⟩ := hq2
  have hb9 : 41 ≤ b8 ∧ b8 ≤ 77 ∧ b8 % 4 = 1 := by omega
  refine Or.inr (Or.inl ⟨rfl, ?_⟩)
  refine w_astore (i := 3) (npc := 6) (loc' := [cr 0, ai_i p, ai_i m, cr b8, ai_un]) rfl rfl rfl ?_
  refine w_aload (i := 3) (npc := 7) (v := cr b8) rfl rfl rfl ?_
  refine w_iload (i := 2) (npc := 8) rfl rfl ?_
  refine w_const (n := 100) (npc := 10) rfl ?_
  refine w_idiv (npc := 11) rfl (by omega) (by omega) (fun z10 hz10 hz10b hz10c => ?_)
  refine w_iload (i := 2) (npc := 12) rfl rfl ?_
  refine w_const (n := 100) (npc := 14) rfl ?_
  refine w_irem (npc := 15) rfl (by omega) (by omega) (fun z11 hz11 hz11b => ?_)
  refine w_virt (ci := 3) (i := b8) (npc := 18) (a := [cr b8, ai_i z10, ai_i z11]) (rest := []) rfl rfl (hI.pl (by omega)) (hI.pgT0 hb9) rfl rfl rfl rfl (ct_pg_stepOf (sl := sl) (x := x) (d := d + 5) (z10) (z11) (b := b8) hb9 hI) (Or.inl rfl) (fun k9 v9 T13 E13 nx13 kc13 ks13 hq12 hk13 hv13 => ?_)
  obtain ⟨rfl, rfl, rfl, rfl, hq12⟩ := hq12
  obtain rfl : kc3 = kc13 := by omega
  obtain rfl : ks3 = ks13 := by omega
  rcases hq12 with rfl | ⟨q18, rfl, hs19, hz14⟩
  · refine Or.inr (Or.inl ⟨rfl, ?_⟩)
    refine w_astore (i := 4) (npc := 20) (loc' := [cr 0, ai_i p, ai_i m, cr b8, ai_nul]) rfl rfl rfl ?_
    refine w_aload (i := 4) (npc := 22) (v := ai_nul) rfl rfl rfl ?_
    refine w_isnullN (pt := 33) (npc := 25) rfl ?_
    exact w_throw (k := 2) rfl (Or.inl ⟨rfl, rfl, rfl, hI, hF, hN, trivial⟩) (by omega) (by omega)
  refine Or.inr (Or.inl ⟨rfl, ?_⟩)
  refine w_astore (i := 4) (npc := 20) (loc' := [cr 0, ai_i p, ai_i m, cr b8, cr q18]) rfl rfl rfl ?_
  refine w_aload (i := 4) (npc := 22) (v := cr q18) rfl rfl rfl ?_
  refine w_isnullR (pt := 33) (npc := 25) rfl ?_
  refine w_aload (i := 4) (npc := 27) (v := cr q18) rfl rfl rfl ?_
  refine w_virt (ci := 4) (i := q18) (npc := 30) (a := [cr q18]) (rest := []) rfl rfl hs19.lt hs19.T0 rfl rfl rfl rfl (ct_sp_kind (sl := sl) (x := x) (d := d + 5)  hs19) (Or.inl rfl) (fun k9 v9 T21 E21 nx21 kc21 ks21 hq20 hk21 hv21 => ?_)
  obtain ⟨rfl, rfl, rfl, rfl, z22, rfl, hz22⟩ := hq20
  obtain rfl : kc3 = kc21 := by omega
  obtain rfl : ks3 = ks21 := by omega
  refine Or.inr (Or.inl ⟨rfl, ?_⟩)
  refine w_if (c := .eq) (npc := 33) (pt := 44) rfl (fun hc26 => ?_) (fun hc26 => ?_)
  · replace hc26 : z22 = (0 : Int) := hc26
    refine w_aload (i := 0) (npc := 45) (v := cr 0) rfl rfl rfl ?_
    refine w_iload (i := 1) (npc := 46) rfl rfl ?_
    refine w_virt (ci := 7) (i := 0) (npc := 49) (a := [cr 0, ai_i p]) (rest := []) rfl rfl (hI.pl (by decide)) (hI.T (by decide) rfl) rfl rfl rfl rfl (ct_c_viewOf (sl := sl) (x := x) (d := d + 0) (p) hI (by omega)) (Or.inl rfl) (fun k9 v9 T28 E28 nx28 kc28 ks28 hq27 hk28 hv28 => ?_)
    obtain ⟨rfl, rfl, rfl, hI30, hG31, rfl, hz29⟩ := hq27
    obtain rfl : kc3 = kc28 := by omega
    obtain rfl : ks3 = ks28 := by omega
    have hF33 := cm_fr.trans hF hG31 (by intro i k h; (try simp only at h); (try simp only); omega)
    have hN34 := hN.fr hG31 (by intro i k h; (try simp only at h); omega)
    have hs35 := hs19.fr hG31 (by intro i k h; (try simp only at h); omega)
    have hz36 : E28 0 10 = ai_i z1 := (hG31 0 10 (by first | omega | (simp; done) | (simp; omega) | (simp only; omega))).trans hz1
    have ghz36 := gv_eq hz36
    refine Or.inr (Or.inl ⟨rfl, ?_⟩)
    refine w_aload (i := 3) (npc := 50) (v := cr b8) rfl rfl rfl ?_
    refine w_aload (i := 0) (npc := 51) (v := cr 0) rfl rfl rfl ?_
    refine w_getf (i := 0) (ci := 7) (k := 10) (npc := 54) rfl (hI30.pl (by decide)) (hI30.T (by decide) rfl) (by decide) hz36 ?_
    refine w_aload (i := 4) (npc := 56) (v := cr q18) rfl rfl rfl ?_
    refine w_virt (ci := 4) (i := q18) (npc := 59) (a := [cr q18]) (rest := [ai_i z1, cr b8, cr 6]) rfl rfl hs35.lt hs35.T0 rfl rfl rfl rfl (ct_sp_writer (sl := sl) (x := x) (d := d + 5)  hs35) (Or.inl rfl) (fun k9 v9 T38 E38 nx38 kc38 ks38 hq37 hk38 hv38 => ?_)
    obtain ⟨rfl, rfl, rfl, rfl, z39, rfl, hz39⟩ := hq37
    obtain rfl : kc3 = kc38 := by omega
    obtain rfl : ks3 = ks38 := by omega
    refine Or.inr (Or.inl ⟨rfl, ?_⟩)
    refine w_aload (i := 4) (npc := 61) (v := cr q18) rfl rfl rfl ?_
    refine w_virt (ci := 4) (i := q18) (npc := 64) (a := [cr q18]) (rest := [ai_i z39, ai_i z1, cr b8, cr 6]) rfl rfl hs35.lt hs35.T0 rfl rfl rfl rfl (ct_sp_number (sl := sl) (x := x) (d := d + 5)  hs35) (Or.inl rfl) (fun k9 v9 T44 E44 nx44 kc44 ks44 hq43 hk44 hv44 => ?_)
    obtain ⟨rfl, rfl, rfl, rfl, z45, rfl, hz45⟩ := hq43
    obtain rfl : kc3 = kc44 := by omega
    obtain rfl : ks3 = ks44 := by omega
    refine Or.inr (Or.inl ⟨rfl, ?_⟩)
    refine w_call (npc := 67) (a := [ai_i z39, ai_i z45]) (rest := [ai_i z1, cr b8, cr 6]) rfl rfl rfl rfl rfl (ct_c_slotOf (sl := sl) (x := x) (d := d + 6) (z39) (z45) (by omega) (by omega)) (Or.inr (fun _ _ _ _ _ hq => by have h1 := hq.1; omega)) (fun k9 v9 T50 E50 nx50 kc50 ks50 hq49 hk50 hv50 => ?_)
    obtain ⟨rfl, rfl, rfl, rfl, z51, rfl, hz51⟩ := hq49
    obtain rfl : kc3 = kc50 := by omega
    obtain rfl : ks3 = ks50 := by omega
    refine Or.inr (Or.inl ⟨rfl, ?_⟩)
    refine w_virt (ci := 6) (i := 6) (npc := 70) (a := [cr 6, cr b8, ai_i z1, ai_i z51]) (rest := []) rfl rfl (hI30.pl (by decide)) (hI30.T (by decide) rfl) rfl rfl rfl rfl (ct_vw_isGone (sl := sl) (x := x) (d := d + 2) (z1) (z51) (b := b8) hb9 hI30 (by omega) (by omega)) (Or.inl rfl) (fun k9 v9 T56 E56 nx56 kc56 ks56 hq55 hk56 hv56 => ?_)
    obtain ⟨rfl, rfl, rfl, hI58, hG59, z57, rfl, hz57⟩ := hq55
    obtain rfl : kc3 = kc56 := by omega
    obtain rfl : ks3 = ks56 := by omega
    have hF61 := cm_fr.trans hF33 hG59 (by intro i k h; (try simp only at h); (try simp only); omega)
    have hN62 := hN34.fr hG59 (by intro i k h; (try simp only at h); omega)
    have hs63 := hs35.fr hG59 (by intro i k h; (try simp only at h); omega)
    have hz64 : E56 0 10 = ai_i z1 := (hG59 0 10 (by first | omega | (simp; done) | (simp; omega) | (simp only; omega))).trans hz36
    have ghz64 := gv_eq hz64
    refine Or.inr (Or.inl ⟨rfl, ?_⟩)
    exact w_zret rfl (by omega) (Or.inr (⟨rfl, rfl, rfl, hI58, hF61, hN62, z57, rfl, by omega⟩)) (by omega) (by omega)
  · replace hc26 : ¬ (z22 = (0 : Int)) := hc26
    exact w_throw (k := 2) rfl (Or.inl ⟨rfl, rfl, rfl, hI, hF, hN, trivial⟩) (by omega) (by omega)
set_option maxRecDepth 16384 in
theorem ct_c_image24 {sl : Int × Int} {x : ai_E} {d : Nat} {T : cm_T} {E : cm_E} {nx : Nat}  (hI : cs_I T E nx) (hN : hn E) : cm_ct (ai_ev sl (d + 2)) x 16 [cr 0] T E nx 4 430 (fun rk rv T' E' nx' => rk = 0 ∧ T = T' ∧ nx = nx' ∧ cs_I T E' nx ∧ cm_fr (fun i k => i < 81 ∧ ¬ (23 ≤ i ∧ i ≤ 40) ∧ ¬ (i = 0 ∧ (k = 10 ∨ k = 11))) E E' ∧ hn E' ∧ (gv E' 0 14 = 1)) := by
  refine cm_body (M := ai_m16) rfl rfl (fun kc ks => ?_)
  show cm_wp (ai_find ai_c16 sl) (ai_ev sl (d + 1)) x (kc + 4) (ks + 430) _ 0 [cr 0, ai_un] [] T E nx kc ks
  have hF : cm_fr (fun i k => i < 81 ∧ ¬ (23 ≤ i ∧ i ≤ 40) ∧ ¬ (i = 0 ∧ (k = 10 ∨ k = 11))) E E := fun _ _ _ => rfl
  refine w_const (n := 0) (npc := 1) rfl ?_
  refine w_istore (i := 1) (npc := 2) (loc' := [cr 0, ai_i 0]) rfl rfl ?_
  have loop2 : ∀ (nf : Nat) (w : Int) (Eq2 : cm_E), ((5 - w).toNat) < nf → cs_I T Eq2 nx → cm_fr (fun i k => i < 81 ∧ ¬ (23 ≤ i ∧ i ≤ 40) ∧ ¬ (i = 0 ∧ (k = 10 ∨ k = 11))) E Eq2 → hn Eq2 → (0 ≤ w ∧ w ≤ 5) → cm_wp (ai_find ai_c16 sl) (ai_ev sl (d + 1)) x (kc + 4) (ks + 430) (fun rk rv T' E' nx' => rk = 0 ∧ T = T' ∧ nx = nx' ∧ cs_I T E' nx ∧ cm_fr (fun i k => i < 81 ∧ ¬ (23 ≤ i ∧ i ≤ 40) ∧ ¬ (i = 0 ∧ (k = 10 ∨ k = 11))) E E' ∧ hn E' ∧ (gv E' 0 14 = 1)) 2 [cr 0, ai_i w] [] T Eq2 nx kc ks := by
    intro nf
    induction nf with
    | zero => intro w Eq2 hm; exact absurd hm (Nat.not_lt_zero _)
    | succ nf2 ih =>
      intro w Eq2 hm2 hI2 hF2 hN2 hv2
      have ih2 := ih; clear ih
      refine w_iload (i := 1) (npc := 3) rfl rfl ?_
      refine w_const (n := 5) (npc := 4) rfl ?_
      refine w_icmp (c := .ge) (npc := 7) (pt := 28) rfl (fun hc1 => ?_) (fun hc1 => ?_)
      · replace hc1 : (5 : Int) ≤ w := hc1
        refine w_aload (i := 0) (npc := 29) (v := cr 0) rfl rfl rfl ?_
        refine w_getf (i := 0) (ci := 7) (k := 2) (npc := 32) rfl (hI2.pl (by decide)) (hI2.T (by decide) rfl) (by decide) (hI2.ref 0 2 (p := 3) (by decide) (by decide) rfl) ?_
        refine w_const (n := 0) (npc := 33) rfl ?_
        refine w_aload (i := 0) (npc := 34) (v := cr 0) rfl rfl rfl ?_
        refine w_getf (i := 0) (ci := 7) (k := 3) (npc := 37) rfl (hI2.pl (by decide)) (hI2.T (by decide) rfl) (by decide) (hI2.ref 0 3 (p := 4) (by decide) (by decide) rfl) ?_
        refine w_const (n := 0) (npc := 38) rfl ?_
        refine w_const (n := 3) (npc := 39) rfl ?_
        refine w_copy (i := 3) (j := 4) (ni := 3) (nj := 3) (npc := 42) rfl (hI2.pl (by decide)) (hI2.pl (by decide)) (hI2.T (by decide) rfl) (hI2.T (by decide) rfl) (by omega) (by omega) (by omega) (by omega) (by omega) (by decide) ?_
        have hI3 := hI2.cp (i := 3) (j := 4) (sp := (0 : Int).toNat) (dp := (0 : Int).toNat) (n := (3 : Int).toNat) (lo := (-2147483648)) (hi := 2147483647) (by decide) (by decide) rfl (fun _ => rfl) (fun _ => rfl) (by omega)
        have hF5 := cm_cp_fr (i := 3) (j := 4) (sp := (0 : Int).toNat) (dp := (0 : Int).toNat) (n := (3 : Int).toNat) hF2 (fun k => by first | omega | (simp; done) | (simp; omega) | (simp only; omega))
        have hN6 := hn.fr (P := fun i _ => i = 4) (E' := (cm_cp Eq2 3 4 (0 : Int).toNat (0 : Int).toNat (3 : Int).toNat)) hN2 (fun i k hk => cm_cp_ne (fun q => hk q.1)) (by intro i k h; (try simp only at h); omega)
        generalize hE4 : cm_cp Eq2 3 4 (0 : Int).toNat (0 : Int).toNat (3 : Int).toNat = E2 at hI3 hF5 hN6 ⊢
        refine w_aload (i := 0) (npc := 43) (v := cr 0) rfl rfl rfl ?_
        refine w_const (n := 1) (npc := 44) rfl ?_
        refine w_putf (i := 0) (ci := 7) (k := 14) (t := 1) (npc := 47) rfl (hI3.pl (by decide)) (hI3.T (by decide) rfl) (by decide) (cm_fit1 (by omega)) ?_
        have hI8 := hI3.puti (i := 0) (k := 14) (z := 1) (lo := 0) (hi := 1) (by decide) rfl (by omega)
        have hF10 := cm_fr.up (i := 0) (k := 14) (v := ai_i 1) hF5 (by first | omega | (simp; done) | (simp; omega) | (simp only; omega))
        have hN11 := hn.wr (i := 0) (k := 14) (v := ai_i 1) hN6 (by omega)
        generalize hE9 : cm_up E2 0 14 (ai_i 1) = E7 at hI8 hF10 hN11 ⊢
        have hz12 : E7 0 14 = ai_i 1 := by rw [← hE9, cm_up_eq]
        have ghz12 := gv_eq hz12
        exact w_vret rfl (⟨rfl, rfl, rfl, hI8, hF10, hN11, by omega⟩) (by omega) (by omega)
      · replace hc1 : ¬ ((5 : Int) ≤ w) := hc1
        refine w_aload (i := 0) (npc := 8) (v := cr 0) rfl rfl rfl ?_
        refine w_getf (i := 0) (ci := 7) (k := 1) (npc := 11) rfl (hI2.pl (by decide)) (hI2.T (by decide) rfl) (by decide) (hI2.ref 0 1 (p := 2) (by decide) (by decide) rfl) ?_
        refine w_iload (i := 1) (npc := 12) rfl rfl ?_
        obtain ⟨b13, hb14e⟩ : ∃ b13 : Nat, b13 = 45 + 8 * (w : Int).toNat := ⟨_, rfl⟩
        have hb14 : 41 ≤ b13 ∧ b13 ≤ 77 ∧ b13 % 4 = 1 := by omega
        refine w_ald (i := 2) (t := 4) (n := 5) (npc := 13) rfl (hI2.pl (by decide)) (hI2.T (by decide) rfl) (by decide) rfl (by omega) (v := cr b13) (by rw [hb14e]; exact hI2.kept (by omega)) ?_
        refine w_aload (i := 0) (npc := 14) (v := cr 0) rfl rfl rfl ?_
        refine w_getf (i := 0) (ci := 7) (k := 0) (npc := 17) rfl (hI2.pl (by decide)) (hI2.T (by decide) rfl) (by decide) (hI2.ref 0 0 (p := 1) (by decide) (by decide) rfl) ?_
        refine w_iload (i := 1) (npc := 18) rfl rfl ?_
        obtain ⟨b15, hb16e⟩ : ∃ b15 : Nat, b15 = 41 + 8 * (w : Int).toNat := ⟨_, rfl⟩
        have hb16 : 41 ≤ b15 ∧ b15 ≤ 77 ∧ b15 % 4 = 1 := by omega
        refine w_ald (i := 1) (t := 4) (n := 5) (npc := 19) rfl (hI2.pl (by decide)) (hI2.T (by decide) rfl) (by decide) rfl (by omega) (v := cr b15) (by rw [hb16e]; exact hI2.pages (by omega)) ?_
        refine w_virt (ci := 3) (i := b13) (npc := 22) (a := [cr b13, cr b15]) (rest := []) rfl rfl (hI2.pl (by omega)) (hI2.pgT0 hb14) rfl rfl rfl rfl (ct_pg_copy (sl := sl) (x := x) (d := d + 0)  (b := b13) hb14 (a := b15) hb16 hI2 hN2 (by omega)) (Or.inl rfl) (fun k9 v9 T18 E18 nx18 kc18 ks18 hq17 hk18 hv18 => ?_)
        obtain ⟨rfl, rfl, rfl, hI20, hG21, hN22, hz19⟩ := hq17
        obtain rfl : kc = kc18 := by omega
        obtain rfl : ks = ks18 := by omega
        have hF23 := cm_fr.trans hF2 hG21 (by intro i k h; (try simp only at h); (try simp only); omega)
        refine Or.inl ⟨rfl, ?_⟩
        refine w_iinc (i := 1) (n := 1) (npc := 25) (loc' := [cr 0, ai_i (w + 1)]) rfl rfl (by omega) rfl ?_
        refine w_goto (pt := 2) rfl ?_
        exact ih2 (w + 1) E18 (by omega) hI20 hF23 hN22 (by omega)
  exact loop2 _ (0) E (Nat.lt_succ_self _) hI hF hN (by omega)
set_option maxRecDepth 16384 in
theorem ct_c_restore24 {sl : Int × Int} {x : ai_E} {d : Nat} {T : cm_T} {E : cm_E} {nx : Nat}  (hI : cs_I T E nx) (hN : hn E) : cm_ct (ai_ev sl (d + 2)) x 29 [cr 0] T E nx 4 430 (fun rk rv T' E' nx' => rk = 1 ∧ T = T' ∧ nx = nx' ∧ cs_I T E' nx ∧ cm_fr (fun i k => i < 81 ∧ ¬ (23 ≤ i ∧ i ≤ 40) ∧ ¬ (i = 0 ∧ (k = 10 ∨ k = 11 ∨ k = 14))) E E' ∧ hn E' ∧ ∃ z : Int, rv = ai_i z ∧ (z = gv E 0 14)) := by
  refine cm_body (M := ai_m29) rfl rfl (fun kc ks => ?_)
  show cm_wp (ai_find ai_c29 sl) (ai_ev sl (d + 1)) x (kc + 4) (ks + 430) _ 0 [cr 0, ai_un] [] T E nx kc ks
  have hF : cm_fr (fun i k => i < 81 ∧ ¬ (23 ≤ i ∧ i ≤ 40) ∧ ¬ (i = 0 ∧ (k = 10 ∨ k = 11 ∨ k = 14))) E E := fun _ _ _ => rfl
  obtain ⟨z1, hz1, hz1a, hz1b⟩ := hI.int 0 14 (lo := 0) (hi := 1) (by decide) (by decide) rfl
  have ghz1 := gv_eq hz1
  refine w_aload (i := 0) (npc := 1) (v := cr 0) rfl rfl rfl ?_
  refine w_getf (i := 0) (ci := 7) (k := 14) (npc := 4) rfl (hI.pl (by decide)) (hI.T (by decide) rfl) (by decide) hz1 ?_
  refine w_if (c := .ne) (npc := 7) (pt := 9) rfl (fun hc2 => ?_) (fun hc2 => ?_)
  · replace hc2 : z1 ≠ (0 : Int) := hc2
    refine w_const (n := 0) (npc := 10) rfl ?_
    refine w_istore (i := 1) (npc := 11) (loc' := [cr 0, ai_i 0]) rfl rfl ?_
    have loop11 : ∀ (nf : Nat) (w : Int) (Eq11 : cm_E), ((5 - w).toNat) < nf → cs_I T Eq11 nx → cm_fr (fun i k => i < 81 ∧ ¬ (23 ≤ i ∧ i ≤ 40) ∧ ¬ (i = 0 ∧ (k = 10 ∨ k = 11 ∨ k = 14))) E Eq11 → hn Eq11 → (0 ≤ w ∧ w ≤ 5) → cm_wp (ai_find ai_c29 sl) (ai_ev sl (d + 1)) x (kc + 4) (ks + 430) (fun rk rv T' E' nx' => rk = 1 ∧ T = T' ∧ nx = nx' ∧ cs_I T E' nx ∧ cm_fr (fun i k => i < 81 ∧ ¬ (23 ≤ i ∧ i ≤ 40) ∧ ¬ (i = 0 ∧ (k = 10 ∨ k = 11 ∨ k = 14))) E E' ∧ hn E' ∧ ∃ z : Int, rv = ai_i z ∧ (z = gv E 0 14)) 11 [cr 0, ai_i w] [] T Eq11 nx kc ks := by
      intro nf
      induction nf with
      | zero => intro w Eq11 hm; exact absurd hm (Nat.not_lt_zero _)
      | succ nf11 ih =>
        intro w Eq11 hm11 hI11 hF11 hN11 hv11
        have ih11 := ih; clear ih
        refine w_iload (i := 1) (npc := 12) rfl rfl ?_
        refine w_const (n := 5) (npc := 13) rfl ?_
        refine w_icmp (c := .ge) (npc := 16) (pt := 37) rfl (fun hc3 => ?_) (fun hc3 => ?_)
        · replace hc3 : (5 : Int) ≤ w := hc3
          refine w_aload (i := 0) (npc := 38) (v := cr 0) rfl rfl rfl ?_
          refine w_getf (i := 0) (ci := 7) (k := 3) (npc := 41) rfl (hI11.pl (by decide)) (hI11.T (by decide) rfl) (by decide) (hI11.ref 0 3 (p := 4) (by decide) (by decide) rfl) ?_
          refine w_const (n := 0) (npc := 42) rfl ?_
          refine w_aload (i := 0) (npc := 43) (v := cr 0) rfl rfl rfl ?_
          refine w_getf (i := 0) (ci := 7) (k := 2) (npc := 46) rfl (hI11.pl (by decide)) (hI11.T (by decide) rfl) (by decide) (hI11.ref 0 2 (p := 3) (by decide) (by decide) rfl) ?_
          refine w_const (n := 0) (npc := 47) rfl ?_
          refine w_const (n := 3) (npc := 48) rfl ?_
          refine w_copy (i := 4) (j := 3) (ni := 3) (nj := 3) (npc := 51) rfl (hI11.pl (by decide)) (hI11.pl (by decide)) (hI11.T (by decide) rfl) (hI11.T (by decide) rfl) (by omega) (by omega) (by omega) (by omega) (by omega) (by decide) ?_
          have hI5 := hI11.cp (i := 4) (j := 3) (sp := (0 : Int).toNat) (dp := (0 : Int).toNat) (n := (3 : Int).toNat) (lo := (-2147483648)) (hi := 2147483647) (by decide) (by decide) rfl (fun _ => rfl) (fun _ => rfl) (by omega)
          have hF7 := cm_cp_fr (i := 4) (j := 3) (sp := (0 : Int).toNat) (dp := (0 : Int).toNat) (n := (3 : Int).toNat) hF11 (fun k => by first | omega | (simp; done) | (simp; omega) | (simp only; omega))
          have hN8 := hn.fr (P := fun i _ => i = 3) (E' := (cm_cp Eq11 4 3 (0 : Int).toNat (0 : Int).toNat (3 : Int).toNat)) hN11 (fun i k hk => cm_cp_ne (fun q => hk q.1)) (by intro i k h; (try simp only at h); omega)
          generalize hE6 : cm_cp Eq11 4 3 (0 : Int).toNat (0 : Int).toNat (3 : Int).toNat = E4 at hI5 hF7 hN8 ⊢
          refine w_aload (i := 0) (npc := 52) (v := cr 0) rfl rfl rfl ?_
          refine w_const (n := (-1)) (npc := 53) rfl ?_
          refine w_putf (i := 0) (ci := 7) (k := 13) (t := 0) (npc := 56) rfl (hI5.pl (by decide)) (hI5.T (by decide) rfl) (by decide) cm_fit0 ?_
          have hI10 := hI5.puti (i := 0) (k := 13) (z := (-1)) (lo := (-1)) (hi := 4) (by decide) rfl (by omega)
          have hF12 := cm_fr.up (i := 0) (k := 13) (v := ai_i ((-1))) hF7 (by first | omega | (simp; done) | (simp; omega) | (simp only; omega))
          have hN13 := hn.wr (i := 0) (k := 13) (v := ai_i ((-1))) hN8 (by omega)
          generalize hE11 : cm_up E4 0 13 (ai_i ((-1))) = E9 at hI10 hF12 hN13 ⊢
          have hz14 : E9 0 13 = ai_i ((-1)) := by rw [← hE11, cm_up_eq]
          have ghz14 := gv_eq hz14
          refine w_const (n := 1) (npc := 57) rfl ?_
          exact w_zret rfl (by omega) (⟨rfl, rfl, rfl, hI10, hF12, hN13, 1, rfl, by omega⟩) (by omega) (by omega)
        · replace hc3 : ¬ ((5 : Int) ≤ w) := hc3
          refine w_aload (i := 0) (npc := 17) (v := cr 0) rfl rfl rfl ?_
          refine w_getf (i := 0) (ci := 7) (k := 0) (npc := 20) rfl (hI11.pl (by decide)) (hI11.T (by decide) rfl) (by decide) (hI11.ref 0 0 (p := 1) (by decide) (by decide) rfl) ?_
          refine w_iload (i := 1) (npc := 21) rfl rfl ?_
          obtain ⟨b15, hb16e⟩ : ∃ b15 : Nat, b15 = 41 + 8 * (w : Int).toNat := ⟨_, rfl⟩
          have hb16 : 41 ≤ b15 ∧ b15 ≤ 77 ∧ b15 % 4 = 1 := by omega
          refine w_ald (i := 1) (t := 4) (n := 5) (npc := 22) rfl (hI11.pl (by decide)) (hI11.T (by decide) rfl) (by decide) rfl (by omega) (v := cr b15) (by rw [hb16e]; exact hI11.pages (by omega)) ?_
          refine w_aload (i := 0) (npc := 23) (v := cr 0) rfl rfl rfl ?_
          refine w_getf (i := 0) (ci := 7) (k := 1) (npc := 26) rfl (hI11.pl (by decide)) (hI11.T (by decide) rfl) (by decide) (hI11.ref 0 1 (p := 2) (by decide) (by decide) rfl) ?_
          refine w_iload (i := 1) (npc := 27) rfl rfl ?_
          obtain ⟨b17, hb18e⟩ : ∃ b17 : Nat, b17 = 45 + 8 * (w : Int).toNat := ⟨_, rfl⟩
          have hb18 : 41 ≤ b17 ∧ b17 ≤ 77 ∧ b17 % 4 = 1 := by omega
          refine w_ald (i := 2) (t := 4) (n := 5) (npc := 28) rfl (hI11.pl (by decide)) (hI11.T (by decide) rfl) (by decide) rfl (by omega) (v := cr b17) (by rw [hb18e]; exact hI11.kept (by omega)) ?_
          refine w_virt (ci := 3) (i := b15) (npc := 31) (a := [cr b15, cr b17]) (rest := []) rfl rfl (hI11.pl (by omega)) (hI11.pgT0 hb16) rfl rfl rfl rfl (ct_pg_copy (sl := sl) (x := x) (d := d + 0)  (b := b15) hb16 (a := b17) hb18 hI11 hN11 (by omega)) (Or.inl rfl) (fun k9 v9 T20 E20 nx20 kc20 ks20 hq19 hk20 hv20 => ?_)
          obtain ⟨rfl, rfl, rfl, hI22, hG23, hN24, hz21⟩ := hq19
          obtain rfl : kc = kc20 := by omega
          obtain rfl : ks = ks20 := by omega
          have hF25 := cm_fr.trans hF11 hG23 (by intro i k h; (try simp only at h); (try simp only); omega)
          refine Or.inl ⟨rfl, ?_⟩
          refine w_iinc (i := 1) (n := 1) (npc := 34) (loc' := [cr 0, ai_i (w + 1)]) rfl rfl (by omega) rfl ?_
          refine w_goto (pt := 11) rfl ?_
          exact ih11 (w + 1) E20 (by omega) hI22 hF25 hN24 (by omega)
    exact loop11 _ (0) E (Nat.lt_succ_self _) hI hF hN (by omega)
  · replace hc2 : ¬ (z1 ≠ (0 : Int)) := hc2
    refine w_const (n := 0) (npc := 8) rfl ?_
    exact w_zret rfl (by omega) (⟨rfl, rfl, rfl, hI, hF, hN, 0, rfl, by omega⟩) (by omega) (by omega)
set_option maxRecDepth 16384 in
theorem ct_c_feed24 {sl : Int × Int} {x : ai_E} {d : Nat} {T : cm_T} {E : cm_E} {nx : Nat} (a b c e f : Int)  (hI : cs_I T E nx) (hN : hn E) : cm_ct (ai_ev sl (d + 2)) x 10 [cr 0, ai_i a, ai_i b, ai_i c, ai_i e, ai_i f] T E nx 4 430 (fun rk rv T' E' nx' => rk = 1 ∧ T = T' ∧ nx = nx' ∧ cs_I T E' nx ∧ cm_fr (fun i k => i < 81 ∧ ¬ (23 ≤ i ∧ i ≤ 40) ∧ ¬ (i = 0 ∧ (k = 10 ∨ k = 14))) E E' ∧ hn E' ∧ ∃ z : Int, rv = ai_i z ∧ ((gv E 0 11 + 20 ≤ 400 → z = gv E 0 11 + 20 ∧ gv E' 0 11 = gv E 0 11 + 20) ∧ (¬ gv E 0 11 + 20 ≤ 400 → z = -1 ∧ gv E' 0 11 = gv E 0 11))) := by
  refine cm_body (M := ai_m10) rfl rfl (fun kc ks => ?_)
  show cm_wp (ai_find ai_c10 sl) (ai_ev sl (d + 1)) x (kc + 4) (ks + 430) _ 0 [cr 0, ai_i a, ai_i b, ai_i c, ai_i e, ai_i f] [] T E nx kc ks
  have hF : cm_fr (fun i k => i < 81 ∧ ¬ (23 ≤ i ∧ i ≤ 40) ∧ ¬ (i = 0 ∧ (k = 10 ∨ k = 14))) E E := fun _ _ _ => rfl
  refine w_aload (i := 0) (npc := 1) (v := cr 0) rfl rfl rfl ?_
  obtain ⟨z1, hz1, hz1a, hz1b⟩ := hI.int 0 11 (lo := 0) (hi := 400) (by decide) (by decide) rfl
  have ghz1 := gv_eq hz1
  refine w_getf (i := 0) (ci := 7) (k := 11) (npc := 4) rfl (hI.pl (by decide)) (hI.T (by decide) rfl) (by decide) hz1 ?_
  refine w_const (n := 20) (npc := 6) rfl ?_
  refine w_iadd (npc := 7) rfl (by omega) ?_
  refine w_const (n := 400) (npc := 10) rfl ?_
  refine w_icmp (c := .le) (npc := 13) (pt := 15) rfl (fun hc3 => ?_) (fun hc3 => ?_)
  · replace hc3 : z1 + 20 ≤ (400 : Int) := hc3
    refine w_aload (i := 0) (npc := 16) (v := cr 0) rfl rfl rfl ?_
    refine w_iload (i := 1) (npc := 17) rfl rfl ?_
    refine w_virt (ci := 7) (i := 0) (npc := 20) (a := [cr 0, ai_i a]) (rest := []) rfl rfl (hI.pl (by decide)) (hI.T (by decide) rfl) rfl rfl rfl rfl (ct_c_feedFour (sl := sl) (x := x) (d := d + 0) (a) hI) (Or.inl rfl) (fun k9 v9 T5 E5 nx5 kc5 ks5 hq4 hk5 hv5 => ?_)
    obtain ⟨rfl, rfl, rfl, hI7, hG8, hz6⟩ := hq4
    obtain rfl : kc = kc5 := by omega
    obtain rfl : ks = ks5 := by omega
    have hF10 := cm_fr.trans hF hG8 (by intro i k h; (try simp only at h); (try simp only); omega)
    have hN11 := hN.fr hG8 (by intro i k h; (try simp only at h); omega)
    refine Or.inl ⟨rfl, ?_⟩
    refine w_aload (i := 0) (npc := 21) (v := cr 0) rfl rfl rfl ?_
    refine w_iload (i := 2) (npc := 22) rfl rfl ?_
    obtain ⟨z12, hz12, hz12a, hz12b⟩ := hI7.int 0 11 (lo := 0) (hi := 400) (by decide) (by decide) rfl
    have ghz12 := gv_eq hz12
    refine w_virt (ci := 7) (i := 0) (npc := 25) (a := [cr 0, ai_i b]) (rest := []) rfl rfl (hI7.pl (by decide)) (hI7.T (by decide) rfl) rfl rfl rfl rfl (ct_c_feedFour (sl := sl) (x := x) (d := d + 0) (b) hI7) (Or.inl rfl) (fun k9 v9 T14 E14 nx14 kc14 ks14 hq13 hk14 hv14 => ?_)
    obtain ⟨rfl, rfl, rfl, hI16, hG17, hz15⟩ := hq13
    obtain rfl : kc = kc14 := by omega
    obtain rfl : ks = ks14 := by omega
    have hF19 := cm_fr.trans hF10 hG17 (by intro i k h; (try simp only at h); (try simp only); omega)
    have hN20 := hN11.fr hG17 (by intro i k h; (try simp only at h); omega)
    refine Or.inl ⟨rfl, ?_⟩
    refine w_aload (i := 0) (npc := 26) (v := cr 0) rfl rfl rfl ?_
    refine w_iload (i := 3) (npc := 27) rfl rfl ?_
    obtain ⟨z21, hz21, hz21a, hz21b⟩ := hI16.int 0 11 (lo := 0) (hi := 400) (by decide) (by decide) rfl
    have ghz21 := gv_eq hz21
    refine w_virt (ci := 7) (i := 0) (npc := 30) (a := [cr 0, ai_i c]) (rest := []) rfl rfl (hI16.pl (by decide)) (hI16.T (by decide) rfl) rfl rfl rfl rfl (ct_c_feedFour (sl := sl) (x := x) (d := d + 0) (c) hI16) (Or.inl rfl) (fun k9 v9 T23 E23 nx23 kc23 ks23 hq22 hk23 hv23 => ?_)
    obtain ⟨rfl, rfl, rfl, hI25, hG26, hz24⟩ := hq22
    obtain rfl : kc = kc23 := by omega
    obtain rfl : ks = ks23 := by omega
    have hF28 := cm_fr.trans hF19 hG26 (by intro i k h; (try simp only at h); (try simp only); omega)
    have hN29 := hN20.fr hG26 (by intro i k h; (try simp only at h); omega)
    refine Or.inl ⟨rfl, ?_⟩
    refine w_aload (i := 0) (npc := 31) (v := cr 0) rfl rfl rfl ?_
    refine w_iload (i := 4) (npc := 33) rfl rfl ?_
    obtain ⟨z30, hz30, hz30a, hz30b⟩ := hI25.int 0 11 (lo := 0) (hi := 400) (by decide) (by decide) rfl
    have ghz30 := gv_eq hz30
    refine w_virt (ci := 7) (i := 0) (npc := 36) (a := [cr 0, ai_i e]) (rest := []) rfl rfl (hI25.pl (by decide)) (hI25.T (by decide) rfl) rfl rfl rfl rfl (ct_c_feedFour (sl := sl) (x := x) (d := d + 0) (e) hI25) (Or.inl rfl) (fun k9 v9 T32 E32 nx32 kc32 ks32 hq31 hk32 hv32 => ?_)
    obtain ⟨rfl, rfl, rfl, hI34, hG35, hz33⟩ := hq31
    obtain rfl : kc = kc32 := by omega
    obtain rfl : ks = ks32 := by omega
    have hF37 := cm_fr.trans hF28 hG35 (by intro i k h; (try simp only at h); (try simp only); omega)
    have hN38 := hN29.fr hG35 (by intro i k h; (try simp only at h); omega)
    refine Or.inl ⟨rfl, ?_⟩
    refine w_aload (i := 0) (npc := 37) (v := cr 0) rfl rfl rfl ?_
    refine w_iload (i := 5) (npc := 39) rfl rfl ?_
    obtain ⟨z39, hz39, hz39a, hz39b⟩ := hI34.int 0 11 (lo := 0) (hi := 400) (by decide) (by decide) rfl
    have ghz39 := gv_eq hz39
    refine w_virt (ci := 7) (i := 0) (npc := 42) (a := [cr 0, ai_i f]) (rest := []) rfl rfl (hI34.pl (by decide)) (hI34.T (by decide) rfl) rfl rfl rfl rfl (ct_c_feedFour (sl := sl) (x := x) (d := d + 0) (f) hI34) (Or.inl rfl) (fun k9 v9 T41 E41 nx41 kc41 ks41 hq40 hk41 hv41 => ?_)
    obtain ⟨rfl, rfl, rfl, hI43, hG44, hz42⟩ := hq40
    obtain rfl : kc = kc41 := by omega
    obtain rfl : ks = ks41 := by omega
    have hF46 := cm_fr.trans hF37 hG44 (by intro i k h; (try simp only at h); (try simp only); omega)
    have hN47 := hN38.fr hG44 (by intro i k h; (try simp only at h); omega)
    refine Or.inl ⟨rfl, ?_⟩
    refine w_aload (i := 0) (npc := 43) (v := cr 0) rfl rfl rfl ?_
    obtain ⟨z48, hz48, hz48a, hz48b⟩ := hI43.int 0 11 (lo := 0) (hi := 400) (by decide) (by decide) rfl
    have ghz48 := gv_eq hz48
    refine w_getf (i := 0) (ci := 7) (k := 11) (npc := 46) rfl (hI43.pl (by decide)) (hI43.T (by decide) rfl) (by decide) hz48 ?_
    exact w_iret rfl (⟨rfl, rfl, rfl, hI43, hF46, hN47, z48, rfl, by omega⟩) (by omega) (by omega)
  · replace hc3 : ¬ (z1 + 20 ≤ (400 : Int)) := hc3
    refine w_const (n := (-1)) (npc := 14) rfl ?_
    exact w_iret rfl (⟨rfl, rfl, rfl, hI, hF, hN, (-1), rfl, by omega⟩) (by omega) (by omega)
set_option maxRecDepth 16384 in
theorem ct_c_set24 {sl : Int × Int} {x : ai_E} {d : Nat} {T : cm_T} {E : cm_E} {nx : Nat} (p l g : Int)  (hI : cs_I T E nx) (hN : hn E) (hp0 : nx ≤ 1000) : cm_ct (ai_ev sl (d + 8)) x 32 [cr 0, ai_i p, ai_i l, ai_i g] T E nx 6 440 (fun rk rv T' E' nx' => (rk = 2 ∧ nx ≤ nx' ∧ nx' ≤ nx + 2 ∧ cs_I T' E' nx' ∧ cm_fr (fun i k => (i < 81 ∧ ¬ (23 ≤ i ∧ i ≤ 40) ∧ ¬ (i = 0 ∧ (k = 10 ∨ k = 11 ∨ k = 14))) ∨ 105 ≤ i) E E' ∧ hn E' ∧ (True)) ∨ (rk = 1 ∧ nx ≤ nx' ∧ nx' ≤ nx + 2 ∧ cs_I T' E' nx' ∧ cm_fr (fun i k => (i < 81 ∧ ¬ (23 ≤ i ∧ i ≤ 40) ∧ ¬ (i = 0 ∧ (k = 10 ∨ k = 11 ∨ k = 14))) ∨ 105 ≤ i) E E' ∧ hn E' ∧ ∃ z : Int, rv = ai_i z ∧ (True))) := by
  refine cm_body (M := ai_m32) rfl rfl (fun kc ks => ?_)
  show cm_wp (ai_find ai_c32 sl) (ai_ev sl (d + 7)) x (kc + 6) (ks + 440) _ 0 [cr 0, ai_i p, ai_i l, ai_i g, ai_un, ai_un] [] T E nx kc ks
  have hF : cm_fr (fun i k => (i < 81 ∧ ¬ (23 ≤ i ∧ i ≤ 40) ∧ ¬ (i = 0 ∧ (k = 10 ∨ k = 11 ∨ k = 14))) ∨ 105 ≤ i) E E := fun _ _ _ => rfl
  obtain ⟨z1, hz1, hz1a, hz1b⟩ := hI.int 0 10 (lo := 1) (hi := 5) (by decide) (by decide) rfl
  have ghz1 := gv_eq hz1
  refine w_aload (i := 0) (npc := 1) (v := cr 0) rfl rfl rfl ?_
  refine w_iload (i := 1) (npc := 2) rfl rfl ?_
  obtain ⟨z2, hz2, hz2a, hz2b⟩ := hI.int 6 8 (lo := 0) (hi := 300) (by decide) (by decide) rfl
  have ghz2 := gv_eq hz2
  refine w_virt (ci := 7) (i := 0) (npc := 5) (a := [cr 0, ai_i p]) (rest := []) rfl rfl (hI.pl (by decide)) (hI.T (by decide) rfl) rfl rfl rfl rfl (ct_c_pageAt (sl := sl) (x := x) (d := d + 6) (p) hI) (Or.inl rfl) (fun k9 v9 T4 E4 nx4 kc4 ks4 hq3 hk4 hv4 => ?_)
  rcases hq3 with hq3 | hq3
  · obtain ⟨rfl, rfl, rfl, rfl, hz5⟩ := hq3
    exact Or.inr (Or.inr (Or.inl ⟨rfl, rfl, Or.inl ⟨rfl, by omega, by omega, hI, hF, hN, trivial⟩, by omega, by omega⟩))
  obtain ⟨rfl, rfl, rfl, rfl, b9, rfl, hz5⟩ := hq3
  have hb10 : 41 ≤ b9 ∧ b9 ≤ 77 ∧ b9 % 4 = 1 := by omega
  refine Or.inr (Or.inl ⟨rfl, ?_⟩)
  refine w_astore (i := 4) (npc := 7) (loc' := [cr 0, ai_i p, ai_i l, ai_i g, cr b9, ai_un]) rfl rfl rfl ?_
  refine w_aload (i := 0) (npc := 8) (v := cr 0) rfl rfl rfl ?_
  refine w_iload (i := 1) (npc := 9) rfl rfl ?_
  refine w_virt (ci := 7) (i := 0) (npc := 12) (a := [cr 0, ai_i p]) (rest := []) rfl rfl (hI.pl (by decide)) (hI.T (by decide) rfl) rfl rfl rfl rfl (ct_c_viewOf (sl := sl) (x := x) (d := d + 0) (p) hI (by omega)) (Or.inl rfl) (fun k9 v9 T12 E12 nx12 kc12 ks12 hq11 hk12 hv12 => ?_)
  obtain ⟨rfl, rfl, rfl, hI14, hG15, rfl, hz13⟩ := hq11
  obtain rfl : kc4 = kc12 := by omega
  obtain rfl : ks4 = ks12 := by omega
  have hF17 := cm_fr.trans hF hG15 (by intro i k h; (try simp only at h); (try simp only); omega)
  have hN18 := hN.fr hG15 (by intro i k h; (try simp only at h); omega)
  have hz19 : E12 0 10 = ai_i z1 := (hG15 0 10 (by first | omega | (simp; done) | (simp; omega) | (simp only; omega))).trans hz1
  have ghz19 := gv_eq hz19
  refine Or.inr (Or.inl ⟨rfl, ?_⟩)
  refine w_astore (i := 5) (npc := 14) (loc' := [cr 0, ai_i p, ai_i l, ai_i g, cr b9, cr 6]) rfl rfl rfl ?_
  refine w_aload (i := 4) (npc := 16) (v := cr b9) rfl rfl rfl ?_
  obtain ⟨z20, hz20, hz20a, hz20b⟩ := hI14.int 6 8 (lo := 0) (hi := 300) (by decide) (by decide) rfl
  have ghz20 := gv_eq hz20
  refine w_virt (ci := 3) (i := b9) (npc := 19) (a := [cr b9]) (rest := []) rfl rfl (hI14.pl (by omega)) (hI14.pgT0 hb10) rfl rfl rfl rfl (ct_pg_canStep (sl := sl) (x := x) (d := d + 6)  (b := b9) hb10 hI14) (Or.inl rfl) (fun k9 v9 T22 E22 nx22 kc22 ks22 hq21 hk22 hv22 => ?_)
  obtain ⟨rfl, rfl, rfl, rfl, z23, rfl, hz23⟩ := hq21
  obtain rfl : kc4 = kc22 := by omega
  obtain rfl : ks4 = ks22 := by omega
  refine Or.inr (Or.inl ⟨rfl, ?_⟩)
  refine w_if (c := .eq) (npc := 22) (pt := 42) rfl (fun hc27 => ?_) (fun hc27 => ?_)
  · replace hc27 : z23 = (0 : Int) := hc27
    refine w_aload (i := 0) (npc := 43) (v := cr 0) rfl rfl rfl ?_
    refine w_const (n := 0) (npc := 44) rfl ?_
    refine w_virt (ci := 7) (i := 0) (npc := 47) (a := [cr 0, ai_i 0]) (rest := []) rfl rfl (hI14.pl (by decide)) (hI14.T (by decide) rfl) rfl rfl rfl rfl (ct_c_refuse (sl := sl) (x := x) (d := d + 6) (0) hI14 (by omega)) (Or.inl rfl) (fun k9 v9 T29 E29 nx29 kc29 ks29 hq28 hk29 hv29 => ?_)
    obtain ⟨rfl, rfl, rfl, hI31, hG32, z30, rfl, hz30⟩ := hq28
    obtain rfl : kc4 = kc29 := by omega
    obtain rfl : ks4 = ks29 := by omega
    have hF34 := cm_fr.trans hF17 hG32 (by intro i k h; (try simp only at h); (try simp only); omega)
    have hN35 := hN18.fr hG32 (by intro i k h; (try simp only at h); omega)
    have hz36 : E29 0 10 = ai_i z1 := (hG32 0 10 (by first | omega | (simp; done) | (simp; omega) | (simp only; omega))).trans hz19
    have ghz36 := gv_eq hz36
    have hz37 : E29 6 8 = ai_i z20 := (hG32 6 8 (by first | omega | (simp; done) | (simp; omega) | (simp only; omega))).trans hz20
    have ghz37 := gv_eq hz37
    refine Or.inr (Or.inl ⟨rfl, ?_⟩)
    exact w_iret rfl (Or.inr (⟨rfl, by omega, by omega, hI31, hF34, hN35, z30, rfl, trivial⟩)) (by omega) (by omega)
  · replace hc27 : ¬ (z23 = (0 : Int)) := hc27
    refine w_iload (i := 3) (npc := 23) rfl rfl ?_
    refine w_call (npc := 26) (a := [ai_i g]) (rest := []) rfl rfl rfl rfl rfl (ct_c_isSign (sl := sl) (x := x) (d := d + 6) (g)) (Or.inr (fun _ _ _ _ _ hq => by have h1 := hq.1; omega)) (fun k9 v9 T39 E39 nx39 kc39 ks39 hq38 hk39 hv39 => ?_)
    obtain ⟨rfl, rfl, rfl, rfl, z40, rfl, hz40⟩ := hq38
    obtain rfl : kc4 = kc39 := by omega
    obtain rfl : ks4 = ks39 := by omega
    refine Or.inr (Or.inl ⟨rfl, ?_⟩)
    refine w_if (c := .eq) (npc := 29) (pt := 42) rfl (fun hc44 => ?_) (fun hc44 => ?_)
    · replace hc44 : z40 = (0 : Int) := hc44
      refine w_aload (i := 0) (npc := 43) (v := cr 0) rfl rfl rfl ?_
      refine w_const (n := 0) (npc := 44) rfl ?_
      refine w_virt (ci := 7) (i := 0) (npc := 47) (a := [cr 0, ai_i 0]) (rest := []) rfl rfl (hI14.pl (by decide)) (hI14.T (by decide) rfl) rfl rfl rfl rfl (ct_c_refuse (sl := sl) (x := x) (d := d + 6) (0) hI14 (by omega)) (Or.inl rfl) (fun k9 v9 T46 E46 nx46 kc46 ks46 hq45 hk46 hv46 => ?_)
      obtain ⟨rfl, rfl, rfl, hI48, hG49, z47, rfl, hz47⟩ := hq45
      obtain rfl : kc4 = kc46 := by omega
      obtain rfl : ks4 = ks46 := by omega
      have hF51 := cm_fr.trans hF17 hG49 (by intro i k h; (try simp only at h); (try simp only); omega)
      have hN52 := hN18.fr hG49 (by intro i k h; (try simp only at h); omega)
      have hz53 : E46 0 10 = ai_i z1 := (hG49 0 10 (by first | omega | (simp; done) | (simp; omega) | (simp only; omega))).trans hz19
      have ghz53 := gv_eq hz53
      have hz54 : E46 6 8 = ai_i z20 := (hG49 6 8 (by first | omega | (simp; done) | (simp; omega) | (simp only; omega))).trans hz20
      have ghz54 := gv_eq hz54
      refine Or.inr (Or.inl ⟨rfl, ?_⟩)
      exact w_iret rfl (Or.inr (⟨rfl, by omega, by omega, hI48, hF51, hN52, z47, rfl, trivial⟩)) (by omega) (by omega)
    · replace hc44 : ¬ (z40 = (0 : Int)) := hc44
      refine w_iload (i := 2) (npc := 30) rfl rfl ?_
      refine w_if (c := .lt) (npc := 33) (pt := 42) rfl (fun hc55 => ?_) (fun hc55 => ?_)
      · replace hc55 : l < (0 : Int) := hc55
        refine w_aload (i := 0) (npc := 43) (v := cr 0) rfl rfl rfl ?_
        refine w_const (n := 0) (npc := 44) rfl ?_
        refine w_virt (ci := 7) (i := 0) (npc := 47) (a := [cr 0, ai_i 0]) (rest := []) rfl rfl (hI14.pl (by decide)) (hI14.T (by decide) rfl) rfl rfl rfl rfl (ct_c_refuse (sl := sl) (x := x) (d := d + 6) (0) hI14 (by omega)) (Or.inl rfl) (fun k9 v9 T57 E57 nx57 kc57 ks57 hq56 hk57 hv57 => ?_)
        obtain ⟨rfl, rfl, rfl, hI59, hG60, z58, rfl, hz58⟩ := hq56
        obtain rfl : kc4 = kc57 := by omega
        obtain rfl : ks4 = ks57 := by omega
        have hF62 := cm_fr.trans hF17 hG60 (by intro i k h; (try simp only at h); (try simp only); omega)
        have hN63 := hN18.fr hG60 (by intro i k h; (try simp only at h); omega)
        have hz64 : E57 0 10 = ai_i z1 := (hG60 0 10 (by first | omega | (simp; done) | (simp; omega) | (simp only; omega))).trans hz19
        have ghz64 := gv_eq hz64
        have hz65 : E57 6 8 = ai_i z20 := (hG60 6 8 (by first | omega | (simp; done) | (simp; omega) | (simp only; omega))).trans hz20
        have ghz65 := gv_eq hz65
        refine Or.inr (Or.inl ⟨rfl, ?_⟩)
        exact w_iret rfl (Or.inr (⟨rfl, by omega, by omega, hI59, hF62, hN63, z58, rfl, trivial⟩)) (by omega) (by omega)
      · replace hc55 : ¬ (l < (0 : Int)) := hc55
        refine w_iload (i := 2) (npc := 34) rfl rfl ?_
        refine w_aload (i := 5) (npc := 36) (v := cr 6) rfl rfl rfl ?_
        refine w_getf (i := 6) (ci := 6) (k := 8) (npc := 39) rfl (hI14.pl (by decide)) (hI14.T (by decide) rfl) (by decide) hz20 ?_
        refine w_icmp (c := .le) (npc := 42) (pt := 48) rfl (fun hc66 => ?_) (fun hc66 => ?_)
        · replace hc66 : l ≤ z20 := hc66
          refine w_aload (i := 0) (npc := 49) (v := cr 0) rfl rfl rfl ?_
          refine w_getf (i := 0) (ci := 7) (k := 6) (npc := 52) rfl (hI14.pl (by decide)) (hI14.T (by decide) rfl) (by decide) (hI14.ref 0 6 (p := 14) (by decide) (by decide) rfl) ?_
          refine w_aload (i := 5) (npc := 54) (v := cr 6) rfl rfl rfl ?_
          refine w_iload (i := 2) (npc := 55) rfl rfl ?_
          refine w_virt (ci := 1) (i := 14) (npc := 58) (a := [cr 14, cr 6, ai_i l]) (rest := []) rfl rfl (hI14.pl (by decide)) (hI14.T (by decide) rfl) rfl rfl rfl rfl (ct_nk_aim (sl := sl) (x := x) (d := d + 3) (l) hI14 (by omega)) (Or.inl rfl) (fun k9 v9 T68 E68 nx68 kc68 ks68 hq67 hk68 hv68 => ?_)
          obtain ⟨rfl, rfl, rfl, hI70, hG71, hz69⟩ := hq67
          obtain rfl : kc4 = kc68 := by omega
          obtain rfl : ks4 = ks68 := by omega
          have hF73 := cm_fr.trans hF17 hG71 (by intro i k h; (try simp only at h); (try simp only); omega)
          have hN74 := hN18.fr hG71 (by intro i k h; (try simp only at h); omega)
          have hz75 : E68 0 10 = ai_i z1 := (hG71 0 10 (by first | omega | (simp; done) | (simp; omega) | (simp only; omega))).trans hz19
          have ghz75 := gv_eq hz75
          have hz76 : E68 6 8 = ai_i z20 := (hG71 6 8 (by first | omega | (simp; done) | (simp; omega) | (simp only; omega))).trans hz20
          have ghz76 := gv_eq hz76
          refine Or.inl ⟨rfl, ?_⟩
          refine w_aload (i := 0) (npc := 59) (v := cr 0) rfl rfl rfl ?_
          refine w_getf (i := 0) (ci := 7) (k := 6) (npc := 62) rfl (hI70.pl (by decide)) (hI70.T (by decide) rfl) (by decide) (hI70.ref 0 6 (p := 14) (by decide) (by decide) rfl) ?_
          refine w_iload (i := 1) (npc := 63) rfl rfl ?_
          refine w_virt (ci := 1) (i := 14) (npc := 66) (a := [cr 14, ai_i p]) (rest := []) rfl rfl (hI70.pl (by decide)) (hI70.T (by decide) rfl) rfl rfl rfl rfl (ct_nk_grow (sl := sl) (x := x) (d := d + 6) (p) hI70 (by omega)) (Or.inl rfl) (fun k9 v9 T78 E78 nx78 kc78 ks78 hq77 hk78 hv78 => ?_)
          obtain ⟨rfl, rfl, rfl, hI80, hG81, z79, rfl, hz79⟩ := hq77
          obtain rfl : kc4 = kc78 := by omega
          obtain rfl : ks4 = ks78 := by omega
          have hF83 := cm_fr.trans hF73 hG81 (by intro i k h; (try simp only at h); (try simp only); omega)
          have hN84 := hN74.fr hG81 (by intro i k h; (try simp only at h); omega)
          have hz85 : E78 0 10 = ai_i z1 := (hG81 0 10 (by first | omega | (simp; done) | (simp; omega) | (simp only; omega))).trans hz75
          have ghz85 := gv_eq hz85
          have hz86 : E78 6 8 = ai_i z20 := (hG81 6 8 (by first | omega | (simp; done) | (simp; omega) | (simp only; omega))).trans hz76
          have ghz86 := gv_eq hz86
          refine Or.inr (Or.inl ⟨rfl, ?_⟩)
          refine w_if (c := .ne) (npc := 69) (pt := 75) rfl (fun hc87 => ?_) (fun hc87 => ?_)
          · replace hc87 : z79 ≠ (0 : Int) := hc87
            refine w_aload (i := 0) (npc := 76) (v := cr 0) rfl rfl rfl ?_
            refine w_getf (i := 0) (ci := 7) (k := 7) (npc := 79) rfl (hI80.pl (by decide)) (hI80.T (by decide) rfl) (by decide) (hI80.ref 0 7 (p := 17) (by decide) (by decide) rfl) ?_
            refine w_const (n := 0) (npc := 80) rfl ?_
            refine w_aload (i := 4) (npc := 82) (v := cr b9) rfl rfl rfl ?_
            refine w_virt (ci := 2) (i := 17) (npc := 85) (a := [cr 17, ai_i 0, cr b9]) (rest := []) rfl rfl (hI80.pl (by decide)) (hI80.T (by decide) rfl) rfl rfl rfl rfl (ct_pk_begin (sl := sl) (x := x) (d := d + 4) (0) (b := b9) hb10 hI80 (by omega) (by have c59 := hz23.2.2 (by omega); have i09 := gv_fr hG71 (i := b9) (k := 0) (by omega); have i19 := gv_fr hG81 (i := b9) (k := 0) (by omega); have j09 := gv_fr hG71 (i := b9 + 2) (k := (gv E12 b9 0).toNat) (by omega); have j19 := gv_fr hG81 (i := b9 + 2) (k := (gv E12 b9 0).toNat) (by omega); rw [show gv E78 b9 0 = gv E12 b9 0 by omega]; omega)) (Or.inl rfl) (fun k9 v9 T89 E89 nx89 kc89 ks89 hq88 hk89 hv89 => ?_)
            obtain ⟨rfl, rfl, rfl, hI91, hG92, hz90⟩ := hq88
            obtain rfl : kc4 = kc89 := by omega
            obtain rfl : ks4 = ks89 := by omega
            have hF94 := cm_fr.trans hF83 hG92 (by intro i k h; (try simp only at h); (try simp only); omega)
            have hN95 := hN84.fr hG92 (by intro i k h; (try simp only at h); omega)
            have hz96 : E89 0 10 = ai_i z1 := (hG92 0 10 (by first | omega | (simp; done) | (simp; omega) | (simp only; omega))).trans hz85
            have ghz96 := gv_eq hz96
            have hz97 : E89 6 8 = ai_i z20 := (hG92 6 8 (by first | omega | (simp; done) | (simp; omega) | (simp only; omega))).trans hz86
            have ghz97 := gv_eq hz97
            refine Or.inl ⟨rfl, ?_⟩
            refine w_aload (i := 0) (npc := 86) (v := cr 0) rfl rfl rfl ?_
            refine w_getf (i := 0) (ci := 7) (k := 7) (npc := 89) rfl (hI91.pl (by decide)) (hI91.T (by decide) rfl) (by decide) (hI91.ref 0 7 (p := 17) (by decide) (by decide) rfl) ?_
            refine w_iload (i := 3) (npc := 90) rfl rfl ?_
            refine w_virt (ci := 2) (i := 17) (npc := 93) (a := [cr 17, ai_i g]) (rest := []) rfl rfl (hI91.pl (by decide)) (hI91.T (by decide) rfl) rfl rfl rfl rfl (ct_pk_put (sl := sl) (x := x) (d := d + 6) (g) hI91) (Or.inl rfl) (fun k9 v9 T99 E99 nx99 kc99 ks99 hq98 hk99 hv99 => ?_)
            obtain ⟨rfl, rfl, rfl, hI101, hG102, hz100⟩ := hq98
            obtain rfl : kc4 = kc99 := by omega
            obtain rfl : ks4 = ks99 := by omega
            have hF104 := cm_fr.trans hF94 hG102 (by intro i k h; (try simp only at h); (try simp only); omega)
            have hN105 := hN95.fr hG102 (by intro i k h; (try simp only at h); omega)
            have hz106 : E99 0 10 = ai_i z1 := (hG102 0 10 (by first | omega | (simp; done) | (simp; omega) | (simp only; omega))).trans hz96
            have ghz106 := gv_eq hz106
            have hz107 : E99 6 8 = ai_i z20 := (hG102 6 8 (by first | omega | (simp; done) | (simp; omega) | (simp only; omega))).trans hz97
            have ghz107 := gv_eq hz107
            refine Or.inl ⟨rfl, ?_⟩
            refine w_aload (i := 0) (npc := 94) (v := cr 0) rfl rfl rfl ?_
            refine w_getf (i := 0) (ci := 7) (k := 7) (npc := 97) rfl (hI101.pl (by decide)) (hI101.T (by decide) rfl) (by decide) (hI101.ref 0 7 (p := 17) (by decide) (by decide) rfl) ?_
            refine w_aload (i := 0) (npc := 98) (v := cr 0) rfl rfl rfl ?_
            refine w_getf (i := 0) (ci := 7) (k := 6) (npc := 101) rfl (hI101.pl (by decide)) (hI101.T (by decide) rfl) (by decide) (hI101.ref 0 6 (p := 14) (by decide) (by decide) rfl) ?_
            refine w_virt (ci := 2) (i := 17) (npc := 104) (a := [cr 17, cr 14]) (rest := []) rfl rfl (hI101.pl (by decide)) (hI101.T (by decide) rfl) rfl rfl rfl rfl (ct_pk_putKey (sl := sl) (x := x) (d := d + 4)  hI101 (by omega)) (Or.inl rfl) (fun k9 v9 T109 E109 nx109 kc109 ks109 hq108 hk109 hv109 => ?_)
            obtain ⟨rfl, rfl, rfl, hI111, hG112, hz110⟩ := hq108
            obtain rfl : kc4 = kc109 := by omega
            obtain rfl : ks4 = ks109 := by omega
            have hF114 := cm_fr.trans hF104 hG112 (by intro i k h; (try simp only at h); (try simp only); omega)
            have hN115 := hN105.fr hG112 (by intro i k h; (try simp only at h); omega)
            have hz116 : E109 0 10 = ai_i z1 := (hG112 0 10 (by first | omega | (simp; done) | (simp; omega) | (simp only; omega))).trans hz106
            have ghz116 := gv_eq hz116
            have hz117 : E109 6 8 = ai_i z20 := (hG112 6 8 (by first | omega | (simp; done) | (simp; omega) | (simp only; omega))).trans hz107
            have ghz117 := gv_eq hz117
            refine Or.inl ⟨rfl, ?_⟩
            refine w_aload (i := 0) (npc := 105) (v := cr 0) rfl rfl rfl ?_
            refine w_aload (i := 4) (npc := 107) (v := cr b9) rfl rfl rfl ?_
            refine w_virt (ci := 7) (i := 0) (npc := 110) (a := [cr 0, cr b9]) (rest := []) rfl rfl (hI111.pl (by decide)) (hI111.T (by decide) rfl) rfl rfl rfl rfl (ct_c_perform (sl := sl) (x := x) (d := d + 1)  (b := b9) hb10 hI111 hN115 (by omega) (by omega) (by have e01 := gv_fr hG102 (i := 18) (k := 1) (by omega); have e02 := gv_fr hG102 (i := 18) (k := 2) (by omega); have e11 := gv_fr hG112 (i := 18) (k := 1) (by omega); have e12 := gv_fr hG112 (i := 18) (k := 2) (by omega); omega)) (Or.inl rfl) (fun k9 v9 T119 E119 nx119 kc119 ks119 hq118 hk119 hv119 => ?_)
            obtain ⟨rfl, hnxz120, hnyz120, hI121, hG122, hN123, z120, rfl, hz120⟩ := hq118
            have hF124 := cm_fr.trans hF114 hG122 (by intro i k h; (try simp only at h); (try simp only); omega)
            refine Or.inr (Or.inl ⟨rfl, ?_⟩)
            exact w_iret rfl (Or.inr (⟨rfl, by omega, by omega, hI121, hF124, hN123, z120, rfl, trivial⟩)) (by omega) (by omega)
          · replace hc87 : ¬ (z79 ≠ (0 : Int)) := hc87
            refine w_aload (i := 0) (npc := 70) (v := cr 0) rfl rfl rfl ?_
            refine w_const (n := 0) (npc := 71) rfl ?_
            refine w_virt (ci := 7) (i := 0) (npc := 74) (a := [cr 0, ai_i 0]) (rest := []) rfl rfl (hI80.pl (by decide)) (hI80.T (by decide) rfl) rfl rfl rfl rfl (ct_c_refuse (sl := sl) (x := x) (d := d + 6) (0) hI80 (by omega)) (Or.inl rfl) (fun k9 v9 T126 E126 nx126 kc126 ks126 hq125 hk126 hv126 => ?_)
            obtain ⟨rfl, rfl, rfl, hI128, hG129, z127, rfl, hz127⟩ := hq125
            obtain rfl : kc4 = kc126 := by omega
            obtain rfl : ks4 = ks126 := by omega
            have hF131 := cm_fr.trans hF83 hG129 (by intro i k h; (try simp only at h); (try simp only); omega)
            have hN132 := hN84.fr hG129 (by intro i k h; (try simp only at h); omega)
            have hz133 : E126 0 10 = ai_i z1 := (hG129 0 10 (by first | omega | (simp; done) | (simp; omega) | (simp only; omega))).trans hz85
            have ghz133 := gv_eq hz133
            have hz134 : E126 6 8 = ai_i z20 := (hG129 6 8 (by first | omega | (simp; done) | (simp; omega) | (simp only; omega))).trans hz86
            have ghz134 := gv_eq hz134
            refine Or.inr (Or.inl ⟨rfl, ?_⟩)
            exact w_iret rfl (Or.inr (⟨rfl, by omega, by omega, hI128, hF131, hN132, z127, rfl, trivial⟩)) (by omega) (by omega)
        · replace hc66 : ¬ (l ≤ z20) := hc66
          refine w_aload (i := 0) (npc := 43) (v := cr 0) rfl rfl rfl ?_
          refine w_const (n := 0) (npc := 44) rfl ?_
          refine w_virt (ci := 7) (i := 0) (npc := 47) (a := [cr 0, ai_i 0]) (rest := []) rfl rfl (hI14.pl (by decide)) (hI14.T (by decide) rfl) rfl rfl rfl rfl (ct_c_refuse (sl := sl) (x := x) (d := d + 6) (0) hI14 (by omega)) (Or.inl rfl) (fun k9 v9 T136 E136 nx136 kc136 ks136 hq135 hk136 hv136 => ?_)
          obtain ⟨rfl, rfl, rfl, hI138, hG139, z137, rfl, hz137⟩ := hq135
          obtain rfl : kc4 = kc136 := by omega
          obtain rfl : ks4 = ks136 := by omega
          have hF141 := cm_fr.trans hF17 hG139 (by intro i k h; (try simp only at h); (try simp only); omega)
          have hN142 := hN18.fr hG139 (by intro i k h; (try simp only at h); omega)
          have hz143 : E136 0 10 = ai_i z1 := (hG139 0 10 (by first | omega | (simp; done) | (simp; omega) | (simp only; omega))).trans hz19
          have ghz143 := gv_eq hz143
          have hz144 : E136 6 8 = ai_i z20 := (hG139 6 8 (by first | omega | (simp; done) | (simp; omega) | (simp only; omega))).trans hz20
          have ghz144 := gv_eq hz144
          refine Or.inr (Or.inl ⟨rfl, ?_⟩)
          exact w_iret rfl (Or.inr (⟨rfl, by omega, by omega, hI138, hF141, hN142, z137, rfl, trivial⟩)) (by omega) (by omega)
set_option maxRecDepth 16384 in
theorem ct_c_strike24 {sl : Int × Int} {x : ai_E} {d : Nat} {T : cm_T} {E : cm_E} {nx : Nat} (p l : Int)  (hI : cs_I T E nx) (hN : hn E) (hp0 : nx ≤ 1000) : cm_ct (ai_ev sl (d + 8)) x 38 [cr 0, ai_i p, ai_i l] T E nx 6 440 (fun rk rv T' E' nx' => (rk = 2 ∧ nx ≤ nx' ∧ nx' ≤ nx + 2 ∧ cs_I T' E' nx' ∧ cm_fr (fun i k => (i < 81 ∧ ¬ (23 ≤ i ∧ i ≤ 40) ∧ ¬ (i = 0 ∧ (k = 10 ∨ k = 11 ∨ k = 14))) ∨ 105 ≤ i) E E' ∧ hn E' ∧ (True)) ∨ (rk = 1 ∧ nx ≤ nx' ∧ nx' ≤ nx + 2 ∧ cs_I T' E' nx' ∧ cm_fr (fun i k => (i < 81 ∧ ¬ (23 ≤ i ∧ i ≤ 40) ∧ ¬ (i = 0 ∧ (k = 10 ∨ k = 11 ∨ k = 14))) ∨ 105 ≤ i) E E' ∧ hn E' ∧ ∃ z : Int, rv = ai_i z ∧ (True))) := by
  refine cm_body (M := ai_m38) rfl rfl (fun kc ks => ?_)
  show cm_wp (ai_find ai_c38 sl) (ai_ev sl (d + 7)) x (kc + 6) (ks + 440) _ 0 [cr 0, ai_i p, ai_i l, ai_un, ai_un] [] T E nx kc ks
  have hF : cm_fr (fun i k => (i < 81 ∧ ¬ (23 ≤ i ∧ i ≤ 40) ∧ ¬ (i = 0 ∧ (k = 10 ∨ k = 11 ∨ k = 14))) ∨ 105 ≤ i) E E := fun _ _ _ => rfl
  obtain ⟨z1, hz1, hz1a, hz1b⟩ := hI.int 0 10 (lo := 1) (hi := 5) (by decide) (by decide) rfl
  have ghz1 := gv_eq hz1
  refine w_aload (i := 0) (npc := 1) (v := cr 0) rfl rfl rfl ?_
  refine w_iload (i := 1) (npc := 2) rfl rfl ?_
  obtain ⟨z2, hz2, hz2a, hz2b⟩ := hI.int 6 8 (lo := 0) (hi := 300) (by decide) (by decide) rfl
  have ghz2 := gv_eq hz2
  refine w_virt (ci := 7) (i := 0) (npc := 5) (a := [cr 0, ai_i p]) (rest := []) rfl rfl (hI.pl (by decide)) (hI.T (by decide) rfl) rfl rfl rfl rfl (ct_c_pageAt (sl := sl) (x := x) (d := d + 6) (p) hI) (Or.inl rfl) (fun k9 v9 T4 E4 nx4 kc4 ks4 hq3 hk4 hv4 => ?_)
  rcases hq3 with hq3 | hq3
  · obtain ⟨rfl, rfl, rfl, rfl, hz5⟩ := hq3
    exact Or.inr (Or.inr (Or.inl ⟨rfl, rfl, Or.inl ⟨rfl, by omega, by omega, hI, hF, hN, trivial⟩, by omega, by omega⟩))
  obtain ⟨rfl, rfl, rfl, rfl, b9, rfl, hz5⟩ := hq3
  have hb10 : 41 ≤ b9 ∧ b9 ≤ 77 ∧ b9 % 4 = 1 := by omega
  refine Or.inr (Or.inl ⟨rfl, ?_⟩)
  refine w_astore (i := 3) (npc := 6) (loc' := [cr 0, ai_i p, ai_i l, cr b9, ai_un]) rfl rfl rfl ?_
  refine w_aload (i := 0) (npc := 7) (v := cr 0) rfl rfl rfl ?_
  refine w_iload (i := 1) (npc := 8) rfl rfl ?_
  refine w_virt (ci := 7) (i := 0) (npc := 11) (a := [cr 0, ai_i p]) (rest := []) rfl rfl (hI.pl (by decide)) (hI.T (by decide) rfl) rfl rfl rfl rfl (ct_c_viewOf (sl := sl) (x := x) (d := d + 0) (p) hI (by omega)) (Or.inl rfl) (fun k9 v9 T12 E12 nx12 kc12 ks12 hq11 hk12 hv12 => ?_)
  obtain ⟨rfl, rfl, rfl, hI14, hG15, rfl, hz13⟩ := hq11
  obtain rfl : kc4 = kc12 := by omega
  obtain rfl : ks4 = ks12 := by omega
  have hF17 := cm_fr.trans hF hG15 (by intro i k h; (try simp only at h); (try simp only); omega)
  have hN18 := hN.fr hG15 (by intro i k h; (try simp only at h); omega)
  have hz19 : E12 0 10 = ai_i z1 := (hG15 0 10 (by first | omega | (simp; done) | (simp; omega) | (simp only; omega))).trans hz1
  have ghz19 := gv_eq hz19
  refine Or.inr (Or.inl ⟨rfl, ?_⟩)
  refine w_iload (i := 2) (npc := 12) rfl rfl ?_
  obtain ⟨z20, hz20, hz20a, hz20b⟩ := hI14.int 6 8 (lo := 0) (hi := 300) (by decide) (by decide) rfl
  have ghz20 := gv_eq hz20
  refine w_virt (ci := 6) (i := 6) (npc := 15) (a := [cr 6, ai_i l]) (rest := []) rfl rfl (hI14.pl (by decide)) (hI14.T (by decide) rfl) rfl rfl rfl rfl (ct_vw_slotAt (sl := sl) (x := x) (d := d + 6) (l) hI14) (Or.inl rfl) (fun k9 v9 T22 E22 nx22 kc22 ks22 hq21 hk22 hv22 => ?_)
  obtain ⟨rfl, rfl, rfl, rfl, z23, rfl, hz23⟩ := hq21
  obtain rfl : kc4 = kc22 := by omega
  obtain rfl : ks4 = ks22 := by omega
  refine Or.inr (Or.inl ⟨rfl, ?_⟩)
  refine w_istore (i := 4) (npc := 17) (loc' := [cr 0, ai_i p, ai_i l, cr b9, ai_i z23]) rfl rfl ?_
  refine w_aload (i := 3) (npc := 18) (v := cr b9) rfl rfl rfl ?_
  refine w_virt (ci := 3) (i := b9) (npc := 21) (a := [cr b9]) (rest := []) rfl rfl (hI14.pl (by omega)) (hI14.pgT0 hb10) rfl rfl rfl rfl (ct_pg_canStep (sl := sl) (x := x) (d := d + 6)  (b := b9) hb10 hI14) (Or.inl rfl) (fun k9 v9 T28 E28 nx28 kc28 ks28 hq27 hk28 hv28 => ?_)
  obtain ⟨rfl, rfl, rfl, rfl, z29, rfl, hz29⟩ := hq27
  obtain rfl : kc4 = kc28 := by omega
  obtain rfl : ks4 = ks28 := by omega
  refine Or.inr (Or.inl ⟨rfl, ?_⟩)
  refine w_if (c := .eq) (npc := 24) (pt := 30) rfl (fun hc33 => ?_) (fun hc33 => ?_)
  · replace hc33 : z29 = (0 : Int) := hc33
    refine w_aload (i := 0) (npc := 31) (v := cr 0) rfl rfl rfl ?_
    refine w_const (n := 0) (npc := 32) rfl ?_
    refine w_virt (ci := 7) (i := 0) (npc := 35) (a := [cr 0, ai_i 0]) (rest := []) rfl rfl (hI14.pl (by decide)) (hI14.T (by decide) rfl) rfl rfl rfl rfl (ct_c_refuse (sl := sl) (x := x) (d := d + 6) (0) hI14 (by omega)) (Or.inl rfl) (fun k9 v9 T35 E35 nx35 kc35 ks35 hq34 hk35 hv35 => ?_)
    obtain ⟨rfl, rfl, rfl, hI37, hG38, z36, rfl, hz36⟩ := hq34
    obtain rfl : kc4 = kc35 := by omega
    obtain rfl : ks4 = ks35 := by omega
    have hF40 := cm_fr.trans hF17 hG38 (by intro i k h; (try simp only at h); (try simp only); omega)
    have hN41 := hN18.fr hG38 (by intro i k h; (try simp only at h); omega)
    have hz42 : E35 0 10 = ai_i z1 := (hG38 0 10 (by first | omega | (simp; done) | (simp; omega) | (simp only; omega))).trans hz19
    have ghz42 := gv_eq hz42
    have hz43 : E35 6 8 = ai_i z20 := (hG38 6 8 (by first | omega | (simp; done) | (simp; omega) | (simp only; omega))).trans hz20
    have ghz43 := gv_eq hz43
    refine Or.inr (Or.inl ⟨rfl, ?_⟩)
    exact w_iret rfl (Or.inr (⟨rfl, by omega, by omega, hI37, hF40, hN41, z36, rfl, trivial⟩)) (by omega) (by omega)
  · replace hc33 : ¬ (z29 = (0 : Int)) := hc33
    refine w_iload (i := 4) (npc := 26) rfl rfl ?_
    refine w_const (n := (-1)) (npc := 27) rfl ?_
    refine w_icmp (c := .ne) (npc := 30) (pt := 36) rfl (fun hc44 => ?_) (fun hc44 => ?_)
    · replace hc44 : z23 ≠ ((-1) : Int) := hc44
      refine w_aload (i := 0) (npc := 37) (v := cr 0) rfl rfl rfl ?_
      refine w_getf (i := 0) (ci := 7) (k := 7) (npc := 40) rfl (hI14.pl (by decide)) (hI14.T (by decide) rfl) (by decide) (hI14.ref 0 7 (p := 17) (by decide) (by decide) rfl) ?_
      refine w_const (n := 1) (npc := 41) rfl ?_
      refine w_aload (i := 3) (npc := 42) (v := cr b9) rfl rfl rfl ?_
      refine w_virt (ci := 2) (i := 17) (npc := 45) (a := [cr 17, ai_i 1, cr b9]) (rest := []) rfl rfl (hI14.pl (by decide)) (hI14.T (by decide) rfl) rfl rfl rfl rfl (ct_pk_begin (sl := sl) (x := x) (d := d + 4) (1) (b := b9) hb10 hI14 (by omega) (by have c59 := hz29.2.2 (by omega); rw [show gv E12 b9 0 = gv E12 b9 0 by omega]; omega)) (Or.inl rfl) (fun k9 v9 T46 E46 nx46 kc46 ks46 hq45 hk46 hv46 => ?_)
      obtain ⟨rfl, rfl, rfl, hI48, hG49, hz47⟩ := hq45
      obtain rfl : kc4 = kc46 := by omega
      obtain rfl : ks4 = ks46 := by omega
      have hF51 := cm_fr.trans hF17 hG49 (by intro i k h; (try simp only at h); (try simp only); omega)
      have hN52 := hN18.fr hG49 (by intro i k h; (try simp only at h); omega)
      have hz53 : E46 0 10 = ai_i z1 := (hG49 0 10 (by first | omega | (simp; done) | (simp; omega) | (simp only; omega))).trans hz19
      have ghz53 := gv_eq hz53
      have hz54 : E46 6 8 = ai_i z20 := (hG49 6 8 (by first | omega | (simp; done) | (simp; omega) | (simp only; omega))).trans hz20
      have ghz54 := gv_eq hz54
      refine Or.inl ⟨rfl, ?_⟩
      refine w_aload (i := 0) (npc := 46) (v := cr 0) rfl rfl rfl ?_
      refine w_getf (i := 0) (ci := 7) (k := 7) (npc := 49) rfl (hI48.pl (by decide)) (hI48.T (by decide) rfl) (by decide) (hI48.ref 0 7 (p := 17) (by decide) (by decide) rfl) ?_
      refine w_iload (i := 4) (npc := 51) rfl rfl ?_
      refine w_virt (ci := 2) (i := 17) (npc := 54) (a := [cr 17, ai_i z23]) (rest := []) rfl rfl (hI48.pl (by decide)) (hI48.T (by decide) rfl) rfl rfl rfl rfl (ct_pk_putMark (sl := sl) (x := x) (d := d + 5) (z23) hI48 (by omega) (by omega)) (Or.inl rfl) (fun k9 v9 T56 E56 nx56 kc56 ks56 hq55 hk56 hv56 => ?_)
      obtain ⟨rfl, rfl, rfl, hI58, hG59, hz57⟩ := hq55
      obtain rfl : kc4 = kc56 := by omega
      obtain rfl : ks4 = ks56 := by omega
      have hF61 := cm_fr.trans hF51 hG59 (by intro i k h; (try simp only at h); (try simp only); omega)
      have hN62 := hN52.fr hG59 (by intro i k h; (try simp only at h); omega)
      have hz63 : E56 0 10 = ai_i z1 := (hG59 0 10 (by first | omega | (simp; done) | (simp; omega) | (simp only; omega))).trans hz53
      have ghz63 := gv_eq hz63
      have hz64 : E56 6 8 = ai_i z20 := (hG59 6 8 (by first | omega | (simp; done) | (simp; omega) | (simp only; omega))).trans hz54
      have ghz64 := gv_eq hz64
      refine Or.inl ⟨rfl, ?_⟩
      refine w_aload (i := 0) (npc := 55) (v := cr 0) rfl rfl rfl ?_
      refine w_aload (i := 3) (npc := 56) (v := cr b9) rfl rfl rfl ?_
      refine w_virt (ci := 7) (i := 0) (npc := 59) (a := [cr 0, cr b9]) (rest := []) rfl rfl (hI58.pl (by decide)) (hI58.T (by decide) rfl) rfl rfl rfl rfl (ct_c_perform (sl := sl) (x := x) (d := d + 1)  (b := b9) hb10 hI58 hN62 (by omega) (by omega) (by have e01 := gv_fr hG59 (i := 18) (k := 1) (by omega); have e02 := gv_fr hG59 (i := 18) (k := 2) (by omega); omega)) (Or.inl rfl) (fun k9 v9 T66 E66 nx66 kc66 ks66 hq65 hk66 hv66 => ?_)
      obtain ⟨rfl, hnxz67, hnyz67, hI68, hG69, hN70, z67, rfl, hz67⟩ := hq65
      have hF71 := cm_fr.trans hF61 hG69 (by intro i k h; (try simp only at h); (try simp only); omega)
      refine Or.inr (Or.inl ⟨rfl, ?_⟩)
      exact w_iret rfl (Or.inr (⟨rfl, by omega, by omega, hI68, hF71, hN70, z67, rfl, trivial⟩)) (by omega) (by omega)
    · replace hc44 : ¬ (z23 ≠ ((-1) : Int)) := hc44
      refine w_aload (i := 0) (npc := 31) (v := cr 0) rfl rfl rfl ?_
      refine w_const (n := 0) (npc := 32) rfl ?_
      refine w_virt (ci := 7) (i := 0) (npc := 35) (a := [cr 0, ai_i 0]) (rest := []) rfl rfl (hI14.pl (by decide)) (hI14.T (by decide) rfl) rfl rfl rfl rfl (ct_c_refuse (sl := sl) (x := x) (d := d + 6) (0) hI14 (by omega)) (Or.inl rfl) (fun k9 v9 T73 E73 nx73 kc73 ks73 hq72 hk73 hv73 => ?_)
      obtain ⟨rfl, rfl, rfl, hI75, hG76, z74, rfl, hz74⟩ := hq72
      obtain rfl : kc4 = kc73 := by omega
      obtain rfl : ks4 = ks73 := by omega
      have hF78 := cm_fr.trans hF17 hG76 (by intro i k h; (try simp only at h); (try simp only); omega)
      have hN79 := hN18.fr hG76 (by intro i k h; (try simp only at h); omega)
      have hz80 : E73 0 10 = ai_i z1 := (hG76 0 10 (by first | omega | (simp; done) | (simp; omega) | (simp only; omega))).trans hz19
      have ghz80 := gv_eq hz80
      have hz81 : E73 6 8 = ai_i z20 := (hG76 6 8 (by first | omega | (simp; done) | (simp; omega) | (simp only; omega))).trans hz20
      have ghz81 := gv_eq hz81
      refine Or.inr (Or.inl ⟨rfl, ?_⟩)
      exact w_iret rfl (Or.inr (⟨rfl, by omega, by omega, hI75, hF78, hN79, z74, rfl, trivial⟩)) (by omega) (by omega)
set_option maxRecDepth 16384 in
theorem ct_c_undo24 {sl : Int × Int} {x : ai_E} {d : Nat} {T : cm_T} {E : cm_E} {nx : Nat} (p n : Int)  (hI : cs_I T E nx) (hN : hn E) (hp0 : nx ≤ 1000) : cm_ct (ai_ev sl (d + 8)) x 40 [cr 0, ai_i p, ai_i n] T E nx 6 440 (fun rk rv T' E' nx' => (rk = 2 ∧ nx ≤ nx' ∧ nx' ≤ nx + 2 ∧ cs_I T' E' nx' ∧ cm_fr (fun i k => (i < 81 ∧ ¬ (23 ≤ i ∧ i ≤ 40) ∧ ¬ (i = 0 ∧ (k = 10 ∨ k = 11 ∨ k = 14))) ∨ 105 ≤ i) E E' ∧ hn E' ∧ (True)) ∨ (rk = 1 ∧ nx ≤ nx' ∧ nx' ≤ nx + 2 ∧ cs_I T' E' nx' ∧ cm_fr (fun i k => (i < 81 ∧ ¬ (23 ≤ i ∧ i ≤ 40) ∧ ¬ (i = 0 ∧ (k = 10 ∨ k = 11 ∨ k = 14))) ∨ 105 ≤ i) E E' ∧ hn E' ∧ ∃ z : Int, rv = ai_i z ∧ (True))) := by
  refine cm_body (M := ai_m40) rfl rfl (fun kc ks => ?_)
  show cm_wp (ai_find ai_c40 sl) (ai_ev sl (d + 7)) x (kc + 6) (ks + 440) _ 0 [cr 0, ai_i p, ai_i n, ai_un, ai_un, ai_un] [] T E nx kc ks
  have hF : cm_fr (fun i k => (i < 81 ∧ ¬ (23 ≤ i ∧ i ≤ 40) ∧ ¬ (i = 0 ∧ (k = 10 ∨ k = 11 ∨ k = 14))) ∨ 105 ≤ i) E E := fun _ _ _ => rfl
  obtain ⟨z1, hz1, hz1a, hz1b⟩ := hI.int 0 10 (lo := 1) (hi := 5) (by decide) (by decide) rfl
  have ghz1 := gv_eq hz1
  refine w_aload (i := 0) (npc := 1) (v := cr 0) rfl rfl rfl ?_
  refine w_iload (i := 1) (npc := 2) rfl rfl ?_
  refine w_virt (ci := 7) (i := 0) (npc := 5) (a := [cr 0, ai_i p]) (rest := []) rfl rfl (hI.pl (by decide)) (hI.T (by decide) rfl) rfl rfl rfl rfl (ct_c_pageAt (sl := sl) (x := x) (d := d + 6) (p) hI) (Or.inl rfl) (fun k9 v9 T3 E3 nx3 kc3 ks3 hq2 hk3 hv3 => ?_)
  rcases hq2 with hq2 | hq2
  · obtain ⟨rfl, rfl, rfl, rfl, hz4⟩ := hq2
    exact Or.inr (Or.inr (Or.inl ⟨rfl, rfl, Or.inl ⟨rfl, by omega, by omega, hI, hF, hN, trivial⟩, by omega, by omega⟩))
  obtain ⟨rfl, rfl, rfl, rfl, b8, rfl, hz4⟩ := hq2
  have hb9 : 41 ≤ b8 ∧ b8 ≤ 77 ∧ b8 % 4 = 1 := by omega
  refine Or.inr (Or.inl ⟨rfl, ?_⟩)
  refine w_astore (i := 3) (npc := 6) (loc' := [cr 0, ai_i p, ai_i n, cr b8, ai_un, ai_un]) rfl rfl rfl ?_
  refine w_aload (i := 0) (npc := 7) (v := cr 0) rfl rfl rfl ?_
  refine w_iload (i := 1) (npc := 8) rfl rfl ?_
  refine w_virt (ci := 7) (i := 0) (npc := 11) (a := [cr 0, ai_i p]) (rest := []) rfl rfl (hI.pl (by decide)) (hI.T (by decide) rfl) rfl rfl rfl rfl (ct_c_viewOf (sl := sl) (x := x) (d := d + 0) (p) hI (by omega)) (Or.inl rfl) (fun k9 v9 T11 E11 nx11 kc11 ks11 hq10 hk11 hv11 => ?_)
  obtain ⟨rfl, rfl, rfl, hI13, hG14, rfl, hz12⟩ := hq10
  obtain rfl : kc3 = kc11 := by omega
  obtain rfl : ks3 = ks11 := by omega
  have hF16 := cm_fr.trans hF hG14 (by intro i k h; (try simp only at h); (try simp only); omega)
  have hN17 := hN.fr hG14 (by intro i k h; (try simp only at h); omega)
  have hz18 : E11 0 10 = ai_i z1 := (hG14 0 10 (by first | omega | (simp; done) | (simp; omega) | (simp only; omega))).trans hz1
  have ghz18 := gv_eq hz18
  refine Or.inr (Or.inl ⟨rfl, ?_⟩)
  refine w_astore (i := 4) (npc := 13) (loc' := [cr 0, ai_i p, ai_i n, cr b8, cr 6, ai_un]) rfl rfl rfl ?_
  refine w_aload (i := 3) (npc := 14) (v := cr b8) rfl rfl rfl ?_
  refine w_iload (i := 1) (npc := 15) rfl rfl ?_
  refine w_iload (i := 2) (npc := 16) rfl rfl ?_
  refine w_virt (ci := 3) (i := b8) (npc := 19) (a := [cr b8, ai_i p, ai_i n]) (rest := []) rfl rfl (hI13.pl (by omega)) (hI13.pgT0 hb9) rfl rfl rfl rfl (ct_pg_stepOf (sl := sl) (x := x) (d := d + 5) (p) (n) (b := b8) hb9 hI13) (Or.inl rfl) (fun k9 v9 T20 E20 nx20 kc20 ks20 hq19 hk20 hv20 => ?_)
  obtain ⟨rfl, rfl, rfl, rfl, hq19⟩ := hq19
  obtain rfl : kc3 = kc20 := by omega
  obtain rfl : ks3 = ks20 := by omega
  rcases hq19 with rfl | ⟨q25, rfl, hs26, hz21⟩
  · refine Or.inr (Or.inl ⟨rfl, ?_⟩)
    refine w_astore (i := 5) (npc := 21) (loc' := [cr 0, ai_i p, ai_i n, cr b8, cr 6, ai_nul]) rfl rfl rfl ?_
    refine w_aload (i := 3) (npc := 22) (v := cr b8) rfl rfl rfl ?_
    refine w_virt (ci := 3) (i := b8) (npc := 25) (a := [cr b8]) (rest := []) rfl rfl (hI13.pl (by omega)) (hI13.pgT0 hb9) rfl rfl rfl rfl (ct_pg_canStep (sl := sl) (x := x) (d := d + 6)  (b := b8) hb9 hI13) (Or.inl rfl) (fun k9 v9 T28 E28 nx28 kc28 ks28 hq27 hk28 hv28 => ?_)
    obtain ⟨rfl, rfl, rfl, rfl, z29, rfl, hz29⟩ := hq27
    obtain rfl : kc3 = kc28 := by omega
    obtain rfl : ks3 = ks28 := by omega
    refine Or.inr (Or.inl ⟨rfl, ?_⟩)
    refine w_if (c := .eq) (npc := 28) (pt := 45) rfl (fun hc33 => ?_) (fun hc33 => ?_)
    · replace hc33 : z29 = (0 : Int) := hc33
      refine w_aload (i := 0) (npc := 46) (v := cr 0) rfl rfl rfl ?_
      refine w_const (n := 0) (npc := 47) rfl ?_
      refine w_virt (ci := 7) (i := 0) (npc := 50) (a := [cr 0, ai_i 0]) (rest := []) rfl rfl (hI13.pl (by decide)) (hI13.T (by decide) rfl) rfl rfl rfl rfl (ct_c_refuse (sl := sl) (x := x) (d := d + 6) (0) hI13 (by omega)) (Or.inl rfl) (fun k9 v9 T35 E35 nx35 kc35 ks35 hq34 hk35 hv35 => ?_)
      obtain ⟨rfl, rfl, rfl, hI37, hG38, z36, rfl, hz36⟩ := hq34
      obtain rfl : kc3 = kc35 := by omega
      obtain rfl : ks3 = ks35 := by omega
      have hF40 := cm_fr.trans hF16 hG38 (by intro i k h; (try simp only at h); (try simp only); omega)
      have hN41 := hN17.fr hG38 (by intro i k h; (try simp only at h); omega)
      have hz42 : E35 0 10 = ai_i z1 := (hG38 0 10 (by first | omega | (simp; done) | (simp; omega) | (simp only; omega))).trans hz18
      have ghz42 := gv_eq hz42
      refine Or.inr (Or.inl ⟨rfl, ?_⟩)
      exact w_iret rfl (Or.inr (⟨rfl, by omega, by omega, hI37, hF40, hN41, z36, rfl, trivial⟩)) (by omega) (by omega)
    · replace hc33 : ¬ (z29 = (0 : Int)) := hc33
      refine w_aload (i := 5) (npc := 30) (v := ai_nul) rfl rfl rfl ?_
      refine w_isnullN (pt := 45) (npc := 33) rfl ?_
      refine w_aload (i := 0) (npc := 46) (v := cr 0) rfl rfl rfl ?_
      refine w_const (n := 0) (npc := 47) rfl ?_
      refine w_virt (ci := 7) (i := 0) (npc := 50) (a := [cr 0, ai_i 0]) (rest := []) rfl rfl (hI13.pl (by decide)) (hI13.T (by decide) rfl) rfl rfl rfl rfl (ct_c_refuse (sl := sl) (x := x) (d := d + 6) (0) hI13 (by omega)) (Or.inl rfl) (fun k9 v9 T44 E44 nx44 kc44 ks44 hq43 hk44 hv44 => ?_)
      obtain ⟨rfl, rfl, rfl, hI46, hG47, z45, rfl, hz45⟩ := hq43
      obtain rfl : kc3 = kc44 := by omega
      obtain rfl : ks3 = ks44 := by omega
      have hF49 := cm_fr.trans hF16 hG47 (by intro i k h; (try simp only at h); (try simp only); omega)
      have hN50 := hN17.fr hG47 (by intro i k h; (try simp only at h); omega)
      have hz51 : E44 0 10 = ai_i z1 := (hG47 0 10 (by first | omega | (simp; done) | (simp; omega) | (simp only; omega))).trans hz18
      have ghz51 := gv_eq hz51
      refine Or.inr (Or.inl ⟨rfl, ?_⟩)
      exact w_iret rfl (Or.inr (⟨rfl, by omega, by omega, hI46, hF49, hN50, z45, rfl, trivial⟩)) (by omega) (by omega)
  refine Or.inr (Or.inl ⟨rfl, ?_⟩)
  refine w_astore (i := 5) (npc := 21) (loc' := [cr 0, ai_i p, ai_i n, cr b8, cr 6, cr q25]) rfl rfl rfl ?_
  refine w_aload (i := 3) (npc := 22) (v := cr b8) rfl rfl rfl ?_
  refine w_virt (ci := 3) (i := b8) (npc := 25) (a := [cr b8]) (rest := []) rfl rfl (hI13.pl (by omega)) (hI13.pgT0 hb9) rfl rfl rfl rfl (ct_pg_canStep (sl := sl) (x := x) (d := d + 6)  (b := b8) hb9 hI13) (Or.inl rfl) (fun k9 v9 T53 E53 nx53 kc53 ks53 hq52 hk53 hv53 => ?_)
  obtain ⟨rfl, rfl, rfl, rfl, z54, rfl, hz54⟩ := hq52
  obtain rfl : kc3 = kc53 := by omega
  obtain rfl : ks3 = ks53 := by omega
  refine Or.inr (Or.inl ⟨rfl, ?_⟩)
  refine w_if (c := .eq) (npc := 28) (pt := 45) rfl (fun hc58 => ?_) (fun hc58 => ?_)
  · replace hc58 : z54 = (0 : Int) := hc58
    refine w_aload (i := 0) (npc := 46) (v := cr 0) rfl rfl rfl ?_
    refine w_const (n := 0) (npc := 47) rfl ?_
    refine w_virt (ci := 7) (i := 0) (npc := 50) (a := [cr 0, ai_i 0]) (rest := []) rfl rfl (hI13.pl (by decide)) (hI13.T (by decide) rfl) rfl rfl rfl rfl (ct_c_refuse (sl := sl) (x := x) (d := d + 6) (0) hI13 (by omega)) (Or.inl rfl) (fun k9 v9 T60 E60 nx60 kc60 ks60 hq59 hk60 hv60 => ?_)
    obtain ⟨rfl, rfl, rfl, hI62, hG63, z61, rfl, hz61⟩ := hq59
    obtain rfl : kc3 = kc60 := by omega
    obtain rfl : ks3 = ks60 := by omega
    have hF65 := cm_fr.trans hF16 hG63 (by intro i k h; (try simp only at h); (try simp only); omega)
    have hN66 := hN17.fr hG63 (by intro i k h; (try simp only at h); omega)
    have hs67 := hs26.fr hG63 (by intro i k h; (try simp only at h); omega)
    have hz68 : E60 0 10 = ai_i z1 := (hG63 0 10 (by first | omega | (simp; done) | (simp; omega) | (simp only; omega))).trans hz18
    have ghz68 := gv_eq hz68
    refine Or.inr (Or.inl ⟨rfl, ?_⟩)
    exact w_iret rfl (Or.inr (⟨rfl, by omega, by omega, hI62, hF65, hN66, z61, rfl, trivial⟩)) (by omega) (by omega)
  · replace hc58 : ¬ (z54 = (0 : Int)) := hc58
    refine w_aload (i := 5) (npc := 30) (v := cr q25) rfl rfl rfl ?_
    refine w_isnullR (pt := 45) (npc := 33) rfl ?_
    refine w_aload (i := 0) (npc := 34) (v := cr 0) rfl rfl rfl ?_
    refine w_aload (i := 4) (npc := 36) (v := cr 6) rfl rfl rfl ?_
    refine w_aload (i := 3) (npc := 37) (v := cr b8) rfl rfl rfl ?_
    refine w_aload (i := 5) (npc := 39) (v := cr q25) rfl rfl rfl ?_
    refine w_virt (ci := 7) (i := 0) (npc := 42) (a := [cr 0, cr 6, cr b8, cr q25]) (rest := []) rfl rfl (hI13.pl (by decide)) (hI13.T (by decide) rfl) rfl rfl rfl rfl (ct_c_canUndo (sl := sl) (x := x) (d := d + 1)  (b := b8) hb9 hs26 hI13) (Or.inl rfl) (fun k9 v9 T70 E70 nx70 kc70 ks70 hq69 hk70 hv70 => ?_)
    obtain ⟨rfl, rfl, rfl, hI72, hG73, z71, rfl, hz71⟩ := hq69
    obtain rfl : kc3 = kc70 := by omega
    obtain rfl : ks3 = ks70 := by omega
    have hF75 := cm_fr.trans hF16 hG73 (by intro i k h; (try simp only at h); (try simp only); omega)
    have hN76 := hN17.fr hG73 (by intro i k h; (try simp only at h); omega)
    have hs77 := hs26.fr hG73 (by intro i k h; (try simp only at h); omega)
    have hz78 : E70 0 10 = ai_i z1 := (hG73 0 10 (by first | omega | (simp; done) | (simp; omega) | (simp only; omega))).trans hz18
    have ghz78 := gv_eq hz78
    refine Or.inr (Or.inl ⟨rfl, ?_⟩)
    refine w_if (c := .ne) (npc := 45) (pt := 51) rfl (fun hc79 => ?_) (fun hc79 => ?_)
    · replace hc79 : z71 ≠ (0 : Int) := hc79
      refine w_aload (i := 0) (npc := 52) (v := cr 0) rfl rfl rfl ?_
      refine w_getf (i := 0) (ci := 7) (k := 7) (npc := 55) rfl (hI72.pl (by decide)) (hI72.T (by decide) rfl) (by decide) (hI72.ref 0 7 (p := 17) (by decide) (by decide) rfl) ?_
      refine w_const (n := 2) (npc := 56) rfl ?_
      refine w_aload (i := 3) (npc := 57) (v := cr b8) rfl rfl rfl ?_
      refine w_virt (ci := 2) (i := 17) (npc := 60) (a := [cr 17, ai_i 2, cr b8]) (rest := []) rfl rfl (hI72.pl (by decide)) (hI72.T (by decide) rfl) rfl rfl rfl rfl (ct_pk_begin (sl := sl) (x := x) (d := d + 4) (2) (b := b8) hb9 hI72 (by omega) (by have c59 := hz54.2.2 (by omega); have i09 := gv_fr hG73 (i := b8) (k := 0) (by omega); have j09 := gv_fr hG73 (i := b8 + 2) (k := (gv E11 b8 0).toNat) (by omega); rw [show gv E70 b8 0 = gv E11 b8 0 by omega]; omega)) (Or.inl rfl) (fun k9 v9 T81 E81 nx81 kc81 ks81 hq80 hk81 hv81 => ?_)
      obtain ⟨rfl, rfl, rfl, hI83, hG84, hz82⟩ := hq80
      obtain rfl : kc3 = kc81 := by omega
      obtain rfl : ks3 = ks81 := by omega
      have hF86 := cm_fr.trans hF75 hG84 (by intro i k h; (try simp only at h); (try simp only); omega)
      have hN87 := hN76.fr hG84 (by intro i k h; (try simp only at h); omega)
      have hs88 := hs77.fr hG84 (by intro i k h; (try simp only at h); omega)
      have hz89 : E81 0 10 = ai_i z1 := (hG84 0 10 (by first | omega | (simp; done) | (simp; omega) | (simp only; omega))).trans hz78
      have ghz89 := gv_eq hz89
      refine Or.inl ⟨rfl, ?_⟩
      refine w_aload (i := 0) (npc := 61) (v := cr 0) rfl rfl rfl ?_
      refine w_getf (i := 0) (ci := 7) (k := 7) (npc := 64) rfl (hI83.pl (by decide)) (hI83.T (by decide) rfl) (by decide) (hI83.ref 0 7 (p := 17) (by decide) (by decide) rfl) ?_
      refine w_iload (i := 2) (npc := 65) rfl rfl ?_
      refine w_virt (ci := 2) (i := 17) (npc := 68) (a := [cr 17, ai_i n]) (rest := []) rfl rfl (hI83.pl (by decide)) (hI83.T (by decide) rfl) rfl rfl rfl rfl (ct_pk_put (sl := sl) (x := x) (d := d + 6) (n) hI83) (Or.inl rfl) (fun k9 v9 T91 E91 nx91 kc91 ks91 hq90 hk91 hv91 => ?_)
      obtain ⟨rfl, rfl, rfl, hI93, hG94, hz92⟩ := hq90
      obtain rfl : kc3 = kc91 := by omega
      obtain rfl : ks3 = ks91 := by omega
      have hF96 := cm_fr.trans hF86 hG94 (by intro i k h; (try simp only at h); (try simp only); omega)
      have hN97 := hN87.fr hG94 (by intro i k h; (try simp only at h); omega)
      have hs98 := hs88.fr hG94 (by intro i k h; (try simp only at h); omega)
      have hz99 : E91 0 10 = ai_i z1 := (hG94 0 10 (by first | omega | (simp; done) | (simp; omega) | (simp only; omega))).trans hz89
      have ghz99 := gv_eq hz99
      refine Or.inl ⟨rfl, ?_⟩
      refine w_aload (i := 0) (npc := 69) (v := cr 0) rfl rfl rfl ?_
      refine w_aload (i := 3) (npc := 70) (v := cr b8) rfl rfl rfl ?_
      refine w_virt (ci := 7) (i := 0) (npc := 73) (a := [cr 0, cr b8]) (rest := []) rfl rfl (hI93.pl (by decide)) (hI93.T (by decide) rfl) rfl rfl rfl rfl (ct_c_perform (sl := sl) (x := x) (d := d + 1)  (b := b8) hb9 hI93 hN97 (by omega) (by omega) (by have e01 := gv_fr hG94 (i := 18) (k := 1) (by omega); have e02 := gv_fr hG94 (i := 18) (k := 2) (by omega); omega)) (Or.inl rfl) (fun k9 v9 T101 E101 nx101 kc101 ks101 hq100 hk101 hv101 => ?_)
      obtain ⟨rfl, hnxz102, hnyz102, hI103, hG104, hN105, z102, rfl, hz102⟩ := hq100
      have hF106 := cm_fr.trans hF96 hG104 (by intro i k h; (try simp only at h); (try simp only); omega)
      refine Or.inr (Or.inl ⟨rfl, ?_⟩)
      exact w_iret rfl (Or.inr (⟨rfl, by omega, by omega, hI103, hF106, hN105, z102, rfl, trivial⟩)) (by omega) (by omega)
    · replace hc79 : ¬ (z71 ≠ (0 : Int)) := hc79
      refine w_aload (i := 0) (npc := 46) (v := cr 0) rfl rfl rfl ?_
      refine w_const (n := 0) (npc := 47) rfl ?_
      refine w_virt (ci := 7) (i := 0) (npc := 50) (a := [cr 0, ai_i 0]) (rest := []) rfl rfl (hI72.pl (by decide)) (hI72.T (by decide) rfl) rfl rfl rfl rfl (ct_c_refuse (sl := sl) (x := x) (d := d + 6) (0) hI72 (by omega)) (Or.inl rfl) (fun k9 v9 T108 E108 nx108 kc108 ks108 hq107 hk108 hv108 => ?_)
      obtain ⟨rfl, rfl, rfl, hI110, hG111, z109, rfl, hz109⟩ := hq107
      obtain rfl : kc3 = kc108 := by omega
      obtain rfl : ks3 = ks108 := by omega
      have hF113 := cm_fr.trans hF75 hG111 (by intro i k h; (try simp only at h); (try simp only); omega)
      have hN114 := hN76.fr hG111 (by intro i k h; (try simp only at h); omega)
      have hs115 := hs77.fr hG111 (by intro i k h; (try simp only at h); omega)
      have hz116 : E108 0 10 = ai_i z1 := (hG111 0 10 (by first | omega | (simp; done) | (simp; omega) | (simp only; omega))).trans hz78
      have ghz116 := gv_eq hz116
      refine Or.inr (Or.inl ⟨rfl, ?_⟩)
      exact w_iret rfl (Or.inr (⟨rfl, by omega, by omega, hI110, hF113, hN114, z109, rfl, trivial⟩)) (by omega) (by omega)
set_option maxRecDepth 16384 in
theorem ct_c_move24 {sl : Int × Int} {x : ai_E} {d : Nat} {T : cm_T} {E : cm_E} {nx : Nat} (p f t a : Int)  (hI : cs_I T E nx) (hN : hn E) (hp0 : nx ≤ 1000) : cm_ct (ai_ev sl (d + 8)) x 22 [cr 0, ai_i p, ai_i f, ai_i t, ai_i a] T E nx 6 440 (fun rk rv T' E' nx' => (rk = 2 ∧ nx ≤ nx' ∧ nx' ≤ nx + 2 ∧ cs_I T' E' nx' ∧ cm_fr (fun i k => (i < 81 ∧ ¬ (23 ≤ i ∧ i ≤ 40) ∧ ¬ (i = 0 ∧ (k = 10 ∨ k = 11 ∨ k = 14))) ∨ 105 ≤ i) E E' ∧ hn E' ∧ (True)) ∨ (rk = 1 ∧ nx ≤ nx' ∧ nx' ≤ nx + 2 ∧ cs_I T' E' nx' ∧ cm_fr (fun i k => (i < 81 ∧ ¬ (23 ≤ i ∧ i ≤ 40) ∧ ¬ (i = 0 ∧ (k = 10 ∨ k = 11 ∨ k = 14))) ∨ 105 ≤ i) E E' ∧ hn E' ∧ ∃ z : Int, rv = ai_i z ∧ (True))) := by
  refine cm_body (M := ai_m22) rfl rfl (fun kc ks => ?_)
  show cm_wp (ai_find ai_c22 sl) (ai_ev sl (d + 7)) x (kc + 6) (ks + 440) _ 0 [cr 0, ai_i p, ai_i f, ai_i t, ai_i a, ai_un, ai_un, ai_un] [] T E nx kc ks
  have hF : cm_fr (fun i k => (i < 81 ∧ ¬ (23 ≤ i ∧ i ≤ 40) ∧ ¬ (i = 0 ∧ (k = 10 ∨ k = 11 ∨ k = 14))) ∨ 105 ≤ i) E E := fun _ _ _ => rfl
  obtain ⟨z1, hz1, hz1a, hz1b⟩ := hI.int 0 10 (lo := 1) (hi := 5) (by decide) (by decide) rfl
  have ghz1 := gv_eq hz1
  refine w_aload (i := 0) (npc := 1) (v := cr 0) rfl rfl rfl ?_
  refine w_iload (i := 1) (npc := 2) rfl rfl ?_
  obtain ⟨z2, hz2, hz2a, hz2b⟩ := hI.int 6 8 (lo := 0) (hi := 300) (by decide) (by decide) rfl
  have ghz2 := gv_eq hz2
  refine w_virt (ci := 7) (i := 0) (npc := 5) (a := [cr 0, ai_i p]) (rest := []) rfl rfl (hI.pl (by decide)) (hI.T (by decide) rfl) rfl rfl rfl rfl (ct_c_pageAt (sl := sl) (x := x) (d := d + 6) (p) hI) (Or.inl rfl) (fun k9 v9 T4 E4 nx4 kc4 ks4 hq3 hk4 hv4 => ?_)
  rcases hq3 with hq3 | hq3
  · obtain ⟨rfl, rfl, rfl, rfl, hz5⟩ := hq3
    exact Or.inr (Or.inr (Or.inl ⟨rfl, rfl, Or.inl ⟨rfl, by omega, by omega, hI, hF, hN, trivial⟩, by omega, by omega⟩))
  obtain ⟨rfl, rfl, rfl, rfl, b9, rfl, hz5⟩ := hq3
  have hb10 : 41 ≤ b9 ∧ b9 ≤ 77 ∧ b9 % 4 = 1 := by omega
  refine Or.inr (Or.inl ⟨rfl, ?_⟩)
  refine w_astore (i := 5) (npc := 7) (loc' := [cr 0, ai_i p, ai_i f, ai_i t, ai_i a, cr b9, ai_un, ai_un]) rfl rfl rfl ?_
  refine w_aload (i := 0) (npc := 8) (v := cr 0) rfl rfl rfl ?_
  refine w_iload (i := 1) (npc := 9) rfl rfl ?_
  refine w_virt (ci := 7) (i := 0) (npc := 12) (a := [cr 0, ai_i p]) (rest := []) rfl rfl (hI.pl (by decide)) (hI.T (by decide) rfl) rfl rfl rfl rfl (ct_c_viewOf (sl := sl) (x := x) (d := d + 0) (p) hI (by omega)) (Or.inl rfl) (fun k9 v9 T12 E12 nx12 kc12 ks12 hq11 hk12 hv12 => ?_)
  obtain ⟨rfl, rfl, rfl, hI14, hG15, rfl, hz13⟩ := hq11
  obtain rfl : kc4 = kc12 := by omega
  obtain rfl : ks4 = ks12 := by omega
  have hF17 := cm_fr.trans hF hG15 (by intro i k h; (try simp only at h); (try simp only); omega)
  have hN18 := hN.fr hG15 (by intro i k h; (try simp only at h); omega)
  have hz19 : E12 0 10 = ai_i z1 := (hG15 0 10 (by first | omega | (simp; done) | (simp; omega) | (simp only; omega))).trans hz1
  have ghz19 := gv_eq hz19
  refine Or.inr (Or.inl ⟨rfl, ?_⟩)
  refine w_astore (i := 6) (npc := 14) (loc' := [cr 0, ai_i p, ai_i f, ai_i t, ai_i a, cr b9, cr 6, ai_un]) rfl rfl rfl ?_
  refine w_aload (i := 5) (npc := 16) (v := cr b9) rfl rfl rfl ?_
  obtain ⟨z20, hz20, hz20a, hz20b⟩ := hI14.int 6 8 (lo := 0) (hi := 300) (by decide) (by decide) rfl
  have ghz20 := gv_eq hz20
  refine w_virt (ci := 3) (i := b9) (npc := 19) (a := [cr b9]) (rest := []) rfl rfl (hI14.pl (by omega)) (hI14.pgT0 hb10) rfl rfl rfl rfl (ct_pg_canStep (sl := sl) (x := x) (d := d + 6)  (b := b9) hb10 hI14) (Or.inl rfl) (fun k9 v9 T22 E22 nx22 kc22 ks22 hq21 hk22 hv22 => ?_)
  obtain ⟨rfl, rfl, rfl, rfl, z23, rfl, hz23⟩ := hq21
  obtain rfl : kc4 = kc22 := by omega
  obtain rfl : ks4 = ks22 := by omega
  refine Or.inr (Or.inl ⟨rfl, ?_⟩)
  refine w_if (c := .eq) (npc := 22) (pt := 37) rfl (fun hc27 => ?_) (fun hc27 => ?_)
  · replace hc27 : z23 = (0 : Int) := hc27
    refine w_aload (i := 0) (npc := 38) (v := cr 0) rfl rfl rfl ?_
    refine w_const (n := 0) (npc := 39) rfl ?_
    refine w_virt (ci := 7) (i := 0) (npc := 42) (a := [cr 0, ai_i 0]) (rest := []) rfl rfl (hI14.pl (by decide)) (hI14.T (by decide) rfl) rfl rfl rfl rfl (ct_c_refuse (sl := sl) (x := x) (d := d + 6) (0) hI14 (by omega)) (Or.inl rfl) (fun k9 v9 T29 E29 nx29 kc29 ks29 hq28 hk29 hv29 => ?_)
    obtain ⟨rfl, rfl, rfl, hI31, hG32, z30, rfl, hz30⟩ := hq28
    obtain rfl : kc4 = kc29 := by omega
    obtain rfl : ks4 = ks29 := by omega
    have hF34 := cm_fr.trans hF17 hG32 (by intro i k h; (try simp only at h); (try simp only); omega)
    have hN35 := hN18.fr hG32 (by intro i k h; (try simp only at h); omega)
    have hz36 : E29 0 10 = ai_i z1 := (hG32 0 10 (by first | omega | (simp; done) | (simp; omega) | (simp only; omega))).trans hz19
    have ghz36 := gv_eq hz36
    have hz37 : E29 6 8 = ai_i z20 := (hG32 6 8 (by first | omega | (simp; done) | (simp; omega) | (simp only; omega))).trans hz20
    have ghz37 := gv_eq hz37
    refine Or.inr (Or.inl ⟨rfl, ?_⟩)
    exact w_iret rfl (Or.inr (⟨rfl, by omega, by omega, hI31, hF34, hN35, z30, rfl, trivial⟩)) (by omega) (by omega)
  · replace hc27 : ¬ (z23 = (0 : Int)) := hc27
    refine w_aload (i := 6) (npc := 24) (v := cr 6) rfl rfl rfl ?_
    refine w_getf (i := 6) (ci := 6) (k := 8) (npc := 27) rfl (hI14.pl (by decide)) (hI14.T (by decide) rfl) (by decide) hz20 ?_
    refine w_iload (i := 2) (npc := 28) rfl rfl ?_
    refine w_iload (i := 3) (npc := 29) rfl rfl ?_
    refine w_iload (i := 4) (npc := 31) rfl rfl ?_
    refine w_call (npc := 34) (a := [ai_i z20, ai_i f, ai_i t, ai_i a]) (rest := []) rfl rfl rfl rfl rfl (ct_c_canMove (sl := sl) (x := x) (d := d + 6) (z20) (f) (t) (a) (by omega)) (Or.inr (fun _ _ _ _ _ hq => by have h1 := hq.1; omega)) (fun k9 v9 T39 E39 nx39 kc39 ks39 hq38 hk39 hv39 => ?_)
    obtain ⟨rfl, rfl, rfl, rfl, z40, rfl, hz40⟩ := hq38
    obtain rfl : kc4 = kc39 := by omega
    obtain rfl : ks4 = ks39 := by omega
    refine Or.inr (Or.inl ⟨rfl, ?_⟩)
    refine w_if (c := .ne) (npc := 37) (pt := 43) rfl (fun hc44 => ?_) (fun hc44 => ?_)
    · replace hc44 : z40 ≠ (0 : Int) := hc44
      refine w_aload (i := 0) (npc := 44) (v := cr 0) rfl rfl rfl ?_
      refine w_getf (i := 0) (ci := 7) (k := 7) (npc := 47) rfl (hI14.pl (by decide)) (hI14.T (by decide) rfl) (by decide) (hI14.ref 0 7 (p := 17) (by decide) (by decide) rfl) ?_
      refine w_const (n := 3) (npc := 48) rfl ?_
      refine w_aload (i := 5) (npc := 50) (v := cr b9) rfl rfl rfl ?_
      refine w_virt (ci := 2) (i := 17) (npc := 53) (a := [cr 17, ai_i 3, cr b9]) (rest := []) rfl rfl (hI14.pl (by decide)) (hI14.T (by decide) rfl) rfl rfl rfl rfl (ct_pk_begin (sl := sl) (x := x) (d := d + 4) (3) (b := b9) hb10 hI14 (by omega) (by have c59 := hz23.2.2 (by omega); rw [show gv E12 b9 0 = gv E12 b9 0 by omega]; omega)) (Or.inl rfl) (fun k9 v9 T46 E46 nx46 kc46 ks46 hq45 hk46 hv46 => ?_)
      obtain ⟨rfl, rfl, rfl, hI48, hG49, hz47⟩ := hq45
      obtain rfl : kc4 = kc46 := by omega
      obtain rfl : ks4 = ks46 := by omega
      have hF51 := cm_fr.trans hF17 hG49 (by intro i k h; (try simp only at h); (try simp only); omega)
      have hN52 := hN18.fr hG49 (by intro i k h; (try simp only at h); omega)
      have hz53 : E46 0 10 = ai_i z1 := (hG49 0 10 (by first | omega | (simp; done) | (simp; omega) | (simp only; omega))).trans hz19
      have ghz53 := gv_eq hz53
      have hz54 : E46 6 8 = ai_i z20 := (hG49 6 8 (by first | omega | (simp; done) | (simp; omega) | (simp only; omega))).trans hz20
      have ghz54 := gv_eq hz54
      refine Or.inl ⟨rfl, ?_⟩
      refine w_aload (i := 0) (npc := 54) (v := cr 0) rfl rfl rfl ?_
      refine w_getf (i := 0) (ci := 7) (k := 7) (npc := 57) rfl (hI48.pl (by decide)) (hI48.T (by decide) rfl) (by decide) (hI48.ref 0 7 (p := 17) (by decide) (by decide) rfl) ?_
      refine w_iload (i := 3) (npc := 58) rfl rfl ?_
      refine w_iload (i := 2) (npc := 59) rfl rfl ?_
      refine w_isub (npc := 60) rfl (by omega) ?_
      refine w_const (n := 1) (npc := 61) rfl ?_
      refine w_iadd (npc := 62) rfl (by omega) ?_
      refine w_virt (ci := 2) (i := 17) (npc := 65) (a := [cr 17, ai_i (t - f + 1)]) (rest := []) rfl rfl (hI48.pl (by decide)) (hI48.T (by decide) rfl) rfl rfl rfl rfl (ct_pk_put (sl := sl) (x := x) (d := d + 6) (t - f + 1) hI48) (Or.inl rfl) (fun k9 v9 T58 E58 nx58 kc58 ks58 hq57 hk58 hv58 => ?_)
      obtain ⟨rfl, rfl, rfl, hI60, hG61, hz59⟩ := hq57
      obtain rfl : kc4 = kc58 := by omega
      obtain rfl : ks4 = ks58 := by omega
      have hF63 := cm_fr.trans hF51 hG61 (by intro i k h; (try simp only at h); (try simp only); omega)
      have hN64 := hN52.fr hG61 (by intro i k h; (try simp only at h); omega)
      have hz65 : E58 0 10 = ai_i z1 := (hG61 0 10 (by first | omega | (simp; done) | (simp; omega) | (simp only; omega))).trans hz53
      have ghz65 := gv_eq hz65
      have hz66 : E58 6 8 = ai_i z20 := (hG61 6 8 (by first | omega | (simp; done) | (simp; omega) | (simp only; omega))).trans hz54
      have ghz66 := gv_eq hz66
      refine Or.inl ⟨rfl, ?_⟩
      refine w_aload (i := 0) (npc := 66) (v := cr 0) rfl rfl rfl ?_
      refine w_getf (i := 0) (ci := 7) (k := 6) (npc := 69) rfl (hI60.pl (by decide)) (hI60.T (by decide) rfl) (by decide) (hI60.ref 0 6 (p := 14) (by decide) (by decide) rfl) ?_
      refine w_aload (i := 6) (npc := 71) (v := cr 6) rfl rfl rfl ?_
      refine w_iload (i := 4) (npc := 73) rfl rfl ?_
      refine w_virt (ci := 1) (i := 14) (npc := 76) (a := [cr 14, cr 6, ai_i a]) (rest := []) rfl rfl (hI60.pl (by decide)) (hI60.T (by decide) rfl) rfl rfl rfl rfl (ct_nk_aim (sl := sl) (x := x) (d := d + 3) (a) hI60 (by omega)) (Or.inl rfl) (fun k9 v9 T68 E68 nx68 kc68 ks68 hq67 hk68 hv68 => ?_)
      obtain ⟨rfl, rfl, rfl, hI70, hG71, hz69⟩ := hq67
      obtain rfl : kc4 = kc68 := by omega
      obtain rfl : ks4 = ks68 := by omega
      have hF73 := cm_fr.trans hF63 hG71 (by intro i k h; (try simp only at h); (try simp only); omega)
      have hN74 := hN64.fr hG71 (by intro i k h; (try simp only at h); omega)
      have hz75 : E68 0 10 = ai_i z1 := (hG71 0 10 (by first | omega | (simp; done) | (simp; omega) | (simp only; omega))).trans hz65
      have ghz75 := gv_eq hz75
      have hz76 : E68 6 8 = ai_i z20 := (hG71 6 8 (by first | omega | (simp; done) | (simp; omega) | (simp only; omega))).trans hz66
      have ghz76 := gv_eq hz76
      refine Or.inl ⟨rfl, ?_⟩
      refine w_iload (i := 2) (npc := 77) rfl rfl ?_
      refine w_istore (i := 7) (npc := 79) (loc' := [cr 0, ai_i p, ai_i f, ai_i t, ai_i a, cr b9, cr 6, ai_i f]) rfl rfl ?_
      have loop79 : ∀ (nf : Nat) (i : Int) (Eq79 : cm_E), ((t + 1 - i).toNat) < nf → cs_I T Eq79 nx → cm_fr (fun i k => (i < 81 ∧ ¬ (23 ≤ i ∧ i ≤ 40) ∧ ¬ (i = 0 ∧ (k = 10 ∨ k = 11 ∨ k = 14))) ∨ 105 ≤ i) E Eq79 → hn Eq79 → (f ≤ i ∧ i ≤ t + 1 ∧ 3 ≤ gv Eq79 17 1 ∧ gv Eq79 17 1 ≤ 11 + 51 * (i - f) ∧ gv Eq79 18 1 ≤ 4 ∧ 1 ≤ gv Eq79 18 2 ∧ gv Eq79 18 2 ≤ 60) → cm_wp (ai_find ai_c22 sl) (ai_ev sl (d + 7)) x (kc + 6) (ks + 440) (fun rk rv T' E' nx' => (rk = 2 ∧ nx ≤ nx' ∧ nx' ≤ nx + 2 ∧ cs_I T' E' nx' ∧ cm_fr (fun i k => (i < 81 ∧ ¬ (23 ≤ i ∧ i ≤ 40) ∧ ¬ (i = 0 ∧ (k = 10 ∨ k = 11 ∨ k = 14))) ∨ 105 ≤ i) E E' ∧ hn E' ∧ (True)) ∨ (rk = 1 ∧ nx ≤ nx' ∧ nx' ≤ nx + 2 ∧ cs_I T' E' nx' ∧ cm_fr (fun i k => (i < 81 ∧ ¬ (23 ≤ i ∧ i ≤ 40) ∧ ¬ (i = 0 ∧ (k = 10 ∨ k = 11 ∨ k = 14))) ∨ 105 ≤ i) E E' ∧ hn E' ∧ ∃ z : Int, rv = ai_i z ∧ (True))) 79 [cr 0, ai_i p, ai_i f, ai_i t, ai_i a, cr b9, cr 6, ai_i i] [] T Eq79 nx kc4 ks4 := by
        intro nf
        induction nf with
        | zero => intro i Eq79 hm; exact absurd hm (Nat.not_lt_zero _)
        | succ nf79 ih =>
          intro i Eq79 hm79 hI79 hF79 hN79 hv79
          have ih79 := ih; clear ih
          refine w_iload (i := 7) (npc := 81) rfl rfl ?_
          refine w_iload (i := 3) (npc := 82) rfl rfl ?_
          refine w_icmp (c := .gt) (npc := 85) (pt := 133) rfl (fun hc77 => ?_) (fun hc77 => ?_)
          · replace hc77 : t < i := hc77
            refine w_aload (i := 0) (npc := 134) (v := cr 0) rfl rfl rfl ?_
            refine w_aload (i := 5) (npc := 136) (v := cr b9) rfl rfl rfl ?_
            obtain ⟨z78, hz78, hz78a, hz78b⟩ := hI79.int 6 8 (lo := 0) (hi := 300) (by decide) (by decide) rfl
            have ghz78 := gv_eq hz78
            refine w_virt (ci := 7) (i := 0) (npc := 139) (a := [cr 0, cr b9]) (rest := []) rfl rfl (hI79.pl (by decide)) (hI79.T (by decide) rfl) rfl rfl rfl rfl (ct_c_perform (sl := sl) (x := x) (d := d + 1)  (b := b9) hb10 hI79 hN79 (by omega) (by omega) (by omega)) (Or.inl rfl) (fun k9 v9 T80 E80 nx80 kc80 ks80 hq79 hk80 hv80 => ?_)
            obtain ⟨rfl, hnxz81, hnyz81, hI82, hG83, hN84, z81, rfl, hz81⟩ := hq79
            have hF85 := cm_fr.trans hF79 hG83 (by intro i k h; (try simp only at h); (try simp only); omega)
            refine Or.inr (Or.inl ⟨rfl, ?_⟩)
            exact w_iret rfl (Or.inr (⟨rfl, by omega, by omega, hI82, hF85, hN84, z81, rfl, trivial⟩)) (by omega) (by omega)
          · replace hc77 : ¬ (t < i) := hc77
            refine w_aload (i := 0) (npc := 86) (v := cr 0) rfl rfl rfl ?_
            refine w_getf (i := 0) (ci := 7) (k := 6) (npc := 89) rfl (hI79.pl (by decide)) (hI79.T (by decide) rfl) (by decide) (hI79.ref 0 6 (p := 14) (by decide) (by decide) rfl) ?_
            refine w_iload (i := 1) (npc := 90) rfl rfl ?_
            obtain ⟨z86, hz86, hz86a, hz86b⟩ := hI79.int 6 8 (lo := 0) (hi := 300) (by decide) (by decide) rfl
            have ghz86 := gv_eq hz86
            refine w_virt (ci := 1) (i := 14) (npc := 93) (a := [cr 14, ai_i p]) (rest := []) rfl rfl (hI79.pl (by decide)) (hI79.T (by decide) rfl) rfl rfl rfl rfl (ct_nk_grow (sl := sl) (x := x) (d := d + 6) (p) hI79 (by omega)) (Or.inl rfl) (fun k9 v9 T88 E88 nx88 kc88 ks88 hq87 hk88 hv88 => ?_)
            obtain ⟨rfl, rfl, rfl, hI90, hG91, z89, rfl, hz89⟩ := hq87
            obtain rfl : kc4 = kc88 := by omega
            obtain rfl : ks4 = ks88 := by omega
            have hF93 := cm_fr.trans hF79 hG91 (by intro i k h; (try simp only at h); (try simp only); omega)
            have hN94 := hN79.fr hG91 (by intro i k h; (try simp only at h); omega)
            have hz95 : E88 6 8 = ai_i z86 := (hG91 6 8 (by first | omega | (simp; done) | (simp; omega) | (simp only; omega))).trans hz86
            have ghz95 := gv_eq hz95
            refine Or.inr (Or.inl ⟨rfl, ?_⟩)
            refine w_if (c := .ne) (npc := 96) (pt := 102) rfl (fun hc96 => ?_) (fun hc96 => ?_)
            · replace hc96 : z89 ≠ (0 : Int) := hc96
              have hg17 := gv_fr hG91 (i := 17) (k := 1) (by omega)
              refine w_aload (i := 0) (npc := 103) rfl rfl rfl ?_
              refine w_getf (i := 0) (ci := 7) (k := 7) (npc := 106) rfl (hI90.pl (by decide)) (hI90.T (by decide) rfl) (by decide) (hI90.ref 0 7 (p := 17) (by decide) (by decide) rfl) ?_
              refine w_aload (i := 6) (npc := 108) (v := cr 6) rfl rfl rfl ?_
              refine w_iload (i := 7) (npc := 110) rfl rfl ?_
              refine w_virt (ci := 6) (i := 6) (npc := 113) (a := [cr 6, ai_i i]) (rest := [cr 17]) rfl rfl (hI90.pl (by decide)) (hI90.T (by decide) rfl) rfl rfl rfl rfl (ct_vw_slotAt (sl := sl) (x := x) (d := d + 6) (i) hI90) (Or.inl rfl) (fun k9 v9 T98 E98 nx98 kc98 ks98 hq97 hk98 hv98 => ?_)
              obtain ⟨rfl, rfl, rfl, rfl, z99, rfl, hz99⟩ := hq97
              obtain rfl : kc4 = kc98 := by omega
              obtain rfl : ks4 = ks98 := by omega
              refine Or.inr (Or.inl ⟨rfl, ?_⟩)
              refine w_virt (ci := 2) (i := 17) (npc := 116) (a := [cr 17, ai_i z99]) (rest := []) rfl rfl (hI90.pl (by decide)) (hI90.T (by decide) rfl) rfl rfl rfl rfl (ct_pk_putMark (sl := sl) (x := x) (d := d + 5) (z99) hI90 (by omega) (by omega)) (Or.inl rfl) (fun k9 v9 T104 E104 nx104 kc104 ks104 hq103 hk104 hv104 => ?_)
              obtain ⟨rfl, rfl, rfl, hI106, hG107, hz105⟩ := hq103
              obtain rfl : kc4 = kc104 := by omega
              obtain rfl : ks4 = ks104 := by omega
              have hF109 := cm_fr.trans hF93 hG107 (by intro i k h; (try simp only at h); (try simp only); omega)
              have hN110 := hN94.fr hG107 (by intro i k h; (try simp only at h); omega)
              have hz111 : E104 6 8 = ai_i z86 := (hG107 6 8 (by first | omega | (simp; done) | (simp; omega) | (simp only; omega))).trans hz95
              have ghz111 := gv_eq hz111
              refine Or.inl ⟨rfl, ?_⟩
              refine w_aload (i := 0) (npc := 117) (v := cr 0) rfl rfl rfl ?_
              refine w_getf (i := 0) (ci := 7) (k := 7) (npc := 120) rfl (hI106.pl (by decide)) (hI106.T (by decide) rfl) (by decide) (hI106.ref 0 7 (p := 17) (by decide) (by decide) rfl) ?_
              refine w_aload (i := 0) (npc := 121) (v := cr 0) rfl rfl rfl ?_
              refine w_getf (i := 0) (ci := 7) (k := 6) (npc := 124) rfl (hI106.pl (by decide)) (hI106.T (by decide) rfl) (by decide) (hI106.ref 0 6 (p := 14) (by decide) (by decide) rfl) ?_
              refine w_virt (ci := 2) (i := 17) (npc := 127) (a := [cr 17, cr 14]) (rest := []) rfl rfl (hI106.pl (by decide)) (hI106.T (by decide) rfl) rfl rfl rfl rfl (ct_pk_putKey (sl := sl) (x := x) (d := d + 4)  hI106 (by omega)) (Or.inl rfl) (fun k9 v9 T113 E113 nx113 kc113 ks113 hq112 hk113 hv113 => ?_)
              obtain ⟨rfl, rfl, rfl, hI115, hG116, hz114⟩ := hq112
              obtain rfl : kc4 = kc113 := by omega
              obtain rfl : ks4 = ks113 := by omega
              have hF118 := cm_fr.trans hF109 hG116 (by intro i k h; (try simp only at h); (try simp only); omega)
              have hN119 := hN110.fr hG116 (by intro i k h; (try simp only at h); omega)
              have hz120 : E113 6 8 = ai_i z86 := (hG116 6 8 (by first | omega | (simp; done) | (simp; omega) | (simp only; omega))).trans hz111
              have ghz120 := gv_eq hz120
              refine Or.inl ⟨rfl, ?_⟩
              refine w_iinc (i := 7) (n := 1) (npc := 130) (loc' := [cr 0, ai_i p, ai_i f, ai_i t, ai_i a, cr b9, cr 6, ai_i (i + 1)]) rfl rfl (by omega) rfl ?_
              refine w_goto (pt := 79) rfl ?_
              exact ih79 (i + 1) E113 (by omega) hI115 hF118 hN119 (by have e01 := gv_fr hG91 (i := 18) (k := 1) (by omega); have e02 := gv_fr hG91 (i := 18) (k := 2) (by omega); have e11 := gv_fr hG107 (i := 18) (k := 1) (by omega); have e12 := gv_fr hG107 (i := 18) (k := 2) (by omega); have e21 := gv_fr hG116 (i := 18) (k := 1) (by omega); have e22 := gv_fr hG116 (i := 18) (k := 2) (by omega); omega)
            · replace hc96 : ¬ (z89 ≠ (0 : Int)) := hc96
              refine w_aload (i := 0) (npc := 97) (v := cr 0) rfl rfl rfl ?_
              refine w_const (n := 0) (npc := 98) rfl ?_
              refine w_virt (ci := 7) (i := 0) (npc := 101) (a := [cr 0, ai_i 0]) (rest := []) rfl rfl (hI90.pl (by decide)) (hI90.T (by decide) rfl) rfl rfl rfl rfl (ct_c_refuse (sl := sl) (x := x) (d := d + 6) (0) hI90 (by omega)) (Or.inl rfl) (fun k9 v9 T123 E123 nx123 kc123 ks123 hq122 hk123 hv123 => ?_)
              obtain ⟨rfl, rfl, rfl, hI125, hG126, z124, rfl, hz124⟩ := hq122
              obtain rfl : kc4 = kc123 := by omega
              obtain rfl : ks4 = ks123 := by omega
              have hF128 := cm_fr.trans hF93 hG126 (by intro i k h; (try simp only at h); (try simp only); omega)
              have hN129 := hN94.fr hG126 (by intro i k h; (try simp only at h); omega)
              have hz130 : E123 6 8 = ai_i z86 := (hG126 6 8 (by first | omega | (simp; done) | (simp; omega) | (simp only; omega))).trans hz95
              have ghz130 := gv_eq hz130
              refine Or.inr (Or.inl ⟨rfl, ?_⟩)
              exact w_iret rfl (Or.inr (⟨rfl, by omega, by omega, hI125, hF128, hN129, z124, rfl, trivial⟩)) (by omega) (by omega)
      exact loop79 _ (f) E68 (Nat.lt_succ_self _) hI70 hF73 hN74 (by have e01 := gv_fr hG61 (i := 18) (k := 1) (by omega); have e02 := gv_fr hG61 (i := 18) (k := 2) (by omega); have e11 := gv_fr hG71 (i := 18) (k := 1) (by omega); have e12 := gv_fr hG71 (i := 18) (k := 2) (by omega); have e9 := gv_fr hG71 (i := 17) (k := 1) (by omega); omega)
    · replace hc44 : ¬ (z40 ≠ (0 : Int)) := hc44
      refine w_aload (i := 0) (npc := 38) (v := cr 0) rfl rfl rfl ?_
      refine w_const (n := 0) (npc := 39) rfl ?_
      refine w_virt (ci := 7) (i := 0) (npc := 42) (a := [cr 0, ai_i 0]) (rest := []) rfl rfl (hI14.pl (by decide)) (hI14.T (by decide) rfl) rfl rfl rfl rfl (ct_c_refuse (sl := sl) (x := x) (d := d + 6) (0) hI14 (by omega)) (Or.inl rfl) (fun k9 v9 T132 E132 nx132 kc132 ks132 hq131 hk132 hv132 => ?_)
      obtain ⟨rfl, rfl, rfl, hI134, hG135, z133, rfl, hz133⟩ := hq131
      obtain rfl : kc4 = kc132 := by omega
      obtain rfl : ks4 = ks132 := by omega
      have hF137 := cm_fr.trans hF17 hG135 (by intro i k h; (try simp only at h); (try simp only); omega)
      have hN138 := hN18.fr hG135 (by intro i k h; (try simp only at h); omega)
      have hz139 : E132 0 10 = ai_i z1 := (hG135 0 10 (by first | omega | (simp; done) | (simp; omega) | (simp only; omega))).trans hz19
      have ghz139 := gv_eq hz139
      have hz140 : E132 6 8 = ai_i z20 := (hG135 6 8 (by first | omega | (simp; done) | (simp; omega) | (simp only; omega))).trans hz20
      have ghz140 := gv_eq hz140
      refine Or.inr (Or.inl ⟨rfl, ?_⟩)
      exact w_iret rfl (Or.inr (⟨rfl, by omega, by omega, hI134, hF137, hN138, z133, rfl, trivial⟩)) (by omega) (by omega)
set_option maxRecDepth 16384 in
theorem ct_c_hear24 {sl : Int × Int} {x : ai_E} {d : Nat} {T : cm_T} {E : cm_E} {nx : Nat} (p n : Int)  (hI : cs_I T E nx) (hN : hn E) (hp0 : nx ≤ 1000) : cm_ct (ai_ev sl (d + 8)) x 15 [cr 0, ai_i p, ai_i n] T E nx 6 440 (fun rk rv T' E' nx' => (rk = 2 ∧ nx ≤ nx' ∧ nx' ≤ nx + 2 ∧ cs_I T' E' nx' ∧ cm_fr (fun i k => (i < 81 ∧ ¬ (23 ≤ i ∧ i ≤ 40) ∧ i ≠ 5 ∧ ¬ (i = 0 ∧ (k = 10 ∨ k = 14))) ∨ 105 ≤ i) E E' ∧ hn E' ∧ (¬ (0 ≤ p ∧ p < gv E 0 10) ∧ gv E' 0 11 = gv E 0 11)) ∨ (rk = 3 ∧ nx ≤ nx' ∧ nx' ≤ nx + 2 ∧ cs_I T' E' nx' ∧ cm_fr (fun i k => (i < 81 ∧ ¬ (23 ≤ i ∧ i ≤ 40) ∧ i ≠ 5 ∧ ¬ (i = 0 ∧ (k = 10 ∨ k = 14))) ∨ 105 ≤ i) E E' ∧ hn E' ∧ ((0 ≤ p ∧ p < gv E 0 10) ∧ ¬ (0 ≤ n ∧ n ≤ gv E 0 11) ∧ gv E' 0 11 = gv E 0 11)) ∨ (rk = 1 ∧ nx ≤ nx' ∧ nx' ≤ nx + 2 ∧ cs_I T' E' nx' ∧ cm_fr (fun i k => (i < 81 ∧ ¬ (23 ≤ i ∧ i ≤ 40) ∧ i ≠ 5 ∧ ¬ (i = 0 ∧ (k = 10 ∨ k = 14))) ∨ 105 ≤ i) E E' ∧ hn E' ∧ ∃ z : Int, rv = ai_i z ∧ ((0 ≤ p ∧ p < gv E 0 10) ∧ (0 ≤ n ∧ n ≤ gv E 0 11) ∧ gv E' 0 11 = 0))) := by
  refine cm_body (M := ai_m15) rfl rfl (fun kc ks => ?_)
  show cm_wp (ai_find ai_c15 sl) (ai_ev sl (d + 7)) x (kc + 6) (ks + 440) _ 0 [cr 0, ai_i p, ai_i n, ai_un, ai_un, ai_un] [] T E nx kc ks
  have hF : cm_fr (fun i k => (i < 81 ∧ ¬ (23 ≤ i ∧ i ≤ 40) ∧ i ≠ 5 ∧ ¬ (i = 0 ∧ (k = 10 ∨ k = 14))) ∨ 105 ≤ i) E E := fun _ _ _ => rfl
  obtain ⟨z1, hz1, hz1a, hz1b⟩ := hI.int 0 10 (lo := 1) (hi := 5) (by decide) (by decide) rfl
  have ghz1 := gv_eq hz1
  obtain ⟨z2, hz2, hz2a, hz2b⟩ := hI.int 0 11 (lo := 0) (hi := 400) (by decide) (by decide) rfl
  have ghz2 := gv_eq hz2
  refine w_aload (i := 0) (npc := 1) (v := cr 0) rfl rfl rfl ?_
  refine w_iload (i := 1) (npc := 2) rfl rfl ?_
  refine w_virt (ci := 7) (i := 0) (npc := 5) (a := [cr 0, ai_i p]) (rest := []) rfl rfl (hI.pl (by decide)) (hI.T (by decide) rfl) rfl rfl rfl rfl (ct_c_pageAt (sl := sl) (x := x) (d := d + 6) (p) hI) (Or.inl rfl) (fun k9 v9 T4 E4 nx4 kc4 ks4 hq3 hk4 hv4 => ?_)
  rcases hq3 with hq3 | hq3
  · obtain ⟨rfl, rfl, rfl, rfl, hz5⟩ := hq3
    exact Or.inr (Or.inr (Or.inl ⟨rfl, rfl, Or.inl ⟨rfl, by omega, by omega, hI, hF, hN, by omega⟩, by omega, by omega⟩))
  obtain ⟨rfl, rfl, rfl, rfl, b9, rfl, hz5⟩ := hq3
  have hb10 : 41 ≤ b9 ∧ b9 ≤ 77 ∧ b9 % 4 = 1 := by omega
  refine Or.inr (Or.inl ⟨rfl, ?_⟩)
  refine w_astore (i := 3) (npc := 6) (loc' := [cr 0, ai_i p, ai_i n, cr b9, ai_un, ai_un]) rfl rfl rfl ?_
  refine w_iload (i := 2) (npc := 7) rfl rfl ?_
  refine w_if (c := .lt) (npc := 10) (pt := 18) rfl (fun hc11 => ?_) (fun hc11 => ?_)
  · replace hc11 : n < (0 : Int) := hc11
    exact w_throw (k := 3) rfl (Or.inr (Or.inl ⟨rfl, by omega, by omega, hI, hF, hN, by omega⟩)) (by omega) (by omega)
  · replace hc11 : ¬ (n < (0 : Int)) := hc11
    refine w_iload (i := 2) (npc := 11) rfl rfl ?_
    refine w_aload (i := 0) (npc := 12) (v := cr 0) rfl rfl rfl ?_
    refine w_getf (i := 0) (ci := 7) (k := 11) (npc := 15) rfl (hI.pl (by decide)) (hI.T (by decide) rfl) (by decide) hz2 ?_
    refine w_icmp (c := .le) (npc := 18) (pt := 28) rfl (fun hc12 => ?_) (fun hc12 => ?_)
    · replace hc12 : n ≤ z2 := hc12
      refine w_aload (i := 0) (npc := 29) (v := cr 0) rfl rfl rfl ?_
      refine w_const (n := 0) (npc := 30) rfl ?_
      refine w_putf (i := 0) (ci := 7) (k := 11) (t := 0) (npc := 33) rfl (hI.pl (by decide)) (hI.T (by decide) rfl) (by decide) cm_fit0 ?_
      have hI14 := hI.puti (i := 0) (k := 11) (z := 0) (lo := 0) (hi := 400) (by decide) rfl (by omega)
      have hF16 := cm_fr.up (i := 0) (k := 11) (v := ai_i 0) hF (by first | omega | (simp; done) | (simp; omega) | (simp only; omega))
      have hN17 := hn.wr (i := 0) (k := 11) (v := ai_i 0) hN (by omega)
      generalize hE15 : cm_up E 0 11 (ai_i 0) = E13 at hI14 hF16 hN17 ⊢
      have hz18 : E13 0 10 = ai_i z1 := by rw [← hE15, cm_up_ne _ _ (by decide)]; exact hz1
      have ghz18 := gv_eq hz18
      have hz19 : E13 0 11 = ai_i 0 := by rw [← hE15, cm_up_eq]
      have ghz19 := gv_eq hz19
      refine w_aload (i := 0) (npc := 34) (v := cr 0) rfl rfl rfl ?_
      refine w_const (n := (-1)) (npc := 35) rfl ?_
      refine w_putf (i := 0) (ci := 7) (k := 12) (t := 0) (npc := 38) rfl (hI14.pl (by decide)) (hI14.T (by decide) rfl) (by decide) cm_fit0 ?_
      have hI21 := hI14.puti (i := 0) (k := 12) (z := (-1)) (lo := (-1)) (hi := 400) (by decide) rfl (by omega)
      have hF23 := cm_fr.up (i := 0) (k := 12) (v := ai_i ((-1))) hF16 (by first | omega | (simp; done) | (simp; omega) | (simp only; omega))
      have hN24 := hn.wr (i := 0) (k := 12) (v := ai_i ((-1))) hN17 (by omega)
      generalize hE22 : cm_up E13 0 12 (ai_i ((-1))) = E20 at hI21 hF23 hN24 ⊢
      have hz25 : E20 0 10 = ai_i z1 := by rw [← hE22, cm_up_ne _ _ (by decide)]; exact hz18
      have ghz25 := gv_eq hz25
      have hz26 : E20 0 11 = ai_i 0 := by rw [← hE22, cm_up_ne _ _ (by decide)]; exact hz19
      have ghz26 := gv_eq hz26
      have hz27 : E20 0 12 = ai_i ((-1)) := by rw [← hE22, cm_up_eq]
      have ghz27 := gv_eq hz27
      refine w_aload (i := 0) (npc := 39) (v := cr 0) rfl rfl rfl ?_
      refine w_getf (i := 0) (ci := 7) (k := 8) (npc := 42) rfl (hI21.pl (by decide)) (hI21.T (by decide) rfl) (by decide) (hI21.ref 0 8 (p := 19) (by decide) (by decide) rfl) ?_
      refine w_aload (i := 0) (npc := 43) (v := cr 0) rfl rfl rfl ?_
      refine w_getf (i := 0) (ci := 7) (k := 4) (npc := 46) rfl (hI21.pl (by decide)) (hI21.T (by decide) rfl) (by decide) (hI21.ref 0 4 (p := 5) (by decide) (by decide) rfl) ?_
      refine w_iload (i := 2) (npc := 47) rfl rfl ?_
      refine w_aload (i := 0) (npc := 48) (v := cr 0) rfl rfl rfl ?_
      refine w_getf (i := 0) (ci := 7) (k := 10) (npc := 51) rfl (hI21.pl (by decide)) (hI21.T (by decide) rfl) (by decide) hz25 ?_
      refine w_virt (ci := 0) (i := 19) (npc := 54) (a := [cr 19, cr 5, ai_i n, ai_i z1]) (rest := []) rfl rfl (hI21.pl (by decide)) (hI21.T (by decide) rfl) rfl rfl rfl rfl (ct_ck_check (sl := sl) (x := x) (d := d + 0) (n) (z1) hI21 (by omega) (by omega)) (Or.inl rfl) (fun k9 v9 T29 E29 nx29 kc29 ks29 hq28 hk29 hv29 => ?_)
      obtain ⟨rfl, rfl, rfl, hI31, hG32, z30, rfl, hz30⟩ := hq28
      obtain rfl : kc4 = kc29 := by omega
      obtain rfl : ks4 = ks29 := by omega
      have hF34 := cm_fr.trans hF23 hG32 (by intro i k h; (try simp only at h); (try simp only); omega)
      have hN35 := hN24.fr hG32 (by intro i k h; (try simp only at h); omega)
      have hz36 : E29 0 10 = ai_i z1 := (hG32 0 10 (by first | omega | (simp; done) | (simp; omega) | (simp only; omega))).trans hz25
      have ghz36 := gv_eq hz36
      have hz37 : E29 0 11 = ai_i 0 := (hG32 0 11 (by first | omega | (simp; done) | (simp; omega) | (simp only; omega))).trans hz26
      have ghz37 := gv_eq hz37
      have hz38 : E29 0 12 = ai_i ((-1)) := (hG32 0 12 (by first | omega | (simp; done) | (simp; omega) | (simp only; omega))).trans hz27
      have ghz38 := gv_eq hz38
      refine Or.inr (Or.inl ⟨rfl, ?_⟩)
      refine w_istore (i := 4) (npc := 56) (loc' := [cr 0, ai_i p, ai_i n, cr b9, ai_i z30, ai_un]) rfl rfl ?_
      refine w_iload (i := 4) (npc := 58) rfl rfl ?_
      refine w_if (c := .eq) (npc := 61) (pt := 78) rfl (fun hc39 => ?_) (fun hc39 => ?_)
      · replace hc39 : z30 = (0 : Int) := hc39
        refine w_aload (i := 0) (npc := 79) (v := cr 0) rfl rfl rfl ?_
        refine w_const (n := (-1)) (npc := 80) rfl ?_
        refine w_putf (i := 0) (ci := 7) (k := 13) (t := 0) (npc := 83) rfl (hI31.pl (by decide)) (hI31.T (by decide) rfl) (by decide) cm_fit0 ?_
        have hI41 := hI31.puti (i := 0) (k := 13) (z := (-1)) (lo := (-1)) (hi := 4) (by decide) rfl (by omega)
        have hF43 := cm_fr.up (i := 0) (k := 13) (v := ai_i ((-1))) hF34 (by first | omega | (simp; done) | (simp; omega) | (simp only; omega))
        have hN44 := hn.wr (i := 0) (k := 13) (v := ai_i ((-1))) hN35 (by omega)
        generalize hE42 : cm_up E29 0 13 (ai_i ((-1))) = E40 at hI41 hF43 hN44 ⊢
        have hz45 : E40 0 10 = ai_i z1 := by rw [← hE42, cm_up_ne _ _ (by decide)]; exact hz36
        have ghz45 := gv_eq hz45
        have hz46 : E40 0 11 = ai_i 0 := by rw [← hE42, cm_up_ne _ _ (by decide)]; exact hz37
        have ghz46 := gv_eq hz46
        have hz47 : E40 0 12 = ai_i ((-1)) := by rw [← hE42, cm_up_ne _ _ (by decide)]; exact hz38
        have ghz47 := gv_eq hz47
        have hz48 : E40 0 13 = ai_i ((-1)) := by rw [← hE42, cm_up_eq]
        have ghz48 := gv_eq hz48
        refine w_aload (i := 3) (npc := 84) (v := cr b9) rfl rfl rfl ?_
        have h105u49 := hI41.1
        refine w_new (ci := 4) (npc := 87) rfl (by omega) ?_
        obtain ⟨Tu49, hTu49⟩ : ∃ t : cm_T, t = (fun i => if i = nx then (0, 4) else T i) := ⟨_, rfl⟩
        rw [← hTu49]
        obtain ⟨Eu49, hEu49⟩ : ∃ t : cm_E, t = (fun i k => if i = nx then ai_nth ai_un (ai_fld 4) k else E40 i k) := ⟨_, rfl⟩
        rw [← hEu49]
        have hTou49 : ∀ i, i < nx → Tu49 i = T i := fun i hi => by rw [hTu49]; show (if i = nx then _ else _) = _; rw [if_neg (by omega)]
        have hTnu49 : Tu49 nx = (0, 4) := by rw [hTu49]; show (if nx = nx then _ else _) = _; rw [if_pos rfl]
        have hEou49 : ∀ i k, i < nx → Eu49 i k = E40 i k := fun i k hi => by rw [hEu49]; show (if i = nx then _ else _) = _; rw [if_neg (by omega)]
        have hIu49 := hI41.mv (nx' := nx + 1) (by omega) hTou49 hEou49
        have hfnu49 : cm_fn 4 = 1 := rfl
        have hz50 : Eu49 0 10 = ai_i z1 := (hEou49 _ _ (by omega)).trans hz45
        have ghz50 := gv_eq hz50
        have hz51 : Eu49 0 11 = ai_i 0 := (hEou49 _ _ (by omega)).trans hz46
        have ghz51 := gv_eq hz51
        have hz52 : Eu49 0 12 = ai_i ((-1)) := (hEou49 _ _ (by omega)).trans hz47
        have ghz52 := gv_eq hz52
        have hz53 : Eu49 0 13 = ai_i ((-1)) := (hEou49 _ _ (by omega)).trans hz48
        have ghz53 := gv_eq hz53
        refine w_dup (npc := 88) rfl rfl ?_
        refine w_aload (i := 0) (npc := 89) (v := cr 0) rfl rfl rfl ?_
        refine w_getf (i := 0) (ci := 7) (k := 4) (npc := 92) rfl (hIu49.pl (by decide)) (hIu49.T (by decide) rfl) (by decide) (hIu49.ref 0 4 (p := 5) (by decide) (by decide) rfl) ?_
        refine w_iload (i := 2) (npc := 93) rfl rfl ?_
        refine w_virt (ci := 4) (i := nx) (npc := 96) (a := [cr nx, cr 5, ai_i n]) (rest := [cr nx, cr b9]) rfl rfl (by omega) hTnu49 rfl rfl rfl rfl (ct_sp_init (sl := sl) (x := x) (d := d + 5) (n) (c := 5) (q := nx) (by omega) hIu49 (by omega) (by omega) hTnu49 (by omega)) (Or.inr (fun _ _ _ _ _ hq => by have h1 := hq.1; omega)) (fun k9 v9 Tv54 Ev54 nxv54 kcv54 ksv54 hqv54 hkv54 hvv54 => ?_)
        obtain ⟨rfl, hnv54, hTv54, hrv54, hev54, hk9v54⟩ := hqv54
        have hmv54 := st_new (c := 5) hI41 (by omega) (by omega) (by omega) hTu49 hTv54 hrv54 (fun i k hi => (hev54 i k (by omega) (by omega)).trans (hEou49 i k hi)) (fun k hk => (hk9v54 k hk).trans (hEou49 _ _ (by omega))) (by have e1 := gv_fr hF43 (i := 5) (k := 1) (by omega); have e2 := gv_fr hF43 (i := 5) (k := 2) (by omega); have e3 := gv_fr hF23 (i := 5) (k := 1) (by omega); have e4 := gv_fr hF23 (i := 5) (k := 2) (by omega); omega)
        have hEov54 : ∀ i k, i < nx → Ev54 i k = E40 i k := fun i k hi => (hev54 i k (by omega) (by omega)).trans (hEou49 i k hi)
        obtain ⟨hIv54, hsv54⟩ := hmv54
        have hFv54 : cm_fr (fun i k => (i < 81 ∧ ¬ (23 ≤ i ∧ i ≤ 40) ∧ i ≠ 5 ∧ ¬ (i = 0 ∧ (k = 10 ∨ k = 14))) ∨ 105 ≤ i) E Ev54 := fun i k hk => by
          (try simp only at hk)
          rw [hEov54 i k (by omega)]; exact hF43 i k hk
        have hNv54 : hn Ev54 := hN44.fr (P := fun i _ => nx ≤ i) (fun i k hk => hEov54 i k (by omega)) (by intro i k h; (try simp only at h); omega)
        have hz55 : Ev54 0 10 = ai_i z1 := (hEov54 _ _ (by omega)).trans hz45
        have ghz55 := gv_eq hz55
        have hz56 : Ev54 0 11 = ai_i 0 := (hEov54 _ _ (by omega)).trans hz46
        have ghz56 := gv_eq hz56
        have hz57 : Ev54 0 12 = ai_i ((-1)) := (hEov54 _ _ (by omega)).trans hz47
        have ghz57 := gv_eq hz57
        have hz58 : Ev54 0 13 = ai_i ((-1)) := (hEov54 _ _ (by omega)).trans hz48
        have ghz58 := gv_eq hz58
        refine Or.inl ⟨rfl, ?_⟩
        refine w_virt (ci := 3) (i := b9) (npc := 99) (a := [cr b9, cr nx]) (rest := []) rfl rfl (hIv54.pl (by omega)) (hIv54.pgT0 hb10) rfl rfl rfl rfl (ct_pg_receive (sl := sl) (x := x) (d := d + 1)  (b := b9) hb10 hsv54 hIv54 hNv54) (Or.inl rfl) (fun k9 v9 T60 E60 nx60 kc60 ks60 hq59 hk60 hv60 => ?_)
        obtain ⟨rfl, rfl, rfl, hI62, hG63, hN64, z61, rfl, hz61⟩ := hq59
        obtain rfl : kcv54 = kc60 := by omega
        obtain rfl : ksv54 = ks60 := by omega
        have hF65 := cm_fr.trans hFv54 hG63 (by intro i k h; (try simp only at h); (try simp only); omega)
        have hz66 : E60 0 10 = ai_i z1 := (hG63 0 10 (by first | omega | (simp; done) | (simp; omega) | (simp only; omega))).trans hz55
        have ghz66 := gv_eq hz66
        have hz67 : E60 0 11 = ai_i 0 := (hG63 0 11 (by first | omega | (simp; done) | (simp; omega) | (simp only; omega))).trans hz56
        have ghz67 := gv_eq hz67
        have hz68 : E60 0 12 = ai_i ((-1)) := (hG63 0 12 (by first | omega | (simp; done) | (simp; omega) | (simp only; omega))).trans hz57
        have ghz68 := gv_eq hz68
        have hz69 : E60 0 13 = ai_i ((-1)) := (hG63 0 13 (by first | omega | (simp; done) | (simp; omega) | (simp only; omega))).trans hz58
        have ghz69 := gv_eq hz69
        refine Or.inr (Or.inl ⟨rfl, ?_⟩)
        refine w_istore (i := 5) (npc := 101) (loc' := [cr 0, ai_i p, ai_i n, cr b9, ai_i z30, ai_i z61]) rfl rfl ?_
        refine w_iload (i := 5) (npc := 103) rfl rfl ?_
        refine w_const (n := 10) (npc := 105) rfl ?_
        refine w_icmp (c := .le) (npc := 108) (pt := 118) rfl (fun hc70 => ?_) (fun hc70 => ?_)
        · replace hc70 : z61 ≤ (10 : Int) := hc70
          refine w_iload (i := 5) (npc := 120) rfl rfl ?_
          exact w_iret rfl (Or.inr (Or.inr (⟨rfl, by omega, by omega, hI62, hF65, hN64, z61, rfl, by omega⟩))) (by omega) (by omega)
        · replace hc70 : ¬ (z61 ≤ (10 : Int)) := hc70
          refine w_aload (i := 0) (npc := 109) (v := cr 0) rfl rfl rfl ?_
          refine w_iload (i := 5) (npc := 111) rfl rfl ?_
          refine w_const (n := 0) (npc := 112) rfl ?_
          refine w_virt (ci := 7) (i := 0) (npc := 115) (a := [cr 0, ai_i z61, ai_i 0]) (rest := []) rfl rfl (hI62.pl (by decide)) (hI62.T (by decide) rfl) rfl rfl rfl rfl (ct_c_refuseHeard (sl := sl) (x := x) (d := d + 6) (z61) (0) hI62 (by omega)) (Or.inl rfl) (fun k9 v9 T72 E72 nx72 kc72 ks72 hq71 hk72 hv72 => ?_)
          obtain ⟨rfl, rfl, rfl, hI74, hG75, z73, rfl, hz73⟩ := hq71
          obtain rfl : kcv54 = kc72 := by omega
          obtain rfl : ksv54 = ks72 := by omega
          have hF77 := cm_fr.trans hF65 hG75 (by intro i k h; (try simp only at h); (try simp only); omega)
          have hN78 := hN64.fr hG75 (by intro i k h; (try simp only at h); omega)
          have hz79 : E72 0 10 = ai_i z1 := (hG75 0 10 (by first | omega | (simp; done) | (simp; omega) | (simp only; omega))).trans hz66
          have ghz79 := gv_eq hz79
          have hz80 : E72 0 11 = ai_i 0 := (hG75 0 11 (by first | omega | (simp; done) | (simp; omega) | (simp only; omega))).trans hz67
          have ghz80 := gv_eq hz80
          have hz81 : E72 0 13 = ai_i ((-1)) := (hG75 0 13 (by first | omega | (simp; done) | (simp; omega) | (simp only; omega))).trans hz69
          have ghz81 := gv_eq hz81
          refine Or.inr (Or.inl ⟨rfl, ?_⟩)
          refine w_goto (pt := 120) rfl ?_
          exact w_iret rfl (Or.inr (Or.inr (⟨rfl, by omega, by omega, hI74, hF77, hN78, z73, rfl, by omega⟩))) (by omega) (by omega)
      · replace hc39 : ¬ (z30 = (0 : Int)) := hc39
        refine w_aload (i := 0) (npc := 62) (v := cr 0) rfl rfl rfl ?_
        refine w_const (n := 10) (npc := 64) rfl ?_
        refine w_iload (i := 4) (npc := 66) rfl rfl ?_
        refine w_iadd (npc := 67) rfl (by omega) ?_
        refine w_aload (i := 0) (npc := 68) (v := cr 0) rfl rfl rfl ?_
        refine w_getf (i := 0) (ci := 7) (k := 8) (npc := 71) rfl (hI31.pl (by decide)) (hI31.T (by decide) rfl) (by decide) (hI31.ref 0 8 (p := 19) (by decide) (by decide) rfl) ?_
        obtain ⟨z83, hz83, hz83a, hz83b⟩ := hI31.int 19 7 (lo := 0) (hi := 400) (by decide) (by decide) rfl
        have ghz83 := gv_eq hz83
        refine w_getf (i := 19) (ci := 0) (k := 7) (npc := 74) rfl (hI31.pl (by decide)) (hI31.T (by decide) rfl) (by decide) hz83 ?_
        refine w_virt (ci := 7) (i := 0) (npc := 77) (a := [cr 0, ai_i (10 + z30), ai_i z83]) (rest := []) rfl rfl (hI31.pl (by decide)) (hI31.T (by decide) rfl) rfl rfl rfl rfl (ct_c_refuseHeard (sl := sl) (x := x) (d := d + 6) (10 + z30) (z83) hI31 (by omega)) (Or.inl rfl) (fun k9 v9 T85 E85 nx85 kc85 ks85 hq84 hk85 hv85 => ?_)
        obtain ⟨rfl, rfl, rfl, hI87, hG88, z86, rfl, hz86⟩ := hq84
        obtain rfl : kc4 = kc85 := by omega
        obtain rfl : ks4 = ks85 := by omega
        have hF90 := cm_fr.trans hF34 hG88 (by intro i k h; (try simp only at h); (try simp only); omega)
        have hN91 := hN35.fr hG88 (by intro i k h; (try simp only at h); omega)
        have hz92 : E85 0 10 = ai_i z1 := (hG88 0 10 (by first | omega | (simp; done) | (simp; omega) | (simp only; omega))).trans hz36
        have ghz92 := gv_eq hz92
        have hz93 : E85 0 11 = ai_i 0 := (hG88 0 11 (by first | omega | (simp; done) | (simp; omega) | (simp only; omega))).trans hz37
        have ghz93 := gv_eq hz93
        have hz94 : E85 19 7 = ai_i z83 := (hG88 19 7 (by first | omega | (simp; done) | (simp; omega) | (simp only; omega))).trans hz83
        have ghz94 := gv_eq hz94
        refine Or.inr (Or.inl ⟨rfl, ?_⟩)
        exact w_iret rfl (Or.inr (Or.inr (⟨rfl, by omega, by omega, hI87, hF90, hN91, z86, rfl, by omega⟩))) (by omega) (by omega)
    · replace hc12 : ¬ (n ≤ z2) := hc12
      exact w_throw (k := 3) rfl (Or.inr (Or.inl ⟨rfl, by omega, by omega, hI, hF, hN, by omega⟩)) (by omega) (by omega)
