set_option maxRecDepth 16384 in
theorem ct_c_writers {sl : Int × Int} {x : ai_E} {d : Nat} {T : cm_T} {E : cm_E} {nx : Nat} (n : Int)  (hI : cs_I T E nx) (hN : hn E) : cm_ct (ai_ev sl (d + 3)) x 43 [cr 0, ai_i n] T E nx 4 430 (fun rk rv T' E' nx' => (rk = 3 ∧ T = T' ∧ nx = nx' ∧ cs_I T E' nx ∧ cm_fr (fun i k => i < 81 ∧ ¬ (i = 0 ∧ (k = 11)) ∧ ¬ (i = 23 ∧ (k = 8 ∨ k = 9))) E E' ∧ hn E' ∧ (¬ (1 ≤ n ∧ n ≤ 5) ∧ gv E' 0 10 = gv E 0 10 ∧ gv E' 0 14 = gv E 0 14)) ∨ (rk = 0 ∧ T = T' ∧ nx = nx' ∧ cs_I T E' nx ∧ cm_fr (fun i k => i < 81 ∧ ¬ (i = 0 ∧ (k = 11)) ∧ ¬ (i = 23 ∧ (k = 8 ∨ k = 9))) E E' ∧ hn E' ∧ ((1 ≤ n ∧ n ≤ 5) ∧ gv E' 0 10 = n ∧ gv E' 0 14 = 0))) := by
  refine cm_body (M := ai_m43) rfl rfl (fun kc ks => ?_)
  show cm_wp (ai_find ai_c43 sl) (ai_ev sl (d + 2)) x (kc + 4) (ks + 430) _ 0 [cr 0, ai_i n, ai_un] [] T E nx kc ks
  have hF : cm_fr (fun i k => i < 81 ∧ ¬ (i = 0 ∧ (k = 11)) ∧ ¬ (i = 23 ∧ (k = 8 ∨ k = 9))) E E := fun _ _ _ => rfl
  refine w_iload (i := 1) (npc := 1) rfl rfl ?_
  refine w_const (n := 1) (npc := 2) rfl ?_
  refine w_icmp (c := .lt) (npc := 5) (pt := 10) rfl (fun hc1 => ?_) (fun hc1 => ?_)
  · replace hc1 : n < (1 : Int) := hc1
    exact w_throw (k := 3) rfl (Or.inl ⟨rfl, rfl, rfl, hI, hF, hN, by omega⟩) (by omega) (by omega)
  · replace hc1 : ¬ (n < (1 : Int)) := hc1
    refine w_iload (i := 1) (npc := 6) rfl rfl ?_
    refine w_const (n := 5) (npc := 7) rfl ?_
    refine w_icmp (c := .le) (npc := 10) (pt := 20) rfl (fun hc2 => ?_) (fun hc2 => ?_)
    · replace hc2 : n ≤ (5 : Int) := hc2
      refine w_aload (i := 0) (npc := 21) (v := cr 0) rfl rfl rfl ?_
      refine w_iload (i := 1) (npc := 22) rfl rfl ?_
      refine w_putf (i := 0) (ci := 7) (k := 10) (t := 0) (npc := 25) rfl (hI.pl (by decide)) (hI.T (by decide) rfl) (by decide) cm_fit0 ?_
      have hI4 := hI.puti (i := 0) (k := 10) (z := n) (lo := 1) (hi := 5) (by decide) rfl (by omega)
      have hF6 := cm_fr.up (i := 0) (k := 10) (v := ai_i n) hF (by first | omega | (simp; done) | (simp; omega) | (simp only; omega))
      have hN7 := hn.wr (i := 0) (k := 10) (v := ai_i n) hN (by omega)
      generalize hE5 : cm_up E 0 10 (ai_i n) = E3 at hI4 hF6 hN7 ⊢
      have hz8 : E3 0 10 = ai_i n := by rw [← hE5, cm_up_eq]
      have ghz8 := gv_eq hz8
      refine w_const (n := 0) (npc := 26) rfl ?_
      refine w_istore (i := 2) (npc := 27) (loc' := [cr 0, ai_i n, ai_i 0]) rfl rfl ?_
      have loop27 : ∀ (nf : Nat) (w : Int) (Eq27 : cm_E), ((5 - w).toNat) < nf → cs_I T Eq27 nx → cm_fr (fun i k => i < 81 ∧ ¬ (i = 0 ∧ (k = 11)) ∧ ¬ (i = 23 ∧ (k = 8 ∨ k = 9))) E Eq27 → hn Eq27 → (0 ≤ w ∧ w ≤ 5 ∧ gv Eq27 0 10 = n) → cm_wp (ai_find ai_c43 sl) (ai_ev sl (d + 2)) x (kc + 4) (ks + 430) (fun rk rv T' E' nx' => (rk = 3 ∧ T = T' ∧ nx = nx' ∧ cs_I T E' nx ∧ cm_fr (fun i k => i < 81 ∧ ¬ (i = 0 ∧ (k = 11)) ∧ ¬ (i = 23 ∧ (k = 8 ∨ k = 9))) E E' ∧ hn E' ∧ (¬ (1 ≤ n ∧ n ≤ 5) ∧ gv E' 0 10 = gv E 0 10 ∧ gv E' 0 14 = gv E 0 14)) ∨ (rk = 0 ∧ T = T' ∧ nx = nx' ∧ cs_I T E' nx ∧ cm_fr (fun i k => i < 81 ∧ ¬ (i = 0 ∧ (k = 11)) ∧ ¬ (i = 23 ∧ (k = 8 ∨ k = 9))) E E' ∧ hn E' ∧ ((1 ≤ n ∧ n ≤ 5) ∧ gv E' 0 10 = n ∧ gv E' 0 14 = 0))) 27 [cr 0, ai_i n, ai_i w] [] T Eq27 nx kc ks := by
        intro nf
        induction nf with
        | zero => intro w Eq27 hm; exact absurd hm (Nat.not_lt_zero _)
        | succ nf27 ih =>
          intro w Eq27 hm27 hI27 hF27 hN27 hv27
          obtain ⟨z9, hz9, hz9a, hz9b⟩ := hI27.int 0 10 (lo := 1) (hi := 5) (by decide) (by decide) rfl
          have ghz9 := gv_eq hz9
          have ih27 := ih; clear ih
          refine w_iload (i := 2) (npc := 28) rfl rfl ?_
          refine w_const (n := 5) (npc := 29) rfl ?_
          refine w_icmp (c := .ge) (npc := 32) (pt := 47) rfl (fun hc10 => ?_) (fun hc10 => ?_)
          · replace hc10 : (5 : Int) ≤ w := hc10
            refine w_aload (i := 0) (npc := 48) (v := cr 0) rfl rfl rfl ?_
            refine w_const (n := 0) (npc := 49) rfl ?_
            refine w_putf (i := 0) (ci := 7) (k := 14) (t := 1) (npc := 52) rfl (hI27.pl (by decide)) (hI27.T (by decide) rfl) (by decide) (cm_fit1 (by omega)) ?_
            have hI12 := hI27.puti (i := 0) (k := 14) (z := 0) (lo := 0) (hi := 1) (by decide) rfl (by omega)
            have hF14 := cm_fr.up (i := 0) (k := 14) (v := ai_i 0) hF27 (by first | omega | (simp; done) | (simp; omega) | (simp only; omega))
            have hN15 := hn.wr (i := 0) (k := 14) (v := ai_i 0) hN27 (by omega)
            generalize hE13 : cm_up Eq27 0 14 (ai_i 0) = E11 at hI12 hF14 hN15 ⊢
            have hz16 : E11 0 10 = ai_i z9 := by rw [← hE13, cm_up_ne _ _ (by decide)]; exact hz9
            have ghz16 := gv_eq hz16
            have hz17 : E11 0 14 = ai_i 0 := by rw [← hE13, cm_up_eq]
            have ghz17 := gv_eq hz17
            refine w_aload (i := 0) (npc := 53) (v := cr 0) rfl rfl rfl ?_
            refine w_const (n := (-1)) (npc := 54) rfl ?_
            refine w_putf (i := 0) (ci := 7) (k := 13) (t := 0) (npc := 57) rfl (hI12.pl (by decide)) (hI12.T (by decide) rfl) (by decide) cm_fit0 ?_
            have hI19 := hI12.puti (i := 0) (k := 13) (z := (-1)) (lo := (-1)) (hi := 4) (by decide) rfl (by omega)
            have hF21 := cm_fr.up (i := 0) (k := 13) (v := ai_i ((-1))) hF14 (by first | omega | (simp; done) | (simp; omega) | (simp only; omega))
            have hN22 := hn.wr (i := 0) (k := 13) (v := ai_i ((-1))) hN15 (by omega)
            generalize hE20 : cm_up E11 0 13 (ai_i ((-1))) = E18 at hI19 hF21 hN22 ⊢
            have hz23 : E18 0 10 = ai_i z9 := by rw [← hE20, cm_up_ne _ _ (by decide)]; exact hz16
            have ghz23 := gv_eq hz23
            have hz24 : E18 0 14 = ai_i 0 := by rw [← hE20, cm_up_ne _ _ (by decide)]; exact hz17
            have ghz24 := gv_eq hz24
            have hz25 : E18 0 13 = ai_i ((-1)) := by rw [← hE20, cm_up_eq]
            have ghz25 := gv_eq hz25
            exact w_vret rfl (Or.inr (⟨rfl, rfl, rfl, hI19, hF21, hN22, by omega⟩)) (by omega) (by omega)
          · replace hc10 : ¬ ((5 : Int) ≤ w) := hc10
            refine w_aload (i := 0) (npc := 33) (v := cr 0) rfl rfl rfl ?_
            refine w_getf (i := 0) (ci := 7) (k := 0) (npc := 36) rfl (hI27.pl (by decide)) (hI27.T (by decide) rfl) (by decide) (hI27.ref 0 0 (p := 1) (by decide) (by decide) rfl) ?_
            refine w_iload (i := 2) (npc := 37) rfl rfl ?_
            obtain ⟨b26, hb27e⟩ : ∃ b26 : Nat, b26 = 41 + 8 * (w : Int).toNat := ⟨_, rfl⟩
            have hb27 : 41 ≤ b26 ∧ b26 ≤ 77 ∧ b26 % 4 = 1 := by omega
            refine w_ald (i := 1) (t := 4) (n := 5) (npc := 38) rfl (hI27.pl (by decide)) (hI27.T (by decide) rfl) (by decide) rfl (by omega) (v := cr b26) (by rw [hb27e]; exact hI27.pages (by omega)) ?_
            refine w_virt (ci := 3) (i := b26) (npc := 41) (a := [cr b26]) (rest := []) rfl rfl (hI27.pl (by omega)) (hI27.pgT0 hb27) rfl rfl rfl rfl (ct_pg_empty (sl := sl) (x := x) (d := d + 0)  (b := b26) hb27 hI27 hN27) (Or.inl rfl) (fun k9 v9 T29 E29 nx29 kc29 ks29 hq28 hk29 hv29 => ?_)
            obtain ⟨rfl, rfl, rfl, hI31, hG32, hN33, hz30⟩ := hq28
            obtain rfl : kc = kc29 := by omega
            obtain rfl : ks = ks29 := by omega
            have hF34 := cm_fr.trans hF27 hG32 (by intro i k h; (try simp only at h); (try simp only); omega)
            have hz35 : E29 0 10 = ai_i z9 := (hG32 0 10 (by first | omega | (simp; done) | (simp; omega) | (simp only; omega))).trans hz9
            have ghz35 := gv_eq hz35
            refine Or.inl ⟨rfl, ?_⟩
            refine w_iinc (i := 2) (n := 1) (npc := 44) (loc' := [cr 0, ai_i n, ai_i (w + 1)]) rfl rfl (by omega) rfl ?_
            refine w_goto (pt := 27) rfl ?_
            exact ih27 (w + 1) E29 (by omega) hI31 hF34 hN33 (by omega)
      exact loop27 _ (0) E3 (Nat.lt_succ_self _) hI4 hF6 hN7 (by omega)
    · replace hc2 : ¬ (n ≤ (5 : Int)) := hc2
      exact w_throw (k := 3) rfl (Or.inl ⟨rfl, rfl, rfl, hI, hF, hN, by omega⟩) (by omega) (by omega)
set_option maxRecDepth 16384 in
theorem ct_c_count {sl : Int × Int} {x : ai_E} {d : Nat} {T : cm_T} {E : cm_E} {nx : Nat} (c : Int)  (hI : cs_I T E nx) (hN : hn E) : cm_ct (ai_ev sl (d + 1)) x 7 [cr 0, ai_i c] T E nx 4 430 (fun rk rv T' E' nx' => (rk = 2 ∧ T = T' ∧ nx = nx' ∧ cs_I T E' nx ∧ cm_fr (fun i k => i < 81 ∧ ¬ (i = 0 ∧ (k = 10 ∨ k = 11 ∨ k = 14)) ∧ ¬ (i = 23 ∧ (k = 8 ∨ k = 9))) E E' ∧ hn E' ∧ (True)) ∨ (rk = 1 ∧ T = T' ∧ nx = nx' ∧ cs_I T E' nx ∧ cm_fr (fun i k => i < 81 ∧ ¬ (i = 0 ∧ (k = 10 ∨ k = 11 ∨ k = 14)) ∧ ¬ (i = 23 ∧ (k = 8 ∨ k = 9))) E E' ∧ hn E' ∧ ∃ z : Int, rv = ai_i z ∧ (True))) := by
  refine cm_body (M := ai_m7) rfl rfl (fun kc ks => ?_)
  show cm_wp (ai_find ai_c7 sl) (ai_ev sl (d + 0)) x (kc + 4) (ks + 430) _ 0 [cr 0, ai_i c] [] T E nx kc ks
  have hF : cm_fr (fun i k => i < 81 ∧ ¬ (i = 0 ∧ (k = 10 ∨ k = 11 ∨ k = 14)) ∧ ¬ (i = 23 ∧ (k = 8 ∨ k = 9))) E E := fun _ _ _ => rfl
  refine w_iload (i := 1) (npc := 1) rfl rfl ?_
  rcases (show (c < 0 ∨ 6 < c) ∨ c = 0 + ((0 : Nat) : Int) ∨ c = 0 + ((1 : Nat) : Int) ∨ c = 0 + ((2 : Nat) : Int) ∨ c = 0 + ((3 : Nat) : Int) ∨ c = 0 + ((4 : Nat) : Int) ∨ c = 0 + ((5 : Nat) : Int) ∨ c = 0 + ((6 : Nat) : Int) by omega) with hs1 | hs1 | hs1 | hs1 | hs1 | hs1 | hs1 | hs1
  · refine w_swd rfl rfl hs1 ?_
    exact w_throw (k := 2) rfl (Or.inl ⟨rfl, rfl, rfl, hI, hF, hN, trivial⟩) (by omega) (by omega)
  · refine w_swc 0 (pt := 44) rfl rfl hs1 (by decide) rfl ?_
    refine w_aload (i := 0) (npc := 45) (v := cr 0) rfl rfl rfl ?_
    obtain ⟨z2, hz2, hz2a, hz2b⟩ := hI.int 0 10 (lo := 1) (hi := 5) (by decide) (by decide) rfl
    have ghz2 := gv_eq hz2
    refine w_getf (i := 0) (ci := 7) (k := 10) (npc := 48) rfl (hI.pl (by decide)) (hI.T (by decide) rfl) (by decide) hz2 ?_
    exact w_iret rfl (Or.inr (⟨rfl, rfl, rfl, hI, hF, hN, z2, rfl, trivial⟩)) (by omega) (by omega)
  · refine w_swc 1 (pt := 49) rfl rfl hs1 (by decide) rfl ?_
    refine w_aload (i := 0) (npc := 50) (v := cr 0) rfl rfl rfl ?_
    obtain ⟨z3, hz3, hz3a, hz3b⟩ := hI.int 0 11 (lo := 0) (hi := 400) (by decide) (by decide) rfl
    have ghz3 := gv_eq hz3
    refine w_getf (i := 0) (ci := 7) (k := 11) (npc := 53) rfl (hI.pl (by decide)) (hI.T (by decide) rfl) (by decide) hz3 ?_
    exact w_iret rfl (Or.inr (⟨rfl, rfl, rfl, hI, hF, hN, z3, rfl, trivial⟩)) (by omega) (by omega)
  · refine w_swc 2 (pt := 54) rfl rfl hs1 (by decide) rfl ?_
    refine w_aload (i := 0) (npc := 55) (v := cr 0) rfl rfl rfl ?_
    refine w_getf (i := 0) (ci := 7) (k := 2) (npc := 58) rfl (hI.pl (by decide)) (hI.T (by decide) rfl) (by decide) (hI.ref 0 2 (p := 3) (by decide) (by decide) rfl) ?_
    refine w_const (n := 0) (npc := 59) rfl ?_
    obtain ⟨z4, hz4, hz4a, hz4b⟩ := hI.int 3 (0 : Int).toNat (lo := (-2147483648)) (hi := 2147483647) (by decide) (show (0 : Int).toNat < 3 by omega) rfl
    have ghz4 := gv_eq hz4
    refine w_ald (i := 3) (t := 1) (n := 3) (npc := 60) rfl (hI.pl (by decide)) (hI.T (by decide) rfl) (by decide) rfl (by omega) hz4 ?_
    exact w_iret rfl (Or.inr (⟨rfl, rfl, rfl, hI, hF, hN, z4, rfl, trivial⟩)) (by omega) (by omega)
  · refine w_swc 3 (pt := 61) rfl rfl hs1 (by decide) rfl ?_
    refine w_aload (i := 0) (npc := 62) (v := cr 0) rfl rfl rfl ?_
    refine w_getf (i := 0) (ci := 7) (k := 2) (npc := 65) rfl (hI.pl (by decide)) (hI.T (by decide) rfl) (by decide) (hI.ref 0 2 (p := 3) (by decide) (by decide) rfl) ?_
    refine w_const (n := 1) (npc := 66) rfl ?_
    obtain ⟨z5, hz5, hz5a, hz5b⟩ := hI.int 3 (1 : Int).toNat (lo := (-2147483648)) (hi := 2147483647) (by decide) (show (1 : Int).toNat < 3 by omega) rfl
    have ghz5 := gv_eq hz5
    refine w_ald (i := 3) (t := 1) (n := 3) (npc := 67) rfl (hI.pl (by decide)) (hI.T (by decide) rfl) (by decide) rfl (by omega) hz5 ?_
    exact w_iret rfl (Or.inr (⟨rfl, rfl, rfl, hI, hF, hN, z5, rfl, trivial⟩)) (by omega) (by omega)
  · refine w_swc 4 (pt := 68) rfl rfl hs1 (by decide) rfl ?_
    refine w_aload (i := 0) (npc := 69) (v := cr 0) rfl rfl rfl ?_
    refine w_getf (i := 0) (ci := 7) (k := 2) (npc := 72) rfl (hI.pl (by decide)) (hI.T (by decide) rfl) (by decide) (hI.ref 0 2 (p := 3) (by decide) (by decide) rfl) ?_
    refine w_const (n := 2) (npc := 73) rfl ?_
    obtain ⟨z6, hz6, hz6a, hz6b⟩ := hI.int 3 (2 : Int).toNat (lo := (-2147483648)) (hi := 2147483647) (by decide) (show (2 : Int).toNat < 3 by omega) rfl
    have ghz6 := gv_eq hz6
    refine w_ald (i := 3) (t := 1) (n := 3) (npc := 74) rfl (hI.pl (by decide)) (hI.T (by decide) rfl) (by decide) rfl (by omega) hz6 ?_
    exact w_iret rfl (Or.inr (⟨rfl, rfl, rfl, hI, hF, hN, z6, rfl, trivial⟩)) (by omega) (by omega)
  · refine w_swc 5 (pt := 75) rfl rfl hs1 (by decide) rfl ?_
    refine w_aload (i := 0) (npc := 76) (v := cr 0) rfl rfl rfl ?_
    refine w_getf (i := 0) (ci := 7) (k := 9) (npc := 79) rfl (hI.pl (by decide)) (hI.T (by decide) rfl) (by decide) (hI.ref 0 9 (p := 23) (by decide) (by decide) rfl) ?_
    obtain ⟨z7, hz7, hz7a, hz7b⟩ := hI.int 23 9 (lo := 0) (hi := 8) (by decide) (by decide) rfl
    have ghz7 := gv_eq hz7
    refine w_getf (i := 23) (ci := 5) (k := 9) (npc := 82) rfl (hI.pl (by decide)) (hI.T (by decide) rfl) (by decide) hz7 ?_
    exact w_iret rfl (Or.inr (⟨rfl, rfl, rfl, hI, hF, hN, z7, rfl, trivial⟩)) (by omega) (by omega)
  · refine w_swc 6 (pt := 83) rfl rfl hs1 (by decide) rfl ?_
    refine w_aload (i := 0) (npc := 84) (v := cr 0) rfl rfl rfl ?_
    refine w_getf (i := 0) (ci := 7) (k := 9) (npc := 87) rfl (hI.pl (by decide)) (hI.T (by decide) rfl) (by decide) (hI.ref 0 9 (p := 23) (by decide) (by decide) rfl) ?_
    obtain ⟨z8, hz8, hz8a, hz8b⟩ := hI.int 23 8 (lo := 0) (hi := 12) (by decide) (by decide) rfl
    have ghz8 := gv_eq hz8
    refine w_getf (i := 23) (ci := 5) (k := 8) (npc := 90) rfl (hI.pl (by decide)) (hI.T (by decide) rfl) (by decide) hz8 ?_
    exact w_iret rfl (Or.inr (⟨rfl, rfl, rfl, hI, hF, hN, z8, rfl, trivial⟩)) (by omega) (by omega)
set_option maxRecDepth 16384 in
theorem ct_c_page {sl : Int × Int} {x : ai_E} {d : Nat} {T : cm_T} {E : cm_E} {nx : Nat} (p c : Int)  (hI : cs_I T E nx) (hN : hn E) (hp0 : -2147483648 ≤ c ∧ c ≤ 2147483647) : cm_ct (ai_ev sl (d + 8)) x 24 [cr 0, ai_i p, ai_i c] T E nx 4 430 (fun rk rv T' E' nx' => (rk = 2 ∧ T = T' ∧ nx = nx' ∧ cs_I T E' nx ∧ cm_fr (fun i k => i < 81 ∧ ¬ (i = 0 ∧ (k = 10 ∨ k = 11 ∨ k = 14)) ∧ ¬ (i = 23 ∧ (k = 8 ∨ k = 9))) E E' ∧ hn E' ∧ (True)) ∨ (rk = 1 ∧ T = T' ∧ nx = nx' ∧ cs_I T E' nx ∧ cm_fr (fun i k => i < 81 ∧ ¬ (i = 0 ∧ (k = 10 ∨ k = 11 ∨ k = 14)) ∧ ¬ (i = 23 ∧ (k = 8 ∨ k = 9))) E E' ∧ hn E' ∧ ∃ z : Int, rv = ai_i z ∧ (True))) := by
  refine cm_body (M := ai_m24) rfl rfl (fun kc ks => ?_)
  show cm_wp (ai_find ai_c24 sl) (ai_ev sl (d + 7)) x (kc + 4) (ks + 430) _ 0 [cr 0, ai_i p, ai_i c, ai_un] [] T E nx kc ks
  have hF : cm_fr (fun i k => i < 81 ∧ ¬ (i = 0 ∧ (k = 10 ∨ k = 11 ∨ k = 14)) ∧ ¬ (i = 23 ∧ (k = 8 ∨ k = 9))) E E := fun _ _ _ => rfl
  obtain ⟨z1, hz1, hz1a, hz1b⟩ := hI.int 0 10 (lo := 1) (hi := 5) (by decide) (by decide) rfl
  have ghz1 := gv_eq hz1
  refine w_aload (i := 0) (npc := 1) (v := cr 0) rfl rfl rfl ?_
  refine w_iload (i := 1) (npc := 2) rfl rfl ?_
  refine w_virt (ci := 7) (i := 0) (npc := 5) (a := [cr 0, ai_i p]) (rest := []) rfl rfl (hI.pl (by decide)) (hI.T (by decide) rfl) rfl rfl rfl rfl (ct_c_pageAt (sl := sl) (x := x) (d := d + 6) (p) hI) (Or.inl rfl) (fun k9 v9 T3 E3 nx3 kc3 ks3 hq2 hk3 hv3 => ?_)
  rcases hq2 with hq2 | hq2
  · obtain ⟨rfl, rfl, rfl, rfl, hz4⟩ := hq2
    exact Or.inr (Or.inr (Or.inl ⟨rfl, rfl, Or.inl ⟨rfl, rfl, rfl, hI, hF, hN, trivial⟩, by omega, by omega⟩))
  obtain ⟨rfl, rfl, rfl, rfl, b8, rfl, hz4⟩ := hq2
  have hb9 : 41 ≤ b8 ∧ b8 ≤ 77 ∧ b8 % 4 = 1 := by omega
  refine Or.inr (Or.inl ⟨rfl, ?_⟩)
  refine w_astore (i := 3) (npc := 6) (loc' := [cr 0, ai_i p, ai_i c, cr b8]) rfl rfl rfl ?_
  refine w_iload (i := 2) (npc := 7) rfl rfl ?_
  refine w_const (n := 10) (npc := 9) rfl ?_
  refine w_icmp (c := .lt) (npc := 12) (pt := 32) rfl (fun hc10 => ?_) (fun hc10 => ?_)
  · replace hc10 : c < (10 : Int) := hc10
    refine w_iload (i := 2) (npc := 33) rfl rfl ?_
    rcases (show (c < 0 ∨ 4 < c) ∨ c = 0 + ((0 : Nat) : Int) ∨ c = 0 + ((1 : Nat) : Int) ∨ c = 0 + ((2 : Nat) : Int) ∨ c = 0 + ((3 : Nat) : Int) ∨ c = 0 + ((4 : Nat) : Int) by omega) with hs11 | hs11 | hs11 | hs11 | hs11 | hs11
    · refine w_swd rfl rfl hs11 ?_
      exact w_throw (k := 2) rfl (Or.inl ⟨rfl, rfl, rfl, hI, hF, hN, trivial⟩) (by omega) (by omega)
    · refine w_swc 0 (pt := 68) rfl rfl hs11 (by decide) rfl ?_
      refine w_aload (i := 0) (npc := 69) (v := cr 0) rfl rfl rfl ?_
      refine w_iload (i := 1) (npc := 70) rfl rfl ?_
      refine w_virt (ci := 7) (i := 0) (npc := 73) (a := [cr 0, ai_i p]) (rest := []) rfl rfl (hI.pl (by decide)) (hI.T (by decide) rfl) rfl rfl rfl rfl (ct_c_viewOf (sl := sl) (x := x) (d := d + 0) (p) hI (by omega)) (Or.inl rfl) (fun k9 v9 T13 E13 nx13 kc13 ks13 hq12 hk13 hv13 => ?_)
      obtain ⟨rfl, rfl, rfl, hI15, hG16, rfl, hz14⟩ := hq12
      obtain rfl : kc3 = kc13 := by omega
      obtain rfl : ks3 = ks13 := by omega
      have hF18 := cm_fr.trans hF hG16 (by intro i k h; (try simp only at h); (try simp only); omega)
      have hN19 := hN.fr hG16 (by intro i k h; (try simp only at h); omega)
      have hz20 : E13 0 10 = ai_i z1 := (hG16 0 10 (by first | omega | (simp; done) | (simp; omega) | (simp only; omega))).trans hz1
      have ghz20 := gv_eq hz20
      refine Or.inr (Or.inl ⟨rfl, ?_⟩)
      obtain ⟨z21, hz21, hz21a, hz21b⟩ := hI15.int 6 7 (lo := 0) (hi := 300) (by decide) (by decide) rfl
      have ghz21 := gv_eq hz21
      refine w_getf (i := 6) (ci := 6) (k := 7) (npc := 76) rfl (hI15.pl (by decide)) (hI15.T (by decide) rfl) (by decide) hz21 ?_
      exact w_iret rfl (Or.inr (⟨rfl, rfl, rfl, hI15, hF18, hN19, z21, rfl, trivial⟩)) (by omega) (by omega)
    · refine w_swc 1 (pt := 77) rfl rfl hs11 (by decide) rfl ?_
      refine w_aload (i := 0) (npc := 78) (v := cr 0) rfl rfl rfl ?_
      refine w_iload (i := 1) (npc := 79) rfl rfl ?_
      refine w_virt (ci := 7) (i := 0) (npc := 82) (a := [cr 0, ai_i p]) (rest := []) rfl rfl (hI.pl (by decide)) (hI.T (by decide) rfl) rfl rfl rfl rfl (ct_c_viewOf (sl := sl) (x := x) (d := d + 0) (p) hI (by omega)) (Or.inl rfl) (fun k9 v9 T23 E23 nx23 kc23 ks23 hq22 hk23 hv23 => ?_)
      obtain ⟨rfl, rfl, rfl, hI25, hG26, rfl, hz24⟩ := hq22
      obtain rfl : kc3 = kc23 := by omega
      obtain rfl : ks3 = ks23 := by omega
      have hF28 := cm_fr.trans hF hG26 (by intro i k h; (try simp only at h); (try simp only); omega)
      have hN29 := hN.fr hG26 (by intro i k h; (try simp only at h); omega)
      have hz30 : E23 0 10 = ai_i z1 := (hG26 0 10 (by first | omega | (simp; done) | (simp; omega) | (simp only; omega))).trans hz1
      have ghz30 := gv_eq hz30
      refine Or.inr (Or.inl ⟨rfl, ?_⟩)
      obtain ⟨z31, hz31, hz31a, hz31b⟩ := hI25.int 6 8 (lo := 0) (hi := 300) (by decide) (by decide) rfl
      have ghz31 := gv_eq hz31
      refine w_getf (i := 6) (ci := 6) (k := 8) (npc := 85) rfl (hI25.pl (by decide)) (hI25.T (by decide) rfl) (by decide) hz31 ?_
      exact w_iret rfl (Or.inr (⟨rfl, rfl, rfl, hI25, hF28, hN29, z31, rfl, trivial⟩)) (by omega) (by omega)
    · refine w_swc 2 (pt := 86) rfl rfl hs11 (by decide) rfl ?_
      refine w_aload (i := 3) (npc := 87) (v := cr b8) rfl rfl rfl ?_
      obtain ⟨z32, hz32, hz32a, hz32b⟩ := hI.pg4 hb9
      have ghz32 := gv_eq hz32
      refine w_getf (i := b8) (ci := 3) (k := 4) (npc := 90) rfl (hI.pl (by omega)) (hI.pgT0 hb9) (by decide) hz32 ?_
      exact w_iret rfl (Or.inr (⟨rfl, rfl, rfl, hI, hF, hN, z32, rfl, trivial⟩)) (by omega) (by omega)
    · refine w_swc 3 (pt := 91) rfl rfl hs11 (by decide) rfl ?_
      refine w_aload (i := 0) (npc := 92) (v := cr 0) rfl rfl rfl ?_
      refine w_iload (i := 1) (npc := 93) rfl rfl ?_
      refine w_virt (ci := 7) (i := 0) (npc := 96) (a := [cr 0, ai_i p]) (rest := []) rfl rfl (hI.pl (by decide)) (hI.T (by decide) rfl) rfl rfl rfl rfl (ct_c_viewOf (sl := sl) (x := x) (d := d + 0) (p) hI (by omega)) (Or.inl rfl) (fun k9 v9 T34 E34 nx34 kc34 ks34 hq33 hk34 hv34 => ?_)
      obtain ⟨rfl, rfl, rfl, hI36, hG37, rfl, hz35⟩ := hq33
      obtain rfl : kc3 = kc34 := by omega
      obtain rfl : ks3 = ks34 := by omega
      have hF39 := cm_fr.trans hF hG37 (by intro i k h; (try simp only at h); (try simp only); omega)
      have hN40 := hN.fr hG37 (by intro i k h; (try simp only at h); omega)
      have hz41 : E34 0 10 = ai_i z1 := (hG37 0 10 (by first | omega | (simp; done) | (simp; omega) | (simp only; omega))).trans hz1
      have ghz41 := gv_eq hz41
      refine Or.inr (Or.inl ⟨rfl, ?_⟩)
      refine w_aload (i := 3) (npc := 97) (v := cr b8) rfl rfl rfl ?_
      refine w_aload (i := 0) (npc := 98) (v := cr 0) rfl rfl rfl ?_
      refine w_getf (i := 0) (ci := 7) (k := 10) (npc := 101) rfl (hI36.pl (by decide)) (hI36.T (by decide) rfl) (by decide) hz41 ?_
      refine w_virt (ci := 6) (i := 6) (npc := 104) (a := [cr 6, cr b8, ai_i z1]) (rest := []) rfl rfl (hI36.pl (by decide)) (hI36.T (by decide) rfl) rfl rfl rfl rfl (ct_vw_countGone (sl := sl) (x := x) (d := d + 1) (z1) (b := b8) hb9 hI36 (by omega)) (Or.inl rfl) (fun k9 v9 T43 E43 nx43 kc43 ks43 hq42 hk43 hv43 => ?_)
      obtain ⟨rfl, rfl, rfl, hI45, hG46, z44, rfl, hz44⟩ := hq42
      obtain rfl : kc3 = kc43 := by omega
      obtain rfl : ks3 = ks43 := by omega
      have hF48 := cm_fr.trans hF39 hG46 (by intro i k h; (try simp only at h); (try simp only); omega)
      have hN49 := hN40.fr hG46 (by intro i k h; (try simp only at h); omega)
      have hz50 : E43 0 10 = ai_i z1 := (hG46 0 10 (by first | omega | (simp; done) | (simp; omega) | (simp only; omega))).trans hz41
      have ghz50 := gv_eq hz50
      refine Or.inr (Or.inl ⟨rfl, ?_⟩)
      exact w_iret rfl (Or.inr (⟨rfl, rfl, rfl, hI45, hF48, hN49, z44, rfl, trivial⟩)) (by omega) (by omega)
    · refine w_swc 4 (pt := 105) rfl rfl hs11 (by decide) rfl ?_
      refine w_aload (i := 3) (npc := 106) (v := cr b8) rfl rfl rfl ?_
      obtain ⟨z51, hz51, hz51a, hz51b⟩ := hI.pg5 hb9
      have ghz51 := gv_eq hz51
      refine w_getf (i := b8) (ci := 3) (k := 5) (npc := 109) rfl (hI.pl (by omega)) (hI.pgT0 hb9) (by decide) hz51 ?_
      exact w_iret rfl (Or.inr (⟨rfl, rfl, rfl, hI, hF, hN, z51, rfl, trivial⟩)) (by omega) (by omega)
  · replace hc10 : ¬ (c < (10 : Int)) := hc10
    refine w_iload (i := 2) (npc := 13) rfl rfl ?_
    refine w_const (n := 10) (npc := 15) rfl ?_
    refine w_isub (npc := 16) rfl (by omega) ?_
    refine w_aload (i := 0) (npc := 17) (v := cr 0) rfl rfl rfl ?_
    refine w_getf (i := 0) (ci := 7) (k := 10) (npc := 20) rfl (hI.pl (by decide)) (hI.T (by decide) rfl) (by decide) hz1 ?_
    refine w_icmp (c := .ge) (npc := 23) (pt := 32) rfl (fun hc53 => ?_) (fun hc53 => ?_)
    · replace hc53 : z1 ≤ c - 10 := hc53
      refine w_iload (i := 2) (npc := 33) rfl rfl ?_
      rcases (show (c < 0 ∨ 4 < c) ∨ c = 0 + ((0 : Nat) : Int) ∨ c = 0 + ((1 : Nat) : Int) ∨ c = 0 + ((2 : Nat) : Int) ∨ c = 0 + ((3 : Nat) : Int) ∨ c = 0 + ((4 : Nat) : Int) by omega) with hs54 | hs54 | hs54 | hs54 | hs54 | hs54
      · refine w_swd rfl rfl hs54 ?_
        exact w_throw (k := 2) rfl (Or.inl ⟨rfl, rfl, rfl, hI, hF, hN, trivial⟩) (by omega) (by omega)
      · refine w_swc 0 (pt := 68) rfl rfl hs54 (by decide) rfl ?_
        refine w_aload (i := 0) (npc := 69) (v := cr 0) rfl rfl rfl ?_
        refine w_iload (i := 1) (npc := 70) rfl rfl ?_
        refine w_virt (ci := 7) (i := 0) (npc := 73) (a := [cr 0, ai_i p]) (rest := []) rfl rfl (hI.pl (by decide)) (hI.T (by decide) rfl) rfl rfl rfl rfl (ct_c_viewOf (sl := sl) (x := x) (d := d + 0) (p) hI (by omega)) (Or.inl rfl) (fun k9 v9 T56 E56 nx56 kc56 ks56 hq55 hk56 hv56 => ?_)
        obtain ⟨rfl, rfl, rfl, hI58, hG59, rfl, hz57⟩ := hq55
        obtain rfl : kc3 = kc56 := by omega
        obtain rfl : ks3 = ks56 := by omega
        have hF61 := cm_fr.trans hF hG59 (by intro i k h; (try simp only at h); (try simp only); omega)
        have hN62 := hN.fr hG59 (by intro i k h; (try simp only at h); omega)
        have hz63 : E56 0 10 = ai_i z1 := (hG59 0 10 (by first | omega | (simp; done) | (simp; omega) | (simp only; omega))).trans hz1
        have ghz63 := gv_eq hz63
        refine Or.inr (Or.inl ⟨rfl, ?_⟩)
        obtain ⟨z64, hz64, hz64a, hz64b⟩ := hI58.int 6 7 (lo := 0) (hi := 300) (by decide) (by decide) rfl
        have ghz64 := gv_eq hz64
        refine w_getf (i := 6) (ci := 6) (k := 7) (npc := 76) rfl (hI58.pl (by decide)) (hI58.T (by decide) rfl) (by decide) hz64 ?_
        exact w_iret rfl (Or.inr (⟨rfl, rfl, rfl, hI58, hF61, hN62, z64, rfl, trivial⟩)) (by omega) (by omega)
      · refine w_swc 1 (pt := 77) rfl rfl hs54 (by decide) rfl ?_
        refine w_aload (i := 0) (npc := 78) (v := cr 0) rfl rfl rfl ?_
        refine w_iload (i := 1) (npc := 79) rfl rfl ?_
        refine w_virt (ci := 7) (i := 0) (npc := 82) (a := [cr 0, ai_i p]) (rest := []) rfl rfl (hI.pl (by decide)) (hI.T (by decide) rfl) rfl rfl rfl rfl (ct_c_viewOf (sl := sl) (x := x) (d := d + 0) (p) hI (by omega)) (Or.inl rfl) (fun k9 v9 T66 E66 nx66 kc66 ks66 hq65 hk66 hv66 => ?_)
        obtain ⟨rfl, rfl, rfl, hI68, hG69, rfl, hz67⟩ := hq65
        obtain rfl : kc3 = kc66 := by omega
        obtain rfl : ks3 = ks66 := by omega
        have hF71 := cm_fr.trans hF hG69 (by intro i k h; (try simp only at h); (try simp only); omega)
        have hN72 := hN.fr hG69 (by intro i k h; (try simp only at h); omega)
        have hz73 : E66 0 10 = ai_i z1 := (hG69 0 10 (by first | omega | (simp; done) | (simp; omega) | (simp only; omega))).trans hz1
        have ghz73 := gv_eq hz73
        refine Or.inr (Or.inl ⟨rfl, ?_⟩)
        obtain ⟨z74, hz74, hz74a, hz74b⟩ := hI68.int 6 8 (lo := 0) (hi := 300) (by decide) (by decide) rfl
        have ghz74 := gv_eq hz74
        refine w_getf (i := 6) (ci := 6) (k := 8) (npc := 85) rfl (hI68.pl (by decide)) (hI68.T (by decide) rfl) (by decide) hz74 ?_
        exact w_iret rfl (Or.inr (⟨rfl, rfl, rfl, hI68, hF71, hN72, z74, rfl, trivial⟩)) (by omega) (by omega)
      · refine w_swc 2 (pt := 86) rfl rfl hs54 (by decide) rfl ?_
        refine w_aload (i := 3) (npc := 87) (v := cr b8) rfl rfl rfl ?_
        obtain ⟨z75, hz75, hz75a, hz75b⟩ := hI.pg4 hb9
        have ghz75 := gv_eq hz75
        refine w_getf (i := b8) (ci := 3) (k := 4) (npc := 90) rfl (hI.pl (by omega)) (hI.pgT0 hb9) (by decide) hz75 ?_
        exact w_iret rfl (Or.inr (⟨rfl, rfl, rfl, hI, hF, hN, z75, rfl, trivial⟩)) (by omega) (by omega)
      · refine w_swc 3 (pt := 91) rfl rfl hs54 (by decide) rfl ?_
        refine w_aload (i := 0) (npc := 92) (v := cr 0) rfl rfl rfl ?_
        refine w_iload (i := 1) (npc := 93) rfl rfl ?_
        refine w_virt (ci := 7) (i := 0) (npc := 96) (a := [cr 0, ai_i p]) (rest := []) rfl rfl (hI.pl (by decide)) (hI.T (by decide) rfl) rfl rfl rfl rfl (ct_c_viewOf (sl := sl) (x := x) (d := d + 0) (p) hI (by omega)) (Or.inl rfl) (fun k9 v9 T77 E77 nx77 kc77 ks77 hq76 hk77 hv77 => ?_)
        obtain ⟨rfl, rfl, rfl, hI79, hG80, rfl, hz78⟩ := hq76
        obtain rfl : kc3 = kc77 := by omega
        obtain rfl : ks3 = ks77 := by omega
        have hF82 := cm_fr.trans hF hG80 (by intro i k h; (try simp only at h); (try simp only); omega)
        have hN83 := hN.fr hG80 (by intro i k h; (try simp only at h); omega)
        have hz84 : E77 0 10 = ai_i z1 := (hG80 0 10 (by first | omega | (simp; done) | (simp; omega) | (simp only; omega))).trans hz1
        have ghz84 := gv_eq hz84
        refine Or.inr (Or.inl ⟨rfl, ?_⟩)
        refine w_aload (i := 3) (npc := 97) (v := cr b8) rfl rfl rfl ?_
        refine w_aload (i := 0) (npc := 98) (v := cr 0) rfl rfl rfl ?_
        refine w_getf (i := 0) (ci := 7) (k := 10) (npc := 101) rfl (hI79.pl (by decide)) (hI79.T (by decide) rfl) (by decide) hz84 ?_
        refine w_virt (ci := 6) (i := 6) (npc := 104) (a := [cr 6, cr b8, ai_i z1]) (rest := []) rfl rfl (hI79.pl (by decide)) (hI79.T (by decide) rfl) rfl rfl rfl rfl (ct_vw_countGone (sl := sl) (x := x) (d := d + 1) (z1) (b := b8) hb9 hI79 (by omega)) (Or.inl rfl) (fun k9 v9 T86 E86 nx86 kc86 ks86 hq85 hk86 hv86 => ?_)
        obtain ⟨rfl, rfl, rfl, hI88, hG89, z87, rfl, hz87⟩ := hq85
        obtain rfl : kc3 = kc86 := by omega
        obtain rfl : ks3 = ks86 := by omega
        have hF91 := cm_fr.trans hF82 hG89 (by intro i k h; (try simp only at h); (try simp only); omega)
        have hN92 := hN83.fr hG89 (by intro i k h; (try simp only at h); omega)
        have hz93 : E86 0 10 = ai_i z1 := (hG89 0 10 (by first | omega | (simp; done) | (simp; omega) | (simp only; omega))).trans hz84
        have ghz93 := gv_eq hz93
        refine Or.inr (Or.inl ⟨rfl, ?_⟩)
        exact w_iret rfl (Or.inr (⟨rfl, rfl, rfl, hI88, hF91, hN92, z87, rfl, trivial⟩)) (by omega) (by omega)
      · refine w_swc 4 (pt := 105) rfl rfl hs54 (by decide) rfl ?_
        refine w_aload (i := 3) (npc := 106) (v := cr b8) rfl rfl rfl ?_
        obtain ⟨z94, hz94, hz94a, hz94b⟩ := hI.pg5 hb9
        have ghz94 := gv_eq hz94
        refine w_getf (i := b8) (ci := 3) (k := 5) (npc := 109) rfl (hI.pl (by omega)) (hI.pgT0 hb9) (by decide) hz94 ?_
        exact w_iret rfl (Or.inr (⟨rfl, rfl, rfl, hI, hF, hN, z94, rfl, trivial⟩)) (by omega) (by omega)
    · replace hc53 : ¬ (z1 ≤ c - 10) := hc53
      refine w_aload (i := 3) (npc := 24) (v := cr b8) rfl rfl rfl ?_
      refine w_iload (i := 2) (npc := 25) rfl rfl ?_
      refine w_const (n := 10) (npc := 27) rfl ?_
      refine w_isub (npc := 28) rfl (by omega) ?_
      refine w_virt (ci := 3) (i := b8) (npc := 31) (a := [cr b8, ai_i (c - 10)]) (rest := []) rfl rfl (hI.pl (by omega)) (hI.pgT0 hb9) rfl rfl rfl rfl (ct_pg_stepsOf (sl := sl) (x := x) (d := d + 6) (c - 10) (b := b8) hb9 hI) (Or.inl rfl) (fun k9 v9 T97 E97 nx97 kc97 ks97 hq96 hk97 hv97 => ?_)
      obtain ⟨rfl, rfl, rfl, rfl, z98, rfl, hz98⟩ := hq96
      obtain rfl : kc3 = kc97 := by omega
      obtain rfl : ks3 = ks97 := by omega
      refine Or.inr (Or.inl ⟨rfl, ?_⟩)
      exact w_iret rfl (Or.inr (⟨rfl, rfl, rfl, hI, hF, hN, z98, rfl, trivial⟩)) (by omega) (by omega)
set_option maxRecDepth 16384 in
theorem ct_c_text {sl : Int × Int} {x : ai_E} {d : Nat} {T : cm_T} {E : cm_E} {nx : Nat} (p l c : Int)  (hI : cs_I T E nx) (hN : hn E) (hp0 : -2147483648 ≤ c ∧ c ≤ 2147483647) : cm_ct (ai_ev sl (d + 8)) x 39 [cr 0, ai_i p, ai_i l, ai_i c] T E nx 4 430 (fun rk rv T' E' nx' => (rk = 2 ∧ T = T' ∧ nx = nx' ∧ cs_I T E' nx ∧ cm_fr (fun i k => i < 81 ∧ ¬ (i = 0 ∧ (k = 10 ∨ k = 11 ∨ k = 14)) ∧ ¬ (i = 23 ∧ (k = 8 ∨ k = 9))) E E' ∧ hn E' ∧ (True)) ∨ (rk = 1 ∧ T = T' ∧ nx = nx' ∧ cs_I T E' nx ∧ cm_fr (fun i k => i < 81 ∧ ¬ (i = 0 ∧ (k = 10 ∨ k = 11 ∨ k = 14)) ∧ ¬ (i = 23 ∧ (k = 8 ∨ k = 9))) E E' ∧ hn E' ∧ ∃ z : Int, rv = ai_i z ∧ (True))) := by
  refine cm_body (M := ai_m39) rfl rfl (fun kc ks => ?_)
  show cm_wp (ai_find ai_c39 sl) (ai_ev sl (d + 7)) x (kc + 4) (ks + 430) _ 0 [cr 0, ai_i p, ai_i l, ai_i c, ai_un, ai_un, ai_un] [] T E nx kc ks
  have hF : cm_fr (fun i k => i < 81 ∧ ¬ (i = 0 ∧ (k = 10 ∨ k = 11 ∨ k = 14)) ∧ ¬ (i = 23 ∧ (k = 8 ∨ k = 9))) E E := fun _ _ _ => rfl
  obtain ⟨z1, hz1, hz1a, hz1b⟩ := hI.int 0 10 (lo := 1) (hi := 5) (by decide) (by decide) rfl
  have ghz1 := gv_eq hz1
  refine w_aload (i := 0) (npc := 1) (v := cr 0) rfl rfl rfl ?_
  refine w_iload (i := 1) (npc := 2) rfl rfl ?_
  refine w_virt (ci := 7) (i := 0) (npc := 5) (a := [cr 0, ai_i p]) (rest := []) rfl rfl (hI.pl (by decide)) (hI.T (by decide) rfl) rfl rfl rfl rfl (ct_c_pageAt (sl := sl) (x := x) (d := d + 6) (p) hI) (Or.inl rfl) (fun k9 v9 T3 E3 nx3 kc3 ks3 hq2 hk3 hv3 => ?_)
  rcases hq2 with hq2 | hq2
  · obtain ⟨rfl, rfl, rfl, rfl, hz4⟩ := hq2
    exact Or.inr (Or.inr (Or.inl ⟨rfl, rfl, Or.inl ⟨rfl, rfl, rfl, hI, hF, hN, trivial⟩, by omega, by omega⟩))
  obtain ⟨rfl, rfl, rfl, rfl, b8, rfl, hz4⟩ := hq2
  have hb9 : 41 ≤ b8 ∧ b8 ≤ 77 ∧ b8 % 4 = 1 := by omega
  refine Or.inr (Or.inl ⟨rfl, ?_⟩)
  refine w_astore (i := 4) (npc := 7) (loc' := [cr 0, ai_i p, ai_i l, ai_i c, cr b8, ai_un, ai_un]) rfl rfl rfl ?_
  refine w_aload (i := 0) (npc := 8) (v := cr 0) rfl rfl rfl ?_
  refine w_iload (i := 1) (npc := 9) rfl rfl ?_
  refine w_virt (ci := 7) (i := 0) (npc := 12) (a := [cr 0, ai_i p]) (rest := []) rfl rfl (hI.pl (by decide)) (hI.T (by decide) rfl) rfl rfl rfl rfl (ct_c_viewOf (sl := sl) (x := x) (d := d + 0) (p) hI (by omega)) (Or.inl rfl) (fun k9 v9 T11 E11 nx11 kc11 ks11 hq10 hk11 hv11 => ?_)
  obtain ⟨rfl, rfl, rfl, hI13, hG14, rfl, hz12⟩ := hq10
  obtain rfl : kc3 = kc11 := by omega
  obtain rfl : ks3 = ks11 := by omega
  have hF16 := cm_fr.trans hF hG14 (by intro i k h; (try simp only at h); (try simp only); omega)
  have hN17 := hN.fr hG14 (by intro i k h; (try simp only at h); omega)
  have hz18 : E11 0 10 = ai_i z1 := (hG14 0 10 (by first | omega | (simp; done) | (simp; omega) | (simp only; omega))).trans hz1
  have ghz18 := gv_eq hz18
  refine Or.inr (Or.inl ⟨rfl, ?_⟩)
  refine w_astore (i := 5) (npc := 14) (loc' := [cr 0, ai_i p, ai_i l, ai_i c, cr b8, cr 6, ai_un]) rfl rfl rfl ?_
  refine w_aload (i := 5) (npc := 16) (v := cr 6) rfl rfl rfl ?_
  refine w_iload (i := 2) (npc := 17) rfl rfl ?_
  refine w_virt (ci := 6) (i := 6) (npc := 20) (a := [cr 6, ai_i l]) (rest := []) rfl rfl (hI13.pl (by decide)) (hI13.T (by decide) rfl) rfl rfl rfl rfl (ct_vw_slotAt (sl := sl) (x := x) (d := d + 6) (l) hI13) (Or.inl rfl) (fun k9 v9 T20 E20 nx20 kc20 ks20 hq19 hk20 hv20 => ?_)
  obtain ⟨rfl, rfl, rfl, rfl, z21, rfl, hz21⟩ := hq19
  obtain rfl : kc3 = kc20 := by omega
  obtain rfl : ks3 = ks20 := by omega
  refine Or.inr (Or.inl ⟨rfl, ?_⟩)
  refine w_istore (i := 6) (npc := 22) (loc' := [cr 0, ai_i p, ai_i l, ai_i c, cr b8, cr 6, ai_i z21]) rfl rfl ?_
  refine w_iload (i := 6) (npc := 24) rfl rfl ?_
  refine w_const (n := (-1)) (npc := 25) rfl ?_
  refine w_icmp (c := .ne) (npc := 28) (pt := 38) rfl (fun hc25 => ?_) (fun hc25 => ?_)
  · replace hc25 : z21 ≠ ((-1) : Int) := hc25
    refine w_iload (i := 3) (npc := 39) rfl rfl ?_
    rcases (show (c < 0 ∨ 2 < c) ∨ c = 0 + ((0 : Nat) : Int) ∨ c = 0 + ((1 : Nat) : Int) ∨ c = 0 + ((2 : Nat) : Int) by omega) with hs26 | hs26 | hs26 | hs26
    · refine w_swd rfl rfl hs26 ?_
      refine w_aload (i := 0) (npc := 87) (v := cr 0) rfl rfl rfl ?_
      refine w_aload (i := 5) (npc := 89) (v := cr 6) rfl rfl rfl ?_
      refine w_iload (i := 6) (npc := 91) rfl rfl ?_
      refine w_iload (i := 3) (npc := 92) rfl rfl ?_
      refine w_virt (ci := 7) (i := 0) (npc := 95) (a := [cr 0, cr 6, ai_i z21, ai_i c]) (rest := []) rfl rfl (hI13.pl (by decide)) (hI13.T (by decide) rfl) rfl rfl rfl rfl (ct_c_keyNumber (sl := sl) (x := x) (d := d + 4) (z21) (c) hI13 (by omega) (by omega)) (Or.inl rfl) (fun k9 v9 T28 E28 nx28 kc28 ks28 hq27 hk28 hv28 => ?_)
      rcases hq27 with hq27 | hq27
      · obtain ⟨rfl, rfl, rfl, rfl, hz29⟩ := hq27
        exact Or.inr (Or.inr (Or.inl ⟨rfl, rfl, Or.inl ⟨rfl, rfl, rfl, hI13, hF16, hN17, trivial⟩, by omega, by omega⟩))
      obtain ⟨rfl, rfl, rfl, rfl, z29, rfl, hz29⟩ := hq27
      refine Or.inr (Or.inl ⟨rfl, ?_⟩)
      exact w_iret rfl (Or.inr (⟨rfl, rfl, rfl, hI13, hF16, hN17, z29, rfl, trivial⟩)) (by omega) (by omega)
    · refine w_swc 0 (pt := 64) rfl rfl hs26 (by decide) rfl ?_
      refine w_aload (i := 4) (npc := 66) (v := cr b8) rfl rfl rfl ?_
      refine w_iload (i := 6) (npc := 68) rfl rfl ?_
      refine w_call (npc := 71) (a := [cr b8, ai_i z21]) (rest := []) rfl rfl rfl rfl rfl (ct_c_signOf (sl := sl) (x := x) (d := d + 5) (z21) (b := b8) hb9 hI13 (by omega)) (Or.inr (fun _ _ _ _ _ hq => by have h1 := hq.1; omega)) (fun k9 v9 T34 E34 nx34 kc34 ks34 hq33 hk34 hv34 => ?_)
      obtain ⟨rfl, rfl, rfl, rfl, z35, rfl, hz35⟩ := hq33
      obtain rfl : kc3 = kc34 := by omega
      obtain rfl : ks3 = ks34 := by omega
      refine Or.inr (Or.inl ⟨rfl, ?_⟩)
      exact w_iret rfl (Or.inr (⟨rfl, rfl, rfl, hI13, hF16, hN17, z35, rfl, trivial⟩)) (by omega) (by omega)
    · refine w_swc 1 (pt := 72) rfl rfl hs26 (by decide) rfl ?_
      refine w_iload (i := 6) (npc := 74) rfl rfl ?_
      refine w_call (npc := 77) (a := [ai_i z21]) (rest := []) rfl rfl rfl rfl rfl (ct_c_markOf (sl := sl) (x := x) (d := d + 6) (z21) (by omega)) (Or.inr (fun _ _ _ _ _ hq => by have h1 := hq.1; omega)) (fun k9 v9 T40 E40 nx40 kc40 ks40 hq39 hk40 hv40 => ?_)
      obtain ⟨rfl, rfl, rfl, rfl, z41, rfl, hz41⟩ := hq39
      obtain rfl : kc3 = kc40 := by omega
      obtain rfl : ks3 = ks40 := by omega
      refine Or.inr (Or.inl ⟨rfl, ?_⟩)
      exact w_iret rfl (Or.inr (⟨rfl, rfl, rfl, hI13, hF16, hN17, z41, rfl, trivial⟩)) (by omega) (by omega)
    · refine w_swc 2 (pt := 78) rfl rfl hs26 (by decide) rfl ?_
      refine w_aload (i := 5) (npc := 80) (v := cr 6) rfl rfl rfl ?_
      refine w_iload (i := 6) (npc := 82) rfl rfl ?_
      refine w_virt (ci := 6) (i := 6) (npc := 85) (a := [cr 6, ai_i z21]) (rest := []) rfl rfl (hI13.pl (by decide)) (hI13.T (by decide) rfl) rfl rfl rfl rfl (ct_vw_keyLengthOf (sl := sl) (x := x) (d := d + 5) (z21) hI13 (by omega)) (Or.inl rfl) (fun k9 v9 T46 E46 nx46 kc46 ks46 hq45 hk46 hv46 => ?_)
      obtain ⟨rfl, rfl, rfl, rfl, z47, rfl, hz47⟩ := hq45
      obtain rfl : kc3 = kc46 := by omega
      obtain rfl : ks3 = ks46 := by omega
      refine Or.inr (Or.inl ⟨rfl, ?_⟩)
      exact w_iret rfl (Or.inr (⟨rfl, rfl, rfl, hI13, hF16, hN17, z47, rfl, trivial⟩)) (by omega) (by omega)
  · replace hc25 : ¬ (z21 ≠ ((-1) : Int)) := hc25
    exact w_throw (k := 2) rfl (Or.inl ⟨rfl, rfl, rfl, hI13, hF16, hN17, trivial⟩) (by omega) (by omega)
set_option maxRecDepth 16384 in
theorem ct_c_step {sl : Int × Int} {x : ai_E} {d : Nat} {T : cm_T} {E : cm_E} {nx : Nat} (p w n c : Int)  (hI : cs_I T E nx) (hN : hn E) : cm_ct (ai_ev sl (d + 8)) x 35 [cr 0, ai_i p, ai_i w, ai_i n, ai_i c] T E nx 4 430 (fun rk rv T' E' nx' => (rk = 2 ∧ T = T' ∧ nx = nx' ∧ cs_I T E' nx ∧ cm_fr (fun i k => i < 81 ∧ ¬ (i = 0 ∧ (k = 10 ∨ k = 11 ∨ k = 14)) ∧ ¬ (i = 23 ∧ (k = 8 ∨ k = 9))) E E' ∧ hn E' ∧ (True)) ∨ (rk = 1 ∧ T = T' ∧ nx = nx' ∧ cs_I T E' nx ∧ cm_fr (fun i k => i < 81 ∧ ¬ (i = 0 ∧ (k = 10 ∨ k = 11 ∨ k = 14)) ∧ ¬ (i = 23 ∧ (k = 8 ∨ k = 9))) E E' ∧ hn E' ∧ ∃ z : Int, rv = ai_i z ∧ (True))) := by
  refine cm_body (M := ai_m35) rfl rfl (fun kc ks => ?_)
  show cm_wp (ai_find ai_c35 sl) (ai_ev sl (d + 7)) x (kc + 4) (ks + 430) _ 0 [cr 0, ai_i p, ai_i w, ai_i n, ai_i c, ai_un] [] T E nx kc ks
  have hF : cm_fr (fun i k => i < 81 ∧ ¬ (i = 0 ∧ (k = 10 ∨ k = 11 ∨ k = 14)) ∧ ¬ (i = 23 ∧ (k = 8 ∨ k = 9))) E E := fun _ _ _ => rfl
  obtain ⟨z1, hz1, hz1a, hz1b⟩ := hI.int 0 10 (lo := 1) (hi := 5) (by decide) (by decide) rfl
  have ghz1 := gv_eq hz1
  refine w_aload (i := 0) (npc := 1) (v := cr 0) rfl rfl rfl ?_
  refine w_iload (i := 1) (npc := 2) rfl rfl ?_
  refine w_iload (i := 2) (npc := 3) rfl rfl ?_
  refine w_iload (i := 3) (npc := 4) rfl rfl ?_
  refine w_virt (ci := 7) (i := 0) (npc := 7) (a := [cr 0, ai_i p, ai_i w, ai_i n]) (rest := []) rfl rfl (hI.pl (by decide)) (hI.T (by decide) rfl) rfl rfl rfl rfl (ct_c_stepAt (sl := sl) (x := x) (d := d + 4) (p) (w) (n) hI) (Or.inl rfl) (fun k9 v9 T3 E3 nx3 kc3 ks3 hq2 hk3 hv3 => ?_)
  rcases hq2 with hq2 | hq2
  · obtain ⟨rfl, rfl, rfl, rfl, hz4⟩ := hq2
    exact Or.inr (Or.inr (Or.inl ⟨rfl, rfl, Or.inl ⟨rfl, rfl, rfl, hI, hF, hN, trivial⟩, by omega, by omega⟩))
  obtain ⟨rfl, rfl, rfl, rfl, q8, rfl, hs9, hz4⟩ := hq2
  refine Or.inr (Or.inl ⟨rfl, ?_⟩)
  refine w_astore (i := 5) (npc := 9) (loc' := [cr 0, ai_i p, ai_i w, ai_i n, ai_i c, cr q8]) rfl rfl rfl ?_
  refine w_iload (i := 4) (npc := 11) rfl rfl ?_
  rcases (show (c < 0 ∨ 3 < c) ∨ c = 0 + ((0 : Nat) : Int) ∨ c = 0 + ((1 : Nat) : Int) ∨ c = 0 + ((2 : Nat) : Int) ∨ c = 0 + ((3 : Nat) : Int) by omega) with hs10 | hs10 | hs10 | hs10 | hs10
  · refine w_swd rfl rfl hs10 ?_
    exact w_throw (k := 2) rfl (Or.inl ⟨rfl, rfl, rfl, hI, hF, hN, trivial⟩) (by omega) (by omega)
  · refine w_swc 0 (pt := 40) rfl rfl hs10 (by decide) rfl ?_
    refine w_aload (i := 5) (npc := 42) (v := cr q8) rfl rfl rfl ?_
    refine w_virt (ci := 4) (i := q8) (npc := 45) (a := [cr q8]) (rest := []) rfl rfl hs9.lt hs9.T0 rfl rfl rfl rfl (ct_sp_kind (sl := sl) (x := x) (d := d + 5)  hs9) (Or.inl rfl) (fun k9 v9 T12 E12 nx12 kc12 ks12 hq11 hk12 hv12 => ?_)
    obtain ⟨rfl, rfl, rfl, rfl, z13, rfl, hz13⟩ := hq11
    obtain rfl : kc3 = kc12 := by omega
    obtain rfl : ks3 = ks12 := by omega
    refine Or.inr (Or.inl ⟨rfl, ?_⟩)
    exact w_iret rfl (Or.inr (⟨rfl, rfl, rfl, hI, hF, hN, z13, rfl, trivial⟩)) (by omega) (by omega)
  · refine w_swc 1 (pt := 46) rfl rfl hs10 (by decide) rfl ?_
    refine w_aload (i := 5) (npc := 48) (v := cr q8) rfl rfl rfl ?_
    refine w_virt (ci := 4) (i := q8) (npc := 51) (a := [cr q8]) (rest := []) rfl rfl hs9.lt hs9.T0 rfl rfl rfl rfl (ct_sp_age (sl := sl) (x := x) (d := d + 5)  hs9) (Or.inl rfl) (fun k9 v9 T18 E18 nx18 kc18 ks18 hq17 hk18 hv18 => ?_)
    obtain ⟨rfl, rfl, rfl, rfl, z19, rfl, hz19⟩ := hq17
    obtain rfl : kc3 = kc18 := by omega
    obtain rfl : ks3 = ks18 := by omega
    refine Or.inr (Or.inl ⟨rfl, ?_⟩)
    exact w_iret rfl (Or.inr (⟨rfl, rfl, rfl, hI, hF, hN, z19, rfl, trivial⟩)) (by omega) (by omega)
  · refine w_swc 2 (pt := 52) rfl rfl hs10 (by decide) rfl ?_
    refine w_aload (i := 0) (npc := 53) (v := cr 0) rfl rfl rfl ?_
    refine w_iload (i := 1) (npc := 54) rfl rfl ?_
    refine w_virt (ci := 7) (i := 0) (npc := 57) (a := [cr 0, ai_i p]) (rest := []) rfl rfl (hI.pl (by decide)) (hI.T (by decide) rfl) rfl rfl rfl rfl (ct_c_viewOf (sl := sl) (x := x) (d := d + 0) (p) hI (by omega)) (Or.inl rfl) (fun k9 v9 T24 E24 nx24 kc24 ks24 hq23 hk24 hv24 => ?_)
    obtain ⟨rfl, rfl, rfl, hI26, hG27, rfl, hz25⟩ := hq23
    obtain rfl : kc3 = kc24 := by omega
    obtain rfl : ks3 = ks24 := by omega
    have hF29 := cm_fr.trans hF hG27 (by intro i k h; (try simp only at h); (try simp only); omega)
    have hN30 := hN.fr hG27 (by intro i k h; (try simp only at h); omega)
    have hs31 := hs9.fr hG27 (by intro i k h; (try simp only at h); omega)
    have hz32 : E24 0 10 = ai_i z1 := (hG27 0 10 (by first | omega | (simp; done) | (simp; omega) | (simp only; omega))).trans hz1
    have ghz32 := gv_eq hz32
    refine Or.inr (Or.inl ⟨rfl, ?_⟩)
    refine w_getf (i := 6) (ci := 6) (k := 0) (npc := 60) rfl (hI26.pl (by decide)) (hI26.T (by decide) rfl) (by decide) (hI26.ref 6 0 (p := 7) (by decide) (by decide) rfl) ?_
    refine w_iload (i := 2) (npc := 61) rfl rfl ?_
    refine w_iload (i := 3) (npc := 62) rfl rfl ?_
    refine w_call (npc := 65) (a := [ai_i w, ai_i n]) (rest := [cr 7]) rfl rfl rfl rfl rfl (ct_c_slotOf (sl := sl) (x := x) (d := d + 6) (w) (n) (by omega) (by omega)) (Or.inr (fun _ _ _ _ _ hq => by have h1 := hq.1; omega)) (fun k9 v9 T34 E34 nx34 kc34 ks34 hq33 hk34 hv34 => ?_)
    obtain ⟨rfl, rfl, rfl, rfl, z35, rfl, hz35⟩ := hq33
    obtain rfl : kc3 = kc34 := by omega
    obtain rfl : ks3 = ks34 := by omega
    refine Or.inr (Or.inl ⟨rfl, ?_⟩)
    obtain ⟨z39, hz39, hz39a, hz39b⟩ := hI26.int 7 (z35 : Int).toNat (lo := 0) (hi := 1) (by decide) (show (z35 : Int).toNat < 300 by omega) rfl
    have ghz39 := gv_eq hz39
    refine w_ald (i := 7) (t := 2) (n := 300) (npc := 66) rfl (hI26.pl (by decide)) (hI26.T (by decide) rfl) (by decide) rfl (by omega) hz39 ?_
    refine w_if (c := .eq) (npc := 69) (pt := 73) rfl (fun hc40 => ?_) (fun hc40 => ?_)
    · replace hc40 : z39 = (0 : Int) := hc40
      refine w_const (n := 0) (npc := 74) rfl ?_
      exact w_iret rfl (Or.inr (⟨rfl, rfl, rfl, hI26, hF29, hN30, 0, rfl, trivial⟩)) (by omega) (by omega)
    · replace hc40 : ¬ (z39 = (0 : Int)) := hc40
      refine w_const (n := 1) (npc := 70) rfl ?_
      refine w_goto (pt := 74) rfl ?_
      exact w_iret rfl (Or.inr (⟨rfl, rfl, rfl, hI26, hF29, hN30, 1, rfl, trivial⟩)) (by omega) (by omega)
  · refine w_swc 3 (pt := 75) rfl rfl hs10 (by decide) rfl ?_
    refine w_aload (i := 5) (npc := 77) (v := cr q8) rfl rfl rfl ?_
    refine w_virt (ci := 4) (i := q8) (npc := 80) (a := [cr q8]) (rest := []) rfl rfl hs9.lt hs9.T0 rfl rfl rfl rfl (ct_sp_target (sl := sl) (x := x) (d := d + 4)  hs9) (Or.inl rfl) (fun k9 v9 T42 E42 nx42 kc42 ks42 hq41 hk42 hv42 => ?_)
    obtain ⟨rfl, rfl, rfl, rfl, z43, rfl, hz43⟩ := hq41
    obtain rfl : kc3 = kc42 := by omega
    obtain rfl : ks3 = ks42 := by omega
    refine Or.inr (Or.inl ⟨rfl, ?_⟩)
    exact w_iret rfl (Or.inr (⟨rfl, rfl, rfl, hI, hF, hN, z43, rfl, trivial⟩)) (by omega) (by omega)
set_option maxRecDepth 16384 in
theorem ct_c_packet {sl : Int × Int} {x : ai_E} {d : Nat} {T : cm_T} {E : cm_E} {nx : Nat} (p w n j : Int)  (hI : cs_I T E nx) (hN : hn E) : cm_ct (ai_ev sl (d + 4)) x 23 [cr 0, ai_i p, ai_i w, ai_i n, ai_i j] T E nx 4 430 (fun rk rv T' E' nx' => (rk = 2 ∧ T = T' ∧ nx = nx' ∧ cs_I T E' nx ∧ cm_fr (fun i k => i < 81 ∧ ¬ (i = 0 ∧ (k = 10 ∨ k = 11 ∨ k = 14)) ∧ ¬ (i = 23 ∧ (k = 8 ∨ k = 9))) E E' ∧ hn E' ∧ (True)) ∨ (rk = 1 ∧ T = T' ∧ nx = nx' ∧ cs_I T E' nx ∧ cm_fr (fun i k => i < 81 ∧ ¬ (i = 0 ∧ (k = 10 ∨ k = 11 ∨ k = 14)) ∧ ¬ (i = 23 ∧ (k = 8 ∨ k = 9))) E E' ∧ hn E' ∧ ∃ z : Int, rv = ai_i z ∧ (True))) := by
  refine cm_body (M := ai_m23) rfl rfl (fun kc ks => ?_)
  show cm_wp (ai_find ai_c23 sl) (ai_ev sl (d + 3)) x (kc + 4) (ks + 430) _ 0 [cr 0, ai_i p, ai_i w, ai_i n, ai_i j, ai_un] [] T E nx kc ks
  have hF : cm_fr (fun i k => i < 81 ∧ ¬ (i = 0 ∧ (k = 10 ∨ k = 11 ∨ k = 14)) ∧ ¬ (i = 23 ∧ (k = 8 ∨ k = 9))) E E := fun _ _ _ => rfl
  refine w_aload (i := 0) (npc := 1) (v := cr 0) rfl rfl rfl ?_
  refine w_iload (i := 1) (npc := 2) rfl rfl ?_
  refine w_iload (i := 2) (npc := 3) rfl rfl ?_
  refine w_iload (i := 3) (npc := 4) rfl rfl ?_
  refine w_virt (ci := 7) (i := 0) (npc := 7) (a := [cr 0, ai_i p, ai_i w, ai_i n]) (rest := []) rfl rfl (hI.pl (by decide)) (hI.T (by decide) rfl) rfl rfl rfl rfl (ct_c_stepAt (sl := sl) (x := x) (d := d + 0) (p) (w) (n) hI) (Or.inl rfl) (fun k9 v9 T2 E2 nx2 kc2 ks2 hq1 hk2 hv2 => ?_)
  rcases hq1 with hq1 | hq1
  · obtain ⟨rfl, rfl, rfl, rfl, hz3⟩ := hq1
    exact Or.inr (Or.inr (Or.inl ⟨rfl, rfl, Or.inl ⟨rfl, rfl, rfl, hI, hF, hN, trivial⟩, by omega, by omega⟩))
  obtain ⟨rfl, rfl, rfl, rfl, q7, rfl, hs8, hz3⟩ := hq1
  refine Or.inr (Or.inl ⟨rfl, ?_⟩)
  refine w_astore (i := 5) (npc := 9) (loc' := [cr 0, ai_i p, ai_i w, ai_i n, ai_i j, cr q7]) rfl rfl rfl ?_
  refine w_iload (i := 4) (npc := 11) rfl rfl ?_
  refine w_const (n := (-1)) (npc := 12) rfl ?_
  refine w_icmp (c := .ne) (npc := 15) (pt := 21) rfl (fun hc9 => ?_) (fun hc9 => ?_)
  · replace hc9 : j ≠ ((-1) : Int) := hc9
    refine w_iload (i := 4) (npc := 23) rfl rfl ?_
    refine w_if (c := .lt) (npc := 26) (pt := 36) rfl (fun hc10 => ?_) (fun hc10 => ?_)
    · replace hc10 : j < (0 : Int) := hc10
      exact w_throw (k := 2) rfl (Or.inl ⟨rfl, rfl, rfl, hI, hF, hN, trivial⟩) (by omega) (by omega)
    · replace hc10 : ¬ (j < (0 : Int)) := hc10
      refine w_iload (i := 4) (npc := 28) rfl rfl ?_
      refine w_aload (i := 5) (npc := 30) (v := cr q7) rfl rfl rfl ?_
      refine w_virt (ci := 4) (i := q7) (npc := 33) (a := [cr q7]) (rest := [ai_i j]) rfl rfl hs8.lt hs8.T0 rfl rfl rfl rfl (ct_sp_length (sl := sl) (x := x) (d := d + 2)  hs8) (Or.inl rfl) (fun k9 v9 T12 E12 nx12 kc12 ks12 hq11 hk12 hv12 => ?_)
      obtain ⟨rfl, rfl, rfl, rfl, z13, rfl, hz13⟩ := hq11
      obtain rfl : kc2 = kc12 := by omega
      obtain rfl : ks2 = ks12 := by omega
      refine Or.inr (Or.inl ⟨rfl, ?_⟩)
      refine w_icmp (c := .lt) (npc := 36) (pt := 46) rfl (fun hc17 => ?_) (fun hc17 => ?_)
      · replace hc17 : j < z13 := hc17
        refine w_aload (i := 5) (npc := 48) (v := cr q7) rfl rfl rfl ?_
        refine w_iload (i := 4) (npc := 50) rfl rfl ?_
        refine w_virt (ci := 4) (i := q7) (npc := 53) (a := [cr q7, ai_i j]) (rest := []) rfl rfl hs8.lt hs8.T0 rfl rfl rfl rfl (ct_sp_byteAt (sl := sl) (x := x) (d := d + 2) (j) hs8) (Or.inl rfl) (fun k9 v9 T19 E19 nx19 kc19 ks19 hq18 hk19 hv19 => ?_)
        obtain ⟨rfl, rfl, rfl, rfl, z20, rfl, hz20⟩ := hq18
        obtain rfl : kc2 = kc19 := by omega
        obtain rfl : ks2 = ks19 := by omega
        refine Or.inr (Or.inl ⟨rfl, ?_⟩)
        exact w_iret rfl (Or.inr (⟨rfl, rfl, rfl, hI, hF, hN, z20, rfl, trivial⟩)) (by omega) (by omega)
      · replace hc17 : ¬ (j < z13) := hc17
        exact w_throw (k := 2) rfl (Or.inl ⟨rfl, rfl, rfl, hI, hF, hN, trivial⟩) (by omega) (by omega)
  · replace hc9 : ¬ (j ≠ ((-1) : Int)) := hc9
    refine w_aload (i := 5) (npc := 17) (v := cr q7) rfl rfl rfl ?_
    refine w_virt (ci := 4) (i := q7) (npc := 20) (a := [cr q7]) (rest := []) rfl rfl hs8.lt hs8.T0 rfl rfl rfl rfl (ct_sp_length (sl := sl) (x := x) (d := d + 2)  hs8) (Or.inl rfl) (fun k9 v9 T25 E25 nx25 kc25 ks25 hq24 hk25 hv25 => ?_)
    obtain ⟨rfl, rfl, rfl, rfl, z26, rfl, hz26⟩ := hq24
    obtain rfl : kc2 = kc25 := by omega
    obtain rfl : ks2 = ks25 := by omega
    refine Or.inr (Or.inl ⟨rfl, ?_⟩)
    exact w_iret rfl (Or.inr (⟨rfl, rfl, rfl, hI, hF, hN, z26, rfl, trivial⟩)) (by omega) (by omega)
set_option maxRecDepth 16384 in
theorem ct_c_fault {sl : Int × Int} {x : ai_E} {d : Nat} {T : cm_T} {E : cm_E} {nx : Nat}  (hI : cs_I T E nx) (hN : hn E) : cm_ct (ai_ev sl (d + 1)) x 9 [cr 0] T E nx 4 430 (fun rk rv T' E' nx' => rk = 1 ∧ T = T' ∧ nx = nx' ∧ cs_I T E' nx ∧ cm_fr (fun i k => i < 81 ∧ ¬ (i = 0 ∧ (k = 10 ∨ k = 11 ∨ k = 14)) ∧ ¬ (i = 23 ∧ (k = 8 ∨ k = 9))) E E' ∧ hn E' ∧ ∃ z : Int, rv = ai_i z ∧ (True)) := by
  refine cm_body (M := ai_m9) rfl rfl (fun kc ks => ?_)
  show cm_wp (ai_find ai_c9 sl) (ai_ev sl (d + 0)) x (kc + 4) (ks + 430) _ 0 [cr 0] [] T E nx kc ks
  have hF : cm_fr (fun i k => i < 81 ∧ ¬ (i = 0 ∧ (k = 10 ∨ k = 11 ∨ k = 14)) ∧ ¬ (i = 23 ∧ (k = 8 ∨ k = 9))) E E := fun _ _ _ => rfl
  refine w_aload (i := 0) (npc := 1) (v := cr 0) rfl rfl rfl ?_
  obtain ⟨z1, hz1, hz1a, hz1b⟩ := hI.int 0 12 (lo := (-1)) (hi := 400) (by decide) (by decide) rfl
  have ghz1 := gv_eq hz1
  refine w_getf (i := 0) (ci := 7) (k := 12) (npc := 4) rfl (hI.pl (by decide)) (hI.T (by decide) rfl) (by decide) hz1 ?_
  exact w_iret rfl (⟨rfl, rfl, rfl, hI, hF, hN, z1, rfl, trivial⟩) (by omega) (by omega)
set_option maxRecDepth 16384 in
theorem ct_c_send {sl : Int × Int} {x : ai_E} {d : Nat} {T : cm_T} {E : cm_E} {nx : Nat} (p o w n : Int)  (hI : cs_I T E nx) (hN : hn E) : cm_ct (ai_ev sl (d + 7)) x 31 [cr 0, ai_i p, ai_i o, ai_i w, ai_i n] T E nx 4 430 (fun rk rv T' E' nx' => (rk = 2 ∧ T = T' ∧ nx = nx' ∧ cs_I T E' nx ∧ cm_fr (fun i k => i < 81 ∧ ¬ (i = 0 ∧ (k = 10 ∨ k = 11 ∨ k = 14)) ∧ ¬ (i = 23 ∧ (k = 8 ∨ k = 9))) E E' ∧ hn E' ∧ (True)) ∨ (rk = 1 ∧ T = T' ∧ nx = nx' ∧ cs_I T E' nx ∧ cm_fr (fun i k => i < 81 ∧ ¬ (i = 0 ∧ (k = 10 ∨ k = 11 ∨ k = 14)) ∧ ¬ (i = 23 ∧ (k = 8 ∨ k = 9))) E E' ∧ hn E' ∧ ∃ z : Int, rv = ai_i z ∧ (True))) := by
  refine cm_body (M := ai_m31) rfl rfl (fun kc ks => ?_)
  show cm_wp (ai_find ai_c31 sl) (ai_ev sl (d + 6)) x (kc + 4) (ks + 430) _ 0 [cr 0, ai_i p, ai_i o, ai_i w, ai_i n, ai_un, ai_un, ai_un] [] T E nx kc ks
  have hF : cm_fr (fun i k => i < 81 ∧ ¬ (i = 0 ∧ (k = 10 ∨ k = 11 ∨ k = 14)) ∧ ¬ (i = 23 ∧ (k = 8 ∨ k = 9))) E E := fun _ _ _ => rfl
  refine w_aload (i := 0) (npc := 1) (v := cr 0) rfl rfl rfl ?_
  refine w_iload (i := 1) (npc := 2) rfl rfl ?_
  refine w_iload (i := 3) (npc := 3) rfl rfl ?_
  refine w_iload (i := 4) (npc := 5) rfl rfl ?_
  refine w_virt (ci := 7) (i := 0) (npc := 8) (a := [cr 0, ai_i p, ai_i w, ai_i n]) (rest := []) rfl rfl (hI.pl (by decide)) (hI.T (by decide) rfl) rfl rfl rfl rfl (ct_c_stepAt (sl := sl) (x := x) (d := d + 3) (p) (w) (n) hI) (Or.inl rfl) (fun k9 v9 T2 E2 nx2 kc2 ks2 hq1 hk2 hv2 => ?_)
  rcases hq1 with hq1 | hq1
  · obtain ⟨rfl, rfl, rfl, rfl, hz3⟩ := hq1
    exact Or.inr (Or.inr (Or.inl ⟨rfl, rfl, Or.inl ⟨rfl, rfl, rfl, hI, hF, hN, trivial⟩, by omega, by omega⟩))
  obtain ⟨rfl, rfl, rfl, rfl, q7, rfl, hs8, hz3⟩ := hq1
  refine Or.inr (Or.inl ⟨rfl, ?_⟩)
  refine w_astore (i := 5) (npc := 10) (loc' := [cr 0, ai_i p, ai_i o, ai_i w, ai_i n, cr q7, ai_un, ai_un]) rfl rfl rfl ?_
  refine w_aload (i := 0) (npc := 11) (v := cr 0) rfl rfl rfl ?_
  refine w_iload (i := 2) (npc := 12) rfl rfl ?_
  refine w_virt (ci := 7) (i := 0) (npc := 15) (a := [cr 0, ai_i o]) (rest := []) rfl rfl (hI.pl (by decide)) (hI.T (by decide) rfl) rfl rfl rfl rfl (ct_c_pageAt (sl := sl) (x := x) (d := d + 5) (o) hI) (Or.inl rfl) (fun k9 v9 T10 E10 nx10 kc10 ks10 hq9 hk10 hv10 => ?_)
  rcases hq9 with hq9 | hq9
  · obtain ⟨rfl, rfl, rfl, rfl, hz11⟩ := hq9
    exact Or.inr (Or.inr (Or.inl ⟨rfl, rfl, Or.inl ⟨rfl, rfl, rfl, hI, hF, hN, trivial⟩, by omega, by omega⟩))
  obtain ⟨rfl, rfl, rfl, rfl, b15, rfl, hz11⟩ := hq9
  have hb16 : 41 ≤ b15 ∧ b15 ≤ 77 ∧ b15 % 4 = 1 := by omega
  refine Or.inr (Or.inl ⟨rfl, ?_⟩)
  refine w_astore (i := 6) (npc := 17) (loc' := [cr 0, ai_i p, ai_i o, ai_i w, ai_i n, cr q7, cr b15, ai_un]) rfl rfl rfl ?_
  refine w_aload (i := 0) (npc := 18) (v := cr 0) rfl rfl rfl ?_
  refine w_const (n := (-1)) (npc := 19) rfl ?_
  refine w_putf (i := 0) (ci := 7) (k := 13) (t := 0) (npc := 22) rfl (hI.pl (by decide)) (hI.T (by decide) rfl) (by decide) cm_fit0 ?_
  have hI18 := hI.puti (i := 0) (k := 13) (z := (-1)) (lo := (-1)) (hi := 4) (by decide) rfl (by omega)
  have hF20 := cm_fr.up (i := 0) (k := 13) (v := ai_i ((-1))) hF (by first | omega | (simp; done) | (simp; omega) | (simp only; omega))
  have hN21 := hn.wr (i := 0) (k := 13) (v := ai_i ((-1))) hN (by omega)
  have hs22 := hs8.up (i := 0) (k := 13) (v := ai_i ((-1))) (by decide)
  generalize hE19 : cm_up E 0 13 (ai_i ((-1))) = E17 at hI18 hF20 hN21 hs22 ⊢
  have hz23 : E17 0 13 = ai_i ((-1)) := by rw [← hE19, cm_up_eq]
  have ghz23 := gv_eq hz23
  refine w_aload (i := 6) (npc := 24) (v := cr b15) rfl rfl rfl ?_
  refine w_aload (i := 5) (npc := 26) (v := cr q7) rfl rfl rfl ?_
  refine w_virt (ci := 3) (i := b15) (npc := 29) (a := [cr b15, cr q7]) (rest := []) rfl rfl (hI18.pl (by omega)) (hI18.pgT0 hb16) rfl rfl rfl rfl (ct_pg_receive (sl := sl) (x := x) (d := d + 0)  (b := b15) hb16 hs22 hI18 hN21) (Or.inl rfl) (fun k9 v9 T25 E25 nx25 kc25 ks25 hq24 hk25 hv25 => ?_)
  obtain ⟨rfl, rfl, rfl, hI27, hG28, hN29, z26, rfl, hz26⟩ := hq24
  obtain rfl : kc10 = kc25 := by omega
  obtain rfl : ks10 = ks25 := by omega
  have hF30 := cm_fr.trans hF20 hG28 (by intro i k h; (try simp only at h); (try simp only); omega)
  have hs31 := hs22.fr hG28 (by intro i k h; (try simp only at h); omega)
  have hz32 : E25 0 13 = ai_i ((-1)) := (hG28 0 13 (by first | omega | (simp; done) | (simp; omega) | (simp only; omega))).trans hz23
  have ghz32 := gv_eq hz32
  refine Or.inr (Or.inl ⟨rfl, ?_⟩)
  refine w_istore (i := 7) (npc := 31) (loc' := [cr 0, ai_i p, ai_i o, ai_i w, ai_i n, cr q7, cr b15, ai_i z26]) rfl rfl ?_
  refine w_iload (i := 7) (npc := 33) rfl rfl ?_
  refine w_const (n := 10) (npc := 35) rfl ?_
  refine w_icmp (c := .le) (npc := 38) (pt := 46) rfl (fun hc33 => ?_) (fun hc33 => ?_)
  · replace hc33 : z26 ≤ (10 : Int) := hc33
    refine w_iload (i := 7) (npc := 48) rfl rfl ?_
    exact w_iret rfl (Or.inr (⟨rfl, rfl, rfl, hI27, hF30, hN29, z26, rfl, trivial⟩)) (by omega) (by omega)
  · replace hc33 : ¬ (z26 ≤ (10 : Int)) := hc33
    refine w_aload (i := 0) (npc := 39) (v := cr 0) rfl rfl rfl ?_
    refine w_const (n := 1) (npc := 40) rfl ?_
    refine w_virt (ci := 7) (i := 0) (npc := 43) (a := [cr 0, ai_i 1]) (rest := []) rfl rfl (hI27.pl (by decide)) (hI27.T (by decide) rfl) rfl rfl rfl rfl (ct_c_refuse (sl := sl) (x := x) (d := d + 5) (1) hI27 (by omega)) (Or.inl rfl) (fun k9 v9 T35 E35 nx35 kc35 ks35 hq34 hk35 hv35 => ?_)
    obtain ⟨rfl, rfl, rfl, hI37, hG38, z36, rfl, hz36⟩ := hq34
    obtain rfl : kc10 = kc35 := by omega
    obtain rfl : ks10 = ks35 := by omega
    have hF40 := cm_fr.trans hF30 hG38 (by intro i k h; (try simp only at h); (try simp only); omega)
    have hN41 := hN29.fr hG38 (by intro i k h; (try simp only at h); omega)
    have hs42 := hs31.fr hG38 (by intro i k h; (try simp only at h); omega)
    have hz43 : E35 0 13 = ai_i ((-1)) := (hG38 0 13 (by first | omega | (simp; done) | (simp; omega) | (simp only; omega))).trans hz32
    have ghz43 := gv_eq hz43
    refine Or.inr (Or.inl ⟨rfl, ?_⟩)
    refine w_goto (pt := 48) rfl ?_
    exact w_iret rfl (Or.inr (⟨rfl, rfl, rfl, hI37, hF40, hN41, z36, rfl, trivial⟩)) (by omega) (by omega)
set_option maxRecDepth 16384 in
theorem ct_c_lacks {sl : Int × Int} {x : ai_E} {d : Nat} {T : cm_T} {E : cm_E} {nx : Nat} (p o j : Int)  (hI : cs_I T E nx) (hN : hn E) : cm_ct (ai_ev sl (d + 4)) x 20 [cr 0, ai_i p, ai_i o, ai_i j] T E nx 4 430 (fun rk rv T' E' nx' => (rk = 2 ∧ T = T' ∧ nx = nx' ∧ cs_I T E' nx ∧ cm_fr (fun i k => i < 81 ∧ ¬ (i = 0 ∧ (k = 10 ∨ k = 11 ∨ k = 14)) ∧ ¬ (i = 23 ∧ (k = 8 ∨ k = 9))) E E' ∧ hn E' ∧ (True)) ∨ (rk = 1 ∧ T = T' ∧ nx = nx' ∧ cs_I T E' nx ∧ cm_fr (fun i k => i < 81 ∧ ¬ (i = 0 ∧ (k = 10 ∨ k = 11 ∨ k = 14)) ∧ ¬ (i = 23 ∧ (k = 8 ∨ k = 9))) E E' ∧ hn E' ∧ ∃ z : Int, rv = ai_i z ∧ (True))) := by
  refine cm_body (M := ai_m20) rfl rfl (fun kc ks => ?_)
  show cm_wp (ai_find ai_c20 sl) (ai_ev sl (d + 3)) x (kc + 4) (ks + 430) _ 0 [cr 0, ai_i p, ai_i o, ai_i j, ai_un, ai_un, ai_un] [] T E nx kc ks
  have hF : cm_fr (fun i k => i < 81 ∧ ¬ (i = 0 ∧ (k = 10 ∨ k = 11 ∨ k = 14)) ∧ ¬ (i = 23 ∧ (k = 8 ∨ k = 9))) E E := fun _ _ _ => rfl
  refine w_aload (i := 0) (npc := 1) (v := cr 0) rfl rfl rfl ?_
  refine w_iload (i := 1) (npc := 2) rfl rfl ?_
  refine w_virt (ci := 7) (i := 0) (npc := 5) (a := [cr 0, ai_i p]) (rest := []) rfl rfl (hI.pl (by decide)) (hI.T (by decide) rfl) rfl rfl rfl rfl (ct_c_pageAt (sl := sl) (x := x) (d := d + 2) (p) hI) (Or.inl rfl) (fun k9 v9 T2 E2 nx2 kc2 ks2 hq1 hk2 hv2 => ?_)
  rcases hq1 with hq1 | hq1
  · obtain ⟨rfl, rfl, rfl, rfl, hz3⟩ := hq1
    exact Or.inr (Or.inr (Or.inl ⟨rfl, rfl, Or.inl ⟨rfl, rfl, rfl, hI, hF, hN, trivial⟩, by omega, by omega⟩))
  obtain ⟨rfl, rfl, rfl, rfl, b7, rfl, hz3⟩ := hq1
  have hb8 : 41 ≤ b7 ∧ b7 ≤ 77 ∧ b7 % 4 = 1 := by omega
  refine Or.inr (Or.inl ⟨rfl, ?_⟩)
  refine w_astore (i := 4) (npc := 7) (loc' := [cr 0, ai_i p, ai_i o, ai_i j, cr b7, ai_un, ai_un]) rfl rfl rfl ?_
  refine w_aload (i := 0) (npc := 8) (v := cr 0) rfl rfl rfl ?_
  refine w_iload (i := 2) (npc := 9) rfl rfl ?_
  refine w_virt (ci := 7) (i := 0) (npc := 12) (a := [cr 0, ai_i o]) (rest := []) rfl rfl (hI.pl (by decide)) (hI.T (by decide) rfl) rfl rfl rfl rfl (ct_c_pageAt (sl := sl) (x := x) (d := d + 2) (o) hI) (Or.inl rfl) (fun k9 v9 T10 E10 nx10 kc10 ks10 hq9 hk10 hv10 => ?_)
  rcases hq9 with hq9 | hq9
  · obtain ⟨rfl, rfl, rfl, rfl, hz11⟩ := hq9
    exact Or.inr (Or.inr (Or.inl ⟨rfl, rfl, Or.inl ⟨rfl, rfl, rfl, hI, hF, hN, trivial⟩, by omega, by omega⟩))
  obtain ⟨rfl, rfl, rfl, rfl, b15, rfl, hz11⟩ := hq9
  have hb16 : 41 ≤ b15 ∧ b15 ≤ 77 ∧ b15 % 4 = 1 := by omega
  refine Or.inr (Or.inl ⟨rfl, ?_⟩)
  refine w_astore (i := 5) (npc := 14) (loc' := [cr 0, ai_i p, ai_i o, ai_i j, cr b7, cr b15, ai_un]) rfl rfl rfl ?_
  refine w_iload (i := 3) (npc := 15) rfl rfl ?_
  refine w_const (n := (-1)) (npc := 16) rfl ?_
  refine w_icmp (c := .ne) (npc := 19) (pt := 27) rfl (fun hc17 => ?_) (fun hc17 => ?_)
  · replace hc17 : j ≠ ((-1) : Int) := hc17
    refine w_aload (i := 4) (npc := 29) (v := cr b7) rfl rfl rfl ?_
    refine w_aload (i := 5) (npc := 31) (v := cr b15) rfl rfl rfl ?_
    refine w_iload (i := 3) (npc := 32) rfl rfl ?_
    refine w_call (npc := 35) (a := [cr b7, cr b15, ai_i j]) (rest := []) rfl rfl rfl rfl rfl (ct_c_findLack (sl := sl) (x := x) (d := d + 0) (j) (a := b7) hb8 (b := b15) hb16 hI) (Or.inr (fun _ _ _ _ _ hq => by have h1 := hq.1; omega)) (fun k9 v9 T19 E19 nx19 kc19 ks19 hq18 hk19 hv19 => ?_)
    obtain ⟨rfl, rfl, rfl, rfl, z20, rfl, hz20⟩ := hq18
    obtain rfl : kc10 = kc19 := by omega
    obtain rfl : ks10 = ks19 := by omega
    refine Or.inr (Or.inl ⟨rfl, ?_⟩)
    refine w_istore (i := 6) (npc := 37) (loc' := [cr 0, ai_i p, ai_i o, ai_i j, cr b7, cr b15, ai_i z20]) rfl rfl ?_
    refine w_iload (i := 6) (npc := 39) rfl rfl ?_
    refine w_const (n := (-1)) (npc := 40) rfl ?_
    refine w_icmp (c := .ne) (npc := 43) (pt := 54) rfl (fun hc24 => ?_) (fun hc24 => ?_)
    · replace hc24 : z20 ≠ ((-1) : Int) := hc24
      refine w_iload (i := 6) (npc := 56) rfl rfl ?_
      exact w_iret rfl (Or.inr (⟨rfl, rfl, rfl, hI, hF, hN, z20, rfl, trivial⟩)) (by omega) (by omega)
    · replace hc24 : ¬ (z20 ≠ ((-1) : Int)) := hc24
      exact w_throw (k := 2) rfl (Or.inl ⟨rfl, rfl, rfl, hI, hF, hN, trivial⟩) (by omega) (by omega)
  · replace hc17 : ¬ (j ≠ ((-1) : Int)) := hc17
    refine w_aload (i := 4) (npc := 21) (v := cr b7) rfl rfl rfl ?_
    refine w_aload (i := 5) (npc := 23) (v := cr b15) rfl rfl rfl ?_
    refine w_call (npc := 26) (a := [cr b7, cr b15]) (rest := []) rfl rfl rfl rfl rfl (ct_c_countLacks (sl := sl) (x := x) (d := d + 0)  (a := b7) hb8 (b := b15) hb16 hI) (Or.inr (fun _ _ _ _ _ hq => by have h1 := hq.1; omega)) (fun k9 v9 T26 E26 nx26 kc26 ks26 hq25 hk26 hv26 => ?_)
    obtain ⟨rfl, rfl, rfl, rfl, z27, rfl, hz27⟩ := hq25
    obtain rfl : kc10 = kc26 := by omega
    obtain rfl : ks10 = ks26 := by omega
    refine Or.inr (Or.inl ⟨rfl, ?_⟩)
    exact w_iret rfl (Or.inr (⟨rfl, rfl, rfl, hI, hF, hN, z27, rfl, trivial⟩)) (by omega) (by omega)
set_option maxRecDepth 16384 in
theorem ct_c_fewest {sl : Int × Int} {x : ai_E} {d : Nat} {T : cm_T} {E : cm_E} {nx : Nat} (p o : Int)  (hI : cs_I T E nx) (hN : hn E) : cm_ct (ai_ev sl (d + 4)) x 12 [cr 0, ai_i p, ai_i o] T E nx 4 430 (fun rk rv T' E' nx' => (rk = 2 ∧ T = T' ∧ nx = nx' ∧ cs_I T E' nx ∧ cm_fr (fun i k => i < 81 ∧ ¬ (i = 0 ∧ (k = 10 ∨ k = 11 ∨ k = 14)) ∧ ¬ (i = 23 ∧ (k = 8 ∨ k = 9))) E E' ∧ hn E' ∧ (True)) ∨ (rk = 1 ∧ T = T' ∧ nx = nx' ∧ cs_I T E' nx ∧ cm_fr (fun i k => i < 81 ∧ ¬ (i = 0 ∧ (k = 10 ∨ k = 11 ∨ k = 14)) ∧ ¬ (i = 23 ∧ (k = 8 ∨ k = 9))) E E' ∧ hn E' ∧ ∃ z : Int, rv = ai_i z ∧ (True))) := by
  refine cm_body (M := ai_m12) rfl rfl (fun kc ks => ?_)
  show cm_wp (ai_find ai_c12 sl) (ai_ev sl (d + 3)) x (kc + 4) (ks + 430) _ 0 [cr 0, ai_i p, ai_i o, ai_un, ai_un] [] T E nx kc ks
  have hF : cm_fr (fun i k => i < 81 ∧ ¬ (i = 0 ∧ (k = 10 ∨ k = 11 ∨ k = 14)) ∧ ¬ (i = 23 ∧ (k = 8 ∨ k = 9))) E E := fun _ _ _ => rfl
  refine w_aload (i := 0) (npc := 1) (v := cr 0) rfl rfl rfl ?_
  refine w_iload (i := 1) (npc := 2) rfl rfl ?_
  refine w_virt (ci := 7) (i := 0) (npc := 5) (a := [cr 0, ai_i p]) (rest := []) rfl rfl (hI.pl (by decide)) (hI.T (by decide) rfl) rfl rfl rfl rfl (ct_c_pageAt (sl := sl) (x := x) (d := d + 2) (p) hI) (Or.inl rfl) (fun k9 v9 T2 E2 nx2 kc2 ks2 hq1 hk2 hv2 => ?_)
  rcases hq1 with hq1 | hq1
  · obtain ⟨rfl, rfl, rfl, rfl, hz3⟩ := hq1
    exact Or.inr (Or.inr (Or.inl ⟨rfl, rfl, Or.inl ⟨rfl, rfl, rfl, hI, hF, hN, trivial⟩, by omega, by omega⟩))
  obtain ⟨rfl, rfl, rfl, rfl, b7, rfl, hz3⟩ := hq1
  have hb8 : 41 ≤ b7 ∧ b7 ≤ 77 ∧ b7 % 4 = 1 := by omega
  refine Or.inr (Or.inl ⟨rfl, ?_⟩)
  refine w_astore (i := 3) (npc := 6) (loc' := [cr 0, ai_i p, ai_i o, cr b7, ai_un]) rfl rfl rfl ?_
  refine w_aload (i := 0) (npc := 7) (v := cr 0) rfl rfl rfl ?_
  refine w_iload (i := 2) (npc := 8) rfl rfl ?_
  refine w_virt (ci := 7) (i := 0) (npc := 11) (a := [cr 0, ai_i o]) (rest := []) rfl rfl (hI.pl (by decide)) (hI.T (by decide) rfl) rfl rfl rfl rfl (ct_c_pageAt (sl := sl) (x := x) (d := d + 2) (o) hI) (Or.inl rfl) (fun k9 v9 T10 E10 nx10 kc10 ks10 hq9 hk10 hv10 => ?_)
  rcases hq9 with hq9 | hq9
  · obtain ⟨rfl, rfl, rfl, rfl, hz11⟩ := hq9
    exact Or.inr (Or.inr (Or.inl ⟨rfl, rfl, Or.inl ⟨rfl, rfl, rfl, hI, hF, hN, trivial⟩, by omega, by omega⟩))
  obtain ⟨rfl, rfl, rfl, rfl, b15, rfl, hz11⟩ := hq9
  have hb16 : 41 ≤ b15 ∧ b15 ≤ 77 ∧ b15 % 4 = 1 := by omega
  refine Or.inr (Or.inl ⟨rfl, ?_⟩)
  refine w_astore (i := 4) (npc := 13) (loc' := [cr 0, ai_i p, ai_i o, cr b7, cr b15]) rfl rfl rfl ?_
  refine w_aload (i := 3) (npc := 14) (v := cr b7) rfl rfl rfl ?_
  refine w_aload (i := 4) (npc := 16) (v := cr b15) rfl rfl rfl ?_
  refine w_call (npc := 19) (a := [cr b7, cr b15]) (rest := []) rfl rfl rfl rfl rfl (ct_c_countLacks (sl := sl) (x := x) (d := d + 0)  (a := b7) hb8 (b := b15) hb16 hI) (Or.inr (fun _ _ _ _ _ hq => by have h1 := hq.1; omega)) (fun k9 v9 T18 E18 nx18 kc18 ks18 hq17 hk18 hv18 => ?_)
  obtain ⟨rfl, rfl, rfl, rfl, z19, rfl, hz19⟩ := hq17
  obtain rfl : kc10 = kc18 := by omega
  obtain rfl : ks10 = ks18 := by omega
  refine Or.inr (Or.inl ⟨rfl, ?_⟩)
  refine w_aload (i := 4) (npc := 21) (v := cr b15) rfl rfl rfl ?_
  refine w_aload (i := 3) (npc := 22) (v := cr b7) rfl rfl rfl ?_
  refine w_call (npc := 25) (a := [cr b15, cr b7]) (rest := [ai_i z19]) rfl rfl rfl rfl rfl (ct_c_countLacks (sl := sl) (x := x) (d := d + 0)  (a := b15) hb16 (b := b7) hb8 hI) (Or.inr (fun _ _ _ _ _ hq => by have h1 := hq.1; omega)) (fun k9 v9 T24 E24 nx24 kc24 ks24 hq23 hk24 hv24 => ?_)
  obtain ⟨rfl, rfl, rfl, rfl, z25, rfl, hz25⟩ := hq23
  obtain rfl : kc10 = kc24 := by omega
  obtain rfl : ks10 = ks24 := by omega
  refine Or.inr (Or.inl ⟨rfl, ?_⟩)
  refine w_iadd (npc := 26) rfl (by omega) ?_
  exact w_iret rfl (Or.inr (⟨rfl, rfl, rfl, hI, hF, hN, z19 + z25, rfl, trivial⟩)) (by omega) (by omega)
set_option maxRecDepth 16384 in
theorem ct_c_alike {sl : Int × Int} {x : ai_E} {d : Nat} {T : cm_T} {E : cm_E} {nx : Nat} (p o : Int)  (hI : cs_I T E nx) (hN : hn E) : cm_ct (ai_ev sl (d + 4)) x 3 [cr 0, ai_i p, ai_i o] T E nx 4 430 (fun rk rv T' E' nx' => (rk = 2 ∧ T = T' ∧ nx = nx' ∧ cs_I T E' nx ∧ cm_fr (fun i k => i < 81 ∧ ¬ (i = 0 ∧ (k = 10 ∨ k = 11 ∨ k = 14)) ∧ ¬ (i = 23 ∧ (k = 8 ∨ k = 9))) E E' ∧ hn E' ∧ (True)) ∨ (rk = 1 ∧ T = T' ∧ nx = nx' ∧ cs_I T E' nx ∧ cm_fr (fun i k => i < 81 ∧ ¬ (i = 0 ∧ (k = 10 ∨ k = 11 ∨ k = 14)) ∧ ¬ (i = 23 ∧ (k = 8 ∨ k = 9))) E E' ∧ hn E' ∧ ∃ z : Int, rv = ai_i z ∧ (0 ≤ z ∧ z ≤ 1))) := by
  refine cm_body (M := ai_m3) rfl rfl (fun kc ks => ?_)
  show cm_wp (ai_find ai_c3 sl) (ai_ev sl (d + 3)) x (kc + 4) (ks + 430) _ 0 [cr 0, ai_i p, ai_i o, ai_un, ai_un] [] T E nx kc ks
  have hF : cm_fr (fun i k => i < 81 ∧ ¬ (i = 0 ∧ (k = 10 ∨ k = 11 ∨ k = 14)) ∧ ¬ (i = 23 ∧ (k = 8 ∨ k = 9))) E E := fun _ _ _ => rfl
  refine w_aload (i := 0) (npc := 1) (v := cr 0) rfl rfl rfl ?_
  refine w_iload (i := 1) (npc := 2) rfl rfl ?_
  refine w_virt (ci := 7) (i := 0) (npc := 5) (a := [cr 0, ai_i p]) (rest := []) rfl rfl (hI.pl (by decide)) (hI.T (by decide) rfl) rfl rfl rfl rfl (ct_c_pageAt (sl := sl) (x := x) (d := d + 2) (p) hI) (Or.inl rfl) (fun k9 v9 T2 E2 nx2 kc2 ks2 hq1 hk2 hv2 => ?_)
  rcases hq1 with hq1 | hq1
  · obtain ⟨rfl, rfl, rfl, rfl, hz3⟩ := hq1
    exact Or.inr (Or.inr (Or.inl ⟨rfl, rfl, Or.inl ⟨rfl, rfl, rfl, hI, hF, hN, trivial⟩, by omega, by omega⟩))
  obtain ⟨rfl, rfl, rfl, rfl, b7, rfl, hz3⟩ := hq1
  have hb8 : 41 ≤ b7 ∧ b7 ≤ 77 ∧ b7 % 4 = 1 := by omega
  refine Or.inr (Or.inl ⟨rfl, ?_⟩)
  refine w_astore (i := 3) (npc := 6) (loc' := [cr 0, ai_i p, ai_i o, cr b7, ai_un]) rfl rfl rfl ?_
  refine w_aload (i := 0) (npc := 7) (v := cr 0) rfl rfl rfl ?_
  refine w_iload (i := 2) (npc := 8) rfl rfl ?_
  refine w_virt (ci := 7) (i := 0) (npc := 11) (a := [cr 0, ai_i o]) (rest := []) rfl rfl (hI.pl (by decide)) (hI.T (by decide) rfl) rfl rfl rfl rfl (ct_c_pageAt (sl := sl) (x := x) (d := d + 2) (o) hI) (Or.inl rfl) (fun k9 v9 T10 E10 nx10 kc10 ks10 hq9 hk10 hv10 => ?_)
  rcases hq9 with hq9 | hq9
  · obtain ⟨rfl, rfl, rfl, rfl, hz11⟩ := hq9
    exact Or.inr (Or.inr (Or.inl ⟨rfl, rfl, Or.inl ⟨rfl, rfl, rfl, hI, hF, hN, trivial⟩, by omega, by omega⟩))
  obtain ⟨rfl, rfl, rfl, rfl, b15, rfl, hz11⟩ := hq9
  have hb16 : 41 ≤ b15 ∧ b15 ≤ 77 ∧ b15 % 4 = 1 := by omega
  refine Or.inr (Or.inl ⟨rfl, ?_⟩)
  refine w_astore (i := 4) (npc := 13) (loc' := [cr 0, ai_i p, ai_i o, cr b7, cr b15]) rfl rfl rfl ?_
  refine w_aload (i := 3) (npc := 14) (v := cr b7) rfl rfl rfl ?_
  refine w_aload (i := 4) (npc := 16) (v := cr b15) rfl rfl rfl ?_
  refine w_call (npc := 19) (a := [cr b7, cr b15]) (rest := []) rfl rfl rfl rfl rfl (ct_c_countLacks (sl := sl) (x := x) (d := d + 0)  (a := b7) hb8 (b := b15) hb16 hI) (Or.inr (fun _ _ _ _ _ hq => by have h1 := hq.1; omega)) (fun k9 v9 T18 E18 nx18 kc18 ks18 hq17 hk18 hv18 => ?_)
  obtain ⟨rfl, rfl, rfl, rfl, z19, rfl, hz19⟩ := hq17
  obtain rfl : kc10 = kc18 := by omega
  obtain rfl : ks10 = ks18 := by omega
  refine Or.inr (Or.inl ⟨rfl, ?_⟩)
  refine w_if (c := .ne) (npc := 22) (pt := 35) rfl (fun hc23 => ?_) (fun hc23 => ?_)
  · replace hc23 : z19 ≠ (0 : Int) := hc23
    refine w_const (n := 0) (npc := 36) rfl ?_
    exact w_zret rfl (by omega) (Or.inr (⟨rfl, rfl, rfl, hI, hF, hN, 0, rfl, by omega⟩)) (by omega) (by omega)
  · replace hc23 : ¬ (z19 ≠ (0 : Int)) := hc23
    refine w_aload (i := 4) (npc := 24) (v := cr b15) rfl rfl rfl ?_
    refine w_aload (i := 3) (npc := 25) (v := cr b7) rfl rfl rfl ?_
    refine w_call (npc := 28) (a := [cr b15, cr b7]) (rest := []) rfl rfl rfl rfl rfl (ct_c_countLacks (sl := sl) (x := x) (d := d + 0)  (a := b15) hb16 (b := b7) hb8 hI) (Or.inr (fun _ _ _ _ _ hq => by have h1 := hq.1; omega)) (fun k9 v9 T25 E25 nx25 kc25 ks25 hq24 hk25 hv25 => ?_)
    obtain ⟨rfl, rfl, rfl, rfl, z26, rfl, hz26⟩ := hq24
    obtain rfl : kc10 = kc25 := by omega
    obtain rfl : ks10 = ks25 := by omega
    refine Or.inr (Or.inl ⟨rfl, ?_⟩)
    refine w_if (c := .ne) (npc := 31) (pt := 35) rfl (fun hc30 => ?_) (fun hc30 => ?_)
    · replace hc30 : z26 ≠ (0 : Int) := hc30
      refine w_const (n := 0) (npc := 36) rfl ?_
      exact w_zret rfl (by omega) (Or.inr (⟨rfl, rfl, rfl, hI, hF, hN, 0, rfl, by omega⟩)) (by omega) (by omega)
    · replace hc30 : ¬ (z26 ≠ (0 : Int)) := hc30
      refine w_const (n := 1) (npc := 32) rfl ?_
      refine w_goto (pt := 36) rfl ?_
      exact w_zret rfl (by omega) (Or.inr (⟨rfl, rfl, rfl, hI, hF, hN, 1, rfl, by omega⟩)) (by omega) (by omega)
set_option maxRecDepth 16384 in
theorem ct_c_whose {sl : Int × Int} {x : ai_E} {d : Nat} {T : cm_T} {E : cm_E} {nx : Nat} (p w : Int)  (hI : cs_I T E nx) (hN : hn E) : cm_ct (ai_ev sl (d + 8)) x 42 [cr 0, ai_i p, ai_i w] T E nx 4 430 (fun rk rv T' E' nx' => (rk = 2 ∧ T = T' ∧ nx = nx' ∧ cs_I T E' nx ∧ cm_fr (fun i k => i < 81 ∧ ¬ (i = 0 ∧ (k = 10 ∨ k = 11 ∨ k = 14)) ∧ ¬ (i = 23 ∧ (k = 8 ∨ k = 9))) E E' ∧ hn E' ∧ (True)) ∨ (rk = 1 ∧ T = T' ∧ nx = nx' ∧ cs_I T E' nx ∧ cm_fr (fun i k => i < 81 ∧ ¬ (i = 0 ∧ (k = 10 ∨ k = 11 ∨ k = 14)) ∧ ¬ (i = 23 ∧ (k = 8 ∨ k = 9))) E E' ∧ hn E' ∧ ∃ z : Int, rv = ai_i z ∧ (True))) := by
  refine cm_body (M := ai_m42) rfl rfl (fun kc ks => ?_)
  show cm_wp (ai_find ai_c42 sl) (ai_ev sl (d + 7)) x (kc + 4) (ks + 430) _ 0 [cr 0, ai_i p, ai_i w] [] T E nx kc ks
  have hF : cm_fr (fun i k => i < 81 ∧ ¬ (i = 0 ∧ (k = 10 ∨ k = 11 ∨ k = 14)) ∧ ¬ (i = 23 ∧ (k = 8 ∨ k = 9))) E E := fun _ _ _ => rfl
  obtain ⟨z1, hz1, hz1a, hz1b⟩ := hI.int 0 10 (lo := 1) (hi := 5) (by decide) (by decide) rfl
  have ghz1 := gv_eq hz1
  refine w_aload (i := 0) (npc := 1) (v := cr 0) rfl rfl rfl ?_
  refine w_iload (i := 1) (npc := 2) rfl rfl ?_
  refine w_virt (ci := 7) (i := 0) (npc := 5) (a := [cr 0, ai_i p]) (rest := []) rfl rfl (hI.pl (by decide)) (hI.T (by decide) rfl) rfl rfl rfl rfl (ct_c_pageAt (sl := sl) (x := x) (d := d + 6) (p) hI) (Or.inl rfl) (fun k9 v9 T3 E3 nx3 kc3 ks3 hq2 hk3 hv3 => ?_)
  rcases hq2 with hq2 | hq2
  · obtain ⟨rfl, rfl, rfl, rfl, hz4⟩ := hq2
    exact Or.inr (Or.inr (Or.inl ⟨rfl, rfl, Or.inl ⟨rfl, rfl, rfl, hI, hF, hN, trivial⟩, by omega, by omega⟩))
  obtain ⟨rfl, rfl, rfl, rfl, b8, rfl, hz4⟩ := hq2
  have hb9 : 41 ≤ b8 ∧ b8 ≤ 77 ∧ b8 % 4 = 1 := by omega
  refine Or.inr (Or.inl ⟨rfl, ?_⟩)
  refine w_pop (npc := 6) rfl rfl ?_
  refine w_iload (i := 2) (npc := 7) rfl rfl ?_
  refine w_if (c := .lt) (npc := 10) (pt := 18) rfl (fun hc10 => ?_) (fun hc10 => ?_)
  · replace hc10 : w < (0 : Int) := hc10
    exact w_throw (k := 2) rfl (Or.inl ⟨rfl, rfl, rfl, hI, hF, hN, trivial⟩) (by omega) (by omega)
  · replace hc10 : ¬ (w < (0 : Int)) := hc10
    refine w_iload (i := 2) (npc := 11) rfl rfl ?_
    refine w_aload (i := 0) (npc := 12) (v := cr 0) rfl rfl rfl ?_
    refine w_getf (i := 0) (ci := 7) (k := 10) (npc := 15) rfl (hI.pl (by decide)) (hI.T (by decide) rfl) (by decide) hz1 ?_
    refine w_icmp (c := .lt) (npc := 18) (pt := 29) rfl (fun hc11 => ?_) (fun hc11 => ?_)
    · replace hc11 : w < z1 := hc11
      refine w_aload (i := 0) (npc := 30) (v := cr 0) rfl rfl rfl ?_
      refine w_iload (i := 1) (npc := 31) rfl rfl ?_
      refine w_virt (ci := 7) (i := 0) (npc := 34) (a := [cr 0, ai_i p]) (rest := []) rfl rfl (hI.pl (by decide)) (hI.T (by decide) rfl) rfl rfl rfl rfl (ct_c_viewOf (sl := sl) (x := x) (d := d + 0) (p) hI (by omega)) (Or.inl rfl) (fun k9 v9 T13 E13 nx13 kc13 ks13 hq12 hk13 hv13 => ?_)
      obtain ⟨rfl, rfl, rfl, hI15, hG16, rfl, hz14⟩ := hq12
      obtain rfl : kc3 = kc13 := by omega
      obtain rfl : ks3 = ks13 := by omega
      have hF18 := cm_fr.trans hF hG16 (by intro i k h; (try simp only at h); (try simp only); omega)
      have hN19 := hN.fr hG16 (by intro i k h; (try simp only at h); omega)
      have hz20 : E13 0 10 = ai_i z1 := (hG16 0 10 (by first | omega | (simp; done) | (simp; omega) | (simp only; omega))).trans hz1
      have ghz20 := gv_eq hz20
      refine Or.inr (Or.inl ⟨rfl, ?_⟩)
      refine w_iload (i := 2) (npc := 35) rfl rfl ?_
      refine w_virt (ci := 6) (i := 6) (npc := 38) (a := [cr 6, ai_i w]) (rest := []) rfl rfl (hI15.pl (by decide)) (hI15.T (by decide) rfl) rfl rfl rfl rfl (ct_vw_countOf (sl := sl) (x := x) (d := d + 5) (w) hI15) (Or.inl rfl) (fun k9 v9 T22 E22 nx22 kc22 ks22 hq21 hk22 hv22 => ?_)
      obtain ⟨rfl, rfl, rfl, rfl, z23, rfl, hz23⟩ := hq21
      obtain rfl : kc3 = kc22 := by omega
      obtain rfl : ks3 = ks22 := by omega
      refine Or.inr (Or.inl ⟨rfl, ?_⟩)
      exact w_iret rfl (Or.inr (⟨rfl, rfl, rfl, hI15, hF18, hN19, z23, rfl, trivial⟩)) (by omega) (by omega)
    · replace hc11 : ¬ (w < z1) := hc11
      exact w_throw (k := 2) rfl (Or.inl ⟨rfl, rfl, rfl, hI, hF, hN, trivial⟩) (by omega) (by omega)
set_option maxRecDepth 16384 in
theorem ct_c_gone {sl : Int × Int} {x : ai_E} {d : Nat} {T : cm_T} {E : cm_E} {nx : Nat} (p m : Int)  (hI : cs_I T E nx) (hN : hn E) (hp0 : -2147483648 ≤ m ∧ m ≤ 2147483647) : cm_ct (ai_ev sl (d + 8)) x 14 [cr 0, ai_i p, ai_i m] T E nx 4 430 (fun rk rv T' E' nx' => (rk = 2 ∧ T = T' ∧ nx = nx' ∧ cs_I T E' nx ∧ cm_fr (fun i k => i < 81 ∧ ¬ (i = 0 ∧ (k = 10 ∨ k = 11 ∨ k = 14)) ∧ ¬ (i = 23 ∧ (k = 8 ∨ k = 9))) E E' ∧ hn E' ∧ (True)) ∨ (rk = 1 ∧ T = T' ∧ nx = nx' ∧ cs_I T E' nx ∧ cm_fr (fun i k => i < 81 ∧ ¬ (i = 0 ∧ (k = 10 ∨ k = 11 ∨ k = 14)) ∧ ¬ (i = 23 ∧ (k = 8 ∨ k = 9))) E E' ∧ hn E' ∧ ∃ z : Int, rv = ai_i z ∧ (0 ≤ z ∧ z ≤ 1))) := by
  refine cm_body (M := ai_m14) rfl rfl (fun kc ks => ?_)
  show cm_wp (ai_find ai_c14 sl) (ai_ev sl (d + 7)) x (kc + 4) (ks + 430) _ 0 [cr 0, ai_i p, ai_i m, ai_un, ai_un] [] T E nx kc ks
  have hF : cm_fr (fun i k => i < 81 ∧ ¬ (i = 0 ∧ (k = 10 ∨ k = 11 ∨ k = 14)) ∧ ¬ (i = 23 ∧ (k = 8 ∨ k = 9))) E E := fun _ _ _ => rfl
  obtain ⟨z1, hz1, hz1a, hz1b⟩ := hI.int 0 10 (lo := 1) (hi := 5) (by decide) (by decide) rfl
  have ghz1 := gv_eq hz1
  refine w_aload (i := 0) (npc := 1) (v := cr 0) rfl rfl rfl ?_
  refine w_iload (i := 1) (npc := 2) rfl rfl ?_
  refine w_virt (ci := 7) (i := 0) (npc := 5) (a := [cr 0, ai_i p]) (rest := []) rfl rfl (hI.pl (by decide)) (hI.T (by decide) rfl) rfl rfl rfl rfl (ct_c_pageAt (sl := sl) (x := x) (d := d + 6) (p) hI) (Or.inl rfl) (fun k9 v9 T3 E3 nx3 kc3 ks3 hq2 hk3 hv3 => ?_)
  rcases hq2 with hq2 | hq2
  · obtain ⟨rfl, rfl, rfl, rfl, hz4⟩ := hq2
    exact Or.inr (Or.inr (Or.inl ⟨rfl, rfl, Or.inl ⟨rfl, rfl, rfl, hI, hF, hN, trivial⟩, by omega, by omega⟩))
  obtain ⟨rfl, rfl, rfl, rfl, b8, rfl, hz4⟩ := hq2
  have hb9 : 41 ≤ b8 ∧ b8 ≤ 77 ∧ b8 % 4 = 1 := by omega
  refine Or.inr (Or.inl ⟨rfl, ?_⟩)
  refine w_astore (i := 3) (npc := 6) (loc' := [cr 0, ai_i p, ai_i m, cr b8, ai_un]) rfl rfl rfl ?_
  refine w_aload (i := 3) (npc := 7) (v := cr b8) rfl rfl rfl ?_
  refine w_iload (i := 2) (npc := 8) rfl rfl ?_
  refine w_const (n := 100) (npc := 10) rfl ?_
  refine w_idiv (npc := 11) rfl (by omega) (by omega) (fun z10 hz10 hz10b hz10c => ?_)
  refine w_iload (i := 2) (npc := 12) rfl rfl ?_
  refine w_const (n := 100) (npc := 14) rfl ?_
  refine w_irem (npc := 15) rfl (by omega) (by omega) (fun z11 hz11 hz11b => ?_)
  refine w_virt (ci := 3) (i := b8) (npc := 18) (a := [cr b8, ai_i z10, ai_i z11]) (rest := []) rfl rfl (hI.pl (by omega)) (hI.pgT0 hb9) rfl rfl rfl rfl (ct_pg_stepOf (sl := sl) (x := x) (d := d + 5) (z10) (z11) (b := b8) hb9 hI) (Or.inl rfl) (fun k9 v9 T13 E13 nx13 kc13 ks13 hq12 hk13 hv13 => ?_)
  obtain ⟨rfl, rfl, rfl, rfl, hq12⟩ := hq12
  obtain rfl : kc3 = kc13 := by omega
  obtain rfl : ks3 = ks13 := by omega
  rcases hq12 with rfl | ⟨q18, rfl, hs19, hz14⟩
  · refine Or.inr (Or.inl ⟨rfl, ?_⟩)
    refine w_astore (i := 4) (npc := 20) (loc' := [cr 0, ai_i p, ai_i m, cr b8, ai_nul]) rfl rfl rfl ?_
    refine w_aload (i := 4) (npc := 22) (v := ai_nul) rfl rfl rfl ?_
    refine w_isnullN (pt := 33) (npc := 25) rfl ?_
    exact w_throw (k := 2) rfl (Or.inl ⟨rfl, rfl, rfl, hI, hF, hN, trivial⟩) (by omega) (by omega)
  refine Or.inr (Or.inl ⟨rfl, ?_⟩)
  refine w_astore (i := 4) (npc := 20) (loc' := [cr 0, ai_i p, ai_i m, cr b8, cr q18]) rfl rfl rfl ?_
  refine w_aload (i := 4) (npc := 22) (v := cr q18) rfl rfl rfl ?_
  refine w_isnullR (pt := 33) (npc := 25) rfl ?_
  refine w_aload (i := 4) (npc := 27) (v := cr q18) rfl rfl rfl ?_
  refine w_virt (ci := 4) (i := q18) (npc := 30) (a := [cr q18]) (rest := []) rfl rfl hs19.lt hs19.T0 rfl rfl rfl rfl (ct_sp_kind (sl := sl) (x := x) (d := d + 5)  hs19) (Or.inl rfl) (fun k9 v9 T21 E21 nx21 kc21 ks21 hq20 hk21 hv21 => ?_)
  obtain ⟨rfl, rfl, rfl, rfl, z22, rfl, hz22⟩ := hq20
  obtain rfl : kc3 = kc21 := by omega
  obtain rfl : ks3 = ks21 := by omega
  refine Or.inr (Or.inl ⟨rfl, ?_⟩)
  refine w_if (c := .eq) (npc := 33) (pt := 44) rfl (fun hc26 => ?_) (fun hc26 => ?_)
  · replace hc26 : z22 = (0 : Int) := hc26
    refine w_aload (i := 0) (npc := 45) (v := cr 0) rfl rfl rfl ?_
    refine w_iload (i := 1) (npc := 46) rfl rfl ?_
    refine w_virt (ci := 7) (i := 0) (npc := 49) (a := [cr 0, ai_i p]) (rest := []) rfl rfl (hI.pl (by decide)) (hI.T (by decide) rfl) rfl rfl rfl rfl (ct_c_viewOf (sl := sl) (x := x) (d := d + 0) (p) hI (by omega)) (Or.inl rfl) (fun k9 v9 T28 E28 nx28 kc28 ks28 hq27 hk28 hv28 => ?_)
    obtain ⟨rfl, rfl, rfl, hI30, hG31, rfl, hz29⟩ := hq27
    obtain rfl : kc3 = kc28 := by omega
    obtain rfl : ks3 = ks28 := by omega
    have hF33 := cm_fr.trans hF hG31 (by intro i k h; (try simp only at h); (try simp only); omega)
    have hN34 := hN.fr hG31 (by intro i k h; (try simp only at h); omega)
    have hs35 := hs19.fr hG31 (by intro i k h; (try simp only at h); omega)
    have hz36 : E28 0 10 = ai_i z1 := (hG31 0 10 (by first | omega | (simp; done) | (simp; omega) | (simp only; omega))).trans hz1
    have ghz36 := gv_eq hz36
    refine Or.inr (Or.inl ⟨rfl, ?_⟩)
    refine w_aload (i := 3) (npc := 50) (v := cr b8) rfl rfl rfl ?_
    refine w_aload (i := 0) (npc := 51) (v := cr 0) rfl rfl rfl ?_
    refine w_getf (i := 0) (ci := 7) (k := 10) (npc := 54) rfl (hI30.pl (by decide)) (hI30.T (by decide) rfl) (by decide) hz36 ?_
    refine w_aload (i := 4) (npc := 56) (v := cr q18) rfl rfl rfl ?_
    refine w_virt (ci := 4) (i := q18) (npc := 59) (a := [cr q18]) (rest := [ai_i z1, cr b8, cr 6]) rfl rfl hs35.lt hs35.T0 rfl rfl rfl rfl (ct_sp_writer (sl := sl) (x := x) (d := d + 5)  hs35) (Or.inl rfl) (fun k9 v9 T38 E38 nx38 kc38 ks38 hq37 hk38 hv38 => ?_)
    obtain ⟨rfl, rfl, rfl, rfl, z39, rfl, hz39⟩ := hq37
    obtain rfl : kc3 = kc38 := by omega
    obtain rfl : ks3 = ks38 := by omega
    refine Or.inr (Or.inl ⟨rfl, ?_⟩)
    refine w_aload (i := 4) (npc := 61) (v := cr q18) rfl rfl rfl ?_
    refine w_virt (ci := 4) (i := q18) (npc := 64) (a := [cr q18]) (rest := [ai_i z39, ai_i z1, cr b8, cr 6]) rfl rfl hs35.lt hs35.T0 rfl rfl rfl rfl (ct_sp_number (sl := sl) (x := x) (d := d + 5)  hs35) (Or.inl rfl) (fun k9 v9 T44 E44 nx44 kc44 ks44 hq43 hk44 hv44 => ?_)
    obtain ⟨rfl, rfl, rfl, rfl, z45, rfl, hz45⟩ := hq43
    obtain rfl : kc3 = kc44 := by omega
    obtain rfl : ks3 = ks44 := by omega
    refine Or.inr (Or.inl ⟨rfl, ?_⟩)
    refine w_call (npc := 67) (a := [ai_i z39, ai_i z45]) (rest := [ai_i z1, cr b8, cr 6]) rfl rfl rfl rfl rfl (ct_c_slotOf (sl := sl) (x := x) (d := d + 6) (z39) (z45) (by omega) (by omega)) (Or.inr (fun _ _ _ _ _ hq => by have h1 := hq.1; omega)) (fun k9 v9 T50 E50 nx50 kc50 ks50 hq49 hk50 hv50 => ?_)
    obtain ⟨rfl, rfl, rfl, rfl, z51, rfl, hz51⟩ := hq49
    obtain rfl : kc3 = kc50 := by omega
    obtain rfl : ks3 = ks50 := by omega
    refine Or.inr (Or.inl ⟨rfl, ?_⟩)
    refine w_virt (ci := 6) (i := 6) (npc := 70) (a := [cr 6, cr b8, ai_i z1, ai_i z51]) (rest := []) rfl rfl (hI30.pl (by decide)) (hI30.T (by decide) rfl) rfl rfl rfl rfl (ct_vw_isGone (sl := sl) (x := x) (d := d + 2) (z1) (z51) (b := b8) hb9 hI30 (by omega) (by omega)) (Or.inl rfl) (fun k9 v9 T56 E56 nx56 kc56 ks56 hq55 hk56 hv56 => ?_)
    obtain ⟨rfl, rfl, rfl, hI58, hG59, z57, rfl, hz57⟩ := hq55
    obtain rfl : kc3 = kc56 := by omega
    obtain rfl : ks3 = ks56 := by omega
    have hF61 := cm_fr.trans hF33 hG59 (by intro i k h; (try simp only at h); (try simp only); omega)
    have hN62 := hN34.fr hG59 (by intro i k h; (try simp only at h); omega)
    have hs63 := hs35.fr hG59 (by intro i k h; (try simp only at h); omega)
    have hz64 : E56 0 10 = ai_i z1 := (hG59 0 10 (by first | omega | (simp; done) | (simp; omega) | (simp only; omega))).trans hz36
    have ghz64 := gv_eq hz64
    refine Or.inr (Or.inl ⟨rfl, ?_⟩)
    exact w_zret rfl (by omega) (Or.inr (⟨rfl, rfl, rfl, hI58, hF61, hN62, z57, rfl, by omega⟩)) (by omega) (by omega)
  · replace hc26 : ¬ (z22 = (0 : Int)) := hc26
    exact w_throw (k := 2) rfl (Or.inl ⟨rfl, rfl, rfl, hI, hF, hN, trivial⟩) (by omega) (by omega)
set_option maxRecDepth 16384 in
theorem ct_c_say {sl : Int × Int} {x : ai_E} {d : Nat} {T : cm_T} {E : cm_E} {nx : Nat} (g : Int)  (hI : cs_I T E nx) (hN : hn E) : cm_ct (ai_ev sl (d + 2)) x 30 [cr 0, ai_i g] T E nx 4 430 (fun rk rv T' E' nx' => rk = 1 ∧ T = T' ∧ nx = nx' ∧ cs_I T E' nx ∧ cm_fr (fun i k => i < 81 ∧ ¬ (i = 0 ∧ (k = 10 ∨ k = 11 ∨ k = 14)) ∧ ¬ (i = 23 ∧ (k = 9))) E E' ∧ hn E' ∧ ∃ z : Int, rv = ai_i z ∧ ((z = -1 ∧ (gv E 23 8 = 12 ∨ ¬ (32 ≤ g ∧ g ≤ 126)) ∧ gv E' 23 8 = gv E 23 8) ∨ (z = gv E 23 8 + 1 ∧ gv E 23 8 ≤ 11 ∧ 32 ≤ g ∧ g ≤ 126 ∧ gv E' 23 8 = gv E 23 8 + 1))) := by
  refine cm_body (M := ai_m30) rfl rfl (fun kc ks => ?_)
  show cm_wp (ai_find ai_c30 sl) (ai_ev sl (d + 1)) x (kc + 4) (ks + 430) _ 0 [cr 0, ai_i g] [] T E nx kc ks
  have hF : cm_fr (fun i k => i < 81 ∧ ¬ (i = 0 ∧ (k = 10 ∨ k = 11 ∨ k = 14)) ∧ ¬ (i = 23 ∧ (k = 9))) E E := fun _ _ _ => rfl
  refine w_iload (i := 1) (npc := 1) rfl rfl ?_
  obtain ⟨z1, hz1, hz1a, hz1b⟩ := hI.int 23 8 (lo := 0) (hi := 12) (by decide) (by decide) rfl
  have ghz1 := gv_eq hz1
  refine w_call (npc := 4) (a := [ai_i g]) (rest := []) rfl rfl rfl rfl rfl (ct_c_isSign (sl := sl) (x := x) (d := d + 0) (g)) (Or.inr (fun _ _ _ _ _ hq => by have h1 := hq.1; omega)) (fun k9 v9 T3 E3 nx3 kc3 ks3 hq2 hk3 hv3 => ?_)
  obtain ⟨rfl, rfl, rfl, rfl, z4, rfl, hz4⟩ := hq2
  obtain rfl : kc = kc3 := by omega
  obtain rfl : ks = ks3 := by omega
  refine Or.inr (Or.inl ⟨rfl, ?_⟩)
  refine w_if (c := .eq) (npc := 7) (pt := 28) rfl (fun hc8 => ?_) (fun hc8 => ?_)
  · replace hc8 : z4 = (0 : Int) := hc8
    refine w_aload (i := 0) (npc := 29) (v := cr 0) rfl rfl rfl ?_
    refine w_const (n := 2) (npc := 30) rfl ?_
    refine w_virt (ci := 7) (i := 0) (npc := 33) (a := [cr 0, ai_i 2]) (rest := []) rfl rfl (hI.pl (by decide)) (hI.T (by decide) rfl) rfl rfl rfl rfl (ct_c_refuse (sl := sl) (x := x) (d := d + 0) (2) hI (by omega)) (Or.inl rfl) (fun k9 v9 T10 E10 nx10 kc10 ks10 hq9 hk10 hv10 => ?_)
    obtain ⟨rfl, rfl, rfl, hI12, hG13, z11, rfl, hz11⟩ := hq9
    obtain rfl : kc = kc10 := by omega
    obtain rfl : ks = ks10 := by omega
    have hF15 := cm_fr.trans hF hG13 (by intro i k h; (try simp only at h); (try simp only); omega)
    have hN16 := hN.fr hG13 (by intro i k h; (try simp only at h); omega)
    have hz17 : E10 23 8 = ai_i z1 := (hG13 23 8 (by first | omega | (simp; done) | (simp; omega) | (simp only; omega))).trans hz1
    have ghz17 := gv_eq hz17
    refine Or.inr (Or.inl ⟨rfl, ?_⟩)
    exact w_iret rfl (⟨rfl, rfl, rfl, hI12, hF15, hN16, z11, rfl, by omega⟩) (by omega) (by omega)
  · replace hc8 : ¬ (z4 = (0 : Int)) := hc8
    refine w_aload (i := 0) (npc := 8) (v := cr 0) rfl rfl rfl ?_
    refine w_getf (i := 0) (ci := 7) (k := 9) (npc := 11) rfl (hI.pl (by decide)) (hI.T (by decide) rfl) (by decide) (hI.ref 0 9 (p := 23) (by decide) (by decide) rfl) ?_
    refine w_iload (i := 1) (npc := 12) rfl rfl ?_
    refine w_virt (ci := 5) (i := 23) (npc := 15) (a := [cr 23, ai_i g]) (rest := []) rfl rfl (hI.pl (by decide)) (hI.T (by decide) rfl) rfl rfl rfl rfl (ct_ty_addSign (sl := sl) (x := x) (d := d + 0) (g) hI (by omega)) (Or.inl rfl) (fun k9 v9 T19 E19 nx19 kc19 ks19 hq18 hk19 hv19 => ?_)
    obtain ⟨rfl, rfl, rfl, hI21, hG22, z20, rfl, hz20⟩ := hq18
    obtain rfl : kc = kc19 := by omega
    obtain rfl : ks = ks19 := by omega
    have hF24 := cm_fr.trans hF hG22 (by intro i k h; (try simp only at h); (try simp only); omega)
    have hN25 := hN.fr hG22 (by intro i k h; (try simp only at h); omega)
    refine Or.inr (Or.inl ⟨rfl, ?_⟩)
    refine w_if (c := .eq) (npc := 18) (pt := 28) rfl (fun hc26 => ?_) (fun hc26 => ?_)
    · replace hc26 : z20 = (0 : Int) := hc26
      refine w_aload (i := 0) (npc := 29) (v := cr 0) rfl rfl rfl ?_
      refine w_const (n := 2) (npc := 30) rfl ?_
      obtain ⟨z27, hz27, hz27a, hz27b⟩ := hI21.int 23 8 (lo := 0) (hi := 12) (by decide) (by decide) rfl
      have ghz27 := gv_eq hz27
      refine w_virt (ci := 7) (i := 0) (npc := 33) (a := [cr 0, ai_i 2]) (rest := []) rfl rfl (hI21.pl (by decide)) (hI21.T (by decide) rfl) rfl rfl rfl rfl (ct_c_refuse (sl := sl) (x := x) (d := d + 0) (2) hI21 (by omega)) (Or.inl rfl) (fun k9 v9 T29 E29 nx29 kc29 ks29 hq28 hk29 hv29 => ?_)
      obtain ⟨rfl, rfl, rfl, hI31, hG32, z30, rfl, hz30⟩ := hq28
      obtain rfl : kc = kc29 := by omega
      obtain rfl : ks = ks29 := by omega
      have hF34 := cm_fr.trans hF24 hG32 (by intro i k h; (try simp only at h); (try simp only); omega)
      have hN35 := hN25.fr hG32 (by intro i k h; (try simp only at h); omega)
      have hz36 : E29 23 8 = ai_i z27 := (hG32 23 8 (by first | omega | (simp; done) | (simp; omega) | (simp only; omega))).trans hz27
      have ghz36 := gv_eq hz36
      refine Or.inr (Or.inl ⟨rfl, ?_⟩)
      exact w_iret rfl (⟨rfl, rfl, rfl, hI31, hF34, hN35, z30, rfl, by omega⟩) (by omega) (by omega)
    · replace hc26 : ¬ (z20 = (0 : Int)) := hc26
      refine w_aload (i := 0) (npc := 19) (v := cr 0) rfl rfl rfl ?_
      refine w_getf (i := 0) (ci := 7) (k := 9) (npc := 22) rfl (hI21.pl (by decide)) (hI21.T (by decide) rfl) (by decide) (hI21.ref 0 9 (p := 23) (by decide) (by decide) rfl) ?_
      obtain ⟨z37, hz37, hz37a, hz37b⟩ := hI21.int 23 8 (lo := 0) (hi := 12) (by decide) (by decide) rfl
      have ghz37 := gv_eq hz37
      refine w_getf (i := 23) (ci := 5) (k := 8) (npc := 25) rfl (hI21.pl (by decide)) (hI21.T (by decide) rfl) (by decide) hz37 ?_
      refine w_goto (pt := 33) rfl ?_
      exact w_iret rfl (⟨rfl, rfl, rfl, hI21, hF24, hN25, z37, rfl, by omega⟩) (by omega) (by omega)
set_option maxRecDepth 16384 in
theorem ct_c_act {sl : Int × Int} {x : ai_E} {d : Nat} {T : cm_T} {E : cm_E} {nx : Nat} (p l g : Int)  (hI : cs_I T E nx) (hN : hn E) : cm_ct (ai_ev sl (d + 2)) x 2 [cr 0, ai_i p, ai_i l, ai_i g] T E nx 4 430 (fun rk rv T' E' nx' => rk = 1 ∧ T = T' ∧ nx = nx' ∧ cs_I T E' nx ∧ cm_fr (fun i k => i < 81 ∧ ¬ (i = 0 ∧ (k = 10 ∨ k = 11 ∨ k = 14)) ∧ ¬ (i = 23 ∧ (k = 8))) E E' ∧ hn E' ∧ ∃ z : Int, rv = ai_i z ∧ ((z = -1 ∧ (gv E 23 9 = 8 ∨ ¬ (0 ≤ p ∧ p ≤ 2 ∧ 0 ≤ l ∧ l ≤ 7 ∧ (g = -1 ∨ (32 ≤ g ∧ g ≤ 126)))) ∧ gv E' 23 9 = gv E 23 9) ∨ (z = gv E 23 9 + 1 ∧ gv E 23 9 ≤ 7 ∧ (0 ≤ p ∧ p ≤ 2 ∧ 0 ≤ l ∧ l ≤ 7 ∧ (g = -1 ∨ (32 ≤ g ∧ g ≤ 126))) ∧ gv E' 23 9 = gv E 23 9 + 1))) := by
  refine cm_body (M := ai_m2) rfl rfl (fun kc ks => ?_)
  show cm_wp (ai_find ai_c2 sl) (ai_ev sl (d + 1)) x (kc + 4) (ks + 430) _ 0 [cr 0, ai_i p, ai_i l, ai_i g, ai_un] [] T E nx kc ks
  have hF : cm_fr (fun i k => i < 81 ∧ ¬ (i = 0 ∧ (k = 10 ∨ k = 11 ∨ k = 14)) ∧ ¬ (i = 23 ∧ (k = 8))) E E := fun _ _ _ => rfl
  refine w_iload (i := 1) (npc := 1) rfl rfl ?_
  refine w_if (c := .lt) (npc := 4) (pt := 35) rfl (fun hc1 => ?_) (fun hc1 => ?_)
  · replace hc1 : p < (0 : Int) := hc1
    refine w_const (n := 0) (npc := 36) rfl ?_
    refine w_istore (i := 4) (npc := 38) (loc' := [cr 0, ai_i p, ai_i l, ai_i g, ai_i 0]) rfl rfl ?_
    refine w_iload (i := 4) (npc := 40) rfl rfl ?_
    refine w_if (c := .eq) (npc := 43) (pt := 66) rfl (fun hc2 => ?_) (fun hc2 => ?_)
    · replace hc2 : (0 : Int) = 0 := hc2
      refine w_aload (i := 0) (npc := 67) (v := cr 0) rfl rfl rfl ?_
      refine w_const (n := 2) (npc := 68) rfl ?_
      obtain ⟨z3, hz3, hz3a, hz3b⟩ := hI.int 23 9 (lo := 0) (hi := 8) (by decide) (by decide) rfl
      have ghz3 := gv_eq hz3
      refine w_virt (ci := 7) (i := 0) (npc := 71) (a := [cr 0, ai_i 2]) (rest := []) rfl rfl (hI.pl (by decide)) (hI.T (by decide) rfl) rfl rfl rfl rfl (ct_c_refuse (sl := sl) (x := x) (d := d + 0) (2) hI (by omega)) (Or.inl rfl) (fun k9 v9 T5 E5 nx5 kc5 ks5 hq4 hk5 hv5 => ?_)
      obtain ⟨rfl, rfl, rfl, hI7, hG8, z6, rfl, hz6⟩ := hq4
      obtain rfl : kc = kc5 := by omega
      obtain rfl : ks = ks5 := by omega
      have hF10 := cm_fr.trans hF hG8 (by intro i k h; (try simp only at h); (try simp only); omega)
      have hN11 := hN.fr hG8 (by intro i k h; (try simp only at h); omega)
      have hz12 : E5 23 9 = ai_i z3 := (hG8 23 9 (by first | omega | (simp; done) | (simp; omega) | (simp only; omega))).trans hz3
      have ghz12 := gv_eq hz12
      refine Or.inr (Or.inl ⟨rfl, ?_⟩)
      exact w_iret rfl (⟨rfl, rfl, rfl, hI7, hF10, hN11, z6, rfl, by omega⟩) (by omega) (by omega)
    · replace hc2 : ¬ ((0 : Int) = 0) := hc2
      refine w_aload (i := 0) (npc := 44) (v := cr 0) rfl rfl rfl ?_
      refine w_getf (i := 0) (ci := 7) (k := 9) (npc := 47) rfl (hI.pl (by decide)) (hI.T (by decide) rfl) (by decide) (hI.ref 0 9 (p := 23) (by decide) (by decide) rfl) ?_
      refine w_iload (i := 1) (npc := 48) rfl rfl ?_
      refine w_iload (i := 2) (npc := 49) rfl rfl ?_
      refine w_iload (i := 3) (npc := 50) rfl rfl ?_
      obtain ⟨z13, hz13, hz13a, hz13b⟩ := hI.int 23 9 (lo := 0) (hi := 8) (by decide) (by decide) rfl
      have ghz13 := gv_eq hz13
      refine w_virt (ci := 5) (i := 23) (npc := 53) (a := [cr 23, ai_i p, ai_i l, ai_i g]) (rest := []) rfl rfl (hI.pl (by decide)) (hI.T (by decide) rfl) rfl rfl rfl rfl (ct_ty_addAct (sl := sl) (x := x) (d := d + 0) (p) (l) (g) hI (by omega) (by omega) (by omega)) (Or.inl rfl) (fun k9 v9 T15 E15 nx15 kc15 ks15 hq14 hk15 hv15 => ?_)
      obtain ⟨rfl, rfl, rfl, hI17, hG18, z16, rfl, hz16⟩ := hq14
      obtain rfl : kc = kc15 := by omega
      obtain rfl : ks = ks15 := by omega
      have hF20 := cm_fr.trans hF hG18 (by intro i k h; (try simp only at h); (try simp only); omega)
      have hN21 := hN.fr hG18 (by intro i k h; (try simp only at h); omega)
      refine Or.inr (Or.inl ⟨rfl, ?_⟩)
      refine w_if (c := .eq) (npc := 56) (pt := 66) rfl (fun hc22 => ?_) (fun hc22 => ?_)
      · replace hc22 : z16 = (0 : Int) := hc22
        refine w_aload (i := 0) (npc := 67) (v := cr 0) rfl rfl rfl ?_
        refine w_const (n := 2) (npc := 68) rfl ?_
        obtain ⟨z23, hz23, hz23a, hz23b⟩ := hI17.int 23 9 (lo := 0) (hi := 8) (by decide) (by decide) rfl
        have ghz23 := gv_eq hz23
        refine w_virt (ci := 7) (i := 0) (npc := 71) (a := [cr 0, ai_i 2]) (rest := []) rfl rfl (hI17.pl (by decide)) (hI17.T (by decide) rfl) rfl rfl rfl rfl (ct_c_refuse (sl := sl) (x := x) (d := d + 0) (2) hI17 (by omega)) (Or.inl rfl) (fun k9 v9 T25 E25 nx25 kc25 ks25 hq24 hk25 hv25 => ?_)
        obtain ⟨rfl, rfl, rfl, hI27, hG28, z26, rfl, hz26⟩ := hq24
        obtain rfl : kc = kc25 := by omega
        obtain rfl : ks = ks25 := by omega
        have hF30 := cm_fr.trans hF20 hG28 (by intro i k h; (try simp only at h); (try simp only); omega)
        have hN31 := hN21.fr hG28 (by intro i k h; (try simp only at h); omega)
        have hz32 : E25 23 9 = ai_i z23 := (hG28 23 9 (by first | omega | (simp; done) | (simp; omega) | (simp only; omega))).trans hz23
        have ghz32 := gv_eq hz32
        refine Or.inr (Or.inl ⟨rfl, ?_⟩)
        exact w_iret rfl (⟨rfl, rfl, rfl, hI27, hF30, hN31, z26, rfl, by omega⟩) (by omega) (by omega)
      · replace hc22 : ¬ (z16 = (0 : Int)) := hc22
        refine w_aload (i := 0) (npc := 57) (v := cr 0) rfl rfl rfl ?_
        refine w_getf (i := 0) (ci := 7) (k := 9) (npc := 60) rfl (hI17.pl (by decide)) (hI17.T (by decide) rfl) (by decide) (hI17.ref 0 9 (p := 23) (by decide) (by decide) rfl) ?_
        obtain ⟨z33, hz33, hz33a, hz33b⟩ := hI17.int 23 9 (lo := 0) (hi := 8) (by decide) (by decide) rfl
        have ghz33 := gv_eq hz33
        refine w_getf (i := 23) (ci := 5) (k := 9) (npc := 63) rfl (hI17.pl (by decide)) (hI17.T (by decide) rfl) (by decide) hz33 ?_
        refine w_goto (pt := 71) rfl ?_
        exact w_iret rfl (⟨rfl, rfl, rfl, hI17, hF20, hN21, z33, rfl, by omega⟩) (by omega) (by omega)
  · replace hc1 : ¬ (p < (0 : Int)) := hc1
    refine w_iload (i := 1) (npc := 5) rfl rfl ?_
    refine w_const (n := 3) (npc := 6) rfl ?_
    refine w_icmp (c := .ge) (npc := 9) (pt := 35) rfl (fun hc34 => ?_) (fun hc34 => ?_)
    · replace hc34 : (3 : Int) ≤ p := hc34
      refine w_const (n := 0) (npc := 36) rfl ?_
      refine w_istore (i := 4) (npc := 38) (loc' := [cr 0, ai_i p, ai_i l, ai_i g, ai_i 0]) rfl rfl ?_
      refine w_iload (i := 4) (npc := 40) rfl rfl ?_
      refine w_if (c := .eq) (npc := 43) (pt := 66) rfl (fun hc35 => ?_) (fun hc35 => ?_)
      · replace hc35 : (0 : Int) = 0 := hc35
        refine w_aload (i := 0) (npc := 67) (v := cr 0) rfl rfl rfl ?_
        refine w_const (n := 2) (npc := 68) rfl ?_
        obtain ⟨z36, hz36, hz36a, hz36b⟩ := hI.int 23 9 (lo := 0) (hi := 8) (by decide) (by decide) rfl
        have ghz36 := gv_eq hz36
        refine w_virt (ci := 7) (i := 0) (npc := 71) (a := [cr 0, ai_i 2]) (rest := []) rfl rfl (hI.pl (by decide)) (hI.T (by decide) rfl) rfl rfl rfl rfl (ct_c_refuse (sl := sl) (x := x) (d := d + 0) (2) hI (by omega)) (Or.inl rfl) (fun k9 v9 T38 E38 nx38 kc38 ks38 hq37 hk38 hv38 => ?_)
        obtain ⟨rfl, rfl, rfl, hI40, hG41, z39, rfl, hz39⟩ := hq37
        obtain rfl : kc = kc38 := by omega
        obtain rfl : ks = ks38 := by omega
        have hF43 := cm_fr.trans hF hG41 (by intro i k h; (try simp only at h); (try simp only); omega)
        have hN44 := hN.fr hG41 (by intro i k h; (try simp only at h); omega)
        have hz45 : E38 23 9 = ai_i z36 := (hG41 23 9 (by first | omega | (simp; done) | (simp; omega) | (simp only; omega))).trans hz36
        have ghz45 := gv_eq hz45
        refine Or.inr (Or.inl ⟨rfl, ?_⟩)
        exact w_iret rfl (⟨rfl, rfl, rfl, hI40, hF43, hN44, z39, rfl, by omega⟩) (by omega) (by omega)
      · replace hc35 : ¬ ((0 : Int) = 0) := hc35
        refine w_aload (i := 0) (npc := 44) (v := cr 0) rfl rfl rfl ?_
        refine w_getf (i := 0) (ci := 7) (k := 9) (npc := 47) rfl (hI.pl (by decide)) (hI.T (by decide) rfl) (by decide) (hI.ref 0 9 (p := 23) (by decide) (by decide) rfl) ?_
        refine w_iload (i := 1) (npc := 48) rfl rfl ?_
        refine w_iload (i := 2) (npc := 49) rfl rfl ?_
        refine w_iload (i := 3) (npc := 50) rfl rfl ?_
        obtain ⟨z46, hz46, hz46a, hz46b⟩ := hI.int 23 9 (lo := 0) (hi := 8) (by decide) (by decide) rfl
        have ghz46 := gv_eq hz46
        refine w_virt (ci := 5) (i := 23) (npc := 53) (a := [cr 23, ai_i p, ai_i l, ai_i g]) (rest := []) rfl rfl (hI.pl (by decide)) (hI.T (by decide) rfl) rfl rfl rfl rfl (ct_ty_addAct (sl := sl) (x := x) (d := d + 0) (p) (l) (g) hI (by omega) (by omega) (by omega)) (Or.inl rfl) (fun k9 v9 T48 E48 nx48 kc48 ks48 hq47 hk48 hv48 => ?_)
        obtain ⟨rfl, rfl, rfl, hI50, hG51, z49, rfl, hz49⟩ := hq47
        obtain rfl : kc = kc48 := by omega
        obtain rfl : ks = ks48 := by omega
        have hF53 := cm_fr.trans hF hG51 (by intro i k h; (try simp only at h); (try simp only); omega)
        have hN54 := hN.fr hG51 (by intro i k h; (try simp only at h); omega)
        refine Or.inr (Or.inl ⟨rfl, ?_⟩)
        refine w_if (c := .eq) (npc := 56) (pt := 66) rfl (fun hc55 => ?_) (fun hc55 => ?_)
        · replace hc55 : z49 = (0 : Int) := hc55
          refine w_aload (i := 0) (npc := 67) (v := cr 0) rfl rfl rfl ?_
          refine w_const (n := 2) (npc := 68) rfl ?_
          obtain ⟨z56, hz56, hz56a, hz56b⟩ := hI50.int 23 9 (lo := 0) (hi := 8) (by decide) (by decide) rfl
          have ghz56 := gv_eq hz56
          refine w_virt (ci := 7) (i := 0) (npc := 71) (a := [cr 0, ai_i 2]) (rest := []) rfl rfl (hI50.pl (by decide)) (hI50.T (by decide) rfl) rfl rfl rfl rfl (ct_c_refuse (sl := sl) (x := x) (d := d + 0) (2) hI50 (by omega)) (Or.inl rfl) (fun k9 v9 T58 E58 nx58 kc58 ks58 hq57 hk58 hv58 => ?_)
          obtain ⟨rfl, rfl, rfl, hI60, hG61, z59, rfl, hz59⟩ := hq57
          obtain rfl : kc = kc58 := by omega
          obtain rfl : ks = ks58 := by omega
          have hF63 := cm_fr.trans hF53 hG61 (by intro i k h; (try simp only at h); (try simp only); omega)
          have hN64 := hN54.fr hG61 (by intro i k h; (try simp only at h); omega)
          have hz65 : E58 23 9 = ai_i z56 := (hG61 23 9 (by first | omega | (simp; done) | (simp; omega) | (simp only; omega))).trans hz56
          have ghz65 := gv_eq hz65
          refine Or.inr (Or.inl ⟨rfl, ?_⟩)
          exact w_iret rfl (⟨rfl, rfl, rfl, hI60, hF63, hN64, z59, rfl, by omega⟩) (by omega) (by omega)
        · replace hc55 : ¬ (z49 = (0 : Int)) := hc55
          refine w_aload (i := 0) (npc := 57) (v := cr 0) rfl rfl rfl ?_
          refine w_getf (i := 0) (ci := 7) (k := 9) (npc := 60) rfl (hI50.pl (by decide)) (hI50.T (by decide) rfl) (by decide) (hI50.ref 0 9 (p := 23) (by decide) (by decide) rfl) ?_
          obtain ⟨z66, hz66, hz66a, hz66b⟩ := hI50.int 23 9 (lo := 0) (hi := 8) (by decide) (by decide) rfl
          have ghz66 := gv_eq hz66
          refine w_getf (i := 23) (ci := 5) (k := 9) (npc := 63) rfl (hI50.pl (by decide)) (hI50.T (by decide) rfl) (by decide) hz66 ?_
          refine w_goto (pt := 71) rfl ?_
          exact w_iret rfl (⟨rfl, rfl, rfl, hI50, hF53, hN54, z66, rfl, by omega⟩) (by omega) (by omega)
    · replace hc34 : ¬ ((3 : Int) ≤ p) := hc34
      refine w_iload (i := 2) (npc := 10) rfl rfl ?_
      refine w_if (c := .lt) (npc := 13) (pt := 35) rfl (fun hc67 => ?_) (fun hc67 => ?_)
      · replace hc67 : l < (0 : Int) := hc67
        refine w_const (n := 0) (npc := 36) rfl ?_
        refine w_istore (i := 4) (npc := 38) (loc' := [cr 0, ai_i p, ai_i l, ai_i g, ai_i 0]) rfl rfl ?_
        refine w_iload (i := 4) (npc := 40) rfl rfl ?_
        refine w_if (c := .eq) (npc := 43) (pt := 66) rfl (fun hc68 => ?_) (fun hc68 => ?_)
        · replace hc68 : (0 : Int) = 0 := hc68
          refine w_aload (i := 0) (npc := 67) (v := cr 0) rfl rfl rfl ?_
          refine w_const (n := 2) (npc := 68) rfl ?_
          obtain ⟨z69, hz69, hz69a, hz69b⟩ := hI.int 23 9 (lo := 0) (hi := 8) (by decide) (by decide) rfl
          have ghz69 := gv_eq hz69
          refine w_virt (ci := 7) (i := 0) (npc := 71) (a := [cr 0, ai_i 2]) (rest := []) rfl rfl (hI.pl (by decide)) (hI.T (by decide) rfl) rfl rfl rfl rfl (ct_c_refuse (sl := sl) (x := x) (d := d + 0) (2) hI (by omega)) (Or.inl rfl) (fun k9 v9 T71 E71 nx71 kc71 ks71 hq70 hk71 hv71 => ?_)
          obtain ⟨rfl, rfl, rfl, hI73, hG74, z72, rfl, hz72⟩ := hq70
          obtain rfl : kc = kc71 := by omega
          obtain rfl : ks = ks71 := by omega
          have hF76 := cm_fr.trans hF hG74 (by intro i k h; (try simp only at h); (try simp only); omega)
          have hN77 := hN.fr hG74 (by intro i k h; (try simp only at h); omega)
          have hz78 : E71 23 9 = ai_i z69 := (hG74 23 9 (by first | omega | (simp; done) | (simp; omega) | (simp only; omega))).trans hz69
          have ghz78 := gv_eq hz78
          refine Or.inr (Or.inl ⟨rfl, ?_⟩)
          exact w_iret rfl (⟨rfl, rfl, rfl, hI73, hF76, hN77, z72, rfl, by omega⟩) (by omega) (by omega)
        · replace hc68 : ¬ ((0 : Int) = 0) := hc68
          refine w_aload (i := 0) (npc := 44) (v := cr 0) rfl rfl rfl ?_
          refine w_getf (i := 0) (ci := 7) (k := 9) (npc := 47) rfl (hI.pl (by decide)) (hI.T (by decide) rfl) (by decide) (hI.ref 0 9 (p := 23) (by decide) (by decide) rfl) ?_
          refine w_iload (i := 1) (npc := 48) rfl rfl ?_
          refine w_iload (i := 2) (npc := 49) rfl rfl ?_
          refine w_iload (i := 3) (npc := 50) rfl rfl ?_
          obtain ⟨z79, hz79, hz79a, hz79b⟩ := hI.int 23 9 (lo := 0) (hi := 8) (by decide) (by decide) rfl
          have ghz79 := gv_eq hz79
          refine w_virt (ci := 5) (i := 23) (npc := 53) (a := [cr 23, ai_i p, ai_i l, ai_i g]) (rest := []) rfl rfl (hI.pl (by decide)) (hI.T (by decide) rfl) rfl rfl rfl rfl (ct_ty_addAct (sl := sl) (x := x) (d := d + 0) (p) (l) (g) hI (by omega) (by omega) (by omega)) (Or.inl rfl) (fun k9 v9 T81 E81 nx81 kc81 ks81 hq80 hk81 hv81 => ?_)
          obtain ⟨rfl, rfl, rfl, hI83, hG84, z82, rfl, hz82⟩ := hq80
          obtain rfl : kc = kc81 := by omega
          obtain rfl : ks = ks81 := by omega
          have hF86 := cm_fr.trans hF hG84 (by intro i k h; (try simp only at h); (try simp only); omega)
          have hN87 := hN.fr hG84 (by intro i k h; (try simp only at h); omega)
          refine Or.inr (Or.inl ⟨rfl, ?_⟩)
          refine w_if (c := .eq) (npc := 56) (pt := 66) rfl (fun hc88 => ?_) (fun hc88 => ?_)
          · replace hc88 : z82 = (0 : Int) := hc88
            refine w_aload (i := 0) (npc := 67) (v := cr 0) rfl rfl rfl ?_
            refine w_const (n := 2) (npc := 68) rfl ?_
            obtain ⟨z89, hz89, hz89a, hz89b⟩ := hI83.int 23 9 (lo := 0) (hi := 8) (by decide) (by decide) rfl
            have ghz89 := gv_eq hz89
            refine w_virt (ci := 7) (i := 0) (npc := 71) (a := [cr 0, ai_i 2]) (rest := []) rfl rfl (hI83.pl (by decide)) (hI83.T (by decide) rfl) rfl rfl rfl rfl (ct_c_refuse (sl := sl) (x := x) (d := d + 0) (2) hI83 (by omega)) (Or.inl rfl) (fun k9 v9 T91 E91 nx91 kc91 ks91 hq90 hk91 hv91 => ?_)
            obtain ⟨rfl, rfl, rfl, hI93, hG94, z92, rfl, hz92⟩ := hq90
            obtain rfl : kc = kc91 := by omega
            obtain rfl : ks = ks91 := by omega
            have hF96 := cm_fr.trans hF86 hG94 (by intro i k h; (try simp only at h); (try simp only); omega)
            have hN97 := hN87.fr hG94 (by intro i k h; (try simp only at h); omega)
            have hz98 : E91 23 9 = ai_i z89 := (hG94 23 9 (by first | omega | (simp; done) | (simp; omega) | (simp only; omega))).trans hz89
            have ghz98 := gv_eq hz98
            refine Or.inr (Or.inl ⟨rfl, ?_⟩)
            exact w_iret rfl (⟨rfl, rfl, rfl, hI93, hF96, hN97, z92, rfl, by omega⟩) (by omega) (by omega)
          · replace hc88 : ¬ (z82 = (0 : Int)) := hc88
            refine w_aload (i := 0) (npc := 57) (v := cr 0) rfl rfl rfl ?_
            refine w_getf (i := 0) (ci := 7) (k := 9) (npc := 60) rfl (hI83.pl (by decide)) (hI83.T (by decide) rfl) (by decide) (hI83.ref 0 9 (p := 23) (by decide) (by decide) rfl) ?_
            obtain ⟨z99, hz99, hz99a, hz99b⟩ := hI83.int 23 9 (lo := 0) (hi := 8) (by decide) (by decide) rfl
            have ghz99 := gv_eq hz99
            refine w_getf (i := 23) (ci := 5) (k := 9) (npc := 63) rfl (hI83.pl (by decide)) (hI83.T (by decide) rfl) (by decide) hz99 ?_
            refine w_goto (pt := 71) rfl ?_
            exact w_iret rfl (⟨rfl, rfl, rfl, hI83, hF86, hN87, z99, rfl, by omega⟩) (by omega) (by omega)
      · replace hc67 : ¬ (l < (0 : Int)) := hc67
        refine w_iload (i := 2) (npc := 14) rfl rfl ?_
        refine w_const (n := 8) (npc := 16) rfl ?_
        refine w_icmp (c := .ge) (npc := 19) (pt := 35) rfl (fun hc100 => ?_) (fun hc100 => ?_)
        · replace hc100 : (8 : Int) ≤ l := hc100
          refine w_const (n := 0) (npc := 36) rfl ?_
          refine w_istore (i := 4) (npc := 38) (loc' := [cr 0, ai_i p, ai_i l, ai_i g, ai_i 0]) rfl rfl ?_
          refine w_iload (i := 4) (npc := 40) rfl rfl ?_
          refine w_if (c := .eq) (npc := 43) (pt := 66) rfl (fun hc101 => ?_) (fun hc101 => ?_)
          · replace hc101 : (0 : Int) = 0 := hc101
            refine w_aload (i := 0) (npc := 67) (v := cr 0) rfl rfl rfl ?_
            refine w_const (n := 2) (npc := 68) rfl ?_
            obtain ⟨z102, hz102, hz102a, hz102b⟩ := hI.int 23 9 (lo := 0) (hi := 8) (by decide) (by decide) rfl
            have ghz102 := gv_eq hz102
            refine w_virt (ci := 7) (i := 0) (npc := 71) (a := [cr 0, ai_i 2]) (rest := []) rfl rfl (hI.pl (by decide)) (hI.T (by decide) rfl) rfl rfl rfl rfl (ct_c_refuse (sl := sl) (x := x) (d := d + 0) (2) hI (by omega)) (Or.inl rfl) (fun k9 v9 T104 E104 nx104 kc104 ks104 hq103 hk104 hv104 => ?_)
            obtain ⟨rfl, rfl, rfl, hI106, hG107, z105, rfl, hz105⟩ := hq103
            obtain rfl : kc = kc104 := by omega
            obtain rfl : ks = ks104 := by omega
            have hF109 := cm_fr.trans hF hG107 (by intro i k h; (try simp only at h); (try simp only); omega)
            have hN110 := hN.fr hG107 (by intro i k h; (try simp only at h); omega)
            have hz111 : E104 23 9 = ai_i z102 := (hG107 23 9 (by first | omega | (simp; done) | (simp; omega) | (simp only; omega))).trans hz102
            have ghz111 := gv_eq hz111
            refine Or.inr (Or.inl ⟨rfl, ?_⟩)
            exact w_iret rfl (⟨rfl, rfl, rfl, hI106, hF109, hN110, z105, rfl, by omega⟩) (by omega) (by omega)
          · replace hc101 : ¬ ((0 : Int) = 0) := hc101
            refine w_aload (i := 0) (npc := 44) (v := cr 0) rfl rfl rfl ?_
            refine w_getf (i := 0) (ci := 7) (k := 9) (npc := 47) rfl (hI.pl (by decide)) (hI.T (by decide) rfl) (by decide) (hI.ref 0 9 (p := 23) (by decide) (by decide) rfl) ?_
            refine w_iload (i := 1) (npc := 48) rfl rfl ?_
            refine w_iload (i := 2) (npc := 49) rfl rfl ?_
            refine w_iload (i := 3) (npc := 50) rfl rfl ?_
            obtain ⟨z112, hz112, hz112a, hz112b⟩ := hI.int 23 9 (lo := 0) (hi := 8) (by decide) (by decide) rfl
            have ghz112 := gv_eq hz112
            refine w_virt (ci := 5) (i := 23) (npc := 53) (a := [cr 23, ai_i p, ai_i l, ai_i g]) (rest := []) rfl rfl (hI.pl (by decide)) (hI.T (by decide) rfl) rfl rfl rfl rfl (ct_ty_addAct (sl := sl) (x := x) (d := d + 0) (p) (l) (g) hI (by omega) (by omega) (by omega)) (Or.inl rfl) (fun k9 v9 T114 E114 nx114 kc114 ks114 hq113 hk114 hv114 => ?_)
            obtain ⟨rfl, rfl, rfl, hI116, hG117, z115, rfl, hz115⟩ := hq113
            obtain rfl : kc = kc114 := by omega
            obtain rfl : ks = ks114 := by omega
            have hF119 := cm_fr.trans hF hG117 (by intro i k h; (try simp only at h); (try simp only); omega)
            have hN120 := hN.fr hG117 (by intro i k h; (try simp only at h); omega)
            refine Or.inr (Or.inl ⟨rfl, ?_⟩)
            refine w_if (c := .eq) (npc := 56) (pt := 66) rfl (fun hc121 => ?_) (fun hc121 => ?_)
            · replace hc121 : z115 = (0 : Int) := hc121
              refine w_aload (i := 0) (npc := 67) (v := cr 0) rfl rfl rfl ?_
              refine w_const (n := 2) (npc := 68) rfl ?_
              obtain ⟨z122, hz122, hz122a, hz122b⟩ := hI116.int 23 9 (lo := 0) (hi := 8) (by decide) (by decide) rfl
              have ghz122 := gv_eq hz122
              refine w_virt (ci := 7) (i := 0) (npc := 71) (a := [cr 0, ai_i 2]) (rest := []) rfl rfl (hI116.pl (by decide)) (hI116.T (by decide) rfl) rfl rfl rfl rfl (ct_c_refuse (sl := sl) (x := x) (d := d + 0) (2) hI116 (by omega)) (Or.inl rfl) (fun k9 v9 T124 E124 nx124 kc124 ks124 hq123 hk124 hv124 => ?_)
              obtain ⟨rfl, rfl, rfl, hI126, hG127, z125, rfl, hz125⟩ := hq123
              obtain rfl : kc = kc124 := by omega
              obtain rfl : ks = ks124 := by omega
              have hF129 := cm_fr.trans hF119 hG127 (by intro i k h; (try simp only at h); (try simp only); omega)
              have hN130 := hN120.fr hG127 (by intro i k h; (try simp only at h); omega)
              have hz131 : E124 23 9 = ai_i z122 := (hG127 23 9 (by first | omega | (simp; done) | (simp; omega) | (simp only; omega))).trans hz122
              have ghz131 := gv_eq hz131
              refine Or.inr (Or.inl ⟨rfl, ?_⟩)
              exact w_iret rfl (⟨rfl, rfl, rfl, hI126, hF129, hN130, z125, rfl, by omega⟩) (by omega) (by omega)
            · replace hc121 : ¬ (z115 = (0 : Int)) := hc121
              refine w_aload (i := 0) (npc := 57) (v := cr 0) rfl rfl rfl ?_
              refine w_getf (i := 0) (ci := 7) (k := 9) (npc := 60) rfl (hI116.pl (by decide)) (hI116.T (by decide) rfl) (by decide) (hI116.ref 0 9 (p := 23) (by decide) (by decide) rfl) ?_
              obtain ⟨z132, hz132, hz132a, hz132b⟩ := hI116.int 23 9 (lo := 0) (hi := 8) (by decide) (by decide) rfl
              have ghz132 := gv_eq hz132
              refine w_getf (i := 23) (ci := 5) (k := 9) (npc := 63) rfl (hI116.pl (by decide)) (hI116.T (by decide) rfl) (by decide) hz132 ?_
              refine w_goto (pt := 71) rfl ?_
              exact w_iret rfl (⟨rfl, rfl, rfl, hI116, hF119, hN120, z132, rfl, by omega⟩) (by omega) (by omega)
        · replace hc100 : ¬ ((8 : Int) ≤ l) := hc100
          refine w_iload (i := 3) (npc := 20) rfl rfl ?_
          refine w_const (n := (-1)) (npc := 21) rfl ?_
          refine w_icmp (c := .eq) (npc := 24) (pt := 31) rfl (fun hc133 => ?_) (fun hc133 => ?_)
          · replace hc133 : g = ((-1) : Int) := hc133
            refine w_const (n := 1) (npc := 32) rfl ?_
            refine w_goto (pt := 36) rfl ?_
            refine w_istore (i := 4) (npc := 38) (loc' := [cr 0, ai_i p, ai_i l, ai_i g, ai_i 1]) rfl rfl ?_
            refine w_iload (i := 4) (npc := 40) rfl rfl ?_
            refine w_if (c := .eq) (npc := 43) (pt := 66) rfl (fun hc134 => ?_) (fun hc134 => ?_)
            · replace hc134 : (1 : Int) = 0 := hc134
              refine w_aload (i := 0) (npc := 67) (v := cr 0) rfl rfl rfl ?_
              refine w_const (n := 2) (npc := 68) rfl ?_
              obtain ⟨z135, hz135, hz135a, hz135b⟩ := hI.int 23 9 (lo := 0) (hi := 8) (by decide) (by decide) rfl
              have ghz135 := gv_eq hz135
              refine w_virt (ci := 7) (i := 0) (npc := 71) (a := [cr 0, ai_i 2]) (rest := []) rfl rfl (hI.pl (by decide)) (hI.T (by decide) rfl) rfl rfl rfl rfl (ct_c_refuse (sl := sl) (x := x) (d := d + 0) (2) hI (by omega)) (Or.inl rfl) (fun k9 v9 T137 E137 nx137 kc137 ks137 hq136 hk137 hv137 => ?_)
              obtain ⟨rfl, rfl, rfl, hI139, hG140, z138, rfl, hz138⟩ := hq136
              obtain rfl : kc = kc137 := by omega
              obtain rfl : ks = ks137 := by omega
              have hF142 := cm_fr.trans hF hG140 (by intro i k h; (try simp only at h); (try simp only); omega)
              have hN143 := hN.fr hG140 (by intro i k h; (try simp only at h); omega)
              have hz144 : E137 23 9 = ai_i z135 := (hG140 23 9 (by first | omega | (simp; done) | (simp; omega) | (simp only; omega))).trans hz135
              have ghz144 := gv_eq hz144
              refine Or.inr (Or.inl ⟨rfl, ?_⟩)
              exact w_iret rfl (⟨rfl, rfl, rfl, hI139, hF142, hN143, z138, rfl, by omega⟩) (by omega) (by omega)
            · replace hc134 : ¬ ((1 : Int) = 0) := hc134
              refine w_aload (i := 0) (npc := 44) (v := cr 0) rfl rfl rfl ?_
              refine w_getf (i := 0) (ci := 7) (k := 9) (npc := 47) rfl (hI.pl (by decide)) (hI.T (by decide) rfl) (by decide) (hI.ref 0 9 (p := 23) (by decide) (by decide) rfl) ?_
              refine w_iload (i := 1) (npc := 48) rfl rfl ?_
              refine w_iload (i := 2) (npc := 49) rfl rfl ?_
              refine w_iload (i := 3) (npc := 50) rfl rfl ?_
              obtain ⟨z145, hz145, hz145a, hz145b⟩ := hI.int 23 9 (lo := 0) (hi := 8) (by decide) (by decide) rfl
              have ghz145 := gv_eq hz145
              refine w_virt (ci := 5) (i := 23) (npc := 53) (a := [cr 23, ai_i p, ai_i l, ai_i g]) (rest := []) rfl rfl (hI.pl (by decide)) (hI.T (by decide) rfl) rfl rfl rfl rfl (ct_ty_addAct (sl := sl) (x := x) (d := d + 0) (p) (l) (g) hI (by omega) (by omega) (by omega)) (Or.inl rfl) (fun k9 v9 T147 E147 nx147 kc147 ks147 hq146 hk147 hv147 => ?_)
              obtain ⟨rfl, rfl, rfl, hI149, hG150, z148, rfl, hz148⟩ := hq146
              obtain rfl : kc = kc147 := by omega
              obtain rfl : ks = ks147 := by omega
              have hF152 := cm_fr.trans hF hG150 (by intro i k h; (try simp only at h); (try simp only); omega)
              have hN153 := hN.fr hG150 (by intro i k h; (try simp only at h); omega)
              refine Or.inr (Or.inl ⟨rfl, ?_⟩)
              refine w_if (c := .eq) (npc := 56) (pt := 66) rfl (fun hc154 => ?_) (fun hc154 => ?_)
              · replace hc154 : z148 = (0 : Int) := hc154
                refine w_aload (i := 0) (npc := 67) (v := cr 0) rfl rfl rfl ?_
                refine w_const (n := 2) (npc := 68) rfl ?_
                obtain ⟨z155, hz155, hz155a, hz155b⟩ := hI149.int 23 9 (lo := 0) (hi := 8) (by decide) (by decide) rfl
                have ghz155 := gv_eq hz155
                refine w_virt (ci := 7) (i := 0) (npc := 71) (a := [cr 0, ai_i 2]) (rest := []) rfl rfl (hI149.pl (by decide)) (hI149.T (by decide) rfl) rfl rfl rfl rfl (ct_c_refuse (sl := sl) (x := x) (d := d + 0) (2) hI149 (by omega)) (Or.inl rfl) (fun k9 v9 T157 E157 nx157 kc157 ks157 hq156 hk157 hv157 => ?_)
                obtain ⟨rfl, rfl, rfl, hI159, hG160, z158, rfl, hz158⟩ := hq156
                obtain rfl : kc = kc157 := by omega
                obtain rfl : ks = ks157 := by omega
                have hF162 := cm_fr.trans hF152 hG160 (by intro i k h; (try simp only at h); (try simp only); omega)
                have hN163 := hN153.fr hG160 (by intro i k h; (try simp only at h); omega)
                have hz164 : E157 23 9 = ai_i z155 := (hG160 23 9 (by first | omega | (simp; done) | (simp; omega) | (simp only; omega))).trans hz155
                have ghz164 := gv_eq hz164
                refine Or.inr (Or.inl ⟨rfl, ?_⟩)
                exact w_iret rfl (⟨rfl, rfl, rfl, hI159, hF162, hN163, z158, rfl, by omega⟩) (by omega) (by omega)
              · replace hc154 : ¬ (z148 = (0 : Int)) := hc154
                refine w_aload (i := 0) (npc := 57) (v := cr 0) rfl rfl rfl ?_
                refine w_getf (i := 0) (ci := 7) (k := 9) (npc := 60) rfl (hI149.pl (by decide)) (hI149.T (by decide) rfl) (by decide) (hI149.ref 0 9 (p := 23) (by decide) (by decide) rfl) ?_
                obtain ⟨z165, hz165, hz165a, hz165b⟩ := hI149.int 23 9 (lo := 0) (hi := 8) (by decide) (by decide) rfl
                have ghz165 := gv_eq hz165
                refine w_getf (i := 23) (ci := 5) (k := 9) (npc := 63) rfl (hI149.pl (by decide)) (hI149.T (by decide) rfl) (by decide) hz165 ?_
                refine w_goto (pt := 71) rfl ?_
                exact w_iret rfl (⟨rfl, rfl, rfl, hI149, hF152, hN153, z165, rfl, by omega⟩) (by omega) (by omega)
          · replace hc133 : ¬ (g = ((-1) : Int)) := hc133
            refine w_iload (i := 3) (npc := 25) rfl rfl ?_
            obtain ⟨z166, hz166, hz166a, hz166b⟩ := hI.int 23 9 (lo := 0) (hi := 8) (by decide) (by decide) rfl
            have ghz166 := gv_eq hz166
            refine w_call (npc := 28) (a := [ai_i g]) (rest := []) rfl rfl rfl rfl rfl (ct_c_isSign (sl := sl) (x := x) (d := d + 0) (g)) (Or.inr (fun _ _ _ _ _ hq => by have h1 := hq.1; omega)) (fun k9 v9 T168 E168 nx168 kc168 ks168 hq167 hk168 hv168 => ?_)
            obtain ⟨rfl, rfl, rfl, rfl, z169, rfl, hz169⟩ := hq167
            obtain rfl : kc = kc168 := by omega
            obtain rfl : ks = ks168 := by omega
            refine Or.inr (Or.inl ⟨rfl, ?_⟩)
            refine w_if (c := .eq) (npc := 31) (pt := 35) rfl (fun hc173 => ?_) (fun hc173 => ?_)
            · replace hc173 : z169 = (0 : Int) := hc173
              refine w_const (n := 0) (npc := 36) rfl ?_
              refine w_istore (i := 4) (npc := 38) (loc' := [cr 0, ai_i p, ai_i l, ai_i g, ai_i 0]) rfl rfl ?_
              refine w_iload (i := 4) (npc := 40) rfl rfl ?_
              refine w_if (c := .eq) (npc := 43) (pt := 66) rfl (fun hc174 => ?_) (fun hc174 => ?_)
              · replace hc174 : (0 : Int) = 0 := hc174
                refine w_aload (i := 0) (npc := 67) (v := cr 0) rfl rfl rfl ?_
                refine w_const (n := 2) (npc := 68) rfl ?_
                refine w_virt (ci := 7) (i := 0) (npc := 71) (a := [cr 0, ai_i 2]) (rest := []) rfl rfl (hI.pl (by decide)) (hI.T (by decide) rfl) rfl rfl rfl rfl (ct_c_refuse (sl := sl) (x := x) (d := d + 0) (2) hI (by omega)) (Or.inl rfl) (fun k9 v9 T176 E176 nx176 kc176 ks176 hq175 hk176 hv176 => ?_)
                obtain ⟨rfl, rfl, rfl, hI178, hG179, z177, rfl, hz177⟩ := hq175
                obtain rfl : kc = kc176 := by omega
                obtain rfl : ks = ks176 := by omega
                have hF181 := cm_fr.trans hF hG179 (by intro i k h; (try simp only at h); (try simp only); omega)
                have hN182 := hN.fr hG179 (by intro i k h; (try simp only at h); omega)
                have hz183 : E176 23 9 = ai_i z166 := (hG179 23 9 (by first | omega | (simp; done) | (simp; omega) | (simp only; omega))).trans hz166
                have ghz183 := gv_eq hz183
                refine Or.inr (Or.inl ⟨rfl, ?_⟩)
                exact w_iret rfl (⟨rfl, rfl, rfl, hI178, hF181, hN182, z177, rfl, by omega⟩) (by omega) (by omega)
              · replace hc174 : ¬ ((0 : Int) = 0) := hc174
                refine w_aload (i := 0) (npc := 44) (v := cr 0) rfl rfl rfl ?_
                refine w_getf (i := 0) (ci := 7) (k := 9) (npc := 47) rfl (hI.pl (by decide)) (hI.T (by decide) rfl) (by decide) (hI.ref 0 9 (p := 23) (by decide) (by decide) rfl) ?_
                refine w_iload (i := 1) (npc := 48) rfl rfl ?_
                refine w_iload (i := 2) (npc := 49) rfl rfl ?_
                refine w_iload (i := 3) (npc := 50) rfl rfl ?_
                refine w_virt (ci := 5) (i := 23) (npc := 53) (a := [cr 23, ai_i p, ai_i l, ai_i g]) (rest := []) rfl rfl (hI.pl (by decide)) (hI.T (by decide) rfl) rfl rfl rfl rfl (ct_ty_addAct (sl := sl) (x := x) (d := d + 0) (p) (l) (g) hI (by omega) (by omega) (by omega)) (Or.inl rfl) (fun k9 v9 T185 E185 nx185 kc185 ks185 hq184 hk185 hv185 => ?_)
                obtain ⟨rfl, rfl, rfl, hI187, hG188, z186, rfl, hz186⟩ := hq184
                obtain rfl : kc = kc185 := by omega
                obtain rfl : ks = ks185 := by omega
                have hF190 := cm_fr.trans hF hG188 (by intro i k h; (try simp only at h); (try simp only); omega)
                have hN191 := hN.fr hG188 (by intro i k h; (try simp only at h); omega)
                refine Or.inr (Or.inl ⟨rfl, ?_⟩)
                refine w_if (c := .eq) (npc := 56) (pt := 66) rfl (fun hc192 => ?_) (fun hc192 => ?_)
                · replace hc192 : z186 = (0 : Int) := hc192
                  refine w_aload (i := 0) (npc := 67) (v := cr 0) rfl rfl rfl ?_
                  refine w_const (n := 2) (npc := 68) rfl ?_
                  obtain ⟨z193, hz193, hz193a, hz193b⟩ := hI187.int 23 9 (lo := 0) (hi := 8) (by decide) (by decide) rfl
                  have ghz193 := gv_eq hz193
                  refine w_virt (ci := 7) (i := 0) (npc := 71) (a := [cr 0, ai_i 2]) (rest := []) rfl rfl (hI187.pl (by decide)) (hI187.T (by decide) rfl) rfl rfl rfl rfl (ct_c_refuse (sl := sl) (x := x) (d := d + 0) (2) hI187 (by omega)) (Or.inl rfl) (fun k9 v9 T195 E195 nx195 kc195 ks195 hq194 hk195 hv195 => ?_)
                  obtain ⟨rfl, rfl, rfl, hI197, hG198, z196, rfl, hz196⟩ := hq194
                  obtain rfl : kc = kc195 := by omega
                  obtain rfl : ks = ks195 := by omega
                  have hF200 := cm_fr.trans hF190 hG198 (by intro i k h; (try simp only at h); (try simp only); omega)
                  have hN201 := hN191.fr hG198 (by intro i k h; (try simp only at h); omega)
                  have hz202 : E195 23 9 = ai_i z193 := (hG198 23 9 (by first | omega | (simp; done) | (simp; omega) | (simp only; omega))).trans hz193
                  have ghz202 := gv_eq hz202
                  refine Or.inr (Or.inl ⟨rfl, ?_⟩)
                  exact w_iret rfl (⟨rfl, rfl, rfl, hI197, hF200, hN201, z196, rfl, by omega⟩) (by omega) (by omega)
                · replace hc192 : ¬ (z186 = (0 : Int)) := hc192
                  refine w_aload (i := 0) (npc := 57) (v := cr 0) rfl rfl rfl ?_
                  refine w_getf (i := 0) (ci := 7) (k := 9) (npc := 60) rfl (hI187.pl (by decide)) (hI187.T (by decide) rfl) (by decide) (hI187.ref 0 9 (p := 23) (by decide) (by decide) rfl) ?_
                  obtain ⟨z203, hz203, hz203a, hz203b⟩ := hI187.int 23 9 (lo := 0) (hi := 8) (by decide) (by decide) rfl
                  have ghz203 := gv_eq hz203
                  refine w_getf (i := 23) (ci := 5) (k := 9) (npc := 63) rfl (hI187.pl (by decide)) (hI187.T (by decide) rfl) (by decide) hz203 ?_
                  refine w_goto (pt := 71) rfl ?_
                  exact w_iret rfl (⟨rfl, rfl, rfl, hI187, hF190, hN191, z203, rfl, by omega⟩) (by omega) (by omega)
            · replace hc173 : ¬ (z169 = (0 : Int)) := hc173
              refine w_const (n := 1) (npc := 32) rfl ?_
              refine w_goto (pt := 36) rfl ?_
              refine w_istore (i := 4) (npc := 38) (loc' := [cr 0, ai_i p, ai_i l, ai_i g, ai_i 1]) rfl rfl ?_
              refine w_iload (i := 4) (npc := 40) rfl rfl ?_
              refine w_if (c := .eq) (npc := 43) (pt := 66) rfl (fun hc204 => ?_) (fun hc204 => ?_)
              · replace hc204 : (1 : Int) = 0 := hc204
                refine w_aload (i := 0) (npc := 67) (v := cr 0) rfl rfl rfl ?_
                refine w_const (n := 2) (npc := 68) rfl ?_
                refine w_virt (ci := 7) (i := 0) (npc := 71) (a := [cr 0, ai_i 2]) (rest := []) rfl rfl (hI.pl (by decide)) (hI.T (by decide) rfl) rfl rfl rfl rfl (ct_c_refuse (sl := sl) (x := x) (d := d + 0) (2) hI (by omega)) (Or.inl rfl) (fun k9 v9 T206 E206 nx206 kc206 ks206 hq205 hk206 hv206 => ?_)
                obtain ⟨rfl, rfl, rfl, hI208, hG209, z207, rfl, hz207⟩ := hq205
                obtain rfl : kc = kc206 := by omega
                obtain rfl : ks = ks206 := by omega
                have hF211 := cm_fr.trans hF hG209 (by intro i k h; (try simp only at h); (try simp only); omega)
                have hN212 := hN.fr hG209 (by intro i k h; (try simp only at h); omega)
                have hz213 : E206 23 9 = ai_i z166 := (hG209 23 9 (by first | omega | (simp; done) | (simp; omega) | (simp only; omega))).trans hz166
                have ghz213 := gv_eq hz213
                refine Or.inr (Or.inl ⟨rfl, ?_⟩)
                exact w_iret rfl (⟨rfl, rfl, rfl, hI208, hF211, hN212, z207, rfl, by omega⟩) (by omega) (by omega)
              · replace hc204 : ¬ ((1 : Int) = 0) := hc204
                refine w_aload (i := 0) (npc := 44) (v := cr 0) rfl rfl rfl ?_
                refine w_getf (i := 0) (ci := 7) (k := 9) (npc := 47) rfl (hI.pl (by decide)) (hI.T (by decide) rfl) (by decide) (hI.ref 0 9 (p := 23) (by decide) (by decide) rfl) ?_
                refine w_iload (i := 1) (npc := 48) rfl rfl ?_
                refine w_iload (i := 2) (npc := 49) rfl rfl ?_
                refine w_iload (i := 3) (npc := 50) rfl rfl ?_
                refine w_virt (ci := 5) (i := 23) (npc := 53) (a := [cr 23, ai_i p, ai_i l, ai_i g]) (rest := []) rfl rfl (hI.pl (by decide)) (hI.T (by decide) rfl) rfl rfl rfl rfl (ct_ty_addAct (sl := sl) (x := x) (d := d + 0) (p) (l) (g) hI (by omega) (by omega) (by omega)) (Or.inl rfl) (fun k9 v9 T215 E215 nx215 kc215 ks215 hq214 hk215 hv215 => ?_)
                obtain ⟨rfl, rfl, rfl, hI217, hG218, z216, rfl, hz216⟩ := hq214
                obtain rfl : kc = kc215 := by omega
                obtain rfl : ks = ks215 := by omega
                have hF220 := cm_fr.trans hF hG218 (by intro i k h; (try simp only at h); (try simp only); omega)
                have hN221 := hN.fr hG218 (by intro i k h; (try simp only at h); omega)
                refine Or.inr (Or.inl ⟨rfl, ?_⟩)
                refine w_if (c := .eq) (npc := 56) (pt := 66) rfl (fun hc222 => ?_) (fun hc222 => ?_)
                · replace hc222 : z216 = (0 : Int) := hc222
                  refine w_aload (i := 0) (npc := 67) (v := cr 0) rfl rfl rfl ?_
                  refine w_const (n := 2) (npc := 68) rfl ?_
                  obtain ⟨z223, hz223, hz223a, hz223b⟩ := hI217.int 23 9 (lo := 0) (hi := 8) (by decide) (by decide) rfl
                  have ghz223 := gv_eq hz223
                  refine w_virt (ci := 7) (i := 0) (npc := 71) (a := [cr 0, ai_i 2]) (rest := []) rfl rfl (hI217.pl (by decide)) (hI217.T (by decide) rfl) rfl rfl rfl rfl (ct_c_refuse (sl := sl) (x := x) (d := d + 0) (2) hI217 (by omega)) (Or.inl rfl) (fun k9 v9 T225 E225 nx225 kc225 ks225 hq224 hk225 hv225 => ?_)
                  obtain ⟨rfl, rfl, rfl, hI227, hG228, z226, rfl, hz226⟩ := hq224
                  obtain rfl : kc = kc225 := by omega
                  obtain rfl : ks = ks225 := by omega
                  have hF230 := cm_fr.trans hF220 hG228 (by intro i k h; (try simp only at h); (try simp only); omega)
                  have hN231 := hN221.fr hG228 (by intro i k h; (try simp only at h); omega)
                  have hz232 : E225 23 9 = ai_i z223 := (hG228 23 9 (by first | omega | (simp; done) | (simp; omega) | (simp only; omega))).trans hz223
                  have ghz232 := gv_eq hz232
                  refine Or.inr (Or.inl ⟨rfl, ?_⟩)
                  exact w_iret rfl (⟨rfl, rfl, rfl, hI227, hF230, hN231, z226, rfl, by omega⟩) (by omega) (by omega)
                · replace hc222 : ¬ (z216 = (0 : Int)) := hc222
                  refine w_aload (i := 0) (npc := 57) (v := cr 0) rfl rfl rfl ?_
                  refine w_getf (i := 0) (ci := 7) (k := 9) (npc := 60) rfl (hI217.pl (by decide)) (hI217.T (by decide) rfl) (by decide) (hI217.ref 0 9 (p := 23) (by decide) (by decide) rfl) ?_
                  obtain ⟨z233, hz233, hz233a, hz233b⟩ := hI217.int 23 9 (lo := 0) (hi := 8) (by decide) (by decide) rfl
                  have ghz233 := gv_eq hz233
                  refine w_getf (i := 23) (ci := 5) (k := 9) (npc := 63) rfl (hI217.pl (by decide)) (hI217.T (by decide) rfl) (by decide) hz233 ?_
                  refine w_goto (pt := 71) rfl ?_
                  exact w_iret rfl (⟨rfl, rfl, rfl, hI217, hF220, hN221, z233, rfl, by omega⟩) (by omega) (by omega)
set_option maxRecDepth 16384 in
theorem ct_c_clear {sl : Int × Int} {x : ai_E} {d : Nat} {T : cm_T} {E : cm_E} {nx : Nat}  (hI : cs_I T E nx) (hN : hn E) : cm_ct (ai_ev sl (d + 2)) x 6 [cr 0] T E nx 4 430 (fun rk rv T' E' nx' => rk = 0 ∧ T = T' ∧ nx = nx' ∧ cs_I T E' nx ∧ cm_fr (fun i k => i < 81 ∧ ¬ (i = 0 ∧ (k = 10 ∨ k = 11 ∨ k = 14))) E E' ∧ hn E' ∧ (gv E' 23 8 = 0 ∧ gv E' 23 9 = 0)) := by
  refine cm_body (M := ai_m6) rfl rfl (fun kc ks => ?_)
  show cm_wp (ai_find ai_c6 sl) (ai_ev sl (d + 1)) x (kc + 4) (ks + 430) _ 0 [cr 0] [] T E nx kc ks
  have hF : cm_fr (fun i k => i < 81 ∧ ¬ (i = 0 ∧ (k = 10 ∨ k = 11 ∨ k = 14))) E E := fun _ _ _ => rfl
  refine w_aload (i := 0) (npc := 1) (v := cr 0) rfl rfl rfl ?_
  refine w_getf (i := 0) (ci := 7) (k := 9) (npc := 4) rfl (hI.pl (by decide)) (hI.T (by decide) rfl) (by decide) (hI.ref 0 9 (p := 23) (by decide) (by decide) rfl) ?_
  refine w_virt (ci := 5) (i := 23) (npc := 7) (a := [cr 23]) (rest := []) rfl rfl (hI.pl (by decide)) (hI.T (by decide) rfl) rfl rfl rfl rfl (ct_ty_empty (sl := sl) (x := x) (d := d + 0)  hI) (Or.inl rfl) (fun k9 v9 T2 E2 nx2 kc2 ks2 hq1 hk2 hv2 => ?_)
  obtain ⟨rfl, rfl, rfl, hI4, hG5, hz3⟩ := hq1
  obtain rfl : kc = kc2 := by omega
  obtain rfl : ks = ks2 := by omega
  have hF7 := cm_fr.trans hF hG5 (by intro i k h; (try simp only at h); (try simp only); omega)
  have hN8 := hN.fr hG5 (by intro i k h; (try simp only at h); omega)
  refine Or.inl ⟨rfl, ?_⟩
  exact w_vret rfl (⟨rfl, rfl, rfl, hI4, hF7, hN8, by omega⟩) (by omega) (by omega)
set_option maxRecDepth 16384 in
theorem ct_c_story {sl : Int × Int} {x : ai_E} {d : Nat} {T : cm_T} {E : cm_E} {nx : Nat} (c : Int)  (hI : cs_I T E nx) (hN : hn E) (hp0 : -2147483648 ≤ c ∧ c ≤ 2147483647) : cm_ct (ai_ev sl (d + 12)) x 37 [cr 0, ai_i c] T E nx 4 430 (fun rk rv T' E' nx' => (rk = 2 ∧ T = T' ∧ nx = nx' ∧ cs_I T E' nx ∧ cm_fr (fun i k => i < 81 ∧ ¬ (i = 0 ∧ (k = 10 ∨ k = 11 ∨ k = 14)) ∧ ¬ (i = 23 ∧ (k = 8 ∨ k = 9))) E E' ∧ hn E' ∧ (True)) ∨ (rk = 1 ∧ T = T' ∧ nx = nx' ∧ cs_I T E' nx ∧ cm_fr (fun i k => i < 81 ∧ ¬ (i = 0 ∧ (k = 10 ∨ k = 11 ∨ k = 14)) ∧ ¬ (i = 23 ∧ (k = 8 ∨ k = 9))) E E' ∧ hn E' ∧ ∃ z : Int, rv = ai_i z ∧ (True))) := by
  refine cm_body (M := ai_m37) rfl rfl (fun kc ks => ?_)
  show cm_wp (ai_find ai_c37 sl) (ai_ev sl (d + 11)) x (kc + 4) (ks + 430) _ 0 [cr 0, ai_i c] [] T E nx kc ks
  have hF : cm_fr (fun i k => i < 81 ∧ ¬ (i = 0 ∧ (k = 10 ∨ k = 11 ∨ k = 14)) ∧ ¬ (i = 23 ∧ (k = 8 ∨ k = 9))) E E := fun _ _ _ => rfl
  refine w_aload (i := 0) (npc := 1) (v := cr 0) rfl rfl rfl ?_
  refine w_getf (i := 0) (ci := 7) (k := 9) (npc := 4) rfl (hI.pl (by decide)) (hI.T (by decide) rfl) (by decide) (hI.ref 0 9 (p := 23) (by decide) (by decide) rfl) ?_
  refine w_virt (ci := 5) (i := 23) (npc := 7) (a := [cr 23]) (rest := []) rfl rfl (hI.pl (by decide)) (hI.T (by decide) rfl) rfl rfl rfl rfl (ct_ty_solve (sl := sl) (x := x) (d := d + 0)  hI) (Or.inl rfl) (fun k9 v9 T2 E2 nx2 kc2 ks2 hq1 hk2 hv2 => ?_)
  obtain ⟨rfl, rfl, rfl, hI4, hG5, hz3⟩ := hq1
  obtain rfl : kc = kc2 := by omega
  obtain rfl : ks = ks2 := by omega
  have hF7 := cm_fr.trans hF hG5 (by intro i k h; (try simp only at h); (try simp only); omega)
  have hN8 := hN.fr hG5 (by intro i k h; (try simp only at h); omega)
  refine Or.inl ⟨rfl, ?_⟩
  refine w_iload (i := 1) (npc := 8) rfl rfl ?_
  refine w_if (c := .ne) (npc := 11) (pt := 19) rfl (fun hc9 => ?_) (fun hc9 => ?_)
  · replace hc9 : c ≠ (0 : Int) := hc9
    refine w_iload (i := 1) (npc := 20) rfl rfl ?_
    refine w_const (n := 1) (npc := 21) rfl ?_
    refine w_icmp (c := .ne) (npc := 24) (pt := 32) rfl (fun hc10 => ?_) (fun hc10 => ?_)
    · replace hc10 : c ≠ (1 : Int) := hc10
      refine w_iload (i := 1) (npc := 33) rfl rfl ?_
      refine w_const (n := 10) (npc := 35) rfl ?_
      refine w_icmp (c := .lt) (npc := 38) (pt := 62) rfl (fun hc11 => ?_) (fun hc11 => ?_)
      · replace hc11 : c < (10 : Int) := hc11
        exact w_throw (k := 2) rfl (Or.inl ⟨rfl, rfl, rfl, hI4, hF7, hN8, trivial⟩) (by omega) (by omega)
      · replace hc11 : ¬ (c < (10 : Int)) := hc11
        refine w_iload (i := 1) (npc := 39) rfl rfl ?_
        refine w_const (n := 10) (npc := 41) rfl ?_
        refine w_isub (npc := 42) rfl (by omega) ?_
        refine w_aload (i := 0) (npc := 43) (v := cr 0) rfl rfl rfl ?_
        refine w_getf (i := 0) (ci := 7) (k := 9) (npc := 46) rfl (hI4.pl (by decide)) (hI4.T (by decide) rfl) (by decide) (hI4.ref 0 9 (p := 23) (by decide) (by decide) rfl) ?_
        obtain ⟨z13, hz13, hz13a, hz13b⟩ := hI4.int 23 9 (lo := 0) (hi := 8) (by decide) (by decide) rfl
        have ghz13 := gv_eq hz13
        refine w_getf (i := 23) (ci := 5) (k := 9) (npc := 49) rfl (hI4.pl (by decide)) (hI4.T (by decide) rfl) (by decide) hz13 ?_
        refine w_icmp (c := .ge) (npc := 52) (pt := 62) rfl (fun hc14 => ?_) (fun hc14 => ?_)
        · replace hc14 : z13 ≤ c - 10 := hc14
          exact w_throw (k := 2) rfl (Or.inl ⟨rfl, rfl, rfl, hI4, hF7, hN8, trivial⟩) (by omega) (by omega)
        · replace hc14 : ¬ (z13 ≤ c - 10) := hc14
          refine w_aload (i := 0) (npc := 53) (v := cr 0) rfl rfl rfl ?_
          refine w_getf (i := 0) (ci := 7) (k := 9) (npc := 56) rfl (hI4.pl (by decide)) (hI4.T (by decide) rfl) (by decide) (hI4.ref 0 9 (p := 23) (by decide) (by decide) rfl) ?_
          obtain ⟨z15, hz15, hz15a, hz15b⟩ := hI4.int 23 10 (lo := (-2147483648)) (hi := 2147483647) (by decide) (by decide) rfl
          have ghz15 := gv_eq hz15
          refine w_getf (i := 23) (ci := 5) (k := 10) (npc := 59) rfl (hI4.pl (by decide)) (hI4.T (by decide) rfl) (by decide) hz15 ?_
          refine w_if (c := .ne) (npc := 62) (pt := 73) rfl (fun hc16 => ?_) (fun hc16 => ?_)
          · replace hc16 : z15 ≠ (0 : Int) := hc16
            refine w_aload (i := 0) (npc := 74) (v := cr 0) rfl rfl rfl ?_
            refine w_getf (i := 0) (ci := 7) (k := 9) (npc := 77) rfl (hI4.pl (by decide)) (hI4.T (by decide) rfl) (by decide) (hI4.ref 0 9 (p := 23) (by decide) (by decide) rfl) ?_
            refine w_getf (i := 23) (ci := 5) (k := 5) (npc := 80) rfl (hI4.pl (by decide)) (hI4.T (by decide) rfl) (by decide) (hI4.ref 23 5 (p := 29) (by decide) (by decide) rfl) ?_
            refine w_iload (i := 1) (npc := 81) rfl rfl ?_
            refine w_const (n := 10) (npc := 83) rfl ?_
            refine w_isub (npc := 84) rfl (by omega) ?_
            obtain ⟨z18, hz18, hz18a, hz18b⟩ := hI4.int 29 (c - 10 : Int).toNat (lo := 0) (hi := 2) (by decide) (show (c - 10 : Int).toNat < 8 by omega) rfl
            have ghz18 := gv_eq hz18
            refine w_ald (i := 29) (t := 1) (n := 8) (npc := 85) rfl (hI4.pl (by decide)) (hI4.T (by decide) rfl) (by decide) rfl (by omega) hz18 ?_
            exact w_iret rfl (Or.inr (⟨rfl, rfl, rfl, hI4, hF7, hN8, z18, rfl, trivial⟩)) (by omega) (by omega)
          · replace hc16 : ¬ (z15 ≠ (0 : Int)) := hc16
            exact w_throw (k := 2) rfl (Or.inl ⟨rfl, rfl, rfl, hI4, hF7, hN8, trivial⟩) (by omega) (by omega)
    · replace hc10 : ¬ (c ≠ (1 : Int)) := hc10
      refine w_aload (i := 0) (npc := 25) (v := cr 0) rfl rfl rfl ?_
      refine w_getf (i := 0) (ci := 7) (k := 9) (npc := 28) rfl (hI4.pl (by decide)) (hI4.T (by decide) rfl) (by decide) (hI4.ref 0 9 (p := 23) (by decide) (by decide) rfl) ?_
      obtain ⟨z19, hz19, hz19a, hz19b⟩ := hI4.int 23 11 (lo := (-2147483648)) (hi := 2147483647) (by decide) (by decide) rfl
      have ghz19 := gv_eq hz19
      refine w_getf (i := 23) (ci := 5) (k := 11) (npc := 31) rfl (hI4.pl (by decide)) (hI4.T (by decide) rfl) (by decide) hz19 ?_
      exact w_iret rfl (Or.inr (⟨rfl, rfl, rfl, hI4, hF7, hN8, z19, rfl, trivial⟩)) (by omega) (by omega)
  · replace hc9 : ¬ (c ≠ (0 : Int)) := hc9
    refine w_aload (i := 0) (npc := 12) (v := cr 0) rfl rfl rfl ?_
    refine w_getf (i := 0) (ci := 7) (k := 9) (npc := 15) rfl (hI4.pl (by decide)) (hI4.T (by decide) rfl) (by decide) (hI4.ref 0 9 (p := 23) (by decide) (by decide) rfl) ?_
    obtain ⟨z20, hz20, hz20a, hz20b⟩ := hI4.int 23 10 (lo := (-2147483648)) (hi := 2147483647) (by decide) (by decide) rfl
    have ghz20 := gv_eq hz20
    refine w_getf (i := 23) (ci := 5) (k := 10) (npc := 18) rfl (hI4.pl (by decide)) (hI4.T (by decide) rfl) (by decide) hz20 ?_
    exact w_iret rfl (Or.inr (⟨rfl, rfl, rfl, hI4, hF7, hN8, z20, rfl, trivial⟩)) (by omega) (by omega)
set_option maxRecDepth 16384 in
theorem ct_c_image {sl : Int × Int} {x : ai_E} {d : Nat} {T : cm_T} {E : cm_E} {nx : Nat}  (hI : cs_I T E nx) (hN : hn E) : cm_ct (ai_ev sl (d + 2)) x 16 [cr 0] T E nx 4 430 (fun rk rv T' E' nx' => rk = 0 ∧ T = T' ∧ nx = nx' ∧ cs_I T E' nx ∧ cm_fr (fun i k => i < 81 ∧ ¬ (i = 0 ∧ (k = 10 ∨ k = 11)) ∧ ¬ (i = 23 ∧ (k = 8 ∨ k = 9))) E E' ∧ hn E' ∧ (gv E' 0 14 = 1)) := by
  refine cm_body (M := ai_m16) rfl rfl (fun kc ks => ?_)
  show cm_wp (ai_find ai_c16 sl) (ai_ev sl (d + 1)) x (kc + 4) (ks + 430) _ 0 [cr 0, ai_un] [] T E nx kc ks
  have hF : cm_fr (fun i k => i < 81 ∧ ¬ (i = 0 ∧ (k = 10 ∨ k = 11)) ∧ ¬ (i = 23 ∧ (k = 8 ∨ k = 9))) E E := fun _ _ _ => rfl
  refine w_const (n := 0) (npc := 1) rfl ?_
  refine w_istore (i := 1) (npc := 2) (loc' := [cr 0, ai_i 0]) rfl rfl ?_
  have loop2 : ∀ (nf : Nat) (w : Int) (Eq2 : cm_E), ((5 - w).toNat) < nf → cs_I T Eq2 nx → cm_fr (fun i k => i < 81 ∧ ¬ (i = 0 ∧ (k = 10 ∨ k = 11)) ∧ ¬ (i = 23 ∧ (k = 8 ∨ k = 9))) E Eq2 → hn Eq2 → (0 ≤ w ∧ w ≤ 5) → cm_wp (ai_find ai_c16 sl) (ai_ev sl (d + 1)) x (kc + 4) (ks + 430) (fun rk rv T' E' nx' => rk = 0 ∧ T = T' ∧ nx = nx' ∧ cs_I T E' nx ∧ cm_fr (fun i k => i < 81 ∧ ¬ (i = 0 ∧ (k = 10 ∨ k = 11)) ∧ ¬ (i = 23 ∧ (k = 8 ∨ k = 9))) E E' ∧ hn E' ∧ (gv E' 0 14 = 1)) 2 [cr 0, ai_i w] [] T Eq2 nx kc ks := by
    intro nf
    induction nf with
    | zero => intro w Eq2 hm; exact absurd hm (Nat.not_lt_zero _)
    | succ nf2 ih =>
      intro w Eq2 hm2 hI2 hF2 hN2 hv2
      have ih2 := ih; clear ih
      refine w_iload (i := 1) (npc := 3) rfl rfl ?_
      refine w_const (n := 5) (npc := 4) rfl ?_
      refine w_icmp (c := .ge) (npc := 7) (pt := 28) rfl (fun hc1 => ?_) (fun hc1 => ?_)
      · replace hc1 : (5 : Int) ≤ w := hc1
        refine w_aload (i := 0) (npc := 29) (v := cr 0) rfl rfl rfl ?_
        refine w_getf (i := 0) (ci := 7) (k := 2) (npc := 32) rfl (hI2.pl (by decide)) (hI2.T (by decide) rfl) (by decide) (hI2.ref 0 2 (p := 3) (by decide) (by decide) rfl) ?_
        refine w_const (n := 0) (npc := 33) rfl ?_
        refine w_aload (i := 0) (npc := 34) (v := cr 0) rfl rfl rfl ?_
        refine w_getf (i := 0) (ci := 7) (k := 3) (npc := 37) rfl (hI2.pl (by decide)) (hI2.T (by decide) rfl) (by decide) (hI2.ref 0 3 (p := 4) (by decide) (by decide) rfl) ?_
        refine w_const (n := 0) (npc := 38) rfl ?_
        refine w_const (n := 3) (npc := 39) rfl ?_
        refine w_copy (i := 3) (j := 4) (ni := 3) (nj := 3) (npc := 42) rfl (hI2.pl (by decide)) (hI2.pl (by decide)) (hI2.T (by decide) rfl) (hI2.T (by decide) rfl) (by omega) (by omega) (by omega) (by omega) (by omega) (by decide) ?_
        have hI3 := hI2.cp (i := 3) (j := 4) (sp := (0 : Int).toNat) (dp := (0 : Int).toNat) (n := (3 : Int).toNat) (lo := (-2147483648)) (hi := 2147483647) (by decide) (by decide) rfl (fun _ => rfl) (fun _ => rfl) (by omega)
        have hF5 := cm_cp_fr (i := 3) (j := 4) (sp := (0 : Int).toNat) (dp := (0 : Int).toNat) (n := (3 : Int).toNat) hF2 (fun k => by first | omega | (simp; done) | (simp; omega) | (simp only; omega))
        have hN6 := hn.fr (P := fun i _ => i = 4) (E' := (cm_cp Eq2 3 4 (0 : Int).toNat (0 : Int).toNat (3 : Int).toNat)) hN2 (fun i k hk => cm_cp_ne (fun q => hk q.1)) (by intro i k h; (try simp only at h); omega)
        generalize hE4 : cm_cp Eq2 3 4 (0 : Int).toNat (0 : Int).toNat (3 : Int).toNat = E2 at hI3 hF5 hN6 ⊢
        refine w_aload (i := 0) (npc := 43) (v := cr 0) rfl rfl rfl ?_
        refine w_const (n := 1) (npc := 44) rfl ?_
        refine w_putf (i := 0) (ci := 7) (k := 14) (t := 1) (npc := 47) rfl (hI3.pl (by decide)) (hI3.T (by decide) rfl) (by decide) (cm_fit1 (by omega)) ?_
        have hI8 := hI3.puti (i := 0) (k := 14) (z := 1) (lo := 0) (hi := 1) (by decide) rfl (by omega)
        have hF10 := cm_fr.up (i := 0) (k := 14) (v := ai_i 1) hF5 (by first | omega | (simp; done) | (simp; omega) | (simp only; omega))
        have hN11 := hn.wr (i := 0) (k := 14) (v := ai_i 1) hN6 (by omega)
        generalize hE9 : cm_up E2 0 14 (ai_i 1) = E7 at hI8 hF10 hN11 ⊢
        have hz12 : E7 0 14 = ai_i 1 := by rw [← hE9, cm_up_eq]
        have ghz12 := gv_eq hz12
        exact w_vret rfl (⟨rfl, rfl, rfl, hI8, hF10, hN11, by omega⟩) (by omega) (by omega)
      · replace hc1 : ¬ ((5 : Int) ≤ w) := hc1
        refine w_aload (i := 0) (npc := 8) (v := cr 0) rfl rfl rfl ?_
        refine w_getf (i := 0) (ci := 7) (k := 1) (npc := 11) rfl (hI2.pl (by decide)) (hI2.T (by decide) rfl) (by decide) (hI2.ref 0 1 (p := 2) (by decide) (by decide) rfl) ?_
        refine w_iload (i := 1) (npc := 12) rfl rfl ?_
        obtain ⟨b13, hb14e⟩ : ∃ b13 : Nat, b13 = 45 + 8 * (w : Int).toNat := ⟨_, rfl⟩
        have hb14 : 41 ≤ b13 ∧ b13 ≤ 77 ∧ b13 % 4 = 1 := by omega
        refine w_ald (i := 2) (t := 4) (n := 5) (npc := 13) rfl (hI2.pl (by decide)) (hI2.T (by decide) rfl) (by decide) rfl (by omega) (v := cr b13) (by rw [hb14e]; exact hI2.kept (by omega)) ?_
        refine w_aload (i := 0) (npc := 14) (v := cr 0) rfl rfl rfl ?_
        refine w_getf (i := 0) (ci := 7) (k := 0) (npc := 17) rfl (hI2.pl (by decide)) (hI2.T (by decide) rfl) (by decide) (hI2.ref 0 0 (p := 1) (by decide) (by decide) rfl) ?_
        refine w_iload (i := 1) (npc := 18) rfl rfl ?_
        obtain ⟨b15, hb16e⟩ : ∃ b15 : Nat, b15 = 41 + 8 * (w : Int).toNat := ⟨_, rfl⟩
        have hb16 : 41 ≤ b15 ∧ b15 ≤ 77 ∧ b15 % 4 = 1 := by omega
        refine w_ald (i := 1) (t := 4) (n := 5) (npc := 19) rfl (hI2.pl (by decide)) (hI2.T (by decide) rfl) (by decide) rfl (by omega) (v := cr b15) (by rw [hb16e]; exact hI2.pages (by omega)) ?_
        refine w_virt (ci := 3) (i := b13) (npc := 22) (a := [cr b13, cr b15]) (rest := []) rfl rfl (hI2.pl (by omega)) (hI2.pgT0 hb14) rfl rfl rfl rfl (ct_pg_copy (sl := sl) (x := x) (d := d + 0)  (b := b13) hb14 (a := b15) hb16 hI2 hN2 (by omega)) (Or.inl rfl) (fun k9 v9 T18 E18 nx18 kc18 ks18 hq17 hk18 hv18 => ?_)
        obtain ⟨rfl, rfl, rfl, hI20, hG21, hN22, hz19⟩ := hq17
        obtain rfl : kc = kc18 := by omega
        obtain rfl : ks = ks18 := by omega
        have hF23 := cm_fr.trans hF2 hG21 (by intro i k h; (try simp only at h); (try simp only); omega)
        refine Or.inl ⟨rfl, ?_⟩
        refine w_iinc (i := 1) (n := 1) (npc := 25) (loc' := [cr 0, ai_i (w + 1)]) rfl rfl (by omega) rfl ?_
        refine w_goto (pt := 2) rfl ?_
        exact ih2 (w + 1) E18 (by omega) hI20 hF23 hN22 (by omega)
  exact loop2 _ (0) E (Nat.lt_succ_self _) hI hF hN (by omega)
set_option maxRecDepth 16384 in
theorem ct_c_restore {sl : Int × Int} {x : ai_E} {d : Nat} {T : cm_T} {E : cm_E} {nx : Nat}  (hI : cs_I T E nx) (hN : hn E) : cm_ct (ai_ev sl (d + 2)) x 29 [cr 0] T E nx 4 430 (fun rk rv T' E' nx' => rk = 1 ∧ T = T' ∧ nx = nx' ∧ cs_I T E' nx ∧ cm_fr (fun i k => i < 81 ∧ ¬ (i = 0 ∧ (k = 10 ∨ k = 11 ∨ k = 14)) ∧ ¬ (i = 23 ∧ (k = 8 ∨ k = 9))) E E' ∧ hn E' ∧ ∃ z : Int, rv = ai_i z ∧ (z = gv E 0 14)) := by
  refine cm_body (M := ai_m29) rfl rfl (fun kc ks => ?_)
  show cm_wp (ai_find ai_c29 sl) (ai_ev sl (d + 1)) x (kc + 4) (ks + 430) _ 0 [cr 0, ai_un] [] T E nx kc ks
  have hF : cm_fr (fun i k => i < 81 ∧ ¬ (i = 0 ∧ (k = 10 ∨ k = 11 ∨ k = 14)) ∧ ¬ (i = 23 ∧ (k = 8 ∨ k = 9))) E E := fun _ _ _ => rfl
  obtain ⟨z1, hz1, hz1a, hz1b⟩ := hI.int 0 14 (lo := 0) (hi := 1) (by decide) (by decide) rfl
  have ghz1 := gv_eq hz1
  refine w_aload (i := 0) (npc := 1) (v := cr 0) rfl rfl rfl ?_
  refine w_getf (i := 0) (ci := 7) (k := 14) (npc := 4) rfl (hI.pl (by decide)) (hI.T (by decide) rfl) (by decide) hz1 ?_
  refine w_if (c := .ne) (npc := 7) (pt := 9) rfl (fun hc2 => ?_) (fun hc2 => ?_)
  · replace hc2 : z1 ≠ (0 : Int) := hc2
    refine w_const (n := 0) (npc := 10) rfl ?_
    refine w_istore (i := 1) (npc := 11) (loc' := [cr 0, ai_i 0]) rfl rfl ?_
    have loop11 : ∀ (nf : Nat) (w : Int) (Eq11 : cm_E), ((5 - w).toNat) < nf → cs_I T Eq11 nx → cm_fr (fun i k => i < 81 ∧ ¬ (i = 0 ∧ (k = 10 ∨ k = 11 ∨ k = 14)) ∧ ¬ (i = 23 ∧ (k = 8 ∨ k = 9))) E Eq11 → hn Eq11 → (0 ≤ w ∧ w ≤ 5) → cm_wp (ai_find ai_c29 sl) (ai_ev sl (d + 1)) x (kc + 4) (ks + 430) (fun rk rv T' E' nx' => rk = 1 ∧ T = T' ∧ nx = nx' ∧ cs_I T E' nx ∧ cm_fr (fun i k => i < 81 ∧ ¬ (i = 0 ∧ (k = 10 ∨ k = 11 ∨ k = 14)) ∧ ¬ (i = 23 ∧ (k = 8 ∨ k = 9))) E E' ∧ hn E' ∧ ∃ z : Int, rv = ai_i z ∧ (z = gv E 0 14)) 11 [cr 0, ai_i w] [] T Eq11 nx kc ks := by
      intro nf
      induction nf with
      | zero => intro w Eq11 hm; exact absurd hm (Nat.not_lt_zero _)
      | succ nf11 ih =>
        intro w Eq11 hm11 hI11 hF11 hN11 hv11
        have ih11 := ih; clear ih
        refine w_iload (i := 1) (npc := 12) rfl rfl ?_
        refine w_const (n := 5) (npc := 13) rfl ?_
        refine w_icmp (c := .ge) (npc := 16) (pt := 37) rfl (fun hc3 => ?_) (fun hc3 => ?_)
        · replace hc3 : (5 : Int) ≤ w := hc3
          refine w_aload (i := 0) (npc := 38) (v := cr 0) rfl rfl rfl ?_
          refine w_getf (i := 0) (ci := 7) (k := 3) (npc := 41) rfl (hI11.pl (by decide)) (hI11.T (by decide) rfl) (by decide) (hI11.ref 0 3 (p := 4) (by decide) (by decide) rfl) ?_
          refine w_const (n := 0) (npc := 42) rfl ?_
          refine w_aload (i := 0) (npc := 43) (v := cr 0) rfl rfl rfl ?_
          refine w_getf (i := 0) (ci := 7) (k := 2) (npc := 46) rfl (hI11.pl (by decide)) (hI11.T (by decide) rfl) (by decide) (hI11.ref 0 2 (p := 3) (by decide) (by decide) rfl) ?_
          refine w_const (n := 0) (npc := 47) rfl ?_
          refine w_const (n := 3) (npc := 48) rfl ?_
          refine w_copy (i := 4) (j := 3) (ni := 3) (nj := 3) (npc := 51) rfl (hI11.pl (by decide)) (hI11.pl (by decide)) (hI11.T (by decide) rfl) (hI11.T (by decide) rfl) (by omega) (by omega) (by omega) (by omega) (by omega) (by decide) ?_
          have hI5 := hI11.cp (i := 4) (j := 3) (sp := (0 : Int).toNat) (dp := (0 : Int).toNat) (n := (3 : Int).toNat) (lo := (-2147483648)) (hi := 2147483647) (by decide) (by decide) rfl (fun _ => rfl) (fun _ => rfl) (by omega)
          have hF7 := cm_cp_fr (i := 4) (j := 3) (sp := (0 : Int).toNat) (dp := (0 : Int).toNat) (n := (3 : Int).toNat) hF11 (fun k => by first | omega | (simp; done) | (simp; omega) | (simp only; omega))
          have hN8 := hn.fr (P := fun i _ => i = 3) (E' := (cm_cp Eq11 4 3 (0 : Int).toNat (0 : Int).toNat (3 : Int).toNat)) hN11 (fun i k hk => cm_cp_ne (fun q => hk q.1)) (by intro i k h; (try simp only at h); omega)
          generalize hE6 : cm_cp Eq11 4 3 (0 : Int).toNat (0 : Int).toNat (3 : Int).toNat = E4 at hI5 hF7 hN8 ⊢
          refine w_aload (i := 0) (npc := 52) (v := cr 0) rfl rfl rfl ?_
          refine w_const (n := (-1)) (npc := 53) rfl ?_
          refine w_putf (i := 0) (ci := 7) (k := 13) (t := 0) (npc := 56) rfl (hI5.pl (by decide)) (hI5.T (by decide) rfl) (by decide) cm_fit0 ?_
          have hI10 := hI5.puti (i := 0) (k := 13) (z := (-1)) (lo := (-1)) (hi := 4) (by decide) rfl (by omega)
          have hF12 := cm_fr.up (i := 0) (k := 13) (v := ai_i ((-1))) hF7 (by first | omega | (simp; done) | (simp; omega) | (simp only; omega))
          have hN13 := hn.wr (i := 0) (k := 13) (v := ai_i ((-1))) hN8 (by omega)
          generalize hE11 : cm_up E4 0 13 (ai_i ((-1))) = E9 at hI10 hF12 hN13 ⊢
          have hz14 : E9 0 13 = ai_i ((-1)) := by rw [← hE11, cm_up_eq]
          have ghz14 := gv_eq hz14
          refine w_const (n := 1) (npc := 57) rfl ?_
          exact w_zret rfl (by omega) (⟨rfl, rfl, rfl, hI10, hF12, hN13, 1, rfl, by omega⟩) (by omega) (by omega)
        · replace hc3 : ¬ ((5 : Int) ≤ w) := hc3
          refine w_aload (i := 0) (npc := 17) (v := cr 0) rfl rfl rfl ?_
          refine w_getf (i := 0) (ci := 7) (k := 0) (npc := 20) rfl (hI11.pl (by decide)) (hI11.T (by decide) rfl) (by decide) (hI11.ref 0 0 (p := 1) (by decide) (by decide) rfl) ?_
          refine w_iload (i := 1) (npc := 21) rfl rfl ?_
          obtain ⟨b15, hb16e⟩ : ∃ b15 : Nat, b15 = 41 + 8 * (w : Int).toNat := ⟨_, rfl⟩
          have hb16 : 41 ≤ b15 ∧ b15 ≤ 77 ∧ b15 % 4 = 1 := by omega
          refine w_ald (i := 1) (t := 4) (n := 5) (npc := 22) rfl (hI11.pl (by decide)) (hI11.T (by decide) rfl) (by decide) rfl (by omega) (v := cr b15) (by rw [hb16e]; exact hI11.pages (by omega)) ?_
          refine w_aload (i := 0) (npc := 23) (v := cr 0) rfl rfl rfl ?_
          refine w_getf (i := 0) (ci := 7) (k := 1) (npc := 26) rfl (hI11.pl (by decide)) (hI11.T (by decide) rfl) (by decide) (hI11.ref 0 1 (p := 2) (by decide) (by decide) rfl) ?_
          refine w_iload (i := 1) (npc := 27) rfl rfl ?_
          obtain ⟨b17, hb18e⟩ : ∃ b17 : Nat, b17 = 45 + 8 * (w : Int).toNat := ⟨_, rfl⟩
          have hb18 : 41 ≤ b17 ∧ b17 ≤ 77 ∧ b17 % 4 = 1 := by omega
          refine w_ald (i := 2) (t := 4) (n := 5) (npc := 28) rfl (hI11.pl (by decide)) (hI11.T (by decide) rfl) (by decide) rfl (by omega) (v := cr b17) (by rw [hb18e]; exact hI11.kept (by omega)) ?_
          refine w_virt (ci := 3) (i := b15) (npc := 31) (a := [cr b15, cr b17]) (rest := []) rfl rfl (hI11.pl (by omega)) (hI11.pgT0 hb16) rfl rfl rfl rfl (ct_pg_copy (sl := sl) (x := x) (d := d + 0)  (b := b15) hb16 (a := b17) hb18 hI11 hN11 (by omega)) (Or.inl rfl) (fun k9 v9 T20 E20 nx20 kc20 ks20 hq19 hk20 hv20 => ?_)
          obtain ⟨rfl, rfl, rfl, hI22, hG23, hN24, hz21⟩ := hq19
          obtain rfl : kc = kc20 := by omega
          obtain rfl : ks = ks20 := by omega
          have hF25 := cm_fr.trans hF11 hG23 (by intro i k h; (try simp only at h); (try simp only); omega)
          refine Or.inl ⟨rfl, ?_⟩
          refine w_iinc (i := 1) (n := 1) (npc := 34) (loc' := [cr 0, ai_i (w + 1)]) rfl rfl (by omega) rfl ?_
          refine w_goto (pt := 11) rfl ?_
          exact ih11 (w + 1) E20 (by omega) hI22 hF25 hN24 (by omega)
    exact loop11 _ (0) E (Nat.lt_succ_self _) hI hF hN (by omega)
  · replace hc2 : ¬ (z1 ≠ (0 : Int)) := hc2
    refine w_const (n := 0) (npc := 8) rfl ?_
    exact w_zret rfl (by omega) (⟨rfl, rfl, rfl, hI, hF, hN, 0, rfl, by omega⟩) (by omega) (by omega)
set_option maxRecDepth 16384 in
theorem ct_c_feed {sl : Int × Int} {x : ai_E} {d : Nat} {T : cm_T} {E : cm_E} {nx : Nat} (a b c e f : Int)  (hI : cs_I T E nx) (hN : hn E) : cm_ct (ai_ev sl (d + 2)) x 10 [cr 0, ai_i a, ai_i b, ai_i c, ai_i e, ai_i f] T E nx 4 430 (fun rk rv T' E' nx' => rk = 1 ∧ T = T' ∧ nx = nx' ∧ cs_I T E' nx ∧ cm_fr (fun i k => i < 81 ∧ ¬ (i = 0 ∧ (k = 10 ∨ k = 14)) ∧ ¬ (i = 23 ∧ (k = 8 ∨ k = 9))) E E' ∧ hn E' ∧ ∃ z : Int, rv = ai_i z ∧ ((gv E 0 11 + 20 ≤ 400 → z = gv E 0 11 + 20 ∧ gv E' 0 11 = gv E 0 11 + 20) ∧ (¬ gv E 0 11 + 20 ≤ 400 → z = -1 ∧ gv E' 0 11 = gv E 0 11))) := by
  refine cm_body (M := ai_m10) rfl rfl (fun kc ks => ?_)
  show cm_wp (ai_find ai_c10 sl) (ai_ev sl (d + 1)) x (kc + 4) (ks + 430) _ 0 [cr 0, ai_i a, ai_i b, ai_i c, ai_i e, ai_i f] [] T E nx kc ks
  have hF : cm_fr (fun i k => i < 81 ∧ ¬ (i = 0 ∧ (k = 10 ∨ k = 14)) ∧ ¬ (i = 23 ∧ (k = 8 ∨ k = 9))) E E := fun _ _ _ => rfl
  refine w_aload (i := 0) (npc := 1) (v := cr 0) rfl rfl rfl ?_
  obtain ⟨z1, hz1, hz1a, hz1b⟩ := hI.int 0 11 (lo := 0) (hi := 400) (by decide) (by decide) rfl
  have ghz1 := gv_eq hz1
  refine w_getf (i := 0) (ci := 7) (k := 11) (npc := 4) rfl (hI.pl (by decide)) (hI.T (by decide) rfl) (by decide) hz1 ?_
  refine w_const (n := 20) (npc := 6) rfl ?_
  refine w_iadd (npc := 7) rfl (by omega) ?_
  refine w_const (n := 400) (npc := 10) rfl ?_
  refine w_icmp (c := .le) (npc := 13) (pt := 15) rfl (fun hc3 => ?_) (fun hc3 => ?_)
  · replace hc3 : z1 + 20 ≤ (400 : Int) := hc3
    refine w_aload (i := 0) (npc := 16) (v := cr 0) rfl rfl rfl ?_
    refine w_iload (i := 1) (npc := 17) rfl rfl ?_
    refine w_virt (ci := 7) (i := 0) (npc := 20) (a := [cr 0, ai_i a]) (rest := []) rfl rfl (hI.pl (by decide)) (hI.T (by decide) rfl) rfl rfl rfl rfl (ct_c_feedFour (sl := sl) (x := x) (d := d + 0) (a) hI) (Or.inl rfl) (fun k9 v9 T5 E5 nx5 kc5 ks5 hq4 hk5 hv5 => ?_)
    obtain ⟨rfl, rfl, rfl, hI7, hG8, hz6⟩ := hq4
    obtain rfl : kc = kc5 := by omega
    obtain rfl : ks = ks5 := by omega
    have hF10 := cm_fr.trans hF hG8 (by intro i k h; (try simp only at h); (try simp only); omega)
    have hN11 := hN.fr hG8 (by intro i k h; (try simp only at h); omega)
    refine Or.inl ⟨rfl, ?_⟩
    refine w_aload (i := 0) (npc := 21) (v := cr 0) rfl rfl rfl ?_
    refine w_iload (i := 2) (npc := 22) rfl rfl ?_
    obtain ⟨z12, hz12, hz12a, hz12b⟩ := hI7.int 0 11 (lo := 0) (hi := 400) (by decide) (by decide) rfl
    have ghz12 := gv_eq hz12
    refine w_virt (ci := 7) (i := 0) (npc := 25) (a := [cr 0, ai_i b]) (rest := []) rfl rfl (hI7.pl (by decide)) (hI7.T (by decide) rfl) rfl rfl rfl rfl (ct_c_feedFour (sl := sl) (x := x) (d := d + 0) (b) hI7) (Or.inl rfl) (fun k9 v9 T14 E14 nx14 kc14 ks14 hq13 hk14 hv14 => ?_)
    obtain ⟨rfl, rfl, rfl, hI16, hG17, hz15⟩ := hq13
    obtain rfl : kc = kc14 := by omega
    obtain rfl : ks = ks14 := by omega
    have hF19 := cm_fr.trans hF10 hG17 (by intro i k h; (try simp only at h); (try simp only); omega)
    have hN20 := hN11.fr hG17 (by intro i k h; (try simp only at h); omega)
    refine Or.inl ⟨rfl, ?_⟩
    refine w_aload (i := 0) (npc := 26) (v := cr 0) rfl rfl rfl ?_
    refine w_iload (i := 3) (npc := 27) rfl rfl ?_
    obtain ⟨z21, hz21, hz21a, hz21b⟩ := hI16.int 0 11 (lo := 0) (hi := 400) (by decide) (by decide) rfl
    have ghz21 := gv_eq hz21
    refine w_virt (ci := 7) (i := 0) (npc := 30) (a := [cr 0, ai_i c]) (rest := []) rfl rfl (hI16.pl (by decide)) (hI16.T (by decide) rfl) rfl rfl rfl rfl (ct_c_feedFour (sl := sl) (x := x) (d := d + 0) (c) hI16) (Or.inl rfl) (fun k9 v9 T23 E23 nx23 kc23 ks23 hq22 hk23 hv23 => ?_)
    obtain ⟨rfl, rfl, rfl, hI25, hG26, hz24⟩ := hq22
    obtain rfl : kc = kc23 := by omega
    obtain rfl : ks = ks23 := by omega
    have hF28 := cm_fr.trans hF19 hG26 (by intro i k h; (try simp only at h); (try simp only); omega)
    have hN29 := hN20.fr hG26 (by intro i k h; (try simp only at h); omega)
    refine Or.inl ⟨rfl, ?_⟩
    refine w_aload (i := 0) (npc := 31) (v := cr 0) rfl rfl rfl ?_
    refine w_iload (i := 4) (npc := 33) rfl rfl ?_
    obtain ⟨z30, hz30, hz30a, hz30b⟩ := hI25.int 0 11 (lo := 0) (hi := 400) (by decide) (by decide) rfl
    have ghz30 := gv_eq hz30
    refine w_virt (ci := 7) (i := 0) (npc := 36) (a := [cr 0, ai_i e]) (rest := []) rfl rfl (hI25.pl (by decide)) (hI25.T (by decide) rfl) rfl rfl rfl rfl (ct_c_feedFour (sl := sl) (x := x) (d := d + 0) (e) hI25) (Or.inl rfl) (fun k9 v9 T32 E32 nx32 kc32 ks32 hq31 hk32 hv32 => ?_)
    obtain ⟨rfl, rfl, rfl, hI34, hG35, hz33⟩ := hq31
    obtain rfl : kc = kc32 := by omega
    obtain rfl : ks = ks32 := by omega
    have hF37 := cm_fr.trans hF28 hG35 (by intro i k h; (try simp only at h); (try simp only); omega)
    have hN38 := hN29.fr hG35 (by intro i k h; (try simp only at h); omega)
    refine Or.inl ⟨rfl, ?_⟩
    refine w_aload (i := 0) (npc := 37) (v := cr 0) rfl rfl rfl ?_
    refine w_iload (i := 5) (npc := 39) rfl rfl ?_
    obtain ⟨z39, hz39, hz39a, hz39b⟩ := hI34.int 0 11 (lo := 0) (hi := 400) (by decide) (by decide) rfl
    have ghz39 := gv_eq hz39
    refine w_virt (ci := 7) (i := 0) (npc := 42) (a := [cr 0, ai_i f]) (rest := []) rfl rfl (hI34.pl (by decide)) (hI34.T (by decide) rfl) rfl rfl rfl rfl (ct_c_feedFour (sl := sl) (x := x) (d := d + 0) (f) hI34) (Or.inl rfl) (fun k9 v9 T41 E41 nx41 kc41 ks41 hq40 hk41 hv41 => ?_)
    obtain ⟨rfl, rfl, rfl, hI43, hG44, hz42⟩ := hq40
    obtain rfl : kc = kc41 := by omega
    obtain rfl : ks = ks41 := by omega
    have hF46 := cm_fr.trans hF37 hG44 (by intro i k h; (try simp only at h); (try simp only); omega)
    have hN47 := hN38.fr hG44 (by intro i k h; (try simp only at h); omega)
    refine Or.inl ⟨rfl, ?_⟩
    refine w_aload (i := 0) (npc := 43) (v := cr 0) rfl rfl rfl ?_
    obtain ⟨z48, hz48, hz48a, hz48b⟩ := hI43.int 0 11 (lo := 0) (hi := 400) (by decide) (by decide) rfl
    have ghz48 := gv_eq hz48
    refine w_getf (i := 0) (ci := 7) (k := 11) (npc := 46) rfl (hI43.pl (by decide)) (hI43.T (by decide) rfl) (by decide) hz48 ?_
    exact w_iret rfl (⟨rfl, rfl, rfl, hI43, hF46, hN47, z48, rfl, by omega⟩) (by omega) (by omega)
  · replace hc3 : ¬ (z1 + 20 ≤ (400 : Int)) := hc3
    refine w_const (n := (-1)) (npc := 14) rfl ?_
    exact w_iret rfl (⟨rfl, rfl, rfl, hI, hF, hN, (-1), rfl, by omega⟩) (by omega) (by omega)
