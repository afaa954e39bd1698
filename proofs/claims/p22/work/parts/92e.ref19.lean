set_option maxRecDepth 16384 in
theorem ct_m_inOrder2 {sl : Int × Int} {x : ai_E} {d : Nat} {T : cm_T} {E : cm_E} {nx : Nat} (p m : Int) (hI : cs_I T E nx) (hp0 : 0 ≤ m ∧ m ≤ 8) : cm_ct (ai_ev sl (d + 1)) x 168 [cr 81, ai_i p, ai_i m] T E nx 0 0 (fun rk rv T' E' nx' => rk = 1 ∧ T = T' ∧ E = E' ∧ nx = nx' ∧ ∃ z : Int, rv = ai_i z ∧ (z = (cn E 98 p m.toNat : Int))) := by
  refine cm_body (M := ai_m168) rfl rfl (fun kc ks => ?_)
  show cm_wp (ai_find ai_c168 sl) (ai_ev sl (d + 0)) x (kc + 0) (ks + 0) _ 0 [cr 81, ai_i p, ai_i m, ai_un, ai_un] [] T E nx kc ks
  refine w_const (n := 0) (npc := 1) rfl ?_
  refine w_istore (i := 3) (npc := 2) (loc' := [cr 81, ai_i p, ai_i m, ai_i 0, ai_un]) rfl rfl ?_
  refine w_const (n := 0) (npc := 3) rfl ?_
  refine w_istore (i := 4) (npc := 5) (loc' := [cr 81, ai_i p, ai_i m, ai_i 0, ai_i 0]) rfl rfl ?_
  have loop5 : ∀ (nf : Nat) (a : Int) (i : Int), ((m - i).toNat) < nf → (0 ≤ i ∧ i ≤ m ∧ 0 ≤ a ∧ a ≤ i ∧ a = (cn E 98 p i.toNat : Int)) → cm_wp (ai_find ai_c168 sl) (ai_ev sl (d + 0)) x (kc + 0) (ks + 0) (fun rk rv T' E' nx' => rk = 1 ∧ T = T' ∧ E = E' ∧ nx = nx' ∧ ∃ z : Int, rv = ai_i z ∧ (z = (cn E 98 p m.toNat : Int))) 5 [cr 81, ai_i p, ai_i m, ai_i a, ai_i i] [] T E nx kc ks := by
    intro nf
    induction nf with
    | zero => intro a i hm; exact absurd hm (Nat.not_lt_zero _)
    | succ nf5 ih =>
      intro a i hm5 hv5
      have ih5 := ih; clear ih
      refine w_iload (i := 4) (npc := 7) rfl rfl ?_
      refine w_iload (i := 2) (npc := 8) rfl rfl ?_
      refine w_icmp (c := .ge) (npc := 11) (pt := 36) rfl (fun hc1 => ?_) (fun hc1 => ?_)
      · replace hc1 : m ≤ i := hc1
        refine w_iload (i := 3) (npc := 37) rfl rfl ?_
        exact w_iret rfl (⟨rfl, rfl, rfl, rfl, a, rfl, by have e : i = m := (by omega); rw [← e]; omega⟩) (by omega) (by omega)
      · replace hc1 : ¬ (m ≤ i) := hc1
        refine w_iload (i := 3) (npc := 12) rfl rfl ?_
        refine w_aload (i := 0) (npc := 13) rfl rfl rfl ?_
        refine w_getf (i := 81) (ci := 8) (k := 29) (npc := 16) rfl (hI.pl (by decide)) (hI.T (by decide) rfl) (by decide) (hI.ref 81 29 (p := 98) (by decide) (by decide) rfl) ?_
        refine w_iload (i := 4) (npc := 18) rfl rfl ?_
        obtain ⟨z2, hz2, hz2a, hz2b⟩ := hI.int 98 (i : Int).toNat (lo := 0) (hi := 2) (by decide) (show (i : Int).toNat < 8 by omega) rfl
        have ghz2 := gv_eq hz2
        refine w_ald (i := 98) (t := 1) (n := 8) (npc := 19) rfl (hI.pl (by decide)) (hI.T (by decide) rfl) (by decide) rfl (by omega) hz2 ?_
        refine w_iload (i := 1) (npc := 20) rfl rfl ?_
        refine w_icmp (c := .ne) (npc := 23) (pt := 27) rfl (fun hc3 => ?_) (fun hc3 => ?_)
        · replace hc3 : z2 ≠ p := hc3
          refine w_const (n := 0) (npc := 28) rfl ?_
          refine w_iadd (npc := 29) rfl (by omega) ?_
          refine w_istore (i := 3) (npc := 30) (loc' := [cr 81, ai_i p, ai_i m, ai_i (a + 0), ai_i i]) rfl rfl ?_
          refine w_iinc (i := 4) (n := 1) (npc := 33) (loc' := [cr 81, ai_i p, ai_i m, ai_i (a + 0), ai_i (i + 1)]) rfl rfl (by omega) rfl ?_
          refine w_goto (pt := 5) rfl ?_
          exact ih5 (a + 0) (i + 1) (by omega) (by have h9 := cn_s E 98 p (i := i) (by omega); split at h9 <;> omega)
        · replace hc3 : ¬ (z2 ≠ p) := hc3
          refine w_const (n := 1) (npc := 24) rfl ?_
          refine w_goto (pt := 28) rfl ?_
          refine w_iadd (npc := 29) rfl (by omega) ?_
          refine w_istore (i := 3) (npc := 30) (loc' := [cr 81, ai_i p, ai_i m, ai_i (a + 1), ai_i i]) rfl rfl ?_
          refine w_iinc (i := 4) (n := 1) (npc := 33) (loc' := [cr 81, ai_i p, ai_i m, ai_i (a + 1), ai_i (i + 1)]) rfl rfl (by omega) rfl ?_
          refine w_goto (pt := 5) rfl ?_
          exact ih5 (a + 1) (i + 1) (by omega) (by have h9 := cn_s E 98 p (i := i) (by omega); split at h9 <;> omega)
  exact loop5 _ (0) (0) (Nat.lt_succ_self _) (⟨by omega, by omega, by omega, by omega, rfl⟩)
set_option maxRecDepth 16384 in
theorem ct_m_actsOf2 {sl : Int × Int} {x : ai_E} {d : Nat} {T : cm_T} {E : cm_E} {nx : Nat} (p : Int) (hI : cs_I T E nx) : cm_ct (ai_ev sl (d + 1)) x 145 [cr 81, ai_i p] T E nx 0 0 (fun rk rv T' E' nx' => rk = 1 ∧ T = T' ∧ E = E' ∧ nx = nx' ∧ ∃ z : Int, rv = ai_i z ∧ (z = (cn E 95 p (gv E 81 24).toNat : Int))) := by
  refine cm_body (M := ai_m145) rfl rfl (fun kc ks => ?_)
  show cm_wp (ai_find ai_c145 sl) (ai_ev sl (d + 0)) x (kc + 0) (ks + 0) _ 0 [cr 81, ai_i p, ai_un, ai_un] [] T E nx kc ks
  obtain ⟨z1, hz1, hz1a, hz1b⟩ := hI.int 81 24 (lo := 0) (hi := 8) (by decide) (by decide) rfl
  have ghz1 := gv_eq hz1
  refine w_const (n := 0) (npc := 1) rfl ?_
  refine w_istore (i := 2) (npc := 2) (loc' := [cr 81, ai_i p, ai_i 0, ai_un]) rfl rfl ?_
  refine w_const (n := 0) (npc := 3) rfl ?_
  refine w_istore (i := 3) (npc := 4) (loc' := [cr 81, ai_i p, ai_i 0, ai_i 0]) rfl rfl ?_
  have loop4 : ∀ (nf : Nat) (a : Int) (i : Int), ((8 - i).toNat) < nf → (0 ≤ i ∧ i ≤ gv E 81 24 ∧ 0 ≤ a ∧ a ≤ i ∧ a = (cn E 95 p i.toNat : Int)) → cm_wp (ai_find ai_c145 sl) (ai_ev sl (d + 0)) x (kc + 0) (ks + 0) (fun rk rv T' E' nx' => rk = 1 ∧ T = T' ∧ E = E' ∧ nx = nx' ∧ ∃ z : Int, rv = ai_i z ∧ (z = (cn E 95 p (gv E 81 24).toNat : Int))) 4 [cr 81, ai_i p, ai_i a, ai_i i] [] T E nx kc ks := by
    intro nf
    induction nf with
    | zero => intro a i hm; exact absurd hm (Nat.not_lt_zero _)
    | succ nf4 ih =>
      intro a i hm4 hv4
      have ih4 := ih; clear ih
      refine w_iload (i := 3) (npc := 5) rfl rfl ?_
      refine w_aload (i := 0) (npc := 6) rfl rfl rfl ?_
      refine w_getf (i := 81) (ci := 8) (k := 24) (npc := 9) rfl (hI.pl (by decide)) (hI.T (by decide) rfl) (by decide) hz1 ?_
      refine w_icmp (c := .ge) (npc := 12) (pt := 36) rfl (fun hc2 => ?_) (fun hc2 => ?_)
      · replace hc2 : z1 ≤ i := hc2
        refine w_iload (i := 2) (npc := 37) rfl rfl ?_
        exact w_iret rfl (⟨rfl, rfl, rfl, rfl, a, rfl, by have e : i = gv E 81 24 := (by omega); rw [← e]; omega⟩) (by omega) (by omega)
      · replace hc2 : ¬ (z1 ≤ i) := hc2
        refine w_iload (i := 2) (npc := 13) rfl rfl ?_
        refine w_aload (i := 0) (npc := 14) rfl rfl rfl ?_
        refine w_getf (i := 81) (ci := 8) (k := 26) (npc := 17) rfl (hI.pl (by decide)) (hI.T (by decide) rfl) (by decide) (hI.ref 81 26 (p := 95) (by decide) (by decide) rfl) ?_
        refine w_iload (i := 3) (npc := 18) rfl rfl ?_
        obtain ⟨z3, hz3, hz3a, hz3b⟩ := hI.int 95 (i : Int).toNat (lo := 0) (hi := 2) (by decide) (show (i : Int).toNat < 8 by omega) rfl
        have ghz3 := gv_eq hz3
        refine w_ald (i := 95) (t := 1) (n := 8) (npc := 19) rfl (hI.pl (by decide)) (hI.T (by decide) rfl) (by decide) rfl (by omega) hz3 ?_
        refine w_iload (i := 1) (npc := 20) rfl rfl ?_
        refine w_icmp (c := .ne) (npc := 23) (pt := 27) rfl (fun hc4 => ?_) (fun hc4 => ?_)
        · replace hc4 : z3 ≠ p := hc4
          refine w_const (n := 0) (npc := 28) rfl ?_
          refine w_iadd (npc := 29) rfl (by omega) ?_
          refine w_istore (i := 2) (npc := 30) (loc' := [cr 81, ai_i p, ai_i (a + 0), ai_i i]) rfl rfl ?_
          refine w_iinc (i := 3) (n := 1) (npc := 33) (loc' := [cr 81, ai_i p, ai_i (a + 0), ai_i (i + 1)]) rfl rfl (by omega) rfl ?_
          refine w_goto (pt := 4) rfl ?_
          exact ih4 (a + 0) (i + 1) (by omega) (by have h9 := cn_s E 95 p (i := i) (by omega); split at h9 <;> omega)
        · replace hc4 : ¬ (z3 ≠ p) := hc4
          refine w_const (n := 1) (npc := 24) rfl ?_
          refine w_goto (pt := 28) rfl ?_
          refine w_iadd (npc := 29) rfl (by omega) ?_
          refine w_istore (i := 2) (npc := 30) (loc' := [cr 81, ai_i p, ai_i (a + 1), ai_i i]) rfl rfl ?_
          refine w_iinc (i := 3) (n := 1) (npc := 33) (loc' := [cr 81, ai_i p, ai_i (a + 1), ai_i (i + 1)]) rfl rfl (by omega) rfl ?_
          refine w_goto (pt := 4) rfl ?_
          exact ih4 (a + 1) (i + 1) (by omega) (by have h9 := cn_s E 95 p (i := i) (by omega); split at h9 <;> omega)
  exact loop4 _ (0) (0) (Nat.lt_succ_self _) (⟨by omega, by omega, by omega, by omega, rfl⟩)
set_option maxRecDepth 16384 in
theorem ct_m_write {sl : Int × Int} {x : ai_E} {d : Nat} {T : cm_T} {E : cm_E} {nx : Nat} (n : Int) (hI : cs_I T E nx) (hp0 : 0 ≤ n ∧ n ≤ 8) (hp1 : wr_ok E n) : cm_ct (ai_ev sl (d + 1)) x 221 [cr 81, ai_i n] T E nx 0 0 (fun rk rv T' E' nx' => rk = 1 ∧ T = T' ∧ nx = nx' ∧ cs_I T E' nx ∧ cm_fr (fun i k => i = 100) E E' ∧ ∃ z : Int, rv = ai_i z ∧ (-1 ≤ z ∧ z ≤ 8)) := by
  refine cm_body (M := ai_m221) rfl rfl (fun kc ks => ?_)
  show cm_wp (ai_find ai_c221 sl) (ai_ev sl (d + 0)) x (kc + 0) (ks + 0) _ 0 [cr 81, ai_i n, ai_un, ai_un, ai_un, ai_un, ai_un, ai_un] [] T E nx kc ks
  have hF : cm_fr (fun i k => i = 100) E E := fun _ _ _ => rfl
  refine w_const (n := 0) (npc := 1) rfl ?_
  refine w_istore (i := 2) (npc := 2) (loc' := [cr 81, ai_i n, ai_i 0, ai_un, ai_un, ai_un, ai_un, ai_un]) rfl rfl ?_
  refine w_const (n := 0) (npc := 3) rfl ?_
  refine w_istore (i := 3) (npc := 4) (loc' := [cr 81, ai_i n, ai_i 0, ai_i 0, ai_un, ai_un, ai_un, ai_un]) rfl rfl ?_
  refine w_const (n := 0) (npc := 5) rfl ?_
  refine w_istore (i := 4) (npc := 7) (loc' := [cr 81, ai_i n, ai_i 0, ai_i 0, ai_i 0, ai_un, ai_un, ai_un]) rfl rfl ?_
  have loop7 : ∀ (nf : Nat) (l : Int) (D : Int) (i : Int) (u7_5 : ai_V) (u7_6 : ai_V) (u7_7 : ai_V) (Eq7 : cm_E), ((n - i).toNat) < nf → cs_I T Eq7 nx → cm_fr (fun i k => i = 100) E Eq7 → (0 ≤ i ∧ i ≤ n ∧ 0 ≤ l ∧ l ≤ i ∧ 0 ≤ D ∧ D < 256 ∧ wd E D i) → cm_wp (ai_find ai_c221 sl) (ai_ev sl (d + 0)) x (kc + 0) (ks + 0) (fun rk rv T' E' nx' => rk = 1 ∧ T = T' ∧ nx = nx' ∧ cs_I T E' nx ∧ cm_fr (fun i k => i = 100) E E' ∧ ∃ z : Int, rv = ai_i z ∧ (-1 ≤ z ∧ z ≤ 8)) 7 [cr 81, ai_i n, ai_i l, ai_i D, ai_i i, u7_5, u7_6, u7_7] [] T Eq7 nx kc ks := by
    intro nf
    induction nf with
    | zero => intro l D i u7_5 u7_6 u7_7 Eq7 hm; exact absurd hm (Nat.not_lt_zero _)
    | succ nf7 ih =>
      intro l D i u7_5 u7_6 u7_7 Eq7 hm7 hI7 hF7 hv7
      have ih7 := ih; clear ih
      refine w_iload (i := 4) (npc := 9) rfl rfl ?_
      refine w_iload (i := 1) (npc := 10) rfl rfl ?_
      refine w_icmp (c := .ge) (npc := 13) (pt := 199) rfl (fun hc1 => ?_) (fun hc1 => ?_)
      · replace hc1 : n ≤ i := hc1
        refine w_iload (i := 2) (npc := 200) rfl rfl ?_
        exact w_iret rfl (⟨rfl, rfl, rfl, hI7, hF7, l, rfl, by omega⟩) (by omega) (by omega)
      · replace hc1 : ¬ (n ≤ i) := hc1
        obtain ⟨a0, ha0, ha2, ha3⟩ := wr_ex hp1 hv7.2.2.2.2.2.2 (show 0 ≤ i ∧ i < n by omega)
        refine w_const (n := 0) (npc := 14) rfl ?_
        refine w_istore (i := 5) (npc := 16) (loc' := [cr 81, ai_i n, ai_i l, ai_i D, ai_i i, ai_i 0, u7_6, u7_7]) rfl rfl ?_
        have loop16 : ∀ (nf : Nat) (a : Int), ((a0 - a).toNat) < nf → (0 ≤ a ∧ a ≤ a0) → cm_wp (ai_find ai_c221 sl) (ai_ev sl (d + 0)) x (kc + 0) (ks + 0) (fun rk rv T' E' nx' => rk = 1 ∧ T = T' ∧ nx = nx' ∧ cs_I T E' nx ∧ cm_fr (fun i k => i = 100) E E' ∧ ∃ z : Int, rv = ai_i z ∧ (-1 ≤ z ∧ z ≤ 8)) 16 [cr 81, ai_i n, ai_i l, ai_i D, ai_i i, ai_i a, u7_6, u7_7] [] T Eq7 nx kc ks := by
          intro nf
          induction nf with
          | zero => intro a hm; exact absurd hm (Nat.not_lt_zero _)
          | succ nf16 ih =>
            intro a hm16 hv16
            have ih16 := ih; clear ih
            refine w_iload (i := 3) (npc := 17) rfl rfl ?_
            refine w_iload (i := 5) (npc := 19) rfl rfl ?_
            refine w_con (npc := 20) rfl (fun z2 hz2 hz2b => ?_)
            refine w_const (n := 1) (npc := 21) rfl ?_
            refine w_iand (npc := 22) rfl (by omega) (fun z3 hz3 hz3b => ?_)
            refine w_const (n := 1) (npc := 23) rfl ?_
            have hbt : z3 = bt D a := by unfold bt; rw [hz3b, hz2b]
            refine w_icmp (c := .eq) (npc := 26) (pt := 43) rfl (fun hc4 => ?_) (fun hc4 => ?_)
            · replace hc4 : z3 = (1 : Int) := hc4
              have hne : a ≠ a0 := fun q => by subst q; omega
              refine w_iinc (i := 5) (n := 1) (npc := 46) (loc' := [cr 81, ai_i n, ai_i l, ai_i D, ai_i i, ai_i (a + 1), u7_6, u7_7]) rfl rfl (by omega) rfl ?_
              refine w_goto (pt := 16) rfl ?_
              exact ih16 (a + 1) (by omega) (by omega)
            · replace hc4 : ¬ (z3 = (1 : Int)) := hc4
              refine w_aload (i := 0) (npc := 27) rfl rfl rfl ?_
              refine w_getf (i := 81) (ci := 8) (k := 26) (npc := 30) rfl (hI7.pl (by decide)) (hI7.T (by decide) rfl) (by decide) (hI7.ref 81 26 (p := 95) (by decide) (by decide) rfl) ?_
              refine w_iload (i := 5) (npc := 32) rfl rfl ?_
              obtain ⟨z6, hz6, hz6a, hz6b⟩ := hI7.int 95 (a : Int).toNat (lo := 0) (hi := 2) (by decide) (show (a : Int).toNat < 8 by omega) rfl
              have ghz6 := gv_eq hz6
              have g0hz6 : gv E 95 (a : Int).toNat = z6 := (gv_fr hF7 (by simp)).trans ghz6
              refine w_ald (i := 95) (t := 1) (n := 8) (npc := 33) rfl (hI7.pl (by decide)) (hI7.T (by decide) rfl) (by decide) rfl (by omega) hz6 ?_
              refine w_aload (i := 0) (npc := 34) rfl rfl rfl ?_
              refine w_getf (i := 81) (ci := 8) (k := 29) (npc := 37) rfl (hI7.pl (by decide)) (hI7.T (by decide) rfl) (by decide) (hI7.ref 81 29 (p := 98) (by decide) (by decide) rfl) ?_
              refine w_iload (i := 4) (npc := 39) rfl rfl ?_
              obtain ⟨z7, hz7, hz7a, hz7b⟩ := hI7.int 98 (i : Int).toNat (lo := 0) (hi := 2) (by decide) (show (i : Int).toNat < 8 by omega) rfl
              have ghz7 := gv_eq hz7
              have g0hz7 : gv E 98 (i : Int).toNat = z7 := (gv_fr hF7 (by simp)).trans ghz7
              refine w_ald (i := 98) (t := 1) (n := 8) (npc := 40) rfl (hI7.pl (by decide)) (hI7.T (by decide) rfl) (by decide) rfl (by omega) hz7 ?_
              refine w_icmp (c := .eq) (npc := 43) (pt := 49) rfl (fun hc8 => ?_) (fun hc8 => ?_)
              · replace hc8 : z6 = z7 := hc8
                refine w_iload (i := 3) (npc := 50) rfl rfl ?_
                refine w_const (n := 1) (npc := 51) rfl ?_
                refine w_iload (i := 5) (npc := 53) rfl rfl ?_
                refine w_con (npc := 54) rfl (fun z9 hz9 hz9b => ?_)
                refine w_con (npc := 55) rfl (fun z10 hz10 hz10b => ?_)
                have hsb : z10 = sb D a := by unfold sb; rw [hz10b, hz9b]
                have hwd := wd_next hv7.2.2.2.2.2.2 (show 0 ≤ D ∧ D < 256 by omega) (show 0 ≤ a ∧ a ≤ 7 by omega) (by omega) (by omega) (by omega) hsb
                refine w_istore (i := 3) (npc := 56) (loc' := [cr 81, ai_i n, ai_i l, ai_i z10, ai_i i, ai_i a, u7_6, u7_7]) rfl rfl ?_
                refine w_aload (i := 0) (npc := 57) rfl rfl rfl ?_
                refine w_getf (i := 81) (ci := 8) (k := 27) (npc := 60) rfl (hI7.pl (by decide)) (hI7.T (by decide) rfl) (by decide) (hI7.ref 81 27 (p := 96) (by decide) (by decide) rfl) ?_
                refine w_iload (i := 5) (npc := 62) rfl rfl ?_
                obtain ⟨z11, hz11, hz11a, hz11b⟩ := hI7.int 96 (a : Int).toNat (lo := 0) (hi := 7) (by decide) (show (a : Int).toNat < 8 by omega) rfl
                have ghz11 := gv_eq hz11
                have g0hz11 : gv E 96 (a : Int).toNat = z11 := (gv_fr hF7 (by simp)).trans ghz11
                refine w_ald (i := 96) (t := 1) (n := 8) (npc := 63) rfl (hI7.pl (by decide)) (hI7.T (by decide) rfl) (by decide) rfl (by omega) hz11 ?_
                refine w_istore (i := 6) (npc := 65) (loc' := [cr 81, ai_i n, ai_i l, ai_i z10, ai_i i, ai_i a, ai_i z11, u7_7]) rfl rfl ?_
                refine w_aload (i := 0) (npc := 66) rfl rfl rfl ?_
                refine w_getf (i := 81) (ci := 8) (k := 28) (npc := 69) rfl (hI7.pl (by decide)) (hI7.T (by decide) rfl) (by decide) (hI7.ref 81 28 (p := 97) (by decide) (by decide) rfl) ?_
                refine w_iload (i := 5) (npc := 71) rfl rfl ?_
                obtain ⟨z12, hz12, hz12a, hz12b⟩ := hI7.int 97 (a : Int).toNat (lo := (-1)) (hi := 126) (by decide) (show (a : Int).toNat < 8 by omega) rfl
                have ghz12 := gv_eq hz12
                have g0hz12 : gv E 97 (a : Int).toNat = z12 := (gv_fr hF7 (by simp)).trans ghz12
                refine w_ald (i := 97) (t := 1) (n := 8) (npc := 72) rfl (hI7.pl (by decide)) (hI7.T (by decide) rfl) (by decide) rfl (by omega) hz12 ?_
                refine w_const (n := (-1)) (npc := 73) rfl ?_
                refine w_icmp (c := .ne) (npc := 76) (pt := 85) rfl (fun hc13 => ?_) (fun hc13 => ?_)
                · replace hc13 : z12 ≠ ((-1) : Int) := hc13
                  refine w_iload (i := 6) (npc := 87) rfl rfl ?_
                  refine w_iload (i := 2) (npc := 88) rfl rfl ?_
                  refine w_icmp (c := .le) (npc := 91) (pt := 93) rfl (fun hc14 => ?_) (fun hc14 => ?_)
                  · replace hc14 : z11 ≤ l := hc14
                    refine w_aload (i := 0) (npc := 94) rfl rfl rfl ?_
                    refine w_getf (i := 81) (ci := 8) (k := 28) (npc := 97) rfl (hI7.pl (by decide)) (hI7.T (by decide) rfl) (by decide) (hI7.ref 81 28 (p := 97) (by decide) (by decide) rfl) ?_
                    refine w_iload (i := 5) (npc := 99) rfl rfl ?_
                    refine w_ald (i := 97) (t := 1) (n := 8) (npc := 100) rfl (hI7.pl (by decide)) (hI7.T (by decide) rfl) (by decide) rfl (by omega) hz12 ?_
                    refine w_const (n := (-1)) (npc := 101) rfl ?_
                    refine w_icmp (c := .ne) (npc := 104) (pt := 144) rfl (fun hc15 => ?_) (fun hc15 => ?_)
                    · replace hc15 : z12 ≠ ((-1) : Int) := hc15
                      refine w_iload (i := 2) (npc := 145) rfl rfl ?_
                      refine w_istore (i := 7) (npc := 147) (loc' := [cr 81, ai_i n, ai_i l, ai_i z10, ai_i i, ai_i a, ai_i z11, ai_i l]) rfl rfl ?_
                      have loop147 : ∀ (nf : Nat) (k : Int) (Eq147 : cm_E), (k.toNat) < nf → cs_I T Eq147 nx → cm_fr (fun i k => i = 100) E Eq147 → ((z11) ≤ k ∧ k ≤ 7) → cm_wp (ai_find ai_c221 sl) (ai_ev sl (d + 0)) x (kc + 0) (ks + 0) (fun rk rv T' E' nx' => rk = 1 ∧ T = T' ∧ nx = nx' ∧ cs_I T E' nx ∧ cm_fr (fun i k => i = 100) E E' ∧ ∃ z : Int, rv = ai_i z ∧ (-1 ≤ z ∧ z ≤ 8)) 147 [cr 81, ai_i n, ai_i l, ai_i z10, ai_i i, ai_i a, ai_i z11, ai_i k] [] T Eq147 nx kc ks := by
                        intro nf
                        induction nf with
                        | zero => intro k Eq147 hm; exact absurd hm (Nat.not_lt_zero _)
                        | succ nf147 ih =>
                          intro k Eq147 hm147 hI147 hF147 hv147
                          have ih147 := ih; clear ih
                          refine w_iload (i := 7) (npc := 149) rfl rfl ?_
                          refine w_iload (i := 6) (npc := 151) rfl rfl ?_
                          refine w_icmp (c := .le) (npc := 154) (pt := 176) rfl (fun hc16 => ?_) (fun hc16 => ?_)
                          · replace hc16 : k ≤ z11 := hc16
                            refine w_aload (i := 0) (npc := 177) rfl rfl rfl ?_
                            refine w_getf (i := 81) (ci := 8) (k := 31) (npc := 180) rfl (hI147.pl (by decide)) (hI147.T (by decide) rfl) (by decide) (hI147.ref 81 31 (p := 100) (by decide) (by decide) rfl) ?_
                            refine w_iload (i := 6) (npc := 182) rfl rfl ?_
                            refine w_aload (i := 0) (npc := 183) rfl rfl rfl ?_
                            refine w_getf (i := 81) (ci := 8) (k := 28) (npc := 186) rfl (hI147.pl (by decide)) (hI147.T (by decide) rfl) (by decide) (hI147.ref 81 28 (p := 97) (by decide) (by decide) rfl) ?_
                            refine w_iload (i := 5) (npc := 188) rfl rfl ?_
                            obtain ⟨z17, hz17, hz17a, hz17b⟩ := hI147.int 97 (a : Int).toNat (lo := (-1)) (hi := 126) (by decide) (show (a : Int).toNat < 8 by omega) rfl
                            have ghz17 := gv_eq hz17
                            have g0hz17 : gv E 97 (a : Int).toNat = z17 := (gv_fr hF147 (by simp)).trans ghz17
                            refine w_ald (i := 97) (t := 1) (n := 8) (npc := 189) rfl (hI147.pl (by decide)) (hI147.T (by decide) rfl) (by decide) rfl (by omega) hz17 ?_
                            refine w_ast (i := 100) (k := 1) (n := 8) (npc := 190) rfl (hI147.pl (by decide)) (hI147.T (by decide) rfl) (by decide) (by omega) cm_af1 ?_
                            have hI19 := hI147.puti (i := 100) (k := (z11 : Int).toNat) (z := z17) (lo := (-1)) (hi := 126) (by decide) rfl (by omega)
                            have hF21 := cm_fr.up (i := 100) (k := (z11 : Int).toNat) (v := ai_i z17) hF147 (by first | (simp; done) | (simp; omega) | (intro i k h; (try simp only at h); (try simp only); omega))
                            generalize hE20 : cm_up Eq147 100 (z11 : Int).toNat (ai_i z17) = E18 at hI19 hF21   ⊢
                            have hz22 : E18 97 (a : Int).toNat = ai_i z17 := by rw [← hE20, cm_up_nei _ _ (by decide)]; exact hz17
                            have ghz22 := gv_eq hz22
                            have hz23 : E18 100 (z11 : Int).toNat = ai_i z17 := by rw [← hE20, cm_up_eq]
                            have ghz23 := gv_eq hz23
                            refine w_iinc (i := 2) (n := 1) (npc := 193) (loc' := [cr 81, ai_i n, ai_i (l + 1), ai_i z10, ai_i i, ai_i a, ai_i z11, ai_i k]) rfl rfl (by omega) rfl ?_
                            refine w_iinc (i := 4) (n := 1) (npc := 196) (loc' := [cr 81, ai_i n, ai_i (l + 1), ai_i z10, ai_i (i + 1), ai_i a, ai_i z11, ai_i k]) rfl rfl (by omega) rfl ?_
                            refine w_goto (pt := 7) rfl ?_
                            exact ih7 (l + 1) (z10) (i + 1) (ai_i a) (ai_i z11) (ai_i k) E18 (by omega) hI19 hF21 (⟨by omega, by omega, by omega, by omega, by omega, by omega, hwd.1⟩)
                          · replace hc16 : ¬ (k ≤ z11) := hc16
                            refine w_aload (i := 0) (npc := 155) rfl rfl rfl ?_
                            refine w_getf (i := 81) (ci := 8) (k := 31) (npc := 158) rfl (hI147.pl (by decide)) (hI147.T (by decide) rfl) (by decide) (hI147.ref 81 31 (p := 100) (by decide) (by decide) rfl) ?_
                            refine w_iload (i := 7) (npc := 160) rfl rfl ?_
                            refine w_aload (i := 0) (npc := 161) rfl rfl rfl ?_
                            refine w_getf (i := 81) (ci := 8) (k := 31) (npc := 164) rfl (hI147.pl (by decide)) (hI147.T (by decide) rfl) (by decide) (hI147.ref 81 31 (p := 100) (by decide) (by decide) rfl) ?_
                            refine w_iload (i := 7) (npc := 166) rfl rfl ?_
                            refine w_const (n := 1) (npc := 167) rfl ?_
                            refine w_isub (npc := 168) rfl (by omega) ?_
                            obtain ⟨z27, hz27, hz27a, hz27b⟩ := hI147.int 100 (k - 1 : Int).toNat (lo := (-1)) (hi := 126) (by decide) (show (k - 1 : Int).toNat < 8 by omega) rfl
                            have ghz27 := gv_eq hz27
                            refine w_ald (i := 100) (t := 1) (n := 8) (npc := 169) rfl (hI147.pl (by decide)) (hI147.T (by decide) rfl) (by decide) rfl (by omega) hz27 ?_
                            refine w_ast (i := 100) (k := 1) (n := 8) (npc := 170) rfl (hI147.pl (by decide)) (hI147.T (by decide) rfl) (by decide) (by omega) cm_af1 ?_
                            have hI29 := hI147.puti (i := 100) (k := (k : Int).toNat) (z := z27) (lo := (-1)) (hi := 126) (by decide) rfl (by omega)
                            have hF31 := cm_fr.up (i := 100) (k := (k : Int).toNat) (v := ai_i z27) hF147 (by first | (simp; done) | (simp; omega) | (intro i k h; (try simp only at h); (try simp only); omega))
                            generalize hE30 : cm_up Eq147 100 (k : Int).toNat (ai_i z27) = E28 at hI29 hF31   ⊢
                            have hz32 : E28 100 (k : Int).toNat = ai_i z27 := by rw [← hE30, cm_up_eq]
                            have ghz32 := gv_eq hz32
                            refine w_iinc (i := 7) (n := (-1)) (npc := 173) (loc' := [cr 81, ai_i n, ai_i l, ai_i z10, ai_i i, ai_i a, ai_i z11, ai_i (k + (-1))]) rfl rfl (by omega) rfl ?_
                            refine w_goto (pt := 147) rfl ?_
                            exact ih147 (k + (-1)) E28 (by omega) hI29 hF31 (by omega)
                      exact loop147 _ (l) Eq7 (Nat.lt_succ_self _) hI7 hF7 (by omega)
                    · replace hc15 : ¬ (z12 ≠ ((-1) : Int)) := hc15
                      refine w_iload (i := 6) (npc := 106) rfl rfl ?_
                      refine w_istore (i := 7) (npc := 108) (loc' := [cr 81, ai_i n, ai_i l, ai_i z10, ai_i i, ai_i a, ai_i z11, ai_i z11]) rfl rfl ?_
                      have loop108 : ∀ (nf : Nat) (k : Int) (Eq108 : cm_E), ((8 - k).toNat) < nf → cs_I T Eq108 nx → cm_fr (fun i k => i = 100) E Eq108 → ((z11) ≤ k ∧ k ≤ 8) → cm_wp (ai_find ai_c221 sl) (ai_ev sl (d + 0)) x (kc + 0) (ks + 0) (fun rk rv T' E' nx' => rk = 1 ∧ T = T' ∧ nx = nx' ∧ cs_I T E' nx ∧ cm_fr (fun i k => i = 100) E E' ∧ ∃ z : Int, rv = ai_i z ∧ (-1 ≤ z ∧ z ≤ 8)) 108 [cr 81, ai_i n, ai_i l, ai_i z10, ai_i i, ai_i a, ai_i z11, ai_i k] [] T Eq108 nx kc ks := by
                        intro nf
                        induction nf with
                        | zero => intro k Eq108 hm; exact absurd hm (Nat.not_lt_zero _)
                        | succ nf108 ih =>
                          intro k Eq108 hm108 hI108 hF108 hv108
                          have ih108 := ih; clear ih
                          refine w_iload (i := 7) (npc := 110) rfl rfl ?_
                          refine w_const (n := 1) (npc := 111) rfl ?_
                          refine w_iadd (npc := 112) rfl (by omega) ?_
                          refine w_iload (i := 2) (npc := 113) rfl rfl ?_
                          refine w_icmp (c := .ge) (npc := 116) (pt := 138) rfl (fun hc35 => ?_) (fun hc35 => ?_)
                          · replace hc35 : l ≤ k + 1 := hc35
                            refine w_iinc (i := 2) (n := (-1)) (npc := 141) (loc' := [cr 81, ai_i n, ai_i (l + (-1)), ai_i z10, ai_i i, ai_i a, ai_i z11, ai_i k]) rfl rfl (by omega) rfl ?_
                            refine w_goto (pt := 193) rfl ?_
                            refine w_iinc (i := 4) (n := 1) (npc := 196) (loc' := [cr 81, ai_i n, ai_i (l + (-1)), ai_i z10, ai_i (i + 1), ai_i a, ai_i z11, ai_i k]) rfl rfl (by omega) rfl ?_
                            refine w_goto (pt := 7) rfl ?_
                            exact ih7 (l + (-1)) (z10) (i + 1) (ai_i a) (ai_i z11) (ai_i k) Eq108 (by omega) hI108 hF108 (⟨by omega, by omega, by omega, by omega, by omega, by omega, hwd.1⟩)
                          · replace hc35 : ¬ (l ≤ k + 1) := hc35
                            refine w_aload (i := 0) (npc := 117) rfl rfl rfl ?_
                            refine w_getf (i := 81) (ci := 8) (k := 31) (npc := 120) rfl (hI108.pl (by decide)) (hI108.T (by decide) rfl) (by decide) (hI108.ref 81 31 (p := 100) (by decide) (by decide) rfl) ?_
                            refine w_iload (i := 7) (npc := 122) rfl rfl ?_
                            refine w_aload (i := 0) (npc := 123) rfl rfl rfl ?_
                            refine w_getf (i := 81) (ci := 8) (k := 31) (npc := 126) rfl (hI108.pl (by decide)) (hI108.T (by decide) rfl) (by decide) (hI108.ref 81 31 (p := 100) (by decide) (by decide) rfl) ?_
                            refine w_iload (i := 7) (npc := 128) rfl rfl ?_
                            refine w_const (n := 1) (npc := 129) rfl ?_
                            refine w_iadd (npc := 130) rfl (by omega) ?_
                            obtain ⟨z39, hz39, hz39a, hz39b⟩ := hI108.int 100 (k + 1 : Int).toNat (lo := (-1)) (hi := 126) (by decide) (show (k + 1 : Int).toNat < 8 by omega) rfl
                            have ghz39 := gv_eq hz39
                            refine w_ald (i := 100) (t := 1) (n := 8) (npc := 131) rfl (hI108.pl (by decide)) (hI108.T (by decide) rfl) (by decide) rfl (by omega) hz39 ?_
                            refine w_ast (i := 100) (k := 1) (n := 8) (npc := 132) rfl (hI108.pl (by decide)) (hI108.T (by decide) rfl) (by decide) (by omega) cm_af1 ?_
                            have hI41 := hI108.puti (i := 100) (k := (k : Int).toNat) (z := z39) (lo := (-1)) (hi := 126) (by decide) rfl (by omega)
                            have hF43 := cm_fr.up (i := 100) (k := (k : Int).toNat) (v := ai_i z39) hF108 (by first | (simp; done) | (simp; omega) | (intro i k h; (try simp only at h); (try simp only); omega))
                            generalize hE42 : cm_up Eq108 100 (k : Int).toNat (ai_i z39) = E40 at hI41 hF43   ⊢
                            have hz44 : E40 100 (k : Int).toNat = ai_i z39 := by rw [← hE42, cm_up_eq]
                            have ghz44 := gv_eq hz44
                            refine w_iinc (i := 7) (n := 1) (npc := 135) (loc' := [cr 81, ai_i n, ai_i l, ai_i z10, ai_i i, ai_i a, ai_i z11, ai_i (k + 1)]) rfl rfl (by omega) rfl ?_
                            refine w_goto (pt := 108) rfl ?_
                            exact ih108 (k + 1) E40 (by omega) hI41 hF43 (by omega)
                      exact loop108 _ (z11) Eq7 (Nat.lt_succ_self _) hI7 hF7 (by omega)
                  · replace hc14 : ¬ (z11 ≤ l) := hc14
                    refine w_const (n := (-1)) (npc := 92) rfl ?_
                    exact w_iret rfl (⟨rfl, rfl, rfl, hI7, hF7, (-1), rfl, by omega⟩) (by omega) (by omega)
                · replace hc13 : ¬ (z12 ≠ ((-1) : Int)) := hc13
                  refine w_iload (i := 6) (npc := 78) rfl rfl ?_
                  refine w_iload (i := 2) (npc := 79) rfl rfl ?_
                  refine w_icmp (c := .lt) (npc := 82) (pt := 93) rfl (fun hc46 => ?_) (fun hc46 => ?_)
                  · replace hc46 : z11 < l := hc46
                    refine w_aload (i := 0) (npc := 94) rfl rfl rfl ?_
                    refine w_getf (i := 81) (ci := 8) (k := 28) (npc := 97) rfl (hI7.pl (by decide)) (hI7.T (by decide) rfl) (by decide) (hI7.ref 81 28 (p := 97) (by decide) (by decide) rfl) ?_
                    refine w_iload (i := 5) (npc := 99) rfl rfl ?_
                    refine w_ald (i := 97) (t := 1) (n := 8) (npc := 100) rfl (hI7.pl (by decide)) (hI7.T (by decide) rfl) (by decide) rfl (by omega) hz12 ?_
                    refine w_const (n := (-1)) (npc := 101) rfl ?_
                    refine w_icmp (c := .ne) (npc := 104) (pt := 144) rfl (fun hc47 => ?_) (fun hc47 => ?_)
                    · replace hc47 : z12 ≠ ((-1) : Int) := hc47
                      refine w_iload (i := 2) (npc := 145) rfl rfl ?_
                      refine w_istore (i := 7) (npc := 147) (loc' := [cr 81, ai_i n, ai_i l, ai_i z10, ai_i i, ai_i a, ai_i z11, ai_i l]) rfl rfl ?_
                      have loop147 : ∀ (nf : Nat) (k : Int) (Eq147 : cm_E), (k.toNat) < nf → cs_I T Eq147 nx → cm_fr (fun i k => i = 100) E Eq147 → ((z11) ≤ k ∧ k ≤ 7) → cm_wp (ai_find ai_c221 sl) (ai_ev sl (d + 0)) x (kc + 0) (ks + 0) (fun rk rv T' E' nx' => rk = 1 ∧ T = T' ∧ nx = nx' ∧ cs_I T E' nx ∧ cm_fr (fun i k => i = 100) E E' ∧ ∃ z : Int, rv = ai_i z ∧ (-1 ≤ z ∧ z ≤ 8)) 147 [cr 81, ai_i n, ai_i l, ai_i z10, ai_i i, ai_i a, ai_i z11, ai_i k] [] T Eq147 nx kc ks := by
                        intro nf
                        induction nf with
                        | zero => intro k Eq147 hm; exact absurd hm (Nat.not_lt_zero _)
                        | succ nf147 ih =>
                          intro k Eq147 hm147 hI147 hF147 hv147
                          have ih147 := ih; clear ih
                          refine w_iload (i := 7) (npc := 149) rfl rfl ?_
                          refine w_iload (i := 6) (npc := 151) rfl rfl ?_
                          refine w_icmp (c := .le) (npc := 154) (pt := 176) rfl (fun hc48 => ?_) (fun hc48 => ?_)
                          · replace hc48 : k ≤ z11 := hc48
                            refine w_aload (i := 0) (npc := 177) rfl rfl rfl ?_
                            refine w_getf (i := 81) (ci := 8) (k := 31) (npc := 180) rfl (hI147.pl (by decide)) (hI147.T (by decide) rfl) (by decide) (hI147.ref 81 31 (p := 100) (by decide) (by decide) rfl) ?_
                            refine w_iload (i := 6) (npc := 182) rfl rfl ?_
                            refine w_aload (i := 0) (npc := 183) rfl rfl rfl ?_
                            refine w_getf (i := 81) (ci := 8) (k := 28) (npc := 186) rfl (hI147.pl (by decide)) (hI147.T (by decide) rfl) (by decide) (hI147.ref 81 28 (p := 97) (by decide) (by decide) rfl) ?_
                            refine w_iload (i := 5) (npc := 188) rfl rfl ?_
                            obtain ⟨z49, hz49, hz49a, hz49b⟩ := hI147.int 97 (a : Int).toNat (lo := (-1)) (hi := 126) (by decide) (show (a : Int).toNat < 8 by omega) rfl
                            have ghz49 := gv_eq hz49
                            have g0hz49 : gv E 97 (a : Int).toNat = z49 := (gv_fr hF147 (by simp)).trans ghz49
                            refine w_ald (i := 97) (t := 1) (n := 8) (npc := 189) rfl (hI147.pl (by decide)) (hI147.T (by decide) rfl) (by decide) rfl (by omega) hz49 ?_
                            refine w_ast (i := 100) (k := 1) (n := 8) (npc := 190) rfl (hI147.pl (by decide)) (hI147.T (by decide) rfl) (by decide) (by omega) cm_af1 ?_
                            have hI51 := hI147.puti (i := 100) (k := (z11 : Int).toNat) (z := z49) (lo := (-1)) (hi := 126) (by decide) rfl (by omega)
                            have hF53 := cm_fr.up (i := 100) (k := (z11 : Int).toNat) (v := ai_i z49) hF147 (by first | (simp; done) | (simp; omega) | (intro i k h; (try simp only at h); (try simp only); omega))
                            generalize hE52 : cm_up Eq147 100 (z11 : Int).toNat (ai_i z49) = E50 at hI51 hF53   ⊢
                            have hz54 : E50 97 (a : Int).toNat = ai_i z49 := by rw [← hE52, cm_up_nei _ _ (by decide)]; exact hz49
                            have ghz54 := gv_eq hz54
                            have hz55 : E50 100 (z11 : Int).toNat = ai_i z49 := by rw [← hE52, cm_up_eq]
                            have ghz55 := gv_eq hz55
                            refine w_iinc (i := 2) (n := 1) (npc := 193) (loc' := [cr 81, ai_i n, ai_i (l + 1), ai_i z10, ai_i i, ai_i a, ai_i z11, ai_i k]) rfl rfl (by omega) rfl ?_
                            refine w_iinc (i := 4) (n := 1) (npc := 196) (loc' := [cr 81, ai_i n, ai_i (l + 1), ai_i z10, ai_i (i + 1), ai_i a, ai_i z11, ai_i k]) rfl rfl (by omega) rfl ?_
                            refine w_goto (pt := 7) rfl ?_
                            exact ih7 (l + 1) (z10) (i + 1) (ai_i a) (ai_i z11) (ai_i k) E50 (by omega) hI51 hF53 (⟨by omega, by omega, by omega, by omega, by omega, by omega, hwd.1⟩)
                          · replace hc48 : ¬ (k ≤ z11) := hc48
                            refine w_aload (i := 0) (npc := 155) rfl rfl rfl ?_
                            refine w_getf (i := 81) (ci := 8) (k := 31) (npc := 158) rfl (hI147.pl (by decide)) (hI147.T (by decide) rfl) (by decide) (hI147.ref 81 31 (p := 100) (by decide) (by decide) rfl) ?_
                            refine w_iload (i := 7) (npc := 160) rfl rfl ?_
                            refine w_aload (i := 0) (npc := 161) rfl rfl rfl ?_
                            refine w_getf (i := 81) (ci := 8) (k := 31) (npc := 164) rfl (hI147.pl (by decide)) (hI147.T (by decide) rfl) (by decide) (hI147.ref 81 31 (p := 100) (by decide) (by decide) rfl) ?_
                            refine w_iload (i := 7) (npc := 166) rfl rfl ?_
                            refine w_const (n := 1) (npc := 167) rfl ?_
                            refine w_isub (npc := 168) rfl (by omega) ?_
                            obtain ⟨z59, hz59, hz59a, hz59b⟩ := hI147.int 100 (k - 1 : Int).toNat (lo := (-1)) (hi := 126) (by decide) (show (k - 1 : Int).toNat < 8 by omega) rfl
                            have ghz59 := gv_eq hz59
                            refine w_ald (i := 100) (t := 1) (n := 8) (npc := 169) rfl (hI147.pl (by decide)) (hI147.T (by decide) rfl) (by decide) rfl (by omega) hz59 ?_
                            refine w_ast (i := 100) (k := 1) (n := 8) (npc := 170) rfl (hI147.pl (by decide)) (hI147.T (by decide) rfl) (by decide) (by omega) cm_af1 ?_
                            have hI61 := hI147.puti (i := 100) (k := (k : Int).toNat) (z := z59) (lo := (-1)) (hi := 126) (by decide) rfl (by omega)
                            have hF63 := cm_fr.up (i := 100) (k := (k : Int).toNat) (v := ai_i z59) hF147 (by first | (simp; done) | (simp; omega) | (intro i k h; (try simp only at h); (try simp only); omega))
                            generalize hE62 : cm_up Eq147 100 (k : Int).toNat (ai_i z59) = E60 at hI61 hF63   ⊢
                            have hz64 : E60 100 (k : Int).toNat = ai_i z59 := by rw [← hE62, cm_up_eq]
                            have ghz64 := gv_eq hz64
                            refine w_iinc (i := 7) (n := (-1)) (npc := 173) (loc' := [cr 81, ai_i n, ai_i l, ai_i z10, ai_i i, ai_i a, ai_i z11, ai_i (k + (-1))]) rfl rfl (by omega) rfl ?_
                            refine w_goto (pt := 147) rfl ?_
                            exact ih147 (k + (-1)) E60 (by omega) hI61 hF63 (by omega)
                      exact loop147 _ (l) Eq7 (Nat.lt_succ_self _) hI7 hF7 (by omega)
                    · replace hc47 : ¬ (z12 ≠ ((-1) : Int)) := hc47
                      refine w_iload (i := 6) (npc := 106) rfl rfl ?_
                      refine w_istore (i := 7) (npc := 108) (loc' := [cr 81, ai_i n, ai_i l, ai_i z10, ai_i i, ai_i a, ai_i z11, ai_i z11]) rfl rfl ?_
                      have loop108 : ∀ (nf : Nat) (k : Int) (Eq108 : cm_E), ((8 - k).toNat) < nf → cs_I T Eq108 nx → cm_fr (fun i k => i = 100) E Eq108 → ((z11) ≤ k ∧ k ≤ 8) → cm_wp (ai_find ai_c221 sl) (ai_ev sl (d + 0)) x (kc + 0) (ks + 0) (fun rk rv T' E' nx' => rk = 1 ∧ T = T' ∧ nx = nx' ∧ cs_I T E' nx ∧ cm_fr (fun i k => i = 100) E E' ∧ ∃ z : Int, rv = ai_i z ∧ (-1 ≤ z ∧ z ≤ 8)) 108 [cr 81, ai_i n, ai_i l, ai_i z10, ai_i i, ai_i a, ai_i z11, ai_i k] [] T Eq108 nx kc ks := by
                        intro nf
                        induction nf with
                        | zero => intro k Eq108 hm; exact absurd hm (Nat.not_lt_zero _)
                        | succ nf108 ih =>
                          intro k Eq108 hm108 hI108 hF108 hv108
                          have ih108 := ih; clear ih
                          refine w_iload (i := 7) (npc := 110) rfl rfl ?_
                          refine w_const (n := 1) (npc := 111) rfl ?_
                          refine w_iadd (npc := 112) rfl (by omega) ?_
                          refine w_iload (i := 2) (npc := 113) rfl rfl ?_
                          refine w_icmp (c := .ge) (npc := 116) (pt := 138) rfl (fun hc67 => ?_) (fun hc67 => ?_)
                          · replace hc67 : l ≤ k + 1 := hc67
                            refine w_iinc (i := 2) (n := (-1)) (npc := 141) (loc' := [cr 81, ai_i n, ai_i (l + (-1)), ai_i z10, ai_i i, ai_i a, ai_i z11, ai_i k]) rfl rfl (by omega) rfl ?_
                            refine w_goto (pt := 193) rfl ?_
                            refine w_iinc (i := 4) (n := 1) (npc := 196) (loc' := [cr 81, ai_i n, ai_i (l + (-1)), ai_i z10, ai_i (i + 1), ai_i a, ai_i z11, ai_i k]) rfl rfl (by omega) rfl ?_
                            refine w_goto (pt := 7) rfl ?_
                            exact ih7 (l + (-1)) (z10) (i + 1) (ai_i a) (ai_i z11) (ai_i k) Eq108 (by omega) hI108 hF108 (⟨by omega, by omega, by omega, by omega, by omega, by omega, hwd.1⟩)
                          · replace hc67 : ¬ (l ≤ k + 1) := hc67
                            refine w_aload (i := 0) (npc := 117) rfl rfl rfl ?_
                            refine w_getf (i := 81) (ci := 8) (k := 31) (npc := 120) rfl (hI108.pl (by decide)) (hI108.T (by decide) rfl) (by decide) (hI108.ref 81 31 (p := 100) (by decide) (by decide) rfl) ?_
                            refine w_iload (i := 7) (npc := 122) rfl rfl ?_
                            refine w_aload (i := 0) (npc := 123) rfl rfl rfl ?_
                            refine w_getf (i := 81) (ci := 8) (k := 31) (npc := 126) rfl (hI108.pl (by decide)) (hI108.T (by decide) rfl) (by decide) (hI108.ref 81 31 (p := 100) (by decide) (by decide) rfl) ?_
                            refine w_iload (i := 7) (npc := 128) rfl rfl ?_
                            refine w_const (n := 1) (npc := 129) rfl ?_
                            refine w_iadd (npc := 130) rfl (by omega) ?_
                            obtain ⟨z71, hz71, hz71a, hz71b⟩ := hI108.int 100 (k + 1 : Int).toNat (lo := (-1)) (hi := 126) (by decide) (show (k + 1 : Int).toNat < 8 by omega) rfl
                            have ghz71 := gv_eq hz71
                            refine w_ald (i := 100) (t := 1) (n := 8) (npc := 131) rfl (hI108.pl (by decide)) (hI108.T (by decide) rfl) (by decide) rfl (by omega) hz71 ?_
                            refine w_ast (i := 100) (k := 1) (n := 8) (npc := 132) rfl (hI108.pl (by decide)) (hI108.T (by decide) rfl) (by decide) (by omega) cm_af1 ?_
                            have hI73 := hI108.puti (i := 100) (k := (k : Int).toNat) (z := z71) (lo := (-1)) (hi := 126) (by decide) rfl (by omega)
                            have hF75 := cm_fr.up (i := 100) (k := (k : Int).toNat) (v := ai_i z71) hF108 (by first | (simp; done) | (simp; omega) | (intro i k h; (try simp only at h); (try simp only); omega))
                            generalize hE74 : cm_up Eq108 100 (k : Int).toNat (ai_i z71) = E72 at hI73 hF75   ⊢
                            have hz76 : E72 100 (k : Int).toNat = ai_i z71 := by rw [← hE74, cm_up_eq]
                            have ghz76 := gv_eq hz76
                            refine w_iinc (i := 7) (n := 1) (npc := 135) (loc' := [cr 81, ai_i n, ai_i l, ai_i z10, ai_i i, ai_i a, ai_i z11, ai_i (k + 1)]) rfl rfl (by omega) rfl ?_
                            refine w_goto (pt := 108) rfl ?_
                            exact ih108 (k + 1) E72 (by omega) hI73 hF75 (by omega)
                      exact loop108 _ (z11) Eq7 (Nat.lt_succ_self _) hI7 hF7 (by omega)
                  · replace hc46 : ¬ (z11 < l) := hc46
                    refine w_goto (pt := 91) rfl ?_
                    refine w_const (n := (-1)) (npc := 92) rfl ?_
                    exact w_iret rfl (⟨rfl, rfl, rfl, hI7, hF7, (-1), rfl, by omega⟩) (by omega) (by omega)
              · replace hc8 : ¬ (z6 = z7) := hc8
                have hne : a ≠ a0 := fun q => by subst q; omega
                refine w_iinc (i := 5) (n := 1) (npc := 46) (loc' := [cr 81, ai_i n, ai_i l, ai_i D, ai_i i, ai_i (a + 1), u7_6, u7_7]) rfl rfl (by omega) rfl ?_
                refine w_goto (pt := 16) rfl ?_
                exact ih16 (a + 1) (by omega) (by omega)
        exact loop16 _ (0) (Nat.lt_succ_self _) (by omega)
  exact loop7 _ (0) (0) (0) (ai_un) (ai_un) (ai_un) E (Nat.lt_succ_self _) hI hF (⟨by omega, by omega, by omega, by omega, by omega, by omega, wd_0 E⟩)
