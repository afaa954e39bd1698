set_option maxRecDepth 16384 in
theorem ct_pg_stepsOf {sl : Int × Int} {x : ai_E} {d : Nat} {T : cm_T} {E : cm_E} {nx : Nat} (w : Int) {b : Nat} (hb_b : 41 ≤ b ∧ b ≤ 77 ∧ b % 4 = 1) (hI : cs_I T E nx) : cm_ct (ai_ev sl (d + 1)) x 80 [cr b, ai_i w] T E nx 0 0 (fun rk rv T' E' nx' => rk = 1 ∧ T = T' ∧ E = E' ∧ nx = nx' ∧ ∃ z : Int, rv = ai_i z ∧ (0 ≤ z ∧ z ≤ 60 ∧ (1 ≤ z → 0 ≤ w ∧ w ≤ 4) ∧ (0 ≤ w → w ≤ 4 → z = gv E (b + 2) w.toNat))) := by
  refine cm_body (M := ai_m80) rfl rfl (fun kc ks => ?_)
  show cm_wp (ai_find ai_c80 sl) (ai_ev sl (d + 0)) x (kc + 0) (ks + 0) _ 0 [cr b, ai_i w] [] T E nx kc ks
  refine w_iload (i := 1) (npc := 1) rfl rfl ?_
  refine w_if (c := .lt) (npc := 4) (pt := 18) rfl (fun hc1 => ?_) (fun hc1 => ?_)
  · replace hc1 : w < (0 : Int) := hc1
    refine w_const (n := 0) (npc := 19) rfl ?_
    exact w_iret rfl (⟨rfl, rfl, rfl, rfl, 0, rfl, by omega⟩) (by omega) (by omega)
  · replace hc1 : ¬ (w < (0 : Int)) := hc1
    refine w_iload (i := 1) (npc := 5) rfl rfl ?_
    refine w_const (n := 5) (npc := 6) rfl ?_
    refine w_icmp (c := .ge) (npc := 9) (pt := 18) rfl (fun hc2 => ?_) (fun hc2 => ?_)
    · replace hc2 : (5 : Int) ≤ w := hc2
      refine w_const (n := 0) (npc := 19) rfl ?_
      exact w_iret rfl (⟨rfl, rfl, rfl, rfl, 0, rfl, by omega⟩) (by omega) (by omega)
    · replace hc2 : ¬ ((5 : Int) ≤ w) := hc2
      refine w_aload (i := 0) (npc := 10) (v := cr b) rfl rfl rfl ?_
      refine w_getf (i := b) (ci := 3) (k := 2) (npc := 13) rfl (hI.pl (by omega)) (hI.pgT0 hb_b) (by decide) (hI.pg2 hb_b) ?_
      refine w_iload (i := 1) (npc := 14) rfl rfl ?_
      obtain ⟨z3, hz3, hz3a, hz3b⟩ := hI.pgc hb_b (w : Int).toNat (by omega)
      have ghz3 := gv_eq hz3
      refine w_ald (i := b + 2) (t := 1) (n := 5) (npc := 15) rfl (hI.pl (by omega)) (hI.pgT2 hb_b) (by decide) rfl (by omega) hz3 ?_
      refine w_goto (pt := 19) rfl ?_
      exact w_iret rfl (⟨rfl, rfl, rfl, rfl, z3, rfl, by omega⟩) (by omega) (by omega)
set_option maxRecDepth 16384 in
theorem ct_pg_stepOf {sl : Int × Int} {x : ai_E} {d : Nat} {T : cm_T} {E : cm_E} {nx : Nat} (w n : Int) {b : Nat} (hb_b : 41 ≤ b ∧ b ≤ 77 ∧ b % 4 = 1) (hI : cs_I T E nx) : cm_ct (ai_ev sl (d + 2)) x 79 [cr b, ai_i w, ai_i n] T E nx 0 0 (fun rk rv T' E' nx' => rk = 1 ∧ T = T' ∧ E = E' ∧ nx = nx' ∧ (rv = ai_nul ∨ ∃ q : Nat, rv = cr q ∧ cs_st T E nx q ∧ (1 ≤ n ∧ n ≤ 60 ∧ 0 ≤ w ∧ w ≤ 4))) := by
  refine cm_body (M := ai_m79) rfl rfl (fun kc ks => ?_)
  show cm_wp (ai_find ai_c79 sl) (ai_ev sl (d + 1)) x (kc + 0) (ks + 0) _ 0 [cr b, ai_i w, ai_i n] [] T E nx kc ks
  refine w_iload (i := 2) (npc := 1) rfl rfl ?_
  refine w_const (n := 1) (npc := 2) rfl ?_
  refine w_icmp (c := .lt) (npc := 5) (pt := 27) rfl (fun hc1 => ?_) (fun hc1 => ?_)
  · replace hc1 : n < (1 : Int) := hc1
    refine w_null (npc := 28) rfl ?_
    exact w_aret rfl (Or.inl rfl) (⟨rfl, rfl, rfl, rfl, Or.inl rfl⟩) (by omega) (by omega)
  · replace hc1 : ¬ (n < (1 : Int)) := hc1
    refine w_iload (i := 2) (npc := 6) rfl rfl ?_
    refine w_aload (i := 0) (npc := 7) (v := cr b) rfl rfl rfl ?_
    refine w_iload (i := 1) (npc := 8) rfl rfl ?_
    refine w_virt (ci := 3) (i := b) (npc := 11) (a := [cr b, ai_i w]) (rest := [ai_i n]) rfl rfl (hI.pl (by omega)) (hI.pgT0 hb_b) rfl rfl rfl rfl (ct_pg_stepsOf (sl := sl) (x := x) (d := d + 0) (w) (b := b) hb_b hI) (Or.inl rfl) (fun k9 v9 T3 E3 nx3 kc3 ks3 hq2 hk3 hv3 => ?_)
    obtain ⟨rfl, rfl, rfl, rfl, z4, rfl, hz4⟩ := hq2
    obtain rfl : kc = kc3 := by omega
    obtain rfl : ks = ks3 := by omega
    refine Or.inr (Or.inl ⟨rfl, ?_⟩)
    refine w_icmp (c := .gt) (npc := 14) (pt := 27) rfl (fun hc8 => ?_) (fun hc8 => ?_)
    · replace hc8 : z4 < n := hc8
      refine w_null (npc := 28) rfl ?_
      exact w_aret rfl (Or.inl rfl) (⟨rfl, rfl, rfl, rfl, Or.inl rfl⟩) (by omega) (by omega)
    · replace hc8 : ¬ (z4 < n) := hc8
      refine w_aload (i := 0) (npc := 15) (v := cr b) rfl rfl rfl ?_
      refine w_getf (i := b) (ci := 3) (k := 1) (npc := 18) rfl (hI.pl (by omega)) (hI.pgT0 hb_b) (by decide) (hI.pg1 hb_b) ?_
      refine w_iload (i := 1) (npc := 19) rfl rfl ?_
      refine w_iload (i := 2) (npc := 20) rfl rfl ?_
      refine w_call (npc := 23) (a := [ai_i w, ai_i n]) (rest := [cr (b + 1)]) rfl rfl rfl rfl rfl (ct_c_slotOf (sl := sl) (x := x) (d := d + 0) (w) (n) (by omega) (by omega)) (Or.inr (fun _ _ _ _ _ hq => by have h1 := hq.1; omega)) (fun k9 v9 T10 E10 nx10 kc10 ks10 hq9 hk10 hv10 => ?_)
      obtain ⟨rfl, rfl, rfl, rfl, z11, rfl, hz11⟩ := hq9
      obtain rfl : kc = kc10 := by omega
      obtain rfl : ks = ks10 := by omega
      refine Or.inr (Or.inl ⟨rfl, ?_⟩)
      have hlt9 : (z11 : Int).toNat < 300 := by omega
      rcases hI.pgs hb_b (z11 : Int).toNat hlt9 with hx17 | ⟨q15, hx17, hs16⟩
      · clear hlt9
        refine w_ald (i := b + 1) (t := 5) (n := 300) (npc := 24) rfl (hI.pl (by omega)) (hI.pgT1 hb_b) (by decide) rfl (by omega) hx17 ?_
        refine w_goto (pt := 28) rfl ?_
        exact w_aret rfl (Or.inl rfl) (⟨rfl, rfl, rfl, rfl, Or.inl rfl⟩) (by omega) (by omega)
      clear hlt9
      refine w_ald (i := b + 1) (t := 5) (n := 300) (npc := 24) rfl (hI.pl (by omega)) (hI.pgT1 hb_b) (by decide) rfl (by omega) hx17 ?_
      refine w_goto (pt := 28) rfl ?_
      exact w_aret rfl (Or.inr ⟨_, rfl⟩) (⟨rfl, rfl, rfl, rfl, Or.inr ⟨q15, rfl, hs16, by omega⟩⟩) (by omega) (by omega)
set_option maxRecDepth 16384 in
theorem ct_pg_canStep {sl : Int × Int} {x : ai_E} {d : Nat} {T : cm_T} {E : cm_E} {nx : Nat} {b : Nat} (hb_b : 41 ≤ b ∧ b ≤ 77 ∧ b % 4 = 1) (hI : cs_I T E nx) : cm_ct (ai_ev sl (d + 1)) x 69 [cr b] T E nx 0 0 (fun rk rv T' E' nx' => rk = 1 ∧ T = T' ∧ E = E' ∧ nx = nx' ∧ ∃ z : Int, rv = ai_i z ∧ (0 ≤ z ∧ z ≤ 1 ∧ (z = 1 → gv E (b + 2) (gv E b 0).toNat ≤ 59 ∧ gv E b 5 ≤ 65534))) := by
  refine cm_body (M := ai_m69) rfl rfl (fun kc ks => ?_)
  show cm_wp (ai_find ai_c69 sl) (ai_ev sl (d + 0)) x (kc + 0) (ks + 0) _ 0 [cr b] [] T E nx kc ks
  refine w_aload (i := 0) (npc := 1) (v := cr b) rfl rfl rfl ?_
  refine w_getf (i := b) (ci := 3) (k := 2) (npc := 4) rfl (hI.pl (by omega)) (hI.pgT0 hb_b) (by decide) (hI.pg2 hb_b) ?_
  refine w_aload (i := 0) (npc := 5) (v := cr b) rfl rfl rfl ?_
  obtain ⟨z1, hz1, hz1a, hz1b⟩ := hI.pg0 hb_b
  have ghz1 := gv_eq hz1
  refine w_getf (i := b) (ci := 3) (k := 0) (npc := 8) rfl (hI.pl (by omega)) (hI.pgT0 hb_b) (by decide) hz1 ?_
  obtain rfl : gv E b 0 = z1 := by omega
  obtain ⟨z2, hz2, hz2a, hz2b⟩ := hI.pgc hb_b (gv E b 0 : Int).toNat (by omega)
  have ghz2 := gv_eq hz2
  refine w_ald (i := b + 2) (t := 1) (n := 5) (npc := 9) rfl (hI.pl (by omega)) (hI.pgT2 hb_b) (by decide) rfl (by omega) hz2 ?_
  refine w_const (n := 60) (npc := 11) rfl ?_
  refine w_icmp (c := .ge) (npc := 14) (pt := 27) rfl (fun hc3 => ?_) (fun hc3 => ?_)
  · replace hc3 : (60 : Int) ≤ z2 := hc3
    refine w_const (n := 0) (npc := 28) rfl ?_
    exact w_zret rfl (by omega) (⟨rfl, rfl, rfl, rfl, 0, rfl, by omega⟩) (by omega) (by omega)
  · replace hc3 : ¬ ((60 : Int) ≤ z2) := hc3
    refine w_aload (i := 0) (npc := 15) (v := cr b) rfl rfl rfl ?_
    obtain ⟨z4, hz4, hz4a, hz4b⟩ := hI.pg5 hb_b
    have ghz4 := gv_eq hz4
    refine w_getf (i := b) (ci := 3) (k := 5) (npc := 18) rfl (hI.pl (by omega)) (hI.pgT0 hb_b) (by decide) hz4 ?_
    refine w_const (n := 65535) (npc := 20) rfl ?_
    refine w_icmp (c := .ge) (npc := 23) (pt := 27) rfl (fun hc5 => ?_) (fun hc5 => ?_)
    · replace hc5 : (65535 : Int) ≤ z4 := hc5
      refine w_const (n := 0) (npc := 28) rfl ?_
      exact w_zret rfl (by omega) (⟨rfl, rfl, rfl, rfl, 0, rfl, by omega⟩) (by omega) (by omega)
    · replace hc5 : ¬ ((65535 : Int) ≤ z4) := hc5
      refine w_const (n := 1) (npc := 24) rfl ?_
      refine w_goto (pt := 28) rfl ?_
      exact w_zret rfl (by omega) (⟨rfl, rfl, rfl, rfl, 1, rfl, by omega⟩) (by omega) (by omega)
set_option maxRecDepth 16384 in
theorem ct_pg_isReady {sl : Int × Int} {x : ai_E} {d : Nat} {T : cm_T} {E : cm_E} {nx : Nat} {b : Nat} (hb_b : 41 ≤ b ∧ b ≤ 77 ∧ b % 4 = 1) {q : Nat} (hs_q : cs_st T E nx q) (hI : cs_I T E nx) : cm_ct (ai_ev sl (d + 3)) x 75 [cr b, cr q] T E nx 0 0 (fun rk rv T' E' nx' => rk = 1 ∧ T = T' ∧ E = E' ∧ nx = nx' ∧ ∃ z : Int, rv = ai_i z ∧ (0 ≤ z ∧ z ≤ 1)) := by
  refine cm_body (M := ai_m75) rfl rfl (fun kc ks => ?_)
  show cm_wp (ai_find ai_c75 sl) (ai_ev sl (d + 2)) x (kc + 0) (ks + 0) _ 0 [cr b, cr q, ai_un] [] T E nx kc ks
  refine w_const (n := 0) (npc := 1) rfl ?_
  refine w_istore (i := 2) (npc := 2) (loc' := [cr b, cr q, ai_i 0]) rfl rfl ?_
  have loop2 : ∀ (nf : Nat) (w : Int), ((5 - w).toNat) < nf → (0 ≤ w ∧ w ≤ 5) → cm_wp (ai_find ai_c75 sl) (ai_ev sl (d + 2)) x (kc + 0) (ks + 0) (fun rk rv T' E' nx' => rk = 1 ∧ T = T' ∧ E = E' ∧ nx = nx' ∧ ∃ z : Int, rv = ai_i z ∧ (0 ≤ z ∧ z ≤ 1)) 2 [cr b, cr q, ai_i w] [] T E nx kc ks := by
    intro nf
    induction nf with
    | zero => intro w hm; exact absurd hm (Nat.not_lt_zero _)
    | succ nf2 ih =>
      intro w hm2 hv2
      have ih2 := ih; clear ih
      refine w_iload (i := 2) (npc := 3) rfl rfl ?_
      refine w_const (n := 5) (npc := 4) rfl ?_
      refine w_icmp (c := .ge) (npc := 7) (pt := 29) rfl (fun hc1 => ?_) (fun hc1 => ?_)
      · replace hc1 : (5 : Int) ≤ w := hc1
        refine w_const (n := 1) (npc := 30) rfl ?_
        exact w_zret rfl (by omega) (⟨rfl, rfl, rfl, rfl, 1, rfl, by omega⟩) (by omega) (by omega)
      · replace hc1 : ¬ ((5 : Int) ≤ w) := hc1
        refine w_aload (i := 0) (npc := 8) (v := cr b) rfl rfl rfl ?_
        refine w_getf (i := b) (ci := 3) (k := 2) (npc := 11) rfl (hI.pl (by omega)) (hI.pgT0 hb_b) (by decide) (hI.pg2 hb_b) ?_
        refine w_iload (i := 2) (npc := 12) rfl rfl ?_
        obtain ⟨z2, hz2, hz2a, hz2b⟩ := hI.pgc hb_b (w : Int).toNat (by omega)
        have ghz2 := gv_eq hz2
        refine w_ald (i := b + 2) (t := 1) (n := 5) (npc := 13) rfl (hI.pl (by omega)) (hI.pgT2 hb_b) (by decide) rfl (by omega) hz2 ?_
        refine w_aload (i := 1) (npc := 14) (v := cr q) rfl rfl rfl ?_
        refine w_iload (i := 2) (npc := 15) rfl rfl ?_
        refine w_virt (ci := 4) (i := q) (npc := 18) (a := [cr q, ai_i w]) (rest := [ai_i z2]) rfl rfl hs_q.lt hs_q.T0 rfl rfl rfl rfl (ct_sp_seen (sl := sl) (x := x) (d := d + 0) (w) hs_q (by omega)) (Or.inl rfl) (fun k9 v9 T4 E4 nx4 kc4 ks4 hq3 hk4 hv4 => ?_)
        obtain ⟨rfl, rfl, rfl, rfl, z5, rfl, hz5⟩ := hq3
        obtain rfl : kc = kc4 := by omega
        obtain rfl : ks = ks4 := by omega
        refine Or.inr (Or.inl ⟨rfl, ?_⟩)
        refine w_icmp (c := .ge) (npc := 21) (pt := 23) rfl (fun hc9 => ?_) (fun hc9 => ?_)
        · replace hc9 : z5 ≤ z2 := hc9
          refine w_iinc (i := 2) (n := 1) (npc := 26) (loc' := [cr b, cr q, ai_i (w + 1)]) rfl rfl (by omega) rfl ?_
          refine w_goto (pt := 2) rfl ?_
          exact ih2 (w + 1) (by omega) (by omega)
        · replace hc9 : ¬ (z5 ≤ z2) := hc9
          refine w_const (n := 0) (npc := 22) rfl ?_
          exact w_zret rfl (by omega) (⟨rfl, rfl, rfl, rfl, 0, rfl, by omega⟩) (by omega) (by omega)
  exact loop2 _ (0) (Nat.lt_succ_self _) (by omega)
set_option maxRecDepth 16384 in
theorem ct_pg_heldOf {sl : Int × Int} {x : ai_E} {d : Nat} {T : cm_T} {E : cm_E} {nx : Nat} (w n : Int) {b : Nat} (hb_b : 41 ≤ b ∧ b ≤ 77 ∧ b % 4 = 1) (hI : cs_I T E nx) (hN : hn E) : cm_ct (ai_ev sl (d + 3)) x 74 [cr b, ai_i w, ai_i n] T E nx 0 0 (fun rk rv T' E' nx' => rk = 1 ∧ T = T' ∧ E = E' ∧ nx = nx' ∧ (rv = ai_nul ∨ ∃ q : Nat, rv = cr q ∧ cs_st T E nx q ∧ (True))) := by
  refine cm_body (M := ai_m74) rfl rfl (fun kc ks => ?_)
  show cm_wp (ai_find ai_c74 sl) (ai_ev sl (d + 2)) x (kc + 0) (ks + 0) _ 0 [cr b, ai_i w, ai_i n, ai_un] [] T E nx kc ks
  refine w_const (n := 0) (npc := 1) rfl ?_
  refine w_istore (i := 3) (npc := 2) (loc' := [cr b, ai_i w, ai_i n, ai_i 0]) rfl rfl ?_
  have loop2 : ∀ (nf : Nat) (i : Int), ((20 - i).toNat) < nf → (0 ≤ i ∧ i ≤ 20) → cm_wp (ai_find ai_c74 sl) (ai_ev sl (d + 2)) x (kc + 0) (ks + 0) (fun rk rv T' E' nx' => rk = 1 ∧ T = T' ∧ E = E' ∧ nx = nx' ∧ (rv = ai_nul ∨ ∃ q : Nat, rv = cr q ∧ cs_st T E nx q ∧ (True))) 2 [cr b, ai_i w, ai_i n, ai_i i] [] T E nx kc ks := by
    intro nf
    induction nf with
    | zero => intro i hm; exact absurd hm (Nat.not_lt_zero _)
    | succ nf2 ih =>
      intro i hm2 hv2
      have ih2 := ih; clear ih
      refine w_iload (i := 3) (npc := 3) rfl rfl ?_
      refine w_aload (i := 0) (npc := 4) (v := cr b) rfl rfl rfl ?_
      obtain ⟨z1, hz1, hz1a, hz1b⟩ := hI.pg4 hb_b
      have ghz1 := gv_eq hz1
      refine w_getf (i := b) (ci := 3) (k := 4) (npc := 7) rfl (hI.pl (by omega)) (hI.pgT0 hb_b) (by decide) hz1 ?_
      refine w_icmp (c := .ge) (npc := 10) (pt := 49) rfl (fun hc2 => ?_) (fun hc2 => ?_)
      · replace hc2 : z1 ≤ i := hc2
        refine w_null (npc := 50) rfl ?_
        exact w_aret rfl (Or.inl rfl) (⟨rfl, rfl, rfl, rfl, Or.inl rfl⟩) (by omega) (by omega)
      · replace hc2 : ¬ (z1 ≤ i) := hc2
        refine w_aload (i := 0) (npc := 11) (v := cr b) rfl rfl rfl ?_
        refine w_getf (i := b) (ci := 3) (k := 3) (npc := 14) rfl (hI.pl (by omega)) (hI.pgT0 hb_b) (by decide) (hI.pg3 hb_b) ?_
        refine w_iload (i := 3) (npc := 15) rfl rfl ?_
        obtain ⟨q3, hq3, hs4⟩ := hN.st hI hb_b (i := i) (by omega) (by omega)
        refine w_ald (i := b + 3) (t := 5) (n := 20) (npc := 16) rfl (hI.pl (by omega)) (hI.pgT3 hb_b) (by decide) rfl (by omega) hq3 ?_
        refine w_virt (ci := 4) (i := q3) (npc := 19) (a := [cr q3]) (rest := []) rfl rfl hs4.lt hs4.T0 rfl rfl rfl rfl (ct_sp_writer (sl := sl) (x := x) (d := d + 0)  hs4) (Or.inl rfl) (fun k9 v9 T6 E6 nx6 kc6 ks6 hq5 hk6 hv6 => ?_)
        obtain ⟨rfl, rfl, rfl, rfl, z7, rfl, hz7⟩ := hq5
        obtain rfl : kc = kc6 := by omega
        obtain rfl : ks = ks6 := by omega
        refine Or.inr (Or.inl ⟨rfl, ?_⟩)
        refine w_iload (i := 1) (npc := 20) rfl rfl ?_
        refine w_icmp (c := .ne) (npc := 23) (pt := 43) rfl (fun hc11 => ?_) (fun hc11 => ?_)
        · replace hc11 : z7 ≠ w := hc11
          refine w_iinc (i := 3) (n := 1) (npc := 46) (loc' := [cr b, ai_i w, ai_i n, ai_i (i + 1)]) rfl rfl (by omega) rfl ?_
          refine w_goto (pt := 2) rfl ?_
          exact ih2 (i + 1) (by omega) (by omega)
        · replace hc11 : ¬ (z7 ≠ w) := hc11
          refine w_aload (i := 0) (npc := 24) (v := cr b) rfl rfl rfl ?_
          refine w_getf (i := b) (ci := 3) (k := 3) (npc := 27) rfl (hI.pl (by omega)) (hI.pgT0 hb_b) (by decide) (hI.pg3 hb_b) ?_
          refine w_iload (i := 3) (npc := 28) rfl rfl ?_
          obtain ⟨q13, hq13, hs14⟩ := hN.st hI hb_b (i := i) (by omega) (by omega)
          refine w_ald (i := b + 3) (t := 5) (n := 20) (npc := 29) rfl (hI.pl (by omega)) (hI.pgT3 hb_b) (by decide) rfl (by omega) hq13 ?_
          refine w_virt (ci := 4) (i := q13) (npc := 32) (a := [cr q13]) (rest := []) rfl rfl hs14.lt hs14.T0 rfl rfl rfl rfl (ct_sp_number (sl := sl) (x := x) (d := d + 0)  hs14) (Or.inl rfl) (fun k9 v9 T16 E16 nx16 kc16 ks16 hq15 hk16 hv16 => ?_)
          obtain ⟨rfl, rfl, rfl, rfl, z17, rfl, hz17⟩ := hq15
          obtain rfl : kc = kc16 := by omega
          obtain rfl : ks = ks16 := by omega
          refine Or.inr (Or.inl ⟨rfl, ?_⟩)
          refine w_iload (i := 2) (npc := 33) rfl rfl ?_
          refine w_icmp (c := .ne) (npc := 36) (pt := 43) rfl (fun hc21 => ?_) (fun hc21 => ?_)
          · replace hc21 : z17 ≠ n := hc21
            refine w_iinc (i := 3) (n := 1) (npc := 46) (loc' := [cr b, ai_i w, ai_i n, ai_i (i + 1)]) rfl rfl (by omega) rfl ?_
            refine w_goto (pt := 2) rfl ?_
            exact ih2 (i + 1) (by omega) (by omega)
          · replace hc21 : ¬ (z17 ≠ n) := hc21
            refine w_aload (i := 0) (npc := 37) (v := cr b) rfl rfl rfl ?_
            refine w_getf (i := b) (ci := 3) (k := 3) (npc := 40) rfl (hI.pl (by omega)) (hI.pgT0 hb_b) (by decide) (hI.pg3 hb_b) ?_
            refine w_iload (i := 3) (npc := 41) rfl rfl ?_
            obtain ⟨q23, hq23, hs24⟩ := hN.st hI hb_b (i := i) (by omega) (by omega)
            refine w_ald (i := b + 3) (t := 5) (n := 20) (npc := 42) rfl (hI.pl (by omega)) (hI.pgT3 hb_b) (by decide) rfl (by omega) hq23 ?_
            exact w_aret rfl (Or.inr ⟨_, rfl⟩) (⟨rfl, rfl, rfl, rfl, Or.inr ⟨q23, rfl, hs24, trivial⟩⟩) (by omega) (by omega)
  exact loop2 _ (0) (Nat.lt_succ_self _) (by omega)
set_option maxRecDepth 16384 in
theorem ct_pg_leastReady {sl : Int × Int} {x : ai_E} {d : Nat} {T : cm_T} {E : cm_E} {nx : Nat} {b : Nat} (hb_b : 41 ≤ b ∧ b ≤ 77 ∧ b % 4 = 1) (hI : cs_I T E nx) (hN : hn E) : cm_ct (ai_ev sl (d + 4)) x 76 [cr b] T E nx 0 0 (fun rk rv T' E' nx' => rk = 1 ∧ T = T' ∧ E = E' ∧ nx = nx' ∧ ∃ z : Int, rv = ai_i z ∧ (-1 ≤ z ∧ z < gv E b 4)) := by
  refine cm_body (M := ai_m76) rfl rfl (fun kc ks => ?_)
  show cm_wp (ai_find ai_c76 sl) (ai_ev sl (d + 3)) x (kc + 0) (ks + 0) _ 0 [cr b, ai_un, ai_un, ai_un, ai_un] [] T E nx kc ks
  obtain ⟨z1, hz1, hz1a, hz1b⟩ := hI.pg4 hb_b
  have ghz1 := gv_eq hz1
  refine w_const (n := (-1)) (npc := 1) rfl ?_
  refine w_istore (i := 1) (npc := 2) (loc' := [cr b, ai_i ((-1)), ai_un, ai_un, ai_un]) rfl rfl ?_
  refine w_const (n := 300) (npc := 5) rfl ?_
  refine w_istore (i := 2) (npc := 6) (loc' := [cr b, ai_i ((-1)), ai_i 300, ai_un, ai_un]) rfl rfl ?_
  refine w_const (n := 0) (npc := 7) rfl ?_
  refine w_istore (i := 3) (npc := 8) (loc' := [cr b, ai_i ((-1)), ai_i 300, ai_i 0, ai_un]) rfl rfl ?_
  have loop8 : ∀ (nf : Nat) (m : Int) (s : Int) (i : Int) (u8_4 : ai_V), ((20 - i).toNat) < nf → (-1 ≤ m ∧ m < gv E b 4 ∧ 0 ≤ i ∧ i ≤ 20) → cm_wp (ai_find ai_c76 sl) (ai_ev sl (d + 3)) x (kc + 0) (ks + 0) (fun rk rv T' E' nx' => rk = 1 ∧ T = T' ∧ E = E' ∧ nx = nx' ∧ ∃ z : Int, rv = ai_i z ∧ (-1 ≤ z ∧ z < gv E b 4)) 8 [cr b, ai_i m, ai_i s, ai_i i, u8_4] [] T E nx kc ks := by
    intro nf
    induction nf with
    | zero => intro m s i u8_4 hm; exact absurd hm (Nat.not_lt_zero _)
    | succ nf8 ih =>
      intro m s i u8_4 hm8 hv8
      have ih8 := ih; clear ih
      refine w_iload (i := 3) (npc := 9) rfl rfl ?_
      refine w_aload (i := 0) (npc := 10) (v := cr b) rfl rfl rfl ?_
      refine w_getf (i := b) (ci := 3) (k := 4) (npc := 13) rfl (hI.pl (by omega)) (hI.pgT0 hb_b) (by decide) hz1 ?_
      refine w_icmp (c := .ge) (npc := 16) (pt := 69) rfl (fun hc2 => ?_) (fun hc2 => ?_)
      · replace hc2 : z1 ≤ i := hc2
        refine w_iload (i := 1) (npc := 70) rfl rfl ?_
        exact w_iret rfl (⟨rfl, rfl, rfl, rfl, m, rfl, by omega⟩) (by omega) (by omega)
      · replace hc2 : ¬ (z1 ≤ i) := hc2
        refine w_aload (i := 0) (npc := 17) (v := cr b) rfl rfl rfl ?_
        refine w_getf (i := b) (ci := 3) (k := 3) (npc := 20) rfl (hI.pl (by omega)) (hI.pgT0 hb_b) (by decide) (hI.pg3 hb_b) ?_
        refine w_iload (i := 3) (npc := 21) rfl rfl ?_
        obtain ⟨q3, hq3, hs4⟩ := hN.st hI hb_b (i := i) (by omega) (by omega)
        refine w_ald (i := b + 3) (t := 5) (n := 20) (npc := 22) rfl (hI.pl (by omega)) (hI.pgT3 hb_b) (by decide) rfl (by omega) hq3 ?_
        refine w_virt (ci := 4) (i := q3) (npc := 25) (a := [cr q3]) (rest := []) rfl rfl hs4.lt hs4.T0 rfl rfl rfl rfl (ct_sp_writer (sl := sl) (x := x) (d := d + 1)  hs4) (Or.inl rfl) (fun k9 v9 T6 E6 nx6 kc6 ks6 hq5 hk6 hv6 => ?_)
        obtain ⟨rfl, rfl, rfl, rfl, z7, rfl, hz7⟩ := hq5
        obtain rfl : kc = kc6 := by omega
        obtain rfl : ks = ks6 := by omega
        refine Or.inr (Or.inl ⟨rfl, ?_⟩)
        refine w_aload (i := 0) (npc := 26) (v := cr b) rfl rfl rfl ?_
        refine w_getf (i := b) (ci := 3) (k := 3) (npc := 29) rfl (hI.pl (by omega)) (hI.pgT0 hb_b) (by decide) (hI.pg3 hb_b) ?_
        refine w_iload (i := 3) (npc := 30) rfl rfl ?_
        obtain ⟨q11, hq11, hs12⟩ := hN.st hI hb_b (i := i) (by omega) (by omega)
        refine w_ald (i := b + 3) (t := 5) (n := 20) (npc := 31) rfl (hI.pl (by omega)) (hI.pgT3 hb_b) (by decide) rfl (by omega) hq11 ?_
        refine w_virt (ci := 4) (i := q11) (npc := 34) (a := [cr q11]) (rest := [ai_i z7]) rfl rfl hs12.lt hs12.T0 rfl rfl rfl rfl (ct_sp_number (sl := sl) (x := x) (d := d + 1)  hs12) (Or.inl rfl) (fun k9 v9 T14 E14 nx14 kc14 ks14 hq13 hk14 hv14 => ?_)
        obtain ⟨rfl, rfl, rfl, rfl, z15, rfl, hz15⟩ := hq13
        obtain rfl : kc = kc14 := by omega
        obtain rfl : ks = ks14 := by omega
        refine Or.inr (Or.inl ⟨rfl, ?_⟩)
        refine w_call (npc := 37) (a := [ai_i z7, ai_i z15]) (rest := []) rfl rfl rfl rfl rfl (ct_c_slotOf (sl := sl) (x := x) (d := d + 2) (z7) (z15) (by omega) (by omega)) (Or.inr (fun _ _ _ _ _ hq => by have h1 := hq.1; omega)) (fun k9 v9 T20 E20 nx20 kc20 ks20 hq19 hk20 hv20 => ?_)
        obtain ⟨rfl, rfl, rfl, rfl, z21, rfl, hz21⟩ := hq19
        obtain rfl : kc = kc20 := by omega
        obtain rfl : ks = ks20 := by omega
        refine Or.inr (Or.inl ⟨rfl, ?_⟩)
        refine w_istore (i := 4) (npc := 39) (loc' := [cr b, ai_i m, ai_i s, ai_i i, ai_i z21]) rfl rfl ?_
        refine w_iload (i := 4) (npc := 41) rfl rfl ?_
        refine w_iload (i := 2) (npc := 42) rfl rfl ?_
        refine w_icmp (c := .ge) (npc := 45) (pt := 63) rfl (fun hc25 => ?_) (fun hc25 => ?_)
        · replace hc25 : s ≤ z21 := hc25
          refine w_iinc (i := 3) (n := 1) (npc := 66) (loc' := [cr b, ai_i m, ai_i s, ai_i (i + 1), ai_i z21]) rfl rfl (by omega) rfl ?_
          refine w_goto (pt := 8) rfl ?_
          exact ih8 (m) (s) (i + 1) (ai_i z21) (by omega) (by omega)
        · replace hc25 : ¬ (s ≤ z21) := hc25
          refine w_aload (i := 0) (npc := 46) (v := cr b) rfl rfl rfl ?_
          refine w_aload (i := 0) (npc := 47) (v := cr b) rfl rfl rfl ?_
          refine w_getf (i := b) (ci := 3) (k := 3) (npc := 50) rfl (hI.pl (by omega)) (hI.pgT0 hb_b) (by decide) (hI.pg3 hb_b) ?_
          refine w_iload (i := 3) (npc := 51) rfl rfl ?_
          obtain ⟨q27, hq27, hs28⟩ := hN.st hI hb_b (i := i) (by omega) (by omega)
          refine w_ald (i := b + 3) (t := 5) (n := 20) (npc := 52) rfl (hI.pl (by omega)) (hI.pgT3 hb_b) (by decide) rfl (by omega) hq27 ?_
          refine w_virt (ci := 3) (i := b) (npc := 55) (a := [cr b, cr q27]) (rest := []) rfl rfl (hI.pl (by omega)) (hI.pgT0 hb_b) rfl rfl rfl rfl (ct_pg_isReady (sl := sl) (x := x) (d := d + 0)  (b := b) hb_b hs28 hI) (Or.inl rfl) (fun k9 v9 T30 E30 nx30 kc30 ks30 hq29 hk30 hv30 => ?_)
          obtain ⟨rfl, rfl, rfl, rfl, z31, rfl, hz31⟩ := hq29
          obtain rfl : kc = kc30 := by omega
          obtain rfl : ks = ks30 := by omega
          refine Or.inr (Or.inl ⟨rfl, ?_⟩)
          refine w_if (c := .eq) (npc := 58) (pt := 63) rfl (fun hc35 => ?_) (fun hc35 => ?_)
          · replace hc35 : z31 = (0 : Int) := hc35
            refine w_iinc (i := 3) (n := 1) (npc := 66) (loc' := [cr b, ai_i m, ai_i s, ai_i (i + 1), ai_i z21]) rfl rfl (by omega) rfl ?_
            refine w_goto (pt := 8) rfl ?_
            exact ih8 (m) (s) (i + 1) (ai_i z21) (by omega) (by omega)
          · replace hc35 : ¬ (z31 = (0 : Int)) := hc35
            refine w_iload (i := 3) (npc := 59) rfl rfl ?_
            refine w_istore (i := 1) (npc := 60) (loc' := [cr b, ai_i i, ai_i s, ai_i i, ai_i z21]) rfl rfl ?_
            refine w_iload (i := 4) (npc := 62) rfl rfl ?_
            refine w_istore (i := 2) (npc := 63) (loc' := [cr b, ai_i i, ai_i z21, ai_i i, ai_i z21]) rfl rfl ?_
            refine w_iinc (i := 3) (n := 1) (npc := 66) (loc' := [cr b, ai_i i, ai_i z21, ai_i (i + 1), ai_i z21]) rfl rfl (by omega) rfl ?_
            refine w_goto (pt := 8) rfl ?_
            exact ih8 (i) (z21) (i + 1) (ai_i z21) (by omega) (by omega)
  exact loop8 _ ((-1)) (300) (0) (ai_un) (Nat.lt_succ_self _) (by omega)
