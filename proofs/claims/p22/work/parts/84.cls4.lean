set_option maxRecDepth 16384 in
theorem ct_vw_markSlot {sl : Int × Int} {x : ai_E} {d : Nat} {T : cm_T} {E : cm_E} {nx : Nat} (a : Int) {q : Nat} (hs_q : cs_st T E nx q) (hI : cs_I T E nx) (hp0 : 0 ≤ a ∧ a ≤ 200000) : cm_ct (ai_ev sl (d + 3)) x 117 [cr 6, cr q, ai_i a] T E nx 0 0 (fun rk rv T' E' nx' => rk = 1 ∧ T = T' ∧ E = E' ∧ nx = nx' ∧ ∃ z : Int, rv = ai_i z ∧ (-1 ≤ z ∧ z ≤ 299)) := by
  refine cm_body (M := ai_m117) rfl rfl (fun kc ks => ?_)
  show cm_wp (ai_find ai_c117 sl) (ai_ev sl (d + 2)) x (kc + 0) (ks + 0) _ 0 [cr 6, cr q, ai_i a, ai_un] [] T E nx kc ks
  refine w_aload (i := 1) (npc := 1) (v := cr q) rfl rfl rfl ?_
  refine w_iload (i := 2) (npc := 2) rfl rfl ?_
  refine w_virt (ci := 4) (i := q) (npc := 5) (a := [cr q, ai_i a]) (rest := []) rfl rfl hs_q.lt hs_q.T0 rfl rfl rfl rfl (ct_sp_markedSlot (sl := sl) (x := x) (d := d + 0) (a) hs_q (by omega)) (Or.inl rfl) (fun k9 v9 T2 E2 nx2 kc2 ks2 hq1 hk2 hv2 => ?_)
  obtain ⟨rfl, rfl, rfl, rfl, z3, rfl, hz3⟩ := hq1
  obtain rfl : kc = kc2 := by omega
  obtain rfl : ks = ks2 := by omega
  refine Or.inr (Or.inl ⟨rfl, ?_⟩)
  refine w_istore (i := 3) (npc := 6) (loc' := [cr 6, cr q, ai_i a, ai_i z3]) rfl rfl ?_
  refine w_iload (i := 3) (npc := 7) rfl rfl ?_
  refine w_const (n := (-1)) (npc := 8) rfl ?_
  refine w_icmp (c := .eq) (npc := 11) (pt := 24) rfl (fun hc7 => ?_) (fun hc7 => ?_)
  · replace hc7 : z3 = ((-1) : Int) := hc7
    refine w_const (n := (-1)) (npc := 25) rfl ?_
    exact w_iret rfl (⟨rfl, rfl, rfl, rfl, (-1), rfl, by omega⟩) (by omega) (by omega)
  · replace hc7 : ¬ (z3 = ((-1) : Int)) := hc7
    refine w_aload (i := 0) (npc := 12) (v := cr 6) rfl rfl rfl ?_
    refine w_getf (i := 6) (ci := 6) (k := 2) (npc := 15) rfl (hI.pl (by decide)) (hI.T (by decide) rfl) (by decide) (hI.ref 6 2 (p := 9) (by decide) (by decide) rfl) ?_
    refine w_iload (i := 3) (npc := 16) rfl rfl ?_
    have hlt9 : (z3 : Int).toNat < 300 := by omega
    rcases hI.stp 9 (z3 : Int).toNat (by decide) hlt9 rfl with hx10 | ⟨q8, hx10, hs9⟩
    · clear hlt9
      refine w_ald (i := 9) (t := 5) (n := 300) (npc := 17) rfl (hI.pl (by decide)) (hI.T (by decide) rfl) (by decide) rfl (by omega) hx10 ?_
      refine w_isnullN (pt := 24) (npc := 20) rfl ?_
      refine w_const (n := (-1)) (npc := 25) rfl ?_
      exact w_iret rfl (⟨rfl, rfl, rfl, rfl, (-1), rfl, by omega⟩) (by omega) (by omega)
    clear hlt9
    refine w_ald (i := 9) (t := 5) (n := 300) (npc := 17) rfl (hI.pl (by decide)) (hI.T (by decide) rfl) (by decide) rfl (by omega) hx10 ?_
    refine w_isnullR (pt := 24) (npc := 20) rfl ?_
    refine w_iload (i := 3) (npc := 21) rfl rfl ?_
    refine w_goto (pt := 25) rfl ?_
    exact w_iret rfl (⟨rfl, rfl, rfl, rfl, z3, rfl, by omega⟩) (by omega) (by omega)
set_option maxRecDepth 16384 in
theorem ct_vw_slotAt {sl : Int × Int} {x : ai_E} {d : Nat} {T : cm_T} {E : cm_E} {nx : Nat} (i : Int)  (hI : cs_I T E nx) : cm_ct (ai_ev sl (d + 1)) x 121 [cr 6, ai_i i] T E nx 0 0 (fun rk rv T' E' nx' => rk = 1 ∧ T = T' ∧ E = E' ∧ nx = nx' ∧ ∃ z : Int, rv = ai_i z ∧ ((z = -1 ∧ ¬ (0 ≤ i ∧ i < gv E 6 8)) ∨ (0 ≤ z ∧ z ≤ 299 ∧ 0 ≤ i ∧ i < gv E 6 8))) := by
  refine cm_body (M := ai_m121) rfl rfl (fun kc ks => ?_)
  show cm_wp (ai_find ai_c121 sl) (ai_ev sl (d + 0)) x (kc + 0) (ks + 0) _ 0 [cr 6, ai_i i] [] T E nx kc ks
  obtain ⟨z1, hz1, hz1a, hz1b⟩ := hI.int 6 8 (lo := 0) (hi := 300) (by decide) (by decide) rfl
  have ghz1 := gv_eq hz1
  refine w_iload (i := 1) (npc := 1) rfl rfl ?_
  refine w_if (c := .lt) (npc := 4) (pt := 26) rfl (fun hc2 => ?_) (fun hc2 => ?_)
  · replace hc2 : i < (0 : Int) := hc2
    refine w_const (n := (-1)) (npc := 27) rfl ?_
    exact w_iret rfl (⟨rfl, rfl, rfl, rfl, (-1), rfl, by omega⟩) (by omega) (by omega)
  · replace hc2 : ¬ (i < (0 : Int)) := hc2
    refine w_iload (i := 1) (npc := 5) rfl rfl ?_
    refine w_aload (i := 0) (npc := 6) (v := cr 6) rfl rfl rfl ?_
    refine w_getf (i := 6) (ci := 6) (k := 8) (npc := 9) rfl (hI.pl (by decide)) (hI.T (by decide) rfl) (by decide) hz1 ?_
    refine w_icmp (c := .ge) (npc := 12) (pt := 26) rfl (fun hc3 => ?_) (fun hc3 => ?_)
    · replace hc3 : z1 ≤ i := hc3
      refine w_const (n := (-1)) (npc := 27) rfl ?_
      exact w_iret rfl (⟨rfl, rfl, rfl, rfl, (-1), rfl, by omega⟩) (by omega) (by omega)
    · replace hc3 : ¬ (z1 ≤ i) := hc3
      refine w_aload (i := 0) (npc := 13) (v := cr 6) rfl rfl rfl ?_
      refine w_getf (i := 6) (ci := 6) (k := 4) (npc := 16) rfl (hI.pl (by decide)) (hI.T (by decide) rfl) (by decide) (hI.ref 6 4 (p := 11) (by decide) (by decide) rfl) ?_
      refine w_aload (i := 0) (npc := 17) (v := cr 6) rfl rfl rfl ?_
      refine w_getf (i := 6) (ci := 6) (k := 5) (npc := 20) rfl (hI.pl (by decide)) (hI.T (by decide) rfl) (by decide) (hI.ref 6 5 (p := 12) (by decide) (by decide) rfl) ?_
      refine w_iload (i := 1) (npc := 21) rfl rfl ?_
      obtain ⟨z4, hz4, hz4a, hz4b⟩ := hI.int 12 (i : Int).toNat (lo := 0) (hi := 299) (by decide) (show (i : Int).toNat < 300 by omega) rfl
      have ghz4 := gv_eq hz4
      refine w_ald (i := 12) (t := 1) (n := 300) (npc := 22) rfl (hI.pl (by decide)) (hI.T (by decide) rfl) (by decide) rfl (by omega) hz4 ?_
      obtain ⟨z5, hz5, hz5a, hz5b⟩ := hI.int 11 (z4 : Int).toNat (lo := 0) (hi := 299) (by decide) (show (z4 : Int).toNat < 300 by omega) rfl
      have ghz5 := gv_eq hz5
      refine w_ald (i := 11) (t := 1) (n := 300) (npc := 23) rfl (hI.pl (by decide)) (hI.T (by decide) rfl) (by decide) rfl (by omega) hz5 ?_
      refine w_goto (pt := 27) rfl ?_
      exact w_iret rfl (⟨rfl, rfl, rfl, rfl, z5, rfl, by omega⟩) (by omega) (by omega)
set_option maxRecDepth 16384 in
theorem ct_vw_keyLengthOf {sl : Int × Int} {x : ai_E} {d : Nat} {T : cm_T} {E : cm_E} {nx : Nat} (s : Int)  (hI : cs_I T E nx) (hp0 : 0 ≤ s ∧ s ≤ 299) : cm_ct (ai_ev sl (d + 2)) x 112 [cr 6, ai_i s] T E nx 0 0 (fun rk rv T' E' nx' => rk = 1 ∧ T = T' ∧ E = E' ∧ nx = nx' ∧ ∃ z : Int, rv = ai_i z ∧ (0 ≤ z ∧ z ≤ 255)) := by
  refine cm_body (M := ai_m112) rfl rfl (fun kc ks => ?_)
  show cm_wp (ai_find ai_c112 sl) (ai_ev sl (d + 1)) x (kc + 0) (ks + 0) _ 0 [cr 6, ai_i s] [] T E nx kc ks
  refine w_aload (i := 0) (npc := 1) (v := cr 6) rfl rfl rfl ?_
  refine w_getf (i := 6) (ci := 6) (k := 2) (npc := 4) rfl (hI.pl (by decide)) (hI.T (by decide) rfl) (by decide) (hI.ref 6 2 (p := 9) (by decide) (by decide) rfl) ?_
  refine w_iload (i := 1) (npc := 5) rfl rfl ?_
  have hlt9 : (s : Int).toNat < 300 := by omega
  rcases hI.stp 9 (s : Int).toNat (by decide) hlt9 rfl with hx3 | ⟨q1, hx3, hs2⟩
  · clear hlt9
    refine w_ald (i := 9) (t := 5) (n := 300) (npc := 6) rfl (hI.pl (by decide)) (hI.T (by decide) rfl) (by decide) rfl (by omega) hx3 ?_
    refine w_isnullN (pt := 9) (npc := 13) rfl ?_
    refine w_const (n := 0) (npc := 10) rfl ?_
    refine w_goto (pt := 28) rfl ?_
    exact w_iret rfl (⟨rfl, rfl, rfl, rfl, 0, rfl, by omega⟩) (by omega) (by omega)
  clear hlt9
  refine w_ald (i := 9) (t := 5) (n := 300) (npc := 6) rfl (hI.pl (by decide)) (hI.T (by decide) rfl) (by decide) rfl (by omega) hx3 ?_
  refine w_isnullR (pt := 9) (npc := 13) rfl ?_
  refine w_aload (i := 0) (npc := 14) (v := cr 6) rfl rfl rfl ?_
  refine w_getf (i := 6) (ci := 6) (k := 2) (npc := 17) rfl (hI.pl (by decide)) (hI.T (by decide) rfl) (by decide) (hI.ref 6 2 (p := 9) (by decide) (by decide) rfl) ?_
  refine w_iload (i := 1) (npc := 18) rfl rfl ?_
  have hlt9 : (s : Int).toNat < 300 := by omega
  rcases hI.stp 9 (s : Int).toNat (by decide) hlt9 rfl with hx6 | ⟨q4, hx6, hs5⟩
  · exact absurd (hx3.symm.trans hx6) (by intro q9; cases q9)
  clear hlt9
  refine w_ald (i := 9) (t := 5) (n := 300) (npc := 19) rfl (hI.pl (by decide)) (hI.T (by decide) rfl) (by decide) rfl (by omega) hx6 ?_
  refine w_aload (i := 0) (npc := 20) (v := cr 6) rfl rfl rfl ?_
  refine w_getf (i := 6) (ci := 6) (k := 3) (npc := 23) rfl (hI.pl (by decide)) (hI.T (by decide) rfl) (by decide) (hI.ref 6 3 (p := 10) (by decide) (by decide) rfl) ?_
  refine w_iload (i := 1) (npc := 24) rfl rfl ?_
  obtain ⟨z7, hz7, hz7a, hz7b⟩ := hI.int 10 (s : Int).toNat (lo := 0) (hi := 140000) (by decide) (show (s : Int).toNat < 300 by omega) rfl
  have ghz7 := gv_eq hz7
  refine w_ald (i := 10) (t := 1) (n := 300) (npc := 25) rfl (hI.pl (by decide)) (hI.T (by decide) rfl) (by decide) rfl (by omega) hz7 ?_
  refine w_virt (ci := 4) (i := q4) (npc := 28) (a := [cr q4, ai_i z7]) (rest := []) rfl rfl hs5.lt hs5.T0 rfl rfl rfl rfl (ct_sp_byteAt (sl := sl) (x := x) (d := d + 0) (z7) hs5) (Or.inl rfl) (fun k9 v9 T9 E9 nx9 kc9 ks9 hq8 hk9 hv9 => ?_)
  obtain ⟨rfl, rfl, rfl, rfl, z10, rfl, hz10⟩ := hq8
  obtain rfl : kc = kc9 := by omega
  obtain rfl : ks = ks9 := by omega
  refine Or.inr (Or.inl ⟨rfl, ?_⟩)
  exact w_iret rfl (⟨rfl, rfl, rfl, rfl, z10, rfl, by omega⟩) (by omega) (by omega)
set_option maxRecDepth 16384 in
theorem ct_vw_keyNumberOf {sl : Int × Int} {x : ai_E} {d : Nat} {T : cm_T} {E : cm_E} {nx : Nat} (s k : Int)  (hI : cs_I T E nx) (hp0 : 0 ≤ s ∧ s ≤ 299) (hp1 : 0 ≤ k ∧ k ≤ 255) : cm_ct (ai_ev sl (d + 2)) x 113 [cr 6, ai_i s, ai_i k] T E nx 0 0 (fun rk rv T' E' nx' => rk = 1 ∧ T = T' ∧ E = E' ∧ nx = nx' ∧ ∃ z : Int, rv = ai_i z ∧ (0 ≤ z ∧ z ≤ 65535)) := by
  refine cm_body (M := ai_m113) rfl rfl (fun kc ks => ?_)
  show cm_wp (ai_find ai_c113 sl) (ai_ev sl (d + 1)) x (kc + 0) (ks + 0) _ 0 [cr 6, ai_i s, ai_i k] [] T E nx kc ks
  refine w_aload (i := 0) (npc := 1) (v := cr 6) rfl rfl rfl ?_
  refine w_getf (i := 6) (ci := 6) (k := 2) (npc := 4) rfl (hI.pl (by decide)) (hI.T (by decide) rfl) (by decide) (hI.ref 6 2 (p := 9) (by decide) (by decide) rfl) ?_
  refine w_iload (i := 1) (npc := 5) rfl rfl ?_
  have hlt9 : (s : Int).toNat < 300 := by omega
  rcases hI.stp 9 (s : Int).toNat (by decide) hlt9 rfl with hx3 | ⟨q1, hx3, hs2⟩
  · clear hlt9
    refine w_ald (i := 9) (t := 5) (n := 300) (npc := 6) rfl (hI.pl (by decide)) (hI.T (by decide) rfl) (by decide) rfl (by omega) hx3 ?_
    refine w_isnullN (pt := 9) (npc := 13) rfl ?_
    refine w_const (n := 0) (npc := 10) rfl ?_
    refine w_goto (pt := 34) rfl ?_
    exact w_iret rfl (⟨rfl, rfl, rfl, rfl, 0, rfl, by omega⟩) (by omega) (by omega)
  clear hlt9
  refine w_ald (i := 9) (t := 5) (n := 300) (npc := 6) rfl (hI.pl (by decide)) (hI.T (by decide) rfl) (by decide) rfl (by omega) hx3 ?_
  refine w_isnullR (pt := 9) (npc := 13) rfl ?_
  refine w_aload (i := 0) (npc := 14) (v := cr 6) rfl rfl rfl ?_
  refine w_getf (i := 6) (ci := 6) (k := 2) (npc := 17) rfl (hI.pl (by decide)) (hI.T (by decide) rfl) (by decide) (hI.ref 6 2 (p := 9) (by decide) (by decide) rfl) ?_
  refine w_iload (i := 1) (npc := 18) rfl rfl ?_
  have hlt9 : (s : Int).toNat < 300 := by omega
  rcases hI.stp 9 (s : Int).toNat (by decide) hlt9 rfl with hx6 | ⟨q4, hx6, hs5⟩
  · exact absurd (hx3.symm.trans hx6) (by intro q9; cases q9)
  clear hlt9
  refine w_ald (i := 9) (t := 5) (n := 300) (npc := 19) rfl (hI.pl (by decide)) (hI.T (by decide) rfl) (by decide) rfl (by omega) hx6 ?_
  refine w_aload (i := 0) (npc := 20) (v := cr 6) rfl rfl rfl ?_
  refine w_getf (i := 6) (ci := 6) (k := 3) (npc := 23) rfl (hI.pl (by decide)) (hI.T (by decide) rfl) (by decide) (hI.ref 6 3 (p := 10) (by decide) (by decide) rfl) ?_
  refine w_iload (i := 1) (npc := 24) rfl rfl ?_
  obtain ⟨z7, hz7, hz7a, hz7b⟩ := hI.int 10 (s : Int).toNat (lo := 0) (hi := 140000) (by decide) (show (s : Int).toNat < 300 by omega) rfl
  have ghz7 := gv_eq hz7
  refine w_ald (i := 10) (t := 1) (n := 300) (npc := 25) rfl (hI.pl (by decide)) (hI.T (by decide) rfl) (by decide) rfl (by omega) hz7 ?_
  refine w_const (n := 1) (npc := 26) rfl ?_
  refine w_iadd (npc := 27) rfl (by omega) ?_
  refine w_const (n := 2) (npc := 28) rfl ?_
  refine w_iload (i := 2) (npc := 29) rfl rfl ?_
  refine w_imul (npc := 30) rfl (by omega) ?_
  refine w_iadd (npc := 31) rfl (by omega) ?_
  refine w_virt (ci := 4) (i := q4) (npc := 34) (a := [cr q4, ai_i (z7 + 1 + (2 * k))]) (rest := []) rfl rfl hs5.lt hs5.T0 rfl rfl rfl rfl (ct_sp_pairAt (sl := sl) (x := x) (d := d + 0) (z7 + 1 + (2 * k)) hs5) (Or.inl rfl) (fun k9 v9 T12 E12 nx12 kc12 ks12 hq11 hk12 hv12 => ?_)
  obtain ⟨rfl, rfl, rfl, rfl, z13, rfl, hz13⟩ := hq11
  obtain rfl : kc = kc12 := by omega
  obtain rfl : ks = ks12 := by omega
  refine Or.inr (Or.inl ⟨rfl, ?_⟩)
  exact w_iret rfl (⟨rfl, rfl, rfl, rfl, z13, rfl, by omega⟩) (by omega) (by omega)
set_option maxRecDepth 16384 in
theorem ct_vw_countOf {sl : Int × Int} {x : ai_E} {d : Nat} {T : cm_T} {E : cm_E} {nx : Nat} (w : Int)  (hI : cs_I T E nx) : cm_ct (ai_ev sl (d + 2)) x 108 [cr 6, ai_i w] T E nx 0 0 (fun rk rv T' E' nx' => rk = 1 ∧ T = T' ∧ E = E' ∧ nx = nx' ∧ ∃ z : Int, rv = ai_i z ∧ (0 ≤ z ∧ z ≤ 300)) := by
  refine cm_body (M := ai_m108) rfl rfl (fun kc ks => ?_)
  show cm_wp (ai_find ai_c108 sl) (ai_ev sl (d + 1)) x (kc + 0) (ks + 0) _ 0 [cr 6, ai_i w, ai_un, ai_un] [] T E nx kc ks
  refine w_const (n := 0) (npc := 1) rfl ?_
  refine w_istore (i := 2) (npc := 2) (loc' := [cr 6, ai_i w, ai_i 0, ai_un]) rfl rfl ?_
  refine w_const (n := 0) (npc := 3) rfl ?_
  refine w_istore (i := 3) (npc := 4) (loc' := [cr 6, ai_i w, ai_i 0, ai_i 0]) rfl rfl ?_
  have loop4 : ∀ (nf : Nat) (a : Int) (i : Int), ((300 - i).toNat) < nf → (0 ≤ a ∧ a ≤ i ∧ i ≤ 300) → cm_wp (ai_find ai_c108 sl) (ai_ev sl (d + 1)) x (kc + 0) (ks + 0) (fun rk rv T' E' nx' => rk = 1 ∧ T = T' ∧ E = E' ∧ nx = nx' ∧ ∃ z : Int, rv = ai_i z ∧ (0 ≤ z ∧ z ≤ 300)) 4 [cr 6, ai_i w, ai_i a, ai_i i] [] T E nx kc ks := by
    intro nf
    induction nf with
    | zero => intro a i hm; exact absurd hm (Nat.not_lt_zero _)
    | succ nf4 ih =>
      intro a i hm4 hv4
      have ih4 := ih; clear ih
      refine w_iload (i := 3) (npc := 5) rfl rfl ?_
      refine w_aload (i := 0) (npc := 6) (v := cr 6) rfl rfl rfl ?_
      obtain ⟨z1, hz1, hz1a, hz1b⟩ := hI.int 6 8 (lo := 0) (hi := 300) (by decide) (by decide) rfl
      have ghz1 := gv_eq hz1
      refine w_getf (i := 6) (ci := 6) (k := 8) (npc := 9) rfl (hI.pl (by decide)) (hI.T (by decide) rfl) (by decide) hz1 ?_
      refine w_icmp (c := .ge) (npc := 12) (pt := 33) rfl (fun hc2 => ?_) (fun hc2 => ?_)
      · replace hc2 : z1 ≤ i := hc2
        refine w_iload (i := 2) (npc := 34) rfl rfl ?_
        exact w_iret rfl (⟨rfl, rfl, rfl, rfl, a, rfl, by omega⟩) (by omega) (by omega)
      · replace hc2 : ¬ (z1 ≤ i) := hc2
        refine w_aload (i := 0) (npc := 13) (v := cr 6) rfl rfl rfl ?_
        refine w_iload (i := 3) (npc := 14) rfl rfl ?_
        refine w_virt (ci := 6) (i := 6) (npc := 17) (a := [cr 6, ai_i i]) (rest := []) rfl rfl (hI.pl (by decide)) (hI.T (by decide) rfl) rfl rfl rfl rfl (ct_vw_slotAt (sl := sl) (x := x) (d := d + 0) (i) hI) (Or.inl rfl) (fun k9 v9 T4 E4 nx4 kc4 ks4 hq3 hk4 hv4 => ?_)
        obtain ⟨rfl, rfl, rfl, rfl, z5, rfl, hz5⟩ := hq3
        obtain rfl : kc = kc4 := by omega
        obtain rfl : ks = ks4 := by omega
        refine Or.inr (Or.inl ⟨rfl, ?_⟩)
        refine w_const (n := 60) (npc := 19) rfl ?_
        refine w_idiv (npc := 20) rfl (by omega) (by omega) (fun z9 hz9 hz9b hz9c => ?_)
        refine w_iload (i := 1) (npc := 21) rfl rfl ?_
        refine w_icmp (c := .ne) (npc := 24) (pt := 27) rfl (fun hc10 => ?_) (fun hc10 => ?_)
        · replace hc10 : z9 ≠ w := hc10
          refine w_iinc (i := 3) (n := 1) (npc := 30) (loc' := [cr 6, ai_i w, ai_i a, ai_i (i + 1)]) rfl rfl (by omega) rfl ?_
          refine w_goto (pt := 4) rfl ?_
          exact ih4 (a) (i + 1) (by omega) (by omega)
        · replace hc10 : ¬ (z9 ≠ w) := hc10
          refine w_iinc (i := 2) (n := 1) (npc := 27) (loc' := [cr 6, ai_i w, ai_i (a + 1), ai_i i]) rfl rfl (by omega) rfl ?_
          refine w_iinc (i := 3) (n := 1) (npc := 30) (loc' := [cr 6, ai_i w, ai_i (a + 1), ai_i (i + 1)]) rfl rfl (by omega) rfl ?_
          refine w_goto (pt := 4) rfl ?_
          exact ih4 (a + 1) (i + 1) (by omega) (by omega)
  exact loop4 _ (0) (0) (Nat.lt_succ_self _) (by omega)
set_option maxRecDepth 16384 in
theorem ct_vw_compareKeys {sl : Int × Int} {x : ai_E} {d : Nat} {T : cm_T} {E : cm_E} {nx : Nat} (s t : Int)  (hI : cs_I T E nx) (hp0 : 0 ≤ s ∧ s ≤ 299) (hp1 : 0 ≤ t ∧ t ≤ 299) : cm_ct (ai_ev sl (d + 2)) x 106 [cr 6, ai_i s, ai_i t] T E nx 0 0 (fun rk rv T' E' nx' => rk = 1 ∧ T = T' ∧ E = E' ∧ nx = nx' ∧ ∃ z : Int, rv = ai_i z ∧ (-65535 ≤ z ∧ z ≤ 65535)) := by
  refine cm_body (M := ai_m106) rfl rfl (fun kc ks => ?_)
  show cm_wp (ai_find ai_c106 sl) (ai_ev sl (d + 1)) x (kc + 0) (ks + 0) _ 0 [cr 6, ai_i s, ai_i t, ai_un, ai_un, ai_un, ai_un, ai_un, ai_un] [] T E nx kc ks
  refine w_aload (i := 0) (npc := 1) (v := cr 6) rfl rfl rfl ?_
  refine w_getf (i := 6) (ci := 6) (k := 2) (npc := 4) rfl (hI.pl (by decide)) (hI.T (by decide) rfl) (by decide) (hI.ref 6 2 (p := 9) (by decide) (by decide) rfl) ?_
  refine w_iload (i := 1) (npc := 5) rfl rfl ?_
  have hlt9 : (s : Int).toNat < 300 := by omega
  rcases hI.stp 9 (s : Int).toNat (by decide) hlt9 rfl with hx3 | ⟨q1, hx3, hs2⟩
  · clear hlt9
    refine w_ald (i := 9) (t := 5) (n := 300) (npc := 6) rfl (hI.pl (by decide)) (hI.T (by decide) rfl) (by decide) rfl (by omega) hx3 ?_
    refine w_astore (i := 3) (npc := 7) (loc' := [cr 6, ai_i s, ai_i t, ai_nul, ai_un, ai_un, ai_un, ai_un, ai_un]) rfl rfl rfl ?_
    refine w_aload (i := 0) (npc := 8) (v := cr 6) rfl rfl rfl ?_
    refine w_getf (i := 6) (ci := 6) (k := 2) (npc := 11) rfl (hI.pl (by decide)) (hI.T (by decide) rfl) (by decide) (hI.ref 6 2 (p := 9) (by decide) (by decide) rfl) ?_
    refine w_iload (i := 2) (npc := 12) rfl rfl ?_
    have hlt9 : (t : Int).toNat < 300 := by omega
    rcases hI.stp 9 (t : Int).toNat (by decide) hlt9 rfl with hx6 | ⟨q4, hx6, hs5⟩
    · clear hlt9
      refine w_ald (i := 9) (t := 5) (n := 300) (npc := 13) rfl (hI.pl (by decide)) (hI.T (by decide) rfl) (by decide) rfl (by omega) hx6 ?_
      refine w_astore (i := 4) (npc := 15) (loc' := [cr 6, ai_i s, ai_i t, ai_nul, ai_nul, ai_un, ai_un, ai_un, ai_un]) rfl rfl rfl ?_
      refine w_aload (i := 3) (npc := 16) (v := ai_nul) rfl rfl rfl ?_
      refine w_isnullN (pt := 24) (npc := 19) rfl ?_
      refine w_const (n := 0) (npc := 25) rfl ?_
      exact w_iret rfl (⟨rfl, rfl, rfl, rfl, 0, rfl, by omega⟩) (by omega) (by omega)
    clear hlt9
    refine w_ald (i := 9) (t := 5) (n := 300) (npc := 13) rfl (hI.pl (by decide)) (hI.T (by decide) rfl) (by decide) rfl (by omega) hx6 ?_
    refine w_astore (i := 4) (npc := 15) (loc' := [cr 6, ai_i s, ai_i t, ai_nul, cr q4, ai_un, ai_un, ai_un, ai_un]) rfl rfl rfl ?_
    refine w_aload (i := 3) (npc := 16) (v := ai_nul) rfl rfl rfl ?_
    refine w_isnullN (pt := 24) (npc := 19) rfl ?_
    refine w_const (n := 0) (npc := 25) rfl ?_
    exact w_iret rfl (⟨rfl, rfl, rfl, rfl, 0, rfl, by omega⟩) (by omega) (by omega)
  clear hlt9
  refine w_ald (i := 9) (t := 5) (n := 300) (npc := 6) rfl (hI.pl (by decide)) (hI.T (by decide) rfl) (by decide) rfl (by omega) hx3 ?_
  refine w_astore (i := 3) (npc := 7) (loc' := [cr 6, ai_i s, ai_i t, cr q1, ai_un, ai_un, ai_un, ai_un, ai_un]) rfl rfl rfl ?_
  refine w_aload (i := 0) (npc := 8) (v := cr 6) rfl rfl rfl ?_
  refine w_getf (i := 6) (ci := 6) (k := 2) (npc := 11) rfl (hI.pl (by decide)) (hI.T (by decide) rfl) (by decide) (hI.ref 6 2 (p := 9) (by decide) (by decide) rfl) ?_
  refine w_iload (i := 2) (npc := 12) rfl rfl ?_
  have hlt9 : (t : Int).toNat < 300 := by omega
  rcases hI.stp 9 (t : Int).toNat (by decide) hlt9 rfl with hx9 | ⟨q7, hx9, hs8⟩
  · clear hlt9
    refine w_ald (i := 9) (t := 5) (n := 300) (npc := 13) rfl (hI.pl (by decide)) (hI.T (by decide) rfl) (by decide) rfl (by omega) hx9 ?_
    refine w_astore (i := 4) (npc := 15) (loc' := [cr 6, ai_i s, ai_i t, cr q1, ai_nul, ai_un, ai_un, ai_un, ai_un]) rfl rfl rfl ?_
    refine w_aload (i := 3) (npc := 16) (v := cr q1) rfl rfl rfl ?_
    refine w_isnullR (pt := 24) (npc := 19) rfl ?_
    refine w_aload (i := 4) (npc := 21) (v := ai_nul) rfl rfl rfl ?_
    refine w_isnullN (pt := 24) (npc := 26) rfl ?_
    refine w_const (n := 0) (npc := 25) rfl ?_
    exact w_iret rfl (⟨rfl, rfl, rfl, rfl, 0, rfl, by omega⟩) (by omega) (by omega)
  clear hlt9
  refine w_ald (i := 9) (t := 5) (n := 300) (npc := 13) rfl (hI.pl (by decide)) (hI.T (by decide) rfl) (by decide) rfl (by omega) hx9 ?_
  refine w_astore (i := 4) (npc := 15) (loc' := [cr 6, ai_i s, ai_i t, cr q1, cr q7, ai_un, ai_un, ai_un, ai_un]) rfl rfl rfl ?_
  refine w_aload (i := 3) (npc := 16) (v := cr q1) rfl rfl rfl ?_
  refine w_isnullR (pt := 24) (npc := 19) rfl ?_
  refine w_aload (i := 4) (npc := 21) (v := cr q7) rfl rfl rfl ?_
  refine w_isnullR (pt := 24) (npc := 26) rfl ?_
  refine w_aload (i := 3) (npc := 27) (v := cr q1) rfl rfl rfl ?_
  refine w_aload (i := 0) (npc := 28) (v := cr 6) rfl rfl rfl ?_
  refine w_getf (i := 6) (ci := 6) (k := 3) (npc := 31) rfl (hI.pl (by decide)) (hI.T (by decide) rfl) (by decide) (hI.ref 6 3 (p := 10) (by decide) (by decide) rfl) ?_
  refine w_iload (i := 1) (npc := 32) rfl rfl ?_
  obtain ⟨z10, hz10, hz10a, hz10b⟩ := hI.int 10 (s : Int).toNat (lo := 0) (hi := 140000) (by decide) (show (s : Int).toNat < 300 by omega) rfl
  have ghz10 := gv_eq hz10
  refine w_ald (i := 10) (t := 1) (n := 300) (npc := 33) rfl (hI.pl (by decide)) (hI.T (by decide) rfl) (by decide) rfl (by omega) hz10 ?_
  refine w_virt (ci := 4) (i := q1) (npc := 36) (a := [cr q1, ai_i z10]) (rest := []) rfl rfl hs2.lt hs2.T0 rfl rfl rfl rfl (ct_sp_byteAt (sl := sl) (x := x) (d := d + 0) (z10) hs2) (Or.inl rfl) (fun k9 v9 T12 E12 nx12 kc12 ks12 hq11 hk12 hv12 => ?_)
  obtain ⟨rfl, rfl, rfl, rfl, z13, rfl, hz13⟩ := hq11
  obtain rfl : kc = kc12 := by omega
  obtain rfl : ks = ks12 := by omega
  refine Or.inr (Or.inl ⟨rfl, ?_⟩)
  refine w_istore (i := 5) (npc := 38) (loc' := [cr 6, ai_i s, ai_i t, cr q1, cr q7, ai_i z13, ai_un, ai_un, ai_un]) rfl rfl ?_
  refine w_aload (i := 4) (npc := 40) (v := cr q7) rfl rfl rfl ?_
  refine w_aload (i := 0) (npc := 41) (v := cr 6) rfl rfl rfl ?_
  refine w_getf (i := 6) (ci := 6) (k := 3) (npc := 44) rfl (hI.pl (by decide)) (hI.T (by decide) rfl) (by decide) (hI.ref 6 3 (p := 10) (by decide) (by decide) rfl) ?_
  refine w_iload (i := 2) (npc := 45) rfl rfl ?_
  obtain ⟨z17, hz17, hz17a, hz17b⟩ := hI.int 10 (t : Int).toNat (lo := 0) (hi := 140000) (by decide) (show (t : Int).toNat < 300 by omega) rfl
  have ghz17 := gv_eq hz17
  refine w_ald (i := 10) (t := 1) (n := 300) (npc := 46) rfl (hI.pl (by decide)) (hI.T (by decide) rfl) (by decide) rfl (by omega) hz17 ?_
  refine w_virt (ci := 4) (i := q7) (npc := 49) (a := [cr q7, ai_i z17]) (rest := []) rfl rfl hs8.lt hs8.T0 rfl rfl rfl rfl (ct_sp_byteAt (sl := sl) (x := x) (d := d + 0) (z17) hs8) (Or.inl rfl) (fun k9 v9 T19 E19 nx19 kc19 ks19 hq18 hk19 hv19 => ?_)
  obtain ⟨rfl, rfl, rfl, rfl, z20, rfl, hz20⟩ := hq18
  obtain rfl : kc = kc19 := by omega
  obtain rfl : ks = ks19 := by omega
  refine Or.inr (Or.inl ⟨rfl, ?_⟩)
  refine w_istore (i := 6) (npc := 51) (loc' := [cr 6, ai_i s, ai_i t, cr q1, cr q7, ai_i z13, ai_i z20, ai_un, ai_un]) rfl rfl ?_
  refine w_const (n := 0) (npc := 52) rfl ?_
  refine w_istore (i := 7) (npc := 54) (loc' := [cr 6, ai_i s, ai_i t, cr q1, cr q7, ai_i z13, ai_i z20, ai_i 0, ai_un]) rfl rfl ?_
  have loop54 : ∀ (nf : Nat) (k : Int) (u54_8 : ai_V), ((255 - k).toNat) < nf → (0 ≤ k ∧ k ≤ 255) → cm_wp (ai_find ai_c106 sl) (ai_ev sl (d + 1)) x (kc + 0) (ks + 0) (fun rk rv T' E' nx' => rk = 1 ∧ T = T' ∧ E = E' ∧ nx = nx' ∧ ∃ z : Int, rv = ai_i z ∧ (-65535 ≤ z ∧ z ≤ 65535)) 54 [cr 6, ai_i s, ai_i t, cr q1, cr q7, ai_i z13, ai_i z20, ai_i k, u54_8] [] T E nx kc ks := by
    intro nf
    induction nf with
    | zero => intro k u54_8 hm; exact absurd hm (Nat.not_lt_zero _)
    | succ nf54 ih =>
      intro k u54_8 hm54 hv54
      have ih54 := ih; clear ih
      refine w_iload (i := 7) (npc := 56) rfl rfl ?_
      refine w_iload (i := 5) (npc := 58) rfl rfl ?_
      refine w_icmp (c := .ge) (npc := 61) (pt := 120) rfl (fun hc24 => ?_) (fun hc24 => ?_)
      · replace hc24 : z13 ≤ k := hc24
        refine w_iload (i := 5) (npc := 122) rfl rfl ?_
        refine w_iload (i := 6) (npc := 124) rfl rfl ?_
        refine w_isub (npc := 125) rfl (by omega) ?_
        exact w_iret rfl (⟨rfl, rfl, rfl, rfl, z13 - z20, rfl, by omega⟩) (by omega) (by omega)
      · replace hc24 : ¬ (z13 ≤ k) := hc24
        refine w_iload (i := 7) (npc := 63) rfl rfl ?_
        refine w_iload (i := 6) (npc := 65) rfl rfl ?_
        refine w_icmp (c := .ge) (npc := 68) (pt := 120) rfl (fun hc26 => ?_) (fun hc26 => ?_)
        · replace hc26 : z20 ≤ k := hc26
          refine w_iload (i := 5) (npc := 122) rfl rfl ?_
          refine w_iload (i := 6) (npc := 124) rfl rfl ?_
          refine w_isub (npc := 125) rfl (by omega) ?_
          exact w_iret rfl (⟨rfl, rfl, rfl, rfl, z13 - z20, rfl, by omega⟩) (by omega) (by omega)
        · replace hc26 : ¬ (z20 ≤ k) := hc26
          refine w_aload (i := 3) (npc := 69) (v := cr q1) rfl rfl rfl ?_
          refine w_aload (i := 0) (npc := 70) (v := cr 6) rfl rfl rfl ?_
          refine w_getf (i := 6) (ci := 6) (k := 3) (npc := 73) rfl (hI.pl (by decide)) (hI.T (by decide) rfl) (by decide) (hI.ref 6 3 (p := 10) (by decide) (by decide) rfl) ?_
          refine w_iload (i := 1) (npc := 74) rfl rfl ?_
          refine w_ald (i := 10) (t := 1) (n := 300) (npc := 75) rfl (hI.pl (by decide)) (hI.T (by decide) rfl) (by decide) rfl (by omega) hz10 ?_
          refine w_const (n := 1) (npc := 76) rfl ?_
          refine w_iadd (npc := 77) rfl (by omega) ?_
          refine w_const (n := 2) (npc := 78) rfl ?_
          refine w_iload (i := 7) (npc := 80) rfl rfl ?_
          refine w_imul (npc := 81) rfl (by omega) ?_
          refine w_iadd (npc := 82) rfl (by omega) ?_
          refine w_virt (ci := 4) (i := q1) (npc := 85) (a := [cr q1, ai_i (z10 + 1 + (2 * k))]) (rest := []) rfl rfl hs2.lt hs2.T0 rfl rfl rfl rfl (ct_sp_pairAt (sl := sl) (x := x) (d := d + 0) (z10 + 1 + (2 * k)) hs2) (Or.inl rfl) (fun k9 v9 T32 E32 nx32 kc32 ks32 hq31 hk32 hv32 => ?_)
          obtain ⟨rfl, rfl, rfl, rfl, z33, rfl, hz33⟩ := hq31
          obtain rfl : kc = kc32 := by omega
          obtain rfl : ks = ks32 := by omega
          refine Or.inr (Or.inl ⟨rfl, ?_⟩)
          refine w_aload (i := 4) (npc := 87) (v := cr q7) rfl rfl rfl ?_
          refine w_aload (i := 0) (npc := 88) (v := cr 6) rfl rfl rfl ?_
          refine w_getf (i := 6) (ci := 6) (k := 3) (npc := 91) rfl (hI.pl (by decide)) (hI.T (by decide) rfl) (by decide) (hI.ref 6 3 (p := 10) (by decide) (by decide) rfl) ?_
          refine w_iload (i := 2) (npc := 92) rfl rfl ?_
          refine w_ald (i := 10) (t := 1) (n := 300) (npc := 93) rfl (hI.pl (by decide)) (hI.T (by decide) rfl) (by decide) rfl (by omega) hz17 ?_
          refine w_const (n := 1) (npc := 94) rfl ?_
          refine w_iadd (npc := 95) rfl (by omega) ?_
          refine w_const (n := 2) (npc := 96) rfl ?_
          refine w_iload (i := 7) (npc := 98) rfl rfl ?_
          refine w_imul (npc := 99) rfl (by omega) ?_
          refine w_iadd (npc := 100) rfl (by omega) ?_
          refine w_virt (ci := 4) (i := q7) (npc := 103) (a := [cr q7, ai_i (z17 + 1 + (2 * k))]) (rest := [ai_i z33]) rfl rfl hs8.lt hs8.T0 rfl rfl rfl rfl (ct_sp_pairAt (sl := sl) (x := x) (d := d + 0) (z17 + 1 + (2 * k)) hs8) (Or.inl rfl) (fun k9 v9 T41 E41 nx41 kc41 ks41 hq40 hk41 hv41 => ?_)
          obtain ⟨rfl, rfl, rfl, rfl, z42, rfl, hz42⟩ := hq40
          obtain rfl : kc = kc41 := by omega
          obtain rfl : ks = ks41 := by omega
          refine Or.inr (Or.inl ⟨rfl, ?_⟩)
          refine w_isub (npc := 104) rfl (by omega) ?_
          refine w_istore (i := 8) (npc := 106) (loc' := [cr 6, ai_i s, ai_i t, cr q1, cr q7, ai_i z13, ai_i z20, ai_i k, ai_i (z33 - z42)]) rfl rfl ?_
          refine w_iload (i := 8) (npc := 108) rfl rfl ?_
          refine w_if (c := .eq) (npc := 111) (pt := 114) rfl (fun hc47 => ?_) (fun hc47 => ?_)
          · replace hc47 : z33 - z42 = (0 : Int) := hc47
            refine w_iinc (i := 7) (n := 1) (npc := 117) (loc' := [cr 6, ai_i s, ai_i t, cr q1, cr q7, ai_i z13, ai_i z20, ai_i (k + 1), ai_i (z33 - z42)]) rfl rfl (by omega) rfl ?_
            refine w_goto (pt := 54) rfl ?_
            exact ih54 (k + 1) (ai_i (z33 - z42)) (by omega) (by omega)
          · replace hc47 : ¬ (z33 - z42 = (0 : Int)) := hc47
            refine w_iload (i := 8) (npc := 113) rfl rfl ?_
            exact w_iret rfl (⟨rfl, rfl, rfl, rfl, z33 - z42, rfl, by omega⟩) (by omega) (by omega)
  exact loop54 _ (0) (ai_un) (Nat.lt_succ_self _) (by omega)
set_option maxRecDepth 16384 in
theorem ct_vw_findStrike {sl : Int × Int} {x : ai_E} {d : Nat} {T : cm_T} {E : cm_E} {nx : Nat} (w s : Int) {b : Nat} (hb_b : 41 ≤ b ∧ b ≤ 77 ∧ b % 4 = 1) (hI : cs_I T E nx) (hp0 : 0 ≤ w ∧ w ≤ 4) : cm_ct (ai_ev sl (d + 4)) x 109 [cr 6, cr b, ai_i w, ai_i s] T E nx 0 0 (fun rk rv T' E' nx' => rk = 1 ∧ T = T' ∧ E = E' ∧ nx = nx' ∧ ∃ z : Int, rv = ai_i z ∧ (-1 ≤ z ∧ z ≤ 60)) := by
  refine cm_body (M := ai_m109) rfl rfl (fun kc ks => ?_)
  show cm_wp (ai_find ai_c109 sl) (ai_ev sl (d + 3)) x (kc + 0) (ks + 0) _ 0 [cr 6, cr b, ai_i w, ai_i s, ai_un, ai_un] [] T E nx kc ks
  refine w_const (n := 1) (npc := 1) rfl ?_
  refine w_istore (i := 4) (npc := 3) (loc' := [cr 6, cr b, ai_i w, ai_i s, ai_i 1, ai_un]) rfl rfl ?_
  have loop3 : ∀ (nf : Nat) (n : Int) (u3_5 : ai_V), ((61 - n).toNat) < nf → (1 ≤ n ∧ n ≤ 61) → cm_wp (ai_find ai_c109 sl) (ai_ev sl (d + 3)) x (kc + 0) (ks + 0) (fun rk rv T' E' nx' => rk = 1 ∧ T = T' ∧ E = E' ∧ nx = nx' ∧ ∃ z : Int, rv = ai_i z ∧ (-1 ≤ z ∧ z ≤ 60)) 3 [cr 6, cr b, ai_i w, ai_i s, ai_i n, u3_5] [] T E nx kc ks := by
    intro nf
    induction nf with
    | zero => intro n u3_5 hm; exact absurd hm (Nat.not_lt_zero _)
    | succ nf3 ih =>
      intro n u3_5 hm3 hv3
      have ih3 := ih; clear ih
      refine w_iload (i := 4) (npc := 5) rfl rfl ?_
      refine w_aload (i := 1) (npc := 6) (v := cr b) rfl rfl rfl ?_
      refine w_iload (i := 2) (npc := 7) rfl rfl ?_
      refine w_virt (ci := 3) (i := b) (npc := 10) (a := [cr b, ai_i w]) (rest := [ai_i n]) rfl rfl (hI.pl (by omega)) (hI.pgT0 hb_b) rfl rfl rfl rfl (ct_pg_stepsOf (sl := sl) (x := x) (d := d + 2) (w) (b := b) hb_b hI) (Or.inl rfl) (fun k9 v9 T2 E2 nx2 kc2 ks2 hq1 hk2 hv2 => ?_)
      obtain ⟨rfl, rfl, rfl, rfl, z3, rfl, hz3⟩ := hq1
      obtain rfl : kc = kc2 := by omega
      obtain rfl : ks = ks2 := by omega
      refine Or.inr (Or.inl ⟨rfl, ?_⟩)
      refine w_icmp (c := .gt) (npc := 13) (pt := 71) rfl (fun hc7 => ?_) (fun hc7 => ?_)
      · replace hc7 : z3 < n := hc7
        refine w_const (n := (-1)) (npc := 72) rfl ?_
        exact w_iret rfl (⟨rfl, rfl, rfl, rfl, (-1), rfl, by omega⟩) (by omega) (by omega)
      · replace hc7 : ¬ (z3 < n) := hc7
        refine w_aload (i := 1) (npc := 14) (v := cr b) rfl rfl rfl ?_
        refine w_iload (i := 2) (npc := 15) rfl rfl ?_
        refine w_iload (i := 4) (npc := 17) rfl rfl ?_
        refine w_virt (ci := 3) (i := b) (npc := 20) (a := [cr b, ai_i w, ai_i n]) (rest := []) rfl rfl (hI.pl (by omega)) (hI.pgT0 hb_b) rfl rfl rfl rfl (ct_pg_stepOf (sl := sl) (x := x) (d := d + 1) (w) (n) (b := b) hb_b hI) (Or.inl rfl) (fun k9 v9 T9 E9 nx9 kc9 ks9 hq8 hk9 hv9 => ?_)
        obtain ⟨rfl, rfl, rfl, rfl, hq8⟩ := hq8
        obtain rfl : kc = kc9 := by omega
        obtain rfl : ks = ks9 := by omega
        rcases hq8 with rfl | ⟨q14, rfl, hs15, hz10⟩
        · refine Or.inr (Or.inl ⟨rfl, ?_⟩)
          refine w_astore (i := 5) (npc := 22) (loc' := [cr 6, cr b, ai_i w, ai_i s, ai_i n, ai_nul]) rfl rfl rfl ?_
          refine w_aload (i := 5) (npc := 24) (v := ai_nul) rfl rfl rfl ?_
          refine w_isnullN (pt := 65) (npc := 27) rfl ?_
          refine w_iinc (i := 4) (n := 1) (npc := 68) (loc' := [cr 6, cr b, ai_i w, ai_i s, ai_i (n + 1), ai_nul]) rfl rfl (by omega) rfl ?_
          refine w_goto (pt := 3) rfl ?_
          exact ih3 (n + 1) (ai_nul) (by omega) (by omega)
        refine Or.inr (Or.inl ⟨rfl, ?_⟩)
        refine w_astore (i := 5) (npc := 22) (loc' := [cr 6, cr b, ai_i w, ai_i s, ai_i n, cr q14]) rfl rfl rfl ?_
        refine w_aload (i := 5) (npc := 24) (v := cr q14) rfl rfl rfl ?_
        refine w_isnullR (pt := 65) (npc := 27) rfl ?_
        refine w_aload (i := 5) (npc := 29) (v := cr q14) rfl rfl rfl ?_
        refine w_virt (ci := 4) (i := q14) (npc := 32) (a := [cr q14]) (rest := []) rfl rfl hs15.lt hs15.T0 rfl rfl rfl rfl (ct_sp_kind (sl := sl) (x := x) (d := d + 1)  hs15) (Or.inl rfl) (fun k9 v9 T18 E18 nx18 kc18 ks18 hq17 hk18 hv18 => ?_)
        obtain ⟨rfl, rfl, rfl, rfl, z19, rfl, hz19⟩ := hq17
        obtain rfl : kc = kc18 := by omega
        obtain rfl : ks = ks18 := by omega
        refine Or.inr (Or.inl ⟨rfl, ?_⟩)
        refine w_const (n := 1) (npc := 33) rfl ?_
        refine w_icmp (c := .ne) (npc := 36) (pt := 65) rfl (fun hc23 => ?_) (fun hc23 => ?_)
        · replace hc23 : z19 ≠ (1 : Int) := hc23
          refine w_iinc (i := 4) (n := 1) (npc := 68) (loc' := [cr 6, cr b, ai_i w, ai_i s, ai_i (n + 1), cr q14]) rfl rfl (by omega) rfl ?_
          refine w_goto (pt := 3) rfl ?_
          exact ih3 (n + 1) (cr q14) (by omega) (by omega)
        · replace hc23 : ¬ (z19 ≠ (1 : Int)) := hc23
          refine w_aload (i := 0) (npc := 37) (v := cr 6) rfl rfl rfl ?_
          refine w_getf (i := 6) (ci := 6) (k := 0) (npc := 40) rfl (hI.pl (by decide)) (hI.T (by decide) rfl) (by decide) (hI.ref 6 0 (p := 7) (by decide) (by decide) rfl) ?_
          refine w_iload (i := 2) (npc := 41) rfl rfl ?_
          refine w_iload (i := 4) (npc := 43) rfl rfl ?_
          refine w_call (npc := 46) (a := [ai_i w, ai_i n]) (rest := [cr 7]) rfl rfl rfl rfl rfl (ct_c_slotOf (sl := sl) (x := x) (d := d + 2) (w) (n) (by omega) (by omega)) (Or.inr (fun _ _ _ _ _ hq => by have h1 := hq.1; omega)) (fun k9 v9 T26 E26 nx26 kc26 ks26 hq25 hk26 hv26 => ?_)
          obtain ⟨rfl, rfl, rfl, rfl, z27, rfl, hz27⟩ := hq25
          obtain rfl : kc = kc26 := by omega
          obtain rfl : ks = ks26 := by omega
          refine Or.inr (Or.inl ⟨rfl, ?_⟩)
          obtain ⟨z31, hz31, hz31a, hz31b⟩ := hI.int 7 (z27 : Int).toNat (lo := 0) (hi := 1) (by decide) (show (z27 : Int).toNat < 300 by omega) rfl
          have ghz31 := gv_eq hz31
          refine w_ald (i := 7) (t := 2) (n := 300) (npc := 47) rfl (hI.pl (by decide)) (hI.T (by decide) rfl) (by decide) rfl (by omega) hz31 ?_
          refine w_if (c := .eq) (npc := 50) (pt := 65) rfl (fun hc32 => ?_) (fun hc32 => ?_)
          · replace hc32 : z31 = (0 : Int) := hc32
            refine w_iinc (i := 4) (n := 1) (npc := 68) (loc' := [cr 6, cr b, ai_i w, ai_i s, ai_i (n + 1), cr q14]) rfl rfl (by omega) rfl ?_
            refine w_goto (pt := 3) rfl ?_
            exact ih3 (n + 1) (cr q14) (by omega) (by omega)
          · replace hc32 : ¬ (z31 = (0 : Int)) := hc32
            refine w_aload (i := 0) (npc := 51) (v := cr 6) rfl rfl rfl ?_
            refine w_aload (i := 5) (npc := 53) (v := cr q14) rfl rfl rfl ?_
            refine w_const (n := 10) (npc := 55) rfl ?_
            refine w_virt (ci := 6) (i := 6) (npc := 58) (a := [cr 6, cr q14, ai_i 10]) (rest := []) rfl rfl (hI.pl (by decide)) (hI.T (by decide) rfl) rfl rfl rfl rfl (ct_vw_markSlot (sl := sl) (x := x) (d := d + 0) (10) hs15 hI (by omega)) (Or.inl rfl) (fun k9 v9 T35 E35 nx35 kc35 ks35 hq34 hk35 hv35 => ?_)
            obtain ⟨rfl, rfl, rfl, rfl, z36, rfl, hz36⟩ := hq34
            obtain rfl : kc = kc35 := by omega
            obtain rfl : ks = ks35 := by omega
            refine Or.inr (Or.inl ⟨rfl, ?_⟩)
            refine w_iload (i := 3) (npc := 59) rfl rfl ?_
            refine w_icmp (c := .ne) (npc := 62) (pt := 65) rfl (fun hc40 => ?_) (fun hc40 => ?_)
            · replace hc40 : z36 ≠ s := hc40
              refine w_iinc (i := 4) (n := 1) (npc := 68) (loc' := [cr 6, cr b, ai_i w, ai_i s, ai_i (n + 1), cr q14]) rfl rfl (by omega) rfl ?_
              refine w_goto (pt := 3) rfl ?_
              exact ih3 (n + 1) (cr q14) (by omega) (by omega)
            · replace hc40 : ¬ (z36 ≠ s) := hc40
              refine w_iload (i := 4) (npc := 64) rfl rfl ?_
              exact w_iret rfl (⟨rfl, rfl, rfl, rfl, n, rfl, by omega⟩) (by omega) (by omega)
  exact loop3 _ (1) (ai_un) (Nat.lt_succ_self _) (by omega)
set_option maxRecDepth 16384 in
theorem ct_vw_sawStrikes {sl : Int × Int} {x : ai_E} {d : Nat} {T : cm_T} {E : cm_E} {nx : Nat} (w c : Int) {b : Nat} (hb_b : 41 ≤ b ∧ b ≤ 77 ∧ b % 4 = 1) (hI : cs_I T E nx) (hp0 : 0 ≤ w ∧ w ≤ 4) (hp1 : 0 ≤ c ∧ c ≤ 5) : cm_ct (ai_ev sl (d + 3)) x 120 [cr 6, cr b, ai_i w, ai_i c] T E nx 0 0 (fun rk rv T' E' nx' => rk = 1 ∧ T = T' ∧ E = E' ∧ nx = nx' ∧ ∃ z : Int, rv = ai_i z ∧ (0 ≤ z ∧ z ≤ 1)) := by
  refine cm_body (M := ai_m120) rfl rfl (fun kc ks => ?_)
  show cm_wp (ai_find ai_c120 sl) (ai_ev sl (d + 2)) x (kc + 0) (ks + 0) _ 0 [cr 6, cr b, ai_i w, ai_i c, ai_un, ai_un] [] T E nx kc ks
  refine w_aload (i := 1) (npc := 1) (v := cr b) rfl rfl rfl ?_
  refine w_iload (i := 2) (npc := 2) rfl rfl ?_
  refine w_aload (i := 1) (npc := 3) (v := cr b) rfl rfl rfl ?_
  refine w_iload (i := 2) (npc := 4) rfl rfl ?_
  refine w_virt (ci := 3) (i := b) (npc := 7) (a := [cr b, ai_i w]) (rest := [ai_i w, cr b]) rfl rfl (hI.pl (by omega)) (hI.pgT0 hb_b) rfl rfl rfl rfl (ct_pg_stepsOf (sl := sl) (x := x) (d := d + 1) (w) (b := b) hb_b hI) (Or.inl rfl) (fun k9 v9 T2 E2 nx2 kc2 ks2 hq1 hk2 hv2 => ?_)
  obtain ⟨rfl, rfl, rfl, rfl, z3, rfl, hz3⟩ := hq1
  obtain rfl : kc = kc2 := by omega
  obtain rfl : ks = ks2 := by omega
  refine Or.inr (Or.inl ⟨rfl, ?_⟩)
  refine w_virt (ci := 3) (i := b) (npc := 10) (a := [cr b, ai_i w, ai_i z3]) (rest := []) rfl rfl (hI.pl (by omega)) (hI.pgT0 hb_b) rfl rfl rfl rfl (ct_pg_stepOf (sl := sl) (x := x) (d := d + 0) (w) (z3) (b := b) hb_b hI) (Or.inl rfl) (fun k9 v9 T8 E8 nx8 kc8 ks8 hq7 hk8 hv8 => ?_)
  obtain ⟨rfl, rfl, rfl, rfl, hq7⟩ := hq7
  obtain rfl : kc = kc8 := by omega
  obtain rfl : ks = ks8 := by omega
  rcases hq7 with rfl | ⟨q13, rfl, hs14, hz9⟩
  · refine Or.inr (Or.inl ⟨rfl, ?_⟩)
    refine w_astore (i := 4) (npc := 12) (loc' := [cr 6, cr b, ai_i w, ai_i c, ai_nul, ai_un]) rfl rfl rfl ?_
    refine w_aload (i := 4) (npc := 14) (v := ai_nul) rfl rfl rfl ?_
    refine w_isnullN (pt := 17) (npc := 19) rfl ?_
    refine w_const (n := 0) (npc := 18) rfl ?_
    exact w_zret rfl (by omega) (⟨rfl, rfl, rfl, rfl, 0, rfl, by omega⟩) (by omega) (by omega)
  refine Or.inr (Or.inl ⟨rfl, ?_⟩)
  refine w_astore (i := 4) (npc := 12) (loc' := [cr 6, cr b, ai_i w, ai_i c, cr q13, ai_un]) rfl rfl rfl ?_
  refine w_aload (i := 4) (npc := 14) (v := cr q13) rfl rfl rfl ?_
  refine w_isnullR (pt := 17) (npc := 19) rfl ?_
  refine w_const (n := 0) (npc := 20) rfl ?_
  refine w_istore (i := 5) (npc := 22) (loc' := [cr 6, cr b, ai_i w, ai_i c, cr q13, ai_i 0]) rfl rfl ?_
  have loop22 : ∀ (nf : Nat) (v : Int), ((5 - v).toNat) < nf → (0 ≤ v ∧ v ≤ 5) → cm_wp (ai_find ai_c120 sl) (ai_ev sl (d + 2)) x (kc + 0) (ks + 0) (fun rk rv T' E' nx' => rk = 1 ∧ T = T' ∧ E = E' ∧ nx = nx' ∧ ∃ z : Int, rv = ai_i z ∧ (0 ≤ z ∧ z ≤ 1)) 22 [cr 6, cr b, ai_i w, ai_i c, cr q13, ai_i v] [] T E nx kc ks := by
    intro nf
    induction nf with
    | zero => intro v hm; exact absurd hm (Nat.not_lt_zero _)
    | succ nf22 ih =>
      intro v hm22 hv22
      have ih22 := ih; clear ih
      refine w_iload (i := 5) (npc := 24) rfl rfl ?_
      refine w_iload (i := 3) (npc := 25) rfl rfl ?_
      refine w_icmp (c := .ge) (npc := 28) (pt := 59) rfl (fun hc15 => ?_) (fun hc15 => ?_)
      · replace hc15 : c ≤ v := hc15
        refine w_const (n := 1) (npc := 60) rfl ?_
        exact w_zret rfl (by omega) (⟨rfl, rfl, rfl, rfl, 1, rfl, by omega⟩) (by omega) (by omega)
      · replace hc15 : ¬ (c ≤ v) := hc15
        refine w_iload (i := 5) (npc := 30) rfl rfl ?_
        refine w_iload (i := 2) (npc := 31) rfl rfl ?_
        refine w_icmp (c := .eq) (npc := 34) (pt := 53) rfl (fun hc16 => ?_) (fun hc16 => ?_)
        · replace hc16 : v = w := hc16
          refine w_iinc (i := 5) (n := 1) (npc := 56) (loc' := [cr 6, cr b, ai_i w, ai_i c, cr q13, ai_i (v + 1)]) rfl rfl (by omega) rfl ?_
          refine w_goto (pt := 22) rfl ?_
          exact ih22 (v + 1) (by omega) (by omega)
        · replace hc16 : ¬ (v = w) := hc16
          refine w_aload (i := 4) (npc := 36) (v := cr q13) rfl rfl rfl ?_
          refine w_iload (i := 5) (npc := 38) rfl rfl ?_
          refine w_virt (ci := 4) (i := q13) (npc := 41) (a := [cr q13, ai_i v]) (rest := []) rfl rfl hs14.lt hs14.T0 rfl rfl rfl rfl (ct_sp_seen (sl := sl) (x := x) (d := d + 0) (v) hs14 (by omega)) (Or.inl rfl) (fun k9 v9 T19 E19 nx19 kc19 ks19 hq18 hk19 hv19 => ?_)
          obtain ⟨rfl, rfl, rfl, rfl, z20, rfl, hz20⟩ := hq18
          obtain rfl : kc = kc19 := by omega
          obtain rfl : ks = ks19 := by omega
          refine Or.inr (Or.inl ⟨rfl, ?_⟩)
          refine w_aload (i := 0) (npc := 42) (v := cr 6) rfl rfl rfl ?_
          refine w_getf (i := 6) (ci := 6) (k := 6) (npc := 45) rfl (hI.pl (by decide)) (hI.T (by decide) rfl) (by decide) (hI.ref 6 6 (p := 13) (by decide) (by decide) rfl) ?_
          refine w_iload (i := 5) (npc := 47) rfl rfl ?_
          obtain ⟨z24, hz24, hz24a, hz24b⟩ := hI.int 13 (v : Int).toNat (lo := (-1)) (hi := 60) (by decide) (show (v : Int).toNat < 5 by omega) rfl
          have ghz24 := gv_eq hz24
          refine w_ald (i := 13) (t := 1) (n := 5) (npc := 48) rfl (hI.pl (by decide)) (hI.T (by decide) rfl) (by decide) rfl (by omega) hz24 ?_
          refine w_icmp (c := .ge) (npc := 51) (pt := 53) rfl (fun hc25 => ?_) (fun hc25 => ?_)
          · replace hc25 : z24 ≤ z20 := hc25
            refine w_iinc (i := 5) (n := 1) (npc := 56) (loc' := [cr 6, cr b, ai_i w, ai_i c, cr q13, ai_i (v + 1)]) rfl rfl (by omega) rfl ?_
            refine w_goto (pt := 22) rfl ?_
            exact ih22 (v + 1) (by omega) (by omega)
          · replace hc25 : ¬ (z24 ≤ z20) := hc25
            refine w_const (n := 0) (npc := 52) rfl ?_
            exact w_zret rfl (by omega) (⟨rfl, rfl, rfl, rfl, 0, rfl, by omega⟩) (by omega) (by omega)
  exact loop22 _ (0) (Nat.lt_succ_self _) (by omega)
set_option maxRecDepth 16384 in
theorem ct_vw_isGone {sl : Int × Int} {x : ai_E} {d : Nat} {T : cm_T} {E : cm_E} {nx : Nat} (c s : Int) {b : Nat} (hb_b : 41 ≤ b ∧ b ≤ 77 ∧ b % 4 = 1) (hI : cs_I T E nx) (hp0 : 0 ≤ c ∧ c ≤ 5) (hp1 : 0 ≤ s ∧ s ≤ 299) : cm_ct (ai_ev sl (d + 5)) x 111 [cr 6, cr b, ai_i c, ai_i s] T E nx 0 0 (fun rk rv T' E' nx' => rk = 1 ∧ T = T' ∧ nx = nx' ∧ cs_I T E' nx ∧ cm_fr (fun i k => i = 13) E E' ∧ ∃ z : Int, rv = ai_i z ∧ (0 ≤ z ∧ z ≤ 1)) := by
  refine cm_body (M := ai_m111) rfl rfl (fun kc ks => ?_)
  show cm_wp (ai_find ai_c111 sl) (ai_ev sl (d + 4)) x (kc + 0) (ks + 0) _ 0 [cr 6, cr b, ai_i c, ai_i s, ai_un] [] T E nx kc ks
  have hF : cm_fr (fun i k => i = 13) E E := fun _ _ _ => rfl
  refine w_aload (i := 0) (npc := 1) (v := cr 6) rfl rfl rfl ?_
  refine w_getf (i := 6) (ci := 6) (k := 1) (npc := 4) rfl (hI.pl (by decide)) (hI.T (by decide) rfl) (by decide) (hI.ref 6 1 (p := 8) (by decide) (by decide) rfl) ?_
  refine w_iload (i := 3) (npc := 5) rfl rfl ?_
  obtain ⟨z1, hz1, hz1a, hz1b⟩ := hI.int 8 (s : Int).toNat (lo := 0) (hi := 1) (by decide) (show (s : Int).toNat < 300 by omega) rfl
  have ghz1 := gv_eq hz1
  refine w_ald (i := 8) (t := 2) (n := 300) (npc := 6) rfl (hI.pl (by decide)) (hI.T (by decide) rfl) (by decide) rfl (by omega) hz1 ?_
  refine w_if (c := .ne) (npc := 9) (pt := 11) rfl (fun hc2 => ?_) (fun hc2 => ?_)
  · replace hc2 : z1 ≠ (0 : Int) := hc2
    refine w_const (n := 0) (npc := 12) rfl ?_
    refine w_istore (i := 4) (npc := 14) (loc' := [cr 6, cr b, ai_i c, ai_i s, ai_i 0]) rfl rfl ?_
    have loop14 : ∀ (nf : Nat) (w : Int) (Eq14 : cm_E), ((5 - w).toNat) < nf → cs_I T Eq14 nx → cm_fr (fun i k => i = 13) E Eq14 → (0 ≤ w ∧ w ≤ 5) → cm_wp (ai_find ai_c111 sl) (ai_ev sl (d + 4)) x (kc + 0) (ks + 0) (fun rk rv T' E' nx' => rk = 1 ∧ T = T' ∧ nx = nx' ∧ cs_I T E' nx ∧ cm_fr (fun i k => i = 13) E E' ∧ ∃ z : Int, rv = ai_i z ∧ (0 ≤ z ∧ z ≤ 1)) 14 [cr 6, cr b, ai_i c, ai_i s, ai_i w] [] T Eq14 nx kc ks := by
      intro nf
      induction nf with
      | zero => intro w Eq14 hm; exact absurd hm (Nat.not_lt_zero _)
      | succ nf14 ih =>
        intro w Eq14 hm14 hI14 hF14 hv14
        have ih14 := ih; clear ih
        refine w_iload (i := 4) (npc := 16) rfl rfl ?_
        refine w_iload (i := 2) (npc := 17) rfl rfl ?_
        refine w_icmp (c := .ge) (npc := 20) (pt := 54) rfl (fun hc3 => ?_) (fun hc3 => ?_)
        · replace hc3 : c ≤ w := hc3
          refine w_const (n := 0) (npc := 55) rfl ?_
          refine w_istore (i := 4) (npc := 57) (loc' := [cr 6, cr b, ai_i c, ai_i s, ai_i 0]) rfl rfl ?_
          have loop57 : ∀ (nf : Nat) (w : Int), ((5 - w).toNat) < nf → (0 ≤ w ∧ w ≤ 5) → cm_wp (ai_find ai_c111 sl) (ai_ev sl (d + 4)) x (kc + 0) (ks + 0) (fun rk rv T' E' nx' => rk = 1 ∧ T = T' ∧ nx = nx' ∧ cs_I T E' nx ∧ cm_fr (fun i k => i = 13) E E' ∧ ∃ z : Int, rv = ai_i z ∧ (0 ≤ z ∧ z ≤ 1)) 57 [cr 6, cr b, ai_i c, ai_i s, ai_i w] [] T Eq14 nx kc ks := by
            intro nf
            induction nf with
            | zero => intro w hm; exact absurd hm (Nat.not_lt_zero _)
            | succ nf57 ih =>
              intro w hm57 hv57
              have ih57 := ih; clear ih
              refine w_iload (i := 4) (npc := 59) rfl rfl ?_
              refine w_iload (i := 2) (npc := 60) rfl rfl ?_
              refine w_icmp (c := .ge) (npc := 63) (pt := 91) rfl (fun hc4 => ?_) (fun hc4 => ?_)
              · replace hc4 : c ≤ w := hc4
                refine w_const (n := 1) (npc := 92) rfl ?_
                exact w_zret rfl (by omega) (⟨rfl, rfl, rfl, hI14, hF14, 1, rfl, by omega⟩) (by omega) (by omega)
              · replace hc4 : ¬ (c ≤ w) := hc4
                refine w_iload (i := 4) (npc := 65) rfl rfl ?_
                refine w_aload (i := 1) (npc := 66) (v := cr b) rfl rfl rfl ?_
                obtain ⟨z5, hz5, hz5a, hz5b⟩ := hI14.pg0 hb_b
                have ghz5 := gv_eq hz5
                refine w_getf (i := b) (ci := 3) (k := 0) (npc := 69) rfl (hI14.pl (by omega)) (hI14.pgT0 hb_b) (by decide) hz5 ?_
                refine w_icmp (c := .eq) (npc := 72) (pt := 85) rfl (fun hc6 => ?_) (fun hc6 => ?_)
                · replace hc6 : w = z5 := hc6
                  refine w_iinc (i := 4) (n := 1) (npc := 88) (loc' := [cr 6, cr b, ai_i c, ai_i s, ai_i (w + 1)]) rfl rfl (by omega) rfl ?_
                  refine w_goto (pt := 57) rfl ?_
                  exact ih57 (w + 1) (by omega) (by omega)
                · replace hc6 : ¬ (w = z5) := hc6
                  refine w_aload (i := 0) (npc := 73) (v := cr 6) rfl rfl rfl ?_
                  refine w_aload (i := 1) (npc := 74) (v := cr b) rfl rfl rfl ?_
                  refine w_iload (i := 4) (npc := 76) rfl rfl ?_
                  refine w_iload (i := 2) (npc := 77) rfl rfl ?_
                  refine w_virt (ci := 6) (i := 6) (npc := 80) (a := [cr 6, cr b, ai_i w, ai_i c]) (rest := []) rfl rfl (hI14.pl (by decide)) (hI14.T (by decide) rfl) rfl rfl rfl rfl (ct_vw_sawStrikes (sl := sl) (x := x) (d := d + 1) (w) (c) (b := b) hb_b hI14 (by omega) (by omega)) (Or.inl rfl) (fun k9 v9 T9 E9 nx9 kc9 ks9 hq8 hk9 hv9 => ?_)
                  obtain ⟨rfl, rfl, rfl, rfl, z10, rfl, hz10⟩ := hq8
                  obtain rfl : kc = kc9 := by omega
                  obtain rfl : ks = ks9 := by omega
                  refine Or.inr (Or.inl ⟨rfl, ?_⟩)
                  refine w_if (c := .ne) (npc := 83) (pt := 85) rfl (fun hc14 => ?_) (fun hc14 => ?_)
                  · replace hc14 : z10 ≠ (0 : Int) := hc14
                    refine w_iinc (i := 4) (n := 1) (npc := 88) (loc' := [cr 6, cr b, ai_i c, ai_i s, ai_i (w + 1)]) rfl rfl (by omega) rfl ?_
                    refine w_goto (pt := 57) rfl ?_
                    exact ih57 (w + 1) (by omega) (by omega)
                  · replace hc14 : ¬ (z10 ≠ (0 : Int)) := hc14
                    refine w_const (n := 0) (npc := 84) rfl ?_
                    exact w_zret rfl (by omega) (⟨rfl, rfl, rfl, hI14, hF14, 0, rfl, by omega⟩) (by omega) (by omega)
          exact loop57 _ (0) (Nat.lt_succ_self _) (by omega)
        · replace hc3 : ¬ (c ≤ w) := hc3
          refine w_aload (i := 0) (npc := 21) (v := cr 6) rfl rfl rfl ?_
          refine w_getf (i := 6) (ci := 6) (k := 6) (npc := 24) rfl (hI14.pl (by decide)) (hI14.T (by decide) rfl) (by decide) (hI14.ref 6 6 (p := 13) (by decide) (by decide) rfl) ?_
          refine w_iload (i := 4) (npc := 26) rfl rfl ?_
          refine w_aload (i := 0) (npc := 27) (v := cr 6) rfl rfl rfl ?_
          refine w_aload (i := 1) (npc := 28) (v := cr b) rfl rfl rfl ?_
          refine w_iload (i := 4) (npc := 30) rfl rfl ?_
          refine w_iload (i := 3) (npc := 31) rfl rfl ?_
          refine w_virt (ci := 6) (i := 6) (npc := 34) (a := [cr 6, cr b, ai_i w, ai_i s]) (rest := [ai_i w, cr 13]) rfl rfl (hI14.pl (by decide)) (hI14.T (by decide) rfl) rfl rfl rfl rfl (ct_vw_findStrike (sl := sl) (x := x) (d := d + 0) (w) (s) (b := b) hb_b hI14 (by omega)) (Or.inl rfl) (fun k9 v9 T17 E17 nx17 kc17 ks17 hq16 hk17 hv17 => ?_)
          obtain ⟨rfl, rfl, rfl, rfl, z18, rfl, hz18⟩ := hq16
          obtain rfl : kc = kc17 := by omega
          obtain rfl : ks = ks17 := by omega
          refine Or.inr (Or.inl ⟨rfl, ?_⟩)
          refine w_ast (i := 13) (k := 1) (n := 5) (npc := 35) rfl (hI14.pl (by decide)) (hI14.T (by decide) rfl) (by decide) (by omega) cm_af1 ?_
          have hI23 := hI14.puti (i := 13) (k := (w : Int).toNat) (z := z18) (lo := (-1)) (hi := 60) (by decide) rfl (by omega)
          have hF25 := cm_fr.up (i := 13) (k := (w : Int).toNat) (v := ai_i z18) hF14 (by first | omega | (simp; done) | (simp; omega) | (simp only; omega))
          generalize hE24 : cm_up Eq14 13 ((w : Int).toNat) (ai_i z18) = E22 at hI23 hF25 ⊢
          have hz26 : E22 13 ((w : Int).toNat) = ai_i z18 := by rw [← hE24, cm_up_eq]
          have ghz26 := gv_eq hz26
          refine w_aload (i := 0) (npc := 36) (v := cr 6) rfl rfl rfl ?_
          refine w_getf (i := 6) (ci := 6) (k := 6) (npc := 39) rfl (hI23.pl (by decide)) (hI23.T (by decide) rfl) (by decide) (hI23.ref 6 6 (p := 13) (by decide) (by decide) rfl) ?_
          refine w_iload (i := 4) (npc := 41) rfl rfl ?_
          refine w_ald (i := 13) (t := 1) (n := 5) (npc := 42) rfl (hI23.pl (by decide)) (hI23.T (by decide) rfl) (by decide) rfl (by omega) hz26 ?_
          refine w_const (n := (-1)) (npc := 43) rfl ?_
          refine w_icmp (c := .ne) (npc := 46) (pt := 48) rfl (fun hc27 => ?_) (fun hc27 => ?_)
          · replace hc27 : z18 ≠ ((-1) : Int) := hc27
            refine w_iinc (i := 4) (n := 1) (npc := 51) (loc' := [cr 6, cr b, ai_i c, ai_i s, ai_i (w + 1)]) rfl rfl (by omega) rfl ?_
            refine w_goto (pt := 14) rfl ?_
            exact ih14 (w + 1) E22 (by omega) hI23 hF25 (by omega)
          · replace hc27 : ¬ (z18 ≠ ((-1) : Int)) := hc27
            refine w_const (n := 0) (npc := 47) rfl ?_
            exact w_zret rfl (by omega) (⟨rfl, rfl, rfl, hI23, hF25, 0, rfl, by omega⟩) (by omega) (by omega)
    exact loop14 _ (0) E (Nat.lt_succ_self _) hI hF (by omega)
  · replace hc2 : ¬ (z1 ≠ (0 : Int)) := hc2
    refine w_const (n := 0) (npc := 10) rfl ?_
    exact w_zret rfl (by omega) (⟨rfl, rfl, rfl, hI, hF, 0, rfl, by omega⟩) (by omega) (by omega)
set_option maxRecDepth 16384 in
theorem ct_vw_countGone {sl : Int × Int} {x : ai_E} {d : Nat} {T : cm_T} {E : cm_E} {nx : Nat} (c : Int) {b : Nat} (hb_b : 41 ≤ b ∧ b ≤ 77 ∧ b % 4 = 1) (hI : cs_I T E nx) (hp0 : 0 ≤ c ∧ c ≤ 5) : cm_ct (ai_ev sl (d + 6)) x 107 [cr 6, cr b, ai_i c] T E nx 0 0 (fun rk rv T' E' nx' => rk = 1 ∧ T = T' ∧ nx = nx' ∧ cs_I T E' nx ∧ cm_fr (fun i k => i = 13) E E' ∧ ∃ z : Int, rv = ai_i z ∧ (0 ≤ z ∧ z ≤ 300)) := by
  refine cm_body (M := ai_m107) rfl rfl (fun kc ks => ?_)
  show cm_wp (ai_find ai_c107 sl) (ai_ev sl (d + 5)) x (kc + 0) (ks + 0) _ 0 [cr 6, cr b, ai_i c, ai_un, ai_un] [] T E nx kc ks
  have hF : cm_fr (fun i k => i = 13) E E := fun _ _ _ => rfl
  refine w_const (n := 0) (npc := 1) rfl ?_
  refine w_istore (i := 3) (npc := 2) (loc' := [cr 6, cr b, ai_i c, ai_i 0, ai_un]) rfl rfl ?_
  refine w_const (n := 0) (npc := 3) rfl ?_
  refine w_istore (i := 4) (npc := 5) (loc' := [cr 6, cr b, ai_i c, ai_i 0, ai_i 0]) rfl rfl ?_
  have loop5 : ∀ (nf : Nat) (a : Int) (i : Int) (Eq5 : cm_E), ((300 - i).toNat) < nf → cs_I T Eq5 nx → cm_fr (fun i k => i = 13) E Eq5 → (0 ≤ a ∧ a ≤ i ∧ i ≤ 300) → cm_wp (ai_find ai_c107 sl) (ai_ev sl (d + 5)) x (kc + 0) (ks + 0) (fun rk rv T' E' nx' => rk = 1 ∧ T = T' ∧ nx = nx' ∧ cs_I T E' nx ∧ cm_fr (fun i k => i = 13) E E' ∧ ∃ z : Int, rv = ai_i z ∧ (0 ≤ z ∧ z ≤ 300)) 5 [cr 6, cr b, ai_i c, ai_i a, ai_i i] [] T Eq5 nx kc ks := by
    intro nf
    induction nf with
    | zero => intro a i Eq5 hm; exact absurd hm (Nat.not_lt_zero _)
    | succ nf5 ih =>
      intro a i Eq5 hm5 hI5 hF5 hv5
      have ih5 := ih; clear ih
      refine w_iload (i := 4) (npc := 7) rfl rfl ?_
      refine w_aload (i := 0) (npc := 8) (v := cr 6) rfl rfl rfl ?_
      obtain ⟨z1, hz1, hz1a, hz1b⟩ := hI5.int 6 7 (lo := 0) (hi := 300) (by decide) (by decide) rfl
      have ghz1 := gv_eq hz1
      refine w_getf (i := 6) (ci := 6) (k := 7) (npc := 11) rfl (hI5.pl (by decide)) (hI5.T (by decide) rfl) (by decide) hz1 ?_
      refine w_icmp (c := .ge) (npc := 14) (pt := 39) rfl (fun hc2 => ?_) (fun hc2 => ?_)
      · replace hc2 : z1 ≤ i := hc2
        refine w_iload (i := 3) (npc := 40) rfl rfl ?_
        exact w_iret rfl (⟨rfl, rfl, rfl, hI5, hF5, a, rfl, by omega⟩) (by omega) (by omega)
      · replace hc2 : ¬ (z1 ≤ i) := hc2
        refine w_aload (i := 0) (npc := 15) (v := cr 6) rfl rfl rfl ?_
        refine w_aload (i := 1) (npc := 16) (v := cr b) rfl rfl rfl ?_
        refine w_iload (i := 2) (npc := 17) rfl rfl ?_
        refine w_aload (i := 0) (npc := 18) (v := cr 6) rfl rfl rfl ?_
        refine w_getf (i := 6) (ci := 6) (k := 4) (npc := 21) rfl (hI5.pl (by decide)) (hI5.T (by decide) rfl) (by decide) (hI5.ref 6 4 (p := 11) (by decide) (by decide) rfl) ?_
        refine w_iload (i := 4) (npc := 23) rfl rfl ?_
        obtain ⟨z3, hz3, hz3a, hz3b⟩ := hI5.int 11 (i : Int).toNat (lo := 0) (hi := 299) (by decide) (show (i : Int).toNat < 300 by omega) rfl
        have ghz3 := gv_eq hz3
        refine w_ald (i := 11) (t := 1) (n := 300) (npc := 24) rfl (hI5.pl (by decide)) (hI5.T (by decide) rfl) (by decide) rfl (by omega) hz3 ?_
        refine w_virt (ci := 6) (i := 6) (npc := 27) (a := [cr 6, cr b, ai_i c, ai_i z3]) (rest := []) rfl rfl (hI5.pl (by decide)) (hI5.T (by decide) rfl) rfl rfl rfl rfl (ct_vw_isGone (sl := sl) (x := x) (d := d + 0) (c) (z3) (b := b) hb_b hI5 (by omega) (by omega)) (Or.inl rfl) (fun k9 v9 T5 E5 nx5 kc5 ks5 hq4 hk5 hv5 => ?_)
        obtain ⟨rfl, rfl, rfl, hI7, hG8, z6, rfl, hz6⟩ := hq4
        obtain rfl : kc = kc5 := by omega
        obtain rfl : ks = ks5 := by omega
        have hF10 := cm_fr.trans hF5 hG8 (by intro i k h; (try simp only at h); (try simp only); omega)
        have hz11 : E5 6 7 = ai_i z1 := (hG8 6 7 (by first | omega | (simp; done) | (simp; omega) | (simp only; omega))).trans hz1
        have ghz11 := gv_eq hz11
        refine Or.inr (Or.inl ⟨rfl, ?_⟩)
        refine w_if (c := .eq) (npc := 30) (pt := 33) rfl (fun hc12 => ?_) (fun hc12 => ?_)
        · replace hc12 : z6 = (0 : Int) := hc12
          refine w_iinc (i := 4) (n := 1) (npc := 36) (loc' := [cr 6, cr b, ai_i c, ai_i a, ai_i (i + 1)]) rfl rfl (by omega) rfl ?_
          refine w_goto (pt := 5) rfl ?_
          exact ih5 (a) (i + 1) E5 (by omega) hI7 hF10 (by omega)
        · replace hc12 : ¬ (z6 = (0 : Int)) := hc12
          refine w_iinc (i := 3) (n := 1) (npc := 33) (loc' := [cr 6, cr b, ai_i c, ai_i (a + 1), ai_i i]) rfl rfl (by omega) rfl ?_
          refine w_iinc (i := 4) (n := 1) (npc := 36) (loc' := [cr 6, cr b, ai_i c, ai_i (a + 1), ai_i (i + 1)]) rfl rfl (by omega) rfl ?_
          refine w_goto (pt := 5) rfl ?_
          exact ih5 (a + 1) (i + 1) E5 (by omega) hI7 hF10 (by omega)
  exact loop5 _ (0) (0) E (Nat.lt_succ_self _) hI hF (by omega)
set_option maxRecDepth 16384 in
theorem ct_vw_undoStep {sl : Int × Int} {x : ai_E} {d : Nat} {T : cm_T} {E : cm_E} {nx : Nat} (w n : Int) {b : Nat} (hb_b : 41 ≤ b ∧ b ≤ 77 ∧ b % 4 = 1) (hI : cs_I T E nx) (hp0 : 0 ≤ w ∧ w ≤ 4) : cm_ct (ai_ev sl (d + 3)) x 123 [cr 6, cr b, ai_i w, ai_i n] T E nx 0 0 (fun rk rv T' E' nx' => rk = 0 ∧ T = T' ∧ nx = nx' ∧ cs_I T E' nx ∧ cm_fr (fun i k => i = 7) E E' ∧ (True)) := by
  refine cm_body (M := ai_m123) rfl rfl (fun kc ks => ?_)
  show cm_wp (ai_find ai_c123 sl) (ai_ev sl (d + 2)) x (kc + 0) (ks + 0) _ 0 [cr 6, cr b, ai_i w, ai_i n] [] T E nx kc ks
  have hF : cm_fr (fun i k => i = 7) E E := fun _ _ _ => rfl
  refine w_aload (i := 1) (npc := 1) (v := cr b) rfl rfl rfl ?_
  refine w_iload (i := 2) (npc := 2) rfl rfl ?_
  refine w_iload (i := 3) (npc := 3) rfl rfl ?_
  refine w_virt (ci := 3) (i := b) (npc := 6) (a := [cr b, ai_i w, ai_i n]) (rest := []) rfl rfl (hI.pl (by omega)) (hI.pgT0 hb_b) rfl rfl rfl rfl (ct_pg_stepOf (sl := sl) (x := x) (d := d + 0) (w) (n) (b := b) hb_b hI) (Or.inl rfl) (fun k9 v9 T2 E2 nx2 kc2 ks2 hq1 hk2 hv2 => ?_)
  obtain ⟨rfl, rfl, rfl, rfl, hq1⟩ := hq1
  obtain rfl : kc = kc2 := by omega
  obtain rfl : ks = ks2 := by omega
  rcases hq1 with rfl | ⟨q7, rfl, hs8, hz3⟩
  · refine Or.inr (Or.inl ⟨rfl, ?_⟩)
    refine w_isnullN (pt := 20) (npc := 9) rfl ?_
    exact w_vret rfl (⟨rfl, rfl, rfl, hI, hF, trivial⟩) (by omega) (by omega)
  refine Or.inr (Or.inl ⟨rfl, ?_⟩)
  refine w_isnullR (pt := 20) (npc := 9) rfl ?_
  refine w_aload (i := 0) (npc := 10) (v := cr 6) rfl rfl rfl ?_
  refine w_getf (i := 6) (ci := 6) (k := 0) (npc := 13) rfl (hI.pl (by decide)) (hI.T (by decide) rfl) (by decide) (hI.ref 6 0 (p := 7) (by decide) (by decide) rfl) ?_
  refine w_iload (i := 2) (npc := 14) rfl rfl ?_
  refine w_iload (i := 3) (npc := 15) rfl rfl ?_
  refine w_call (npc := 18) (a := [ai_i w, ai_i n]) (rest := [cr 7]) rfl rfl rfl rfl rfl (ct_c_slotOf (sl := sl) (x := x) (d := d + 1) (w) (n) (by omega) (by omega)) (Or.inr (fun _ _ _ _ _ hq => by have h1 := hq.1; omega)) (fun k9 v9 T10 E10 nx10 kc10 ks10 hq9 hk10 hv10 => ?_)
  obtain ⟨rfl, rfl, rfl, rfl, z11, rfl, hz11⟩ := hq9
  obtain rfl : kc = kc10 := by omega
  obtain rfl : ks = ks10 := by omega
  refine Or.inr (Or.inl ⟨rfl, ?_⟩)
  refine w_const (n := 0) (npc := 19) rfl ?_
  refine w_ast (i := 7) (k := 2) (n := 300) (npc := 20) rfl (hI.pl (by decide)) (hI.T (by decide) rfl) (by decide) (by omega) (cm_af2 (by omega)) ?_
  have hI16 := hI.puti (i := 7) (k := (z11 : Int).toNat) (z := 0) (lo := 0) (hi := 1) (by decide) rfl (by omega)
  have hF18 := cm_fr.up (i := 7) (k := (z11 : Int).toNat) (v := ai_i 0) hF (by first | omega | (simp; done) | (simp; omega) | (simp only; omega))
  generalize hE17 : cm_up E 7 ((z11 : Int).toNat) (ai_i 0) = E15 at hI16 hF18 ⊢
  have hz19 : E15 7 ((z11 : Int).toNat) = ai_i 0 := by rw [← hE17, cm_up_eq]
  have ghz19 := gv_eq hz19
  exact w_vret rfl (⟨rfl, rfl, rfl, hI16, hF18, trivial⟩) (by omega) (by omega)
set_option maxRecDepth 16384 in
theorem ct_vw_undoSteps {sl : Int × Int} {x : ai_E} {d : Nat} {T : cm_T} {E : cm_E} {nx : Nat} {b : Nat} (hb_b : 41 ≤ b ∧ b ≤ 77 ∧ b % 4 = 1) (hI : cs_I T E nx) : cm_ct (ai_ev sl (d + 4)) x 124 [cr 6, cr b] T E nx 0 0 (fun rk rv T' E' nx' => rk = 0 ∧ T = T' ∧ nx = nx' ∧ cs_I T E' nx ∧ cm_fr (fun i k => i = 7) E E' ∧ (True)) := by
  refine cm_body (M := ai_m124) rfl rfl (fun kc ks => ?_)
  show cm_wp (ai_find ai_c124 sl) (ai_ev sl (d + 3)) x (kc + 0) (ks + 0) _ 0 [cr 6, cr b, ai_un, ai_un, ai_un] [] T E nx kc ks
  have hF : cm_fr (fun i k => i = 7) E E := fun _ _ _ => rfl
  refine w_const (n := 0) (npc := 1) rfl ?_
  refine w_istore (i := 2) (npc := 2) (loc' := [cr 6, cr b, ai_i 0, ai_un, ai_un]) rfl rfl ?_
  have loop2 : ∀ (nf : Nat) (w : Int) (u2_3 : ai_V) (u2_4 : ai_V) (Eq2 : cm_E), ((5 - w).toNat) < nf → cs_I T Eq2 nx → cm_fr (fun i k => i = 7) E Eq2 → (0 ≤ w ∧ w ≤ 5) → cm_wp (ai_find ai_c124 sl) (ai_ev sl (d + 3)) x (kc + 0) (ks + 0) (fun rk rv T' E' nx' => rk = 0 ∧ T = T' ∧ nx = nx' ∧ cs_I T E' nx ∧ cm_fr (fun i k => i = 7) E E' ∧ (True)) 2 [cr 6, cr b, ai_i w, u2_3, u2_4] [] T Eq2 nx kc ks := by
    intro nf
    induction nf with
    | zero => intro w u2_3 u2_4 Eq2 hm; exact absurd hm (Nat.not_lt_zero _)
    | succ nf2 ih =>
      intro w u2_3 u2_4 Eq2 hm2 hI2 hF2 hv2
      have ih2 := ih; clear ih
      refine w_iload (i := 2) (npc := 3) rfl rfl ?_
      refine w_const (n := 5) (npc := 4) rfl ?_
      refine w_icmp (c := .ge) (npc := 7) (pt := 76) rfl (fun hc1 => ?_) (fun hc1 => ?_)
      · replace hc1 : (5 : Int) ≤ w := hc1
        exact w_vret rfl (⟨rfl, rfl, rfl, hI2, hF2, trivial⟩) (by omega) (by omega)
      · replace hc1 : ¬ ((5 : Int) ≤ w) := hc1
        refine w_aload (i := 1) (npc := 8) (v := cr b) rfl rfl rfl ?_
        refine w_iload (i := 2) (npc := 9) rfl rfl ?_
        refine w_virt (ci := 3) (i := b) (npc := 12) (a := [cr b, ai_i w]) (rest := []) rfl rfl (hI2.pl (by omega)) (hI2.pgT0 hb_b) rfl rfl rfl rfl (ct_pg_stepsOf (sl := sl) (x := x) (d := d + 2) (w) (b := b) hb_b hI2) (Or.inl rfl) (fun k9 v9 T3 E3 nx3 kc3 ks3 hq2 hk3 hv3 => ?_)
        obtain ⟨rfl, rfl, rfl, rfl, z4, rfl, hz4⟩ := hq2
        obtain rfl : kc = kc3 := by omega
        obtain rfl : ks = ks3 := by omega
        refine Or.inr (Or.inl ⟨rfl, ?_⟩)
        refine w_istore (i := 3) (npc := 13) (loc' := [cr 6, cr b, ai_i w, ai_i z4, u2_4]) rfl rfl ?_
        have loop13 : ∀ (nf : Nat) (n : Int) (u13_4 : ai_V) (Eq13 : cm_E), (n.toNat) < nf → cs_I T Eq13 nx → cm_fr (fun i k => i = 7) E Eq13 → (0 ≤ n ∧ n ≤ 60) → cm_wp (ai_find ai_c124 sl) (ai_ev sl (d + 3)) x (kc + 0) (ks + 0) (fun rk rv T' E' nx' => rk = 0 ∧ T = T' ∧ nx = nx' ∧ cs_I T E' nx ∧ cm_fr (fun i k => i = 7) E E' ∧ (True)) 13 [cr 6, cr b, ai_i w, ai_i n, u13_4] [] T Eq13 nx kc ks := by
          intro nf
          induction nf with
          | zero => intro n u13_4 Eq13 hm; exact absurd hm (Nat.not_lt_zero _)
          | succ nf13 ih =>
            intro n u13_4 Eq13 hm13 hI13 hF13 hv13
            have ih13 := ih; clear ih
            refine w_iload (i := 3) (npc := 14) rfl rfl ?_
            refine w_const (n := 1) (npc := 15) rfl ?_
            refine w_icmp (c := .lt) (npc := 18) (pt := 70) rfl (fun hc8 => ?_) (fun hc8 => ?_)
            · replace hc8 : n < (1 : Int) := hc8
              refine w_iinc (i := 2) (n := 1) (npc := 73) (loc' := [cr 6, cr b, ai_i (w + 1), ai_i n, u13_4]) rfl rfl (by omega) rfl ?_
              refine w_goto (pt := 2) rfl ?_
              exact ih2 (w + 1) (ai_i n) (u13_4) Eq13 (by omega) hI13 hF13 (by omega)
            · replace hc8 : ¬ (n < (1 : Int)) := hc8
              refine w_aload (i := 1) (npc := 19) (v := cr b) rfl rfl rfl ?_
              refine w_iload (i := 2) (npc := 20) rfl rfl ?_
              refine w_iload (i := 3) (npc := 21) rfl rfl ?_
              refine w_virt (ci := 3) (i := b) (npc := 24) (a := [cr b, ai_i w, ai_i n]) (rest := []) rfl rfl (hI13.pl (by omega)) (hI13.pgT0 hb_b) rfl rfl rfl rfl (ct_pg_stepOf (sl := sl) (x := x) (d := d + 1) (w) (n) (b := b) hb_b hI13) (Or.inl rfl) (fun k9 v9 T11 E11 nx11 kc11 ks11 hq10 hk11 hv11 => ?_)
              obtain ⟨rfl, rfl, rfl, rfl, hq10⟩ := hq10
              obtain rfl : kc = kc11 := by omega
              obtain rfl : ks = ks11 := by omega
              rcases hq10 with rfl | ⟨q16, rfl, hs17, hz12⟩
              · refine Or.inr (Or.inl ⟨rfl, ?_⟩)
                refine w_astore (i := 4) (npc := 26) (loc' := [cr 6, cr b, ai_i w, ai_i n, ai_nul]) rfl rfl rfl ?_
                refine w_aload (i := 4) (npc := 28) (v := ai_nul) rfl rfl rfl ?_
                refine w_isnullN (pt := 64) (npc := 31) rfl ?_
                refine w_iinc (i := 3) (n := (-1)) (npc := 67) (loc' := [cr 6, cr b, ai_i w, ai_i (n + (-1)), ai_nul]) rfl rfl (by omega) rfl ?_
                refine w_goto (pt := 13) rfl ?_
                exact ih13 (n + (-1)) (ai_nul) Eq13 (by omega) hI13 hF13 (by omega)
              refine Or.inr (Or.inl ⟨rfl, ?_⟩)
              refine w_astore (i := 4) (npc := 26) (loc' := [cr 6, cr b, ai_i w, ai_i n, cr q16]) rfl rfl rfl ?_
              refine w_aload (i := 4) (npc := 28) (v := cr q16) rfl rfl rfl ?_
              refine w_isnullR (pt := 64) (npc := 31) rfl ?_
              refine w_aload (i := 4) (npc := 33) (v := cr q16) rfl rfl rfl ?_
              refine w_virt (ci := 4) (i := q16) (npc := 36) (a := [cr q16]) (rest := []) rfl rfl hs17.lt hs17.T0 rfl rfl rfl rfl (ct_sp_kind (sl := sl) (x := x) (d := d + 1)  hs17) (Or.inl rfl) (fun k9 v9 T20 E20 nx20 kc20 ks20 hq19 hk20 hv20 => ?_)
              obtain ⟨rfl, rfl, rfl, rfl, z21, rfl, hz21⟩ := hq19
              obtain rfl : kc = kc20 := by omega
              obtain rfl : ks = ks20 := by omega
              refine Or.inr (Or.inl ⟨rfl, ?_⟩)
              refine w_const (n := 2) (npc := 37) rfl ?_
              refine w_icmp (c := .ne) (npc := 40) (pt := 64) rfl (fun hc25 => ?_) (fun hc25 => ?_)
              · replace hc25 : z21 ≠ (2 : Int) := hc25
                refine w_iinc (i := 3) (n := (-1)) (npc := 67) (loc' := [cr 6, cr b, ai_i w, ai_i (n + (-1)), cr q16]) rfl rfl (by omega) rfl ?_
                refine w_goto (pt := 13) rfl ?_
                exact ih13 (n + (-1)) (cr q16) Eq13 (by omega) hI13 hF13 (by omega)
              · replace hc25 : ¬ (z21 ≠ (2 : Int)) := hc25
                refine w_aload (i := 0) (npc := 41) (v := cr 6) rfl rfl rfl ?_
                refine w_getf (i := 6) (ci := 6) (k := 0) (npc := 44) rfl (hI13.pl (by decide)) (hI13.T (by decide) rfl) (by decide) (hI13.ref 6 0 (p := 7) (by decide) (by decide) rfl) ?_
                refine w_iload (i := 2) (npc := 45) rfl rfl ?_
                refine w_iload (i := 3) (npc := 46) rfl rfl ?_
                refine w_call (npc := 49) (a := [ai_i w, ai_i n]) (rest := [cr 7]) rfl rfl rfl rfl rfl (ct_c_slotOf (sl := sl) (x := x) (d := d + 2) (w) (n) (by omega) (by omega)) (Or.inr (fun _ _ _ _ _ hq => by have h1 := hq.1; omega)) (fun k9 v9 T28 E28 nx28 kc28 ks28 hq27 hk28 hv28 => ?_)
                obtain ⟨rfl, rfl, rfl, rfl, z29, rfl, hz29⟩ := hq27
                obtain rfl : kc = kc28 := by omega
                obtain rfl : ks = ks28 := by omega
                refine Or.inr (Or.inl ⟨rfl, ?_⟩)
                obtain ⟨z33, hz33, hz33a, hz33b⟩ := hI13.int 7 (z29 : Int).toNat (lo := 0) (hi := 1) (by decide) (show (z29 : Int).toNat < 300 by omega) rfl
                have ghz33 := gv_eq hz33
                refine w_ald (i := 7) (t := 2) (n := 300) (npc := 50) rfl (hI13.pl (by decide)) (hI13.T (by decide) rfl) (by decide) rfl (by omega) hz33 ?_
                refine w_if (c := .eq) (npc := 53) (pt := 64) rfl (fun hc34 => ?_) (fun hc34 => ?_)
                · replace hc34 : z33 = (0 : Int) := hc34
                  refine w_iinc (i := 3) (n := (-1)) (npc := 67) (loc' := [cr 6, cr b, ai_i w, ai_i (n + (-1)), cr q16]) rfl rfl (by omega) rfl ?_
                  refine w_goto (pt := 13) rfl ?_
                  exact ih13 (n + (-1)) (cr q16) Eq13 (by omega) hI13 hF13 (by omega)
                · replace hc34 : ¬ (z33 = (0 : Int)) := hc34
                  refine w_aload (i := 0) (npc := 54) (v := cr 6) rfl rfl rfl ?_
                  refine w_aload (i := 1) (npc := 55) (v := cr b) rfl rfl rfl ?_
                  refine w_iload (i := 2) (npc := 56) rfl rfl ?_
                  refine w_aload (i := 4) (npc := 58) (v := cr q16) rfl rfl rfl ?_
                  refine w_virt (ci := 4) (i := q16) (npc := 61) (a := [cr q16]) (rest := [ai_i w, cr b, cr 6]) rfl rfl hs17.lt hs17.T0 rfl rfl rfl rfl (ct_sp_target (sl := sl) (x := x) (d := d + 0)  hs17) (Or.inl rfl) (fun k9 v9 T37 E37 nx37 kc37 ks37 hq36 hk37 hv37 => ?_)
                  obtain ⟨rfl, rfl, rfl, rfl, z38, rfl, hz38⟩ := hq36
                  obtain rfl : kc = kc37 := by omega
                  obtain rfl : ks = ks37 := by omega
                  refine Or.inr (Or.inl ⟨rfl, ?_⟩)
                  refine w_virt (ci := 6) (i := 6) (npc := 64) (a := [cr 6, cr b, ai_i w, ai_i z38]) (rest := []) rfl rfl (hI13.pl (by decide)) (hI13.T (by decide) rfl) rfl rfl rfl rfl (ct_vw_undoStep (sl := sl) (x := x) (d := d + 0) (w) (z38) (b := b) hb_b hI13 (by omega)) (Or.inl rfl) (fun k9 v9 T43 E43 nx43 kc43 ks43 hq42 hk43 hv43 => ?_)
                  obtain ⟨rfl, rfl, rfl, hI45, hG46, hz44⟩ := hq42
                  obtain rfl : kc = kc43 := by omega
                  obtain rfl : ks = ks43 := by omega
                  have hF48 := cm_fr.trans hF13 hG46 (by intro i k h; (try simp only at h); (try simp only); omega)
                  have hs49 := hs17.fr hG46 (by intro i k h; (try simp only at h); omega)
                  refine Or.inl ⟨rfl, ?_⟩
                  refine w_iinc (i := 3) (n := (-1)) (npc := 67) (loc' := [cr 6, cr b, ai_i w, ai_i (n + (-1)), cr q16]) rfl rfl (by omega) rfl ?_
                  refine w_goto (pt := 13) rfl ?_
                  exact ih13 (n + (-1)) (cr q16) E43 (by omega) hI45 hF48 (by omega)
        exact loop13 _ (z4) (u2_4) Eq2 (Nat.lt_succ_self _) hI2 hF2 (by omega)
  exact loop2 _ (0) (ai_un) (ai_un) E (Nat.lt_succ_self _) hI hF (by omega)
set_option maxRecDepth 16384 in
theorem ct_vw_canBeMoved {sl : Int × Int} {x : ai_E} {d : Nat} {T : cm_T} {E : cm_E} {nx : Nat} {q : Nat} (hs_q : cs_st T E nx q) (hI : cs_I T E nx) : cm_ct (ai_ev sl (d + 4)) x 105 [cr 6, cr q] T E nx 0 0 (fun rk rv T' E' nx' => rk = 1 ∧ T = T' ∧ E = E' ∧ nx = nx' ∧ ∃ z : Int, rv = ai_i z ∧ (0 ≤ z ∧ z ≤ 1)) := by
  refine cm_body (M := ai_m105) rfl rfl (fun kc ks => ?_)
  show cm_wp (ai_find ai_c105 sl) (ai_ev sl (d + 3)) x (kc + 0) (ks + 0) _ 0 [cr 6, cr q, ai_un, ai_un] [] T E nx kc ks
  refine w_const (n := 11) (npc := 2) rfl ?_
  refine w_istore (i := 2) (npc := 3) (loc' := [cr 6, cr q, ai_i 11, ai_un]) rfl rfl ?_
  refine w_const (n := 0) (npc := 4) rfl ?_
  refine w_istore (i := 3) (npc := 5) (loc' := [cr 6, cr q, ai_i 11, ai_i 0]) rfl rfl ?_
  have loop5 : ∀ (nf : Nat) (a : Int) (i : Int), ((255 - i).toNat) < nf → (0 ≤ i ∧ i ≤ 255 ∧ 11 ≤ a ∧ a ≤ 11 + 513 * i) → cm_wp (ai_find ai_c105 sl) (ai_ev sl (d + 3)) x (kc + 0) (ks + 0) (fun rk rv T' E' nx' => rk = 1 ∧ T = T' ∧ E = E' ∧ nx = nx' ∧ ∃ z : Int, rv = ai_i z ∧ (0 ≤ z ∧ z ≤ 1)) 5 [cr 6, cr q, ai_i a, ai_i i] [] T E nx kc ks := by
    intro nf
    induction nf with
    | zero => intro a i hm; exact absurd hm (Nat.not_lt_zero _)
    | succ nf5 ih =>
      intro a i hm5 hv5
      have ih5 := ih; clear ih
      refine w_iload (i := 3) (npc := 6) rfl rfl ?_
      refine w_aload (i := 1) (npc := 7) (v := cr q) rfl rfl rfl ?_
      refine w_const (n := 10) (npc := 9) rfl ?_
      refine w_virt (ci := 4) (i := q) (npc := 12) (a := [cr q, ai_i 10]) (rest := [ai_i i]) rfl rfl hs_q.lt hs_q.T0 rfl rfl rfl rfl (ct_sp_byteAt (sl := sl) (x := x) (d := d + 2) (10) hs_q) (Or.inl rfl) (fun k9 v9 T2 E2 nx2 kc2 ks2 hq1 hk2 hv2 => ?_)
      obtain ⟨rfl, rfl, rfl, rfl, z3, rfl, hz3⟩ := hq1
      obtain rfl : kc = kc2 := by omega
      obtain rfl : ks = ks2 := by omega
      refine Or.inr (Or.inl ⟨rfl, ?_⟩)
      refine w_icmp (c := .ge) (npc := 15) (pt := 39) rfl (fun hc7 => ?_) (fun hc7 => ?_)
      · replace hc7 : z3 ≤ i := hc7
        refine w_const (n := 1) (npc := 40) rfl ?_
        exact w_zret rfl (by omega) (⟨rfl, rfl, rfl, rfl, 1, rfl, by omega⟩) (by omega) (by omega)
      · replace hc7 : ¬ (z3 ≤ i) := hc7
        refine w_aload (i := 0) (npc := 16) (v := cr 6) rfl rfl rfl ?_
        refine w_aload (i := 1) (npc := 17) (v := cr q) rfl rfl rfl ?_
        refine w_iload (i := 2) (npc := 18) rfl rfl ?_
        refine w_virt (ci := 6) (i := 6) (npc := 21) (a := [cr 6, cr q, ai_i a]) (rest := []) rfl rfl (hI.pl (by decide)) (hI.T (by decide) rfl) rfl rfl rfl rfl (ct_vw_markSlot (sl := sl) (x := x) (d := d + 0) (a) hs_q hI (by omega)) (Or.inl rfl) (fun k9 v9 T9 E9 nx9 kc9 ks9 hq8 hk9 hv9 => ?_)
        obtain ⟨rfl, rfl, rfl, rfl, z10, rfl, hz10⟩ := hq8
        obtain rfl : kc = kc9 := by omega
        obtain rfl : ks = ks9 := by omega
        refine Or.inr (Or.inl ⟨rfl, ?_⟩)
        refine w_const (n := (-1)) (npc := 22) rfl ?_
        refine w_icmp (c := .ne) (npc := 25) (pt := 27) rfl (fun hc14 => ?_) (fun hc14 => ?_)
        · replace hc14 : z10 ≠ ((-1) : Int) := hc14
          refine w_aload (i := 1) (npc := 28) (v := cr q) rfl rfl rfl ?_
          refine w_iload (i := 2) (npc := 29) rfl rfl ?_
          refine w_virt (ci := 4) (i := q) (npc := 32) (a := [cr q, ai_i a]) (rest := []) rfl rfl hs_q.lt hs_q.T0 rfl rfl rfl rfl (ct_sp_behindMoved (sl := sl) (x := x) (d := d + 1) (a) hs_q (by omega)) (Or.inl rfl) (fun k9 v9 T16 E16 nx16 kc16 ks16 hq15 hk16 hv16 => ?_)
          obtain ⟨rfl, rfl, rfl, rfl, z17, rfl, hz17⟩ := hq15
          obtain rfl : kc = kc16 := by omega
          obtain rfl : ks = ks16 := by omega
          refine Or.inr (Or.inl ⟨rfl, ?_⟩)
          refine w_istore (i := 2) (npc := 33) (loc' := [cr 6, cr q, ai_i z17, ai_i i]) rfl rfl ?_
          refine w_iinc (i := 3) (n := 1) (npc := 36) (loc' := [cr 6, cr q, ai_i z17, ai_i (i + 1)]) rfl rfl (by omega) rfl ?_
          refine w_goto (pt := 5) rfl ?_
          exact ih5 (z17) (i + 1) (by omega) (by omega)
        · replace hc14 : ¬ (z10 ≠ ((-1) : Int)) := hc14
          refine w_const (n := 0) (npc := 26) rfl ?_
          exact w_zret rfl (by omega) (⟨rfl, rfl, rfl, rfl, 0, rfl, by omega⟩) (by omega) (by omega)
  exact loop5 _ (11) (0) (Nat.lt_succ_self _) (by omega)
set_option maxRecDepth 16384 in
theorem ct_vw_outranksN {sl : Int × Int} {x : ai_E} {d : Nat} {T : cm_T} {E : cm_E} {nx : Nat} {q : Nat} (hs_q : cs_st T E nx q) : cm_ct (ai_ev sl (d + 3)) x 119 [cr q, ai_nul] T E nx 0 0 (fun rk rv T' E' nx' => rk = 1 ∧ T = T' ∧ E = E' ∧ nx = nx' ∧ ∃ z : Int, rv = ai_i z ∧ (0 ≤ z ∧ z ≤ 1)) := by
  refine cm_body (M := ai_m119) rfl rfl (fun kc ks => ?_)
  show cm_wp (ai_find ai_c119 sl) (ai_ev sl (d + 2)) x (kc + 0) (ks + 0) _ 0 [cr q, ai_nul] [] T E nx kc ks
  refine w_aload (i := 1) (npc := 1) (v := ai_nul) rfl rfl rfl ?_
  refine w_isnullN (pt := 23) (npc := 4) rfl ?_
  refine w_const (n := 1) (npc := 24) rfl ?_
  refine w_goto (pt := 28) rfl ?_
  exact w_zret rfl (by omega) (⟨rfl, rfl, rfl, rfl, 1, rfl, by omega⟩) (by omega) (by omega)
set_option maxRecDepth 16384 in
theorem ct_vw_outranks {sl : Int × Int} {x : ai_E} {d : Nat} {T : cm_T} {E : cm_E} {nx : Nat} {q : Nat} (hs_q : cs_st T E nx q) {r : Nat} (hs_r : cs_st T E nx r) : cm_ct (ai_ev sl (d + 3)) x 119 [cr q, cr r] T E nx 0 0 (fun rk rv T' E' nx' => rk = 1 ∧ T = T' ∧ E = E' ∧ nx = nx' ∧ ∃ z : Int, rv = ai_i z ∧ (0 ≤ z ∧ z ≤ 1)) := by
  refine cm_body (M := ai_m119) rfl rfl (fun kc ks => ?_)
  show cm_wp (ai_find ai_c119 sl) (ai_ev sl (d + 2)) x (kc + 0) (ks + 0) _ 0 [cr q, cr r] [] T E nx kc ks
  refine w_aload (i := 1) (npc := 1) (v := cr r) rfl rfl rfl ?_
  refine w_isnullR (pt := 23) (npc := 4) rfl ?_
  refine w_aload (i := 1) (npc := 5) (v := cr r) rfl rfl rfl ?_
  refine w_virt (ci := 4) (i := r) (npc := 8) (a := [cr r]) (rest := []) rfl rfl hs_r.lt hs_r.T0 rfl rfl rfl rfl (ct_sp_kind (sl := sl) (x := x) (d := d + 0)  hs_r) (Or.inl rfl) (fun k9 v9 T2 E2 nx2 kc2 ks2 hq1 hk2 hv2 => ?_)
  obtain ⟨rfl, rfl, rfl, rfl, z3, rfl, hz3⟩ := hq1
  obtain rfl : kc = kc2 := by omega
  obtain rfl : ks = ks2 := by omega
  refine Or.inr (Or.inl ⟨rfl, ?_⟩)
  refine w_const (n := 3) (npc := 9) rfl ?_
  refine w_icmp (c := .ne) (npc := 12) (pt := 23) rfl (fun hc7 => ?_) (fun hc7 => ?_)
  · replace hc7 : z3 ≠ (3 : Int) := hc7
    refine w_const (n := 1) (npc := 24) rfl ?_
    refine w_goto (pt := 28) rfl ?_
    exact w_zret rfl (by omega) (⟨rfl, rfl, rfl, rfl, 1, rfl, by omega⟩) (by omega) (by omega)
  · replace hc7 : ¬ (z3 ≠ (3 : Int)) := hc7
    refine w_aload (i := 0) (npc := 13) (v := cr q) rfl rfl rfl ?_
    refine w_virt (ci := 4) (i := q) (npc := 16) (a := [cr q]) (rest := []) rfl rfl hs_q.lt hs_q.T0 rfl rfl rfl rfl (ct_sp_age (sl := sl) (x := x) (d := d + 0)  hs_q) (Or.inl rfl) (fun k9 v9 T9 E9 nx9 kc9 ks9 hq8 hk9 hv9 => ?_)
    obtain ⟨rfl, rfl, rfl, rfl, z10, rfl, hz10⟩ := hq8
    obtain rfl : kc = kc9 := by omega
    obtain rfl : ks = ks9 := by omega
    refine Or.inr (Or.inl ⟨rfl, ?_⟩)
    refine w_aload (i := 1) (npc := 17) (v := cr r) rfl rfl rfl ?_
    refine w_virt (ci := 4) (i := r) (npc := 20) (a := [cr r]) (rest := [ai_i z10]) rfl rfl hs_r.lt hs_r.T0 rfl rfl rfl rfl (ct_sp_age (sl := sl) (x := x) (d := d + 0)  hs_r) (Or.inl rfl) (fun k9 v9 T15 E15 nx15 kc15 ks15 hq14 hk15 hv15 => ?_)
    obtain ⟨rfl, rfl, rfl, rfl, z16, rfl, hz16⟩ := hq14
    obtain rfl : kc = kc15 := by omega
    obtain rfl : ks = ks15 := by omega
    refine Or.inr (Or.inl ⟨rfl, ?_⟩)
    refine w_icmp (c := .lt) (npc := 23) (pt := 27) rfl (fun hc20 => ?_) (fun hc20 => ?_)
    · replace hc20 : z10 < z16 := hc20
      refine w_const (n := 0) (npc := 28) rfl ?_
      exact w_zret rfl (by omega) (⟨rfl, rfl, rfl, rfl, 0, rfl, by omega⟩) (by omega) (by omega)
    · replace hc20 : ¬ (z10 < z16) := hc20
      refine w_const (n := 1) (npc := 24) rfl ?_
      refine w_goto (pt := 28) rfl ?_
      exact w_zret rfl (by omega) (⟨rfl, rfl, rfl, rfl, 1, rfl, by omega⟩) (by omega) (by omega)
set_option maxRecDepth 16384 in
theorem ct_vw_moveMarks {sl : Int × Int} {x : ai_E} {d : Nat} {T : cm_T} {E : cm_E} {nx : Nat} {q : Nat} (hs_q : cs_st T E nx q) (hI : cs_I T E nx) : cm_ct (ai_ev sl (d + 4)) x 118 [cr 6, cr q] T E nx 0 0 (fun rk rv T' E' nx' => rk = 0 ∧ T = T' ∧ nx = nx' ∧ cs_I T E' nx ∧ cm_fr (fun i k => i = 9 ∨ i = 10) E E' ∧ (True)) := by
  refine cm_body (M := ai_m118) rfl rfl (fun kc ks => ?_)
  show cm_wp (ai_find ai_c118 sl) (ai_ev sl (d + 3)) x (kc + 0) (ks + 0) _ 0 [cr 6, cr q, ai_un, ai_un, ai_un] [] T E nx kc ks
  have hF : cm_fr (fun i k => i = 9 ∨ i = 10) E E := fun _ _ _ => rfl
  refine w_const (n := 11) (npc := 2) rfl ?_
  refine w_istore (i := 2) (npc := 3) (loc' := [cr 6, cr q, ai_i 11, ai_un, ai_un]) rfl rfl ?_
  refine w_const (n := 0) (npc := 4) rfl ?_
  refine w_istore (i := 3) (npc := 5) (loc' := [cr 6, cr q, ai_i 11, ai_i 0, ai_un]) rfl rfl ?_
  have loop5 : ∀ (nf : Nat) (a : Int) (i : Int) (u5_4 : ai_V) (Eq5 : cm_E), ((255 - i).toNat) < nf → cs_I T Eq5 nx → cm_fr (fun i k => i = 9 ∨ i = 10) E Eq5 → cs_st T Eq5 nx q → (0 ≤ i ∧ i ≤ 255 ∧ 11 ≤ a ∧ a ≤ 11 + 513 * i) → cm_wp (ai_find ai_c118 sl) (ai_ev sl (d + 3)) x (kc + 0) (ks + 0) (fun rk rv T' E' nx' => rk = 0 ∧ T = T' ∧ nx = nx' ∧ cs_I T E' nx ∧ cm_fr (fun i k => i = 9 ∨ i = 10) E E' ∧ (True)) 5 [cr 6, cr q, ai_i a, ai_i i, u5_4] [] T Eq5 nx kc ks := by
    intro nf
    induction nf with
    | zero => intro a i u5_4 Eq5 hm; exact absurd hm (Nat.not_lt_zero _)
    | succ nf5 ih =>
      intro a i u5_4 Eq5 hm5 hI5 hF5 hs5_q hv5
      have ih5 := ih; clear ih
      refine w_iload (i := 3) (npc := 6) rfl rfl ?_
      refine w_aload (i := 1) (npc := 7) (v := cr q) rfl rfl rfl ?_
      refine w_const (n := 10) (npc := 9) rfl ?_
      refine w_virt (ci := 4) (i := q) (npc := 12) (a := [cr q, ai_i 10]) (rest := [ai_i i]) rfl rfl hs5_q.lt hs5_q.T0 rfl rfl rfl rfl (ct_sp_byteAt (sl := sl) (x := x) (d := d + 2) (10) hs5_q) (Or.inl rfl) (fun k9 v9 T2 E2 nx2 kc2 ks2 hq1 hk2 hv2 => ?_)
      obtain ⟨rfl, rfl, rfl, rfl, z3, rfl, hz3⟩ := hq1
      obtain rfl : kc = kc2 := by omega
      obtain rfl : ks = ks2 := by omega
      refine Or.inr (Or.inl ⟨rfl, ?_⟩)
      refine w_icmp (c := .ge) (npc := 15) (pt := 73) rfl (fun hc7 => ?_) (fun hc7 => ?_)
      · replace hc7 : z3 ≤ i := hc7
        exact w_vret rfl (⟨rfl, rfl, rfl, hI5, hF5, trivial⟩) (by omega) (by omega)
      · replace hc7 : ¬ (z3 ≤ i) := hc7
        refine w_aload (i := 0) (npc := 16) (v := cr 6) rfl rfl rfl ?_
        refine w_aload (i := 1) (npc := 17) (v := cr q) rfl rfl rfl ?_
        refine w_iload (i := 2) (npc := 18) rfl rfl ?_
        refine w_virt (ci := 6) (i := 6) (npc := 21) (a := [cr 6, cr q, ai_i a]) (rest := []) rfl rfl (hI5.pl (by decide)) (hI5.T (by decide) rfl) rfl rfl rfl rfl (ct_vw_markSlot (sl := sl) (x := x) (d := d + 0) (a) hs5_q hI5 (by omega)) (Or.inl rfl) (fun k9 v9 T9 E9 nx9 kc9 ks9 hq8 hk9 hv9 => ?_)
        obtain ⟨rfl, rfl, rfl, rfl, z10, rfl, hz10⟩ := hq8
        obtain rfl : kc = kc9 := by omega
        obtain rfl : ks = ks9 := by omega
        refine Or.inr (Or.inl ⟨rfl, ?_⟩)
        refine w_istore (i := 4) (npc := 23) (loc' := [cr 6, cr q, ai_i a, ai_i i, ai_i z10]) rfl rfl ?_
        refine w_iload (i := 4) (npc := 25) rfl rfl ?_
        refine w_const (n := (-1)) (npc := 26) rfl ?_
        refine w_icmp (c := .eq) (npc := 29) (pt := 61) rfl (fun hc14 => ?_) (fun hc14 => ?_)
        · replace hc14 : z10 = ((-1) : Int) := hc14
          refine w_aload (i := 1) (npc := 62) (v := cr q) rfl rfl rfl ?_
          refine w_iload (i := 2) (npc := 63) rfl rfl ?_
          refine w_virt (ci := 4) (i := q) (npc := 66) (a := [cr q, ai_i a]) (rest := []) rfl rfl hs5_q.lt hs5_q.T0 rfl rfl rfl rfl (ct_sp_behindMoved (sl := sl) (x := x) (d := d + 1) (a) hs5_q (by omega)) (Or.inl rfl) (fun k9 v9 T16 E16 nx16 kc16 ks16 hq15 hk16 hv16 => ?_)
          obtain ⟨rfl, rfl, rfl, rfl, z17, rfl, hz17⟩ := hq15
          obtain rfl : kc = kc16 := by omega
          obtain rfl : ks = ks16 := by omega
          refine Or.inr (Or.inl ⟨rfl, ?_⟩)
          refine w_istore (i := 2) (npc := 67) (loc' := [cr 6, cr q, ai_i z17, ai_i i, ai_i z10]) rfl rfl ?_
          refine w_iinc (i := 3) (n := 1) (npc := 70) (loc' := [cr 6, cr q, ai_i z17, ai_i (i + 1), ai_i z10]) rfl rfl (by omega) rfl ?_
          refine w_goto (pt := 5) rfl ?_
          exact ih5 (z17) (i + 1) (ai_i z10) Eq5 (by omega) hI5 hF5 hs5_q (by omega)
        · replace hc14 : ¬ (z10 = ((-1) : Int)) := hc14
          refine w_aload (i := 1) (npc := 30) (v := cr q) rfl rfl rfl ?_
          refine w_aload (i := 0) (npc := 31) (v := cr 6) rfl rfl rfl ?_
          refine w_getf (i := 6) (ci := 6) (k := 2) (npc := 34) rfl (hI5.pl (by decide)) (hI5.T (by decide) rfl) (by decide) (hI5.ref 6 2 (p := 9) (by decide) (by decide) rfl) ?_
          refine w_iload (i := 4) (npc := 36) rfl rfl ?_
          have hlt9 : (z10 : Int).toNat < 300 := by omega
          rcases hI5.stp 9 (z10 : Int).toNat (by decide) hlt9 rfl with hx24 | ⟨q22, hx24, hs23⟩
          · clear hlt9
            refine w_ald (i := 9) (t := 5) (n := 300) (npc := 37) rfl (hI5.pl (by decide)) (hI5.T (by decide) rfl) (by decide) rfl (by omega) hx24 ?_
            refine w_call (npc := 40) (a := [cr q, ai_nul]) (rest := []) rfl rfl rfl rfl rfl (ct_vw_outranksN (sl := sl) (x := x) (d := d + 0)  hs5_q) (Or.inr (fun _ _ _ _ _ hq => by have h1 := hq.1; omega)) (fun k9 v9 T26 E26 nx26 kc26 ks26 hq25 hk26 hv26 => ?_)
            obtain ⟨rfl, rfl, rfl, rfl, z27, rfl, hz27⟩ := hq25
            obtain rfl : kc = kc26 := by omega
            obtain rfl : ks = ks26 := by omega
            refine Or.inr (Or.inl ⟨rfl, ?_⟩)
            refine w_if (c := .eq) (npc := 43) (pt := 61) rfl (fun hc31 => ?_) (fun hc31 => ?_)
            · replace hc31 : z27 = (0 : Int) := hc31
              refine w_aload (i := 1) (npc := 62) (v := cr q) rfl rfl rfl ?_
              refine w_iload (i := 2) (npc := 63) rfl rfl ?_
              refine w_virt (ci := 4) (i := q) (npc := 66) (a := [cr q, ai_i a]) (rest := []) rfl rfl hs5_q.lt hs5_q.T0 rfl rfl rfl rfl (ct_sp_behindMoved (sl := sl) (x := x) (d := d + 1) (a) hs5_q (by omega)) (Or.inl rfl) (fun k9 v9 T33 E33 nx33 kc33 ks33 hq32 hk33 hv33 => ?_)
              obtain ⟨rfl, rfl, rfl, rfl, z34, rfl, hz34⟩ := hq32
              obtain rfl : kc = kc33 := by omega
              obtain rfl : ks = ks33 := by omega
              refine Or.inr (Or.inl ⟨rfl, ?_⟩)
              refine w_istore (i := 2) (npc := 67) (loc' := [cr 6, cr q, ai_i z34, ai_i i, ai_i z10]) rfl rfl ?_
              refine w_iinc (i := 3) (n := 1) (npc := 70) (loc' := [cr 6, cr q, ai_i z34, ai_i (i + 1), ai_i z10]) rfl rfl (by omega) rfl ?_
              refine w_goto (pt := 5) rfl ?_
              exact ih5 (z34) (i + 1) (ai_i z10) Eq5 (by omega) hI5 hF5 hs5_q (by omega)
            · replace hc31 : ¬ (z27 = (0 : Int)) := hc31
              refine w_aload (i := 0) (npc := 44) (v := cr 6) rfl rfl rfl ?_
              refine w_getf (i := 6) (ci := 6) (k := 2) (npc := 47) rfl (hI5.pl (by decide)) (hI5.T (by decide) rfl) (by decide) (hI5.ref 6 2 (p := 9) (by decide) (by decide) rfl) ?_
              refine w_iload (i := 4) (npc := 49) rfl rfl ?_
              refine w_aload (i := 1) (npc := 50) (v := cr q) rfl rfl rfl ?_
              refine w_aast (i := 9) (k := 5) (n := 300) (npc := 51) rfl (hI5.pl (by decide)) (hI5.T (by decide) rfl) (Or.inr rfl) (by omega) (Or.inr ⟨q, rfl, hs5_q.lt, hs5_q.T0⟩) ?_
              have hI40 := hI5.puts (i := 9) (k := (z10 : Int).toNat) (by decide) rfl hs5_q
              have hF42 := cm_fr.up (i := 9) (k := (z10 : Int).toNat) (v := cr q) hF5 (by first | omega | (simp; done) | (simp; omega) | (simp only; omega))
              have hs43 := hs5_q.up (i := 9) (k := (z10 : Int).toNat) (v := cr q) (by decide)
              generalize hE41 : cm_up Eq5 9 ((z10 : Int).toNat) (cr q) = E39 at hI40 hF42 hs43 ⊢
              have hz44 : E39 9 ((z10 : Int).toNat) = cr q := by rw [← hE41, cm_up_eq]
              refine w_aload (i := 0) (npc := 52) (v := cr 6) rfl rfl rfl ?_
              refine w_getf (i := 6) (ci := 6) (k := 3) (npc := 55) rfl (hI40.pl (by decide)) (hI40.T (by decide) rfl) (by decide) (hI40.ref 6 3 (p := 10) (by decide) (by decide) rfl) ?_
              refine w_iload (i := 4) (npc := 57) rfl rfl ?_
              refine w_iload (i := 2) (npc := 58) rfl rfl ?_
              refine w_const (n := 2) (npc := 59) rfl ?_
              refine w_iadd (npc := 60) rfl (by omega) ?_
              refine w_ast (i := 10) (k := 1) (n := 300) (npc := 61) rfl (hI40.pl (by decide)) (hI40.T (by decide) rfl) (by decide) (by omega) cm_af1 ?_
              have hI47 := hI40.puti (i := 10) (k := (z10 : Int).toNat) (z := a + 2) (lo := 0) (hi := 140000) (by decide) rfl (by omega)
              have hF49 := cm_fr.up (i := 10) (k := (z10 : Int).toNat) (v := ai_i (a + 2)) hF42 (by first | omega | (simp; done) | (simp; omega) | (simp only; omega))
              have hs50 := hs43.up (i := 10) (k := (z10 : Int).toNat) (v := ai_i (a + 2)) (by decide)
              generalize hE48 : cm_up E39 10 ((z10 : Int).toNat) (ai_i (a + 2)) = E46 at hI47 hF49 hs50 ⊢
              have hz51 : E46 9 ((z10 : Int).toNat) = cr q := by rw [← hE48, cm_up_nei _ _ (by decide)]; exact hz44
              have hz52 : E46 10 ((z10 : Int).toNat) = ai_i (a + 2) := by rw [← hE48, cm_up_eq]
              have ghz52 := gv_eq hz52
              refine w_aload (i := 1) (npc := 62) (v := cr q) rfl rfl rfl ?_
              refine w_iload (i := 2) (npc := 63) rfl rfl ?_
              refine w_virt (ci := 4) (i := q) (npc := 66) (a := [cr q, ai_i a]) (rest := []) rfl rfl hs50.lt hs50.T0 rfl rfl rfl rfl (ct_sp_behindMoved (sl := sl) (x := x) (d := d + 1) (a) hs50 (by omega)) (Or.inl rfl) (fun k9 v9 T54 E54 nx54 kc54 ks54 hq53 hk54 hv54 => ?_)
              obtain ⟨rfl, rfl, rfl, rfl, z55, rfl, hz55⟩ := hq53
              obtain rfl : kc = kc54 := by omega
              obtain rfl : ks = ks54 := by omega
              refine Or.inr (Or.inl ⟨rfl, ?_⟩)
              refine w_istore (i := 2) (npc := 67) (loc' := [cr 6, cr q, ai_i z55, ai_i i, ai_i z10]) rfl rfl ?_
              refine w_iinc (i := 3) (n := 1) (npc := 70) (loc' := [cr 6, cr q, ai_i z55, ai_i (i + 1), ai_i z10]) rfl rfl (by omega) rfl ?_
              refine w_goto (pt := 5) rfl ?_
              exact ih5 (z55) (i + 1) (ai_i z10) E46 (by omega) hI47 hF49 hs50 (by omega)
          clear hlt9
          refine w_ald (i := 9) (t := 5) (n := 300) (npc := 37) rfl (hI5.pl (by decide)) (hI5.T (by decide) rfl) (by decide) rfl (by omega) hx24 ?_
          refine w_call (npc := 40) (a := [cr q, cr q22]) (rest := []) rfl rfl rfl rfl rfl (ct_vw_outranks (sl := sl) (x := x) (d := d + 0)  hs5_q hs23) (Or.inr (fun _ _ _ _ _ hq => by have h1 := hq.1; omega)) (fun k9 v9 T61 E61 nx61 kc61 ks61 hq60 hk61 hv61 => ?_)
          obtain ⟨rfl, rfl, rfl, rfl, z62, rfl, hz62⟩ := hq60
          obtain rfl : kc = kc61 := by omega
          obtain rfl : ks = ks61 := by omega
          refine Or.inr (Or.inl ⟨rfl, ?_⟩)
          refine w_if (c := .eq) (npc := 43) (pt := 61) rfl (fun hc66 => ?_) (fun hc66 => ?_)
          · replace hc66 : z62 = (0 : Int) := hc66
            refine w_aload (i := 1) (npc := 62) (v := cr q) rfl rfl rfl ?_
            refine w_iload (i := 2) (npc := 63) rfl rfl ?_
            refine w_virt (ci := 4) (i := q) (npc := 66) (a := [cr q, ai_i a]) (rest := []) rfl rfl hs5_q.lt hs5_q.T0 rfl rfl rfl rfl (ct_sp_behindMoved (sl := sl) (x := x) (d := d + 1) (a) hs5_q (by omega)) (Or.inl rfl) (fun k9 v9 T68 E68 nx68 kc68 ks68 hq67 hk68 hv68 => ?_)
            obtain ⟨rfl, rfl, rfl, rfl, z69, rfl, hz69⟩ := hq67
            obtain rfl : kc = kc68 := by omega
            obtain rfl : ks = ks68 := by omega
            refine Or.inr (Or.inl ⟨rfl, ?_⟩)
            refine w_istore (i := 2) (npc := 67) (loc' := [cr 6, cr q, ai_i z69, ai_i i, ai_i z10]) rfl rfl ?_
            refine w_iinc (i := 3) (n := 1) (npc := 70) (loc' := [cr 6, cr q, ai_i z69, ai_i (i + 1), ai_i z10]) rfl rfl (by omega) rfl ?_
            refine w_goto (pt := 5) rfl ?_
            exact ih5 (z69) (i + 1) (ai_i z10) Eq5 (by omega) hI5 hF5 hs5_q (by omega)
          · replace hc66 : ¬ (z62 = (0 : Int)) := hc66
            refine w_aload (i := 0) (npc := 44) (v := cr 6) rfl rfl rfl ?_
            refine w_getf (i := 6) (ci := 6) (k := 2) (npc := 47) rfl (hI5.pl (by decide)) (hI5.T (by decide) rfl) (by decide) (hI5.ref 6 2 (p := 9) (by decide) (by decide) rfl) ?_
            refine w_iload (i := 4) (npc := 49) rfl rfl ?_
            refine w_aload (i := 1) (npc := 50) (v := cr q) rfl rfl rfl ?_
            refine w_aast (i := 9) (k := 5) (n := 300) (npc := 51) rfl (hI5.pl (by decide)) (hI5.T (by decide) rfl) (Or.inr rfl) (by omega) (Or.inr ⟨q, rfl, hs5_q.lt, hs5_q.T0⟩) ?_
            have hI75 := hI5.puts (i := 9) (k := (z10 : Int).toNat) (by decide) rfl hs5_q
            have hF77 := cm_fr.up (i := 9) (k := (z10 : Int).toNat) (v := cr q) hF5 (by first | omega | (simp; done) | (simp; omega) | (simp only; omega))
            have hs78 := hs5_q.up (i := 9) (k := (z10 : Int).toNat) (v := cr q) (by decide)
            generalize hE76 : cm_up Eq5 9 ((z10 : Int).toNat) (cr q) = E74 at hI75 hF77 hs78 ⊢
            have hz79 : E74 9 ((z10 : Int).toNat) = cr q := by rw [← hE76, cm_up_eq]
            refine w_aload (i := 0) (npc := 52) (v := cr 6) rfl rfl rfl ?_
            refine w_getf (i := 6) (ci := 6) (k := 3) (npc := 55) rfl (hI75.pl (by decide)) (hI75.T (by decide) rfl) (by decide) (hI75.ref 6 3 (p := 10) (by decide) (by decide) rfl) ?_
            refine w_iload (i := 4) (npc := 57) rfl rfl ?_
            refine w_iload (i := 2) (npc := 58) rfl rfl ?_
            refine w_const (n := 2) (npc := 59) rfl ?_
            refine w_iadd (npc := 60) rfl (by omega) ?_
            refine w_ast (i := 10) (k := 1) (n := 300) (npc := 61) rfl (hI75.pl (by decide)) (hI75.T (by decide) rfl) (by decide) (by omega) cm_af1 ?_
            have hI82 := hI75.puti (i := 10) (k := (z10 : Int).toNat) (z := a + 2) (lo := 0) (hi := 140000) (by decide) rfl (by omega)
            have hF84 := cm_fr.up (i := 10) (k := (z10 : Int).toNat) (v := ai_i (a + 2)) hF77 (by first | omega | (simp; done) | (simp; omega) | (simp only; omega))
            have hs85 := hs78.up (i := 10) (k := (z10 : Int).toNat) (v := ai_i (a + 2)) (by decide)
            generalize hE83 : cm_up E74 10 ((z10 : Int).toNat) (ai_i (a + 2)) = E81 at hI82 hF84 hs85 ⊢
            have hz86 : E81 9 ((z10 : Int).toNat) = cr q := by rw [← hE83, cm_up_nei _ _ (by decide)]; exact hz79
            have hz87 : E81 10 ((z10 : Int).toNat) = ai_i (a + 2) := by rw [← hE83, cm_up_eq]
            have ghz87 := gv_eq hz87
            refine w_aload (i := 1) (npc := 62) (v := cr q) rfl rfl rfl ?_
            refine w_iload (i := 2) (npc := 63) rfl rfl ?_
            refine w_virt (ci := 4) (i := q) (npc := 66) (a := [cr q, ai_i a]) (rest := []) rfl rfl hs85.lt hs85.T0 rfl rfl rfl rfl (ct_sp_behindMoved (sl := sl) (x := x) (d := d + 1) (a) hs85 (by omega)) (Or.inl rfl) (fun k9 v9 T89 E89 nx89 kc89 ks89 hq88 hk89 hv89 => ?_)
            obtain ⟨rfl, rfl, rfl, rfl, z90, rfl, hz90⟩ := hq88
            obtain rfl : kc = kc89 := by omega
            obtain rfl : ks = ks89 := by omega
            refine Or.inr (Or.inl ⟨rfl, ?_⟩)
            refine w_istore (i := 2) (npc := 67) (loc' := [cr 6, cr q, ai_i z90, ai_i i, ai_i z10]) rfl rfl ?_
            refine w_iinc (i := 3) (n := 1) (npc := 70) (loc' := [cr 6, cr q, ai_i z90, ai_i (i + 1), ai_i z10]) rfl rfl (by omega) rfl ?_
            refine w_goto (pt := 5) rfl ?_
            exact ih5 (z90) (i + 1) (ai_i z10) E81 (by omega) hI82 hF84 hs85 (by omega)
  exact loop5 _ (11) (0) (ai_un) E (Nat.lt_succ_self _) hI hF hs_q (by omega)
set_option maxRecDepth 16384 in
theorem ct_vw_strikeMark {sl : Int × Int} {x : ai_E} {d : Nat} {T : cm_T} {E : cm_E} {nx : Nat} {q : Nat} (hs_q : cs_st T E nx q) (hI : cs_I T E nx) : cm_ct (ai_ev sl (d + 4)) x 122 [cr 6, cr q] T E nx 0 0 (fun rk rv T' E' nx' => rk = 0 ∧ T = T' ∧ nx = nx' ∧ cs_I T E' nx ∧ cm_fr (fun i k => i = 8) E E' ∧ (True)) := by
  refine cm_body (M := ai_m122) rfl rfl (fun kc ks => ?_)
  show cm_wp (ai_find ai_c122 sl) (ai_ev sl (d + 3)) x (kc + 0) (ks + 0) _ 0 [cr 6, cr q, ai_un] [] T E nx kc ks
  have hF : cm_fr (fun i k => i = 8) E E := fun _ _ _ => rfl
  refine w_aload (i := 0) (npc := 1) (v := cr 6) rfl rfl rfl ?_
  refine w_aload (i := 1) (npc := 2) (v := cr q) rfl rfl rfl ?_
  refine w_const (n := 10) (npc := 4) rfl ?_
  refine w_virt (ci := 6) (i := 6) (npc := 7) (a := [cr 6, cr q, ai_i 10]) (rest := []) rfl rfl (hI.pl (by decide)) (hI.T (by decide) rfl) rfl rfl rfl rfl (ct_vw_markSlot (sl := sl) (x := x) (d := d + 0) (10) hs_q hI (by omega)) (Or.inl rfl) (fun k9 v9 T2 E2 nx2 kc2 ks2 hq1 hk2 hv2 => ?_)
  obtain ⟨rfl, rfl, rfl, rfl, z3, rfl, hz3⟩ := hq1
  obtain rfl : kc = kc2 := by omega
  obtain rfl : ks = ks2 := by omega
  refine Or.inr (Or.inl ⟨rfl, ?_⟩)
  refine w_istore (i := 2) (npc := 8) (loc' := [cr 6, cr q, ai_i z3]) rfl rfl ?_
  refine w_iload (i := 2) (npc := 9) rfl rfl ?_
  refine w_const (n := (-1)) (npc := 10) rfl ?_
  refine w_icmp (c := .eq) (npc := 13) (pt := 20) rfl (fun hc7 => ?_) (fun hc7 => ?_)
  · replace hc7 : z3 = ((-1) : Int) := hc7
    exact w_vret rfl (⟨rfl, rfl, rfl, hI, hF, trivial⟩) (by omega) (by omega)
  · replace hc7 : ¬ (z3 = ((-1) : Int)) := hc7
    refine w_aload (i := 0) (npc := 14) (v := cr 6) rfl rfl rfl ?_
    refine w_getf (i := 6) (ci := 6) (k := 1) (npc := 17) rfl (hI.pl (by decide)) (hI.T (by decide) rfl) (by decide) (hI.ref 6 1 (p := 8) (by decide) (by decide) rfl) ?_
    refine w_iload (i := 2) (npc := 18) rfl rfl ?_
    refine w_const (n := 1) (npc := 19) rfl ?_
    refine w_ast (i := 8) (k := 2) (n := 300) (npc := 20) rfl (hI.pl (by decide)) (hI.T (by decide) rfl) (by decide) (by omega) (cm_af2 (by omega)) ?_
    have hI9 := hI.puti (i := 8) (k := (z3 : Int).toNat) (z := 1) (lo := 0) (hi := 1) (by decide) rfl (by omega)
    have hF11 := cm_fr.up (i := 8) (k := (z3 : Int).toNat) (v := ai_i 1) hF (by first | omega | (simp; done) | (simp; omega) | (simp only; omega))
    have hs12 := hs_q.up (i := 8) (k := (z3 : Int).toNat) (v := ai_i 1) (by decide)
    generalize hE10 : cm_up E 8 ((z3 : Int).toNat) (ai_i 1) = E8 at hI9 hF11 hs12 ⊢
    have hz13 : E8 8 ((z3 : Int).toNat) = ai_i 1 := by rw [← hE10, cm_up_eq]
    have ghz13 := gv_eq hz13
    exact w_vret rfl (⟨rfl, rfl, rfl, hI9, hF11, trivial⟩) (by omega) (by omega)
set_option maxRecDepth 16384 in
theorem ct_vw_applySteps {sl : Int × Int} {x : ai_E} {d : Nat} {T : cm_T} {E : cm_E} {nx : Nat} {b : Nat} (hb_b : 41 ≤ b ∧ b ≤ 77 ∧ b % 4 = 1) (hI : cs_I T E nx) : cm_ct (ai_ev sl (d + 5)) x 104 [cr 6, cr b] T E nx 0 0 (fun rk rv T' E' nx' => rk = 0 ∧ T = T' ∧ nx = nx' ∧ cs_I T E' nx ∧ cm_fr (fun i k => 8 ≤ i ∧ i ≤ 10) E E' ∧ (True)) := by
  refine cm_body (M := ai_m104) rfl rfl (fun kc ks => ?_)
  show cm_wp (ai_find ai_c104 sl) (ai_ev sl (d + 4)) x (kc + 0) (ks + 0) _ 0 [cr 6, cr b, ai_un, ai_un] [] T E nx kc ks
  have hF : cm_fr (fun i k => 8 ≤ i ∧ i ≤ 10) E E := fun _ _ _ => rfl
  refine w_const (n := 0) (npc := 1) rfl ?_
  refine w_istore (i := 2) (npc := 2) (loc' := [cr 6, cr b, ai_i 0, ai_un]) rfl rfl ?_
  have loop2 : ∀ (nf : Nat) (i : Int) (u2_3 : ai_V) (Eq2 : cm_E), ((300 - i).toNat) < nf → cs_I T Eq2 nx → cm_fr (fun i k => 8 ≤ i ∧ i ≤ 10) E Eq2 → (0 ≤ i ∧ i ≤ 300) → cm_wp (ai_find ai_c104 sl) (ai_ev sl (d + 4)) x (kc + 0) (ks + 0) (fun rk rv T' E' nx' => rk = 0 ∧ T = T' ∧ nx = nx' ∧ cs_I T E' nx ∧ cm_fr (fun i k => 8 ≤ i ∧ i ≤ 10) E E' ∧ (True)) 2 [cr 6, cr b, ai_i i, u2_3] [] T Eq2 nx kc ks := by
    intro nf
    induction nf with
    | zero => intro i u2_3 Eq2 hm; exact absurd hm (Nat.not_lt_zero _)
    | succ nf2 ih =>
      intro i u2_3 Eq2 hm2 hI2 hF2 hv2
      have ih2 := ih; clear ih
      refine w_iload (i := 2) (npc := 3) rfl rfl ?_
      refine w_const (n := 300) (npc := 6) rfl ?_
      refine w_icmp (c := .ge) (npc := 9) (pt := 85) rfl (fun hc1 => ?_) (fun hc1 => ?_)
      · replace hc1 : (300 : Int) ≤ i := hc1
        exact w_vret rfl (⟨rfl, rfl, rfl, hI2, hF2, trivial⟩) (by omega) (by omega)
      · replace hc1 : ¬ ((300 : Int) ≤ i) := hc1
        refine w_aload (i := 1) (npc := 10) (v := cr b) rfl rfl rfl ?_
        refine w_getf (i := b) (ci := 3) (k := 1) (npc := 13) rfl (hI2.pl (by omega)) (hI2.pgT0 hb_b) (by decide) (hI2.pg1 hb_b) ?_
        refine w_iload (i := 2) (npc := 14) rfl rfl ?_
        have hlt9 : (i : Int).toNat < 300 := by omega
        rcases hI2.pgs hb_b (i : Int).toNat hlt9 with hx4 | ⟨q2, hx4, hs3⟩
        · clear hlt9
          refine w_ald (i := b + 1) (t := 5) (n := 300) (npc := 15) rfl (hI2.pl (by omega)) (hI2.pgT1 hb_b) (by decide) rfl (by omega) hx4 ?_
          refine w_astore (i := 3) (npc := 16) (loc' := [cr 6, cr b, ai_i i, ai_nul]) rfl rfl rfl ?_
          refine w_aload (i := 3) (npc := 17) (v := ai_nul) rfl rfl rfl ?_
          refine w_isnullN (pt := 45) (npc := 20) rfl ?_
          refine w_aload (i := 3) (npc := 46) (v := ai_nul) rfl rfl rfl ?_
          refine w_isnullN (pt := 79) (npc := 49) rfl ?_
          refine w_iinc (i := 2) (n := 1) (npc := 82) (loc' := [cr 6, cr b, ai_i (i + 1), ai_nul]) rfl rfl (by omega) rfl ?_
          refine w_goto (pt := 2) rfl ?_
          exact ih2 (i + 1) (ai_nul) Eq2 (by omega) hI2 hF2 (by omega)
        clear hlt9
        refine w_ald (i := b + 1) (t := 5) (n := 300) (npc := 15) rfl (hI2.pl (by omega)) (hI2.pgT1 hb_b) (by decide) rfl (by omega) hx4 ?_
        refine w_astore (i := 3) (npc := 16) (loc' := [cr 6, cr b, ai_i i, cr q2]) rfl rfl rfl ?_
        refine w_aload (i := 3) (npc := 17) (v := cr q2) rfl rfl rfl ?_
        refine w_isnullR (pt := 45) (npc := 20) rfl ?_
        refine w_aload (i := 0) (npc := 21) (v := cr 6) rfl rfl rfl ?_
        refine w_getf (i := 6) (ci := 6) (k := 0) (npc := 24) rfl (hI2.pl (by decide)) (hI2.T (by decide) rfl) (by decide) (hI2.ref 6 0 (p := 7) (by decide) (by decide) rfl) ?_
        refine w_iload (i := 2) (npc := 25) rfl rfl ?_
        obtain ⟨z6, hz6, hz6a, hz6b⟩ := hI2.int 7 (i : Int).toNat (lo := 0) (hi := 1) (by decide) (show (i : Int).toNat < 300 by omega) rfl
        have ghz6 := gv_eq hz6
        refine w_ald (i := 7) (t := 2) (n := 300) (npc := 26) rfl (hI2.pl (by decide)) (hI2.T (by decide) rfl) (by decide) rfl (by omega) hz6 ?_
        refine w_if (c := .eq) (npc := 29) (pt := 45) rfl (fun hc7 => ?_) (fun hc7 => ?_)
        · replace hc7 : z6 = (0 : Int) := hc7
          refine w_aload (i := 3) (npc := 46) (v := cr q2) rfl rfl rfl ?_
          refine w_isnullR (pt := 79) (npc := 49) rfl ?_
          refine w_aload (i := 0) (npc := 50) (v := cr 6) rfl rfl rfl ?_
          refine w_getf (i := 6) (ci := 6) (k := 0) (npc := 53) rfl (hI2.pl (by decide)) (hI2.T (by decide) rfl) (by decide) (hI2.ref 6 0 (p := 7) (by decide) (by decide) rfl) ?_
          refine w_iload (i := 2) (npc := 54) rfl rfl ?_
          refine w_ald (i := 7) (t := 2) (n := 300) (npc := 55) rfl (hI2.pl (by decide)) (hI2.T (by decide) rfl) (by decide) rfl (by omega) hz6 ?_
          refine w_if (c := .eq) (npc := 58) (pt := 79) rfl (fun hc8 => ?_) (fun hc8 => ?_)
          · replace hc8 : z6 = (0 : Int) := hc8
            refine w_iinc (i := 2) (n := 1) (npc := 82) (loc' := [cr 6, cr b, ai_i (i + 1), cr q2]) rfl rfl (by omega) rfl ?_
            refine w_goto (pt := 2) rfl ?_
            exact ih2 (i + 1) (cr q2) Eq2 (by omega) hI2 hF2 (by omega)
          · replace hc8 : ¬ (z6 = (0 : Int)) := hc8
            refine w_aload (i := 3) (npc := 59) (v := cr q2) rfl rfl rfl ?_
            refine w_virt (ci := 4) (i := q2) (npc := 62) (a := [cr q2]) (rest := []) rfl rfl hs3.lt hs3.T0 rfl rfl rfl rfl (ct_sp_kind (sl := sl) (x := x) (d := d + 2)  hs3) (Or.inl rfl) (fun k9 v9 T11 E11 nx11 kc11 ks11 hq10 hk11 hv11 => ?_)
            obtain ⟨rfl, rfl, rfl, rfl, z12, rfl, hz12⟩ := hq10
            obtain rfl : kc = kc11 := by omega
            obtain rfl : ks = ks11 := by omega
            refine Or.inr (Or.inl ⟨rfl, ?_⟩)
            refine w_const (n := 3) (npc := 63) rfl ?_
            refine w_icmp (c := .ne) (npc := 66) (pt := 79) rfl (fun hc16 => ?_) (fun hc16 => ?_)
            · replace hc16 : z12 ≠ (3 : Int) := hc16
              refine w_iinc (i := 2) (n := 1) (npc := 82) (loc' := [cr 6, cr b, ai_i (i + 1), cr q2]) rfl rfl (by omega) rfl ?_
              refine w_goto (pt := 2) rfl ?_
              exact ih2 (i + 1) (cr q2) Eq2 (by omega) hI2 hF2 (by omega)
            · replace hc16 : ¬ (z12 ≠ (3 : Int)) := hc16
              refine w_aload (i := 0) (npc := 67) (v := cr 6) rfl rfl rfl ?_
              refine w_aload (i := 3) (npc := 68) (v := cr q2) rfl rfl rfl ?_
              refine w_virt (ci := 6) (i := 6) (npc := 71) (a := [cr 6, cr q2]) (rest := []) rfl rfl (hI2.pl (by decide)) (hI2.T (by decide) rfl) rfl rfl rfl rfl (ct_vw_canBeMoved (sl := sl) (x := x) (d := d + 0)  hs3 hI2) (Or.inl rfl) (fun k9 v9 T19 E19 nx19 kc19 ks19 hq18 hk19 hv19 => ?_)
              obtain ⟨rfl, rfl, rfl, rfl, z20, rfl, hz20⟩ := hq18
              obtain rfl : kc = kc19 := by omega
              obtain rfl : ks = ks19 := by omega
              refine Or.inr (Or.inl ⟨rfl, ?_⟩)
              refine w_if (c := .eq) (npc := 74) (pt := 79) rfl (fun hc24 => ?_) (fun hc24 => ?_)
              · replace hc24 : z20 = (0 : Int) := hc24
                refine w_iinc (i := 2) (n := 1) (npc := 82) (loc' := [cr 6, cr b, ai_i (i + 1), cr q2]) rfl rfl (by omega) rfl ?_
                refine w_goto (pt := 2) rfl ?_
                exact ih2 (i + 1) (cr q2) Eq2 (by omega) hI2 hF2 (by omega)
              · replace hc24 : ¬ (z20 = (0 : Int)) := hc24
                refine w_aload (i := 0) (npc := 75) (v := cr 6) rfl rfl rfl ?_
                refine w_aload (i := 3) (npc := 76) (v := cr q2) rfl rfl rfl ?_
                refine w_virt (ci := 6) (i := 6) (npc := 79) (a := [cr 6, cr q2]) (rest := []) rfl rfl (hI2.pl (by decide)) (hI2.T (by decide) rfl) rfl rfl rfl rfl (ct_vw_moveMarks (sl := sl) (x := x) (d := d + 0)  hs3 hI2) (Or.inl rfl) (fun k9 v9 T27 E27 nx27 kc27 ks27 hq26 hk27 hv27 => ?_)
                obtain ⟨rfl, rfl, rfl, hI29, hG30, hz28⟩ := hq26
                obtain rfl : kc = kc27 := by omega
                obtain rfl : ks = ks27 := by omega
                have hF32 := cm_fr.trans hF2 hG30 (by intro i k h; (try simp only at h); (try simp only); omega)
                have hs33 := hs3.fr hG30 (by intro i k h; (try simp only at h); omega)
                refine Or.inl ⟨rfl, ?_⟩
                refine w_iinc (i := 2) (n := 1) (npc := 82) (loc' := [cr 6, cr b, ai_i (i + 1), cr q2]) rfl rfl (by omega) rfl ?_
                refine w_goto (pt := 2) rfl ?_
                exact ih2 (i + 1) (cr q2) E27 (by omega) hI29 hF32 (by omega)
        · replace hc7 : ¬ (z6 = (0 : Int)) := hc7
          refine w_aload (i := 3) (npc := 30) (v := cr q2) rfl rfl rfl ?_
          refine w_virt (ci := 4) (i := q2) (npc := 33) (a := [cr q2]) (rest := []) rfl rfl hs3.lt hs3.T0 rfl rfl rfl rfl (ct_sp_kind (sl := sl) (x := x) (d := d + 2)  hs3) (Or.inl rfl) (fun k9 v9 T36 E36 nx36 kc36 ks36 hq35 hk36 hv36 => ?_)
          obtain ⟨rfl, rfl, rfl, rfl, z37, rfl, hz37⟩ := hq35
          obtain rfl : kc = kc36 := by omega
          obtain rfl : ks = ks36 := by omega
          refine Or.inr (Or.inl ⟨rfl, ?_⟩)
          refine w_const (n := 1) (npc := 34) rfl ?_
          refine w_icmp (c := .ne) (npc := 37) (pt := 45) rfl (fun hc41 => ?_) (fun hc41 => ?_)
          · replace hc41 : z37 ≠ (1 : Int) := hc41
            refine w_aload (i := 3) (npc := 46) (v := cr q2) rfl rfl rfl ?_
            refine w_isnullR (pt := 79) (npc := 49) rfl ?_
            refine w_aload (i := 0) (npc := 50) (v := cr 6) rfl rfl rfl ?_
            refine w_getf (i := 6) (ci := 6) (k := 0) (npc := 53) rfl (hI2.pl (by decide)) (hI2.T (by decide) rfl) (by decide) (hI2.ref 6 0 (p := 7) (by decide) (by decide) rfl) ?_
            refine w_iload (i := 2) (npc := 54) rfl rfl ?_
            refine w_ald (i := 7) (t := 2) (n := 300) (npc := 55) rfl (hI2.pl (by decide)) (hI2.T (by decide) rfl) (by decide) rfl (by omega) hz6 ?_
            refine w_if (c := .eq) (npc := 58) (pt := 79) rfl (fun hc42 => ?_) (fun hc42 => ?_)
            · replace hc42 : z6 = (0 : Int) := hc42
              refine w_iinc (i := 2) (n := 1) (npc := 82) (loc' := [cr 6, cr b, ai_i (i + 1), cr q2]) rfl rfl (by omega) rfl ?_
              refine w_goto (pt := 2) rfl ?_
              exact ih2 (i + 1) (cr q2) Eq2 (by omega) hI2 hF2 (by omega)
            · replace hc42 : ¬ (z6 = (0 : Int)) := hc42
              refine w_aload (i := 3) (npc := 59) (v := cr q2) rfl rfl rfl ?_
              refine w_virt (ci := 4) (i := q2) (npc := 62) (a := [cr q2]) (rest := []) rfl rfl hs3.lt hs3.T0 rfl rfl rfl rfl (ct_sp_kind (sl := sl) (x := x) (d := d + 2)  hs3) (Or.inl rfl) (fun k9 v9 T45 E45 nx45 kc45 ks45 hq44 hk45 hv45 => ?_)
              obtain ⟨rfl, rfl, rfl, rfl, z46, rfl, hz46⟩ := hq44
              obtain rfl : kc = kc45 := by omega
              obtain rfl : ks = ks45 := by omega
              refine Or.inr (Or.inl ⟨rfl, ?_⟩)
              refine w_const (n := 3) (npc := 63) rfl ?_
              refine w_icmp (c := .ne) (npc := 66) (pt := 79) rfl (fun hc50 => ?_) (fun hc50 => ?_)
              · replace hc50 : z46 ≠ (3 : Int) := hc50
                refine w_iinc (i := 2) (n := 1) (npc := 82) (loc' := [cr 6, cr b, ai_i (i + 1), cr q2]) rfl rfl (by omega) rfl ?_
                refine w_goto (pt := 2) rfl ?_
                exact ih2 (i + 1) (cr q2) Eq2 (by omega) hI2 hF2 (by omega)
              · replace hc50 : ¬ (z46 ≠ (3 : Int)) := hc50
                refine w_aload (i := 0) (npc := 67) (v := cr 6) rfl rfl rfl ?_
                refine w_aload (i := 3) (npc := 68) (v := cr q2) rfl rfl rfl ?_
                refine w_virt (ci := 6) (i := 6) (npc := 71) (a := [cr 6, cr q2]) (rest := []) rfl rfl (hI2.pl (by decide)) (hI2.T (by decide) rfl) rfl rfl rfl rfl (ct_vw_canBeMoved (sl := sl) (x := x) (d := d + 0)  hs3 hI2) (Or.inl rfl) (fun k9 v9 T53 E53 nx53 kc53 ks53 hq52 hk53 hv53 => ?_)
                obtain ⟨rfl, rfl, rfl, rfl, z54, rfl, hz54⟩ := hq52
                obtain rfl : kc = kc53 := by omega
                obtain rfl : ks = ks53 := by omega
                refine Or.inr (Or.inl ⟨rfl, ?_⟩)
                refine w_if (c := .eq) (npc := 74) (pt := 79) rfl (fun hc58 => ?_) (fun hc58 => ?_)
                · replace hc58 : z54 = (0 : Int) := hc58
                  refine w_iinc (i := 2) (n := 1) (npc := 82) (loc' := [cr 6, cr b, ai_i (i + 1), cr q2]) rfl rfl (by omega) rfl ?_
                  refine w_goto (pt := 2) rfl ?_
                  exact ih2 (i + 1) (cr q2) Eq2 (by omega) hI2 hF2 (by omega)
                · replace hc58 : ¬ (z54 = (0 : Int)) := hc58
                  refine w_aload (i := 0) (npc := 75) (v := cr 6) rfl rfl rfl ?_
                  refine w_aload (i := 3) (npc := 76) (v := cr q2) rfl rfl rfl ?_
                  refine w_virt (ci := 6) (i := 6) (npc := 79) (a := [cr 6, cr q2]) (rest := []) rfl rfl (hI2.pl (by decide)) (hI2.T (by decide) rfl) rfl rfl rfl rfl (ct_vw_moveMarks (sl := sl) (x := x) (d := d + 0)  hs3 hI2) (Or.inl rfl) (fun k9 v9 T61 E61 nx61 kc61 ks61 hq60 hk61 hv61 => ?_)
                  obtain ⟨rfl, rfl, rfl, hI63, hG64, hz62⟩ := hq60
                  obtain rfl : kc = kc61 := by omega
                  obtain rfl : ks = ks61 := by omega
                  have hF66 := cm_fr.trans hF2 hG64 (by intro i k h; (try simp only at h); (try simp only); omega)
                  have hs67 := hs3.fr hG64 (by intro i k h; (try simp only at h); omega)
                  refine Or.inl ⟨rfl, ?_⟩
                  refine w_iinc (i := 2) (n := 1) (npc := 82) (loc' := [cr 6, cr b, ai_i (i + 1), cr q2]) rfl rfl (by omega) rfl ?_
                  refine w_goto (pt := 2) rfl ?_
                  exact ih2 (i + 1) (cr q2) E61 (by omega) hI63 hF66 (by omega)
          · replace hc41 : ¬ (z37 ≠ (1 : Int)) := hc41
            refine w_aload (i := 0) (npc := 38) (v := cr 6) rfl rfl rfl ?_
            refine w_aload (i := 3) (npc := 39) (v := cr q2) rfl rfl rfl ?_
            refine w_virt (ci := 6) (i := 6) (npc := 42) (a := [cr 6, cr q2]) (rest := []) rfl rfl (hI2.pl (by decide)) (hI2.T (by decide) rfl) rfl rfl rfl rfl (ct_vw_strikeMark (sl := sl) (x := x) (d := d + 0)  hs3 hI2) (Or.inl rfl) (fun k9 v9 T70 E70 nx70 kc70 ks70 hq69 hk70 hv70 => ?_)
            obtain ⟨rfl, rfl, rfl, hI72, hG73, hz71⟩ := hq69
            obtain rfl : kc = kc70 := by omega
            obtain rfl : ks = ks70 := by omega
            have hF75 := cm_fr.trans hF2 hG73 (by intro i k h; (try simp only at h); (try simp only); omega)
            have hs76 := hs3.fr hG73 (by intro i k h; (try simp only at h); omega)
            refine Or.inl ⟨rfl, ?_⟩
            refine w_goto (pt := 79) rfl ?_
            refine w_iinc (i := 2) (n := 1) (npc := 82) (loc' := [cr 6, cr b, ai_i (i + 1), cr q2]) rfl rfl (by omega) rfl ?_
            refine w_goto (pt := 2) rfl ?_
            exact ih2 (i + 1) (cr q2) E70 (by omega) hI72 hF75 (by omega)
  exact loop2 _ (0) (ai_un) E (Nat.lt_succ_self _) hI hF (by omega)
set_option maxRecDepth 16384 in
theorem ct_vw_insertMark {sl : Int × Int} {x : ai_E} {d : Nat} {T : cm_T} {E : cm_E} {nx : Nat} (s : Int)  (hI : cs_I T E nx) (hp0 : 0 ≤ s ∧ s ≤ 299) (hp1 : gv E 6 7 ≤ 299) : cm_ct (ai_ev sl (d + 3)) x 110 [cr 6, ai_i s] T E nx 0 0 (fun rk rv T' E' nx' => rk = 0 ∧ T = T' ∧ nx = nx' ∧ cs_I T E' nx ∧ cm_fr (fun i k => i = 11 ∨ (i = 6 ∧ k = 7)) E E' ∧ (gv E' 6 7 = gv E 6 7 + 1)) := by
  refine cm_body (M := ai_m110) rfl rfl (fun kc ks => ?_)
  show cm_wp (ai_find ai_c110 sl) (ai_ev sl (d + 2)) x (kc + 0) (ks + 0) _ 0 [cr 6, ai_i s, ai_un, ai_un, ai_un, ai_un] [] T E nx kc ks
  have hF : cm_fr (fun i k => i = 11 ∨ (i = 6 ∧ k = 7)) E E := fun _ _ _ => rfl
  obtain ⟨z1, hz1, hz1a, hz1b⟩ := hI.int 6 7 (lo := 0) (hi := 300) (by decide) (by decide) rfl
  have ghz1 := gv_eq hz1
  refine w_const (n := 0) (npc := 1) rfl ?_
  refine w_istore (i := 2) (npc := 2) (loc' := [cr 6, ai_i s, ai_i 0, ai_un, ai_un, ai_un]) rfl rfl ?_
  refine w_aload (i := 0) (npc := 3) (v := cr 6) rfl rfl rfl ?_
  refine w_getf (i := 6) (ci := 6) (k := 7) (npc := 6) rfl (hI.pl (by decide)) (hI.T (by decide) rfl) (by decide) hz1 ?_
  refine w_istore (i := 3) (npc := 7) (loc' := [cr 6, ai_i s, ai_i 0, ai_i z1, ai_un, ai_un]) rfl rfl ?_
  refine w_const (n := 0) (npc := 8) rfl ?_
  refine w_istore (i := 4) (npc := 10) (loc' := [cr 6, ai_i s, ai_i 0, ai_i z1, ai_i 0, ai_un]) rfl rfl ?_
  have loop10 : ∀ (nf : Nat) (l : Int) (h : Int) (c : Int) (u10_5 : ai_V), ((300 - c).toNat) < nf → (0 ≤ l ∧ l ≤ h ∧ h ≤ gv E 6 7 ∧ 0 ≤ c ∧ c ≤ 300) → cm_wp (ai_find ai_c110 sl) (ai_ev sl (d + 2)) x (kc + 0) (ks + 0) (fun rk rv T' E' nx' => rk = 0 ∧ T = T' ∧ nx = nx' ∧ cs_I T E' nx ∧ cm_fr (fun i k => i = 11 ∨ (i = 6 ∧ k = 7)) E E' ∧ (gv E' 6 7 = gv E 6 7 + 1)) 10 [cr 6, ai_i s, ai_i l, ai_i h, ai_i c, u10_5] [] T E nx kc ks := by
    intro nf
    induction nf with
    | zero => intro l h c u10_5 hm; exact absurd hm (Nat.not_lt_zero _)
    | succ nf10 ih =>
      intro l h c u10_5 hm10 hv10
      have ih10 := ih; clear ih
      refine w_iload (i := 2) (npc := 11) rfl rfl ?_
      refine w_iload (i := 3) (npc := 12) rfl rfl ?_
      refine w_icmp (c := .ge) (npc := 15) (pt := 62) rfl (fun hc2 => ?_) (fun hc2 => ?_)
      · replace hc2 : h ≤ l := hc2
        refine w_aload (i := 0) (npc := 63) (v := cr 6) rfl rfl rfl ?_
        refine w_getf (i := 6) (ci := 6) (k := 7) (npc := 66) rfl (hI.pl (by decide)) (hI.T (by decide) rfl) (by decide) hz1 ?_
        refine w_istore (i := 4) (npc := 68) (loc' := [cr 6, ai_i s, ai_i l, ai_i h, ai_i z1, u10_5]) rfl rfl ?_
        have loop68 : ∀ (nf : Nat) (j : Int) (Eq68 : cm_E), ((j - l).toNat) < nf → cs_I T Eq68 nx → cm_fr (fun i k => i = 11 ∨ (i = 6 ∧ k = 7)) E Eq68 → (l ≤ j ∧ j ≤ 299 ∧ gv Eq68 6 7 = gv E 6 7) → cm_wp (ai_find ai_c110 sl) (ai_ev sl (d + 2)) x (kc + 0) (ks + 0) (fun rk rv T' E' nx' => rk = 0 ∧ T = T' ∧ nx = nx' ∧ cs_I T E' nx ∧ cm_fr (fun i k => i = 11 ∨ (i = 6 ∧ k = 7)) E E' ∧ (gv E' 6 7 = gv E 6 7 + 1)) 68 [cr 6, ai_i s, ai_i l, ai_i h, ai_i j, u10_5] [] T Eq68 nx kc ks := by
          intro nf
          induction nf with
          | zero => intro j Eq68 hm; exact absurd hm (Nat.not_lt_zero _)
          | succ nf68 ih =>
            intro j Eq68 hm68 hI68 hF68 hv68
            obtain ⟨z3, hz3, hz3a, hz3b⟩ := hI68.int 6 7 (lo := 0) (hi := 300) (by decide) (by decide) rfl
            have ghz3 := gv_eq hz3
            have ih68 := ih; clear ih
            refine w_iload (i := 4) (npc := 70) rfl rfl ?_
            refine w_iload (i := 2) (npc := 71) rfl rfl ?_
            refine w_icmp (c := .le) (npc := 74) (pt := 96) rfl (fun hc4 => ?_) (fun hc4 => ?_)
            · replace hc4 : j ≤ l := hc4
              refine w_aload (i := 0) (npc := 97) (v := cr 6) rfl rfl rfl ?_
              refine w_getf (i := 6) (ci := 6) (k := 4) (npc := 100) rfl (hI68.pl (by decide)) (hI68.T (by decide) rfl) (by decide) (hI68.ref 6 4 (p := 11) (by decide) (by decide) rfl) ?_
              refine w_iload (i := 2) (npc := 101) rfl rfl ?_
              refine w_iload (i := 1) (npc := 102) rfl rfl ?_
              refine w_ast (i := 11) (k := 1) (n := 300) (npc := 103) rfl (hI68.pl (by decide)) (hI68.T (by decide) rfl) (by decide) (by omega) cm_af1 ?_
              have hI6 := hI68.puti (i := 11) (k := (l : Int).toNat) (z := s) (lo := 0) (hi := 299) (by decide) rfl (by omega)
              have hF8 := cm_fr.up (i := 11) (k := (l : Int).toNat) (v := ai_i s) hF68 (by first | omega | (simp; done) | (simp; omega) | (simp only; omega))
              generalize hE7 : cm_up Eq68 11 ((l : Int).toNat) (ai_i s) = E5 at hI6 hF8 ⊢
              have hz9 : E5 6 7 = ai_i z3 := by rw [← hE7, cm_up_nei _ _ (by decide)]; exact hz3
              have ghz9 := gv_eq hz9
              have hz10 : E5 11 ((l : Int).toNat) = ai_i s := by rw [← hE7, cm_up_eq]
              have ghz10 := gv_eq hz10
              refine w_aload (i := 0) (npc := 104) (v := cr 6) rfl rfl rfl ?_
              refine w_dup (npc := 105) rfl rfl ?_
              refine w_getf (i := 6) (ci := 6) (k := 7) (npc := 108) rfl (hI6.pl (by decide)) (hI6.T (by decide) rfl) (by decide) hz9 ?_
              refine w_const (n := 1) (npc := 109) rfl ?_
              refine w_iadd (npc := 110) rfl (by omega) ?_
              refine w_putf (i := 6) (ci := 6) (k := 7) (t := 0) (npc := 113) rfl (hI6.pl (by decide)) (hI6.T (by decide) rfl) (by decide) cm_fit0 ?_
              have hI13 := hI6.puti (i := 6) (k := 7) (z := z3 + 1) (lo := 0) (hi := 300) (by decide) rfl (by omega)
              have hF15 := cm_fr.up (i := 6) (k := 7) (v := ai_i (z3 + 1)) hF8 (by first | omega | (simp; done) | (simp; omega) | (simp only; omega))
              generalize hE14 : cm_up E5 6 7 (ai_i (z3 + 1)) = E12 at hI13 hF15 ⊢
              have hz16 : E12 11 ((l : Int).toNat) = ai_i s := by rw [← hE14, cm_up_nei _ _ (by decide)]; exact hz10
              have ghz16 := gv_eq hz16
              have hz17 : E12 6 7 = ai_i (z3 + 1) := by rw [← hE14, cm_up_eq]
              have ghz17 := gv_eq hz17
              exact w_vret rfl (⟨rfl, rfl, rfl, hI13, hF15, by omega⟩) (by omega) (by omega)
            · replace hc4 : ¬ (j ≤ l) := hc4
              refine w_aload (i := 0) (npc := 75) (v := cr 6) rfl rfl rfl ?_
              refine w_getf (i := 6) (ci := 6) (k := 4) (npc := 78) rfl (hI68.pl (by decide)) (hI68.T (by decide) rfl) (by decide) (hI68.ref 6 4 (p := 11) (by decide) (by decide) rfl) ?_
              refine w_iload (i := 4) (npc := 80) rfl rfl ?_
              refine w_aload (i := 0) (npc := 81) (v := cr 6) rfl rfl rfl ?_
              refine w_getf (i := 6) (ci := 6) (k := 4) (npc := 84) rfl (hI68.pl (by decide)) (hI68.T (by decide) rfl) (by decide) (hI68.ref 6 4 (p := 11) (by decide) (by decide) rfl) ?_
              refine w_iload (i := 4) (npc := 86) rfl rfl ?_
              refine w_const (n := 1) (npc := 87) rfl ?_
              refine w_isub (npc := 88) rfl (by omega) ?_
              obtain ⟨z19, hz19, hz19a, hz19b⟩ := hI68.int 11 (j - 1 : Int).toNat (lo := 0) (hi := 299) (by decide) (show (j - 1 : Int).toNat < 300 by omega) rfl
              have ghz19 := gv_eq hz19
              refine w_ald (i := 11) (t := 1) (n := 300) (npc := 89) rfl (hI68.pl (by decide)) (hI68.T (by decide) rfl) (by decide) rfl (by omega) hz19 ?_
              refine w_ast (i := 11) (k := 1) (n := 300) (npc := 90) rfl (hI68.pl (by decide)) (hI68.T (by decide) rfl) (by decide) (by omega) cm_af1 ?_
              have hI21 := hI68.puti (i := 11) (k := (j : Int).toNat) (z := z19) (lo := 0) (hi := 299) (by decide) rfl (by omega)
              have hF23 := cm_fr.up (i := 11) (k := (j : Int).toNat) (v := ai_i z19) hF68 (by first | omega | (simp; done) | (simp; omega) | (simp only; omega))
              generalize hE22 : cm_up Eq68 11 ((j : Int).toNat) (ai_i z19) = E20 at hI21 hF23 ⊢
              have hz24 : E20 6 7 = ai_i z3 := by rw [← hE22, cm_up_nei _ _ (by decide)]; exact hz3
              have ghz24 := gv_eq hz24
              have hz25 : E20 11 ((j : Int).toNat) = ai_i z19 := by rw [← hE22, cm_up_eq]
              have ghz25 := gv_eq hz25
              refine w_iinc (i := 4) (n := (-1)) (npc := 93) (loc' := [cr 6, ai_i s, ai_i l, ai_i h, ai_i (j + (-1)), u10_5]) rfl rfl (by omega) rfl ?_
              refine w_goto (pt := 68) rfl ?_
              exact ih68 (j + (-1)) E20 (by omega) hI21 hF23 (by omega)
        exact loop68 _ (z1) E (Nat.lt_succ_self _) hI hF (by omega)
      · replace hc2 : ¬ (h ≤ l) := hc2
        refine w_iload (i := 4) (npc := 17) rfl rfl ?_
        refine w_const (n := 300) (npc := 20) rfl ?_
        refine w_icmp (c := .ge) (npc := 23) (pt := 62) rfl (fun hc27 => ?_) (fun hc27 => ?_)
        · replace hc27 : (300 : Int) ≤ c := hc27
          refine w_aload (i := 0) (npc := 63) (v := cr 6) rfl rfl rfl ?_
          refine w_getf (i := 6) (ci := 6) (k := 7) (npc := 66) rfl (hI.pl (by decide)) (hI.T (by decide) rfl) (by decide) hz1 ?_
          refine w_istore (i := 4) (npc := 68) (loc' := [cr 6, ai_i s, ai_i l, ai_i h, ai_i z1, u10_5]) rfl rfl ?_
          have loop68 : ∀ (nf : Nat) (j : Int) (Eq68 : cm_E), ((j - l).toNat) < nf → cs_I T Eq68 nx → cm_fr (fun i k => i = 11 ∨ (i = 6 ∧ k = 7)) E Eq68 → (l ≤ j ∧ j ≤ 299 ∧ gv Eq68 6 7 = gv E 6 7) → cm_wp (ai_find ai_c110 sl) (ai_ev sl (d + 2)) x (kc + 0) (ks + 0) (fun rk rv T' E' nx' => rk = 0 ∧ T = T' ∧ nx = nx' ∧ cs_I T E' nx ∧ cm_fr (fun i k => i = 11 ∨ (i = 6 ∧ k = 7)) E E' ∧ (gv E' 6 7 = gv E 6 7 + 1)) 68 [cr 6, ai_i s, ai_i l, ai_i h, ai_i j, u10_5] [] T Eq68 nx kc ks := by
            intro nf
            induction nf with
            | zero => intro j Eq68 hm; exact absurd hm (Nat.not_lt_zero _)
            | succ nf68 ih =>
              intro j Eq68 hm68 hI68 hF68 hv68
              obtain ⟨z28, hz28, hz28a, hz28b⟩ := hI68.int 6 7 (lo := 0) (hi := 300) (by decide) (by decide) rfl
              have ghz28 := gv_eq hz28
              have ih68 := ih; clear ih
              refine w_iload (i := 4) (npc := 70) rfl rfl ?_
              refine w_iload (i := 2) (npc := 71) rfl rfl ?_
              refine w_icmp (c := .le) (npc := 74) (pt := 96) rfl (fun hc29 => ?_) (fun hc29 => ?_)
              · replace hc29 : j ≤ l := hc29
                refine w_aload (i := 0) (npc := 97) (v := cr 6) rfl rfl rfl ?_
                refine w_getf (i := 6) (ci := 6) (k := 4) (npc := 100) rfl (hI68.pl (by decide)) (hI68.T (by decide) rfl) (by decide) (hI68.ref 6 4 (p := 11) (by decide) (by decide) rfl) ?_
                refine w_iload (i := 2) (npc := 101) rfl rfl ?_
                refine w_iload (i := 1) (npc := 102) rfl rfl ?_
                refine w_ast (i := 11) (k := 1) (n := 300) (npc := 103) rfl (hI68.pl (by decide)) (hI68.T (by decide) rfl) (by decide) (by omega) cm_af1 ?_
                have hI31 := hI68.puti (i := 11) (k := (l : Int).toNat) (z := s) (lo := 0) (hi := 299) (by decide) rfl (by omega)
                have hF33 := cm_fr.up (i := 11) (k := (l : Int).toNat) (v := ai_i s) hF68 (by first | omega | (simp; done) | (simp; omega) | (simp only; omega))
                generalize hE32 : cm_up Eq68 11 ((l : Int).toNat) (ai_i s) = E30 at hI31 hF33 ⊢
                have hz34 : E30 6 7 = ai_i z28 := by rw [← hE32, cm_up_nei _ _ (by decide)]; exact hz28
                have ghz34 := gv_eq hz34
                have hz35 : E30 11 ((l : Int).toNat) = ai_i s := by rw [← hE32, cm_up_eq]
                have ghz35 := gv_eq hz35
                refine w_aload (i := 0) (npc := 104) (v := cr 6) rfl rfl rfl ?_
                refine w_dup (npc := 105) rfl rfl ?_
                refine w_getf (i := 6) (ci := 6) (k := 7) (npc := 108) rfl (hI31.pl (by decide)) (hI31.T (by decide) rfl) (by decide) hz34 ?_
                refine w_const (n := 1) (npc := 109) rfl ?_
                refine w_iadd (npc := 110) rfl (by omega) ?_
                refine w_putf (i := 6) (ci := 6) (k := 7) (t := 0) (npc := 113) rfl (hI31.pl (by decide)) (hI31.T (by decide) rfl) (by decide) cm_fit0 ?_
                have hI38 := hI31.puti (i := 6) (k := 7) (z := z28 + 1) (lo := 0) (hi := 300) (by decide) rfl (by omega)
                have hF40 := cm_fr.up (i := 6) (k := 7) (v := ai_i (z28 + 1)) hF33 (by first | omega | (simp; done) | (simp; omega) | (simp only; omega))
                generalize hE39 : cm_up E30 6 7 (ai_i (z28 + 1)) = E37 at hI38 hF40 ⊢
                have hz41 : E37 11 ((l : Int).toNat) = ai_i s := by rw [← hE39, cm_up_nei _ _ (by decide)]; exact hz35
                have ghz41 := gv_eq hz41
                have hz42 : E37 6 7 = ai_i (z28 + 1) := by rw [← hE39, cm_up_eq]
                have ghz42 := gv_eq hz42
                exact w_vret rfl (⟨rfl, rfl, rfl, hI38, hF40, by omega⟩) (by omega) (by omega)
              · replace hc29 : ¬ (j ≤ l) := hc29
                refine w_aload (i := 0) (npc := 75) (v := cr 6) rfl rfl rfl ?_
                refine w_getf (i := 6) (ci := 6) (k := 4) (npc := 78) rfl (hI68.pl (by decide)) (hI68.T (by decide) rfl) (by decide) (hI68.ref 6 4 (p := 11) (by decide) (by decide) rfl) ?_
                refine w_iload (i := 4) (npc := 80) rfl rfl ?_
                refine w_aload (i := 0) (npc := 81) (v := cr 6) rfl rfl rfl ?_
                refine w_getf (i := 6) (ci := 6) (k := 4) (npc := 84) rfl (hI68.pl (by decide)) (hI68.T (by decide) rfl) (by decide) (hI68.ref 6 4 (p := 11) (by decide) (by decide) rfl) ?_
                refine w_iload (i := 4) (npc := 86) rfl rfl ?_
                refine w_const (n := 1) (npc := 87) rfl ?_
                refine w_isub (npc := 88) rfl (by omega) ?_
                obtain ⟨z44, hz44, hz44a, hz44b⟩ := hI68.int 11 (j - 1 : Int).toNat (lo := 0) (hi := 299) (by decide) (show (j - 1 : Int).toNat < 300 by omega) rfl
                have ghz44 := gv_eq hz44
                refine w_ald (i := 11) (t := 1) (n := 300) (npc := 89) rfl (hI68.pl (by decide)) (hI68.T (by decide) rfl) (by decide) rfl (by omega) hz44 ?_
                refine w_ast (i := 11) (k := 1) (n := 300) (npc := 90) rfl (hI68.pl (by decide)) (hI68.T (by decide) rfl) (by decide) (by omega) cm_af1 ?_
                have hI46 := hI68.puti (i := 11) (k := (j : Int).toNat) (z := z44) (lo := 0) (hi := 299) (by decide) rfl (by omega)
                have hF48 := cm_fr.up (i := 11) (k := (j : Int).toNat) (v := ai_i z44) hF68 (by first | omega | (simp; done) | (simp; omega) | (simp only; omega))
                generalize hE47 : cm_up Eq68 11 ((j : Int).toNat) (ai_i z44) = E45 at hI46 hF48 ⊢
                have hz49 : E45 6 7 = ai_i z28 := by rw [← hE47, cm_up_nei _ _ (by decide)]; exact hz28
                have ghz49 := gv_eq hz49
                have hz50 : E45 11 ((j : Int).toNat) = ai_i z44 := by rw [← hE47, cm_up_eq]
                have ghz50 := gv_eq hz50
                refine w_iinc (i := 4) (n := (-1)) (npc := 93) (loc' := [cr 6, ai_i s, ai_i l, ai_i h, ai_i (j + (-1)), u10_5]) rfl rfl (by omega) rfl ?_
                refine w_goto (pt := 68) rfl ?_
                exact ih68 (j + (-1)) E45 (by omega) hI46 hF48 (by omega)
          exact loop68 _ (z1) E (Nat.lt_succ_self _) hI hF (by omega)
        · replace hc27 : ¬ ((300 : Int) ≤ c) := hc27
          refine w_iload (i := 2) (npc := 24) rfl rfl ?_
          refine w_iload (i := 3) (npc := 25) rfl rfl ?_
          refine w_iadd (npc := 26) rfl (by omega) ?_
          refine w_const (n := 2) (npc := 27) rfl ?_
          refine w_idiv (npc := 28) rfl (by omega) (by omega) (fun z53 hz53 hz53b hz53c => ?_)
          refine w_istore (i := 5) (npc := 30) (loc' := [cr 6, ai_i s, ai_i l, ai_i h, ai_i c, ai_i z53]) rfl rfl ?_
          refine w_aload (i := 0) (npc := 31) (v := cr 6) rfl rfl rfl ?_
          refine w_aload (i := 0) (npc := 32) (v := cr 6) rfl rfl rfl ?_
          refine w_getf (i := 6) (ci := 6) (k := 4) (npc := 35) rfl (hI.pl (by decide)) (hI.T (by decide) rfl) (by decide) (hI.ref 6 4 (p := 11) (by decide) (by decide) rfl) ?_
          refine w_iload (i := 5) (npc := 37) rfl rfl ?_
          obtain ⟨z54, hz54, hz54a, hz54b⟩ := hI.int 11 (z53 : Int).toNat (lo := 0) (hi := 299) (by decide) (show (z53 : Int).toNat < 300 by omega) rfl
          have ghz54 := gv_eq hz54
          refine w_ald (i := 11) (t := 1) (n := 300) (npc := 38) rfl (hI.pl (by decide)) (hI.T (by decide) rfl) (by decide) rfl (by omega) hz54 ?_
          refine w_iload (i := 1) (npc := 39) rfl rfl ?_
          refine w_virt (ci := 6) (i := 6) (npc := 42) (a := [cr 6, ai_i z54, ai_i s]) (rest := []) rfl rfl (hI.pl (by decide)) (hI.T (by decide) rfl) rfl rfl rfl rfl (ct_vw_compareKeys (sl := sl) (x := x) (d := d + 0) (z54) (s) hI (by omega) (by omega)) (Or.inl rfl) (fun k9 v9 T56 E56 nx56 kc56 ks56 hq55 hk56 hv56 => ?_)
          obtain ⟨rfl, rfl, rfl, rfl, z57, rfl, hz57⟩ := hq55
          obtain rfl : kc = kc56 := by omega
          obtain rfl : ks = ks56 := by omega
          refine Or.inr (Or.inl ⟨rfl, ?_⟩)
          refine w_if (c := .gt) (npc := 45) (pt := 53) rfl (fun hc61 => ?_) (fun hc61 => ?_)
          · replace hc61 : (0 : Int) < z57 := hc61
            refine w_iload (i := 5) (npc := 55) rfl rfl ?_
            refine w_istore (i := 3) (npc := 56) (loc' := [cr 6, ai_i s, ai_i l, ai_i z53, ai_i c, ai_i z53]) rfl rfl ?_
            refine w_iinc (i := 4) (n := 1) (npc := 59) (loc' := [cr 6, ai_i s, ai_i l, ai_i z53, ai_i (c + 1), ai_i z53]) rfl rfl (by omega) rfl ?_
            refine w_goto (pt := 10) rfl ?_
            exact ih10 (l) (z53) (c + 1) (ai_i z53) (by omega) (by omega)
          · replace hc61 : ¬ ((0 : Int) < z57) := hc61
            refine w_iload (i := 5) (npc := 47) rfl rfl ?_
            refine w_const (n := 1) (npc := 48) rfl ?_
            refine w_iadd (npc := 49) rfl (by omega) ?_
            refine w_istore (i := 2) (npc := 50) (loc' := [cr 6, ai_i s, ai_i (z53 + 1), ai_i h, ai_i c, ai_i z53]) rfl rfl ?_
            refine w_goto (pt := 56) rfl ?_
            refine w_iinc (i := 4) (n := 1) (npc := 59) (loc' := [cr 6, ai_i s, ai_i (z53 + 1), ai_i h, ai_i (c + 1), ai_i z53]) rfl rfl (by omega) rfl ?_
            refine w_goto (pt := 10) rfl ?_
            exact ih10 (z53 + 1) (h) (c + 1) (ai_i z53) (by omega) (by omega)
  exact loop10 _ (0) (z1) (0) (ai_un) (Nat.lt_succ_self _) (by omega)
set_option maxRecDepth 16384 in
theorem ct_vw_makeRow {sl : Int × Int} {x : ai_E} {d : Nat} {T : cm_T} {E : cm_E} {nx : Nat}  (hI : cs_I T E nx) : cm_ct (ai_ev sl (d + 4)) x 115 [cr 6] T E nx 0 0 (fun rk rv T' E' nx' => rk = 0 ∧ T = T' ∧ nx = nx' ∧ cs_I T E' nx ∧ cm_fr (fun i k => i = 11 ∨ (i = 6 ∧ k = 7)) E E' ∧ (True)) := by
  refine cm_body (M := ai_m115) rfl rfl (fun kc ks => ?_)
  show cm_wp (ai_find ai_c115 sl) (ai_ev sl (d + 3)) x (kc + 0) (ks + 0) _ 0 [cr 6, ai_un] [] T E nx kc ks
  have hF : cm_fr (fun i k => i = 11 ∨ (i = 6 ∧ k = 7)) E E := fun _ _ _ => rfl
  refine w_aload (i := 0) (npc := 1) (v := cr 6) rfl rfl rfl ?_
  refine w_const (n := 0) (npc := 2) rfl ?_
  refine w_putf (i := 6) (ci := 6) (k := 7) (t := 0) (npc := 5) rfl (hI.pl (by decide)) (hI.T (by decide) rfl) (by decide) cm_fit0 ?_
  have hI2 := hI.puti (i := 6) (k := 7) (z := 0) (lo := 0) (hi := 300) (by decide) rfl (by omega)
  have hF4 := cm_fr.up (i := 6) (k := 7) (v := ai_i 0) hF (by first | omega | (simp; done) | (simp; omega) | (simp only; omega))
  generalize hE3 : cm_up E 6 7 (ai_i 0) = E1 at hI2 hF4 ⊢
  have hz5 : E1 6 7 = ai_i 0 := by rw [← hE3, cm_up_eq]
  have ghz5 := gv_eq hz5
  refine w_const (n := 0) (npc := 6) rfl ?_
  refine w_istore (i := 1) (npc := 7) (loc' := [cr 6, ai_i 0]) rfl rfl ?_
  have loop7 : ∀ (nf : Nat) (i : Int) (Eq7 : cm_E), ((300 - i).toNat) < nf → cs_I T Eq7 nx → cm_fr (fun i k => i = 11 ∨ (i = 6 ∧ k = 7)) E Eq7 → (0 ≤ i ∧ i ≤ 300 ∧ gv Eq7 6 7 ≤ i) → cm_wp (ai_find ai_c115 sl) (ai_ev sl (d + 3)) x (kc + 0) (ks + 0) (fun rk rv T' E' nx' => rk = 0 ∧ T = T' ∧ nx = nx' ∧ cs_I T E' nx ∧ cm_fr (fun i k => i = 11 ∨ (i = 6 ∧ k = 7)) E E' ∧ (True)) 7 [cr 6, ai_i i] [] T Eq7 nx kc ks := by
    intro nf
    induction nf with
    | zero => intro i Eq7 hm; exact absurd hm (Nat.not_lt_zero _)
    | succ nf7 ih =>
      intro i Eq7 hm7 hI7 hF7 hv7
      obtain ⟨z6, hz6, hz6a, hz6b⟩ := hI7.int 6 7 (lo := 0) (hi := 300) (by decide) (by decide) rfl
      have ghz6 := gv_eq hz6
      have ih7 := ih; clear ih
      refine w_iload (i := 1) (npc := 8) rfl rfl ?_
      refine w_const (n := 300) (npc := 11) rfl ?_
      refine w_icmp (c := .ge) (npc := 14) (pt := 34) rfl (fun hc7 => ?_) (fun hc7 => ?_)
      · replace hc7 : (300 : Int) ≤ i := hc7
        exact w_vret rfl (⟨rfl, rfl, rfl, hI7, hF7, trivial⟩) (by omega) (by omega)
      · replace hc7 : ¬ ((300 : Int) ≤ i) := hc7
        refine w_aload (i := 0) (npc := 15) (v := cr 6) rfl rfl rfl ?_
        refine w_getf (i := 6) (ci := 6) (k := 2) (npc := 18) rfl (hI7.pl (by decide)) (hI7.T (by decide) rfl) (by decide) (hI7.ref 6 2 (p := 9) (by decide) (by decide) rfl) ?_
        refine w_iload (i := 1) (npc := 19) rfl rfl ?_
        have hlt9 : (i : Int).toNat < 300 := by omega
        rcases hI7.stp 9 (i : Int).toNat (by decide) hlt9 rfl with hx10 | ⟨q8, hx10, hs9⟩
        · clear hlt9
          refine w_ald (i := 9) (t := 5) (n := 300) (npc := 20) rfl (hI7.pl (by decide)) (hI7.T (by decide) rfl) (by decide) rfl (by omega) hx10 ?_
          refine w_isnullN (pt := 28) (npc := 23) rfl ?_
          refine w_iinc (i := 1) (n := 1) (npc := 31) (loc' := [cr 6, ai_i (i + 1)]) rfl rfl (by omega) rfl ?_
          refine w_goto (pt := 7) rfl ?_
          exact ih7 (i + 1) Eq7 (by omega) hI7 hF7 (by omega)
        clear hlt9
        refine w_ald (i := 9) (t := 5) (n := 300) (npc := 20) rfl (hI7.pl (by decide)) (hI7.T (by decide) rfl) (by decide) rfl (by omega) hx10 ?_
        refine w_isnullR (pt := 28) (npc := 23) rfl ?_
        refine w_aload (i := 0) (npc := 24) (v := cr 6) rfl rfl rfl ?_
        refine w_iload (i := 1) (npc := 25) rfl rfl ?_
        refine w_virt (ci := 6) (i := 6) (npc := 28) (a := [cr 6, ai_i i]) (rest := []) rfl rfl (hI7.pl (by decide)) (hI7.T (by decide) rfl) rfl rfl rfl rfl (ct_vw_insertMark (sl := sl) (x := x) (d := d + 0) (i) hI7 (by omega) (by omega)) (Or.inl rfl) (fun k9 v9 T13 E13 nx13 kc13 ks13 hq12 hk13 hv13 => ?_)
        obtain ⟨rfl, rfl, rfl, hI15, hG16, hz14⟩ := hq12
        obtain rfl : kc = kc13 := by omega
        obtain rfl : ks = ks13 := by omega
        have hF18 := cm_fr.trans hF7 hG16 (by intro i k h; (try simp only at h); (try simp only); omega)
        refine Or.inl ⟨rfl, ?_⟩
        refine w_iinc (i := 1) (n := 1) (npc := 31) (loc' := [cr 6, ai_i (i + 1)]) rfl rfl (by omega) rfl ?_
        refine w_goto (pt := 7) rfl ?_
        exact ih7 (i + 1) E13 (by omega) hI15 hF18 (by omega)
  exact loop7 _ (0) E1 (Nat.lt_succ_self _) hI2 hF4 (by omega)
set_option maxRecDepth 16384 in
theorem ct_vw_makeText {sl : Int × Int} {x : ai_E} {d : Nat} {T : cm_T} {E : cm_E} {nx : Nat}  (hI : cs_I T E nx) : cm_ct (ai_ev sl (d + 1)) x 116 [cr 6] T E nx 0 0 (fun rk rv T' E' nx' => rk = 0 ∧ T = T' ∧ nx = nx' ∧ cs_I T E' nx ∧ cm_fr (fun i k => i = 12 ∨ (i = 6 ∧ k = 8)) E E' ∧ (True)) := by
  refine cm_body (M := ai_m116) rfl rfl (fun kc ks => ?_)
  show cm_wp (ai_find ai_c116 sl) (ai_ev sl (d + 0)) x (kc + 0) (ks + 0) _ 0 [cr 6, ai_un] [] T E nx kc ks
  have hF : cm_fr (fun i k => i = 12 ∨ (i = 6 ∧ k = 8)) E E := fun _ _ _ => rfl
  refine w_aload (i := 0) (npc := 1) (v := cr 6) rfl rfl rfl ?_
  refine w_const (n := 0) (npc := 2) rfl ?_
  refine w_putf (i := 6) (ci := 6) (k := 8) (t := 0) (npc := 5) rfl (hI.pl (by decide)) (hI.T (by decide) rfl) (by decide) cm_fit0 ?_
  have hI2 := hI.puti (i := 6) (k := 8) (z := 0) (lo := 0) (hi := 300) (by decide) rfl (by omega)
  have hF4 := cm_fr.up (i := 6) (k := 8) (v := ai_i 0) hF (by first | omega | (simp; done) | (simp; omega) | (simp only; omega))
  generalize hE3 : cm_up E 6 8 (ai_i 0) = E1 at hI2 hF4 ⊢
  have hz5 : E1 6 8 = ai_i 0 := by rw [← hE3, cm_up_eq]
  have ghz5 := gv_eq hz5
  refine w_const (n := 0) (npc := 6) rfl ?_
  refine w_istore (i := 1) (npc := 7) (loc' := [cr 6, ai_i 0]) rfl rfl ?_
  have loop7 : ∀ (nf : Nat) (i : Int) (Eq7 : cm_E), ((300 - i).toNat) < nf → cs_I T Eq7 nx → cm_fr (fun i k => i = 12 ∨ (i = 6 ∧ k = 8)) E Eq7 → (0 ≤ i ∧ i ≤ 300 ∧ gv Eq7 6 8 ≤ i) → cm_wp (ai_find ai_c116 sl) (ai_ev sl (d + 0)) x (kc + 0) (ks + 0) (fun rk rv T' E' nx' => rk = 0 ∧ T = T' ∧ nx = nx' ∧ cs_I T E' nx ∧ cm_fr (fun i k => i = 12 ∨ (i = 6 ∧ k = 8)) E E' ∧ (True)) 7 [cr 6, ai_i i] [] T Eq7 nx kc ks := by
    intro nf
    induction nf with
    | zero => intro i Eq7 hm; exact absurd hm (Nat.not_lt_zero _)
    | succ nf7 ih =>
      intro i Eq7 hm7 hI7 hF7 hv7
      obtain ⟨z6, hz6, hz6a, hz6b⟩ := hI7.int 6 7 (lo := 0) (hi := 300) (by decide) (by decide) rfl
      have ghz6 := gv_eq hz6
      obtain ⟨z7, hz7, hz7a, hz7b⟩ := hI7.int 6 8 (lo := 0) (hi := 300) (by decide) (by decide) rfl
      have ghz7 := gv_eq hz7
      have ih7 := ih; clear ih
      refine w_iload (i := 1) (npc := 8) rfl rfl ?_
      refine w_aload (i := 0) (npc := 9) (v := cr 6) rfl rfl rfl ?_
      refine w_getf (i := 6) (ci := 6) (k := 7) (npc := 12) rfl (hI7.pl (by decide)) (hI7.T (by decide) rfl) (by decide) hz6 ?_
      refine w_icmp (c := .ge) (npc := 15) (pt := 69) rfl (fun hc8 => ?_) (fun hc8 => ?_)
      · replace hc8 : z6 ≤ i := hc8
        exact w_vret rfl (⟨rfl, rfl, rfl, hI7, hF7, trivial⟩) (by omega) (by omega)
      · replace hc8 : ¬ (z6 ≤ i) := hc8
        refine w_aload (i := 0) (npc := 16) (v := cr 6) rfl rfl rfl ?_
        refine w_getf (i := 6) (ci := 6) (k := 0) (npc := 19) rfl (hI7.pl (by decide)) (hI7.T (by decide) rfl) (by decide) (hI7.ref 6 0 (p := 7) (by decide) (by decide) rfl) ?_
        refine w_aload (i := 0) (npc := 20) (v := cr 6) rfl rfl rfl ?_
        refine w_getf (i := 6) (ci := 6) (k := 4) (npc := 23) rfl (hI7.pl (by decide)) (hI7.T (by decide) rfl) (by decide) (hI7.ref 6 4 (p := 11) (by decide) (by decide) rfl) ?_
        refine w_iload (i := 1) (npc := 24) rfl rfl ?_
        obtain ⟨z9, hz9, hz9a, hz9b⟩ := hI7.int 11 (i : Int).toNat (lo := 0) (hi := 299) (by decide) (show (i : Int).toNat < 300 by omega) rfl
        have ghz9 := gv_eq hz9
        refine w_ald (i := 11) (t := 1) (n := 300) (npc := 25) rfl (hI7.pl (by decide)) (hI7.T (by decide) rfl) (by decide) rfl (by omega) hz9 ?_
        obtain ⟨z10, hz10, hz10a, hz10b⟩ := hI7.int 7 (z9 : Int).toNat (lo := 0) (hi := 1) (by decide) (show (z9 : Int).toNat < 300 by omega) rfl
        have ghz10 := gv_eq hz10
        refine w_ald (i := 7) (t := 2) (n := 300) (npc := 26) rfl (hI7.pl (by decide)) (hI7.T (by decide) rfl) (by decide) rfl (by omega) hz10 ?_
        refine w_if (c := .eq) (npc := 29) (pt := 63) rfl (fun hc11 => ?_) (fun hc11 => ?_)
        · replace hc11 : z10 = (0 : Int) := hc11
          refine w_iinc (i := 1) (n := 1) (npc := 66) (loc' := [cr 6, ai_i (i + 1)]) rfl rfl (by omega) rfl ?_
          refine w_goto (pt := 7) rfl ?_
          exact ih7 (i + 1) Eq7 (by omega) hI7 hF7 (by omega)
        · replace hc11 : ¬ (z10 = (0 : Int)) := hc11
          refine w_aload (i := 0) (npc := 30) (v := cr 6) rfl rfl rfl ?_
          refine w_getf (i := 6) (ci := 6) (k := 1) (npc := 33) rfl (hI7.pl (by decide)) (hI7.T (by decide) rfl) (by decide) (hI7.ref 6 1 (p := 8) (by decide) (by decide) rfl) ?_
          refine w_aload (i := 0) (npc := 34) (v := cr 6) rfl rfl rfl ?_
          refine w_getf (i := 6) (ci := 6) (k := 4) (npc := 37) rfl (hI7.pl (by decide)) (hI7.T (by decide) rfl) (by decide) (hI7.ref 6 4 (p := 11) (by decide) (by decide) rfl) ?_
          refine w_iload (i := 1) (npc := 38) rfl rfl ?_
          refine w_ald (i := 11) (t := 1) (n := 300) (npc := 39) rfl (hI7.pl (by decide)) (hI7.T (by decide) rfl) (by decide) rfl (by omega) hz9 ?_
          obtain ⟨z13, hz13, hz13a, hz13b⟩ := hI7.int 8 (z9 : Int).toNat (lo := 0) (hi := 1) (by decide) (show (z9 : Int).toNat < 300 by omega) rfl
          have ghz13 := gv_eq hz13
          refine w_ald (i := 8) (t := 2) (n := 300) (npc := 40) rfl (hI7.pl (by decide)) (hI7.T (by decide) rfl) (by decide) rfl (by omega) hz13 ?_
          refine w_if (c := .ne) (npc := 43) (pt := 63) rfl (fun hc14 => ?_) (fun hc14 => ?_)
          · replace hc14 : z13 ≠ (0 : Int) := hc14
            refine w_iinc (i := 1) (n := 1) (npc := 66) (loc' := [cr 6, ai_i (i + 1)]) rfl rfl (by omega) rfl ?_
            refine w_goto (pt := 7) rfl ?_
            exact ih7 (i + 1) Eq7 (by omega) hI7 hF7 (by omega)
          · replace hc14 : ¬ (z13 ≠ (0 : Int)) := hc14
            refine w_aload (i := 0) (npc := 44) (v := cr 6) rfl rfl rfl ?_
            refine w_getf (i := 6) (ci := 6) (k := 5) (npc := 47) rfl (hI7.pl (by decide)) (hI7.T (by decide) rfl) (by decide) (hI7.ref 6 5 (p := 12) (by decide) (by decide) rfl) ?_
            refine w_aload (i := 0) (npc := 48) (v := cr 6) rfl rfl rfl ?_
            refine w_getf (i := 6) (ci := 6) (k := 8) (npc := 51) rfl (hI7.pl (by decide)) (hI7.T (by decide) rfl) (by decide) hz7 ?_
            refine w_iload (i := 1) (npc := 52) rfl rfl ?_
            refine w_ast (i := 12) (k := 1) (n := 300) (npc := 53) rfl (hI7.pl (by decide)) (hI7.T (by decide) rfl) (by decide) (by omega) cm_af1 ?_
            have hI17 := hI7.puti (i := 12) (k := (z7 : Int).toNat) (z := i) (lo := 0) (hi := 299) (by decide) rfl (by omega)
            have hF19 := cm_fr.up (i := 12) (k := (z7 : Int).toNat) (v := ai_i i) hF7 (by first | omega | (simp; done) | (simp; omega) | (simp only; omega))
            generalize hE18 : cm_up Eq7 12 ((z7 : Int).toNat) (ai_i i) = E16 at hI17 hF19 ⊢
            have hz20 : E16 6 7 = ai_i z6 := by rw [← hE18, cm_up_nei _ _ (by decide)]; exact hz6
            have ghz20 := gv_eq hz20
            have hz21 : E16 6 8 = ai_i z7 := by rw [← hE18, cm_up_nei _ _ (by decide)]; exact hz7
            have ghz21 := gv_eq hz21
            have hz22 : E16 11 ((i : Int).toNat) = ai_i z9 := by rw [← hE18, cm_up_nei _ _ (by decide)]; exact hz9
            have ghz22 := gv_eq hz22
            have hz23 : E16 7 ((z9 : Int).toNat) = ai_i z10 := by rw [← hE18, cm_up_nei _ _ (by decide)]; exact hz10
            have ghz23 := gv_eq hz23
            have hz24 : E16 8 ((z9 : Int).toNat) = ai_i z13 := by rw [← hE18, cm_up_nei _ _ (by decide)]; exact hz13
            have ghz24 := gv_eq hz24
            have hz25 : E16 12 ((z7 : Int).toNat) = ai_i i := by rw [← hE18, cm_up_eq]
            have ghz25 := gv_eq hz25
            refine w_aload (i := 0) (npc := 54) (v := cr 6) rfl rfl rfl ?_
            refine w_dup (npc := 55) rfl rfl ?_
            refine w_getf (i := 6) (ci := 6) (k := 8) (npc := 58) rfl (hI17.pl (by decide)) (hI17.T (by decide) rfl) (by decide) hz21 ?_
            refine w_const (n := 1) (npc := 59) rfl ?_
            refine w_iadd (npc := 60) rfl (by omega) ?_
            refine w_putf (i := 6) (ci := 6) (k := 8) (t := 0) (npc := 63) rfl (hI17.pl (by decide)) (hI17.T (by decide) rfl) (by decide) cm_fit0 ?_
            have hI28 := hI17.puti (i := 6) (k := 8) (z := z7 + 1) (lo := 0) (hi := 300) (by decide) rfl (by omega)
            have hF30 := cm_fr.up (i := 6) (k := 8) (v := ai_i (z7 + 1)) hF19 (by first | omega | (simp; done) | (simp; omega) | (simp only; omega))
            generalize hE29 : cm_up E16 6 8 (ai_i (z7 + 1)) = E27 at hI28 hF30 ⊢
            have hz31 : E27 6 7 = ai_i z6 := by rw [← hE29, cm_up_ne _ _ (by decide)]; exact hz20
            have ghz31 := gv_eq hz31
            have hz32 : E27 11 ((i : Int).toNat) = ai_i z9 := by rw [← hE29, cm_up_nei _ _ (by decide)]; exact hz22
            have ghz32 := gv_eq hz32
            have hz33 : E27 7 ((z9 : Int).toNat) = ai_i z10 := by rw [← hE29, cm_up_nei _ _ (by decide)]; exact hz23
            have ghz33 := gv_eq hz33
            have hz34 : E27 8 ((z9 : Int).toNat) = ai_i z13 := by rw [← hE29, cm_up_nei _ _ (by decide)]; exact hz24
            have ghz34 := gv_eq hz34
            have hz35 : E27 12 ((z7 : Int).toNat) = ai_i i := by rw [← hE29, cm_up_nei _ _ (by decide)]; exact hz25
            have ghz35 := gv_eq hz35
            have hz36 : E27 6 8 = ai_i (z7 + 1) := by rw [← hE29, cm_up_eq]
            have ghz36 := gv_eq hz36
            refine w_iinc (i := 1) (n := 1) (npc := 66) (loc' := [cr 6, ai_i (i + 1)]) rfl rfl (by omega) rfl ?_
            refine w_goto (pt := 7) rfl ?_
            exact ih7 (i + 1) E27 (by omega) hI28 hF30 (by omega)
  exact loop7 _ (0) E1 (Nat.lt_succ_self _) hI2 hF4 (by omega)
set_option maxRecDepth 16384 in
theorem ct_vw_look {sl : Int × Int} {x : ai_E} {d : Nat} {T : cm_T} {E : cm_E} {nx : Nat} {b : Nat} (hb_b : 41 ≤ b ∧ b ≤ 77 ∧ b % 4 = 1) (hI : cs_I T E nx) : cm_ct (ai_ev sl (d + 6)) x 114 [cr 6, cr b] T E nx 0 0 (fun rk rv T' E' nx' => rk = 0 ∧ T = T' ∧ nx = nx' ∧ cs_I T E' nx ∧ cm_fr (fun i k => 6 ≤ i ∧ i ≤ 13) E E' ∧ (True)) := by
  refine cm_body (M := ai_m114) rfl rfl (fun kc ks => ?_)
  show cm_wp (ai_find ai_c114 sl) (ai_ev sl (d + 5)) x (kc + 0) (ks + 0) _ 0 [cr 6, cr b, ai_un, ai_un] [] T E nx kc ks
  have hF : cm_fr (fun i k => 6 ≤ i ∧ i ≤ 13) E E := fun _ _ _ => rfl
  refine w_const (n := 0) (npc := 1) rfl ?_
  refine w_istore (i := 2) (npc := 2) (loc' := [cr 6, cr b, ai_i 0, ai_un]) rfl rfl ?_
  have loop2 : ∀ (nf : Nat) (i : Int) (u2_3 : ai_V) (Eq2 : cm_E), ((300 - i).toNat) < nf → cs_I T Eq2 nx → cm_fr (fun i k => 6 ≤ i ∧ i ≤ 13) E Eq2 → (0 ≤ i ∧ i ≤ 300) → cm_wp (ai_find ai_c114 sl) (ai_ev sl (d + 5)) x (kc + 0) (ks + 0) (fun rk rv T' E' nx' => rk = 0 ∧ T = T' ∧ nx = nx' ∧ cs_I T E' nx ∧ cm_fr (fun i k => 6 ≤ i ∧ i ≤ 13) E E' ∧ (True)) 2 [cr 6, cr b, ai_i i, u2_3] [] T Eq2 nx kc ks := by
    intro nf
    induction nf with
    | zero => intro i u2_3 Eq2 hm; exact absurd hm (Nat.not_lt_zero _)
    | succ nf2 ih =>
      intro i u2_3 Eq2 hm2 hI2 hF2 hv2
      have ih2 := ih; clear ih
      refine w_iload (i := 2) (npc := 3) rfl rfl ?_
      refine w_const (n := 300) (npc := 6) rfl ?_
      refine w_icmp (c := .ge) (npc := 9) (pt := 74) rfl (fun hc1 => ?_) (fun hc1 => ?_)
      · replace hc1 : (300 : Int) ≤ i := hc1
        refine w_aload (i := 0) (npc := 75) (v := cr 6) rfl rfl rfl ?_
        refine w_aload (i := 1) (npc := 76) (v := cr b) rfl rfl rfl ?_
        refine w_virt (ci := 6) (i := 6) (npc := 79) (a := [cr 6, cr b]) (rest := []) rfl rfl (hI2.pl (by decide)) (hI2.T (by decide) rfl) rfl rfl rfl rfl (ct_vw_undoSteps (sl := sl) (x := x) (d := d + 1)  (b := b) hb_b hI2) (Or.inl rfl) (fun k9 v9 T3 E3 nx3 kc3 ks3 hq2 hk3 hv3 => ?_)
        obtain ⟨rfl, rfl, rfl, hI5, hG6, hz4⟩ := hq2
        obtain rfl : kc = kc3 := by omega
        obtain rfl : ks = ks3 := by omega
        have hF8 := cm_fr.trans hF2 hG6 (by intro i k h; (try simp only at h); (try simp only); omega)
        refine Or.inl ⟨rfl, ?_⟩
        refine w_aload (i := 0) (npc := 80) (v := cr 6) rfl rfl rfl ?_
        refine w_aload (i := 1) (npc := 81) (v := cr b) rfl rfl rfl ?_
        refine w_virt (ci := 6) (i := 6) (npc := 84) (a := [cr 6, cr b]) (rest := []) rfl rfl (hI5.pl (by decide)) (hI5.T (by decide) rfl) rfl rfl rfl rfl (ct_vw_applySteps (sl := sl) (x := x) (d := d + 0)  (b := b) hb_b hI5) (Or.inl rfl) (fun k9 v9 T10 E10 nx10 kc10 ks10 hq9 hk10 hv10 => ?_)
        obtain ⟨rfl, rfl, rfl, hI12, hG13, hz11⟩ := hq9
        obtain rfl : kc = kc10 := by omega
        obtain rfl : ks = ks10 := by omega
        have hF15 := cm_fr.trans hF8 hG13 (by intro i k h; (try simp only at h); (try simp only); omega)
        refine Or.inl ⟨rfl, ?_⟩
        refine w_aload (i := 0) (npc := 85) (v := cr 6) rfl rfl rfl ?_
        refine w_virt (ci := 6) (i := 6) (npc := 88) (a := [cr 6]) (rest := []) rfl rfl (hI12.pl (by decide)) (hI12.T (by decide) rfl) rfl rfl rfl rfl (ct_vw_makeRow (sl := sl) (x := x) (d := d + 1)  hI12) (Or.inl rfl) (fun k9 v9 T17 E17 nx17 kc17 ks17 hq16 hk17 hv17 => ?_)
        obtain ⟨rfl, rfl, rfl, hI19, hG20, hz18⟩ := hq16
        obtain rfl : kc = kc17 := by omega
        obtain rfl : ks = ks17 := by omega
        have hF22 := cm_fr.trans hF15 hG20 (by intro i k h; (try simp only at h); (try simp only); omega)
        refine Or.inl ⟨rfl, ?_⟩
        refine w_aload (i := 0) (npc := 89) (v := cr 6) rfl rfl rfl ?_
        refine w_virt (ci := 6) (i := 6) (npc := 92) (a := [cr 6]) (rest := []) rfl rfl (hI19.pl (by decide)) (hI19.T (by decide) rfl) rfl rfl rfl rfl (ct_vw_makeText (sl := sl) (x := x) (d := d + 4)  hI19) (Or.inl rfl) (fun k9 v9 T24 E24 nx24 kc24 ks24 hq23 hk24 hv24 => ?_)
        obtain ⟨rfl, rfl, rfl, hI26, hG27, hz25⟩ := hq23
        obtain rfl : kc = kc24 := by omega
        obtain rfl : ks = ks24 := by omega
        have hF29 := cm_fr.trans hF22 hG27 (by intro i k h; (try simp only at h); (try simp only); omega)
        refine Or.inl ⟨rfl, ?_⟩
        exact w_vret rfl (⟨rfl, rfl, rfl, hI26, hF29, trivial⟩) (by omega) (by omega)
      · replace hc1 : ¬ ((300 : Int) ≤ i) := hc1
        refine w_aload (i := 1) (npc := 10) (v := cr b) rfl rfl rfl ?_
        refine w_getf (i := b) (ci := 3) (k := 1) (npc := 13) rfl (hI2.pl (by omega)) (hI2.pgT0 hb_b) (by decide) (hI2.pg1 hb_b) ?_
        refine w_iload (i := 2) (npc := 14) rfl rfl ?_
        have hlt9 : (i : Int).toNat < 300 := by omega
        rcases hI2.pgs hb_b (i : Int).toNat hlt9 with hx32 | ⟨q30, hx32, hs31⟩
        · clear hlt9
          refine w_ald (i := b + 1) (t := 5) (n := 300) (npc := 15) rfl (hI2.pl (by omega)) (hI2.pgT1 hb_b) (by decide) rfl (by omega) hx32 ?_
          refine w_astore (i := 3) (npc := 16) (loc' := [cr 6, cr b, ai_i i, ai_nul]) rfl rfl rfl ?_
          refine w_aload (i := 0) (npc := 17) (v := cr 6) rfl rfl rfl ?_
          refine w_getf (i := 6) (ci := 6) (k := 0) (npc := 20) rfl (hI2.pl (by decide)) (hI2.T (by decide) rfl) (by decide) (hI2.ref 6 0 (p := 7) (by decide) (by decide) rfl) ?_
          refine w_iload (i := 2) (npc := 21) rfl rfl ?_
          refine w_aload (i := 3) (npc := 22) (v := ai_nul) rfl rfl rfl ?_
          refine w_isnullN (pt := 29) (npc := 25) rfl ?_
          refine w_const (n := 0) (npc := 30) rfl ?_
          refine w_ast (i := 7) (k := 2) (n := 300) (npc := 31) rfl (hI2.pl (by decide)) (hI2.T (by decide) rfl) (by decide) (by omega) (cm_af2 (by omega)) ?_
          have hI34 := hI2.puti (i := 7) (k := (i : Int).toNat) (z := 0) (lo := 0) (hi := 1) (by decide) rfl (by omega)
          have hF36 := cm_fr.up (i := 7) (k := (i : Int).toNat) (v := ai_i 0) hF2 (by first | omega | (simp; done) | (simp; omega) | (simp only; omega))
          generalize hE35 : cm_up Eq2 7 ((i : Int).toNat) (ai_i 0) = E33 at hI34 hF36 ⊢
          have hz37 : E33 (b + 1) ((i : Int).toNat) = ai_nul := by rw [← hE35, cm_up_nei _ _ (by omega)]; exact hx32
          have hz38 : E33 7 ((i : Int).toNat) = ai_i 0 := by rw [← hE35, cm_up_eq]
          have ghz38 := gv_eq hz38
          refine w_aload (i := 0) (npc := 32) (v := cr 6) rfl rfl rfl ?_
          refine w_getf (i := 6) (ci := 6) (k := 1) (npc := 35) rfl (hI34.pl (by decide)) (hI34.T (by decide) rfl) (by decide) (hI34.ref 6 1 (p := 8) (by decide) (by decide) rfl) ?_
          refine w_iload (i := 2) (npc := 36) rfl rfl ?_
          refine w_const (n := 0) (npc := 37) rfl ?_
          refine w_ast (i := 8) (k := 2) (n := 300) (npc := 38) rfl (hI34.pl (by decide)) (hI34.T (by decide) rfl) (by decide) (by omega) (cm_af2 (by omega)) ?_
          have hI40 := hI34.puti (i := 8) (k := (i : Int).toNat) (z := 0) (lo := 0) (hi := 1) (by decide) rfl (by omega)
          have hF42 := cm_fr.up (i := 8) (k := (i : Int).toNat) (v := ai_i 0) hF36 (by first | omega | (simp; done) | (simp; omega) | (simp only; omega))
          generalize hE41 : cm_up E33 8 ((i : Int).toNat) (ai_i 0) = E39 at hI40 hF42 ⊢
          have hz43 : E39 (b + 1) ((i : Int).toNat) = ai_nul := by rw [← hE41, cm_up_nei _ _ (by omega)]; exact hz37
          have hz44 : E39 7 ((i : Int).toNat) = ai_i 0 := by rw [← hE41, cm_up_nei _ _ (by decide)]; exact hz38
          have ghz44 := gv_eq hz44
          have hz45 : E39 8 ((i : Int).toNat) = ai_i 0 := by rw [← hE41, cm_up_eq]
          have ghz45 := gv_eq hz45
          refine w_aload (i := 0) (npc := 39) (v := cr 6) rfl rfl rfl ?_
          refine w_getf (i := 6) (ci := 6) (k := 2) (npc := 42) rfl (hI40.pl (by decide)) (hI40.T (by decide) rfl) (by decide) (hI40.ref 6 2 (p := 9) (by decide) (by decide) rfl) ?_
          refine w_iload (i := 2) (npc := 43) rfl rfl ?_
          refine w_aload (i := 3) (npc := 44) (v := ai_nul) rfl rfl rfl ?_
          refine w_isnullN (pt := 58) (npc := 47) rfl ?_
          refine w_null (npc := 59) rfl ?_
          refine w_aast (i := 9) (k := 5) (n := 300) (npc := 60) rfl (hI40.pl (by decide)) (hI40.T (by decide) rfl) (Or.inr rfl) (by omega) (Or.inl rfl) ?_
          have hI47 := hI40.putn (i := 9) (k := (i : Int).toNat) (by decide) rfl
          have hF49 := cm_fr.up (i := 9) (k := (i : Int).toNat) (v := ai_nul) hF42 (by first | omega | (simp; done) | (simp; omega) | (simp only; omega))
          generalize hE48 : cm_up E39 9 ((i : Int).toNat) (ai_nul) = E46 at hI47 hF49 ⊢
          have hz50 : E46 (b + 1) ((i : Int).toNat) = ai_nul := by rw [← hE48, cm_up_nei _ _ (by omega)]; exact hz43
          have hz51 : E46 7 ((i : Int).toNat) = ai_i 0 := by rw [← hE48, cm_up_nei _ _ (by decide)]; exact hz44
          have ghz51 := gv_eq hz51
          have hz52 : E46 8 ((i : Int).toNat) = ai_i 0 := by rw [← hE48, cm_up_nei _ _ (by decide)]; exact hz45
          have ghz52 := gv_eq hz52
          refine w_aload (i := 0) (npc := 61) (v := cr 6) rfl rfl rfl ?_
          refine w_getf (i := 6) (ci := 6) (k := 3) (npc := 64) rfl (hI47.pl (by decide)) (hI47.T (by decide) rfl) (by decide) (hI47.ref 6 3 (p := 10) (by decide) (by decide) rfl) ?_
          refine w_iload (i := 2) (npc := 65) rfl rfl ?_
          refine w_const (n := 11) (npc := 67) rfl ?_
          refine w_ast (i := 10) (k := 1) (n := 300) (npc := 68) rfl (hI47.pl (by decide)) (hI47.T (by decide) rfl) (by decide) (by omega) cm_af1 ?_
          have hI54 := hI47.puti (i := 10) (k := (i : Int).toNat) (z := 11) (lo := 0) (hi := 140000) (by decide) rfl (by omega)
          have hF56 := cm_fr.up (i := 10) (k := (i : Int).toNat) (v := ai_i 11) hF49 (by first | omega | (simp; done) | (simp; omega) | (simp only; omega))
          generalize hE55 : cm_up E46 10 ((i : Int).toNat) (ai_i 11) = E53 at hI54 hF56 ⊢
          have hz57 : E53 (b + 1) ((i : Int).toNat) = ai_nul := by rw [← hE55, cm_up_nei _ _ (by omega)]; exact hz50
          have hz58 : E53 7 ((i : Int).toNat) = ai_i 0 := by rw [← hE55, cm_up_nei _ _ (by decide)]; exact hz51
          have ghz58 := gv_eq hz58
          have hz59 : E53 8 ((i : Int).toNat) = ai_i 0 := by rw [← hE55, cm_up_nei _ _ (by decide)]; exact hz52
          have ghz59 := gv_eq hz59
          have hz60 : E53 10 ((i : Int).toNat) = ai_i 11 := by rw [← hE55, cm_up_eq]
          have ghz60 := gv_eq hz60
          refine w_iinc (i := 2) (n := 1) (npc := 71) (loc' := [cr 6, cr b, ai_i (i + 1), ai_nul]) rfl rfl (by omega) rfl ?_
          refine w_goto (pt := 2) rfl ?_
          exact ih2 (i + 1) (ai_nul) E53 (by omega) hI54 hF56 (by omega)
        clear hlt9
        refine w_ald (i := b + 1) (t := 5) (n := 300) (npc := 15) rfl (hI2.pl (by omega)) (hI2.pgT1 hb_b) (by decide) rfl (by omega) hx32 ?_
        refine w_astore (i := 3) (npc := 16) (loc' := [cr 6, cr b, ai_i i, cr q30]) rfl rfl rfl ?_
        refine w_aload (i := 0) (npc := 17) (v := cr 6) rfl rfl rfl ?_
        refine w_getf (i := 6) (ci := 6) (k := 0) (npc := 20) rfl (hI2.pl (by decide)) (hI2.T (by decide) rfl) (by decide) (hI2.ref 6 0 (p := 7) (by decide) (by decide) rfl) ?_
        refine w_iload (i := 2) (npc := 21) rfl rfl ?_
        refine w_aload (i := 3) (npc := 22) (v := cr q30) rfl rfl rfl ?_
        refine w_isnullR (pt := 29) (npc := 25) rfl ?_
        refine w_const (n := 1) (npc := 26) rfl ?_
        refine w_goto (pt := 30) rfl ?_
        refine w_ast (i := 7) (k := 2) (n := 300) (npc := 31) rfl (hI2.pl (by decide)) (hI2.T (by decide) rfl) (by decide) (by omega) (cm_af2 (by omega)) ?_
        have hI63 := hI2.puti (i := 7) (k := (i : Int).toNat) (z := 1) (lo := 0) (hi := 1) (by decide) rfl (by omega)
        have hF65 := cm_fr.up (i := 7) (k := (i : Int).toNat) (v := ai_i 1) hF2 (by first | omega | (simp; done) | (simp; omega) | (simp only; omega))
        have hs66 := hs31.up (i := 7) (k := (i : Int).toNat) (v := ai_i 1) (by decide)
        generalize hE64 : cm_up Eq2 7 ((i : Int).toNat) (ai_i 1) = E62 at hI63 hF65 hs66 ⊢
        have hz67 : E62 (b + 1) ((i : Int).toNat) = cr q30 := by rw [← hE64, cm_up_nei _ _ (by omega)]; exact hx32
        have hz68 : E62 7 ((i : Int).toNat) = ai_i 1 := by rw [← hE64, cm_up_eq]
        have ghz68 := gv_eq hz68
        refine w_aload (i := 0) (npc := 32) (v := cr 6) rfl rfl rfl ?_
        refine w_getf (i := 6) (ci := 6) (k := 1) (npc := 35) rfl (hI63.pl (by decide)) (hI63.T (by decide) rfl) (by decide) (hI63.ref 6 1 (p := 8) (by decide) (by decide) rfl) ?_
        refine w_iload (i := 2) (npc := 36) rfl rfl ?_
        refine w_const (n := 0) (npc := 37) rfl ?_
        refine w_ast (i := 8) (k := 2) (n := 300) (npc := 38) rfl (hI63.pl (by decide)) (hI63.T (by decide) rfl) (by decide) (by omega) (cm_af2 (by omega)) ?_
        have hI70 := hI63.puti (i := 8) (k := (i : Int).toNat) (z := 0) (lo := 0) (hi := 1) (by decide) rfl (by omega)
        have hF72 := cm_fr.up (i := 8) (k := (i : Int).toNat) (v := ai_i 0) hF65 (by first | omega | (simp; done) | (simp; omega) | (simp only; omega))
        have hs73 := hs66.up (i := 8) (k := (i : Int).toNat) (v := ai_i 0) (by decide)
        generalize hE71 : cm_up E62 8 ((i : Int).toNat) (ai_i 0) = E69 at hI70 hF72 hs73 ⊢
        have hz74 : E69 (b + 1) ((i : Int).toNat) = cr q30 := by rw [← hE71, cm_up_nei _ _ (by omega)]; exact hz67
        have hz75 : E69 7 ((i : Int).toNat) = ai_i 1 := by rw [← hE71, cm_up_nei _ _ (by decide)]; exact hz68
        have ghz75 := gv_eq hz75
        have hz76 : E69 8 ((i : Int).toNat) = ai_i 0 := by rw [← hE71, cm_up_eq]
        have ghz76 := gv_eq hz76
        refine w_aload (i := 0) (npc := 39) (v := cr 6) rfl rfl rfl ?_
        refine w_getf (i := 6) (ci := 6) (k := 2) (npc := 42) rfl (hI70.pl (by decide)) (hI70.T (by decide) rfl) (by decide) (hI70.ref 6 2 (p := 9) (by decide) (by decide) rfl) ?_
        refine w_iload (i := 2) (npc := 43) rfl rfl ?_
        refine w_aload (i := 3) (npc := 44) (v := cr q30) rfl rfl rfl ?_
        refine w_isnullR (pt := 58) (npc := 47) rfl ?_
        refine w_aload (i := 3) (npc := 48) (v := cr q30) rfl rfl rfl ?_
        refine w_virt (ci := 4) (i := q30) (npc := 51) (a := [cr q30]) (rest := [ai_i i, cr 9]) rfl rfl hs73.lt hs73.T0 rfl rfl rfl rfl (ct_sp_kind (sl := sl) (x := x) (d := d + 3)  hs73) (Or.inl rfl) (fun k9 v9 T78 E78 nx78 kc78 ks78 hq77 hk78 hv78 => ?_)
        obtain ⟨rfl, rfl, rfl, rfl, z79, rfl, hz79⟩ := hq77
        obtain rfl : kc = kc78 := by omega
        obtain rfl : ks = ks78 := by omega
        refine Or.inr (Or.inl ⟨rfl, ?_⟩)
        refine w_if (c := .ne) (npc := 54) (pt := 58) rfl (fun hc83 => ?_) (fun hc83 => ?_)
        · replace hc83 : z79 ≠ (0 : Int) := hc83
          refine w_null (npc := 59) rfl ?_
          refine w_aast (i := 9) (k := 5) (n := 300) (npc := 60) rfl (hI70.pl (by decide)) (hI70.T (by decide) rfl) (Or.inr rfl) (by omega) (Or.inl rfl) ?_
          have hI85 := hI70.putn (i := 9) (k := (i : Int).toNat) (by decide) rfl
          have hF87 := cm_fr.up (i := 9) (k := (i : Int).toNat) (v := ai_nul) hF72 (by first | omega | (simp; done) | (simp; omega) | (simp only; omega))
          have hs88 := hs73.up (i := 9) (k := (i : Int).toNat) (v := ai_nul) (by decide)
          generalize hE86 : cm_up E69 9 ((i : Int).toNat) (ai_nul) = E84 at hI85 hF87 hs88 ⊢
          have hz89 : E84 (b + 1) ((i : Int).toNat) = cr q30 := by rw [← hE86, cm_up_nei _ _ (by omega)]; exact hz74
          have hz90 : E84 7 ((i : Int).toNat) = ai_i 1 := by rw [← hE86, cm_up_nei _ _ (by decide)]; exact hz75
          have ghz90 := gv_eq hz90
          have hz91 : E84 8 ((i : Int).toNat) = ai_i 0 := by rw [← hE86, cm_up_nei _ _ (by decide)]; exact hz76
          have ghz91 := gv_eq hz91
          refine w_aload (i := 0) (npc := 61) (v := cr 6) rfl rfl rfl ?_
          refine w_getf (i := 6) (ci := 6) (k := 3) (npc := 64) rfl (hI85.pl (by decide)) (hI85.T (by decide) rfl) (by decide) (hI85.ref 6 3 (p := 10) (by decide) (by decide) rfl) ?_
          refine w_iload (i := 2) (npc := 65) rfl rfl ?_
          refine w_const (n := 11) (npc := 67) rfl ?_
          refine w_ast (i := 10) (k := 1) (n := 300) (npc := 68) rfl (hI85.pl (by decide)) (hI85.T (by decide) rfl) (by decide) (by omega) cm_af1 ?_
          have hI93 := hI85.puti (i := 10) (k := (i : Int).toNat) (z := 11) (lo := 0) (hi := 140000) (by decide) rfl (by omega)
          have hF95 := cm_fr.up (i := 10) (k := (i : Int).toNat) (v := ai_i 11) hF87 (by first | omega | (simp; done) | (simp; omega) | (simp only; omega))
          have hs96 := hs88.up (i := 10) (k := (i : Int).toNat) (v := ai_i 11) (by decide)
          generalize hE94 : cm_up E84 10 ((i : Int).toNat) (ai_i 11) = E92 at hI93 hF95 hs96 ⊢
          have hz97 : E92 (b + 1) ((i : Int).toNat) = cr q30 := by rw [← hE94, cm_up_nei _ _ (by omega)]; exact hz89
          have hz98 : E92 7 ((i : Int).toNat) = ai_i 1 := by rw [← hE94, cm_up_nei _ _ (by decide)]; exact hz90
          have ghz98 := gv_eq hz98
          have hz99 : E92 8 ((i : Int).toNat) = ai_i 0 := by rw [← hE94, cm_up_nei _ _ (by decide)]; exact hz91
          have ghz99 := gv_eq hz99
          have hz100 : E92 10 ((i : Int).toNat) = ai_i 11 := by rw [← hE94, cm_up_eq]
          have ghz100 := gv_eq hz100
          refine w_iinc (i := 2) (n := 1) (npc := 71) (loc' := [cr 6, cr b, ai_i (i + 1), cr q30]) rfl rfl (by omega) rfl ?_
          refine w_goto (pt := 2) rfl ?_
          exact ih2 (i + 1) (cr q30) E92 (by omega) hI93 hF95 (by omega)
        · replace hc83 : ¬ (z79 ≠ (0 : Int)) := hc83
          refine w_aload (i := 3) (npc := 55) (v := cr q30) rfl rfl rfl ?_
          refine w_goto (pt := 59) rfl ?_
          refine w_aast (i := 9) (k := 5) (n := 300) (npc := 60) rfl (hI70.pl (by decide)) (hI70.T (by decide) rfl) (Or.inr rfl) (by omega) (Or.inr ⟨q30, rfl, hs73.lt, hs73.T0⟩) ?_
          have hI103 := hI70.puts (i := 9) (k := (i : Int).toNat) (by decide) rfl hs73
          have hF105 := cm_fr.up (i := 9) (k := (i : Int).toNat) (v := cr q30) hF72 (by first | omega | (simp; done) | (simp; omega) | (simp only; omega))
          have hs106 := hs73.up (i := 9) (k := (i : Int).toNat) (v := cr q30) (by decide)
          generalize hE104 : cm_up E69 9 ((i : Int).toNat) (cr q30) = E102 at hI103 hF105 hs106 ⊢
          have hz107 : E102 (b + 1) ((i : Int).toNat) = cr q30 := by rw [← hE104, cm_up_nei _ _ (by omega)]; exact hz74
          have hz108 : E102 7 ((i : Int).toNat) = ai_i 1 := by rw [← hE104, cm_up_nei _ _ (by decide)]; exact hz75
          have ghz108 := gv_eq hz108
          have hz109 : E102 8 ((i : Int).toNat) = ai_i 0 := by rw [← hE104, cm_up_nei _ _ (by decide)]; exact hz76
          have ghz109 := gv_eq hz109
          have hz110 : E102 9 ((i : Int).toNat) = cr q30 := by rw [← hE104, cm_up_eq]
          refine w_aload (i := 0) (npc := 61) (v := cr 6) rfl rfl rfl ?_
          refine w_getf (i := 6) (ci := 6) (k := 3) (npc := 64) rfl (hI103.pl (by decide)) (hI103.T (by decide) rfl) (by decide) (hI103.ref 6 3 (p := 10) (by decide) (by decide) rfl) ?_
          refine w_iload (i := 2) (npc := 65) rfl rfl ?_
          refine w_const (n := 11) (npc := 67) rfl ?_
          refine w_ast (i := 10) (k := 1) (n := 300) (npc := 68) rfl (hI103.pl (by decide)) (hI103.T (by decide) rfl) (by decide) (by omega) cm_af1 ?_
          have hI112 := hI103.puti (i := 10) (k := (i : Int).toNat) (z := 11) (lo := 0) (hi := 140000) (by decide) rfl (by omega)
          have hF114 := cm_fr.up (i := 10) (k := (i : Int).toNat) (v := ai_i 11) hF105 (by first | omega | (simp; done) | (simp; omega) | (simp only; omega))
          have hs115 := hs106.up (i := 10) (k := (i : Int).toNat) (v := ai_i 11) (by decide)
          generalize hE113 : cm_up E102 10 ((i : Int).toNat) (ai_i 11) = E111 at hI112 hF114 hs115 ⊢
          have hz116 : E111 (b + 1) ((i : Int).toNat) = cr q30 := by rw [← hE113, cm_up_nei _ _ (by omega)]; exact hz107
          have hz117 : E111 7 ((i : Int).toNat) = ai_i 1 := by rw [← hE113, cm_up_nei _ _ (by decide)]; exact hz108
          have ghz117 := gv_eq hz117
          have hz118 : E111 8 ((i : Int).toNat) = ai_i 0 := by rw [← hE113, cm_up_nei _ _ (by decide)]; exact hz109
          have ghz118 := gv_eq hz118
          have hz119 : E111 9 ((i : Int).toNat) = cr q30 := by rw [← hE113, cm_up_nei _ _ (by decide)]; exact hz110
          have hz120 : E111 10 ((i : Int).toNat) = ai_i 11 := by rw [← hE113, cm_up_eq]
          have ghz120 := gv_eq hz120
          refine w_iinc (i := 2) (n := 1) (npc := 71) (loc' := [cr 6, cr b, ai_i (i + 1), cr q30]) rfl rfl (by omega) rfl ?_
          refine w_goto (pt := 2) rfl ?_
          exact ih2 (i + 1) (cr q30) E111 (by omega) hI112 hF114 (by omega)
  exact loop2 _ (0) (ai_un) E (Nat.lt_succ_self _) hI hF (by omega)
