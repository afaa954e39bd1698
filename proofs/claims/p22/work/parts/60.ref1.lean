set_option maxRecDepth 16384 in
theorem ct_m_isIn {sl : Int × Int} {x : ai_E} {d : Nat} {T : cm_T} {E : cm_E} {nx : Nat} (v a b : Int) : cm_ct (ai_ev sl (d + 1)) x 171 [ai_i v, ai_i a, ai_i b] T E nx 0 0 (fun rk rv T' E' nx' => rk = 1 ∧ T = T' ∧ E = E' ∧ nx = nx' ∧ ∃ z : Int, rv = ai_i z ∧ ((z = 1 ∧ a ≤ v ∧ v ≤ b) ∨ (z = 0 ∧ ¬ (a ≤ v ∧ v ≤ b)))) := by
  refine cm_body (M := ai_m171) rfl rfl (fun kc ks => ?_)
  show cm_wp (ai_find ai_c171 sl) (ai_ev sl (d + 0)) x (kc + 0) (ks + 0) _ 0 [ai_i v, ai_i a, ai_i b] [] T E nx kc ks
  refine w_iload (i := 0) (npc := 1) rfl rfl ?_
  refine w_iload (i := 1) (npc := 2) rfl rfl ?_
  refine w_icmp (c := .lt) (npc := 5) (pt := 14) rfl (fun hc1 => ?_) (fun hc1 => ?_)
  · replace hc1 : v < a := hc1
    refine w_const (n := 0) (npc := 15) rfl ?_
    exact w_zret rfl (by omega) (⟨rfl, rfl, rfl, rfl, 0, rfl, by omega⟩) (by omega) (by omega)
  · replace hc1 : ¬ (v < a) := hc1
    refine w_iload (i := 0) (npc := 6) rfl rfl ?_
    refine w_iload (i := 2) (npc := 7) rfl rfl ?_
    refine w_icmp (c := .gt) (npc := 10) (pt := 14) rfl (fun hc2 => ?_) (fun hc2 => ?_)
    · replace hc2 : b < v := hc2
      refine w_const (n := 0) (npc := 15) rfl ?_
      exact w_zret rfl (by omega) (⟨rfl, rfl, rfl, rfl, 0, rfl, by omega⟩) (by omega) (by omega)
    · replace hc2 : ¬ (b < v) := hc2
      refine w_const (n := 1) (npc := 11) rfl ?_
      refine w_goto (pt := 15) rfl ?_
      exact w_zret rfl (by omega) (⟨rfl, rfl, rfl, rfl, 1, rfl, by omega⟩) (by omega) (by omega)
set_option maxRecDepth 16384 in
theorem ct_m_isWriter {sl : Int × Int} {x : ai_E} {d : Nat} {T : cm_T} {E : cm_E} {nx : Nat} (w : Int) (hI : cs_I T E nx) : cm_ct (ai_ev sl (d + 2)) x 173 [cr 81, ai_i w] T E nx 0 0 (fun rk rv T' E' nx' => rk = 1 ∧ T = T' ∧ E = E' ∧ nx = nx' ∧ ∃ z : Int, rv = ai_i z ∧ (1 ≤ gv E 81 1 ∧ gv E 81 1 ≤ 5 ∧ ((z = 1 ∧ 0 ≤ w ∧ w < gv E 81 1) ∨ (z = 0 ∧ ¬ (0 ≤ w ∧ w < gv E 81 1))))) := by
  refine cm_body (M := ai_m173) rfl rfl (fun kc ks => ?_)
  show cm_wp (ai_find ai_c173 sl) (ai_ev sl (d + 1)) x (kc + 0) (ks + 0) _ 0 [cr 81, ai_i w] [] T E nx kc ks
  refine w_iload (i := 1) (npc := 1) rfl rfl ?_
  refine w_const (n := 0) (npc := 2) rfl ?_
  refine w_aload (i := 0) (npc := 3) rfl rfl rfl ?_
  obtain ⟨z1, hz1, hz1a, hz1b⟩ := hI.int 81 1 (lo := 1) (hi := 5) (by decide) (by decide) rfl
  have ghz1 := gv_eq hz1
  refine w_getf (i := 81) (ci := 8) (k := 1) (npc := 6) rfl (hI.pl (by decide)) (hI.T (by decide) rfl) (by decide) hz1 ?_
  refine w_const (n := 1) (npc := 7) rfl ?_
  refine w_isub (npc := 8) rfl (by omega) ?_
  refine w_call (npc := 11) (a := [ai_i w, ai_i 0, ai_i (z1 - 1)]) (rest := []) rfl rfl rfl rfl rfl (ct_m_isIn (sl := sl) (x := x) (d := d + 0) (w) (0) (z1 - 1)) (Or.inr (fun _ _ _ _ _ hq => by have h1 := hq.1; omega)) (fun k9 v9 T9 E4 nx9 kc9 ks9 hq3 hk9 hs9 => ?_)
  obtain ⟨rfl, rfl, rfl, rfl, z5, rfl, hz5⟩ := hq3
  obtain rfl : kc = kc9 := by omega
  obtain rfl : ks = ks9 := by omega
  refine Or.inr (Or.inl ⟨rfl, ?_⟩)
  exact w_zret rfl (by omega) (⟨rfl, rfl, rfl, rfl, z5, rfl, by omega⟩) (by omega) (by omega)
set_option maxRecDepth 16384 in
theorem ct_m_rowOf {sl : Int × Int} {x : ai_E} {d : Nat} {T : cm_T} {E : cm_E} {nx : Nat} (p w n : Int) (hp0 : 0 ≤ p ∧ p ≤ 4) (hp1 : 0 ≤ w ∧ w ≤ 4) (hp2 : 0 ≤ n ∧ n ≤ 100) : cm_ct (ai_ev sl (d + 1)) x 205 [ai_i p, ai_i w, ai_i n] T E nx 0 0 (fun rk rv T' E' nx' => rk = 1 ∧ T = T' ∧ E = E' ∧ nx = nx' ∧ ∃ z : Int, rv = ai_i z ∧ (z = (5 * p + w) * 60 + n - 1)) := by
  refine cm_body (M := ai_m205) rfl rfl (fun kc ks => ?_)
  show cm_wp (ai_find ai_c205 sl) (ai_ev sl (d + 0)) x (kc + 0) (ks + 0) _ 0 [ai_i p, ai_i w, ai_i n] [] T E nx kc ks
  refine w_const (n := 5) (npc := 1) rfl ?_
  refine w_iload (i := 0) (npc := 2) rfl rfl ?_
  refine w_imul (npc := 3) rfl (by omega) ?_
  refine w_iload (i := 1) (npc := 4) rfl rfl ?_
  refine w_iadd (npc := 5) rfl (by omega) ?_
  refine w_const (n := 60) (npc := 7) rfl ?_
  refine w_imul (npc := 8) rfl (by omega) ?_
  refine w_iload (i := 2) (npc := 9) rfl rfl ?_
  refine w_iadd (npc := 10) rfl (by omega) ?_
  refine w_const (n := 1) (npc := 11) rfl ?_
  refine w_isub (npc := 12) rfl (by omega) ?_
  exact w_iret rfl (⟨rfl, rfl, rfl, rfl, (5 * p + w) * 60 + n - 1, rfl, by omega⟩) (by omega) (by omega)
set_option maxRecDepth 16384 in
theorem ct_m_markOf {sl : Int × Int} {x : ai_E} {d : Nat} {T : cm_T} {E : cm_E} {nx : Nat} (w n : Int) (hp0 : 0 ≤ w ∧ w ≤ 4) (hp1 : 0 ≤ n ∧ n ≤ 70000) : cm_ct (ai_ev sl (d + 1)) x 184 [ai_i w, ai_i n] T E nx 0 0 (fun rk rv T' E' nx' => rk = 1 ∧ T = T' ∧ E = E' ∧ nx = nx' ∧ ∃ z : Int, rv = ai_i z ∧ (z = 60 * w + n - 1)) := by
  refine cm_body (M := ai_m184) rfl rfl (fun kc ks => ?_)
  show cm_wp (ai_find ai_c184 sl) (ai_ev sl (d + 0)) x (kc + 0) (ks + 0) _ 0 [ai_i w, ai_i n] [] T E nx kc ks
  refine w_const (n := 60) (npc := 2) rfl ?_
  refine w_iload (i := 0) (npc := 3) rfl rfl ?_
  refine w_imul (npc := 4) rfl (by omega) ?_
  refine w_iload (i := 1) (npc := 5) rfl rfl ?_
  refine w_iadd (npc := 6) rfl (by omega) ?_
  refine w_const (n := 1) (npc := 7) rfl ?_
  refine w_isub (npc := 8) rfl (by omega) ?_
  exact w_iret rfl (⟨rfl, rfl, rfl, rfl, 60 * w + n - 1, rfl, by omega⟩) (by omega) (by omega)
set_option maxRecDepth 16384 in
theorem ct_m_nameOf {sl : Int × Int} {x : ai_E} {d : Nat} {T : cm_T} {E : cm_E} {nx : Nat} (a : Int) (hp0 : 0 ≤ a ∧ a ≤ 299) : cm_ct (ai_ev sl (d + 1)) x 187 [ai_i a] T E nx 0 0 (fun rk rv T' E' nx' => rk = 1 ∧ T = T' ∧ E = E' ∧ nx = nx' ∧ ∃ z : Int, rv = ai_i z ∧ (z = 100 * (a / 60) + a % 60 + 1)) := by
  refine cm_body (M := ai_m187) rfl rfl (fun kc ks => ?_)
  show cm_wp (ai_find ai_c187 sl) (ai_ev sl (d + 0)) x (kc + 0) (ks + 0) _ 0 [ai_i a] [] T E nx kc ks
  refine w_const (n := 100) (npc := 2) rfl ?_
  refine w_iload (i := 0) (npc := 3) rfl rfl ?_
  refine w_const (n := 60) (npc := 5) rfl ?_
  refine w_idiv (npc := 6) rfl (by omega) (by omega) (fun z1 hz1 hz1b hz1c => ?_)
  refine w_imul (npc := 7) rfl (by omega) ?_
  refine w_iload (i := 0) (npc := 8) rfl rfl ?_
  refine w_const (n := 60) (npc := 10) rfl ?_
  refine w_irem (npc := 11) rfl (by omega) (by omega) (fun z3 hz3 hz3b => ?_)
  refine w_iadd (npc := 12) rfl (by omega) ?_
  refine w_const (n := 1) (npc := 13) rfl ?_
  refine w_iadd (npc := 14) rfl (by omega) ?_
  exact w_iret rfl (⟨rfl, rfl, rfl, rfl, 100 * z1 + z3 + 1, rfl, by omega⟩) (by omega) (by omega)
set_option maxRecDepth 16384 in
theorem ct_m_of {sl : Int × Int} {x : ai_E} {d : Nat} {T : cm_T} {E : cm_E} {nx : Nat} (r w : Int) (hI : cs_I T E nx) (hp0 : 0 ≤ 166 * r + w ∧ 166 * r + w < 531366) (hp1 : 0 ≤ r ∧ r ≤ 3200) (hp2 : 0 ≤ w ∧ w ≤ 200000) : cm_ct (ai_ev sl (d + 1)) x 190 [cr 81, ai_i r, ai_i w] T E nx 0 0 (fun rk rv T' E' nx' => rk = 1 ∧ T = T' ∧ E = E' ∧ nx = nx' ∧ ∃ z : Int, rv = ai_i z ∧ (z = gv E 82 (166 * r + w).toNat ∧ 0 ≤ z ∧ z ≤ 65540)) := by
  refine cm_body (M := ai_m190) rfl rfl (fun kc ks => ?_)
  show cm_wp (ai_find ai_c190 sl) (ai_ev sl (d + 0)) x (kc + 0) (ks + 0) _ 0 [cr 81, ai_i r, ai_i w] [] T E nx kc ks
  refine w_aload (i := 0) (npc := 1) rfl rfl rfl ?_
  refine w_getf (i := 81) (ci := 8) (k := 2) (npc := 4) rfl (hI.pl (by decide)) (hI.T (by decide) rfl) (by decide) (hI.ref 81 2 (p := 82) (by decide) (by decide) rfl) ?_
  refine w_const (n := 166) (npc := 7) rfl ?_
  refine w_iload (i := 1) (npc := 8) rfl rfl ?_
  refine w_imul (npc := 9) rfl (by omega) ?_
  refine w_iload (i := 2) (npc := 10) rfl rfl ?_
  refine w_iadd (npc := 11) rfl (by omega) ?_
  obtain ⟨z3, hz3, hz3a, hz3b⟩ := hI.int 82 (166 * r + w : Int).toNat (lo := 0) (hi := 65540) (by decide) (show (166 * r + w : Int).toNat < 531366 by omega) rfl
  have ghz3 := gv_eq hz3
  refine w_ald (i := 82) (t := 1) (n := 531366) (npc := 12) rfl (hI.pl (by decide)) (hI.T (by decide) rfl) (by decide) rfl (by omega) hz3 ?_
  exact w_iret rfl (⟨rfl, rfl, rfl, rfl, z3, rfl, by omega⟩) (by omega) (by omega)
set_option maxRecDepth 16384 in
theorem ct_m_hasStep {sl : Int × Int} {x : ai_E} {d : Nat} {T : cm_T} {E : cm_E} {nx : Nat} (p w n : Int) (hI : cs_I T E nx) (hp0 : 0 ≤ p ∧ p ≤ 4) : cm_ct (ai_ev sl (d + 3)) x 163 [cr 81, ai_i p, ai_i w, ai_i n] T E nx 0 0 (fun rk rv T' E' nx' => rk = 1 ∧ T = T' ∧ E = E' ∧ nx = nx' ∧ ∃ z : Int, rv = ai_i z ∧ ((z = 1 ∧ 0 ≤ w ∧ w < gv E 81 1 ∧ 1 ≤ n ∧ n ≤ gv E 83 (5 * p + w).toNat ∧ gv E 81 1 ≤ 5 ∧ gv E 83 (5 * p + w).toNat ≤ 60) ∨ (z = 0 ∧ ¬ (0 ≤ w ∧ w < gv E 81 1 ∧ 1 ≤ n ∧ n ≤ gv E 83 (5 * p + w).toNat)))) := by
  refine cm_body (M := ai_m163) rfl rfl (fun kc ks => ?_)
  show cm_wp (ai_find ai_c163 sl) (ai_ev sl (d + 2)) x (kc + 0) (ks + 0) _ 0 [cr 81, ai_i p, ai_i w, ai_i n] [] T E nx kc ks
  refine w_aload (i := 0) (npc := 1) rfl rfl rfl ?_
  refine w_iload (i := 2) (npc := 2) rfl rfl ?_
  refine w_virt (ci := 8) (i := 81) (npc := 5) (a := [cr 81, ai_i w]) (rest := []) rfl rfl (hI.pl (by decide)) (hI.T (by decide) rfl) rfl rfl rfl rfl (ct_m_isWriter (sl := sl) (x := x) (d := d + 0) (w) hI) (Or.inl rfl) (fun k9 v9 T9 E2 nx9 kc9 ks9 hq1 hk9 hs9 => ?_)
  obtain ⟨rfl, rfl, rfl, rfl, z3, rfl, hz3⟩ := hq1
  obtain rfl : kc = kc9 := by omega
  obtain rfl : ks = ks9 := by omega
  refine Or.inr (Or.inl ⟨rfl, ?_⟩)
  refine w_if (c := .eq) (npc := 8) (pt := 30) rfl (fun hc4 => ?_) (fun hc4 => ?_)
  · replace hc4 : z3 = (0 : Int) := hc4
    refine w_const (n := 0) (npc := 31) rfl ?_
    exact w_zret rfl (by omega) (⟨rfl, rfl, rfl, rfl, 0, rfl, by omega⟩) (by omega) (by omega)
  · replace hc4 : ¬ (z3 = (0 : Int)) := hc4
    refine w_iload (i := 3) (npc := 9) rfl rfl ?_
    refine w_const (n := 1) (npc := 10) rfl ?_
    refine w_aload (i := 0) (npc := 11) rfl rfl rfl ?_
    refine w_getf (i := 81) (ci := 8) (k := 3) (npc := 14) rfl (hI.pl (by decide)) (hI.T (by decide) rfl) (by decide) (hI.ref 81 3 (p := 83) (by decide) (by decide) rfl) ?_
    refine w_const (n := 5) (npc := 15) rfl ?_
    refine w_iload (i := 1) (npc := 16) rfl rfl ?_
    refine w_imul (npc := 17) rfl (by omega) ?_
    refine w_iload (i := 2) (npc := 18) rfl rfl ?_
    refine w_iadd (npc := 19) rfl (by omega) ?_
    obtain ⟨z7, hz7, hz7a, hz7b⟩ := hI.int 83 (5 * p + w : Int).toNat (lo := 0) (hi := 60) (by decide) (show (5 * p + w : Int).toNat < 25 by omega) rfl
    have ghz7 := gv_eq hz7
    refine w_ald (i := 83) (t := 1) (n := 25) (npc := 20) rfl (hI.pl (by decide)) (hI.T (by decide) rfl) (by decide) rfl (by omega) hz7 ?_
    refine w_call (npc := 23) (a := [ai_i n, ai_i 1, ai_i z7]) (rest := []) rfl rfl rfl rfl rfl (ct_m_isIn (sl := sl) (x := x) (d := d + 1) (n) (1) (z7)) (Or.inr (fun _ _ _ _ _ hq => by have h1 := hq.1; omega)) (fun k9 v9 T9 E9 nx9 kc9 ks9 hq8 hk9 hs9 => ?_)
    obtain ⟨rfl, rfl, rfl, rfl, z10, rfl, hz10⟩ := hq8
    obtain rfl : kc = kc9 := by omega
    obtain rfl : ks = ks9 := by omega
    refine Or.inr (Or.inl ⟨rfl, ?_⟩)
    refine w_if (c := .eq) (npc := 26) (pt := 30) rfl (fun hc11 => ?_) (fun hc11 => ?_)
    · replace hc11 : z10 = (0 : Int) := hc11
      refine w_const (n := 0) (npc := 31) rfl ?_
      exact w_zret rfl (by omega) (⟨rfl, rfl, rfl, rfl, 0, rfl, by omega⟩) (by omega) (by omega)
    · replace hc11 : ¬ (z10 = (0 : Int)) := hc11
      refine w_const (n := 1) (npc := 27) rfl ?_
      refine w_goto (pt := 31) rfl ?_
      exact w_zret rfl (by omega) (⟨rfl, rfl, rfl, rfl, 1, rfl, by omega⟩) (by omega) (by omega)
set_option maxRecDepth 16384 in
theorem ct_m_holdOf {sl : Int × Int} {x : ai_E} {d : Nat} {T : cm_T} {E : cm_E} {nx : Nat} (p i : Int) (hp0 : 0 ≤ p ∧ p ≤ 4) (hp1 : 0 ≤ i ∧ i ≤ 20) : cm_ct (ai_ev sl (d + 1)) x 166 [cr 81, ai_i p, ai_i i] T E nx 0 0 (fun rk rv T' E' nx' => rk = 1 ∧ T = T' ∧ E = E' ∧ nx = nx' ∧ ∃ z : Int, rv = ai_i z ∧ (z = 1500 + 20 * p + i)) := by
  refine cm_body (M := ai_m166) rfl rfl (fun kc ks => ?_)
  show cm_wp (ai_find ai_c166 sl) (ai_ev sl (d + 0)) x (kc + 0) (ks + 0) _ 0 [cr 81, ai_i p, ai_i i] [] T E nx kc ks
  refine w_const (n := 1500) (npc := 3) rfl ?_
  refine w_const (n := 20) (npc := 5) rfl ?_
  refine w_iload (i := 1) (npc := 6) rfl rfl ?_
  refine w_imul (npc := 7) rfl (by omega) ?_
  refine w_iadd (npc := 8) rfl (by omega) ?_
  refine w_iload (i := 2) (npc := 9) rfl rfl ?_
  refine w_iadd (npc := 10) rfl (by omega) ?_
  exact w_iret rfl (⟨rfl, rfl, rfl, rfl, 1500 + (20 * p) + i, rfl, by omega⟩) (by omega) (by omega)
set_option maxRecDepth 16384 in
theorem ct_m_isLike {sl : Int × Int} {x : ai_E} {d : Nat} {T : cm_T} {E : cm_E} {nx : Nat} (a b : Int) (hI : cs_I T E nx) (hp0 : 0 ≤ a ∧ a ≤ 3200) (hp1 : 0 ≤ b ∧ b ≤ 3200) : cm_ct (ai_ev sl (d + 1)) x 172 [cr 81, ai_i a, ai_i b] T E nx 0 0 (fun rk rv T' E' nx' => rk = 1 ∧ T = T' ∧ E = E' ∧ nx = nx' ∧ ∃ z : Int, rv = ai_i z ∧ (0 ≤ z ∧ z ≤ 1)) := by
  refine cm_body (M := ai_m172) rfl rfl (fun kc ks => ?_)
  show cm_wp (ai_find ai_c172 sl) (ai_ev sl (d + 0)) x (kc + 0) (ks + 0) _ 0 [cr 81, ai_i a, ai_i b, ai_un] [] T E nx kc ks
  refine w_const (n := 0) (npc := 1) rfl ?_
  refine w_istore (i := 3) (npc := 2) (loc' := [cr 81, ai_i a, ai_i b, ai_i 0]) rfl rfl ?_
  have loop2 : ∀ (nf : Nat) (i : Int), ((166 - i).toNat) < nf → (0 ≤ i ∧ i ≤ 166) → cm_wp (ai_find ai_c172 sl) (ai_ev sl (d + 0)) x (kc + 0) (ks + 0) (fun rk rv T' E' nx' => rk = 1 ∧ T = T' ∧ E = E' ∧ nx = nx' ∧ ∃ z : Int, rv = ai_i z ∧ (0 ≤ z ∧ z ≤ 1)) 2 [cr 81, ai_i a, ai_i b, ai_i i] [] T E nx kc ks := by
    intro nf
    induction nf with
    | zero => intro i hm; exact absurd hm (Nat.not_lt_zero _)
    | succ nf2 ih =>
      intro i hm2 hv2
      have ih2 := ih; clear ih
      refine w_iload (i := 3) (npc := 3) rfl rfl ?_
      refine w_const (n := 166) (npc := 6) rfl ?_
      refine w_icmp (c := .ge) (npc := 9) (pt := 44) rfl (fun hc1 => ?_) (fun hc1 => ?_)
      · replace hc1 : (166 : Int) ≤ i := hc1
        refine w_const (n := 1) (npc := 45) rfl ?_
        exact w_zret rfl (by omega) (⟨rfl, rfl, rfl, rfl, 1, rfl, by omega⟩) (by omega) (by omega)
      · replace hc1 : ¬ ((166 : Int) ≤ i) := hc1
        refine w_aload (i := 0) (npc := 10) rfl rfl rfl ?_
        refine w_getf (i := 81) (ci := 8) (k := 2) (npc := 13) rfl (hI.pl (by decide)) (hI.T (by decide) rfl) (by decide) (hI.ref 81 2 (p := 82) (by decide) (by decide) rfl) ?_
        refine w_const (n := 166) (npc := 16) rfl ?_
        refine w_iload (i := 1) (npc := 17) rfl rfl ?_
        refine w_imul (npc := 18) rfl (by omega) ?_
        refine w_iload (i := 3) (npc := 19) rfl rfl ?_
        refine w_iadd (npc := 20) rfl (by omega) ?_
        obtain ⟨z4, hz4, hz4a, hz4b⟩ := hI.int 82 (166 * a + i : Int).toNat (lo := 0) (hi := 65540) (by decide) (show (166 * a + i : Int).toNat < 531366 by omega) rfl
        have ghz4 := gv_eq hz4
        refine w_ald (i := 82) (t := 1) (n := 531366) (npc := 21) rfl (hI.pl (by decide)) (hI.T (by decide) rfl) (by decide) rfl (by omega) hz4 ?_
        refine w_aload (i := 0) (npc := 22) rfl rfl rfl ?_
        refine w_getf (i := 81) (ci := 8) (k := 2) (npc := 25) rfl (hI.pl (by decide)) (hI.T (by decide) rfl) (by decide) (hI.ref 81 2 (p := 82) (by decide) (by decide) rfl) ?_
        refine w_const (n := 166) (npc := 28) rfl ?_
        refine w_iload (i := 2) (npc := 29) rfl rfl ?_
        refine w_imul (npc := 30) rfl (by omega) ?_
        refine w_iload (i := 3) (npc := 31) rfl rfl ?_
        refine w_iadd (npc := 32) rfl (by omega) ?_
        obtain ⟨z7, hz7, hz7a, hz7b⟩ := hI.int 82 (166 * b + i : Int).toNat (lo := 0) (hi := 65540) (by decide) (show (166 * b + i : Int).toNat < 531366 by omega) rfl
        have ghz7 := gv_eq hz7
        refine w_ald (i := 82) (t := 1) (n := 531366) (npc := 33) rfl (hI.pl (by decide)) (hI.T (by decide) rfl) (by decide) rfl (by omega) hz7 ?_
        refine w_icmp (c := .eq) (npc := 36) (pt := 38) rfl (fun hc8 => ?_) (fun hc8 => ?_)
        · replace hc8 : z4 = z7 := hc8
          refine w_iinc (i := 3) (n := 1) (npc := 41) (loc' := [cr 81, ai_i a, ai_i b, ai_i (i + 1)]) rfl rfl (by omega) rfl ?_
          refine w_goto (pt := 2) rfl ?_
          exact ih2 (i + 1) (by omega) (by omega)
        · replace hc8 : ¬ (z4 = z7) := hc8
          refine w_const (n := 0) (npc := 37) rfl ?_
          exact w_zret rfl (by omega) (⟨rfl, rfl, rfl, rfl, 0, rfl, by omega⟩) (by omega) (by omega)
  exact loop2 _ (0) (Nat.lt_succ_self _) (by omega)
set_option maxRecDepth 16384 in
theorem ct_m_canHave {sl : Int × Int} {x : ai_E} {d : Nat} {T : cm_T} {E : cm_E} {nx : Nat} (p r : Int) (hI : cs_I T E nx) (hp0 : 0 ≤ p ∧ p ≤ 4) (hp1 : 0 ≤ r ∧ r ≤ 3200) : cm_ct (ai_ev sl (d + 2)) x 150 [cr 81, ai_i p, ai_i r] T E nx 0 0 (fun rk rv T' E' nx' => rk = 1 ∧ T = T' ∧ E = E' ∧ nx = nx' ∧ ∃ z : Int, rv = ai_i z ∧ (0 ≤ z ∧ z ≤ 1)) := by
  refine cm_body (M := ai_m150) rfl rfl (fun kc ks => ?_)
  show cm_wp (ai_find ai_c150 sl) (ai_ev sl (d + 1)) x (kc + 0) (ks + 0) _ 0 [cr 81, ai_i p, ai_i r, ai_un] [] T E nx kc ks
  refine w_const (n := 0) (npc := 1) rfl ?_
  refine w_istore (i := 3) (npc := 2) (loc' := [cr 81, ai_i p, ai_i r, ai_i 0]) rfl rfl ?_
  have loop2 : ∀ (nf : Nat) (w : Int), ((5 - w).toNat) < nf → (0 ≤ w ∧ w ≤ 5) → cm_wp (ai_find ai_c150 sl) (ai_ev sl (d + 1)) x (kc + 0) (ks + 0) (fun rk rv T' E' nx' => rk = 1 ∧ T = T' ∧ E = E' ∧ nx = nx' ∧ ∃ z : Int, rv = ai_i z ∧ (0 ≤ z ∧ z ≤ 1)) 2 [cr 81, ai_i p, ai_i r, ai_i w] [] T E nx kc ks := by
    intro nf
    induction nf with
    | zero => intro w hm; exact absurd hm (Nat.not_lt_zero _)
    | succ nf2 ih =>
      intro w hm2 hv2
      have ih2 := ih; clear ih
      refine w_iload (i := 3) (npc := 3) rfl rfl ?_
      refine w_aload (i := 0) (npc := 4) rfl rfl rfl ?_
      obtain ⟨z1, hz1, hz1a, hz1b⟩ := hI.int 81 1 (lo := 1) (hi := 5) (by decide) (by decide) rfl
      have ghz1 := gv_eq hz1
      refine w_getf (i := 81) (ci := 8) (k := 1) (npc := 7) rfl (hI.pl (by decide)) (hI.T (by decide) rfl) (by decide) hz1 ?_
      refine w_icmp (c := .ge) (npc := 10) (pt := 39) rfl (fun hc2 => ?_) (fun hc2 => ?_)
      · replace hc2 : z1 ≤ w := hc2
        refine w_const (n := 1) (npc := 40) rfl ?_
        exact w_zret rfl (by omega) (⟨rfl, rfl, rfl, rfl, 1, rfl, by omega⟩) (by omega) (by omega)
      · replace hc2 : ¬ (z1 ≤ w) := hc2
        refine w_aload (i := 0) (npc := 11) rfl rfl rfl ?_
        refine w_getf (i := 81) (ci := 8) (k := 3) (npc := 14) rfl (hI.pl (by decide)) (hI.T (by decide) rfl) (by decide) (hI.ref 81 3 (p := 83) (by decide) (by decide) rfl) ?_
        refine w_const (n := 5) (npc := 15) rfl ?_
        refine w_iload (i := 1) (npc := 16) rfl rfl ?_
        refine w_imul (npc := 17) rfl (by omega) ?_
        refine w_iload (i := 3) (npc := 18) rfl rfl ?_
        refine w_iadd (npc := 19) rfl (by omega) ?_
        obtain ⟨z5, hz5, hz5a, hz5b⟩ := hI.int 83 (5 * p + w : Int).toNat (lo := 0) (hi := 60) (by decide) (show (5 * p + w : Int).toNat < 25 by omega) rfl
        have ghz5 := gv_eq hz5
        refine w_ald (i := 83) (t := 1) (n := 25) (npc := 20) rfl (hI.pl (by decide)) (hI.T (by decide) rfl) (by decide) rfl (by omega) hz5 ?_
        refine w_aload (i := 0) (npc := 21) rfl rfl rfl ?_
        refine w_iload (i := 2) (npc := 22) rfl rfl ?_
        refine w_const (n := 3) (npc := 23) rfl ?_
        refine w_iload (i := 3) (npc := 24) rfl rfl ?_
        refine w_iadd (npc := 25) rfl (by omega) ?_
        refine w_virt (ci := 8) (i := 81) (npc := 28) (a := [cr 81, ai_i r, ai_i (3 + w)]) (rest := [ai_i z5]) rfl rfl (hI.pl (by decide)) (hI.T (by decide) rfl) rfl rfl rfl rfl (ct_m_of (sl := sl) (x := x) (d := d + 0) (r) (3 + w) hI (by omega) (by omega) (by omega)) (Or.inl rfl) (fun k9 v9 T9 E8 nx9 kc9 ks9 hq7 hk9 hs9 => ?_)
        obtain ⟨rfl, rfl, rfl, rfl, z9, rfl, hz9⟩ := hq7
        obtain rfl : kc = kc9 := by omega
        obtain rfl : ks = ks9 := by omega
        refine Or.inr (Or.inl ⟨rfl, ?_⟩)
        refine w_icmp (c := .ge) (npc := 31) (pt := 33) rfl (fun hc10 => ?_) (fun hc10 => ?_)
        · replace hc10 : z9 ≤ z5 := hc10
          refine w_iinc (i := 3) (n := 1) (npc := 36) (loc' := [cr 81, ai_i p, ai_i r, ai_i (w + 1)]) rfl rfl (by omega) rfl ?_
          refine w_goto (pt := 2) rfl ?_
          exact ih2 (w + 1) (by omega) (by omega)
        · replace hc10 : ¬ (z9 ≤ z5) := hc10
          refine w_const (n := 0) (npc := 32) rfl ?_
          exact w_zret rfl (by omega) (⟨rfl, rfl, rfl, rfl, 0, rfl, by omega⟩) (by omega) (by omega)
  exact loop2 _ (0) (Nat.lt_succ_self _) (by omega)
set_option maxRecDepth 16384 in
theorem ct_m_isAhead {sl : Int × Int} {x : ai_E} {d : Nat} {T : cm_T} {E : cm_E} {nx : Nat} (a b : Int) (hI : cs_I T E nx) (hp0 : 0 ≤ a ∧ a ≤ 3199) (hp1 : 0 ≤ b ∧ b ≤ 3199) : cm_ct (ai_ev sl (d + 2)) x 169 [cr 81, ai_i a, ai_i b] T E nx 0 0 (fun rk rv T' E' nx' => rk = 1 ∧ T = T' ∧ E = E' ∧ nx = nx' ∧ ∃ z : Int, rv = ai_i z ∧ (0 ≤ z ∧ z ≤ 1)) := by
  refine cm_body (M := ai_m169) rfl rfl (fun kc ks => ?_)
  show cm_wp (ai_find ai_c169 sl) (ai_ev sl (d + 1)) x (kc + 0) (ks + 0) _ 0 [cr 81, ai_i a, ai_i b] [] T E nx kc ks
  refine w_aload (i := 0) (npc := 1) rfl rfl rfl ?_
  refine w_iload (i := 1) (npc := 2) rfl rfl ?_
  refine w_const (n := 1) (npc := 3) rfl ?_
  refine w_virt (ci := 8) (i := 81) (npc := 6) (a := [cr 81, ai_i a, ai_i 1]) (rest := []) rfl rfl (hI.pl (by decide)) (hI.T (by decide) rfl) rfl rfl rfl rfl (ct_m_of (sl := sl) (x := x) (d := d + 0) (a) (1) hI (by omega) (by omega) (by omega)) (Or.inl rfl) (fun k9 v9 T9 E2 nx9 kc9 ks9 hq1 hk9 hs9 => ?_)
  obtain ⟨rfl, rfl, rfl, rfl, z3, rfl, hz3⟩ := hq1
  obtain rfl : kc = kc9 := by omega
  obtain rfl : ks = ks9 := by omega
  refine Or.inr (Or.inl ⟨rfl, ?_⟩)
  refine w_aload (i := 0) (npc := 7) rfl rfl rfl ?_
  refine w_iload (i := 2) (npc := 8) rfl rfl ?_
  refine w_const (n := 1) (npc := 9) rfl ?_
  refine w_virt (ci := 8) (i := 81) (npc := 12) (a := [cr 81, ai_i b, ai_i 1]) (rest := [ai_i z3]) rfl rfl (hI.pl (by decide)) (hI.T (by decide) rfl) rfl rfl rfl rfl (ct_m_of (sl := sl) (x := x) (d := d + 0) (b) (1) hI (by omega) (by omega) (by omega)) (Or.inl rfl) (fun k9 v9 T9 E5 nx9 kc9 ks9 hq4 hk9 hs9 => ?_)
  obtain ⟨rfl, rfl, rfl, rfl, z6, rfl, hz6⟩ := hq4
  obtain rfl : kc = kc9 := by omega
  obtain rfl : ks = ks9 := by omega
  refine Or.inr (Or.inl ⟨rfl, ?_⟩)
  refine w_icmp (c := .eq) (npc := 15) (pt := 38) rfl (fun hc7 => ?_) (fun hc7 => ?_)
  · replace hc7 : z3 = z6 := hc7
    refine w_aload (i := 0) (npc := 39) rfl rfl rfl ?_
    refine w_iload (i := 1) (npc := 40) rfl rfl ?_
    refine w_const (n := 2) (npc := 41) rfl ?_
    refine w_virt (ci := 8) (i := 81) (npc := 44) (a := [cr 81, ai_i a, ai_i 2]) (rest := []) rfl rfl (hI.pl (by decide)) (hI.T (by decide) rfl) rfl rfl rfl rfl (ct_m_of (sl := sl) (x := x) (d := d + 0) (a) (2) hI (by omega) (by omega) (by omega)) (Or.inl rfl) (fun k9 v9 T9 E9 nx9 kc9 ks9 hq8 hk9 hs9 => ?_)
    obtain ⟨rfl, rfl, rfl, rfl, z10, rfl, hz10⟩ := hq8
    obtain rfl : kc = kc9 := by omega
    obtain rfl : ks = ks9 := by omega
    refine Or.inr (Or.inl ⟨rfl, ?_⟩)
    refine w_aload (i := 0) (npc := 45) rfl rfl rfl ?_
    refine w_iload (i := 2) (npc := 46) rfl rfl ?_
    refine w_const (n := 2) (npc := 47) rfl ?_
    refine w_virt (ci := 8) (i := 81) (npc := 50) (a := [cr 81, ai_i b, ai_i 2]) (rest := [ai_i z10]) rfl rfl (hI.pl (by decide)) (hI.T (by decide) rfl) rfl rfl rfl rfl (ct_m_of (sl := sl) (x := x) (d := d + 0) (b) (2) hI (by omega) (by omega) (by omega)) (Or.inl rfl) (fun k9 v9 T9 E12 nx9 kc9 ks9 hq11 hk9 hs9 => ?_)
    obtain ⟨rfl, rfl, rfl, rfl, z13, rfl, hz13⟩ := hq11
    obtain rfl : kc = kc9 := by omega
    obtain rfl : ks = ks9 := by omega
    refine Or.inr (Or.inl ⟨rfl, ?_⟩)
    refine w_icmp (c := .ge) (npc := 53) (pt := 57) rfl (fun hc14 => ?_) (fun hc14 => ?_)
    · replace hc14 : z13 ≤ z10 := hc14
      refine w_const (n := 0) (npc := 58) rfl ?_
      exact w_zret rfl (by omega) (⟨rfl, rfl, rfl, rfl, 0, rfl, by omega⟩) (by omega) (by omega)
    · replace hc14 : ¬ (z13 ≤ z10) := hc14
      refine w_const (n := 1) (npc := 54) rfl ?_
      refine w_goto (pt := 58) rfl ?_
      exact w_zret rfl (by omega) (⟨rfl, rfl, rfl, rfl, 1, rfl, by omega⟩) (by omega) (by omega)
  · replace hc7 : ¬ (z3 = z6) := hc7
    refine w_aload (i := 0) (npc := 16) rfl rfl rfl ?_
    refine w_iload (i := 1) (npc := 17) rfl rfl ?_
    refine w_const (n := 1) (npc := 18) rfl ?_
    refine w_virt (ci := 8) (i := 81) (npc := 21) (a := [cr 81, ai_i a, ai_i 1]) (rest := []) rfl rfl (hI.pl (by decide)) (hI.T (by decide) rfl) rfl rfl rfl rfl (ct_m_of (sl := sl) (x := x) (d := d + 0) (a) (1) hI (by omega) (by omega) (by omega)) (Or.inl rfl) (fun k9 v9 T9 E16 nx9 kc9 ks9 hq15 hk9 hs9 => ?_)
    obtain ⟨rfl, rfl, rfl, rfl, z17, rfl, hz17⟩ := hq15
    obtain rfl : kc = kc9 := by omega
    obtain rfl : ks = ks9 := by omega
    refine Or.inr (Or.inl ⟨rfl, ?_⟩)
    refine w_aload (i := 0) (npc := 22) rfl rfl rfl ?_
    refine w_iload (i := 2) (npc := 23) rfl rfl ?_
    refine w_const (n := 1) (npc := 24) rfl ?_
    refine w_virt (ci := 8) (i := 81) (npc := 27) (a := [cr 81, ai_i b, ai_i 1]) (rest := [ai_i z17]) rfl rfl (hI.pl (by decide)) (hI.T (by decide) rfl) rfl rfl rfl rfl (ct_m_of (sl := sl) (x := x) (d := d + 0) (b) (1) hI (by omega) (by omega) (by omega)) (Or.inl rfl) (fun k9 v9 T9 E19 nx9 kc9 ks9 hq18 hk9 hs9 => ?_)
    obtain ⟨rfl, rfl, rfl, rfl, z20, rfl, hz20⟩ := hq18
    obtain rfl : kc = kc9 := by omega
    obtain rfl : ks = ks9 := by omega
    refine Or.inr (Or.inl ⟨rfl, ?_⟩)
    refine w_icmp (c := .ge) (npc := 30) (pt := 34) rfl (fun hc21 => ?_) (fun hc21 => ?_)
    · replace hc21 : z20 ≤ z17 := hc21
      refine w_const (n := 0) (npc := 35) rfl ?_
      refine w_goto (pt := 58) rfl ?_
      exact w_zret rfl (by omega) (⟨rfl, rfl, rfl, rfl, 0, rfl, by omega⟩) (by omega) (by omega)
    · replace hc21 : ¬ (z20 ≤ z17) := hc21
      refine w_const (n := 1) (npc := 31) rfl ?_
      refine w_goto (pt := 58) rfl ?_
      exact w_zret rfl (by omega) (⟨rfl, rfl, rfl, rfl, 1, rfl, by omega⟩) (by omega) (by omega)
set_option maxRecDepth 16384 in
theorem ct_m_compare {sl : Int × Int} {x : ai_E} {d : Nat} {T : cm_T} {E : cm_E} {nx : Nat} (a b : Int) (hI : cs_I T E nx) (hp0 : 0 ≤ a ∧ a ≤ 260000) (hp1 : 0 ≤ b ∧ b ≤ 260000) : cm_ct (ai_ev sl (d + 1)) x 152 [cr 81, ai_i a, ai_i b] T E nx 0 0 (fun rk rv T' E' nx' => rk = 1 ∧ T = T' ∧ E = E' ∧ nx = nx' ∧ ∃ z : Int, rv = ai_i z ∧ (-65540 ≤ z ∧ z ≤ 65540)) := by
  refine cm_body (M := ai_m152) rfl rfl (fun kc ks => ?_)
  show cm_wp (ai_find ai_c152 sl) (ai_ev sl (d + 0)) x (kc + 0) (ks + 0) _ 0 [cr 81, ai_i a, ai_i b, ai_un] [] T E nx kc ks
  refine w_const (n := 1) (npc := 1) rfl ?_
  refine w_istore (i := 3) (npc := 2) (loc' := [cr 81, ai_i a, ai_i b, ai_i 1]) rfl rfl ?_
  have loop2 : ∀ (nf : Nat) (i : Int), ((65541 - i).toNat) < nf → (1 ≤ i ∧ i ≤ 65541) → cm_wp (ai_find ai_c152 sl) (ai_ev sl (d + 0)) x (kc + 0) (ks + 0) (fun rk rv T' E' nx' => rk = 1 ∧ T = T' ∧ E = E' ∧ nx = nx' ∧ ∃ z : Int, rv = ai_i z ∧ (-65540 ≤ z ∧ z ≤ 65540)) 2 [cr 81, ai_i a, ai_i b, ai_i i] [] T E nx kc ks := by
    intro nf
    induction nf with
    | zero => intro i hm; exact absurd hm (Nat.not_lt_zero _)
    | succ nf2 ih =>
      intro i hm2 hv2
      have ih2 := ih; clear ih
      refine w_iload (i := 3) (npc := 3) rfl rfl ?_
      refine w_aload (i := 0) (npc := 4) rfl rfl rfl ?_
      refine w_getf (i := 81) (ci := 8) (k := 2) (npc := 7) rfl (hI.pl (by decide)) (hI.T (by decide) rfl) (by decide) (hI.ref 81 2 (p := 82) (by decide) (by decide) rfl) ?_
      refine w_iload (i := 1) (npc := 8) rfl rfl ?_
      obtain ⟨z1, hz1, hz1a, hz1b⟩ := hI.int 82 (a : Int).toNat (lo := 0) (hi := 65540) (by decide) (show (a : Int).toNat < 531366 by omega) rfl
      have ghz1 := gv_eq hz1
      refine w_ald (i := 82) (t := 1) (n := 531366) (npc := 9) rfl (hI.pl (by decide)) (hI.T (by decide) rfl) (by decide) rfl (by omega) hz1 ?_
      refine w_icmp (c := .gt) (npc := 12) (pt := 65) rfl (fun hc2 => ?_) (fun hc2 => ?_)
      · replace hc2 : z1 < i := hc2
        refine w_aload (i := 0) (npc := 66) rfl rfl rfl ?_
        refine w_getf (i := 81) (ci := 8) (k := 2) (npc := 69) rfl (hI.pl (by decide)) (hI.T (by decide) rfl) (by decide) (hI.ref 81 2 (p := 82) (by decide) (by decide) rfl) ?_
        refine w_iload (i := 1) (npc := 70) rfl rfl ?_
        refine w_ald (i := 82) (t := 1) (n := 531366) (npc := 71) rfl (hI.pl (by decide)) (hI.T (by decide) rfl) (by decide) rfl (by omega) hz1 ?_
        refine w_aload (i := 0) (npc := 72) rfl rfl rfl ?_
        refine w_getf (i := 81) (ci := 8) (k := 2) (npc := 75) rfl (hI.pl (by decide)) (hI.T (by decide) rfl) (by decide) (hI.ref 81 2 (p := 82) (by decide) (by decide) rfl) ?_
        refine w_iload (i := 2) (npc := 76) rfl rfl ?_
        obtain ⟨z3, hz3, hz3a, hz3b⟩ := hI.int 82 (b : Int).toNat (lo := 0) (hi := 65540) (by decide) (show (b : Int).toNat < 531366 by omega) rfl
        have ghz3 := gv_eq hz3
        refine w_ald (i := 82) (t := 1) (n := 531366) (npc := 77) rfl (hI.pl (by decide)) (hI.T (by decide) rfl) (by decide) rfl (by omega) hz3 ?_
        refine w_isub (npc := 78) rfl (by omega) ?_
        exact w_iret rfl (⟨rfl, rfl, rfl, rfl, z1 - z3, rfl, by omega⟩) (by omega) (by omega)
      · replace hc2 : ¬ (z1 < i) := hc2
        refine w_iload (i := 3) (npc := 13) rfl rfl ?_
        refine w_aload (i := 0) (npc := 14) rfl rfl rfl ?_
        refine w_getf (i := 81) (ci := 8) (k := 2) (npc := 17) rfl (hI.pl (by decide)) (hI.T (by decide) rfl) (by decide) (hI.ref 81 2 (p := 82) (by decide) (by decide) rfl) ?_
        refine w_iload (i := 2) (npc := 18) rfl rfl ?_
        obtain ⟨z5, hz5, hz5a, hz5b⟩ := hI.int 82 (b : Int).toNat (lo := 0) (hi := 65540) (by decide) (show (b : Int).toNat < 531366 by omega) rfl
        have ghz5 := gv_eq hz5
        refine w_ald (i := 82) (t := 1) (n := 531366) (npc := 19) rfl (hI.pl (by decide)) (hI.T (by decide) rfl) (by decide) rfl (by omega) hz5 ?_
        refine w_icmp (c := .gt) (npc := 22) (pt := 65) rfl (fun hc6 => ?_) (fun hc6 => ?_)
        · replace hc6 : z5 < i := hc6
          refine w_aload (i := 0) (npc := 66) rfl rfl rfl ?_
          refine w_getf (i := 81) (ci := 8) (k := 2) (npc := 69) rfl (hI.pl (by decide)) (hI.T (by decide) rfl) (by decide) (hI.ref 81 2 (p := 82) (by decide) (by decide) rfl) ?_
          refine w_iload (i := 1) (npc := 70) rfl rfl ?_
          refine w_ald (i := 82) (t := 1) (n := 531366) (npc := 71) rfl (hI.pl (by decide)) (hI.T (by decide) rfl) (by decide) rfl (by omega) hz1 ?_
          refine w_aload (i := 0) (npc := 72) rfl rfl rfl ?_
          refine w_getf (i := 81) (ci := 8) (k := 2) (npc := 75) rfl (hI.pl (by decide)) (hI.T (by decide) rfl) (by decide) (hI.ref 81 2 (p := 82) (by decide) (by decide) rfl) ?_
          refine w_iload (i := 2) (npc := 76) rfl rfl ?_
          refine w_ald (i := 82) (t := 1) (n := 531366) (npc := 77) rfl (hI.pl (by decide)) (hI.T (by decide) rfl) (by decide) rfl (by omega) hz5 ?_
          refine w_isub (npc := 78) rfl (by omega) ?_
          exact w_iret rfl (⟨rfl, rfl, rfl, rfl, z1 - z5, rfl, by omega⟩) (by omega) (by omega)
        · replace hc6 : ¬ (z5 < i) := hc6
          refine w_aload (i := 0) (npc := 23) rfl rfl rfl ?_
          refine w_getf (i := 81) (ci := 8) (k := 2) (npc := 26) rfl (hI.pl (by decide)) (hI.T (by decide) rfl) (by decide) (hI.ref 81 2 (p := 82) (by decide) (by decide) rfl) ?_
          refine w_iload (i := 1) (npc := 27) rfl rfl ?_
          refine w_iload (i := 3) (npc := 28) rfl rfl ?_
          refine w_iadd (npc := 29) rfl (by omega) ?_
          obtain ⟨z9, hz9, hz9a, hz9b⟩ := hI.int 82 (a + i : Int).toNat (lo := 0) (hi := 65540) (by decide) (show (a + i : Int).toNat < 531366 by omega) rfl
          have ghz9 := gv_eq hz9
          refine w_ald (i := 82) (t := 1) (n := 531366) (npc := 30) rfl (hI.pl (by decide)) (hI.T (by decide) rfl) (by decide) rfl (by omega) hz9 ?_
          refine w_aload (i := 0) (npc := 31) rfl rfl rfl ?_
          refine w_getf (i := 81) (ci := 8) (k := 2) (npc := 34) rfl (hI.pl (by decide)) (hI.T (by decide) rfl) (by decide) (hI.ref 81 2 (p := 82) (by decide) (by decide) rfl) ?_
          refine w_iload (i := 2) (npc := 35) rfl rfl ?_
          refine w_iload (i := 3) (npc := 36) rfl rfl ?_
          refine w_iadd (npc := 37) rfl (by omega) ?_
          obtain ⟨z11, hz11, hz11a, hz11b⟩ := hI.int 82 (b + i : Int).toNat (lo := 0) (hi := 65540) (by decide) (show (b + i : Int).toNat < 531366 by omega) rfl
          have ghz11 := gv_eq hz11
          refine w_ald (i := 82) (t := 1) (n := 531366) (npc := 38) rfl (hI.pl (by decide)) (hI.T (by decide) rfl) (by decide) rfl (by omega) hz11 ?_
          refine w_icmp (c := .eq) (npc := 41) (pt := 59) rfl (fun hc12 => ?_) (fun hc12 => ?_)
          · replace hc12 : z9 = z11 := hc12
            refine w_iinc (i := 3) (n := 1) (npc := 62) (loc' := [cr 81, ai_i a, ai_i b, ai_i (i + 1)]) rfl rfl (by omega) rfl ?_
            refine w_goto (pt := 2) rfl ?_
            exact ih2 (i + 1) (by omega) (by omega)
          · replace hc12 : ¬ (z9 = z11) := hc12
            refine w_aload (i := 0) (npc := 42) rfl rfl rfl ?_
            refine w_getf (i := 81) (ci := 8) (k := 2) (npc := 45) rfl (hI.pl (by decide)) (hI.T (by decide) rfl) (by decide) (hI.ref 81 2 (p := 82) (by decide) (by decide) rfl) ?_
            refine w_iload (i := 1) (npc := 46) rfl rfl ?_
            refine w_iload (i := 3) (npc := 47) rfl rfl ?_
            refine w_iadd (npc := 48) rfl (by omega) ?_
            refine w_ald (i := 82) (t := 1) (n := 531366) (npc := 49) rfl (hI.pl (by decide)) (hI.T (by decide) rfl) (by decide) rfl (by omega) hz9 ?_
            refine w_aload (i := 0) (npc := 50) rfl rfl rfl ?_
            refine w_getf (i := 81) (ci := 8) (k := 2) (npc := 53) rfl (hI.pl (by decide)) (hI.T (by decide) rfl) (by decide) (hI.ref 81 2 (p := 82) (by decide) (by decide) rfl) ?_
            refine w_iload (i := 2) (npc := 54) rfl rfl ?_
            refine w_iload (i := 3) (npc := 55) rfl rfl ?_
            refine w_iadd (npc := 56) rfl (by omega) ?_
            refine w_ald (i := 82) (t := 1) (n := 531366) (npc := 57) rfl (hI.pl (by decide)) (hI.T (by decide) rfl) (by decide) rfl (by omega) hz11 ?_
            refine w_isub (npc := 58) rfl (by omega) ?_
            exact w_iret rfl (⟨rfl, rfl, rfl, rfl, z9 - z11, rfl, by omega⟩) (by omega) (by omega)
  exact loop2 _ (1) (Nat.lt_succ_self _) (by omega)
set_option maxRecDepth 16384 in
theorem ct_m_rowOfMark {sl : Int × Int} {x : ai_E} {d : Nat} {T : cm_T} {E : cm_E} {nx : Nat} (p a : Int) (hp0 : 0 ≤ p ∧ p ≤ 4) (hp1 : 0 ≤ a ∧ a ≤ 299) : cm_ct (ai_ev sl (d + 2)) x 206 [cr 81, ai_i p, ai_i a] T E nx 0 0 (fun rk rv T' E' nx' => rk = 1 ∧ T = T' ∧ E = E' ∧ nx = nx' ∧ ∃ z : Int, rv = ai_i z ∧ (z = (5 * p + a / 60) * 60 + a % 60)) := by
  refine cm_body (M := ai_m206) rfl rfl (fun kc ks => ?_)
  show cm_wp (ai_find ai_c206 sl) (ai_ev sl (d + 1)) x (kc + 0) (ks + 0) _ 0 [cr 81, ai_i p, ai_i a] [] T E nx kc ks
  refine w_iload (i := 1) (npc := 1) rfl rfl ?_
  refine w_iload (i := 2) (npc := 2) rfl rfl ?_
  refine w_const (n := 60) (npc := 4) rfl ?_
  refine w_idiv (npc := 5) rfl (by omega) (by omega) (fun z1 hz1 hz1b hz1c => ?_)
  refine w_iload (i := 2) (npc := 6) rfl rfl ?_
  refine w_const (n := 60) (npc := 8) rfl ?_
  refine w_irem (npc := 9) rfl (by omega) (by omega) (fun z2 hz2 hz2b => ?_)
  refine w_const (n := 1) (npc := 10) rfl ?_
  refine w_iadd (npc := 11) rfl (by omega) ?_
  refine w_call (npc := 14) (a := [ai_i p, ai_i z1, ai_i (z2 + 1)]) (rest := []) rfl rfl rfl rfl rfl (ct_m_rowOf (sl := sl) (x := x) (d := d + 0) (p) (z1) (z2 + 1) (by omega) (by omega) (by omega)) (Or.inr (fun _ _ _ _ _ hq => by have h1 := hq.1; omega)) (fun k9 v9 T9 E5 nx9 kc9 ks9 hq4 hk9 hs9 => ?_)
  obtain ⟨rfl, rfl, rfl, rfl, z6, rfl, hz6⟩ := hq4
  obtain rfl : kc = kc9 := by omega
  obtain rfl : ks = ks9 := by omega
  refine Or.inr (Or.inl ⟨rfl, ?_⟩)
  exact w_iret rfl (⟨rfl, rfl, rfl, rfl, z6, rfl, by omega⟩) (by omega) (by omega)
set_option maxRecDepth 16384 in
theorem ct_m_actsOf {sl : Int × Int} {x : ai_E} {d : Nat} {T : cm_T} {E : cm_E} {nx : Nat} (p : Int) (hI : cs_I T E nx) : cm_ct (ai_ev sl (d + 1)) x 145 [cr 81, ai_i p] T E nx 0 0 (fun rk rv T' E' nx' => rk = 1 ∧ T = T' ∧ E = E' ∧ nx = nx' ∧ ∃ z : Int, rv = ai_i z ∧ (0 ≤ z ∧ z ≤ 8)) := by
  refine cm_body (M := ai_m145) rfl rfl (fun kc ks => ?_)
  show cm_wp (ai_find ai_c145 sl) (ai_ev sl (d + 0)) x (kc + 0) (ks + 0) _ 0 [cr 81, ai_i p, ai_un, ai_un] [] T E nx kc ks
  refine w_const (n := 0) (npc := 1) rfl ?_
  refine w_istore (i := 2) (npc := 2) (loc' := [cr 81, ai_i p, ai_i 0, ai_un]) rfl rfl ?_
  refine w_const (n := 0) (npc := 3) rfl ?_
  refine w_istore (i := 3) (npc := 4) (loc' := [cr 81, ai_i p, ai_i 0, ai_i 0]) rfl rfl ?_
  have loop4 : ∀ (nf : Nat) (a : Int) (i : Int), ((8 - i).toNat) < nf → (0 ≤ a ∧ a ≤ i ∧ i ≤ 8) → cm_wp (ai_find ai_c145 sl) (ai_ev sl (d + 0)) x (kc + 0) (ks + 0) (fun rk rv T' E' nx' => rk = 1 ∧ T = T' ∧ E = E' ∧ nx = nx' ∧ ∃ z : Int, rv = ai_i z ∧ (0 ≤ z ∧ z ≤ 8)) 4 [cr 81, ai_i p, ai_i a, ai_i i] [] T E nx kc ks := by
    intro nf
    induction nf with
    | zero => intro a i hm; exact absurd hm (Nat.not_lt_zero _)
    | succ nf4 ih =>
      intro a i hm4 hv4
      have ih4 := ih; clear ih
      refine w_iload (i := 3) (npc := 5) rfl rfl ?_
      refine w_aload (i := 0) (npc := 6) rfl rfl rfl ?_
      obtain ⟨z1, hz1, hz1a, hz1b⟩ := hI.int 81 24 (lo := 0) (hi := 8) (by decide) (by decide) rfl
      have ghz1 := gv_eq hz1
      refine w_getf (i := 81) (ci := 8) (k := 24) (npc := 9) rfl (hI.pl (by decide)) (hI.T (by decide) rfl) (by decide) hz1 ?_
      refine w_icmp (c := .ge) (npc := 12) (pt := 36) rfl (fun hc2 => ?_) (fun hc2 => ?_)
      · replace hc2 : z1 ≤ i := hc2
        refine w_iload (i := 2) (npc := 37) rfl rfl ?_
        exact w_iret rfl (⟨rfl, rfl, rfl, rfl, a, rfl, by omega⟩) (by omega) (by omega)
      · replace hc2 : ¬ (z1 ≤ i) := hc2
        refine w_iload (i := 2) (npc := 13) rfl rfl ?_
        refine w_aload (i := 0) (npc := 14) rfl rfl rfl ?_
        refine w_getf (i := 81) (ci := 8) (k := 26) (npc := 17) rfl (hI.pl (by decide)) (hI.T (by decide) rfl) (by decide) (hI.ref 81 26 (p := 95) (by decide) (by decide) rfl) ?_
        refine w_iload (i := 3) (npc := 18) rfl rfl ?_
        obtain ⟨z3, hz3, hz3a, hz3b⟩ := hI.int 95 (i : Int).toNat (lo := 0) (hi := 2) (by decide) (show (i : Int).toNat < 8 by omega) rfl
        have ghz3 := gv_eq hz3
        refine w_ald (i := 95) (t := 1) (n := 8) (npc := 19) rfl (hI.pl (by decide)) (hI.T (by decide) rfl) (by decide) rfl (by omega) hz3 ?_
        refine w_iload (i := 1) (npc := 20) rfl rfl ?_
        refine w_icmp (c := .ne) (npc := 23) (pt := 27) rfl (fun hc4 => ?_) (fun hc4 => ?_)
        · replace hc4 : z3 ≠ p := hc4
          refine w_const (n := 0) (npc := 28) rfl ?_
          refine w_iadd (npc := 29) rfl (by omega) ?_
          refine w_istore (i := 2) (npc := 30) (loc' := [cr 81, ai_i p, ai_i (a + 0), ai_i i]) rfl rfl ?_
          refine w_iinc (i := 3) (n := 1) (npc := 33) (loc' := [cr 81, ai_i p, ai_i (a + 0), ai_i (i + 1)]) rfl rfl (by omega) rfl ?_
          refine w_goto (pt := 4) rfl ?_
          exact ih4 (a + 0) (i + 1) (by omega) (by omega)
        · replace hc4 : ¬ (z3 ≠ p) := hc4
          refine w_const (n := 1) (npc := 24) rfl ?_
          refine w_goto (pt := 28) rfl ?_
          refine w_iadd (npc := 29) rfl (by omega) ?_
          refine w_istore (i := 2) (npc := 30) (loc' := [cr 81, ai_i p, ai_i (a + 1), ai_i i]) rfl rfl ?_
          refine w_iinc (i := 3) (n := 1) (npc := 33) (loc' := [cr 81, ai_i p, ai_i (a + 1), ai_i (i + 1)]) rfl rfl (by omega) rfl ?_
          refine w_goto (pt := 4) rfl ?_
          exact ih4 (a + 1) (i + 1) (by omega) (by omega)
  exact loop4 _ (0) (0) (Nat.lt_succ_self _) (by omega)
set_option maxRecDepth 16384 in
theorem ct_m_inOrder {sl : Int × Int} {x : ai_E} {d : Nat} {T : cm_T} {E : cm_E} {nx : Nat} (p m : Int) (hI : cs_I T E nx) (hp0 : 0 ≤ m ∧ m ≤ 8) : cm_ct (ai_ev sl (d + 1)) x 168 [cr 81, ai_i p, ai_i m] T E nx 0 0 (fun rk rv T' E' nx' => rk = 1 ∧ T = T' ∧ E = E' ∧ nx = nx' ∧ ∃ z : Int, rv = ai_i z ∧ (0 ≤ z ∧ z ≤ 8)) := by
  refine cm_body (M := ai_m168) rfl rfl (fun kc ks => ?_)
  show cm_wp (ai_find ai_c168 sl) (ai_ev sl (d + 0)) x (kc + 0) (ks + 0) _ 0 [cr 81, ai_i p, ai_i m, ai_un, ai_un] [] T E nx kc ks
  refine w_const (n := 0) (npc := 1) rfl ?_
  refine w_istore (i := 3) (npc := 2) (loc' := [cr 81, ai_i p, ai_i m, ai_i 0, ai_un]) rfl rfl ?_
  refine w_const (n := 0) (npc := 3) rfl ?_
  refine w_istore (i := 4) (npc := 5) (loc' := [cr 81, ai_i p, ai_i m, ai_i 0, ai_i 0]) rfl rfl ?_
  have loop5 : ∀ (nf : Nat) (a : Int) (i : Int), ((m - i).toNat) < nf → (0 ≤ a ∧ a ≤ i ∧ i ≤ m) → cm_wp (ai_find ai_c168 sl) (ai_ev sl (d + 0)) x (kc + 0) (ks + 0) (fun rk rv T' E' nx' => rk = 1 ∧ T = T' ∧ E = E' ∧ nx = nx' ∧ ∃ z : Int, rv = ai_i z ∧ (0 ≤ z ∧ z ≤ 8)) 5 [cr 81, ai_i p, ai_i m, ai_i a, ai_i i] [] T E nx kc ks := by
    intro nf
    induction nf with
    | zero => intro a i hm; exact absurd hm (Nat.not_lt_zero _)
    | succ nf5 ih =>
      intro a i hm5 hv5
      have ih5 := ih; clear ih
      refine w_iload (i := 4) (npc := 7) rfl rfl ?_
      refine w_iload (i := 2) (npc := 8) rfl rfl ?_
      refine w_icmp (c := .ge) (npc := 11) (pt := 36) rfl (fun hc1 => ?_) (fun hc1 => ?_)
      · replace hc1 : m ≤ i := hc1
        refine w_iload (i := 3) (npc := 37) rfl rfl ?_
        exact w_iret rfl (⟨rfl, rfl, rfl, rfl, a, rfl, by omega⟩) (by omega) (by omega)
      · replace hc1 : ¬ (m ≤ i) := hc1
        refine w_iload (i := 3) (npc := 12) rfl rfl ?_
        refine w_aload (i := 0) (npc := 13) rfl rfl rfl ?_
        refine w_getf (i := 81) (ci := 8) (k := 29) (npc := 16) rfl (hI.pl (by decide)) (hI.T (by decide) rfl) (by decide) (hI.ref 81 29 (p := 98) (by decide) (by decide) rfl) ?_
        refine w_iload (i := 4) (npc := 18) rfl rfl ?_
        obtain ⟨z2, hz2, hz2a, hz2b⟩ := hI.int 98 (i : Int).toNat (lo := 0) (hi := 2) (by decide) (show (i : Int).toNat < 8 by omega) rfl
        have ghz2 := gv_eq hz2
        refine w_ald (i := 98) (t := 1) (n := 8) (npc := 19) rfl (hI.pl (by decide)) (hI.T (by decide) rfl) (by decide) rfl (by omega) hz2 ?_
        refine w_iload (i := 1) (npc := 20) rfl rfl ?_
        refine w_icmp (c := .ne) (npc := 23) (pt := 27) rfl (fun hc3 => ?_) (fun hc3 => ?_)
        · replace hc3 : z2 ≠ p := hc3
          refine w_const (n := 0) (npc := 28) rfl ?_
          refine w_iadd (npc := 29) rfl (by omega) ?_
          refine w_istore (i := 3) (npc := 30) (loc' := [cr 81, ai_i p, ai_i m, ai_i (a + 0), ai_i i]) rfl rfl ?_
          refine w_iinc (i := 4) (n := 1) (npc := 33) (loc' := [cr 81, ai_i p, ai_i m, ai_i (a + 0), ai_i (i + 1)]) rfl rfl (by omega) rfl ?_
          refine w_goto (pt := 5) rfl ?_
          exact ih5 (a + 0) (i + 1) (by omega) (by omega)
        · replace hc3 : ¬ (z2 ≠ p) := hc3
          refine w_const (n := 1) (npc := 24) rfl ?_
          refine w_goto (pt := 28) rfl ?_
          refine w_iadd (npc := 29) rfl (by omega) ?_
          refine w_istore (i := 3) (npc := 30) (loc' := [cr 81, ai_i p, ai_i m, ai_i (a + 1), ai_i i]) rfl rfl ?_
          refine w_iinc (i := 4) (n := 1) (npc := 33) (loc' := [cr 81, ai_i p, ai_i m, ai_i (a + 1), ai_i (i + 1)]) rfl rfl (by omega) rfl ?_
          refine w_goto (pt := 5) rfl ?_
          exact ih5 (a + 1) (i + 1) (by omega) (by omega)
  exact loop5 _ (0) (0) (Nat.lt_succ_self _) (by omega)
