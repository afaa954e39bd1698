set_option maxRecDepth 16384 in
theorem ct_c_slotOf {sl : Int × Int} {x : ai_E} {d : Nat} {T : cm_T} {E : cm_E} {nx : Nat} (w n : Int)  (hp0 : -1000 ≤ w ∧ w ≤ 1000) (hp1 : -1000 ≤ n ∧ n ≤ 1000) : cm_ct (ai_ev sl (d + 1)) x 34 [ai_i w, ai_i n] T E nx 0 0 (fun rk rv T' E' nx' => rk = 1 ∧ T = T' ∧ E = E' ∧ nx = nx' ∧ ∃ z : Int, rv = ai_i z ∧ (z = 60 * w + n - 1)) := by
  refine cm_body (M := ai_m34) rfl rfl (fun kc ks => ?_)
  show cm_wp (ai_find ai_c34 sl) (ai_ev sl (d + 0)) x (kc + 0) (ks + 0) _ 0 [ai_i w, ai_i n] [] T E nx kc ks
  refine w_iload (i := 0) (npc := 1) rfl rfl ?_
  refine w_const (n := 60) (npc := 3) rfl ?_
  refine w_imul (npc := 4) rfl (by omega) ?_
  refine w_iload (i := 1) (npc := 5) rfl rfl ?_
  refine w_iadd (npc := 6) rfl (by omega) ?_
  refine w_const (n := 1) (npc := 7) rfl ?_
  refine w_isub (npc := 8) rfl (by omega) ?_
  exact w_iret rfl (⟨rfl, rfl, rfl, rfl, w * 60 + n - 1, rfl, by omega⟩) (by omega) (by omega)
set_option maxRecDepth 16384 in
theorem ct_c_markOf {sl : Int × Int} {x : ai_E} {d : Nat} {T : cm_T} {E : cm_E} {nx : Nat} (s : Int)  (hp0 : 0 ≤ s ∧ s ≤ 299) : cm_ct (ai_ev sl (d + 1)) x 21 [ai_i s] T E nx 0 0 (fun rk rv T' E' nx' => rk = 1 ∧ T = T' ∧ E = E' ∧ nx = nx' ∧ ∃ z : Int, rv = ai_i z ∧ (0 ≤ z ∧ z ≤ 1000)) := by
  refine cm_body (M := ai_m21) rfl rfl (fun kc ks => ?_)
  show cm_wp (ai_find ai_c21 sl) (ai_ev sl (d + 0)) x (kc + 0) (ks + 0) _ 0 [ai_i s] [] T E nx kc ks
  refine w_iload (i := 0) (npc := 1) rfl rfl ?_
  refine w_const (n := 60) (npc := 3) rfl ?_
  refine w_idiv (npc := 4) rfl (by omega) (by omega) (fun z1 hz1 hz1b hz1c => ?_)
  refine w_const (n := 100) (npc := 6) rfl ?_
  refine w_imul (npc := 7) rfl (by omega) ?_
  refine w_iload (i := 0) (npc := 8) rfl rfl ?_
  refine w_const (n := 60) (npc := 10) rfl ?_
  refine w_irem (npc := 11) rfl (by omega) (by omega) (fun z3 hz3 hz3b => ?_)
  refine w_iadd (npc := 12) rfl (by omega) ?_
  refine w_const (n := 1) (npc := 13) rfl ?_
  refine w_iadd (npc := 14) rfl (by omega) ?_
  exact w_iret rfl (⟨rfl, rfl, rfl, rfl, z1 * 100 + z3 + 1, rfl, by omega⟩) (by omega) (by omega)
set_option maxRecDepth 16384 in
theorem ct_c_isSign {sl : Int × Int} {x : ai_E} {d : Nat} {T : cm_T} {E : cm_E} {nx : Nat} (g : Int)  : cm_ct (ai_ev sl (d + 1)) x 18 [ai_i g] T E nx 0 0 (fun rk rv T' E' nx' => rk = 1 ∧ T = T' ∧ E = E' ∧ nx = nx' ∧ ∃ z : Int, rv = ai_i z ∧ ((z = 1 ∧ 32 ≤ g ∧ g ≤ 126) ∨ (z = 0 ∧ ¬ (32 ≤ g ∧ g ≤ 126)))) := by
  refine cm_body (M := ai_m18) rfl rfl (fun kc ks => ?_)
  show cm_wp (ai_find ai_c18 sl) (ai_ev sl (d + 0)) x (kc + 0) (ks + 0) _ 0 [ai_i g] [] T E nx kc ks
  refine w_iload (i := 0) (npc := 1) rfl rfl ?_
  refine w_const (n := 32) (npc := 3) rfl ?_
  refine w_icmp (c := .lt) (npc := 6) (pt := 16) rfl (fun hc1 => ?_) (fun hc1 => ?_)
  · replace hc1 : g < (32 : Int) := hc1
    refine w_const (n := 0) (npc := 17) rfl ?_
    exact w_zret rfl (by omega) (⟨rfl, rfl, rfl, rfl, 0, rfl, by omega⟩) (by omega) (by omega)
  · replace hc1 : ¬ (g < (32 : Int)) := hc1
    refine w_iload (i := 0) (npc := 7) rfl rfl ?_
    refine w_const (n := 126) (npc := 9) rfl ?_
    refine w_icmp (c := .gt) (npc := 12) (pt := 16) rfl (fun hc2 => ?_) (fun hc2 => ?_)
    · replace hc2 : (126 : Int) < g := hc2
      refine w_const (n := 0) (npc := 17) rfl ?_
      exact w_zret rfl (by omega) (⟨rfl, rfl, rfl, rfl, 0, rfl, by omega⟩) (by omega) (by omega)
    · replace hc2 : ¬ ((126 : Int) < g) := hc2
      refine w_const (n := 1) (npc := 13) rfl ?_
      refine w_goto (pt := 17) rfl ?_
      exact w_zret rfl (by omega) (⟨rfl, rfl, rfl, rfl, 1, rfl, by omega⟩) (by omega) (by omega)
set_option maxRecDepth 16384 in
theorem ct_c_canMove {sl : Int × Int} {x : ai_E} {d : Nat} {T : cm_T} {E : cm_E} {nx : Nat} (l f t a : Int)  (hp0 : 0 ≤ l ∧ l ≤ 300) : cm_ct (ai_ev sl (d + 1)) x 4 [ai_i l, ai_i f, ai_i t, ai_i a] T E nx 0 0 (fun rk rv T' E' nx' => rk = 1 ∧ T = T' ∧ E = E' ∧ nx = nx' ∧ ∃ z : Int, rv = ai_i z ∧ (0 ≤ z ∧ z ≤ 1 ∧ (z = 1 → 0 ≤ f ∧ f ≤ t ∧ t < l ∧ t - f < 6 ∧ 0 ≤ a ∧ a ≤ l))) := by
  refine cm_body (M := ai_m4) rfl rfl (fun kc ks => ?_)
  show cm_wp (ai_find ai_c4 sl) (ai_ev sl (d + 0)) x (kc + 0) (ks + 0) _ 0 [ai_i l, ai_i f, ai_i t, ai_i a] [] T E nx kc ks
  refine w_iload (i := 1) (npc := 1) rfl rfl ?_
  refine w_if (c := .lt) (npc := 4) (pt := 45) rfl (fun hc1 => ?_) (fun hc1 => ?_)
  · replace hc1 : f < (0 : Int) := hc1
    refine w_const (n := 0) (npc := 46) rfl ?_
    exact w_zret rfl (by omega) (⟨rfl, rfl, rfl, rfl, 0, rfl, by omega⟩) (by omega) (by omega)
  · replace hc1 : ¬ (f < (0 : Int)) := hc1
    refine w_iload (i := 1) (npc := 5) rfl rfl ?_
    refine w_iload (i := 2) (npc := 6) rfl rfl ?_
    refine w_icmp (c := .gt) (npc := 9) (pt := 45) rfl (fun hc2 => ?_) (fun hc2 => ?_)
    · replace hc2 : t < f := hc2
      refine w_const (n := 0) (npc := 46) rfl ?_
      exact w_zret rfl (by omega) (⟨rfl, rfl, rfl, rfl, 0, rfl, by omega⟩) (by omega) (by omega)
    · replace hc2 : ¬ (t < f) := hc2
      refine w_iload (i := 2) (npc := 10) rfl rfl ?_
      refine w_iload (i := 0) (npc := 11) rfl rfl ?_
      refine w_icmp (c := .ge) (npc := 14) (pt := 45) rfl (fun hc3 => ?_) (fun hc3 => ?_)
      · replace hc3 : l ≤ t := hc3
        refine w_const (n := 0) (npc := 46) rfl ?_
        exact w_zret rfl (by omega) (⟨rfl, rfl, rfl, rfl, 0, rfl, by omega⟩) (by omega) (by omega)
      · replace hc3 : ¬ (l ≤ t) := hc3
        refine w_iload (i := 2) (npc := 15) rfl rfl ?_
        refine w_iload (i := 1) (npc := 16) rfl rfl ?_
        refine w_isub (npc := 17) rfl (by omega) ?_
        refine w_const (n := 6) (npc := 19) rfl ?_
        refine w_icmp (c := .ge) (npc := 22) (pt := 45) rfl (fun hc5 => ?_) (fun hc5 => ?_)
        · replace hc5 : (6 : Int) ≤ t - f := hc5
          refine w_const (n := 0) (npc := 46) rfl ?_
          exact w_zret rfl (by omega) (⟨rfl, rfl, rfl, rfl, 0, rfl, by omega⟩) (by omega) (by omega)
        · replace hc5 : ¬ ((6 : Int) ≤ t - f) := hc5
          refine w_iload (i := 3) (npc := 23) rfl rfl ?_
          refine w_if (c := .lt) (npc := 26) (pt := 45) rfl (fun hc6 => ?_) (fun hc6 => ?_)
          · replace hc6 : a < (0 : Int) := hc6
            refine w_const (n := 0) (npc := 46) rfl ?_
            exact w_zret rfl (by omega) (⟨rfl, rfl, rfl, rfl, 0, rfl, by omega⟩) (by omega) (by omega)
          · replace hc6 : ¬ (a < (0 : Int)) := hc6
            refine w_iload (i := 3) (npc := 27) rfl rfl ?_
            refine w_iload (i := 0) (npc := 28) rfl rfl ?_
            refine w_icmp (c := .gt) (npc := 31) (pt := 45) rfl (fun hc7 => ?_) (fun hc7 => ?_)
            · replace hc7 : l < a := hc7
              refine w_const (n := 0) (npc := 46) rfl ?_
              exact w_zret rfl (by omega) (⟨rfl, rfl, rfl, rfl, 0, rfl, by omega⟩) (by omega) (by omega)
            · replace hc7 : ¬ (l < a) := hc7
              refine w_iload (i := 3) (npc := 32) rfl rfl ?_
              refine w_iload (i := 1) (npc := 33) rfl rfl ?_
              refine w_icmp (c := .le) (npc := 36) (pt := 41) rfl (fun hc8 => ?_) (fun hc8 => ?_)
              · replace hc8 : a ≤ f := hc8
                refine w_const (n := 1) (npc := 42) rfl ?_
                refine w_goto (pt := 46) rfl ?_
                exact w_zret rfl (by omega) (⟨rfl, rfl, rfl, rfl, 1, rfl, by omega⟩) (by omega) (by omega)
              · replace hc8 : ¬ (a ≤ f) := hc8
                refine w_iload (i := 3) (npc := 37) rfl rfl ?_
                refine w_iload (i := 2) (npc := 38) rfl rfl ?_
                refine w_icmp (c := .le) (npc := 41) (pt := 45) rfl (fun hc9 => ?_) (fun hc9 => ?_)
                · replace hc9 : a ≤ t := hc9
                  refine w_const (n := 0) (npc := 46) rfl ?_
                  exact w_zret rfl (by omega) (⟨rfl, rfl, rfl, rfl, 0, rfl, by omega⟩) (by omega) (by omega)
                · replace hc9 : ¬ (a ≤ t) := hc9
                  refine w_const (n := 1) (npc := 42) rfl ?_
                  refine w_goto (pt := 46) rfl ?_
                  exact w_zret rfl (by omega) (⟨rfl, rfl, rfl, rfl, 1, rfl, by omega⟩) (by omega) (by omega)
set_option maxRecDepth 16384 in
theorem ct_sp_byteAt {sl : Int × Int} {x : ai_E} {d : Nat} {T : cm_T} {E : cm_E} {nx : Nat} (i : Int) {q : Nat} (hs_q : cs_st T E nx q) : cm_ct (ai_ev sl (d + 1)) x 84 [cr q, ai_i i] T E nx 0 0 (fun rk rv T' E' nx' => rk = 1 ∧ T = T' ∧ E = E' ∧ nx = nx' ∧ ∃ z : Int, rv = ai_i z ∧ (0 ≤ z ∧ z ≤ 255 ∧ (0 ≤ i → i < (stn T q : Int) → z = gv E (q + 1) i.toNat))) := by
  refine cm_body (M := ai_m84) rfl rfl (fun kc ks => ?_)
  show cm_wp (ai_find ai_c84 sl) (ai_ev sl (d + 0)) x (kc + 0) (ks + 0) _ 0 [cr q, ai_i i] [] T E nx kc ks
  refine w_iload (i := 1) (npc := 1) rfl rfl ?_
  refine w_if (c := .lt) (npc := 4) (pt := 22) rfl (fun hc1 => ?_) (fun hc1 => ?_)
  · replace hc1 : i < (0 : Int) := hc1
    refine w_const (n := 0) (npc := 23) rfl ?_
    exact w_iret rfl (⟨rfl, rfl, rfl, rfl, 0, rfl, by omega⟩) (by omega) (by omega)
  · replace hc1 : ¬ (i < (0 : Int)) := hc1
    refine w_iload (i := 1) (npc := 5) rfl rfl ?_
    refine w_aload (i := 0) (npc := 6) (v := cr q) rfl rfl rfl ?_
    refine w_getf (i := q) (ci := 4) (k := 0) (npc := 9) rfl hs_q.lt hs_q.T0 (by decide) hs_q.r ?_
    have hn9 := hs_q.n
    refine w_len (i := q + 1) (t := 1) (n := (stn T q)) (npc := 10) rfl hs_q.lt1 hs_q.T1 (by decide) ?_
    refine w_icmp (c := .ge) (npc := 13) (pt := 22) rfl (fun hc2 => ?_) (fun hc2 => ?_)
    · replace hc2 : (((stn T q) : Nat) : Int) ≤ i := hc2
      refine w_const (n := 0) (npc := 23) rfl ?_
      exact w_iret rfl (⟨rfl, rfl, rfl, rfl, 0, rfl, by omega⟩) (by omega) (by omega)
    · replace hc2 : ¬ ((((stn T q) : Nat) : Int) ≤ i) := hc2
      refine w_aload (i := 0) (npc := 14) (v := cr q) rfl rfl rfl ?_
      refine w_getf (i := q) (ci := 4) (k := 0) (npc := 17) rfl hs_q.lt hs_q.T0 (by decide) hs_q.r ?_
      refine w_iload (i := 1) (npc := 18) rfl rfl ?_
      have hn9 := hs_q.n
      obtain ⟨z3, hz3, hz3a, hz3b⟩ := hs_q.b (i : Int).toNat (by omega)
      have ghz3 := gv_eq hz3
      refine w_ald (i := q + 1) (t := 1) (n := (stn T q)) (npc := 19) rfl hs_q.lt1 hs_q.T1 (by decide) rfl (by omega) hz3 ?_
      refine w_goto (pt := 23) rfl ?_
      exact w_iret rfl (⟨rfl, rfl, rfl, rfl, z3, rfl, by omega⟩) (by omega) (by omega)
set_option maxRecDepth 16384 in
theorem ct_sp_pairAt {sl : Int × Int} {x : ai_E} {d : Nat} {T : cm_T} {E : cm_E} {nx : Nat} (i : Int) {q : Nat} (hs_q : cs_st T E nx q) : cm_ct (ai_ev sl (d + 1)) x 89 [cr q, ai_i i] T E nx 0 0 (fun rk rv T' E' nx' => rk = 1 ∧ T = T' ∧ E = E' ∧ nx = nx' ∧ ∃ z : Int, rv = ai_i z ∧ (0 ≤ z ∧ z ≤ 65535)) := by
  refine cm_body (M := ai_m89) rfl rfl (fun kc ks => ?_)
  show cm_wp (ai_find ai_c89 sl) (ai_ev sl (d + 0)) x (kc + 0) (ks + 0) _ 0 [cr q, ai_i i] [] T E nx kc ks
  refine w_iload (i := 1) (npc := 1) rfl rfl ?_
  refine w_if (c := .lt) (npc := 4) (pt := 37) rfl (fun hc1 => ?_) (fun hc1 => ?_)
  · replace hc1 : i < (0 : Int) := hc1
    refine w_const (n := 0) (npc := 38) rfl ?_
    exact w_iret rfl (⟨rfl, rfl, rfl, rfl, 0, rfl, by omega⟩) (by omega) (by omega)
  · replace hc1 : ¬ (i < (0 : Int)) := hc1
    refine w_iload (i := 1) (npc := 5) rfl rfl ?_
    refine w_aload (i := 0) (npc := 6) (v := cr q) rfl rfl rfl ?_
    refine w_getf (i := q) (ci := 4) (k := 0) (npc := 9) rfl hs_q.lt hs_q.T0 (by decide) hs_q.r ?_
    have hn9 := hs_q.n
    refine w_len (i := q + 1) (t := 1) (n := (stn T q)) (npc := 10) rfl hs_q.lt1 hs_q.T1 (by decide) ?_
    refine w_const (n := 1) (npc := 11) rfl ?_
    refine w_isub (npc := 12) rfl (by omega) ?_
    refine w_icmp (c := .ge) (npc := 15) (pt := 37) rfl (fun hc3 => ?_) (fun hc3 => ?_)
    · replace hc3 : (((stn T q) : Nat) : Int) - 1 ≤ i := hc3
      refine w_const (n := 0) (npc := 38) rfl ?_
      exact w_iret rfl (⟨rfl, rfl, rfl, rfl, 0, rfl, by omega⟩) (by omega) (by omega)
    · replace hc3 : ¬ ((((stn T q) : Nat) : Int) - 1 ≤ i) := hc3
      refine w_aload (i := 0) (npc := 16) (v := cr q) rfl rfl rfl ?_
      refine w_getf (i := q) (ci := 4) (k := 0) (npc := 19) rfl hs_q.lt hs_q.T0 (by decide) hs_q.r ?_
      refine w_iload (i := 1) (npc := 20) rfl rfl ?_
      have hn9 := hs_q.n
      obtain ⟨z4, hz4, hz4a, hz4b⟩ := hs_q.b (i : Int).toNat (by omega)
      have ghz4 := gv_eq hz4
      refine w_ald (i := q + 1) (t := 1) (n := (stn T q)) (npc := 21) rfl hs_q.lt1 hs_q.T1 (by decide) rfl (by omega) hz4 ?_
      refine w_const (n := 256) (npc := 24) rfl ?_
      refine w_imul (npc := 25) rfl (by omega) ?_
      refine w_aload (i := 0) (npc := 26) (v := cr q) rfl rfl rfl ?_
      refine w_getf (i := q) (ci := 4) (k := 0) (npc := 29) rfl hs_q.lt hs_q.T0 (by decide) hs_q.r ?_
      refine w_iload (i := 1) (npc := 30) rfl rfl ?_
      refine w_const (n := 1) (npc := 31) rfl ?_
      refine w_iadd (npc := 32) rfl (by omega) ?_
      have hn9 := hs_q.n
      obtain ⟨z7, hz7, hz7a, hz7b⟩ := hs_q.b (i + 1 : Int).toNat (by omega)
      have ghz7 := gv_eq hz7
      refine w_ald (i := q + 1) (t := 1) (n := (stn T q)) (npc := 33) rfl hs_q.lt1 hs_q.T1 (by decide) rfl (by omega) hz7 ?_
      refine w_iadd (npc := 34) rfl (by omega) ?_
      refine w_goto (pt := 38) rfl ?_
      exact w_iret rfl (⟨rfl, rfl, rfl, rfl, z4 * 256 + z7, rfl, by omega⟩) (by omega) (by omega)
set_option maxRecDepth 16384 in
theorem ct_sp_kind {sl : Int × Int} {x : ai_E} {d : Nat} {T : cm_T} {E : cm_E} {nx : Nat} {q : Nat} (hs_q : cs_st T E nx q) : cm_ct (ai_ev sl (d + 2)) x 85 [cr q] T E nx 0 0 (fun rk rv T' E' nx' => rk = 1 ∧ T = T' ∧ E = E' ∧ nx = nx' ∧ ∃ z : Int, rv = ai_i z ∧ (0 ≤ z ∧ z ≤ 255)) := by
  refine cm_body (M := ai_m85) rfl rfl (fun kc ks => ?_)
  show cm_wp (ai_find ai_c85 sl) (ai_ev sl (d + 1)) x (kc + 0) (ks + 0) _ 0 [cr q] [] T E nx kc ks
  refine w_aload (i := 0) (npc := 1) (v := cr q) rfl rfl rfl ?_
  refine w_const (n := 0) (npc := 2) rfl ?_
  refine w_virt (ci := 4) (i := q) (npc := 5) (a := [cr q, ai_i 0]) (rest := []) rfl rfl hs_q.lt hs_q.T0 rfl rfl rfl rfl (ct_sp_byteAt (sl := sl) (x := x) (d := d + 0) (0) hs_q) (Or.inl rfl) (fun k9 v9 T2 E2 nx2 kc2 ks2 hq1 hk2 hv2 => ?_)
  obtain ⟨rfl, rfl, rfl, rfl, z3, rfl, hz3⟩ := hq1
  obtain rfl : kc = kc2 := by omega
  obtain rfl : ks = ks2 := by omega
  refine Or.inr (Or.inl ⟨rfl, ?_⟩)
  exact w_iret rfl (⟨rfl, rfl, rfl, rfl, z3, rfl, by omega⟩) (by omega) (by omega)
set_option maxRecDepth 16384 in
theorem ct_sp_writer {sl : Int × Int} {x : ai_E} {d : Nat} {T : cm_T} {E : cm_E} {nx : Nat} {q : Nat} (hs_q : cs_st T E nx q) : cm_ct (ai_ev sl (d + 2)) x 93 [cr q] T E nx 0 0 (fun rk rv T' E' nx' => rk = 1 ∧ T = T' ∧ E = E' ∧ nx = nx' ∧ ∃ z : Int, rv = ai_i z ∧ (z = gv E (q + 1) 1 ∧ 0 ≤ z ∧ z ≤ 4)) := by
  refine cm_body (M := ai_m93) rfl rfl (fun kc ks => ?_)
  show cm_wp (ai_find ai_c93 sl) (ai_ev sl (d + 1)) x (kc + 0) (ks + 0) _ 0 [cr q] [] T E nx kc ks
  refine w_aload (i := 0) (npc := 1) (v := cr q) rfl rfl rfl ?_
  refine w_const (n := 1) (npc := 2) rfl ?_
  refine w_virt (ci := 4) (i := q) (npc := 5) (a := [cr q, ai_i 1]) (rest := []) rfl rfl hs_q.lt hs_q.T0 rfl rfl rfl rfl (ct_sp_byteAt (sl := sl) (x := x) (d := d + 0) (1) hs_q) (Or.inl rfl) (fun k9 v9 T2 E2 nx2 kc2 ks2 hq1 hk2 hv2 => ?_)
  obtain ⟨rfl, rfl, rfl, rfl, z3, rfl, hz3⟩ := hq1
  obtain rfl : kc = kc2 := by omega
  obtain rfl : ks = ks2 := by omega
  refine Or.inr (Or.inl ⟨rfl, ?_⟩)
  exact w_iret rfl (⟨rfl, rfl, rfl, rfl, z3, rfl, by have h1 := hs_q.w; have h3 := hs_q.n; have h2 : z3 = gv E (q + 1) 1 := hz3.2.2 (by omega) (by omega); omega⟩) (by omega) (by omega)
set_option maxRecDepth 16384 in
theorem ct_sp_number {sl : Int × Int} {x : ai_E} {d : Nat} {T : cm_T} {E : cm_E} {nx : Nat} {q : Nat} (hs_q : cs_st T E nx q) : cm_ct (ai_ev sl (d + 2)) x 88 [cr q] T E nx 0 0 (fun rk rv T' E' nx' => rk = 1 ∧ T = T' ∧ E = E' ∧ nx = nx' ∧ ∃ z : Int, rv = ai_i z ∧ (z = gv E (q + 1) 2 ∧ 1 ≤ z ∧ z ≤ 60)) := by
  refine cm_body (M := ai_m88) rfl rfl (fun kc ks => ?_)
  show cm_wp (ai_find ai_c88 sl) (ai_ev sl (d + 1)) x (kc + 0) (ks + 0) _ 0 [cr q] [] T E nx kc ks
  refine w_aload (i := 0) (npc := 1) (v := cr q) rfl rfl rfl ?_
  refine w_const (n := 2) (npc := 2) rfl ?_
  refine w_virt (ci := 4) (i := q) (npc := 5) (a := [cr q, ai_i 2]) (rest := []) rfl rfl hs_q.lt hs_q.T0 rfl rfl rfl rfl (ct_sp_byteAt (sl := sl) (x := x) (d := d + 0) (2) hs_q) (Or.inl rfl) (fun k9 v9 T2 E2 nx2 kc2 ks2 hq1 hk2 hv2 => ?_)
  obtain ⟨rfl, rfl, rfl, rfl, z3, rfl, hz3⟩ := hq1
  obtain rfl : kc = kc2 := by omega
  obtain rfl : ks = ks2 := by omega
  refine Or.inr (Or.inl ⟨rfl, ?_⟩)
  exact w_iret rfl (⟨rfl, rfl, rfl, rfl, z3, rfl, by have h1 := hs_q.w; have h3 := hs_q.n; have h2 : z3 = gv E (q + 1) 2 := hz3.2.2 (by omega) (by omega); omega⟩) (by omega) (by omega)
set_option maxRecDepth 16384 in
theorem ct_sp_seen {sl : Int × Int} {x : ai_E} {d : Nat} {T : cm_T} {E : cm_E} {nx : Nat} (w : Int) {q : Nat} (hs_q : cs_st T E nx q) (hp0 : -10 ≤ w ∧ w ≤ 1000) : cm_ct (ai_ev sl (d + 2)) x 91 [cr q, ai_i w] T E nx 0 0 (fun rk rv T' E' nx' => rk = 1 ∧ T = T' ∧ E = E' ∧ nx = nx' ∧ ∃ z : Int, rv = ai_i z ∧ (0 ≤ z ∧ z ≤ 255)) := by
  refine cm_body (M := ai_m91) rfl rfl (fun kc ks => ?_)
  show cm_wp (ai_find ai_c91 sl) (ai_ev sl (d + 1)) x (kc + 0) (ks + 0) _ 0 [cr q, ai_i w] [] T E nx kc ks
  refine w_aload (i := 0) (npc := 1) (v := cr q) rfl rfl rfl ?_
  refine w_const (n := 3) (npc := 2) rfl ?_
  refine w_iload (i := 1) (npc := 3) rfl rfl ?_
  refine w_iadd (npc := 4) rfl (by omega) ?_
  refine w_virt (ci := 4) (i := q) (npc := 7) (a := [cr q, ai_i (3 + w)]) (rest := []) rfl rfl hs_q.lt hs_q.T0 rfl rfl rfl rfl (ct_sp_byteAt (sl := sl) (x := x) (d := d + 0) (3 + w) hs_q) (Or.inl rfl) (fun k9 v9 T3 E3 nx3 kc3 ks3 hq2 hk3 hv3 => ?_)
  obtain ⟨rfl, rfl, rfl, rfl, z4, rfl, hz4⟩ := hq2
  obtain rfl : kc = kc3 := by omega
  obtain rfl : ks = ks3 := by omega
  refine Or.inr (Or.inl ⟨rfl, ?_⟩)
  exact w_iret rfl (⟨rfl, rfl, rfl, rfl, z4, rfl, by omega⟩) (by omega) (by omega)
set_option maxRecDepth 16384 in
theorem ct_sp_age {sl : Int × Int} {x : ai_E} {d : Nat} {T : cm_T} {E : cm_E} {nx : Nat} {q : Nat} (hs_q : cs_st T E nx q) : cm_ct (ai_ev sl (d + 2)) x 82 [cr q] T E nx 0 0 (fun rk rv T' E' nx' => rk = 1 ∧ T = T' ∧ E = E' ∧ nx = nx' ∧ ∃ z : Int, rv = ai_i z ∧ (0 ≤ z ∧ z ≤ 65535)) := by
  refine cm_body (M := ai_m82) rfl rfl (fun kc ks => ?_)
  show cm_wp (ai_find ai_c82 sl) (ai_ev sl (d + 1)) x (kc + 0) (ks + 0) _ 0 [cr q] [] T E nx kc ks
  refine w_aload (i := 0) (npc := 1) (v := cr q) rfl rfl rfl ?_
  refine w_const (n := 8) (npc := 3) rfl ?_
  refine w_virt (ci := 4) (i := q) (npc := 6) (a := [cr q, ai_i 8]) (rest := []) rfl rfl hs_q.lt hs_q.T0 rfl rfl rfl rfl (ct_sp_pairAt (sl := sl) (x := x) (d := d + 0) (8) hs_q) (Or.inl rfl) (fun k9 v9 T2 E2 nx2 kc2 ks2 hq1 hk2 hv2 => ?_)
  obtain ⟨rfl, rfl, rfl, rfl, z3, rfl, hz3⟩ := hq1
  obtain rfl : kc = kc2 := by omega
  obtain rfl : ks = ks2 := by omega
  refine Or.inr (Or.inl ⟨rfl, ?_⟩)
  exact w_iret rfl (⟨rfl, rfl, rfl, rfl, z3, rfl, by omega⟩) (by omega) (by omega)
set_option maxRecDepth 16384 in
theorem ct_sp_length {sl : Int × Int} {x : ai_E} {d : Nat} {T : cm_T} {E : cm_E} {nx : Nat} {q : Nat} (hs_q : cs_st T E nx q) : cm_ct (ai_ev sl (d + 1)) x 86 [cr q] T E nx 0 0 (fun rk rv T' E' nx' => rk = 1 ∧ T = T' ∧ E = E' ∧ nx = nx' ∧ ∃ z : Int, rv = ai_i z ∧ (z = (stn T q : Int) ∧ 3 ≤ z ∧ z ≤ 400)) := by
  refine cm_body (M := ai_m86) rfl rfl (fun kc ks => ?_)
  show cm_wp (ai_find ai_c86 sl) (ai_ev sl (d + 0)) x (kc + 0) (ks + 0) _ 0 [cr q] [] T E nx kc ks
  refine w_aload (i := 0) (npc := 1) (v := cr q) rfl rfl rfl ?_
  refine w_getf (i := q) (ci := 4) (k := 0) (npc := 4) rfl hs_q.lt hs_q.T0 (by decide) hs_q.r ?_
  have hn9 := hs_q.n
  refine w_len (i := q + 1) (t := 1) (n := (stn T q)) (npc := 5) rfl hs_q.lt1 hs_q.T1 (by decide) ?_
  exact w_iret rfl (⟨rfl, rfl, rfl, rfl, (((stn T q) : Nat) : Int), rfl, by have hn9 := hs_q.n; omega⟩) (by omega) (by omega)
set_option maxRecDepth 16384 in
theorem ct_sp_target {sl : Int × Int} {x : ai_E} {d : Nat} {T : cm_T} {E : cm_E} {nx : Nat} {q : Nat} (hs_q : cs_st T E nx q) : cm_ct (ai_ev sl (d + 3)) x 92 [cr q] T E nx 0 0 (fun rk rv T' E' nx' => rk = 1 ∧ T = T' ∧ E = E' ∧ nx = nx' ∧ ∃ z : Int, rv = ai_i z ∧ (0 ≤ z ∧ z ≤ 30000)) := by
  refine cm_body (M := ai_m92) rfl rfl (fun kc ks => ?_)
  show cm_wp (ai_find ai_c92 sl) (ai_ev sl (d + 2)) x (kc + 0) (ks + 0) _ 0 [cr q] [] T E nx kc ks
  refine w_aload (i := 0) (npc := 1) (v := cr q) rfl rfl rfl ?_
  refine w_virt (ci := 4) (i := q) (npc := 4) (a := [cr q]) (rest := []) rfl rfl hs_q.lt hs_q.T0 rfl rfl rfl rfl (ct_sp_kind (sl := sl) (x := x) (d := d + 0)  hs_q) (Or.inl rfl) (fun k9 v9 T2 E2 nx2 kc2 ks2 hq1 hk2 hv2 => ?_)
  obtain ⟨rfl, rfl, rfl, rfl, z3, rfl, hz3⟩ := hq1
  obtain rfl : kc = kc2 := by omega
  obtain rfl : ks = ks2 := by omega
  refine Or.inr (Or.inl ⟨rfl, ?_⟩)
  refine w_const (n := 1) (npc := 5) rfl ?_
  refine w_icmp (c := .ne) (npc := 8) (pt := 25) rfl (fun hc7 => ?_) (fun hc7 => ?_)
  · replace hc7 : z3 ≠ (1 : Int) := hc7
    refine w_aload (i := 0) (npc := 26) (v := cr q) rfl rfl rfl ?_
    refine w_virt (ci := 4) (i := q) (npc := 29) (a := [cr q]) (rest := []) rfl rfl hs_q.lt hs_q.T0 rfl rfl rfl rfl (ct_sp_kind (sl := sl) (x := x) (d := d + 0)  hs_q) (Or.inl rfl) (fun k9 v9 T9 E9 nx9 kc9 ks9 hq8 hk9 hv9 => ?_)
    obtain ⟨rfl, rfl, rfl, rfl, z10, rfl, hz10⟩ := hq8
    obtain rfl : kc = kc9 := by omega
    obtain rfl : ks = ks9 := by omega
    refine Or.inr (Or.inl ⟨rfl, ?_⟩)
    refine w_const (n := 2) (npc := 30) rfl ?_
    refine w_icmp (c := .ne) (npc := 33) (pt := 42) rfl (fun hc14 => ?_) (fun hc14 => ?_)
    · replace hc14 : z10 ≠ (2 : Int) := hc14
      refine w_const (n := 0) (npc := 43) rfl ?_
      exact w_iret rfl (⟨rfl, rfl, rfl, rfl, 0, rfl, by omega⟩) (by omega) (by omega)
    · replace hc14 : ¬ (z10 ≠ (2 : Int)) := hc14
      refine w_aload (i := 0) (npc := 34) (v := cr q) rfl rfl rfl ?_
      refine w_const (n := 10) (npc := 36) rfl ?_
      refine w_virt (ci := 4) (i := q) (npc := 39) (a := [cr q, ai_i 10]) (rest := []) rfl rfl hs_q.lt hs_q.T0 rfl rfl rfl rfl (ct_sp_byteAt (sl := sl) (x := x) (d := d + 1) (10) hs_q) (Or.inl rfl) (fun k9 v9 T16 E16 nx16 kc16 ks16 hq15 hk16 hv16 => ?_)
      obtain ⟨rfl, rfl, rfl, rfl, z17, rfl, hz17⟩ := hq15
      obtain rfl : kc = kc16 := by omega
      obtain rfl : ks = ks16 := by omega
      refine Or.inr (Or.inl ⟨rfl, ?_⟩)
      refine w_goto (pt := 43) rfl ?_
      exact w_iret rfl (⟨rfl, rfl, rfl, rfl, z17, rfl, by omega⟩) (by omega) (by omega)
  · replace hc7 : ¬ (z3 ≠ (1 : Int)) := hc7
    refine w_aload (i := 0) (npc := 9) (v := cr q) rfl rfl rfl ?_
    refine w_const (n := 10) (npc := 11) rfl ?_
    refine w_virt (ci := 4) (i := q) (npc := 14) (a := [cr q, ai_i 10]) (rest := []) rfl rfl hs_q.lt hs_q.T0 rfl rfl rfl rfl (ct_sp_byteAt (sl := sl) (x := x) (d := d + 1) (10) hs_q) (Or.inl rfl) (fun k9 v9 T22 E22 nx22 kc22 ks22 hq21 hk22 hv22 => ?_)
    obtain ⟨rfl, rfl, rfl, rfl, z23, rfl, hz23⟩ := hq21
    obtain rfl : kc = kc22 := by omega
    obtain rfl : ks = ks22 := by omega
    refine Or.inr (Or.inl ⟨rfl, ?_⟩)
    refine w_const (n := 100) (npc := 16) rfl ?_
    refine w_imul (npc := 17) rfl (by omega) ?_
    refine w_aload (i := 0) (npc := 18) (v := cr q) rfl rfl rfl ?_
    refine w_const (n := 11) (npc := 20) rfl ?_
    refine w_virt (ci := 4) (i := q) (npc := 23) (a := [cr q, ai_i 11]) (rest := [ai_i (z23 * 100)]) rfl rfl hs_q.lt hs_q.T0 rfl rfl rfl rfl (ct_sp_byteAt (sl := sl) (x := x) (d := d + 1) (11) hs_q) (Or.inl rfl) (fun k9 v9 T29 E29 nx29 kc29 ks29 hq28 hk29 hv29 => ?_)
    obtain ⟨rfl, rfl, rfl, rfl, z30, rfl, hz30⟩ := hq28
    obtain rfl : kc = kc29 := by omega
    obtain rfl : ks = ks29 := by omega
    refine Or.inr (Or.inl ⟨rfl, ?_⟩)
    refine w_iadd (npc := 24) rfl (by omega) ?_
    exact w_iret rfl (⟨rfl, rfl, rfl, rfl, z23 * 100 + z30, rfl, by omega⟩) (by omega) (by omega)
set_option maxRecDepth 16384 in
theorem ct_sp_markedSlot {sl : Int × Int} {x : ai_E} {d : Nat} {T : cm_T} {E : cm_E} {nx : Nat} (a : Int) {q : Nat} (hs_q : cs_st T E nx q) (hp0 : 0 ≤ a ∧ a ≤ 200000) : cm_ct (ai_ev sl (d + 2)) x 87 [cr q, ai_i a] T E nx 0 0 (fun rk rv T' E' nx' => rk = 1 ∧ T = T' ∧ E = E' ∧ nx = nx' ∧ ∃ z : Int, rv = ai_i z ∧ (-1 ≤ z ∧ z ≤ 299)) := by
  refine cm_body (M := ai_m87) rfl rfl (fun kc ks => ?_)
  show cm_wp (ai_find ai_c87 sl) (ai_ev sl (d + 1)) x (kc + 0) (ks + 0) _ 0 [cr q, ai_i a, ai_un, ai_un, ai_un] [] T E nx kc ks
  refine w_aload (i := 0) (npc := 1) (v := cr q) rfl rfl rfl ?_
  refine w_iload (i := 1) (npc := 2) rfl rfl ?_
  refine w_virt (ci := 4) (i := q) (npc := 5) (a := [cr q, ai_i a]) (rest := []) rfl rfl hs_q.lt hs_q.T0 rfl rfl rfl rfl (ct_sp_byteAt (sl := sl) (x := x) (d := d + 0) (a) hs_q) (Or.inl rfl) (fun k9 v9 T2 E2 nx2 kc2 ks2 hq1 hk2 hv2 => ?_)
  obtain ⟨rfl, rfl, rfl, rfl, z3, rfl, hz3⟩ := hq1
  obtain rfl : kc = kc2 := by omega
  obtain rfl : ks = ks2 := by omega
  refine Or.inr (Or.inl ⟨rfl, ?_⟩)
  refine w_istore (i := 2) (npc := 6) (loc' := [cr q, ai_i a, ai_i z3, ai_un, ai_un]) rfl rfl ?_
  refine w_aload (i := 0) (npc := 7) (v := cr q) rfl rfl rfl ?_
  refine w_iload (i := 1) (npc := 8) rfl rfl ?_
  refine w_const (n := 1) (npc := 9) rfl ?_
  refine w_iadd (npc := 10) rfl (by omega) ?_
  refine w_virt (ci := 4) (i := q) (npc := 13) (a := [cr q, ai_i (a + 1)]) (rest := []) rfl rfl hs_q.lt hs_q.T0 rfl rfl rfl rfl (ct_sp_byteAt (sl := sl) (x := x) (d := d + 0) (a + 1) hs_q) (Or.inl rfl) (fun k9 v9 T9 E9 nx9 kc9 ks9 hq8 hk9 hv9 => ?_)
  obtain ⟨rfl, rfl, rfl, rfl, z10, rfl, hz10⟩ := hq8
  obtain rfl : kc = kc9 := by omega
  obtain rfl : ks = ks9 := by omega
  refine Or.inr (Or.inl ⟨rfl, ?_⟩)
  refine w_istore (i := 3) (npc := 14) (loc' := [cr q, ai_i a, ai_i z3, ai_i z10, ai_un]) rfl rfl ?_
  refine w_iload (i := 2) (npc := 15) rfl rfl ?_
  refine w_const (n := 5) (npc := 16) rfl ?_
  refine w_icmp (c := .ge) (npc := 19) (pt := 34) rfl (fun hc14 => ?_) (fun hc14 => ?_)
  · replace hc14 : (5 : Int) ≤ z3 := hc14
    refine w_const (n := 0) (npc := 35) rfl ?_
    refine w_istore (i := 4) (npc := 37) (loc' := [cr q, ai_i a, ai_i z3, ai_i z10, ai_i 0]) rfl rfl ?_
    refine w_iload (i := 4) (npc := 39) rfl rfl ?_
    refine w_if (c := .eq) (npc := 42) (pt := 50) rfl (fun hc15 => ?_) (fun hc15 => ?_)
    · replace hc15 : (0 : Int) = 0 := hc15
      refine w_const (n := (-1)) (npc := 51) rfl ?_
      exact w_iret rfl (⟨rfl, rfl, rfl, rfl, (-1), rfl, by omega⟩) (by omega) (by omega)
    · replace hc15 : ¬ ((0 : Int) = 0) := hc15
      refine w_iload (i := 2) (npc := 43) rfl rfl ?_
      refine w_iload (i := 3) (npc := 44) rfl rfl ?_
      refine w_call (npc := 47) (a := [ai_i z3, ai_i z10]) (rest := []) rfl rfl rfl rfl rfl (ct_c_slotOf (sl := sl) (x := x) (d := d + 0) (z3) (z10) (by omega) (by omega)) (Or.inr (fun _ _ _ _ _ hq => by have h1 := hq.1; omega)) (fun k9 v9 T17 E17 nx17 kc17 ks17 hq16 hk17 hv17 => ?_)
      obtain ⟨rfl, rfl, rfl, rfl, z18, rfl, hz18⟩ := hq16
      obtain rfl : kc = kc17 := by omega
      obtain rfl : ks = ks17 := by omega
      refine Or.inr (Or.inl ⟨rfl, ?_⟩)
      refine w_goto (pt := 51) rfl ?_
      exact w_iret rfl (⟨rfl, rfl, rfl, rfl, z18, rfl, by omega⟩) (by omega) (by omega)
  · replace hc14 : ¬ ((5 : Int) ≤ z3) := hc14
    refine w_iload (i := 3) (npc := 20) rfl rfl ?_
    refine w_const (n := 1) (npc := 21) rfl ?_
    refine w_icmp (c := .lt) (npc := 24) (pt := 34) rfl (fun hc22 => ?_) (fun hc22 => ?_)
    · replace hc22 : z10 < (1 : Int) := hc22
      refine w_const (n := 0) (npc := 35) rfl ?_
      refine w_istore (i := 4) (npc := 37) (loc' := [cr q, ai_i a, ai_i z3, ai_i z10, ai_i 0]) rfl rfl ?_
      refine w_iload (i := 4) (npc := 39) rfl rfl ?_
      refine w_if (c := .eq) (npc := 42) (pt := 50) rfl (fun hc23 => ?_) (fun hc23 => ?_)
      · replace hc23 : (0 : Int) = 0 := hc23
        refine w_const (n := (-1)) (npc := 51) rfl ?_
        exact w_iret rfl (⟨rfl, rfl, rfl, rfl, (-1), rfl, by omega⟩) (by omega) (by omega)
      · replace hc23 : ¬ ((0 : Int) = 0) := hc23
        refine w_iload (i := 2) (npc := 43) rfl rfl ?_
        refine w_iload (i := 3) (npc := 44) rfl rfl ?_
        refine w_call (npc := 47) (a := [ai_i z3, ai_i z10]) (rest := []) rfl rfl rfl rfl rfl (ct_c_slotOf (sl := sl) (x := x) (d := d + 0) (z3) (z10) (by omega) (by omega)) (Or.inr (fun _ _ _ _ _ hq => by have h1 := hq.1; omega)) (fun k9 v9 T25 E25 nx25 kc25 ks25 hq24 hk25 hv25 => ?_)
        obtain ⟨rfl, rfl, rfl, rfl, z26, rfl, hz26⟩ := hq24
        obtain rfl : kc = kc25 := by omega
        obtain rfl : ks = ks25 := by omega
        refine Or.inr (Or.inl ⟨rfl, ?_⟩)
        refine w_goto (pt := 51) rfl ?_
        exact w_iret rfl (⟨rfl, rfl, rfl, rfl, z26, rfl, by omega⟩) (by omega) (by omega)
    · replace hc22 : ¬ (z10 < (1 : Int)) := hc22
      refine w_iload (i := 3) (npc := 25) rfl rfl ?_
      refine w_const (n := 60) (npc := 27) rfl ?_
      refine w_icmp (c := .gt) (npc := 30) (pt := 34) rfl (fun hc30 => ?_) (fun hc30 => ?_)
      · replace hc30 : (60 : Int) < z10 := hc30
        refine w_const (n := 0) (npc := 35) rfl ?_
        refine w_istore (i := 4) (npc := 37) (loc' := [cr q, ai_i a, ai_i z3, ai_i z10, ai_i 0]) rfl rfl ?_
        refine w_iload (i := 4) (npc := 39) rfl rfl ?_
        refine w_if (c := .eq) (npc := 42) (pt := 50) rfl (fun hc31 => ?_) (fun hc31 => ?_)
        · replace hc31 : (0 : Int) = 0 := hc31
          refine w_const (n := (-1)) (npc := 51) rfl ?_
          exact w_iret rfl (⟨rfl, rfl, rfl, rfl, (-1), rfl, by omega⟩) (by omega) (by omega)
        · replace hc31 : ¬ ((0 : Int) = 0) := hc31
          refine w_iload (i := 2) (npc := 43) rfl rfl ?_
          refine w_iload (i := 3) (npc := 44) rfl rfl ?_
          refine w_call (npc := 47) (a := [ai_i z3, ai_i z10]) (rest := []) rfl rfl rfl rfl rfl (ct_c_slotOf (sl := sl) (x := x) (d := d + 0) (z3) (z10) (by omega) (by omega)) (Or.inr (fun _ _ _ _ _ hq => by have h1 := hq.1; omega)) (fun k9 v9 T33 E33 nx33 kc33 ks33 hq32 hk33 hv33 => ?_)
          obtain ⟨rfl, rfl, rfl, rfl, z34, rfl, hz34⟩ := hq32
          obtain rfl : kc = kc33 := by omega
          obtain rfl : ks = ks33 := by omega
          refine Or.inr (Or.inl ⟨rfl, ?_⟩)
          refine w_goto (pt := 51) rfl ?_
          exact w_iret rfl (⟨rfl, rfl, rfl, rfl, z34, rfl, by omega⟩) (by omega) (by omega)
      · replace hc30 : ¬ ((60 : Int) < z10) := hc30
        refine w_const (n := 1) (npc := 31) rfl ?_
        refine w_goto (pt := 35) rfl ?_
        refine w_istore (i := 4) (npc := 37) (loc' := [cr q, ai_i a, ai_i z3, ai_i z10, ai_i 1]) rfl rfl ?_
        refine w_iload (i := 4) (npc := 39) rfl rfl ?_
        refine w_if (c := .eq) (npc := 42) (pt := 50) rfl (fun hc38 => ?_) (fun hc38 => ?_)
        · replace hc38 : (1 : Int) = 0 := hc38
          refine w_const (n := (-1)) (npc := 51) rfl ?_
          exact w_iret rfl (⟨rfl, rfl, rfl, rfl, (-1), rfl, by omega⟩) (by omega) (by omega)
        · replace hc38 : ¬ ((1 : Int) = 0) := hc38
          refine w_iload (i := 2) (npc := 43) rfl rfl ?_
          refine w_iload (i := 3) (npc := 44) rfl rfl ?_
          refine w_call (npc := 47) (a := [ai_i z3, ai_i z10]) (rest := []) rfl rfl rfl rfl rfl (ct_c_slotOf (sl := sl) (x := x) (d := d + 0) (z3) (z10) (by omega) (by omega)) (Or.inr (fun _ _ _ _ _ hq => by have h1 := hq.1; omega)) (fun k9 v9 T40 E40 nx40 kc40 ks40 hq39 hk40 hv40 => ?_)
          obtain ⟨rfl, rfl, rfl, rfl, z41, rfl, hz41⟩ := hq39
          obtain rfl : kc = kc40 := by omega
          obtain rfl : ks = ks40 := by omega
          refine Or.inr (Or.inl ⟨rfl, ?_⟩)
          refine w_goto (pt := 51) rfl ?_
          exact w_iret rfl (⟨rfl, rfl, rfl, rfl, z41, rfl, by omega⟩) (by omega) (by omega)
set_option maxRecDepth 16384 in
theorem ct_sp_behindMoved {sl : Int × Int} {x : ai_E} {d : Nat} {T : cm_T} {E : cm_E} {nx : Nat} (a : Int) {q : Nat} (hs_q : cs_st T E nx q) (hp0 : 0 ≤ a ∧ a ≤ 200000) : cm_ct (ai_ev sl (d + 2)) x 83 [cr q, ai_i a] T E nx 0 0 (fun rk rv T' E' nx' => rk = 1 ∧ T = T' ∧ E = E' ∧ nx = nx' ∧ ∃ z : Int, rv = ai_i z ∧ (a + 3 ≤ z ∧ z ≤ a + 513)) := by
  refine cm_body (M := ai_m83) rfl rfl (fun kc ks => ?_)
  show cm_wp (ai_find ai_c83 sl) (ai_ev sl (d + 1)) x (kc + 0) (ks + 0) _ 0 [cr q, ai_i a] [] T E nx kc ks
  refine w_iload (i := 1) (npc := 1) rfl rfl ?_
  refine w_const (n := 3) (npc := 2) rfl ?_
  refine w_iadd (npc := 3) rfl (by omega) ?_
  refine w_const (n := 2) (npc := 4) rfl ?_
  refine w_aload (i := 0) (npc := 5) (v := cr q) rfl rfl rfl ?_
  refine w_iload (i := 1) (npc := 6) rfl rfl ?_
  refine w_const (n := 2) (npc := 7) rfl ?_
  refine w_iadd (npc := 8) rfl (by omega) ?_
  refine w_virt (ci := 4) (i := q) (npc := 11) (a := [cr q, ai_i (a + 2)]) (rest := [ai_i 2, ai_i (a + 3)]) rfl rfl hs_q.lt hs_q.T0 rfl rfl rfl rfl (ct_sp_byteAt (sl := sl) (x := x) (d := d + 0) (a + 2) hs_q) (Or.inl rfl) (fun k9 v9 T4 E4 nx4 kc4 ks4 hq3 hk4 hv4 => ?_)
  obtain ⟨rfl, rfl, rfl, rfl, z5, rfl, hz5⟩ := hq3
  obtain rfl : kc = kc4 := by omega
  obtain rfl : ks = ks4 := by omega
  refine Or.inr (Or.inl ⟨rfl, ?_⟩)
  refine w_imul (npc := 12) rfl (by omega) ?_
  refine w_iadd (npc := 13) rfl (by omega) ?_
  exact w_iret rfl (⟨rfl, rfl, rfl, rfl, a + 3 + (2 * z5), rfl, by omega⟩) (by omega) (by omega)
set_option maxRecDepth 16384 in
theorem ct_sp_sameAs {sl : Int × Int} {x : ai_E} {d : Nat} {T : cm_T} {E : cm_E} {nx : Nat} {q : Nat} (hs_q : cs_st T E nx q) {r : Nat} (hs_r : cs_st T E nx r) : cm_ct (ai_ev sl (d + 1)) x 90 [cr q, cr r] T E nx 0 0 (fun rk rv T' E' nx' => rk = 1 ∧ T = T' ∧ E = E' ∧ nx = nx' ∧ ∃ z : Int, rv = ai_i z ∧ (0 ≤ z ∧ z ≤ 1)) := by
  refine cm_body (M := ai_m90) rfl rfl (fun kc ks => ?_)
  show cm_wp (ai_find ai_c90 sl) (ai_ev sl (d + 0)) x (kc + 0) (ks + 0) _ 0 [cr q, cr r, ai_un] [] T E nx kc ks
  refine w_aload (i := 0) (npc := 1) (v := cr q) rfl rfl rfl ?_
  refine w_aload (i := 1) (npc := 2) (v := cr r) rfl rfl rfl ?_
  refine w_acmp (pt := 7) (npc := 5) rfl rfl rfl ?_ ?_
  · skip
    refine w_aload (i := 1) (npc := 8) (v := cr r) rfl rfl rfl ?_
    refine w_isnullR (pt := 24) (npc := 11) rfl ?_
    refine w_aload (i := 1) (npc := 12) (v := cr r) rfl rfl rfl ?_
    refine w_getf (i := r) (ci := 4) (k := 0) (npc := 15) rfl hs_r.lt hs_r.T0 (by decide) hs_r.r ?_
    have hn9 := hs_r.n
    refine w_len (i := r + 1) (t := 1) (n := (stn T r)) (npc := 16) rfl hs_r.lt1 hs_r.T1 (by decide) ?_
    refine w_aload (i := 0) (npc := 17) (v := cr q) rfl rfl rfl ?_
    refine w_getf (i := q) (ci := 4) (k := 0) (npc := 20) rfl hs_q.lt hs_q.T0 (by decide) hs_q.r ?_
    have hn9 := hs_q.n
    refine w_len (i := q + 1) (t := 1) (n := (stn T q)) (npc := 21) rfl hs_q.lt1 hs_q.T1 (by decide) ?_
    refine w_icmp (c := .eq) (npc := 24) (pt := 26) rfl (fun hc1 => ?_) (fun hc1 => ?_)
    · replace hc1 : (((stn T r) : Nat) : Int) = (((stn T q) : Nat) : Int) := hc1
      refine w_const (n := 0) (npc := 27) rfl ?_
      refine w_istore (i := 2) (npc := 28) (loc' := [cr q, cr r, ai_i 0]) rfl rfl ?_
      have loop28 : ∀ (nf : Nat) (i : Int), (((stn T q : Int) - i).toNat) < nf → (0 ≤ i ∧ i ≤ (stn T q : Int)) → cm_wp (ai_find ai_c90 sl) (ai_ev sl (d + 0)) x (kc + 0) (ks + 0) (fun rk rv T' E' nx' => rk = 1 ∧ T = T' ∧ E = E' ∧ nx = nx' ∧ ∃ z : Int, rv = ai_i z ∧ (0 ≤ z ∧ z ≤ 1)) 28 [cr q, cr r, ai_i i] [] T E nx kc ks := by
        intro nf
        induction nf with
        | zero => intro i hm; exact absurd hm (Nat.not_lt_zero _)
        | succ nf28 ih =>
          intro i hm28 hv28
          have ih28 := ih; clear ih
          refine w_iload (i := 2) (npc := 29) rfl rfl ?_
          refine w_aload (i := 0) (npc := 30) (v := cr q) rfl rfl rfl ?_
          refine w_getf (i := q) (ci := 4) (k := 0) (npc := 33) rfl hs_q.lt hs_q.T0 (by decide) hs_q.r ?_
          have hn9 := hs_q.n
          refine w_len (i := q + 1) (t := 1) (n := (stn T q)) (npc := 34) rfl hs_q.lt1 hs_q.T1 (by decide) ?_
          refine w_icmp (c := .ge) (npc := 37) (pt := 60) rfl (fun hc2 => ?_) (fun hc2 => ?_)
          · replace hc2 : (((stn T q) : Nat) : Int) ≤ i := hc2
            refine w_const (n := 1) (npc := 61) rfl ?_
            exact w_zret rfl (by omega) (⟨rfl, rfl, rfl, rfl, 1, rfl, by omega⟩) (by omega) (by omega)
          · replace hc2 : ¬ ((((stn T q) : Nat) : Int) ≤ i) := hc2
            refine w_aload (i := 0) (npc := 38) (v := cr q) rfl rfl rfl ?_
            refine w_getf (i := q) (ci := 4) (k := 0) (npc := 41) rfl hs_q.lt hs_q.T0 (by decide) hs_q.r ?_
            refine w_iload (i := 2) (npc := 42) rfl rfl ?_
            have hn9 := hs_q.n
            obtain ⟨z3, hz3, hz3a, hz3b⟩ := hs_q.b (i : Int).toNat (by omega)
            have ghz3 := gv_eq hz3
            refine w_ald (i := q + 1) (t := 1) (n := (stn T q)) (npc := 43) rfl hs_q.lt1 hs_q.T1 (by decide) rfl (by omega) hz3 ?_
            refine w_aload (i := 1) (npc := 44) (v := cr r) rfl rfl rfl ?_
            refine w_getf (i := r) (ci := 4) (k := 0) (npc := 47) rfl hs_r.lt hs_r.T0 (by decide) hs_r.r ?_
            refine w_iload (i := 2) (npc := 48) rfl rfl ?_
            have hn9 := hs_r.n
            obtain ⟨z4, hz4, hz4a, hz4b⟩ := hs_r.b (i : Int).toNat (by omega)
            have ghz4 := gv_eq hz4
            refine w_ald (i := r + 1) (t := 1) (n := (stn T r)) (npc := 49) rfl hs_r.lt1 hs_r.T1 (by decide) rfl (by omega) hz4 ?_
            refine w_icmp (c := .eq) (npc := 52) (pt := 54) rfl (fun hc5 => ?_) (fun hc5 => ?_)
            · replace hc5 : z3 = z4 := hc5
              refine w_iinc (i := 2) (n := 1) (npc := 57) (loc' := [cr q, cr r, ai_i (i + 1)]) rfl rfl (by omega) rfl ?_
              refine w_goto (pt := 28) rfl ?_
              exact ih28 (i + 1) (by omega) (by omega)
            · replace hc5 : ¬ (z3 = z4) := hc5
              refine w_const (n := 0) (npc := 53) rfl ?_
              exact w_zret rfl (by omega) (⟨rfl, rfl, rfl, rfl, 0, rfl, by omega⟩) (by omega) (by omega)
      exact loop28 _ (0) (Nat.lt_succ_self _) (by omega)
    · replace hc1 : ¬ ((((stn T r) : Nat) : Int) = (((stn T q) : Nat) : Int)) := hc1
      refine w_const (n := 0) (npc := 25) rfl ?_
      exact w_zret rfl (by omega) (⟨rfl, rfl, rfl, rfl, 0, rfl, by omega⟩) (by omega) (by omega)
  · skip
    refine w_const (n := 1) (npc := 6) rfl ?_
    exact w_zret rfl (by omega) (⟨rfl, rfl, rfl, rfl, 1, rfl, by omega⟩) (by omega) (by omega)
