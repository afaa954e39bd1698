set_option maxRecDepth 16384 in
theorem ct_m_lacksOne {sl : Int × Int} {x : ai_E} {d : Nat} {T : cm_T} {E : cm_E} {nx : Nat} (p o w n : Int) (hI : cs_I T E nx) (hp0 : 0 ≤ p ∧ p ≤ 4) (hp1 : 0 ≤ o ∧ o ≤ 4) (hp2 : 0 ≤ w ∧ w ≤ 4) (hp3 : 1 ≤ n ∧ n ≤ 60) : cm_ct (ai_ev sl (d + 4)) x 178 [cr 81, ai_i p, ai_i o, ai_i w, ai_i n] T E nx 0 0 (fun rk rv T' E' nx' => rk = 1 ∧ T = T' ∧ E = E' ∧ nx = nx' ∧ ∃ z : Int, rv = ai_i z ∧ (0 ≤ z ∧ z ≤ 1)) := by
  refine cm_body (M := ai_m178) rfl rfl (fun kc ks => ?_)
  show cm_wp (ai_find ai_c178 sl) (ai_ev sl (d + 3)) x (kc + 0) (ks + 0) _ 0 [cr 81, ai_i p, ai_i o, ai_i w, ai_i n] [] T E nx kc ks
  refine w_aload (i := 0) (npc := 1) rfl rfl rfl ?_
  refine w_iload (i := 1) (npc := 2) rfl rfl ?_
  refine w_iload (i := 3) (npc := 3) rfl rfl ?_
  refine w_iload (i := 4) (npc := 5) rfl rfl ?_
  refine w_virt (ci := 8) (i := 81) (npc := 8) (a := [cr 81, ai_i p, ai_i w, ai_i n]) (rest := []) rfl rfl (hI.pl (by decide)) (hI.T (by decide) rfl) rfl rfl rfl rfl (ct_m_hasStep (sl := sl) (x := x) (d := d + 0) (p) (w) (n) hI (by omega)) (Or.inl rfl) (fun k9 v9 T9 E2 nx9 kc9 ks9 hq1 hk9 hs9 => ?_)
  obtain ⟨rfl, rfl, rfl, rfl, z3, rfl, hz3⟩ := hq1
  obtain rfl : kc = kc9 := by omega
  obtain rfl : ks = ks9 := by omega
  refine Or.inr (Or.inl ⟨rfl, ?_⟩)
  refine w_if (c := .eq) (npc := 11) (pt := 32) rfl (fun hc4 => ?_) (fun hc4 => ?_)
  · replace hc4 : z3 = (0 : Int) := hc4
    refine w_const (n := 1) (npc := 33) rfl ?_
    refine w_goto (pt := 37) rfl ?_
    exact w_zret rfl (by omega) (⟨rfl, rfl, rfl, rfl, 1, rfl, by omega⟩) (by omega) (by omega)
  · replace hc4 : ¬ (z3 = (0 : Int)) := hc4
    refine w_aload (i := 0) (npc := 12) rfl rfl rfl ?_
    refine w_iload (i := 1) (npc := 13) rfl rfl ?_
    refine w_iload (i := 3) (npc := 14) rfl rfl ?_
    refine w_iload (i := 4) (npc := 16) rfl rfl ?_
    refine w_call (npc := 19) (a := [ai_i p, ai_i w, ai_i n]) (rest := [cr 81]) rfl rfl rfl rfl rfl (ct_m_rowOf (sl := sl) (x := x) (d := d + 2) (p) (w) (n) (by omega) (by omega) (by omega)) (Or.inr (fun _ _ _ _ _ hq => by have h1 := hq.1; omega)) (fun k9 v9 T9 E6 nx9 kc9 ks9 hq5 hk9 hs9 => ?_)
    obtain ⟨rfl, rfl, rfl, rfl, z7, rfl, hz7⟩ := hq5
    obtain rfl : kc = kc9 := by omega
    obtain rfl : ks = ks9 := by omega
    refine Or.inr (Or.inl ⟨rfl, ?_⟩)
    refine w_iload (i := 2) (npc := 20) rfl rfl ?_
    refine w_iload (i := 3) (npc := 21) rfl rfl ?_
    refine w_iload (i := 4) (npc := 23) rfl rfl ?_
    refine w_call (npc := 26) (a := [ai_i o, ai_i w, ai_i n]) (rest := [ai_i z7, cr 81]) rfl rfl rfl rfl rfl (ct_m_rowOf (sl := sl) (x := x) (d := d + 2) (o) (w) (n) (by omega) (by omega) (by omega)) (Or.inr (fun _ _ _ _ _ hq => by have h1 := hq.1; omega)) (fun k9 v9 T9 E9 nx9 kc9 ks9 hq8 hk9 hs9 => ?_)
    obtain ⟨rfl, rfl, rfl, rfl, z10, rfl, hz10⟩ := hq8
    obtain rfl : kc = kc9 := by omega
    obtain rfl : ks = ks9 := by omega
    refine Or.inr (Or.inl ⟨rfl, ?_⟩)
    refine w_virt (ci := 8) (i := 81) (npc := 29) (a := [cr 81, ai_i z7, ai_i z10]) (rest := []) rfl rfl (hI.pl (by decide)) (hI.T (by decide) rfl) rfl rfl rfl rfl (ct_m_isLike (sl := sl) (x := x) (d := d + 2) (z7) (z10) hI (by omega) (by omega)) (Or.inl rfl) (fun k9 v9 T9 E12 nx9 kc9 ks9 hq11 hk9 hs9 => ?_)
    obtain ⟨rfl, rfl, rfl, rfl, z13, rfl, hz13⟩ := hq11
    obtain rfl : kc = kc9 := by omega
    obtain rfl : ks = ks9 := by omega
    refine Or.inr (Or.inl ⟨rfl, ?_⟩)
    refine w_if (c := .ne) (npc := 32) (pt := 36) rfl (fun hc14 => ?_) (fun hc14 => ?_)
    · replace hc14 : z13 ≠ (0 : Int) := hc14
      refine w_const (n := 0) (npc := 37) rfl ?_
      exact w_zret rfl (by omega) (⟨rfl, rfl, rfl, rfl, 0, rfl, by omega⟩) (by omega) (by omega)
    · replace hc14 : ¬ (z13 ≠ (0 : Int)) := hc14
      refine w_const (n := 1) (npc := 33) rfl ?_
      refine w_goto (pt := 37) rfl ?_
      exact w_zret rfl (by omega) (⟨rfl, rfl, rfl, rfl, 1, rfl, by omega⟩) (by omega) (by omega)
set_option maxRecDepth 16384 in
theorem ct_m_lackOf {sl : Int × Int} {x : ai_E} {d : Nat} {T : cm_T} {E : cm_E} {nx : Nat} (p o i : Int) (hI : cs_I T E nx) (hp0 : 0 ≤ p ∧ p ≤ 4) (hp1 : 0 ≤ o ∧ o ≤ 4) : cm_ct (ai_ev sl (d + 5)) x 176 [cr 81, ai_i p, ai_i o, ai_i i] T E nx 0 0 (fun rk rv T' E' nx' => rk = 1 ∧ T = T' ∧ E = E' ∧ nx = nx' ∧ ∃ z : Int, rv = ai_i z ∧ (-1 ≤ z ∧ z ≤ 500)) := by
  refine cm_body (M := ai_m176) rfl rfl (fun kc ks => ?_)
  show cm_wp (ai_find ai_c176 sl) (ai_ev sl (d + 4)) x (kc + 0) (ks + 0) _ 0 [cr 81, ai_i p, ai_i o, ai_i i, ai_un, ai_un, ai_un] [] T E nx kc ks
  refine w_const (n := 0) (npc := 1) rfl ?_
  refine w_istore (i := 4) (npc := 3) (loc' := [cr 81, ai_i p, ai_i o, ai_i i, ai_i 0, ai_un, ai_un]) rfl rfl ?_
  refine w_const (n := 0) (npc := 4) rfl ?_
  refine w_istore (i := 5) (npc := 6) (loc' := [cr 81, ai_i p, ai_i o, ai_i i, ai_i 0, ai_i 0, ai_un]) rfl rfl ?_
  have loop6 : ∀ (nf : Nat) (a : Int) (w : Int) (u6_6 : ai_V), ((5 - w).toNat) < nf → (0 ≤ a ∧ a ≤ 60 * w ∧ 0 ≤ w ∧ w ≤ 5) → cm_wp (ai_find ai_c176 sl) (ai_ev sl (d + 4)) x (kc + 0) (ks + 0) (fun rk rv T' E' nx' => rk = 1 ∧ T = T' ∧ E = E' ∧ nx = nx' ∧ ∃ z : Int, rv = ai_i z ∧ (-1 ≤ z ∧ z ≤ 500)) 6 [cr 81, ai_i p, ai_i o, ai_i i, ai_i a, ai_i w, u6_6] [] T E nx kc ks := by
    intro nf
    induction nf with
    | zero => intro a w u6_6 hm; exact absurd hm (Nat.not_lt_zero _)
    | succ nf6 ih =>
      intro a w u6_6 hm6 hv6
      have ih6 := ih; clear ih
      refine w_iload (i := 5) (npc := 8) rfl rfl ?_
      refine w_aload (i := 0) (npc := 9) rfl rfl rfl ?_
      obtain ⟨z1, hz1, hz1a, hz1b⟩ := hI.int 81 1 (lo := 1) (hi := 5) (by decide) (by decide) rfl
      have ghz1 := gv_eq hz1
      refine w_getf (i := 81) (ci := 8) (k := 1) (npc := 12) rfl (hI.pl (by decide)) (hI.T (by decide) rfl) (by decide) hz1 ?_
      refine w_icmp (c := .ge) (npc := 15) (pt := 80) rfl (fun hc2 => ?_) (fun hc2 => ?_)
      · replace hc2 : z1 ≤ w := hc2
        refine w_iload (i := 3) (npc := 81) rfl rfl ?_
        refine w_const (n := (-1)) (npc := 82) rfl ?_
        refine w_icmp (c := .ne) (npc := 85) (pt := 90) rfl (fun hc3 => ?_) (fun hc3 => ?_)
        · replace hc3 : i ≠ ((-1) : Int) := hc3
          refine w_const (n := (-1)) (npc := 91) rfl ?_
          exact w_iret rfl (⟨rfl, rfl, rfl, rfl, (-1), rfl, by omega⟩) (by omega) (by omega)
        · replace hc3 : ¬ (i ≠ ((-1) : Int)) := hc3
          refine w_iload (i := 4) (npc := 87) rfl rfl ?_
          refine w_goto (pt := 91) rfl ?_
          exact w_iret rfl (⟨rfl, rfl, rfl, rfl, a, rfl, by omega⟩) (by omega) (by omega)
      · replace hc2 : ¬ (z1 ≤ w) := hc2
        refine w_const (n := 1) (npc := 16) rfl ?_
        refine w_istore (i := 6) (npc := 18) (loc' := [cr 81, ai_i p, ai_i o, ai_i i, ai_i a, ai_i w, ai_i 1]) rfl rfl ?_
        have loop18 : ∀ (nf : Nat) (b : Int) (n : Int), ((61 - n).toNat) < nf → (0 ≤ b ∧ b ≤ 60 * w + n - 1 ∧ 1 ≤ n ∧ n ≤ 61) → cm_wp (ai_find ai_c176 sl) (ai_ev sl (d + 4)) x (kc + 0) (ks + 0) (fun rk rv T' E' nx' => rk = 1 ∧ T = T' ∧ E = E' ∧ nx = nx' ∧ ∃ z : Int, rv = ai_i z ∧ (-1 ≤ z ∧ z ≤ 500)) 18 [cr 81, ai_i p, ai_i o, ai_i i, ai_i b, ai_i w, ai_i n] [] T E nx kc ks := by
          intro nf
          induction nf with
          | zero => intro b n hm; exact absurd hm (Nat.not_lt_zero _)
          | succ nf18 ih =>
            intro b n hm18 hv18
            have ih18 := ih; clear ih
            refine w_iload (i := 6) (npc := 20) rfl rfl ?_
            refine w_aload (i := 0) (npc := 21) rfl rfl rfl ?_
            refine w_getf (i := 81) (ci := 8) (k := 3) (npc := 24) rfl (hI.pl (by decide)) (hI.T (by decide) rfl) (by decide) (hI.ref 81 3 (p := 83) (by decide) (by decide) rfl) ?_
            refine w_const (n := 5) (npc := 25) rfl ?_
            refine w_iload (i := 2) (npc := 26) rfl rfl ?_
            refine w_imul (npc := 27) rfl (by omega) ?_
            refine w_iload (i := 5) (npc := 29) rfl rfl ?_
            refine w_iadd (npc := 30) rfl (by omega) ?_
            obtain ⟨z6, hz6, hz6a, hz6b⟩ := hI.int 83 (5 * o + w : Int).toNat (lo := 0) (hi := 60) (by decide) (show (5 * o + w : Int).toNat < 25 by omega) rfl
            have ghz6 := gv_eq hz6
            refine w_ald (i := 83) (t := 1) (n := 25) (npc := 31) rfl (hI.pl (by decide)) (hI.T (by decide) rfl) (by decide) rfl (by omega) hz6 ?_
            refine w_icmp (c := .gt) (npc := 34) (pt := 74) rfl (fun hc7 => ?_) (fun hc7 => ?_)
            · replace hc7 : z6 < n := hc7
              refine w_iinc (i := 5) (n := 1) (npc := 77) (loc' := [cr 81, ai_i p, ai_i o, ai_i i, ai_i b, ai_i (w + 1), ai_i n]) rfl rfl (by omega) rfl ?_
              refine w_goto (pt := 6) rfl ?_
              exact ih6 (b) (w + 1) (ai_i n) (by omega) (by omega)
            · replace hc7 : ¬ (z6 < n) := hc7
              refine w_aload (i := 0) (npc := 35) rfl rfl rfl ?_
              refine w_iload (i := 1) (npc := 36) rfl rfl ?_
              refine w_iload (i := 2) (npc := 37) rfl rfl ?_
              refine w_iload (i := 5) (npc := 39) rfl rfl ?_
              refine w_iload (i := 6) (npc := 41) rfl rfl ?_
              refine w_virt (ci := 8) (i := 81) (npc := 44) (a := [cr 81, ai_i p, ai_i o, ai_i w, ai_i n]) (rest := []) rfl rfl (hI.pl (by decide)) (hI.T (by decide) rfl) rfl rfl rfl rfl (ct_m_lacksOne (sl := sl) (x := x) (d := d + 0) (p) (o) (w) (n) hI (by omega) (by omega) (by omega) (by omega)) (Or.inl rfl) (fun k9 v9 T9 E10 nx9 kc9 ks9 hq9 hk9 hs9 => ?_)
              obtain ⟨rfl, rfl, rfl, rfl, z11, rfl, hz11⟩ := hq9
              obtain rfl : kc = kc9 := by omega
              obtain rfl : ks = ks9 := by omega
              refine Or.inr (Or.inl ⟨rfl, ?_⟩)
              refine w_if (c := .ne) (npc := 47) (pt := 50) rfl (fun hc12 => ?_) (fun hc12 => ?_)
              · replace hc12 : z11 ≠ (0 : Int) := hc12
                refine w_iload (i := 4) (npc := 52) rfl rfl ?_
                refine w_iload (i := 3) (npc := 53) rfl rfl ?_
                refine w_icmp (c := .ne) (npc := 56) (pt := 65) rfl (fun hc13 => ?_) (fun hc13 => ?_)
                · replace hc13 : b ≠ i := hc13
                  refine w_iinc (i := 4) (n := 1) (npc := 68) (loc' := [cr 81, ai_i p, ai_i o, ai_i i, ai_i (b + 1), ai_i w, ai_i n]) rfl rfl (by omega) rfl ?_
                  refine w_iinc (i := 6) (n := 1) (npc := 71) (loc' := [cr 81, ai_i p, ai_i o, ai_i i, ai_i (b + 1), ai_i w, ai_i (n + 1)]) rfl rfl (by omega) rfl ?_
                  refine w_goto (pt := 18) rfl ?_
                  exact ih18 (b + 1) (n + 1) (by omega) (by omega)
                · replace hc13 : ¬ (b ≠ i) := hc13
                  refine w_const (n := 100) (npc := 58) rfl ?_
                  refine w_iload (i := 5) (npc := 60) rfl rfl ?_
                  refine w_imul (npc := 61) rfl (by omega) ?_
                  refine w_iload (i := 6) (npc := 63) rfl rfl ?_
                  refine w_iadd (npc := 64) rfl (by omega) ?_
                  exact w_iret rfl (⟨rfl, rfl, rfl, rfl, 100 * w + n, rfl, by omega⟩) (by omega) (by omega)
              · replace hc12 : ¬ (z11 ≠ (0 : Int)) := hc12
                refine w_goto (pt := 68) rfl ?_
                refine w_iinc (i := 6) (n := 1) (npc := 71) (loc' := [cr 81, ai_i p, ai_i o, ai_i i, ai_i b, ai_i w, ai_i (n + 1)]) rfl rfl (by omega) rfl ?_
                refine w_goto (pt := 18) rfl ?_
                exact ih18 (b) (n + 1) (by omega) (by omega)
        exact loop18 _ (a) (1) (Nat.lt_succ_self _) (by omega)
  exact loop6 _ (0) (0) (ai_un) (Nat.lt_succ_self _) (by omega)
set_option maxRecDepth 16384 in
theorem ct_m_named {sl : Int × Int} {x : ai_E} {d : Nat} {T : cm_T} {E : cm_E} {nx : Nat} (p a : Int) (hI : cs_I T E nx) (hp0 : 0 ≤ p ∧ p ≤ 4) (hp1 : -2147483648 ≤ a ∧ a ≤ 2147483647) : cm_ct (ai_ev sl (d + 4)) x 188 [cr 81, ai_i p, ai_i a] T E nx 0 0 (fun rk rv T' E' nx' => rk = 1 ∧ T = T' ∧ E = E' ∧ nx = nx' ∧ ∃ z : Int, rv = ai_i z ∧ (z = nmd E p a ∧ (z = -1 ∨ (0 ≤ z ∧ z ≤ 299)))) := by
  refine cm_body (M := ai_m188) rfl rfl (fun kc ks => ?_)
  show cm_wp (ai_find ai_c188 sl) (ai_ev sl (d + 3)) x (kc + 0) (ks + 0) _ 0 [cr 81, ai_i p, ai_i a] [] T E nx kc ks
  refine w_iload (i := 2) (npc := 1) rfl rfl ?_
  refine w_if (c := .lt) (npc := 4) (pt := 34) rfl (fun hc1 => ?_) (fun hc1 => ?_)
  · replace hc1 : a < (0 : Int) := hc1
    refine w_const (n := (-1)) (npc := 35) rfl ?_
    exact w_iret rfl (⟨rfl, rfl, rfl, rfl, (-1), rfl, ⟨by unfold nmd; split <;> omega, by omega⟩⟩) (by omega) (by omega)
  · replace hc1 : ¬ (a < (0 : Int)) := hc1
    refine w_aload (i := 0) (npc := 5) rfl rfl rfl ?_
    refine w_iload (i := 1) (npc := 6) rfl rfl ?_
    refine w_iload (i := 2) (npc := 7) rfl rfl ?_
    refine w_const (n := 100) (npc := 9) rfl ?_
    refine w_idiv (npc := 10) rfl (by omega) (by omega) (fun z2 hz2 hz2b hz2c => ?_)
    obtain rfl : a / 100 = z2 := (hz2 (by omega)).symm
    refine w_iload (i := 2) (npc := 11) rfl rfl ?_
    refine w_const (n := 100) (npc := 13) rfl ?_
    refine w_irem (npc := 14) rfl (by omega) (by omega) (fun z3 hz3 hz3b => ?_)
    obtain rfl : a % 100 = z3 := (hz3 (by omega)).symm
    refine w_virt (ci := 8) (i := 81) (npc := 17) (a := [cr 81, ai_i p, ai_i (a / 100), ai_i (a % 100)]) (rest := []) rfl rfl (hI.pl (by decide)) (hI.T (by decide) rfl) rfl rfl rfl rfl (ct_m_hasStep (sl := sl) (x := x) (d := d + 0) (p) (a / 100) (a % 100) hI (by omega)) (Or.inl rfl) (fun k9 v9 T9 E5 nx9 kc9 ks9 hq4 hk9 hs9 => ?_)
    obtain ⟨rfl, rfl, rfl, rfl, z6, rfl, hz6⟩ := hq4
    obtain rfl : kc = kc9 := by omega
    obtain rfl : ks = ks9 := by omega
    refine Or.inr (Or.inl ⟨rfl, ?_⟩)
    refine w_if (c := .eq) (npc := 20) (pt := 34) rfl (fun hc7 => ?_) (fun hc7 => ?_)
    · replace hc7 : z6 = (0 : Int) := hc7
      refine w_const (n := (-1)) (npc := 35) rfl ?_
      exact w_iret rfl (⟨rfl, rfl, rfl, rfl, (-1), rfl, ⟨by unfold nmd; split <;> omega, by omega⟩⟩) (by omega) (by omega)
    · replace hc7 : ¬ (z6 = (0 : Int)) := hc7
      refine w_iload (i := 2) (npc := 21) rfl rfl ?_
      refine w_const (n := 100) (npc := 23) rfl ?_
      refine w_idiv (npc := 24) rfl (by omega) (by omega) (fun z8 hz8 hz8b hz8c => ?_)
      obtain rfl : a / 100 = z8 := (hz8 (by omega)).symm
      refine w_iload (i := 2) (npc := 25) rfl rfl ?_
      refine w_const (n := 100) (npc := 27) rfl ?_
      refine w_irem (npc := 28) rfl (by omega) (by omega) (fun z9 hz9 hz9b => ?_)
      obtain rfl : a % 100 = z9 := (hz9 (by omega)).symm
      refine w_call (npc := 31) (a := [ai_i (a / 100), ai_i (a % 100)]) (rest := []) rfl rfl rfl rfl rfl (ct_m_markOf (sl := sl) (x := x) (d := d + 2) (a / 100) (a % 100) (by omega) (by omega)) (Or.inr (fun _ _ _ _ _ hq => by have h1 := hq.1; omega)) (fun k9 v9 T9 E11 nx9 kc9 ks9 hq10 hk9 hs9 => ?_)
      obtain ⟨rfl, rfl, rfl, rfl, z12, rfl, hz12⟩ := hq10
      obtain rfl : kc = kc9 := by omega
      obtain rfl : ks = ks9 := by omega
      refine Or.inr (Or.inl ⟨rfl, ?_⟩)
      refine w_goto (pt := 35) rfl ?_
      exact w_iret rfl (⟨rfl, rfl, rfl, rfl, z12, rfl, ⟨by unfold nmd; split <;> omega, by omega⟩⟩) (by omega) (by omega)
set_option maxRecDepth 16384 in
theorem ct_m_setNamed {sl : Int × Int} {x : ai_E} {d : Nat} {T : cm_T} {E : cm_E} {nx : Nat} (p a : Int) (hI : cs_I T E nx) (hp0 : 0 ≤ p ∧ p ≤ 4) (hp1 : -2147483648 ≤ a ∧ a ≤ 2147483647) : cm_ct (ai_ev sl (d + 5)) x 210 [cr 81, ai_i p, ai_i a] T E nx 0 0 (fun rk rv T' E' nx' => rk = 1 ∧ T = T' ∧ E = E' ∧ nx = nx' ∧ ∃ z : Int, rv = ai_i z ∧ (z = snm E p a ∧ (z = -1 ∨ (0 ≤ z ∧ z ≤ 299)))) := by
  refine cm_body (M := ai_m210) rfl rfl (fun kc ks => ?_)
  show cm_wp (ai_find ai_c210 sl) (ai_ev sl (d + 4)) x (kc + 0) (ks + 0) _ 0 [cr 81, ai_i p, ai_i a, ai_un] [] T E nx kc ks
  refine w_aload (i := 0) (npc := 1) rfl rfl rfl ?_
  refine w_iload (i := 1) (npc := 2) rfl rfl ?_
  refine w_iload (i := 2) (npc := 3) rfl rfl ?_
  refine w_virt (ci := 8) (i := 81) (npc := 6) (a := [cr 81, ai_i p, ai_i a]) (rest := []) rfl rfl (hI.pl (by decide)) (hI.T (by decide) rfl) rfl rfl rfl rfl (ct_m_named (sl := sl) (x := x) (d := d + 0) (p) (a) hI (by omega) (by omega)) (Or.inl rfl) (fun k9 v9 T9 E2 nx9 kc9 ks9 hq1 hk9 hs9 => ?_)
  obtain ⟨rfl, rfl, rfl, rfl, z3, rfl, hz3⟩ := hq1
  obtain rfl : kc = kc9 := by omega
  obtain rfl : ks = ks9 := by omega
  refine Or.inr (Or.inl ⟨rfl, ?_⟩)
  obtain rfl : nmd E p a = z3 := by omega
  refine w_istore (i := 3) (npc := 7) (loc' := [cr 81, ai_i p, ai_i a, ai_i (nmd E p a)]) rfl rfl ?_
  refine w_iload (i := 3) (npc := 8) rfl rfl ?_
  refine w_const (n := (-1)) (npc := 9) rfl ?_
  refine w_icmp (c := .eq) (npc := 12) (pt := 30) rfl (fun hc4 => ?_) (fun hc4 => ?_)
  · replace hc4 : nmd E p a = ((-1) : Int) := hc4
    refine w_const (n := (-1)) (npc := 31) rfl ?_
    exact w_iret rfl (⟨rfl, rfl, rfl, rfl, (-1), rfl, ⟨by unfold snm; split <;> omega, by omega⟩⟩) (by omega) (by omega)
  · replace hc4 : ¬ (nmd E p a = ((-1) : Int)) := hc4
    refine w_aload (i := 0) (npc := 13) rfl rfl rfl ?_
    refine w_aload (i := 0) (npc := 14) rfl rfl rfl ?_
    refine w_iload (i := 1) (npc := 15) rfl rfl ?_
    refine w_iload (i := 3) (npc := 16) rfl rfl ?_
    refine w_virt (ci := 8) (i := 81) (npc := 19) (a := [cr 81, ai_i p, ai_i (nmd E p a)]) (rest := [cr 81]) rfl rfl (hI.pl (by decide)) (hI.T (by decide) rfl) rfl rfl rfl rfl (ct_m_rowOfMark (sl := sl) (x := x) (d := d + 2) (p) (nmd E p a) (by omega) (by omega)) (Or.inl rfl) (fun k9 v9 T9 E6 nx9 kc9 ks9 hq5 hk9 hs9 => ?_)
    obtain ⟨rfl, rfl, rfl, rfl, z7, rfl, hz7⟩ := hq5
    obtain rfl : kc = kc9 := by omega
    obtain rfl : ks = ks9 := by omega
    refine Or.inr (Or.inl ⟨rfl, ?_⟩)
    obtain rfl : (5 * p + nmd E p a / 60) * 60 + nmd E p a % 60 = z7 := by omega
    refine w_const (n := 0) (npc := 20) rfl ?_
    refine w_virt (ci := 8) (i := 81) (npc := 23) (a := [cr 81, ai_i ((5 * p + nmd E p a / 60) * 60 + nmd E p a % 60), ai_i 0]) (rest := []) rfl rfl (hI.pl (by decide)) (hI.T (by decide) rfl) rfl rfl rfl rfl (ct_m_of (sl := sl) (x := x) (d := d + 3) ((5 * p + nmd E p a / 60) * 60 + nmd E p a % 60) (0) hI (by omega) (by omega) (by omega)) (Or.inl rfl) (fun k9 v9 T9 E9 nx9 kc9 ks9 hq8 hk9 hs9 => ?_)
    obtain ⟨rfl, rfl, rfl, rfl, z10, rfl, hz10⟩ := hq8
    obtain rfl : kc = kc9 := by omega
    obtain rfl : ks = ks9 := by omega
    refine Or.inr (Or.inl ⟨rfl, ?_⟩)
    refine w_if (c := .ne) (npc := 26) (pt := 30) rfl (fun hc11 => ?_) (fun hc11 => ?_)
    · replace hc11 : z10 ≠ (0 : Int) := hc11
      refine w_const (n := (-1)) (npc := 31) rfl ?_
      exact w_iret rfl (⟨rfl, rfl, rfl, rfl, (-1), rfl, ⟨by unfold snm; split <;> omega, by omega⟩⟩) (by omega) (by omega)
    · replace hc11 : ¬ (z10 ≠ (0 : Int)) := hc11
      refine w_iload (i := 3) (npc := 27) rfl rfl ?_
      refine w_goto (pt := 31) rfl ?_
      exact w_iret rfl (⟨rfl, rfl, rfl, rfl, nmd E p a, rfl, ⟨by unfold snm; split <;> omega, by omega⟩⟩) (by omega) (by omega)
set_option maxRecDepth 16384 in
theorem ct_m_strikes {sl : Int × Int} {x : ai_E} {d : Nat} {T : cm_T} {E : cm_E} {nx : Nat} (p w a u : Int) (hI : cs_I T E nx) (hp0 : 0 ≤ p ∧ p ≤ 4) (hp1 : 0 ≤ w ∧ w ≤ 4) (hp2 : 0 ≤ a ∧ a ≤ 299) : cm_ct (ai_ev sl (d + 2)) x 214 [cr 81, ai_i p, ai_i w, ai_i a, ai_i u] T E nx 0 0 (fun rk rv T' E' nx' => rk = 1 ∧ T = T' ∧ E = E' ∧ nx = nx' ∧ ∃ z : Int, rv = ai_i z ∧ ((z = 1 ∧ 1 ≤ gv E 83 (5 * p + w).toNat) ∨ z = 0)) := by
  refine cm_body (M := ai_m214) rfl rfl (fun kc ks => ?_)
  show cm_wp (ai_find ai_c214 sl) (ai_ev sl (d + 1)) x (kc + 0) (ks + 0) _ 0 [cr 81, ai_i p, ai_i w, ai_i a, ai_i u, ai_un, ai_un] [] T E nx kc ks
  refine w_const (n := 1) (npc := 1) rfl ?_
  refine w_istore (i := 5) (npc := 3) (loc' := [cr 81, ai_i p, ai_i w, ai_i a, ai_i u, ai_i 1, ai_un]) rfl rfl ?_
  have loop3 : ∀ (nf : Nat) (n : Int) (u3_6 : ai_V), ((61 - n).toNat) < nf → (1 ≤ n ∧ n ≤ 61) → cm_wp (ai_find ai_c214 sl) (ai_ev sl (d + 1)) x (kc + 0) (ks + 0) (fun rk rv T' E' nx' => rk = 1 ∧ T = T' ∧ E = E' ∧ nx = nx' ∧ ∃ z : Int, rv = ai_i z ∧ ((z = 1 ∧ 1 ≤ gv E 83 (5 * p + w).toNat) ∨ z = 0)) 3 [cr 81, ai_i p, ai_i w, ai_i a, ai_i u, ai_i n, u3_6] [] T E nx kc ks := by
    intro nf
    induction nf with
    | zero => intro n u3_6 hm; exact absurd hm (Nat.not_lt_zero _)
    | succ nf3 ih =>
      intro n u3_6 hm3 hv3
      have ih3 := ih; clear ih
      refine w_iload (i := 5) (npc := 5) rfl rfl ?_
      refine w_aload (i := 0) (npc := 6) rfl rfl rfl ?_
      refine w_getf (i := 81) (ci := 8) (k := 3) (npc := 9) rfl (hI.pl (by decide)) (hI.T (by decide) rfl) (by decide) (hI.ref 81 3 (p := 83) (by decide) (by decide) rfl) ?_
      refine w_const (n := 5) (npc := 10) rfl ?_
      refine w_iload (i := 1) (npc := 11) rfl rfl ?_
      refine w_imul (npc := 12) rfl (by omega) ?_
      refine w_iload (i := 2) (npc := 13) rfl rfl ?_
      refine w_iadd (npc := 14) rfl (by omega) ?_
      obtain ⟨z3, hz3, hz3a, hz3b⟩ := hI.int 83 (5 * p + w : Int).toNat (lo := 0) (hi := 60) (by decide) (show (5 * p + w : Int).toNat < 25 by omega) rfl
      have ghz3 := gv_eq hz3
      refine w_ald (i := 83) (t := 1) (n := 25) (npc := 15) rfl (hI.pl (by decide)) (hI.T (by decide) rfl) (by decide) rfl (by omega) hz3 ?_
      refine w_icmp (c := .gt) (npc := 18) (pt := 82) rfl (fun hc4 => ?_) (fun hc4 => ?_)
      · replace hc4 : z3 < n := hc4
        refine w_const (n := 0) (npc := 83) rfl ?_
        exact w_zret rfl (by omega) (⟨rfl, rfl, rfl, rfl, 0, rfl, by omega⟩) (by omega) (by omega)
      · replace hc4 : ¬ (z3 < n) := hc4
        refine w_iload (i := 5) (npc := 20) rfl rfl ?_
        refine w_iload (i := 4) (npc := 22) rfl rfl ?_
        refine w_icmp (c := .gt) (npc := 25) (pt := 82) rfl (fun hc5 => ?_) (fun hc5 => ?_)
        · replace hc5 : u < n := hc5
          refine w_const (n := 0) (npc := 83) rfl ?_
          exact w_zret rfl (by omega) (⟨rfl, rfl, rfl, rfl, 0, rfl, by omega⟩) (by omega) (by omega)
        · replace hc5 : ¬ (u < n) := hc5
          refine w_iload (i := 1) (npc := 26) rfl rfl ?_
          refine w_iload (i := 2) (npc := 27) rfl rfl ?_
          refine w_iload (i := 5) (npc := 29) rfl rfl ?_
          refine w_call (npc := 32) (a := [ai_i p, ai_i w, ai_i n]) (rest := []) rfl rfl rfl rfl rfl (ct_m_rowOf (sl := sl) (x := x) (d := d + 0) (p) (w) (n) (by omega) (by omega) (by omega)) (Or.inr (fun _ _ _ _ _ hq => by have h1 := hq.1; omega)) (fun k9 v9 T9 E7 nx9 kc9 ks9 hq6 hk9 hs9 => ?_)
          obtain ⟨rfl, rfl, rfl, rfl, z8, rfl, hz8⟩ := hq6
          obtain rfl : kc = kc9 := by omega
          obtain rfl : ks = ks9 := by omega
          refine Or.inr (Or.inl ⟨rfl, ?_⟩)
          refine w_istore (i := 6) (npc := 34) (loc' := [cr 81, ai_i p, ai_i w, ai_i a, ai_i u, ai_i n, ai_i z8]) rfl rfl ?_
          refine w_aload (i := 0) (npc := 35) rfl rfl rfl ?_
          refine w_getf (i := 81) (ci := 8) (k := 6) (npc := 38) rfl (hI.pl (by decide)) (hI.T (by decide) rfl) (by decide) (hI.ref 81 6 (p := 86) (by decide) (by decide) rfl) ?_
          refine w_iload (i := 2) (npc := 39) rfl rfl ?_
          refine w_iload (i := 5) (npc := 41) rfl rfl ?_
          refine w_call (npc := 44) (a := [ai_i w, ai_i n]) (rest := [cr 86]) rfl rfl rfl rfl rfl (ct_m_markOf (sl := sl) (x := x) (d := d + 0) (w) (n) (by omega) (by omega)) (Or.inr (fun _ _ _ _ _ hq => by have h1 := hq.1; omega)) (fun k9 v9 T9 E10 nx9 kc9 ks9 hq9 hk9 hs9 => ?_)
          obtain ⟨rfl, rfl, rfl, rfl, z11, rfl, hz11⟩ := hq9
          obtain rfl : kc = kc9 := by omega
          obtain rfl : ks = ks9 := by omega
          refine Or.inr (Or.inl ⟨rfl, ?_⟩)
          obtain ⟨z12, hz12, hz12a, hz12b⟩ := hI.int 86 (z11 : Int).toNat (lo := 0) (hi := 1) (by decide) (show (z11 : Int).toNat < 300 by omega) rfl
          have ghz12 := gv_eq hz12
          refine w_ald (i := 86) (t := 2) (n := 300) (npc := 45) rfl (hI.pl (by decide)) (hI.T (by decide) rfl) (by decide) rfl (by omega) hz12 ?_
          refine w_if (c := .eq) (npc := 48) (pt := 76) rfl (fun hc13 => ?_) (fun hc13 => ?_)
          · replace hc13 : z12 = (0 : Int) := hc13
            refine w_iinc (i := 5) (n := 1) (npc := 79) (loc' := [cr 81, ai_i p, ai_i w, ai_i a, ai_i u, ai_i (n + 1), ai_i z8]) rfl rfl (by omega) rfl ?_
            refine w_goto (pt := 3) rfl ?_
            exact ih3 (n + 1) (ai_i z8) (by omega) (by omega)
          · replace hc13 : ¬ (z12 = (0 : Int)) := hc13
            refine w_aload (i := 0) (npc := 49) rfl rfl rfl ?_
            refine w_iload (i := 6) (npc := 51) rfl rfl ?_
            refine w_const (n := 0) (npc := 52) rfl ?_
            refine w_virt (ci := 8) (i := 81) (npc := 55) (a := [cr 81, ai_i z8, ai_i 0]) (rest := []) rfl rfl (hI.pl (by decide)) (hI.T (by decide) rfl) rfl rfl rfl rfl (ct_m_of (sl := sl) (x := x) (d := d + 0) (z8) (0) hI (by omega) (by omega) (by omega)) (Or.inl rfl) (fun k9 v9 T9 E16 nx9 kc9 ks9 hq15 hk9 hs9 => ?_)
            obtain ⟨rfl, rfl, rfl, rfl, z17, rfl, hz17⟩ := hq15
            obtain rfl : kc = kc9 := by omega
            obtain rfl : ks = ks9 := by omega
            refine Or.inr (Or.inl ⟨rfl, ?_⟩)
            refine w_const (n := 1) (npc := 56) rfl ?_
            refine w_icmp (c := .ne) (npc := 59) (pt := 76) rfl (fun hc18 => ?_) (fun hc18 => ?_)
            · replace hc18 : z17 ≠ (1 : Int) := hc18
              refine w_iinc (i := 5) (n := 1) (npc := 79) (loc' := [cr 81, ai_i p, ai_i w, ai_i a, ai_i u, ai_i (n + 1), ai_i z8]) rfl rfl (by omega) rfl ?_
              refine w_goto (pt := 3) rfl ?_
              exact ih3 (n + 1) (ai_i z8) (by omega) (by omega)
            · replace hc18 : ¬ (z17 ≠ (1 : Int)) := hc18
              refine w_aload (i := 0) (npc := 60) rfl rfl rfl ?_
              refine w_iload (i := 6) (npc := 62) rfl rfl ?_
              refine w_const (n := 9) (npc := 64) rfl ?_
              refine w_virt (ci := 8) (i := 81) (npc := 67) (a := [cr 81, ai_i z8, ai_i 9]) (rest := []) rfl rfl (hI.pl (by decide)) (hI.T (by decide) rfl) rfl rfl rfl rfl (ct_m_of (sl := sl) (x := x) (d := d + 0) (z8) (9) hI (by omega) (by omega) (by omega)) (Or.inl rfl) (fun k9 v9 T9 E21 nx9 kc9 ks9 hq20 hk9 hs9 => ?_)
              obtain ⟨rfl, rfl, rfl, rfl, z22, rfl, hz22⟩ := hq20
              obtain rfl : kc = kc9 := by omega
              obtain rfl : ks = ks9 := by omega
              refine Or.inr (Or.inl ⟨rfl, ?_⟩)
              refine w_iload (i := 3) (npc := 68) rfl rfl ?_
              refine w_call (npc := 71) (a := [ai_i a]) (rest := [ai_i z22]) rfl rfl rfl rfl rfl (ct_m_nameOf (sl := sl) (x := x) (d := d + 0) (a) (by omega)) (Or.inr (fun _ _ _ _ _ hq => by have h1 := hq.1; omega)) (fun k9 v9 T9 E24 nx9 kc9 ks9 hq23 hk9 hs9 => ?_)
              obtain ⟨rfl, rfl, rfl, rfl, z25, rfl, hz25⟩ := hq23
              obtain rfl : kc = kc9 := by omega
              obtain rfl : ks = ks9 := by omega
              refine Or.inr (Or.inl ⟨rfl, ?_⟩)
              refine w_icmp (c := .ne) (npc := 74) (pt := 76) rfl (fun hc26 => ?_) (fun hc26 => ?_)
              · replace hc26 : z22 ≠ z25 := hc26
                refine w_iinc (i := 5) (n := 1) (npc := 79) (loc' := [cr 81, ai_i p, ai_i w, ai_i a, ai_i u, ai_i (n + 1), ai_i z8]) rfl rfl (by omega) rfl ?_
                refine w_goto (pt := 3) rfl ?_
                exact ih3 (n + 1) (ai_i z8) (by omega) (by omega)
              · replace hc26 : ¬ (z22 ≠ z25) := hc26
                refine w_const (n := 1) (npc := 75) rfl ?_
                exact w_zret rfl (by omega) (⟨rfl, rfl, rfl, rfl, 1, rfl, by omega⟩) (by omega) (by omega)
  exact loop3 _ (1) (ai_un) (Nat.lt_succ_self _) (by omega)
set_option maxRecDepth 16384 in
theorem ct_m_isGone {sl : Int × Int} {x : ai_E} {d : Nat} {T : cm_T} {E : cm_E} {nx : Nat} (p a : Int) (hI : cs_I T E nx) (hp0 : 0 ≤ p ∧ p ≤ 4) (hp1 : 0 ≤ a ∧ a ≤ 299) : cm_ct (ai_ev sl (d + 3)) x 170 [cr 81, ai_i p, ai_i a] T E nx 0 0 (fun rk rv T' E' nx' => rk = 1 ∧ T = T' ∧ E = E' ∧ nx = nx' ∧ ∃ z : Int, rv = ai_i z ∧ (0 ≤ z ∧ z ≤ 1)) := by
  refine cm_body (M := ai_m170) rfl rfl (fun kc ks => ?_)
  show cm_wp (ai_find ai_c170 sl) (ai_ev sl (d + 2)) x (kc + 0) (ks + 0) _ 0 [cr 81, ai_i p, ai_i a, ai_un, ai_un, ai_un] [] T E nx kc ks
  refine w_const (n := 0) (npc := 1) rfl ?_
  refine w_istore (i := 3) (npc := 2) (loc' := [cr 81, ai_i p, ai_i a, ai_i 0, ai_un, ai_un]) rfl rfl ?_
  have loop2 : ∀ (nf : Nat) (w : Int) (u2_4 : ai_V) (u2_5 : ai_V), ((5 - w).toNat) < nf → (0 ≤ w ∧ w ≤ 5) → cm_wp (ai_find ai_c170 sl) (ai_ev sl (d + 2)) x (kc + 0) (ks + 0) (fun rk rv T' E' nx' => rk = 1 ∧ T = T' ∧ E = E' ∧ nx = nx' ∧ ∃ z : Int, rv = ai_i z ∧ (0 ≤ z ∧ z ≤ 1)) 2 [cr 81, ai_i p, ai_i a, ai_i w, u2_4, u2_5] [] T E nx kc ks := by
    intro nf
    induction nf with
    | zero => intro w u2_4 u2_5 hm; exact absurd hm (Nat.not_lt_zero _)
    | succ nf2 ih =>
      intro w u2_4 u2_5 hm2 hv2
      have ih2 := ih; clear ih
      refine w_iload (i := 3) (npc := 3) rfl rfl ?_
      refine w_aload (i := 0) (npc := 4) rfl rfl rfl ?_
      obtain ⟨z1, hz1, hz1a, hz1b⟩ := hI.int 81 1 (lo := 1) (hi := 5) (by decide) (by decide) rfl
      have ghz1 := gv_eq hz1
      refine w_getf (i := 81) (ci := 8) (k := 1) (npc := 7) rfl (hI.pl (by decide)) (hI.T (by decide) rfl) (by decide) hz1 ?_
      refine w_icmp (c := .ge) (npc := 10) (pt := 99) rfl (fun hc2 => ?_) (fun hc2 => ?_)
      · replace hc2 : z1 ≤ w := hc2
        refine w_const (n := 1) (npc := 100) rfl ?_
        exact w_zret rfl (by omega) (⟨rfl, rfl, rfl, rfl, 1, rfl, by omega⟩) (by omega) (by omega)
      · replace hc2 : ¬ (z1 ≤ w) := hc2
        refine w_aload (i := 0) (npc := 11) rfl rfl rfl ?_
        refine w_iload (i := 1) (npc := 12) rfl rfl ?_
        refine w_iload (i := 3) (npc := 13) rfl rfl ?_
        refine w_iload (i := 2) (npc := 14) rfl rfl ?_
        refine w_const (n := 60) (npc := 16) rfl ?_
        refine w_virt (ci := 8) (i := 81) (npc := 19) (a := [cr 81, ai_i p, ai_i w, ai_i a, ai_i 60]) (rest := []) rfl rfl (hI.pl (by decide)) (hI.T (by decide) rfl) rfl rfl rfl rfl (ct_m_strikes (sl := sl) (x := x) (d := d + 0) (p) (w) (a) (60) hI (by omega) (by omega) (by omega)) (Or.inl rfl) (fun k9 v9 T9 E4 nx9 kc9 ks9 hq3 hk9 hs9 => ?_)
        obtain ⟨rfl, rfl, rfl, rfl, z5, rfl, hz5⟩ := hq3
        obtain rfl : kc = kc9 := by omega
        obtain rfl : ks = ks9 := by omega
        refine Or.inr (Or.inl ⟨rfl, ?_⟩)
        refine w_if (c := .ne) (npc := 22) (pt := 24) rfl (fun hc6 => ?_) (fun hc6 => ?_)
        · replace hc6 : z5 ≠ (0 : Int) := hc6
          refine w_iload (i := 1) (npc := 25) rfl rfl ?_
          refine w_iload (i := 3) (npc := 26) rfl rfl ?_
          refine w_aload (i := 0) (npc := 27) rfl rfl rfl ?_
          refine w_getf (i := 81) (ci := 8) (k := 3) (npc := 30) rfl (hI.pl (by decide)) (hI.T (by decide) rfl) (by decide) (hI.ref 81 3 (p := 83) (by decide) (by decide) rfl) ?_
          refine w_const (n := 5) (npc := 31) rfl ?_
          refine w_iload (i := 1) (npc := 32) rfl rfl ?_
          refine w_imul (npc := 33) rfl (by omega) ?_
          refine w_iload (i := 3) (npc := 34) rfl rfl ?_
          refine w_iadd (npc := 35) rfl (by omega) ?_
          obtain ⟨z9, hz9, hz9a, hz9b⟩ := hI.int 83 (5 * p + w : Int).toNat (lo := 0) (hi := 60) (by decide) (show (5 * p + w : Int).toNat < 25 by omega) rfl
          have ghz9 := gv_eq hz9
          refine w_ald (i := 83) (t := 1) (n := 25) (npc := 36) rfl (hI.pl (by decide)) (hI.T (by decide) rfl) (by decide) rfl (by omega) hz9 ?_
          refine w_call (npc := 39) (a := [ai_i p, ai_i w, ai_i z9]) (rest := []) rfl rfl rfl rfl rfl (ct_m_rowOf (sl := sl) (x := x) (d := d + 1) (p) (w) (z9) (by omega) (by omega) (by omega)) (Or.inr (fun _ _ _ _ _ hq => by have h1 := hq.1; omega)) (fun k9 v9 T9 E11 nx9 kc9 ks9 hq10 hk9 hs9 => ?_)
          obtain ⟨rfl, rfl, rfl, rfl, z12, rfl, hz12⟩ := hq10
          obtain rfl : kc = kc9 := by omega
          obtain rfl : ks = ks9 := by omega
          refine Or.inr (Or.inl ⟨rfl, ?_⟩)
          refine w_istore (i := 4) (npc := 41) (loc' := [cr 81, ai_i p, ai_i a, ai_i w, ai_i z12, u2_5]) rfl rfl ?_
          refine w_const (n := 0) (npc := 42) rfl ?_
          refine w_istore (i := 5) (npc := 44) (loc' := [cr 81, ai_i p, ai_i a, ai_i w, ai_i z12, ai_i 0]) rfl rfl ?_
          have loop44 : ∀ (nf : Nat) (o : Int), ((5 - o).toNat) < nf → (0 ≤ o ∧ o ≤ 5) → cm_wp (ai_find ai_c170 sl) (ai_ev sl (d + 2)) x (kc + 0) (ks + 0) (fun rk rv T' E' nx' => rk = 1 ∧ T = T' ∧ E = E' ∧ nx = nx' ∧ ∃ z : Int, rv = ai_i z ∧ (0 ≤ z ∧ z ≤ 1)) 44 [cr 81, ai_i p, ai_i a, ai_i w, ai_i z12, ai_i o] [] T E nx kc ks := by
            intro nf
            induction nf with
            | zero => intro o hm; exact absurd hm (Nat.not_lt_zero _)
            | succ nf44 ih =>
              intro o hm44 hv44
              have ih44 := ih; clear ih
              refine w_iload (i := 5) (npc := 46) rfl rfl ?_
              refine w_aload (i := 0) (npc := 47) rfl rfl rfl ?_
              refine w_getf (i := 81) (ci := 8) (k := 1) (npc := 50) rfl (hI.pl (by decide)) (hI.T (by decide) rfl) (by decide) hz1 ?_
              refine w_icmp (c := .ge) (npc := 53) (pt := 93) rfl (fun hc13 => ?_) (fun hc13 => ?_)
              · replace hc13 : z1 ≤ o := hc13
                refine w_iinc (i := 3) (n := 1) (npc := 96) (loc' := [cr 81, ai_i p, ai_i a, ai_i (w + 1), ai_i z12, ai_i o]) rfl rfl (by omega) rfl ?_
                refine w_goto (pt := 2) rfl ?_
                exact ih2 (w + 1) (ai_i z12) (ai_i o) (by omega) (by omega)
              · replace hc13 : ¬ (z1 ≤ o) := hc13
                refine w_iload (i := 3) (npc := 54) rfl rfl ?_
                refine w_iload (i := 1) (npc := 55) rfl rfl ?_
                refine w_icmp (c := .eq) (npc := 58) (pt := 87) rfl (fun hc15 => ?_) (fun hc15 => ?_)
                · replace hc15 : w = p := hc15
                  refine w_iinc (i := 5) (n := 1) (npc := 90) (loc' := [cr 81, ai_i p, ai_i a, ai_i w, ai_i z12, ai_i (o + 1)]) rfl rfl (by omega) rfl ?_
                  refine w_goto (pt := 44) rfl ?_
                  exact ih44 (o + 1) (by omega) (by omega)
                · replace hc15 : ¬ (w = p) := hc15
                  refine w_iload (i := 5) (npc := 60) rfl rfl ?_
                  refine w_iload (i := 3) (npc := 61) rfl rfl ?_
                  refine w_icmp (c := .eq) (npc := 64) (pt := 87) rfl (fun hc17 => ?_) (fun hc17 => ?_)
                  · replace hc17 : o = w := hc17
                    refine w_iinc (i := 5) (n := 1) (npc := 90) (loc' := [cr 81, ai_i p, ai_i a, ai_i w, ai_i z12, ai_i (o + 1)]) rfl rfl (by omega) rfl ?_
                    refine w_goto (pt := 44) rfl ?_
                    exact ih44 (o + 1) (by omega) (by omega)
                  · replace hc17 : ¬ (o = w) := hc17
                    refine w_aload (i := 0) (npc := 65) rfl rfl rfl ?_
                    refine w_iload (i := 1) (npc := 66) rfl rfl ?_
                    refine w_iload (i := 5) (npc := 68) rfl rfl ?_
                    refine w_iload (i := 2) (npc := 69) rfl rfl ?_
                    refine w_aload (i := 0) (npc := 70) rfl rfl rfl ?_
                    refine w_iload (i := 4) (npc := 72) rfl rfl ?_
                    refine w_const (n := 3) (npc := 73) rfl ?_
                    refine w_iload (i := 5) (npc := 75) rfl rfl ?_
                    refine w_iadd (npc := 76) rfl (by omega) ?_
                    refine w_virt (ci := 8) (i := 81) (npc := 79) (a := [cr 81, ai_i z12, ai_i (3 + o)]) (rest := [ai_i a, ai_i o, ai_i p, cr 81]) rfl rfl (hI.pl (by decide)) (hI.T (by decide) rfl) rfl rfl rfl rfl (ct_m_of (sl := sl) (x := x) (d := d + 1) (z12) (3 + o) hI (by omega) (by omega) (by omega)) (Or.inl rfl) (fun k9 v9 T9 E21 nx9 kc9 ks9 hq20 hk9 hs9 => ?_)
                    obtain ⟨rfl, rfl, rfl, rfl, z22, rfl, hz22⟩ := hq20
                    obtain rfl : kc = kc9 := by omega
                    obtain rfl : ks = ks9 := by omega
                    refine Or.inr (Or.inl ⟨rfl, ?_⟩)
                    refine w_virt (ci := 8) (i := 81) (npc := 82) (a := [cr 81, ai_i p, ai_i o, ai_i a, ai_i z22]) (rest := []) rfl rfl (hI.pl (by decide)) (hI.T (by decide) rfl) rfl rfl rfl rfl (ct_m_strikes (sl := sl) (x := x) (d := d + 0) (p) (o) (a) (z22) hI (by omega) (by omega) (by omega)) (Or.inl rfl) (fun k9 v9 T9 E24 nx9 kc9 ks9 hq23 hk9 hs9 => ?_)
                    obtain ⟨rfl, rfl, rfl, rfl, z25, rfl, hz25⟩ := hq23
                    obtain rfl : kc = kc9 := by omega
                    obtain rfl : ks = ks9 := by omega
                    refine Or.inr (Or.inl ⟨rfl, ?_⟩)
                    refine w_if (c := .ne) (npc := 85) (pt := 87) rfl (fun hc26 => ?_) (fun hc26 => ?_)
                    · replace hc26 : z25 ≠ (0 : Int) := hc26
                      refine w_iinc (i := 5) (n := 1) (npc := 90) (loc' := [cr 81, ai_i p, ai_i a, ai_i w, ai_i z12, ai_i (o + 1)]) rfl rfl (by omega) rfl ?_
                      refine w_goto (pt := 44) rfl ?_
                      exact ih44 (o + 1) (by omega) (by omega)
                    · replace hc26 : ¬ (z25 ≠ (0 : Int)) := hc26
                      refine w_const (n := 0) (npc := 86) rfl ?_
                      exact w_zret rfl (by omega) (⟨rfl, rfl, rfl, rfl, 0, rfl, by omega⟩) (by omega) (by omega)
          exact loop44 _ (0) (Nat.lt_succ_self _) (by omega)
        · replace hc6 : ¬ (z5 ≠ (0 : Int)) := hc6
          refine w_const (n := 0) (npc := 23) rfl ?_
          exact w_zret rfl (by omega) (⟨rfl, rfl, rfl, rfl, 0, rfl, by omega⟩) (by omega) (by omega)
  exact loop2 _ (0) (ai_un) (ai_un) (Nat.lt_succ_self _) (by omega)
set_option maxRecDepth 16384 in
theorem ct_m_goneOf {sl : Int × Int} {x : ai_E} {d : Nat} {T : cm_T} {E : cm_E} {nx : Nat} (p : Int) (hI : cs_I T E nx) (hp0 : 0 ≤ p ∧ p ≤ 4) : cm_ct (ai_ev sl (d + 4)) x 162 [cr 81, ai_i p] T E nx 0 0 (fun rk rv T' E' nx' => rk = 1 ∧ T = T' ∧ E = E' ∧ nx = nx' ∧ ∃ z : Int, rv = ai_i z ∧ (0 ≤ z ∧ z ≤ 300)) := by
  refine cm_body (M := ai_m162) rfl rfl (fun kc ks => ?_)
  show cm_wp (ai_find ai_c162 sl) (ai_ev sl (d + 3)) x (kc + 0) (ks + 0) _ 0 [cr 81, ai_i p, ai_un, ai_un] [] T E nx kc ks
  refine w_const (n := 0) (npc := 1) rfl ?_
  refine w_istore (i := 2) (npc := 2) (loc' := [cr 81, ai_i p, ai_i 0, ai_un]) rfl rfl ?_
  refine w_const (n := 0) (npc := 3) rfl ?_
  refine w_istore (i := 3) (npc := 4) (loc' := [cr 81, ai_i p, ai_i 0, ai_i 0]) rfl rfl ?_
  have loop4 : ∀ (nf : Nat) (a : Int) (i : Int), ((300 - i).toNat) < nf → (0 ≤ a ∧ a ≤ i ∧ i ≤ 300) → cm_wp (ai_find ai_c162 sl) (ai_ev sl (d + 3)) x (kc + 0) (ks + 0) (fun rk rv T' E' nx' => rk = 1 ∧ T = T' ∧ E = E' ∧ nx = nx' ∧ ∃ z : Int, rv = ai_i z ∧ (0 ≤ z ∧ z ≤ 300)) 4 [cr 81, ai_i p, ai_i a, ai_i i] [] T E nx kc ks := by
    intro nf
    induction nf with
    | zero => intro a i hm; exact absurd hm (Nat.not_lt_zero _)
    | succ nf4 ih =>
      intro a i hm4 hv4
      have ih4 := ih; clear ih
      refine w_iload (i := 3) (npc := 5) rfl rfl ?_
      refine w_aload (i := 0) (npc := 6) rfl rfl rfl ?_
      obtain ⟨z1, hz1, hz1a, hz1b⟩ := hI.int 81 12 (lo := 0) (hi := 300) (by decide) (by decide) rfl
      have ghz1 := gv_eq hz1
      refine w_getf (i := 81) (ci := 8) (k := 12) (npc := 9) rfl (hI.pl (by decide)) (hI.T (by decide) rfl) (by decide) hz1 ?_
      refine w_icmp (c := .ge) (npc := 12) (pt := 40) rfl (fun hc2 => ?_) (fun hc2 => ?_)
      · replace hc2 : z1 ≤ i := hc2
        refine w_iload (i := 2) (npc := 41) rfl rfl ?_
        exact w_iret rfl (⟨rfl, rfl, rfl, rfl, a, rfl, by omega⟩) (by omega) (by omega)
      · replace hc2 : ¬ (z1 ≤ i) := hc2
        refine w_iload (i := 2) (npc := 13) rfl rfl ?_
        refine w_aload (i := 0) (npc := 14) rfl rfl rfl ?_
        refine w_iload (i := 1) (npc := 15) rfl rfl ?_
        refine w_aload (i := 0) (npc := 16) rfl rfl rfl ?_
        refine w_getf (i := 81) (ci := 8) (k := 10) (npc := 19) rfl (hI.pl (by decide)) (hI.T (by decide) rfl) (by decide) (hI.ref 81 10 (p := 90) (by decide) (by decide) rfl) ?_
        refine w_iload (i := 3) (npc := 20) rfl rfl ?_
        obtain ⟨z3, hz3, hz3a, hz3b⟩ := hI.int 90 (i : Int).toNat (lo := 0) (hi := 299) (by decide) (show (i : Int).toNat < 300 by omega) rfl
        have ghz3 := gv_eq hz3
        refine w_ald (i := 90) (t := 1) (n := 300) (npc := 21) rfl (hI.pl (by decide)) (hI.T (by decide) rfl) (by decide) rfl (by omega) hz3 ?_
        refine w_virt (ci := 8) (i := 81) (npc := 24) (a := [cr 81, ai_i p, ai_i z3]) (rest := [ai_i a]) rfl rfl (hI.pl (by decide)) (hI.T (by decide) rfl) rfl rfl rfl rfl (ct_m_isGone (sl := sl) (x := x) (d := d + 0) (p) (z3) hI (by omega) (by omega)) (Or.inl rfl) (fun k9 v9 T9 E5 nx9 kc9 ks9 hq4 hk9 hs9 => ?_)
        obtain ⟨rfl, rfl, rfl, rfl, z6, rfl, hz6⟩ := hq4
        obtain rfl : kc = kc9 := by omega
        obtain rfl : ks = ks9 := by omega
        refine Or.inr (Or.inl ⟨rfl, ?_⟩)
        refine w_if (c := .eq) (npc := 27) (pt := 31) rfl (fun hc7 => ?_) (fun hc7 => ?_)
        · replace hc7 : z6 = (0 : Int) := hc7
          refine w_const (n := 0) (npc := 32) rfl ?_
          refine w_iadd (npc := 33) rfl (by omega) ?_
          refine w_istore (i := 2) (npc := 34) (loc' := [cr 81, ai_i p, ai_i (a + 0), ai_i i]) rfl rfl ?_
          refine w_iinc (i := 3) (n := 1) (npc := 37) (loc' := [cr 81, ai_i p, ai_i (a + 0), ai_i (i + 1)]) rfl rfl (by omega) rfl ?_
          refine w_goto (pt := 4) rfl ?_
          exact ih4 (a + 0) (i + 1) (by omega) (by omega)
        · replace hc7 : ¬ (z6 = (0 : Int)) := hc7
          refine w_const (n := 1) (npc := 28) rfl ?_
          refine w_goto (pt := 32) rfl ?_
          refine w_iadd (npc := 33) rfl (by omega) ?_
          refine w_istore (i := 2) (npc := 34) (loc' := [cr 81, ai_i p, ai_i (a + 1), ai_i i]) rfl rfl ?_
          refine w_iinc (i := 3) (n := 1) (npc := 37) (loc' := [cr 81, ai_i p, ai_i (a + 1), ai_i (i + 1)]) rfl rfl (by omega) rfl ?_
          refine w_goto (pt := 4) rfl ?_
          exact ih4 (a + 1) (i + 1) (by omega) (by omega)
  exact loop4 _ (0) (0) (Nat.lt_succ_self _) (by omega)
set_option maxRecDepth 16384 in
theorem ct_m_keyAhead {sl : Int × Int} {x : ai_E} {d : Nat} {T : cm_T} {E : cm_E} {nx : Nat} (p : Int) (hI : cs_I T E nx) (hp0 : 0 ≤ p ∧ p ≤ 300) : cm_ct (ai_ev sl (d + 1)) x 174 [cr 81, ai_i p] T E nx 0 0 (fun rk rv T' E' nx' => rk = 1 ∧ T = T' ∧ E = E' ∧ nx = nx' ∧ ∃ z : Int, rv = ai_i z ∧ ((z = -1 ∧ p = 0) ∨ (0 ≤ z ∧ z ≤ 249000 ∧ p ≠ 0))) := by
  refine cm_body (M := ai_m174) rfl rfl (fun kc ks => ?_)
  show cm_wp (ai_find ai_c174 sl) (ai_ev sl (d + 0)) x (kc + 0) (ks + 0) _ 0 [cr 81, ai_i p] [] T E nx kc ks
  refine w_iload (i := 1) (npc := 1) rfl rfl ?_
  refine w_if (c := .ne) (npc := 4) (pt := 8) rfl (fun hc1 => ?_) (fun hc1 => ?_)
  · replace hc1 : p ≠ (0 : Int) := hc1
    refine w_aload (i := 0) (npc := 9) rfl rfl rfl ?_
    refine w_getf (i := 81) (ci := 8) (k := 8) (npc := 12) rfl (hI.pl (by decide)) (hI.T (by decide) rfl) (by decide) (hI.ref 81 8 (p := 88) (by decide) (by decide) rfl) ?_
    refine w_aload (i := 0) (npc := 13) rfl rfl rfl ?_
    refine w_getf (i := 81) (ci := 8) (k := 11) (npc := 16) rfl (hI.pl (by decide)) (hI.T (by decide) rfl) (by decide) (hI.ref 81 11 (p := 91) (by decide) (by decide) rfl) ?_
    refine w_iload (i := 1) (npc := 17) rfl rfl ?_
    refine w_const (n := 1) (npc := 18) rfl ?_
    refine w_isub (npc := 19) rfl (by omega) ?_
    obtain ⟨z3, hz3, hz3a, hz3b⟩ := hI.int 91 (p - 1 : Int).toNat (lo := 0) (hi := 299) (by decide) (show (p - 1 : Int).toNat < 300 by omega) rfl
    have ghz3 := gv_eq hz3
    refine w_ald (i := 91) (t := 1) (n := 300) (npc := 20) rfl (hI.pl (by decide)) (hI.T (by decide) rfl) (by decide) rfl (by omega) hz3 ?_
    obtain ⟨z4, hz4, hz4a, hz4b⟩ := hI.int 88 (z3 : Int).toNat (lo := 0) (hi := 249000) (by decide) (show (z3 : Int).toNat < 300 by omega) rfl
    have ghz4 := gv_eq hz4
    refine w_ald (i := 88) (t := 1) (n := 300) (npc := 21) rfl (hI.pl (by decide)) (hI.T (by decide) rfl) (by decide) rfl (by omega) hz4 ?_
    exact w_iret rfl (⟨rfl, rfl, rfl, rfl, z4, rfl, by omega⟩) (by omega) (by omega)
  · replace hc1 : ¬ (p ≠ (0 : Int)) := hc1
    refine w_const (n := (-1)) (npc := 5) rfl ?_
    refine w_goto (pt := 21) rfl ?_
    exact w_iret rfl (⟨rfl, rfl, rfl, rfl, (-1), rfl, by omega⟩) (by omega) (by omega)
set_option maxRecDepth 16384 in
theorem ct_m_fail {sl : Int × Int} {x : ai_E} {d : Nat} {T : cm_T} {E : cm_E} {nx : Nat} (a : Int) (hI : cs_I T E nx) (hp0 : 0 ≤ a ∧ a ≤ 2) : cm_ct (ai_ev sl (d + 1)) x 157 [cr 81, ai_i a] T E nx 0 0 (fun rk rv T' E' nx' => rk = 1 ∧ T = T' ∧ nx = nx' ∧ cs_I T E' nx ∧ cm_fr (fun i k => (i = 81 ∧ (k = 0))) E E' ∧ ∃ z : Int, rv = ai_i z ∧ (z = 0 ∧ gv E' 81 0 = a)) := by
  refine cm_body (M := ai_m157) rfl rfl (fun kc ks => ?_)
  show cm_wp (ai_find ai_c157 sl) (ai_ev sl (d + 0)) x (kc + 0) (ks + 0) _ 0 [cr 81, ai_i a] [] T E nx kc ks
  have hF : cm_fr (fun i k => (i = 81 ∧ (k = 0))) E E := fun _ _ _ => rfl
  refine w_aload (i := 0) (npc := 1) rfl rfl rfl ?_
  refine w_iload (i := 1) (npc := 2) rfl rfl ?_
  refine w_putf (i := 81) (ci := 8) (k := 0) (t := 0) (npc := 5) rfl (hI.pl (by decide)) (hI.T (by decide) rfl) (by decide) cm_fit0 ?_
  have hI2 := hI.puti (i := 81) (k := 0) (z := a) (lo := 0) (hi := 2) (by decide) rfl (by omega)
  have hF4 := cm_fr.up (i := 81) (k := 0) (v := ai_i a) hF (by first | (simp; done) | (simp; omega) | (intro i k h; (try simp only at h); (try simp only); omega))
  generalize hE3 : cm_up E 81 0 (ai_i a) = E1 at hI2 hF4   ⊢
  have hz5 : E1 81 0 = ai_i a := by rw [← hE3, cm_up_eq]
  have ghz5 := gv_eq hz5
  refine w_const (n := 0) (npc := 6) rfl ?_
  exact w_iret rfl (⟨rfl, rfl, rfl, hI2, hF4, 0, rfl, ⟨rfl, by rw [← hE3]; exact gv_up _ _ _ _⟩⟩) (by omega) (by omega)
set_option maxRecDepth 16384 in
theorem ct_m_refuse {sl : Int × Int} {x : ai_E} {d : Nat} {T : cm_T} {E : cm_E} {nx : Nat}  (hI : cs_I T E nx) : cm_ct (ai_ev sl (d + 1)) x 202 [cr 81] T E nx 0 0 (fun rk rv T' E' nx' => rk = 1 ∧ T = T' ∧ nx = nx' ∧ cs_I T E' nx ∧ cm_fr (fun i k => i = 85) E E' ∧ ∃ z : Int, rv = ai_i z ∧ (z = -1)) := by
  refine cm_body (M := ai_m202) rfl rfl (fun kc ks => ?_)
  show cm_wp (ai_find ai_c202 sl) (ai_ev sl (d + 0)) x (kc + 0) (ks + 0) _ 0 [cr 81] [] T E nx kc ks
  have hF : cm_fr (fun i k => i = 85) E E := fun _ _ _ => rfl
  refine w_aload (i := 0) (npc := 1) rfl rfl rfl ?_
  refine w_getf (i := 81) (ci := 8) (k := 5) (npc := 4) rfl (hI.pl (by decide)) (hI.T (by decide) rfl) (by decide) (hI.ref 81 5 (p := 85) (by decide) (by decide) rfl) ?_
  refine w_const (n := 0) (npc := 5) rfl ?_
  refine w_dup2 (npc := 6) rfl rfl rfl ?_
  obtain ⟨z1, hz1, hz1a, hz1b⟩ := hI.int 85 (0 : Int).toNat (lo := (-2147483648)) (hi := 2147483647) (by decide) (show (0 : Int).toNat < 3 by omega) rfl
  have ghz1 := gv_eq hz1
  refine w_ald (i := 85) (t := 1) (n := 3) (npc := 7) rfl (hI.pl (by decide)) (hI.T (by decide) rfl) (by decide) rfl (by omega) hz1 ?_
  refine w_const (n := 1) (npc := 8) rfl ?_
  refine w_iaddw (npc := 9) rfl (fun z2 hz2 hz2b => ?_)
  refine w_ast (i := 85) (k := 1) (n := 3) (npc := 10) rfl (hI.pl (by decide)) (hI.T (by decide) rfl) (by decide) (by omega) cm_af1 ?_
  have hI4 := hI.puti (i := 85) (k := (0 : Int).toNat) (z := z2) (lo := (-2147483648)) (hi := 2147483647) (by decide) rfl (by omega)
  have hF6 := cm_fr.up (i := 85) (k := (0 : Int).toNat) (v := ai_i z2) hF (by first | (simp; done) | (simp; omega) | (intro i k h; (try simp only at h); (try simp only); omega))
  generalize hE5 : cm_up E 85 (0 : Int).toNat (ai_i z2) = E3 at hI4 hF6   ⊢
  have hz7 : E3 85 (0 : Int).toNat = ai_i z2 := by rw [← hE5, cm_up_eq]
  have ghz7 := gv_eq hz7
  refine w_const (n := (-1)) (npc := 11) rfl ?_
  exact w_iret rfl (⟨rfl, rfl, rfl, hI4, hF6, (-1), rfl, rfl⟩) (by omega) (by omega)
