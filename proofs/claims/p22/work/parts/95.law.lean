/-! ===== the law: its loop, its run ===== -/
set_option maxRecDepth 16384 in
theorem law_loop {sl : Int × Int} {x : ai_E} {d : Nat} {L : Int} {sv : Nat → Int} (hsl : sl = (L, L)) (hx : ∀ k : Nat, (k : Int) < L → ai_sv x k = ai_i (sv k) ∧ -2147483648 ≤ sv k ∧ sv k ≤ 2147483647) (hL : 0 ≤ L ∧ L ≤ 384) : ∀ (nf c : Nat) (u5 u6 : ai_V) (T : cm_T) (E : cm_E) (nx kc ks : Nat), (L + 6 - 6 * (c : Int)).toNat < nf → 6 * (c : Int) ≤ L + 5 → nx ≤ 105 + 2 * c → kc ≤ 200 + 10 * c → ks ≤ 600000 + 500 * c → cs_I T E nx → hn E → rl E → (gv E 0 10 = gv E 81 1 ∧ gv E 0 11 = gv E 81 17 ∧ gv E 0 14 = gv E 81 34 ∧ gv E 23 8 = gv E 81 23 ∧ gv E 23 9 = gv E 81 24) → cm_wp (ai_find ai_c0 sl) (ai_ev sl (d + 20)) x 600128 7301098 (fun rk rv T' E' nx' => rk = 1 ∧ rv = ai_i 1) 23 [(6, 0, 0), cr 0, cr 81, cr 104, ai_i (6 * (c : Int)), u5, u6] [] T E nx kc ks := by
  have hsl1 : sl.1 = L := by rw [hsl]
  intro nf
  induction nf with
  | zero => intro c u5 u6 T E nx kc ks hm; exact absurd hm (Nat.not_lt_zero _)
  | succ nf ih =>
    intro c u5 u6 T E nx kc ks hm hc hnx hkc hks hI hN hR hJ
    refine w_iload (i := 4) (npc := 25) (z := 6 * (c : Int)) rfl rfl ?_
    refine w_aload (i := 0) (npc := 26) (v := (6, 0, 0)) rfl rfl rfl ?_
    refine w_slen (n := L) (npc := 27) rfl hsl ?_
    refine w_const (n := 6) (npc := 29) rfl ?_
    refine w_isub (npc := 30) rfl (by omega) ?_
    refine w_icmp (c := .gt) (npc := 33) (pt := 1170) rfl (fun h => ?_) (fun h => ?_)
    · refine w_const (n := 1) (npc := 1171) rfl ?_
      exact w_zret rfl (by decide) ⟨rfl, rfl⟩ (by omega) (by omega)
    · replace h : ¬ (L - 6 < 6 * (c : Int)) := h
      have hi : 0 ≤ 6 * (c : Int) ∧ 6 * (c : Int) + 6 ≤ L ∧ L ≤ 384 := by omega
      have next : ∀ (v5 v6 : ai_V) (T' : cm_T) (E' : cm_E) (nx' kc' ks' : Nat), cs_I T' E' nx' → hn E' → rl E' → (gv E' 0 10 = gv E' 81 1 ∧ gv E' 0 11 = gv E' 81 17 ∧ gv E' 0 14 = gv E' 81 34 ∧ gv E' 23 8 = gv E' 81 23 ∧ gv E' 23 9 = gv E' 81 24) → nx' ≤ nx + 2 → (kc ≤ kc' ∧ kc' ≤ kc + 10) → (ks ≤ ks' ∧ ks' ≤ ks + 500) → cm_wp (ai_find ai_c0 sl) (ai_ev sl (d + 20)) x 600128 7301098 (fun rk rv T' E' nx' => rk = 1 ∧ rv = ai_i 1) 1164 [(6, 0, 0), cr 0, cr 81, cr 104, ai_i (6 * (c : Int)), v5, v6] [] T' E' nx' kc' ks' := by
        intro v5 v6 T' E' nx' kc' ks' hI' hN' hR' hJ' h1 h2 h3
        refine w_iinc (i := 4) (n := 6) (npc := 1167) (loc' := [(6, 0, 0), cr 0, cr 81, cr 104, ai_i (6 * (c : Int) + 6), v5, v6]) rfl rfl (by omega) rfl ?_
        refine w_goto (pt := 23) rfl ?_
        have h9 := ih (c + 1) v5 v6 T' E' nx' kc' ks' (by omega) (by omega) (by omega) (by omega) (by omega) hI' hN' hR' hJ'
        rw [show 6 * ((c + 1 : Nat) : Int) = 6 * (c : Int) + 6 by omega] at h9
        exact h9
      refine w_aload (i := 0) (npc := 34) (v := (6, 0, 0)) rfl rfl rfl ?_
      refine w_iload (i := 4) (npc := 36) (z := 6 * (c : Int)) rfl rfl ?_
      obtain ⟨h0, h0a, h0b⟩ := hx (6 * (c : Int)).toNat (by omega)
      refine w_scr (npc := 37) (v := ai_i (sv (6 * (c : Int)).toNat)) rfl rfl (by omega) h0 ?_
      refine w_const (n := 31) (npc := 39) rfl ?_
      refine w_iand (npc := 40) rfl (by decide) (fun q hq _ => ?_)
      rcases (show (q < 0 ∨ 24 < q) ∨ q = 0 + ((0 : Nat) : Int) ∨ q = 0 + ((1 : Nat) : Int) ∨ q = 0 + ((2 : Nat) : Int) ∨ q = 0 + ((3 : Nat) : Int) ∨ q = 0 + ((4 : Nat) : Int) ∨ q = 0 + ((5 : Nat) : Int) ∨ q = 0 + ((6 : Nat) : Int) ∨ q = 0 + ((7 : Nat) : Int) ∨ q = 0 + ((8 : Nat) : Int) ∨ q = 0 + ((9 : Nat) : Int) ∨ q = 0 + ((10 : Nat) : Int) ∨ q = 0 + ((11 : Nat) : Int) ∨ q = 0 + ((12 : Nat) : Int) ∨ q = 0 + ((13 : Nat) : Int) ∨ q = 0 + ((14 : Nat) : Int) ∨ q = 0 + ((15 : Nat) : Int) ∨ q = 0 + ((16 : Nat) : Int) ∨ q = 0 + ((17 : Nat) : Int) ∨ q = 0 + ((18 : Nat) : Int) ∨ q = 0 + ((19 : Nat) : Int) ∨ q = 0 + ((20 : Nat) : Int) ∨ q = 0 + ((21 : Nat) : Int) ∨ q = 0 + ((22 : Nat) : Int) ∨ q = 0 + ((23 : Nat) : Int) ∨ q = 0 + ((24 : Nat) : Int) by omega) with hs | hs | hs | hs | hs | hs | hs | hs | hs | hs | hs | hs | hs | hs | hs | hs | hs | hs | hs | hs | hs | hs | hs | hs | hs | hs
      · exact w_swd rfl rfl hs (next u5 u6 T E nx kc ks hI hN hR hJ (by omega) (by omega) (by omega))
      · exact w_swc 0 (pt := 156) rfl rfl hs (by decide) rfl (law_c0 (L := L) hsl1 hx hi (by omega) (by omega) (by omega) u5 u6 hI hN hR hJ next)
      · exact w_swc 1 (pt := 181) rfl rfl hs (by decide) rfl (law_c1 (L := L) hsl1 hx hi (by omega) (by omega) (by omega) u5 u6 hI hN hR hJ next)
      · exact w_swc 2 (pt := 209) rfl rfl hs (by decide) rfl (law_c2 (L := L) hsl1 hx hi (by omega) (by omega) (by omega) u5 u6 hI hN hR hJ next)
      · exact w_swc 3 (pt := 249) rfl rfl hs (by decide) rfl (law_c3 (L := L) hsl1 hx hi (by omega) (by omega) (by omega) u5 u6 hI hN hR hJ next)
      · exact w_swc 4 (pt := 301) rfl rfl hs (by decide) rfl (law_c4 (L := L) hsl1 hx hi (by omega) (by omega) (by omega) u5 u6 hI hN hR hJ next)
      · exact w_swc 5 (pt := 365) rfl rfl hs (by decide) rfl (law_c5 (L := L) hsl1 hx hi (by omega) (by omega) (by omega) u5 u6 hI hN hR hJ next)
      · exact w_swc 6 (pt := 417) rfl rfl hs (by decide) rfl (law_c6 (L := L) hsl1 hx hi (by omega) (by omega) (by omega) u5 u6 hI hN hR hJ next)
      · exact w_swc 7 (pt := 457) rfl rfl hs (by decide) rfl (law_c7 (L := L) hsl1 hx hi (by omega) (by omega) (by omega) u5 u6 hI hN hR hJ next)
      · exact w_swc 8 (pt := 497) rfl rfl hs (by decide) rfl (law_c8 (L := L) hsl1 hx hi (by omega) (by omega) (by omega) u5 u6 hI hN hR hJ next)
      · exact w_swc 9 (pt := 561) rfl rfl hs (by decide) rfl (law_c9 (L := L) hsl1 hx hi (by omega) (by omega) (by omega) u5 u6 hI hN hR hJ next)
      · exact w_swc 10 (pt := 625) rfl rfl hs (by decide) rfl (law_c10 (L := L) hsl1 hx hi (by omega) (by omega) (by omega) u5 u6 hI hN hR hJ next)
      · exact w_swc 11 (pt := 698) rfl rfl hs (by decide) rfl (law_c11 (L := L) hsl1 hx hi (by omega) (by omega) (by omega) u5 u6 hI hN hR hJ next)
      · exact w_swc 12 (pt := 738) rfl rfl hs (by decide) rfl (law_c12 (L := L) hsl1 hx hi (by omega) (by omega) (by omega) u5 u6 hI hN hR hJ next)
      · exact w_swc 13 (pt := 751) rfl rfl hs (by decide) rfl (law_c13 (L := L) hsl1 hx hi (by omega) (by omega) (by omega) u5 u6 hI hN hR hJ next)
      · exact w_swc 14 (pt := 815) rfl rfl hs (by decide) rfl (law_c14 (L := L) hsl1 hx hi (by omega) (by omega) (by omega) u5 u6 hI hN hR hJ next)
      · exact w_swc 15 (pt := 867) rfl rfl hs (by decide) rfl (law_c15 (L := L) hsl1 hx hi (by omega) (by omega) (by omega) u5 u6 hI hN hR hJ next)
      · exact w_swc 16 (pt := 907) rfl rfl hs (by decide) rfl (law_c16 (L := L) hsl1 hx hi (by omega) (by omega) (by omega) u5 u6 hI hN hR hJ next)
      · exact w_swc 17 (pt := 947) rfl rfl hs (by decide) rfl (law_c17 (L := L) hsl1 hx hi (by omega) (by omega) (by omega) u5 u6 hI hN hR hJ next)
      · exact w_swc 18 (pt := 987) rfl rfl hs (by decide) rfl (law_c18 (L := L) hsl1 hx hi (by omega) (by omega) (by omega) u5 u6 hI hN hR hJ next)
      · exact w_swc 19 (pt := 1027) rfl rfl hs (by decide) rfl (law_c19 (L := L) hsl1 hx hi (by omega) (by omega) (by omega) u5 u6 hI hN hR hJ next)
      · exact w_swc 20 (pt := 1052) rfl rfl hs (by decide) rfl (law_c20 (L := L) hsl1 hx hi (by omega) (by omega) (by omega) u5 u6 hI hN hR hJ next)
      · exact w_swc 21 (pt := 1101) rfl rfl hs (by decide) rfl (law_c21 (L := L) hsl1 hx hi (by omega) (by omega) (by omega) u5 u6 hI hN hR hJ next)
      · exact w_swc 22 (pt := 1112) rfl rfl hs (by decide) rfl (law_c22 (L := L) hsl1 hx hi (by omega) (by omega) (by omega) u5 u6 hI hN hR hJ next)
      · exact w_swc 23 (pt := 1140) rfl rfl hs (by decide) rfl (law_c23 (L := L) hsl1 hx hi (by omega) (by omega) (by omega) u5 u6 hI hN hR hJ next)
      · exact w_swc 24 (pt := 1151) rfl rfl hs (by decide) rfl (law_c24 (L := L) hsl1 hx hi (by omega) (by omega) (by omega) u5 u6 hI hN hR hJ next)
set_option maxRecDepth 16384 in
theorem law_run {sl : Int × Int} {x : ai_E} {d : Nat} {L : Int} {sv : Nat → Int} (hsl : sl = (L, L)) (hx : ∀ k : Nat, (k : Int) < L → ai_sv x k = ai_i (sv k) ∧ -2147483648 ≤ sv k ∧ sv k ≤ 2147483647) (hL : 0 ≤ L ∧ L ≤ 384) : cm_wp (ai_find ai_c0 sl) (ai_ev sl (d + 20)) x 600128 7301098 (fun rk rv T' E' nx' => rk = 1 ∧ rv = ai_i 1) 0 [(6, 0, 0), ai_un, ai_un, ai_un, ai_un, ai_un, ai_un] [] iT0 iE0 0 0 0 := by
  suffices key : ∀ kc ks : Nat, kc = 0 → ks = 0 → cm_wp (ai_find ai_c0 sl) (ai_ev sl (d + 20)) x 600128 7301098 (fun rk rv T' E' nx' => rk = 1 ∧ rv = ai_i 1) 0 [(6, 0, 0), ai_un, ai_un, ai_un, ai_un, ai_un, ai_un] [] iT0 iE0 0 kc ks from key 0 0 rfl rfl
  intro kc ks hkc0 hks0
  have hf7 : cm_fn 7 = 15 := rfl
  have hf8 : cm_fn 8 = 38 := rfl
  refine w_new (ci := 7) (npc := 3) rfl (by decide) ?_
  change cm_wp _ _ _ _ _ _ 3 [(6, 0, 0), ai_un, ai_un, ai_un, ai_un, ai_un, ai_un] [cr 0] iT1 iE1 1 (kc + 1) (ks + cm_fn 7)
  refine w_dup (npc := 4) rfl rfl ?_
  refine w_virt (ci := 7) (i := 0) (npc := 7) (a := [cr 0]) (rest := [cr 0]) rfl rfl (by decide) rfl rfl rfl rfl rfl (ini_1 (sl := sl) (x := x) (d := d + 18)) (Or.inr (fun _ _ _ _ _ hq => by have h1 := hq.1; omega)) (fun k9 v9 T9 E9 nx9 kc1 ks1 hq1 hk1 hs1 => ?_)
  obtain ⟨rfl, rfl, rfl, rfl⟩ := hq1
  refine Or.inl ⟨rfl, ?_⟩
  refine w_astore (i := 1) (npc := 8) (loc' := [(6, 0, 0), cr 0, ai_un, ai_un, ai_un, ai_un, ai_un]) rfl rfl rfl ?_
  refine w_new (ci := 8) (npc := 11) rfl (by decide) ?_
  change cm_wp _ _ _ _ _ _ 11 [(6, 0, 0), cr 0, ai_un, ai_un, ai_un, ai_un, ai_un] [cr 81] iT73 iE194 82 (kc1 + 1) (ks1 + cm_fn 8)
  refine w_dup (npc := 12) rfl rfl ?_
  refine w_virt (ci := 8) (i := 81) (npc := 15) (a := [cr 81]) (rest := [cr 81]) rfl rfl (by decide) rfl rfl rfl rfl rfl (ini_17 (sl := sl) (x := x) (d := d + 19)) (Or.inr (fun _ _ _ _ _ hq => by have h1 := hq.1; omega)) (fun k9 v9 T9 E9 nx9 kc17 ks17 hq17 hk17 hs17 => ?_)
  obtain ⟨rfl, rfl, rfl, rfl⟩ := hq17
  refine Or.inl ⟨rfl, ?_⟩
  refine w_astore (i := 2) (npc := 16) (loc' := [(6, 0, 0), cr 0, cr 81, ai_un, ai_un, ai_un, ai_un]) rfl rfl rfl ?_
  refine w_const (n := 1) (npc := 17) rfl ?_
  refine w_newa (t := 3) (dv := (4, 0, 0)) (npc := 19) rfl (by decide) (by decide) (by decide) ?_
  change cm_wp _ _ _ _ _ _ 19 [(6, 0, 0), cr 0, cr 81, ai_un, ai_un, ai_un, ai_un] [cr 104] iT96 iE241 105 (kc17 + 1) (ks17 + 1)
  refine w_astore (i := 3) (npc := 20) (loc' := [(6, 0, 0), cr 0, cr 81, cr 104, ai_un, ai_un, ai_un]) rfl rfl rfl ?_
  refine w_const (n := 0) (npc := 21) rfl ?_
  refine w_istore (i := 4) (npc := 23) (loc' := [(6, 0, 0), cr 0, cr 81, cr 104, ai_i 0, ai_un, ai_un]) rfl rfl ?_
  have h9 := law_loop (d := d) hsl hx hL _ 0 ai_un ai_un iT96 iE241 105 (kc17 + 1) (ks17 + 1) (Nat.lt_succ_self _) (by omega) (by omega) (by omega) (by omega) ini_I ini_hn ini_rl ⟨rfl, rfl, rfl, rfl, rfl⟩
  rw [show 6 * ((0 : Nat) : Int) = 0 by decide] at h9
  exact h9
