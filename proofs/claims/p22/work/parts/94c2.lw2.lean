set_option maxRecDepth 16384 in
theorem law_c18 {sl : Int × Int} {x : ai_E} {d A B : Nat} {T : cm_T} {E : cm_E} {nx kc ks : Nat} {L : Int} {sv : Nat → Int} (hsl : sl.1 = L) (hx : ∀ k : Nat, (k : Int) < L → ai_sv x k = ai_i (sv k) ∧ -2147483648 ≤ sv k ∧ sv k ≤ 2147483647) {i : Int} (hi : 0 ≤ i ∧ i + 6 ≤ L ∧ L ≤ 384) (hnx : nx ≤ 1000) (hA : kc + 20 ≤ A) (hB : ks + 2000 ≤ B) (u5 u6 : ai_V) (hI : cs_I T E nx) (hN : hn E) (hR : rl E) (hJ : gv E 0 10 = gv E 81 1 ∧ gv E 0 11 = gv E 81 17 ∧ gv E 0 14 = gv E 81 34 ∧ gv E 23 8 = gv E 81 23 ∧ gv E 23 9 = gv E 81 24)
    (next : ∀ (v5 v6 : ai_V) (T' : cm_T) (E' : cm_E) (nx' kc' ks' : Nat), cs_I T' E' nx' → hn E' → rl E' → (gv E' 0 10 = gv E' 81 1 ∧ gv E' 0 11 = gv E' 81 17 ∧ gv E' 0 14 = gv E' 81 34 ∧ gv E' 23 8 = gv E' 81 23 ∧ gv E' 23 9 = gv E' 81 24) → nx' ≤ nx + 2 → (kc ≤ kc' ∧ kc' ≤ kc + 10) → (ks ≤ ks' ∧ ks' ≤ ks + 500) → cm_wp (ai_find ai_c0 sl) (ai_ev sl (d + 20)) x A B (fun rk rv T' E' nx' => rk = 1 ∧ rv = ai_i 1) 1164 [(6, 0, 0), cr 0, cr 81, cr 104, ai_i i, v5, v6] [] T' E' nx' kc' ks') : cm_wp (ai_find ai_c0 sl) (ai_ev sl (d + 20)) x A B (fun rk rv T' E' nx' => rk = 1 ∧ rv = ai_i 1) 987 [(6, 0, 0), cr 0, cr 81, cr 104, ai_i i, u5, u6] [] T E nx kc ks := by
  obtain ⟨z1, hz1, hz1a, hz1b⟩ := hI.int 0 10 (lo := 1) (hi := 5) (by decide) (by decide) rfl
  have ghz1 := gv_eq hz1
  obtain ⟨z2, hz2, hz2a, hz2b⟩ := hI.int 0 11 (lo := 0) (hi := 400) (by decide) (by decide) rfl
  have ghz2 := gv_eq hz2
  obtain ⟨z3, hz3, hz3a, hz3b⟩ := hI.int 0 14 (lo := 0) (hi := 1) (by decide) (by decide) rfl
  have ghz3 := gv_eq hz3
  obtain ⟨z4, hz4, hz4a, hz4b⟩ := hI.int 23 8 (lo := 0) (hi := 12) (by decide) (by decide) rfl
  have ghz4 := gv_eq hz4
  obtain ⟨z5, hz5, hz5a, hz5b⟩ := hI.int 23 9 (lo := 0) (hi := 8) (by decide) (by decide) rfl
  have ghz5 := gv_eq hz5
  obtain ⟨z6, hz6, hz6a, hz6b⟩ := hI.int 81 1 (lo := 1) (hi := 5) (by decide) (by decide) rfl
  have ghz6 := gv_eq hz6
  obtain ⟨z7, hz7, hz7a, hz7b⟩ := hI.int 81 17 (lo := 0) (hi := 400) (by decide) (by decide) rfl
  have ghz7 := gv_eq hz7
  obtain ⟨z8, hz8, hz8a, hz8b⟩ := hI.int 81 34 (lo := 0) (hi := 1) (by decide) (by decide) rfl
  have ghz8 := gv_eq hz8
  obtain ⟨z9, hz9, hz9a, hz9b⟩ := hI.int 81 23 (lo := 0) (hi := 12) (by decide) (by decide) rfl
  have ghz9 := gv_eq hz9
  obtain ⟨z10, hz10, hz10a, hz10b⟩ := hI.int 81 24 (lo := 0) (hi := 8) (by decide) (by decide) rfl
  have ghz10 := gv_eq hz10
  refine w_aload (i := 1) (npc := 988) (v := cr 0) rfl rfl rfl ?_
  refine w_aload (i := 0) (npc := 989) (v := (6, 0, 0)) rfl rfl rfl ?_
  refine w_iload (i := 4) (npc := 991) rfl rfl ?_
  refine w_const (n := 1) (npc := 992) rfl ?_
  refine w_iadd (npc := 993) rfl (by omega) ?_
  obtain ⟨hx12, hx12a, hx12b⟩ := hx (i + 1 : Int).toNat (by omega)
  refine w_scr (npc := 994) (v := ai_i (sv (i + 1 : Int).toNat)) rfl rfl (by omega) hx12 ?_
  refine w_aload (i := 0) (npc := 995) (v := (6, 0, 0)) rfl rfl rfl ?_
  refine w_iload (i := 4) (npc := 997) rfl rfl ?_
  refine w_const (n := 2) (npc := 998) rfl ?_
  refine w_iadd (npc := 999) rfl (by omega) ?_
  obtain ⟨hx14, hx14a, hx14b⟩ := hx (i + 2 : Int).toNat (by omega)
  refine w_scr (npc := 1000) (v := ai_i (sv (i + 2 : Int).toNat)) rfl rfl (by omega) hx14 ?_
  refine w_aload (i := 3) (npc := 1001) (v := cr 104) rfl rfl rfl ?_
  refine w_call (npc := 1004) (a := [cr 0, ai_i (sv (i + 1 : Int).toNat), ai_i (sv (i + 2 : Int).toNat), cr 104]) (rest := []) rfl rfl rfl rfl rfl (ct_lw_gone (sl := sl) (x := x) (d := d + 11) (sv (i + 1 : Int).toNat) (sv (i + 2 : Int).toNat) hI hN (by omega) (by omega)) (Or.inr (fun _ _ _ _ _ hq => by have h1 := hq.1; omega)) (fun k9 v9 T16 E16 nx16 kc16 ks16 hq15 hk16 hv16 => ?_)
  obtain ⟨rfl, hnxz17, hnyz17, hI18, hG19, hN20, z17, rfl, hz17⟩ := hq15
  have hR21 := rl.fr hR hG19 (by intro i k h; (try simp only at h); omega)
  have hz22 : E16 0 10 = ai_i z1 := (hG19 0 10 (by first | omega | (simp; done) | (simp; omega) | (simp only; omega))).trans hz1
  have ghz22 := gv_eq hz22
  have hz23 : E16 0 11 = ai_i z2 := (hG19 0 11 (by first | omega | (simp; done) | (simp; omega) | (simp only; omega))).trans hz2
  have ghz23 := gv_eq hz23
  have hz24 : E16 0 14 = ai_i z3 := (hG19 0 14 (by first | omega | (simp; done) | (simp; omega) | (simp only; omega))).trans hz3
  have ghz24 := gv_eq hz24
  have hz25 : E16 23 8 = ai_i z4 := (hG19 23 8 (by first | omega | (simp; done) | (simp; omega) | (simp only; omega))).trans hz4
  have ghz25 := gv_eq hz25
  have hz26 : E16 23 9 = ai_i z5 := (hG19 23 9 (by first | omega | (simp; done) | (simp; omega) | (simp only; omega))).trans hz5
  have ghz26 := gv_eq hz26
  have hz27 : E16 81 1 = ai_i z6 := (hG19 81 1 (by first | omega | (simp; done) | (simp; omega) | (simp only; omega))).trans hz6
  have ghz27 := gv_eq hz27
  have hz28 : E16 81 17 = ai_i z7 := (hG19 81 17 (by first | omega | (simp; done) | (simp; omega) | (simp only; omega))).trans hz7
  have ghz28 := gv_eq hz28
  have hz29 : E16 81 34 = ai_i z8 := (hG19 81 34 (by first | omega | (simp; done) | (simp; omega) | (simp only; omega))).trans hz8
  have ghz29 := gv_eq hz29
  have hz30 : E16 81 23 = ai_i z9 := (hG19 81 23 (by first | omega | (simp; done) | (simp; omega) | (simp only; omega))).trans hz9
  have ghz30 := gv_eq hz30
  have hz31 : E16 81 24 = ai_i z10 := (hG19 81 24 (by first | omega | (simp; done) | (simp; omega) | (simp only; omega))).trans hz10
  have ghz31 := gv_eq hz31
  refine Or.inr (Or.inl ⟨rfl, ?_⟩)
  refine w_istore (i := 5) (npc := 1006) (loc' := [(6, 0, 0), cr 0, cr 81, cr 104, ai_i i, ai_i z17, u6]) rfl rfl ?_
  refine w_aload (i := 2) (npc := 1007) (v := cr 81) rfl rfl rfl ?_
  refine w_aload (i := 0) (npc := 1008) (v := (6, 0, 0)) rfl rfl rfl ?_
  refine w_iload (i := 4) (npc := 1010) rfl rfl ?_
  refine w_const (n := 1) (npc := 1011) rfl ?_
  refine w_iadd (npc := 1012) rfl (by omega) ?_
  obtain ⟨hx33, hx33a, hx33b⟩ := hx (i + 1 : Int).toNat (by omega)
  refine w_scr (npc := 1013) (v := ai_i (sv (i + 1 : Int).toNat)) rfl rfl (by omega) hx33 ?_
  refine w_aload (i := 0) (npc := 1014) (v := (6, 0, 0)) rfl rfl rfl ?_
  refine w_iload (i := 4) (npc := 1016) rfl rfl ?_
  refine w_const (n := 2) (npc := 1017) rfl ?_
  refine w_iadd (npc := 1018) rfl (by omega) ?_
  obtain ⟨hx35, hx35a, hx35b⟩ := hx (i + 2 : Int).toNat (by omega)
  refine w_scr (npc := 1019) (v := ai_i (sv (i + 2 : Int).toNat)) rfl rfl (by omega) hx35 ?_
  refine w_virt (ci := 8) (i := 81) (npc := 1022) (a := [cr 81, ai_i (sv (i + 1 : Int).toNat), ai_i (sv (i + 2 : Int).toNat)]) (rest := []) rfl rfl (hI18.pl (by decide)) (hI18.T (by decide) rfl) rfl rfl rfl rfl (ct_m_gone (sl := sl) (x := x) (d := d + 12) (sv (i + 1 : Int).toNat) (sv (i + 2 : Int).toNat) hI18 hR21 (by omega) (by omega)) (Or.inl rfl) (fun k9 v9 T37 E37 nx37 kc37 ks37 hq36 hk37 hv37 => ?_)
  obtain ⟨rfl, rfl, rfl, hI39, hG40, hRz38, z38, rfl, hz38⟩ := hq36
  obtain rfl : kc16 = kc37 := by omega
  obtain rfl : ks16 = ks37 := by omega
  have hN42 := hN20.fr hG40 (by intro i k h; (try simp only at h); omega)
  have hz43 : E37 0 10 = ai_i z1 := (hG40 0 10 (by first | omega | (simp; done) | (simp; omega) | (simp only; omega))).trans hz22
  have ghz43 := gv_eq hz43
  have hz44 : E37 0 11 = ai_i z2 := (hG40 0 11 (by first | omega | (simp; done) | (simp; omega) | (simp only; omega))).trans hz23
  have ghz44 := gv_eq hz44
  have hz45 : E37 0 14 = ai_i z3 := (hG40 0 14 (by first | omega | (simp; done) | (simp; omega) | (simp only; omega))).trans hz24
  have ghz45 := gv_eq hz45
  have hz46 : E37 23 8 = ai_i z4 := (hG40 23 8 (by first | omega | (simp; done) | (simp; omega) | (simp only; omega))).trans hz25
  have ghz46 := gv_eq hz46
  have hz47 : E37 23 9 = ai_i z5 := (hG40 23 9 (by first | omega | (simp; done) | (simp; omega) | (simp only; omega))).trans hz26
  have ghz47 := gv_eq hz47
  have hz48 : E37 81 1 = ai_i z6 := (hG40 81 1 (by first | omega | (simp; done) | (simp; omega) | (simp only; omega))).trans hz27
  have ghz48 := gv_eq hz48
  have hz49 : E37 81 17 = ai_i z7 := (hG40 81 17 (by first | omega | (simp; done) | (simp; omega) | (simp only; omega))).trans hz28
  have ghz49 := gv_eq hz49
  have hz50 : E37 81 34 = ai_i z8 := (hG40 81 34 (by first | omega | (simp; done) | (simp; omega) | (simp only; omega))).trans hz29
  have ghz50 := gv_eq hz50
  have hz51 : E37 81 23 = ai_i z9 := (hG40 81 23 (by first | omega | (simp; done) | (simp; omega) | (simp only; omega))).trans hz30
  have ghz51 := gv_eq hz51
  have hz52 : E37 81 24 = ai_i z10 := (hG40 81 24 (by first | omega | (simp; done) | (simp; omega) | (simp only; omega))).trans hz31
  have ghz52 := gv_eq hz52
  refine Or.inr (Or.inl ⟨rfl, ?_⟩)
  refine w_istore (i := 6) (npc := 1024) (loc' := [(6, 0, 0), cr 0, cr 81, cr 104, ai_i i, ai_i z17, ai_i z38]) rfl rfl ?_
  refine w_goto (pt := 1164) rfl ?_
  exact next (ai_i z17) (ai_i z38) T16 E37 nx16 kc16 ks16 hI39 hN42 hRz38 (by omega) (by omega) (by omega) (by omega)
set_option maxRecDepth 16384 in
theorem law_c19 {sl : Int × Int} {x : ai_E} {d A B : Nat} {T : cm_T} {E : cm_E} {nx kc ks : Nat} {L : Int} {sv : Nat → Int} (hsl : sl.1 = L) (hx : ∀ k : Nat, (k : Int) < L → ai_sv x k = ai_i (sv k) ∧ -2147483648 ≤ sv k ∧ sv k ≤ 2147483647) {i : Int} (hi : 0 ≤ i ∧ i + 6 ≤ L ∧ L ≤ 384) (hnx : nx ≤ 1000) (hA : kc + 20 ≤ A) (hB : ks + 2000 ≤ B) (u5 u6 : ai_V) (hI : cs_I T E nx) (hN : hn E) (hR : rl E) (hJ : gv E 0 10 = gv E 81 1 ∧ gv E 0 11 = gv E 81 17 ∧ gv E 0 14 = gv E 81 34 ∧ gv E 23 8 = gv E 81 23 ∧ gv E 23 9 = gv E 81 24)
    (next : ∀ (v5 v6 : ai_V) (T' : cm_T) (E' : cm_E) (nx' kc' ks' : Nat), cs_I T' E' nx' → hn E' → rl E' → (gv E' 0 10 = gv E' 81 1 ∧ gv E' 0 11 = gv E' 81 17 ∧ gv E' 0 14 = gv E' 81 34 ∧ gv E' 23 8 = gv E' 81 23 ∧ gv E' 23 9 = gv E' 81 24) → nx' ≤ nx + 2 → (kc ≤ kc' ∧ kc' ≤ kc + 10) → (ks ≤ ks' ∧ ks' ≤ ks + 500) → cm_wp (ai_find ai_c0 sl) (ai_ev sl (d + 20)) x A B (fun rk rv T' E' nx' => rk = 1 ∧ rv = ai_i 1) 1164 [(6, 0, 0), cr 0, cr 81, cr 104, ai_i i, v5, v6] [] T' E' nx' kc' ks') : cm_wp (ai_find ai_c0 sl) (ai_ev sl (d + 20)) x A B (fun rk rv T' E' nx' => rk = 1 ∧ rv = ai_i 1) 1027 [(6, 0, 0), cr 0, cr 81, cr 104, ai_i i, u5, u6] [] T E nx kc ks := by
  obtain ⟨z1, hz1, hz1a, hz1b⟩ := hI.int 0 10 (lo := 1) (hi := 5) (by decide) (by decide) rfl
  have ghz1 := gv_eq hz1
  obtain ⟨z2, hz2, hz2a, hz2b⟩ := hI.int 0 11 (lo := 0) (hi := 400) (by decide) (by decide) rfl
  have ghz2 := gv_eq hz2
  obtain ⟨z3, hz3, hz3a, hz3b⟩ := hI.int 0 14 (lo := 0) (hi := 1) (by decide) (by decide) rfl
  have ghz3 := gv_eq hz3
  obtain ⟨z4, hz4, hz4a, hz4b⟩ := hI.int 23 8 (lo := 0) (hi := 12) (by decide) (by decide) rfl
  have ghz4 := gv_eq hz4
  obtain ⟨z5, hz5, hz5a, hz5b⟩ := hI.int 23 9 (lo := 0) (hi := 8) (by decide) (by decide) rfl
  have ghz5 := gv_eq hz5
  obtain ⟨z6, hz6, hz6a, hz6b⟩ := hI.int 81 1 (lo := 1) (hi := 5) (by decide) (by decide) rfl
  have ghz6 := gv_eq hz6
  obtain ⟨z7, hz7, hz7a, hz7b⟩ := hI.int 81 17 (lo := 0) (hi := 400) (by decide) (by decide) rfl
  have ghz7 := gv_eq hz7
  obtain ⟨z8, hz8, hz8a, hz8b⟩ := hI.int 81 34 (lo := 0) (hi := 1) (by decide) (by decide) rfl
  have ghz8 := gv_eq hz8
  obtain ⟨z9, hz9, hz9a, hz9b⟩ := hI.int 81 23 (lo := 0) (hi := 12) (by decide) (by decide) rfl
  have ghz9 := gv_eq hz9
  obtain ⟨z10, hz10, hz10a, hz10b⟩ := hI.int 81 24 (lo := 0) (hi := 8) (by decide) (by decide) rfl
  have ghz10 := gv_eq hz10
  refine w_aload (i := 1) (npc := 1028) (v := cr 0) rfl rfl rfl ?_
  refine w_aload (i := 0) (npc := 1029) (v := (6, 0, 0)) rfl rfl rfl ?_
  refine w_iload (i := 4) (npc := 1031) rfl rfl ?_
  refine w_const (n := 1) (npc := 1032) rfl ?_
  refine w_iadd (npc := 1033) rfl (by omega) ?_
  obtain ⟨hx12, hx12a, hx12b⟩ := hx (i + 1 : Int).toNat (by omega)
  refine w_scr (npc := 1034) (v := ai_i (sv (i + 1 : Int).toNat)) rfl rfl (by omega) hx12 ?_
  refine w_virt (ci := 7) (i := 0) (npc := 1037) (a := [cr 0, ai_i (sv (i + 1 : Int).toNat)]) (rest := []) rfl rfl (hI.pl (by decide)) (hI.T (by decide) rfl) rfl rfl rfl rfl (ct_c_say (sl := sl) (x := x) (d := d + 18) (sv (i + 1 : Int).toNat) hI hN) (Or.inl rfl) (fun k9 v9 T14 E14 nx14 kc14 ks14 hq13 hk14 hv14 => ?_)
  obtain ⟨rfl, rfl, rfl, hI16, hG17, hN18, z15, rfl, hz15⟩ := hq13
  have hR19 := rl.fr hR hG17 (by intro i k h; (try simp only at h); omega)
  have hz20 : E14 0 10 = ai_i z1 := (hG17 0 10 (by first | omega | (simp; done) | (simp; omega) | (simp only; omega))).trans hz1
  have ghz20 := gv_eq hz20
  have hz21 : E14 0 11 = ai_i z2 := (hG17 0 11 (by first | omega | (simp; done) | (simp; omega) | (simp only; omega))).trans hz2
  have ghz21 := gv_eq hz21
  have hz22 : E14 0 14 = ai_i z3 := (hG17 0 14 (by first | omega | (simp; done) | (simp; omega) | (simp only; omega))).trans hz3
  have ghz22 := gv_eq hz22
  have hz23 : E14 23 9 = ai_i z5 := (hG17 23 9 (by first | omega | (simp; done) | (simp; omega) | (simp only; omega))).trans hz5
  have ghz23 := gv_eq hz23
  have hz24 : E14 81 1 = ai_i z6 := (hG17 81 1 (by first | omega | (simp; done) | (simp; omega) | (simp only; omega))).trans hz6
  have ghz24 := gv_eq hz24
  have hz25 : E14 81 17 = ai_i z7 := (hG17 81 17 (by first | omega | (simp; done) | (simp; omega) | (simp only; omega))).trans hz7
  have ghz25 := gv_eq hz25
  have hz26 : E14 81 34 = ai_i z8 := (hG17 81 34 (by first | omega | (simp; done) | (simp; omega) | (simp only; omega))).trans hz8
  have ghz26 := gv_eq hz26
  have hz27 : E14 81 23 = ai_i z9 := (hG17 81 23 (by first | omega | (simp; done) | (simp; omega) | (simp only; omega))).trans hz9
  have ghz27 := gv_eq hz27
  have hz28 : E14 81 24 = ai_i z10 := (hG17 81 24 (by first | omega | (simp; done) | (simp; omega) | (simp only; omega))).trans hz10
  have ghz28 := gv_eq hz28
  refine Or.inr (Or.inl ⟨rfl, ?_⟩)
  refine w_pop (npc := 1038) rfl rfl ?_
  refine w_aload (i := 2) (npc := 1039) (v := cr 81) rfl rfl rfl ?_
  refine w_aload (i := 0) (npc := 1040) (v := (6, 0, 0)) rfl rfl rfl ?_
  refine w_iload (i := 4) (npc := 1042) rfl rfl ?_
  refine w_const (n := 1) (npc := 1043) rfl ?_
  refine w_iadd (npc := 1044) rfl (by omega) ?_
  obtain ⟨hx30, hx30a, hx30b⟩ := hx (i + 1 : Int).toNat (by omega)
  refine w_scr (npc := 1045) (v := ai_i (sv (i + 1 : Int).toNat)) rfl rfl (by omega) hx30 ?_
  obtain ⟨z31, hz31, hz31a, hz31b⟩ := hI16.int 23 8 (lo := 0) (hi := 12) (by decide) (by decide) rfl
  have ghz31 := gv_eq hz31
  refine w_virt (ci := 8) (i := 81) (npc := 1048) (a := [cr 81, ai_i (sv (i + 1 : Int).toNat)]) (rest := []) rfl rfl (hI16.pl (by decide)) (hI16.T (by decide) rfl) rfl rfl rfl rfl (ct_m_say (sl := sl) (x := x) (d := d + 18) (sv (i + 1 : Int).toNat) hI16 hR19 (by omega)) (Or.inl rfl) (fun k9 v9 T33 E33 nx33 kc33 ks33 hq32 hk33 hv33 => ?_)
  obtain ⟨rfl, rfl, rfl, hI35, hG36, hRz34, z34, rfl, hz34⟩ := hq32
  obtain rfl : kc14 = kc33 := by omega
  obtain rfl : ks14 = ks33 := by omega
  have hN38 := hN18.fr hG36 (by intro i k h; (try simp only at h); omega)
  have hz39 : E33 0 10 = ai_i z1 := (hG36 0 10 (by first | omega | (simp; done) | (simp; omega) | (simp only; omega))).trans hz20
  have ghz39 := gv_eq hz39
  have hz40 : E33 0 11 = ai_i z2 := (hG36 0 11 (by first | omega | (simp; done) | (simp; omega) | (simp only; omega))).trans hz21
  have ghz40 := gv_eq hz40
  have hz41 : E33 0 14 = ai_i z3 := (hG36 0 14 (by first | omega | (simp; done) | (simp; omega) | (simp only; omega))).trans hz22
  have ghz41 := gv_eq hz41
  have hz42 : E33 23 9 = ai_i z5 := (hG36 23 9 (by first | omega | (simp; done) | (simp; omega) | (simp only; omega))).trans hz23
  have ghz42 := gv_eq hz42
  have hz43 : E33 81 1 = ai_i z6 := (hG36 81 1 (by first | omega | (simp; done) | (simp; omega) | (simp only; omega))).trans hz24
  have ghz43 := gv_eq hz43
  have hz44 : E33 81 17 = ai_i z7 := (hG36 81 17 (by first | omega | (simp; done) | (simp; omega) | (simp only; omega))).trans hz25
  have ghz44 := gv_eq hz44
  have hz45 : E33 81 34 = ai_i z8 := (hG36 81 34 (by first | omega | (simp; done) | (simp; omega) | (simp only; omega))).trans hz26
  have ghz45 := gv_eq hz45
  have hz46 : E33 81 24 = ai_i z10 := (hG36 81 24 (by first | omega | (simp; done) | (simp; omega) | (simp only; omega))).trans hz28
  have ghz46 := gv_eq hz46
  have hz47 : E33 23 8 = ai_i z31 := (hG36 23 8 (by first | omega | (simp; done) | (simp; omega) | (simp only; omega))).trans hz31
  have ghz47 := gv_eq hz47
  refine Or.inr (Or.inl ⟨rfl, ?_⟩)
  refine w_pop (npc := 1049) rfl rfl ?_
  refine w_goto (pt := 1164) rfl ?_
  exact next (u5) (u6) T E33 nx kc14 ks14 hI35 hN38 hRz34 (by omega) (by omega) (by omega) (by omega)
set_option maxRecDepth 16384 in
theorem law_c20 {sl : Int × Int} {x : ai_E} {d A B : Nat} {T : cm_T} {E : cm_E} {nx kc ks : Nat} {L : Int} {sv : Nat → Int} (hsl : sl.1 = L) (hx : ∀ k : Nat, (k : Int) < L → ai_sv x k = ai_i (sv k) ∧ -2147483648 ≤ sv k ∧ sv k ≤ 2147483647) {i : Int} (hi : 0 ≤ i ∧ i + 6 ≤ L ∧ L ≤ 384) (hnx : nx ≤ 1000) (hA : kc + 20 ≤ A) (hB : ks + 2000 ≤ B) (u5 u6 : ai_V) (hI : cs_I T E nx) (hN : hn E) (hR : rl E) (hJ : gv E 0 10 = gv E 81 1 ∧ gv E 0 11 = gv E 81 17 ∧ gv E 0 14 = gv E 81 34 ∧ gv E 23 8 = gv E 81 23 ∧ gv E 23 9 = gv E 81 24)
    (next : ∀ (v5 v6 : ai_V) (T' : cm_T) (E' : cm_E) (nx' kc' ks' : Nat), cs_I T' E' nx' → hn E' → rl E' → (gv E' 0 10 = gv E' 81 1 ∧ gv E' 0 11 = gv E' 81 17 ∧ gv E' 0 14 = gv E' 81 34 ∧ gv E' 23 8 = gv E' 81 23 ∧ gv E' 23 9 = gv E' 81 24) → nx' ≤ nx + 2 → (kc ≤ kc' ∧ kc' ≤ kc + 10) → (ks ≤ ks' ∧ ks' ≤ ks + 500) → cm_wp (ai_find ai_c0 sl) (ai_ev sl (d + 20)) x A B (fun rk rv T' E' nx' => rk = 1 ∧ rv = ai_i 1) 1164 [(6, 0, 0), cr 0, cr 81, cr 104, ai_i i, v5, v6] [] T' E' nx' kc' ks') : cm_wp (ai_find ai_c0 sl) (ai_ev sl (d + 20)) x A B (fun rk rv T' E' nx' => rk = 1 ∧ rv = ai_i 1) 1052 [(6, 0, 0), cr 0, cr 81, cr 104, ai_i i, u5, u6] [] T E nx kc ks := by
  obtain ⟨z1, hz1, hz1a, hz1b⟩ := hI.int 0 10 (lo := 1) (hi := 5) (by decide) (by decide) rfl
  have ghz1 := gv_eq hz1
  obtain ⟨z2, hz2, hz2a, hz2b⟩ := hI.int 0 11 (lo := 0) (hi := 400) (by decide) (by decide) rfl
  have ghz2 := gv_eq hz2
  obtain ⟨z3, hz3, hz3a, hz3b⟩ := hI.int 0 14 (lo := 0) (hi := 1) (by decide) (by decide) rfl
  have ghz3 := gv_eq hz3
  obtain ⟨z4, hz4, hz4a, hz4b⟩ := hI.int 23 8 (lo := 0) (hi := 12) (by decide) (by decide) rfl
  have ghz4 := gv_eq hz4
  obtain ⟨z5, hz5, hz5a, hz5b⟩ := hI.int 23 9 (lo := 0) (hi := 8) (by decide) (by decide) rfl
  have ghz5 := gv_eq hz5
  obtain ⟨z6, hz6, hz6a, hz6b⟩ := hI.int 81 1 (lo := 1) (hi := 5) (by decide) (by decide) rfl
  have ghz6 := gv_eq hz6
  obtain ⟨z7, hz7, hz7a, hz7b⟩ := hI.int 81 17 (lo := 0) (hi := 400) (by decide) (by decide) rfl
  have ghz7 := gv_eq hz7
  obtain ⟨z8, hz8, hz8a, hz8b⟩ := hI.int 81 34 (lo := 0) (hi := 1) (by decide) (by decide) rfl
  have ghz8 := gv_eq hz8
  obtain ⟨z9, hz9, hz9a, hz9b⟩ := hI.int 81 23 (lo := 0) (hi := 12) (by decide) (by decide) rfl
  have ghz9 := gv_eq hz9
  obtain ⟨z10, hz10, hz10a, hz10b⟩ := hI.int 81 24 (lo := 0) (hi := 8) (by decide) (by decide) rfl
  have ghz10 := gv_eq hz10
  refine w_aload (i := 1) (npc := 1053) (v := cr 0) rfl rfl rfl ?_
  refine w_aload (i := 0) (npc := 1054) (v := (6, 0, 0)) rfl rfl rfl ?_
  refine w_iload (i := 4) (npc := 1056) rfl rfl ?_
  refine w_const (n := 1) (npc := 1057) rfl ?_
  refine w_iadd (npc := 1058) rfl (by omega) ?_
  obtain ⟨hx12, hx12a, hx12b⟩ := hx (i + 1 : Int).toNat (by omega)
  refine w_scr (npc := 1059) (v := ai_i (sv (i + 1 : Int).toNat)) rfl rfl (by omega) hx12 ?_
  refine w_aload (i := 0) (npc := 1060) (v := (6, 0, 0)) rfl rfl rfl ?_
  refine w_iload (i := 4) (npc := 1062) rfl rfl ?_
  refine w_const (n := 2) (npc := 1063) rfl ?_
  refine w_iadd (npc := 1064) rfl (by omega) ?_
  obtain ⟨hx14, hx14a, hx14b⟩ := hx (i + 2 : Int).toNat (by omega)
  refine w_scr (npc := 1065) (v := ai_i (sv (i + 2 : Int).toNat)) rfl rfl (by omega) hx14 ?_
  refine w_aload (i := 0) (npc := 1066) (v := (6, 0, 0)) rfl rfl rfl ?_
  refine w_iload (i := 4) (npc := 1068) rfl rfl ?_
  refine w_const (n := 3) (npc := 1069) rfl ?_
  refine w_iadd (npc := 1070) rfl (by omega) ?_
  obtain ⟨hx16, hx16a, hx16b⟩ := hx (i + 3 : Int).toNat (by omega)
  refine w_scr (npc := 1071) (v := ai_i (sv (i + 3 : Int).toNat)) rfl rfl (by omega) hx16 ?_
  refine w_virt (ci := 7) (i := 0) (npc := 1074) (a := [cr 0, ai_i (sv (i + 1 : Int).toNat), ai_i (sv (i + 2 : Int).toNat), ai_i (sv (i + 3 : Int).toNat)]) (rest := []) rfl rfl (hI.pl (by decide)) (hI.T (by decide) rfl) rfl rfl rfl rfl (ct_c_act (sl := sl) (x := x) (d := d + 18) (sv (i + 1 : Int).toNat) (sv (i + 2 : Int).toNat) (sv (i + 3 : Int).toNat) hI hN) (Or.inl rfl) (fun k9 v9 T18 E18 nx18 kc18 ks18 hq17 hk18 hv18 => ?_)
  obtain ⟨rfl, rfl, rfl, hI20, hG21, hN22, z19, rfl, hz19⟩ := hq17
  have hR23 := rl.fr hR hG21 (by intro i k h; (try simp only at h); omega)
  have hz24 : E18 0 10 = ai_i z1 := (hG21 0 10 (by first | omega | (simp; done) | (simp; omega) | (simp only; omega))).trans hz1
  have ghz24 := gv_eq hz24
  have hz25 : E18 0 11 = ai_i z2 := (hG21 0 11 (by first | omega | (simp; done) | (simp; omega) | (simp only; omega))).trans hz2
  have ghz25 := gv_eq hz25
  have hz26 : E18 0 14 = ai_i z3 := (hG21 0 14 (by first | omega | (simp; done) | (simp; omega) | (simp only; omega))).trans hz3
  have ghz26 := gv_eq hz26
  have hz27 : E18 23 8 = ai_i z4 := (hG21 23 8 (by first | omega | (simp; done) | (simp; omega) | (simp only; omega))).trans hz4
  have ghz27 := gv_eq hz27
  have hz28 : E18 81 1 = ai_i z6 := (hG21 81 1 (by first | omega | (simp; done) | (simp; omega) | (simp only; omega))).trans hz6
  have ghz28 := gv_eq hz28
  have hz29 : E18 81 17 = ai_i z7 := (hG21 81 17 (by first | omega | (simp; done) | (simp; omega) | (simp only; omega))).trans hz7
  have ghz29 := gv_eq hz29
  have hz30 : E18 81 34 = ai_i z8 := (hG21 81 34 (by first | omega | (simp; done) | (simp; omega) | (simp only; omega))).trans hz8
  have ghz30 := gv_eq hz30
  have hz31 : E18 81 23 = ai_i z9 := (hG21 81 23 (by first | omega | (simp; done) | (simp; omega) | (simp only; omega))).trans hz9
  have ghz31 := gv_eq hz31
  have hz32 : E18 81 24 = ai_i z10 := (hG21 81 24 (by first | omega | (simp; done) | (simp; omega) | (simp only; omega))).trans hz10
  have ghz32 := gv_eq hz32
  refine Or.inr (Or.inl ⟨rfl, ?_⟩)
  refine w_aload (i := 2) (npc := 1075) (v := cr 81) rfl rfl rfl ?_
  refine w_aload (i := 0) (npc := 1076) (v := (6, 0, 0)) rfl rfl rfl ?_
  refine w_iload (i := 4) (npc := 1078) rfl rfl ?_
  refine w_const (n := 1) (npc := 1079) rfl ?_
  refine w_iadd (npc := 1080) rfl (by omega) ?_
  obtain ⟨hx34, hx34a, hx34b⟩ := hx (i + 1 : Int).toNat (by omega)
  refine w_scr (npc := 1081) (v := ai_i (sv (i + 1 : Int).toNat)) rfl rfl (by omega) hx34 ?_
  refine w_aload (i := 0) (npc := 1082) (v := (6, 0, 0)) rfl rfl rfl ?_
  refine w_iload (i := 4) (npc := 1084) rfl rfl ?_
  refine w_const (n := 2) (npc := 1085) rfl ?_
  refine w_iadd (npc := 1086) rfl (by omega) ?_
  obtain ⟨hx36, hx36a, hx36b⟩ := hx (i + 2 : Int).toNat (by omega)
  refine w_scr (npc := 1087) (v := ai_i (sv (i + 2 : Int).toNat)) rfl rfl (by omega) hx36 ?_
  refine w_aload (i := 0) (npc := 1088) (v := (6, 0, 0)) rfl rfl rfl ?_
  refine w_iload (i := 4) (npc := 1090) rfl rfl ?_
  refine w_const (n := 3) (npc := 1091) rfl ?_
  refine w_iadd (npc := 1092) rfl (by omega) ?_
  obtain ⟨hx38, hx38a, hx38b⟩ := hx (i + 3 : Int).toNat (by omega)
  refine w_scr (npc := 1093) (v := ai_i (sv (i + 3 : Int).toNat)) rfl rfl (by omega) hx38 ?_
  obtain ⟨z39, hz39, hz39a, hz39b⟩ := hI20.int 23 9 (lo := 0) (hi := 8) (by decide) (by decide) rfl
  have ghz39 := gv_eq hz39
  refine w_virt (ci := 8) (i := 81) (npc := 1096) (a := [cr 81, ai_i (sv (i + 1 : Int).toNat), ai_i (sv (i + 2 : Int).toNat), ai_i (sv (i + 3 : Int).toNat)]) (rest := [ai_i z19]) rfl rfl (hI20.pl (by decide)) (hI20.T (by decide) rfl) rfl rfl rfl rfl (ct_m_act (sl := sl) (x := x) (d := d + 18) (sv (i + 1 : Int).toNat) (sv (i + 2 : Int).toNat) (sv (i + 3 : Int).toNat) hI20 hR23 (by omega) (by omega) (by omega)) (Or.inl rfl) (fun k9 v9 T41 E41 nx41 kc41 ks41 hq40 hk41 hv41 => ?_)
  obtain ⟨rfl, rfl, rfl, hI43, hG44, hRz42, z42, rfl, hz42⟩ := hq40
  obtain rfl : kc18 = kc41 := by omega
  obtain rfl : ks18 = ks41 := by omega
  have hN46 := hN22.fr hG44 (by intro i k h; (try simp only at h); omega)
  have hz47 : E41 0 10 = ai_i z1 := (hG44 0 10 (by first | omega | (simp; done) | (simp; omega) | (simp only; omega))).trans hz24
  have ghz47 := gv_eq hz47
  have hz48 : E41 0 11 = ai_i z2 := (hG44 0 11 (by first | omega | (simp; done) | (simp; omega) | (simp only; omega))).trans hz25
  have ghz48 := gv_eq hz48
  have hz49 : E41 0 14 = ai_i z3 := (hG44 0 14 (by first | omega | (simp; done) | (simp; omega) | (simp only; omega))).trans hz26
  have ghz49 := gv_eq hz49
  have hz50 : E41 23 8 = ai_i z4 := (hG44 23 8 (by first | omega | (simp; done) | (simp; omega) | (simp only; omega))).trans hz27
  have ghz50 := gv_eq hz50
  have hz51 : E41 81 1 = ai_i z6 := (hG44 81 1 (by first | omega | (simp; done) | (simp; omega) | (simp only; omega))).trans hz28
  have ghz51 := gv_eq hz51
  have hz52 : E41 81 17 = ai_i z7 := (hG44 81 17 (by first | omega | (simp; done) | (simp; omega) | (simp only; omega))).trans hz29
  have ghz52 := gv_eq hz52
  have hz53 : E41 81 34 = ai_i z8 := (hG44 81 34 (by first | omega | (simp; done) | (simp; omega) | (simp only; omega))).trans hz30
  have ghz53 := gv_eq hz53
  have hz54 : E41 81 23 = ai_i z9 := (hG44 81 23 (by first | omega | (simp; done) | (simp; omega) | (simp only; omega))).trans hz31
  have ghz54 := gv_eq hz54
  have hz55 : E41 23 9 = ai_i z39 := (hG44 23 9 (by first | omega | (simp; done) | (simp; omega) | (simp only; omega))).trans hz39
  have ghz55 := gv_eq hz55
  refine Or.inr (Or.inl ⟨rfl, ?_⟩)
  refine w_icmp (c := .eq) (npc := 1099) (pt := 1164) rfl (fun hc56 => ?_) (fun hc56 => ?_)
  · replace hc56 : z19 = z42 := hc56
    exact next (u5) (u6) T E41 nx kc18 ks18 hI43 hN46 hRz42 (by omega) (by omega) (by omega) (by omega)
  · replace hc56 : ¬ (z19 = z42) := hc56
    exfalso
    omega
set_option maxRecDepth 16384 in
theorem law_c21 {sl : Int × Int} {x : ai_E} {d A B : Nat} {T : cm_T} {E : cm_E} {nx kc ks : Nat} {L : Int} {sv : Nat → Int} (hsl : sl.1 = L) (hx : ∀ k : Nat, (k : Int) < L → ai_sv x k = ai_i (sv k) ∧ -2147483648 ≤ sv k ∧ sv k ≤ 2147483647) {i : Int} (hi : 0 ≤ i ∧ i + 6 ≤ L ∧ L ≤ 384) (hnx : nx ≤ 1000) (hA : kc + 20 ≤ A) (hB : ks + 2000 ≤ B) (u5 u6 : ai_V) (hI : cs_I T E nx) (hN : hn E) (hR : rl E) (hJ : gv E 0 10 = gv E 81 1 ∧ gv E 0 11 = gv E 81 17 ∧ gv E 0 14 = gv E 81 34 ∧ gv E 23 8 = gv E 81 23 ∧ gv E 23 9 = gv E 81 24)
    (next : ∀ (v5 v6 : ai_V) (T' : cm_T) (E' : cm_E) (nx' kc' ks' : Nat), cs_I T' E' nx' → hn E' → rl E' → (gv E' 0 10 = gv E' 81 1 ∧ gv E' 0 11 = gv E' 81 17 ∧ gv E' 0 14 = gv E' 81 34 ∧ gv E' 23 8 = gv E' 81 23 ∧ gv E' 23 9 = gv E' 81 24) → nx' ≤ nx + 2 → (kc ≤ kc' ∧ kc' ≤ kc + 10) → (ks ≤ ks' ∧ ks' ≤ ks + 500) → cm_wp (ai_find ai_c0 sl) (ai_ev sl (d + 20)) x A B (fun rk rv T' E' nx' => rk = 1 ∧ rv = ai_i 1) 1164 [(6, 0, 0), cr 0, cr 81, cr 104, ai_i i, v5, v6] [] T' E' nx' kc' ks') : cm_wp (ai_find ai_c0 sl) (ai_ev sl (d + 20)) x A B (fun rk rv T' E' nx' => rk = 1 ∧ rv = ai_i 1) 1101 [(6, 0, 0), cr 0, cr 81, cr 104, ai_i i, u5, u6] [] T E nx kc ks := by
  obtain ⟨z1, hz1, hz1a, hz1b⟩ := hI.int 0 10 (lo := 1) (hi := 5) (by decide) (by decide) rfl
  have ghz1 := gv_eq hz1
  obtain ⟨z2, hz2, hz2a, hz2b⟩ := hI.int 0 11 (lo := 0) (hi := 400) (by decide) (by decide) rfl
  have ghz2 := gv_eq hz2
  obtain ⟨z3, hz3, hz3a, hz3b⟩ := hI.int 0 14 (lo := 0) (hi := 1) (by decide) (by decide) rfl
  have ghz3 := gv_eq hz3
  obtain ⟨z4, hz4, hz4a, hz4b⟩ := hI.int 23 8 (lo := 0) (hi := 12) (by decide) (by decide) rfl
  have ghz4 := gv_eq hz4
  obtain ⟨z5, hz5, hz5a, hz5b⟩ := hI.int 23 9 (lo := 0) (hi := 8) (by decide) (by decide) rfl
  have ghz5 := gv_eq hz5
  obtain ⟨z6, hz6, hz6a, hz6b⟩ := hI.int 81 1 (lo := 1) (hi := 5) (by decide) (by decide) rfl
  have ghz6 := gv_eq hz6
  obtain ⟨z7, hz7, hz7a, hz7b⟩ := hI.int 81 17 (lo := 0) (hi := 400) (by decide) (by decide) rfl
  have ghz7 := gv_eq hz7
  obtain ⟨z8, hz8, hz8a, hz8b⟩ := hI.int 81 34 (lo := 0) (hi := 1) (by decide) (by decide) rfl
  have ghz8 := gv_eq hz8
  obtain ⟨z9, hz9, hz9a, hz9b⟩ := hI.int 81 23 (lo := 0) (hi := 12) (by decide) (by decide) rfl
  have ghz9 := gv_eq hz9
  obtain ⟨z10, hz10, hz10a, hz10b⟩ := hI.int 81 24 (lo := 0) (hi := 8) (by decide) (by decide) rfl
  have ghz10 := gv_eq hz10
  refine w_aload (i := 1) (npc := 1102) (v := cr 0) rfl rfl rfl ?_
  refine w_virt (ci := 7) (i := 0) (npc := 1105) (a := [cr 0]) (rest := []) rfl rfl (hI.pl (by decide)) (hI.T (by decide) rfl) rfl rfl rfl rfl (ct_c_clear (sl := sl) (x := x) (d := d + 18)  hI hN) (Or.inl rfl) (fun k9 v9 T12 E12 nx12 kc12 ks12 hq11 hk12 hv12 => ?_)
  obtain ⟨rfl, rfl, rfl, hI14, hG15, hN16, hz13⟩ := hq11
  have hR17 := rl.fr hR hG15 (by intro i k h; (try simp only at h); omega)
  have hz18 : E12 0 10 = ai_i z1 := (hG15 0 10 (by first | omega | (simp; done) | (simp; omega) | (simp only; omega))).trans hz1
  have ghz18 := gv_eq hz18
  have hz19 : E12 0 11 = ai_i z2 := (hG15 0 11 (by first | omega | (simp; done) | (simp; omega) | (simp only; omega))).trans hz2
  have ghz19 := gv_eq hz19
  have hz20 : E12 0 14 = ai_i z3 := (hG15 0 14 (by first | omega | (simp; done) | (simp; omega) | (simp only; omega))).trans hz3
  have ghz20 := gv_eq hz20
  have hz21 : E12 81 1 = ai_i z6 := (hG15 81 1 (by first | omega | (simp; done) | (simp; omega) | (simp only; omega))).trans hz6
  have ghz21 := gv_eq hz21
  have hz22 : E12 81 17 = ai_i z7 := (hG15 81 17 (by first | omega | (simp; done) | (simp; omega) | (simp only; omega))).trans hz7
  have ghz22 := gv_eq hz22
  have hz23 : E12 81 34 = ai_i z8 := (hG15 81 34 (by first | omega | (simp; done) | (simp; omega) | (simp only; omega))).trans hz8
  have ghz23 := gv_eq hz23
  have hz24 : E12 81 23 = ai_i z9 := (hG15 81 23 (by first | omega | (simp; done) | (simp; omega) | (simp only; omega))).trans hz9
  have ghz24 := gv_eq hz24
  have hz25 : E12 81 24 = ai_i z10 := (hG15 81 24 (by first | omega | (simp; done) | (simp; omega) | (simp only; omega))).trans hz10
  have ghz25 := gv_eq hz25
  refine Or.inl ⟨rfl, ?_⟩
  refine w_aload (i := 2) (npc := 1106) (v := cr 81) rfl rfl rfl ?_
  obtain ⟨z26, hz26, hz26a, hz26b⟩ := hI14.int 23 8 (lo := 0) (hi := 12) (by decide) (by decide) rfl
  have ghz26 := gv_eq hz26
  obtain ⟨z27, hz27, hz27a, hz27b⟩ := hI14.int 23 9 (lo := 0) (hi := 8) (by decide) (by decide) rfl
  have ghz27 := gv_eq hz27
  refine w_virt (ci := 8) (i := 81) (npc := 1109) (a := [cr 81]) (rest := []) rfl rfl (hI14.pl (by decide)) (hI14.T (by decide) rfl) rfl rfl rfl rfl (ct_m_clear (sl := sl) (x := x) (d := d + 19)  hI14 hR17) (Or.inl rfl) (fun k9 v9 T29 E29 nx29 kc29 ks29 hq28 hk29 hv29 => ?_)
  obtain ⟨rfl, rfl, rfl, hI31, hG32, hRz30, hz30⟩ := hq28
  obtain rfl : kc12 = kc29 := by omega
  obtain rfl : ks12 = ks29 := by omega
  have hN34 := hN16.fr hG32 (by intro i k h; (try simp only at h); omega)
  have hz35 : E29 0 10 = ai_i z1 := (hG32 0 10 (by first | omega | (simp; done) | (simp; omega) | (simp only; omega))).trans hz18
  have ghz35 := gv_eq hz35
  have hz36 : E29 0 11 = ai_i z2 := (hG32 0 11 (by first | omega | (simp; done) | (simp; omega) | (simp only; omega))).trans hz19
  have ghz36 := gv_eq hz36
  have hz37 : E29 0 14 = ai_i z3 := (hG32 0 14 (by first | omega | (simp; done) | (simp; omega) | (simp only; omega))).trans hz20
  have ghz37 := gv_eq hz37
  have hz38 : E29 81 1 = ai_i z6 := (hG32 81 1 (by first | omega | (simp; done) | (simp; omega) | (simp only; omega))).trans hz21
  have ghz38 := gv_eq hz38
  have hz39 : E29 81 17 = ai_i z7 := (hG32 81 17 (by first | omega | (simp; done) | (simp; omega) | (simp only; omega))).trans hz22
  have ghz39 := gv_eq hz39
  have hz40 : E29 81 34 = ai_i z8 := (hG32 81 34 (by first | omega | (simp; done) | (simp; omega) | (simp only; omega))).trans hz23
  have ghz40 := gv_eq hz40
  have hz41 : E29 23 8 = ai_i z26 := (hG32 23 8 (by first | omega | (simp; done) | (simp; omega) | (simp only; omega))).trans hz26
  have ghz41 := gv_eq hz41
  have hz42 : E29 23 9 = ai_i z27 := (hG32 23 9 (by first | omega | (simp; done) | (simp; omega) | (simp only; omega))).trans hz27
  have ghz42 := gv_eq hz42
  refine Or.inl ⟨rfl, ?_⟩
  refine w_goto (pt := 1164) rfl ?_
  exact next (u5) (u6) T E29 nx kc12 ks12 hI31 hN34 hRz30 (by omega) (by omega) (by omega) (by omega)
set_option maxRecDepth 16384 in
theorem law_c22 {sl : Int × Int} {x : ai_E} {d A B : Nat} {T : cm_T} {E : cm_E} {nx kc ks : Nat} {L : Int} {sv : Nat → Int} (hsl : sl.1 = L) (hx : ∀ k : Nat, (k : Int) < L → ai_sv x k = ai_i (sv k) ∧ -2147483648 ≤ sv k ∧ sv k ≤ 2147483647) {i : Int} (hi : 0 ≤ i ∧ i + 6 ≤ L ∧ L ≤ 384) (hnx : nx ≤ 1000) (hA : kc + 20 ≤ A) (hB : ks + 2000 ≤ B) (u5 u6 : ai_V) (hI : cs_I T E nx) (hN : hn E) (hR : rl E) (hJ : gv E 0 10 = gv E 81 1 ∧ gv E 0 11 = gv E 81 17 ∧ gv E 0 14 = gv E 81 34 ∧ gv E 23 8 = gv E 81 23 ∧ gv E 23 9 = gv E 81 24)
    (next : ∀ (v5 v6 : ai_V) (T' : cm_T) (E' : cm_E) (nx' kc' ks' : Nat), cs_I T' E' nx' → hn E' → rl E' → (gv E' 0 10 = gv E' 81 1 ∧ gv E' 0 11 = gv E' 81 17 ∧ gv E' 0 14 = gv E' 81 34 ∧ gv E' 23 8 = gv E' 81 23 ∧ gv E' 23 9 = gv E' 81 24) → nx' ≤ nx + 2 → (kc ≤ kc' ∧ kc' ≤ kc + 10) → (ks ≤ ks' ∧ ks' ≤ ks + 500) → cm_wp (ai_find ai_c0 sl) (ai_ev sl (d + 20)) x A B (fun rk rv T' E' nx' => rk = 1 ∧ rv = ai_i 1) 1164 [(6, 0, 0), cr 0, cr 81, cr 104, ai_i i, v5, v6] [] T' E' nx' kc' ks') : cm_wp (ai_find ai_c0 sl) (ai_ev sl (d + 20)) x A B (fun rk rv T' E' nx' => rk = 1 ∧ rv = ai_i 1) 1112 [(6, 0, 0), cr 0, cr 81, cr 104, ai_i i, u5, u6] [] T E nx kc ks := by
  obtain ⟨z1, hz1, hz1a, hz1b⟩ := hI.int 0 10 (lo := 1) (hi := 5) (by decide) (by decide) rfl
  have ghz1 := gv_eq hz1
  obtain ⟨z2, hz2, hz2a, hz2b⟩ := hI.int 0 11 (lo := 0) (hi := 400) (by decide) (by decide) rfl
  have ghz2 := gv_eq hz2
  obtain ⟨z3, hz3, hz3a, hz3b⟩ := hI.int 0 14 (lo := 0) (hi := 1) (by decide) (by decide) rfl
  have ghz3 := gv_eq hz3
  obtain ⟨z4, hz4, hz4a, hz4b⟩ := hI.int 23 8 (lo := 0) (hi := 12) (by decide) (by decide) rfl
  have ghz4 := gv_eq hz4
  obtain ⟨z5, hz5, hz5a, hz5b⟩ := hI.int 23 9 (lo := 0) (hi := 8) (by decide) (by decide) rfl
  have ghz5 := gv_eq hz5
  obtain ⟨z6, hz6, hz6a, hz6b⟩ := hI.int 81 1 (lo := 1) (hi := 5) (by decide) (by decide) rfl
  have ghz6 := gv_eq hz6
  obtain ⟨z7, hz7, hz7a, hz7b⟩ := hI.int 81 17 (lo := 0) (hi := 400) (by decide) (by decide) rfl
  have ghz7 := gv_eq hz7
  obtain ⟨z8, hz8, hz8a, hz8b⟩ := hI.int 81 34 (lo := 0) (hi := 1) (by decide) (by decide) rfl
  have ghz8 := gv_eq hz8
  obtain ⟨z9, hz9, hz9a, hz9b⟩ := hI.int 81 23 (lo := 0) (hi := 12) (by decide) (by decide) rfl
  have ghz9 := gv_eq hz9
  obtain ⟨z10, hz10, hz10a, hz10b⟩ := hI.int 81 24 (lo := 0) (hi := 8) (by decide) (by decide) rfl
  have ghz10 := gv_eq hz10
  refine w_aload (i := 1) (npc := 1113) (v := cr 0) rfl rfl rfl ?_
  refine w_aload (i := 0) (npc := 1114) (v := (6, 0, 0)) rfl rfl rfl ?_
  refine w_iload (i := 4) (npc := 1116) rfl rfl ?_
  refine w_const (n := 1) (npc := 1117) rfl ?_
  refine w_iadd (npc := 1118) rfl (by omega) ?_
  obtain ⟨hx12, hx12a, hx12b⟩ := hx (i + 1 : Int).toNat (by omega)
  refine w_scr (npc := 1119) (v := ai_i (sv (i + 1 : Int).toNat)) rfl rfl (by omega) hx12 ?_
  refine w_aload (i := 3) (npc := 1120) (v := cr 104) rfl rfl rfl ?_
  refine w_call (npc := 1123) (a := [cr 0, ai_i (sv (i + 1 : Int).toNat), cr 104]) (rest := []) rfl rfl rfl rfl rfl (ct_lw_story (sl := sl) (x := x) (d := d + 7) (sv (i + 1 : Int).toNat) hI hN (by omega) (by omega)) (Or.inr (fun _ _ _ _ _ hq => by have h1 := hq.1; omega)) (fun k9 v9 T14 E14 nx14 kc14 ks14 hq13 hk14 hv14 => ?_)
  obtain ⟨rfl, hnxz15, hnyz15, hI16, hG17, hN18, z15, rfl, hz15⟩ := hq13
  have hR19 := rl.fr hR hG17 (by intro i k h; (try simp only at h); omega)
  have hz20 : E14 0 10 = ai_i z1 := (hG17 0 10 (by first | omega | (simp; done) | (simp; omega) | (simp only; omega))).trans hz1
  have ghz20 := gv_eq hz20
  have hz21 : E14 0 11 = ai_i z2 := (hG17 0 11 (by first | omega | (simp; done) | (simp; omega) | (simp only; omega))).trans hz2
  have ghz21 := gv_eq hz21
  have hz22 : E14 0 14 = ai_i z3 := (hG17 0 14 (by first | omega | (simp; done) | (simp; omega) | (simp only; omega))).trans hz3
  have ghz22 := gv_eq hz22
  have hz23 : E14 23 8 = ai_i z4 := (hG17 23 8 (by first | omega | (simp; done) | (simp; omega) | (simp only; omega))).trans hz4
  have ghz23 := gv_eq hz23
  have hz24 : E14 23 9 = ai_i z5 := (hG17 23 9 (by first | omega | (simp; done) | (simp; omega) | (simp only; omega))).trans hz5
  have ghz24 := gv_eq hz24
  have hz25 : E14 81 1 = ai_i z6 := (hG17 81 1 (by first | omega | (simp; done) | (simp; omega) | (simp only; omega))).trans hz6
  have ghz25 := gv_eq hz25
  have hz26 : E14 81 17 = ai_i z7 := (hG17 81 17 (by first | omega | (simp; done) | (simp; omega) | (simp only; omega))).trans hz7
  have ghz26 := gv_eq hz26
  have hz27 : E14 81 34 = ai_i z8 := (hG17 81 34 (by first | omega | (simp; done) | (simp; omega) | (simp only; omega))).trans hz8
  have ghz27 := gv_eq hz27
  have hz28 : E14 81 23 = ai_i z9 := (hG17 81 23 (by first | omega | (simp; done) | (simp; omega) | (simp only; omega))).trans hz9
  have ghz28 := gv_eq hz28
  have hz29 : E14 81 24 = ai_i z10 := (hG17 81 24 (by first | omega | (simp; done) | (simp; omega) | (simp only; omega))).trans hz10
  have ghz29 := gv_eq hz29
  refine Or.inr (Or.inl ⟨rfl, ?_⟩)
  refine w_istore (i := 5) (npc := 1125) (loc' := [(6, 0, 0), cr 0, cr 81, cr 104, ai_i i, ai_i z15, u6]) rfl rfl ?_
  refine w_aload (i := 2) (npc := 1126) (v := cr 81) rfl rfl rfl ?_
  refine w_aload (i := 0) (npc := 1127) (v := (6, 0, 0)) rfl rfl rfl ?_
  refine w_iload (i := 4) (npc := 1129) rfl rfl ?_
  refine w_const (n := 1) (npc := 1130) rfl ?_
  refine w_iadd (npc := 1131) rfl (by omega) ?_
  obtain ⟨hx31, hx31a, hx31b⟩ := hx (i + 1 : Int).toNat (by omega)
  refine w_scr (npc := 1132) (v := ai_i (sv (i + 1 : Int).toNat)) rfl rfl (by omega) hx31 ?_
  refine w_virt (ci := 8) (i := 81) (npc := 1135) (a := [cr 81, ai_i (sv (i + 1 : Int).toNat)]) (rest := []) rfl rfl (hI16.pl (by decide)) (hI16.T (by decide) rfl) rfl rfl rfl rfl (ct_m_story (sl := sl) (x := x) (d := d + 9) (sv (i + 1 : Int).toNat) hI16 hR19 (by omega)) (Or.inl rfl) (fun k9 v9 T33 E33 nx33 kc33 ks33 hq32 hk33 hv33 => ?_)
  obtain ⟨rfl, rfl, rfl, hI35, hG36, hRz34, z34, rfl, hz34⟩ := hq32
  obtain rfl : kc14 = kc33 := by omega
  obtain rfl : ks14 = ks33 := by omega
  have hN38 := hN18.fr hG36 (by intro i k h; (try simp only at h); omega)
  have hz39 : E33 0 10 = ai_i z1 := (hG36 0 10 (by first | omega | (simp; done) | (simp; omega) | (simp only; omega))).trans hz20
  have ghz39 := gv_eq hz39
  have hz40 : E33 0 11 = ai_i z2 := (hG36 0 11 (by first | omega | (simp; done) | (simp; omega) | (simp only; omega))).trans hz21
  have ghz40 := gv_eq hz40
  have hz41 : E33 0 14 = ai_i z3 := (hG36 0 14 (by first | omega | (simp; done) | (simp; omega) | (simp only; omega))).trans hz22
  have ghz41 := gv_eq hz41
  have hz42 : E33 23 8 = ai_i z4 := (hG36 23 8 (by first | omega | (simp; done) | (simp; omega) | (simp only; omega))).trans hz23
  have ghz42 := gv_eq hz42
  have hz43 : E33 23 9 = ai_i z5 := (hG36 23 9 (by first | omega | (simp; done) | (simp; omega) | (simp only; omega))).trans hz24
  have ghz43 := gv_eq hz43
  have hz44 : E33 81 1 = ai_i z6 := (hG36 81 1 (by first | omega | (simp; done) | (simp; omega) | (simp only; omega))).trans hz25
  have ghz44 := gv_eq hz44
  have hz45 : E33 81 17 = ai_i z7 := (hG36 81 17 (by first | omega | (simp; done) | (simp; omega) | (simp only; omega))).trans hz26
  have ghz45 := gv_eq hz45
  have hz46 : E33 81 34 = ai_i z8 := (hG36 81 34 (by first | omega | (simp; done) | (simp; omega) | (simp only; omega))).trans hz27
  have ghz46 := gv_eq hz46
  have hz47 : E33 81 23 = ai_i z9 := (hG36 81 23 (by first | omega | (simp; done) | (simp; omega) | (simp only; omega))).trans hz28
  have ghz47 := gv_eq hz47
  have hz48 : E33 81 24 = ai_i z10 := (hG36 81 24 (by first | omega | (simp; done) | (simp; omega) | (simp only; omega))).trans hz29
  have ghz48 := gv_eq hz48
  refine Or.inr (Or.inl ⟨rfl, ?_⟩)
  refine w_istore (i := 6) (npc := 1137) (loc' := [(6, 0, 0), cr 0, cr 81, cr 104, ai_i i, ai_i z15, ai_i z34]) rfl rfl ?_
  refine w_goto (pt := 1164) rfl ?_
  exact next (ai_i z15) (ai_i z34) T14 E33 nx14 kc14 ks14 hI35 hN38 hRz34 (by omega) (by omega) (by omega) (by omega)
set_option maxRecDepth 16384 in
theorem law_c23 {sl : Int × Int} {x : ai_E} {d A B : Nat} {T : cm_T} {E : cm_E} {nx kc ks : Nat} {L : Int} {sv : Nat → Int} (hsl : sl.1 = L) (hx : ∀ k : Nat, (k : Int) < L → ai_sv x k = ai_i (sv k) ∧ -2147483648 ≤ sv k ∧ sv k ≤ 2147483647) {i : Int} (hi : 0 ≤ i ∧ i + 6 ≤ L ∧ L ≤ 384) (hnx : nx ≤ 1000) (hA : kc + 20 ≤ A) (hB : ks + 2000 ≤ B) (u5 u6 : ai_V) (hI : cs_I T E nx) (hN : hn E) (hR : rl E) (hJ : gv E 0 10 = gv E 81 1 ∧ gv E 0 11 = gv E 81 17 ∧ gv E 0 14 = gv E 81 34 ∧ gv E 23 8 = gv E 81 23 ∧ gv E 23 9 = gv E 81 24)
    (next : ∀ (v5 v6 : ai_V) (T' : cm_T) (E' : cm_E) (nx' kc' ks' : Nat), cs_I T' E' nx' → hn E' → rl E' → (gv E' 0 10 = gv E' 81 1 ∧ gv E' 0 11 = gv E' 81 17 ∧ gv E' 0 14 = gv E' 81 34 ∧ gv E' 23 8 = gv E' 81 23 ∧ gv E' 23 9 = gv E' 81 24) → nx' ≤ nx + 2 → (kc ≤ kc' ∧ kc' ≤ kc + 10) → (ks ≤ ks' ∧ ks' ≤ ks + 500) → cm_wp (ai_find ai_c0 sl) (ai_ev sl (d + 20)) x A B (fun rk rv T' E' nx' => rk = 1 ∧ rv = ai_i 1) 1164 [(6, 0, 0), cr 0, cr 81, cr 104, ai_i i, v5, v6] [] T' E' nx' kc' ks') : cm_wp (ai_find ai_c0 sl) (ai_ev sl (d + 20)) x A B (fun rk rv T' E' nx' => rk = 1 ∧ rv = ai_i 1) 1140 [(6, 0, 0), cr 0, cr 81, cr 104, ai_i i, u5, u6] [] T E nx kc ks := by
  obtain ⟨z1, hz1, hz1a, hz1b⟩ := hI.int 0 10 (lo := 1) (hi := 5) (by decide) (by decide) rfl
  have ghz1 := gv_eq hz1
  obtain ⟨z2, hz2, hz2a, hz2b⟩ := hI.int 0 11 (lo := 0) (hi := 400) (by decide) (by decide) rfl
  have ghz2 := gv_eq hz2
  obtain ⟨z3, hz3, hz3a, hz3b⟩ := hI.int 0 14 (lo := 0) (hi := 1) (by decide) (by decide) rfl
  have ghz3 := gv_eq hz3
  obtain ⟨z4, hz4, hz4a, hz4b⟩ := hI.int 23 8 (lo := 0) (hi := 12) (by decide) (by decide) rfl
  have ghz4 := gv_eq hz4
  obtain ⟨z5, hz5, hz5a, hz5b⟩ := hI.int 23 9 (lo := 0) (hi := 8) (by decide) (by decide) rfl
  have ghz5 := gv_eq hz5
  obtain ⟨z6, hz6, hz6a, hz6b⟩ := hI.int 81 1 (lo := 1) (hi := 5) (by decide) (by decide) rfl
  have ghz6 := gv_eq hz6
  obtain ⟨z7, hz7, hz7a, hz7b⟩ := hI.int 81 17 (lo := 0) (hi := 400) (by decide) (by decide) rfl
  have ghz7 := gv_eq hz7
  obtain ⟨z8, hz8, hz8a, hz8b⟩ := hI.int 81 34 (lo := 0) (hi := 1) (by decide) (by decide) rfl
  have ghz8 := gv_eq hz8
  obtain ⟨z9, hz9, hz9a, hz9b⟩ := hI.int 81 23 (lo := 0) (hi := 12) (by decide) (by decide) rfl
  have ghz9 := gv_eq hz9
  obtain ⟨z10, hz10, hz10a, hz10b⟩ := hI.int 81 24 (lo := 0) (hi := 8) (by decide) (by decide) rfl
  have ghz10 := gv_eq hz10
  refine w_aload (i := 1) (npc := 1141) (v := cr 0) rfl rfl rfl ?_
  refine w_virt (ci := 7) (i := 0) (npc := 1144) (a := [cr 0]) (rest := []) rfl rfl (hI.pl (by decide)) (hI.T (by decide) rfl) rfl rfl rfl rfl (ct_c_image (sl := sl) (x := x) (d := d + 18)  hI hN) (Or.inl rfl) (fun k9 v9 T12 E12 nx12 kc12 ks12 hq11 hk12 hv12 => ?_)
  obtain ⟨rfl, rfl, rfl, hI14, hG15, hN16, hz13⟩ := hq11
  have hR17 := rl.fr hR hG15 (by intro i k h; (try simp only at h); omega)
  have hz18 : E12 0 10 = ai_i z1 := (hG15 0 10 (by first | omega | (simp; done) | (simp; omega) | (simp only; omega))).trans hz1
  have ghz18 := gv_eq hz18
  have hz19 : E12 0 11 = ai_i z2 := (hG15 0 11 (by first | omega | (simp; done) | (simp; omega) | (simp only; omega))).trans hz2
  have ghz19 := gv_eq hz19
  have hz20 : E12 23 8 = ai_i z4 := (hG15 23 8 (by first | omega | (simp; done) | (simp; omega) | (simp only; omega))).trans hz4
  have ghz20 := gv_eq hz20
  have hz21 : E12 23 9 = ai_i z5 := (hG15 23 9 (by first | omega | (simp; done) | (simp; omega) | (simp only; omega))).trans hz5
  have ghz21 := gv_eq hz21
  have hz22 : E12 81 1 = ai_i z6 := (hG15 81 1 (by first | omega | (simp; done) | (simp; omega) | (simp only; omega))).trans hz6
  have ghz22 := gv_eq hz22
  have hz23 : E12 81 17 = ai_i z7 := (hG15 81 17 (by first | omega | (simp; done) | (simp; omega) | (simp only; omega))).trans hz7
  have ghz23 := gv_eq hz23
  have hz24 : E12 81 34 = ai_i z8 := (hG15 81 34 (by first | omega | (simp; done) | (simp; omega) | (simp only; omega))).trans hz8
  have ghz24 := gv_eq hz24
  have hz25 : E12 81 23 = ai_i z9 := (hG15 81 23 (by first | omega | (simp; done) | (simp; omega) | (simp only; omega))).trans hz9
  have ghz25 := gv_eq hz25
  have hz26 : E12 81 24 = ai_i z10 := (hG15 81 24 (by first | omega | (simp; done) | (simp; omega) | (simp only; omega))).trans hz10
  have ghz26 := gv_eq hz26
  refine Or.inl ⟨rfl, ?_⟩
  refine w_aload (i := 2) (npc := 1145) (v := cr 81) rfl rfl rfl ?_
  obtain ⟨z27, hz27, hz27a, hz27b⟩ := hI14.int 0 14 (lo := 0) (hi := 1) (by decide) (by decide) rfl
  have ghz27 := gv_eq hz27
  refine w_virt (ci := 8) (i := 81) (npc := 1148) (a := [cr 81]) (rest := []) rfl rfl (hI14.pl (by decide)) (hI14.T (by decide) rfl) rfl rfl rfl rfl (ct_m_image (sl := sl) (x := x) (d := d + 17)  hI14 hR17) (Or.inl rfl) (fun k9 v9 T29 E29 nx29 kc29 ks29 hq28 hk29 hv29 => ?_)
  obtain ⟨rfl, rfl, rfl, hI31, hG32, hRz30, hz30⟩ := hq28
  obtain rfl : kc12 = kc29 := by omega
  obtain rfl : ks12 = ks29 := by omega
  have hN34 := hN16.fr hG32 (by intro i k h; (try simp only at h); omega)
  have hz35 : E29 0 10 = ai_i z1 := (hG32 0 10 (by first | omega | (simp; done) | (simp; omega) | (simp only; omega))).trans hz18
  have ghz35 := gv_eq hz35
  have hz36 : E29 0 11 = ai_i z2 := (hG32 0 11 (by first | omega | (simp; done) | (simp; omega) | (simp only; omega))).trans hz19
  have ghz36 := gv_eq hz36
  have hz37 : E29 23 8 = ai_i z4 := (hG32 23 8 (by first | omega | (simp; done) | (simp; omega) | (simp only; omega))).trans hz20
  have ghz37 := gv_eq hz37
  have hz38 : E29 23 9 = ai_i z5 := (hG32 23 9 (by first | omega | (simp; done) | (simp; omega) | (simp only; omega))).trans hz21
  have ghz38 := gv_eq hz38
  have hz39 : E29 81 1 = ai_i z6 := (hG32 81 1 (by first | omega | (simp; done) | (simp; omega) | (simp only; omega))).trans hz22
  have ghz39 := gv_eq hz39
  have hz40 : E29 81 17 = ai_i z7 := (hG32 81 17 (by first | omega | (simp; done) | (simp; omega) | (simp only; omega))).trans hz23
  have ghz40 := gv_eq hz40
  have hz41 : E29 81 23 = ai_i z9 := (hG32 81 23 (by first | omega | (simp; done) | (simp; omega) | (simp only; omega))).trans hz25
  have ghz41 := gv_eq hz41
  have hz42 : E29 81 24 = ai_i z10 := (hG32 81 24 (by first | omega | (simp; done) | (simp; omega) | (simp only; omega))).trans hz26
  have ghz42 := gv_eq hz42
  have hz43 : E29 0 14 = ai_i z27 := (hG32 0 14 (by first | omega | (simp; done) | (simp; omega) | (simp only; omega))).trans hz27
  have ghz43 := gv_eq hz43
  refine Or.inl ⟨rfl, ?_⟩
  refine w_goto (pt := 1164) rfl ?_
  exact next (u5) (u6) T E29 nx kc12 ks12 hI31 hN34 hRz30 (by omega) (by omega) (by omega) (by omega)
set_option maxRecDepth 16384 in
theorem law_c24 {sl : Int × Int} {x : ai_E} {d A B : Nat} {T : cm_T} {E : cm_E} {nx kc ks : Nat} {L : Int} {sv : Nat → Int} (hsl : sl.1 = L) (hx : ∀ k : Nat, (k : Int) < L → ai_sv x k = ai_i (sv k) ∧ -2147483648 ≤ sv k ∧ sv k ≤ 2147483647) {i : Int} (hi : 0 ≤ i ∧ i + 6 ≤ L ∧ L ≤ 384) (hnx : nx ≤ 1000) (hA : kc + 20 ≤ A) (hB : ks + 2000 ≤ B) (u5 u6 : ai_V) (hI : cs_I T E nx) (hN : hn E) (hR : rl E) (hJ : gv E 0 10 = gv E 81 1 ∧ gv E 0 11 = gv E 81 17 ∧ gv E 0 14 = gv E 81 34 ∧ gv E 23 8 = gv E 81 23 ∧ gv E 23 9 = gv E 81 24)
    (next : ∀ (v5 v6 : ai_V) (T' : cm_T) (E' : cm_E) (nx' kc' ks' : Nat), cs_I T' E' nx' → hn E' → rl E' → (gv E' 0 10 = gv E' 81 1 ∧ gv E' 0 11 = gv E' 81 17 ∧ gv E' 0 14 = gv E' 81 34 ∧ gv E' 23 8 = gv E' 81 23 ∧ gv E' 23 9 = gv E' 81 24) → nx' ≤ nx + 2 → (kc ≤ kc' ∧ kc' ≤ kc + 10) → (ks ≤ ks' ∧ ks' ≤ ks + 500) → cm_wp (ai_find ai_c0 sl) (ai_ev sl (d + 20)) x A B (fun rk rv T' E' nx' => rk = 1 ∧ rv = ai_i 1) 1164 [(6, 0, 0), cr 0, cr 81, cr 104, ai_i i, v5, v6] [] T' E' nx' kc' ks') : cm_wp (ai_find ai_c0 sl) (ai_ev sl (d + 20)) x A B (fun rk rv T' E' nx' => rk = 1 ∧ rv = ai_i 1) 1151 [(6, 0, 0), cr 0, cr 81, cr 104, ai_i i, u5, u6] [] T E nx kc ks := by
  obtain ⟨z1, hz1, hz1a, hz1b⟩ := hI.int 0 10 (lo := 1) (hi := 5) (by decide) (by decide) rfl
  have ghz1 := gv_eq hz1
  obtain ⟨z2, hz2, hz2a, hz2b⟩ := hI.int 0 11 (lo := 0) (hi := 400) (by decide) (by decide) rfl
  have ghz2 := gv_eq hz2
  obtain ⟨z3, hz3, hz3a, hz3b⟩ := hI.int 0 14 (lo := 0) (hi := 1) (by decide) (by decide) rfl
  have ghz3 := gv_eq hz3
  obtain ⟨z4, hz4, hz4a, hz4b⟩ := hI.int 23 8 (lo := 0) (hi := 12) (by decide) (by decide) rfl
  have ghz4 := gv_eq hz4
  obtain ⟨z5, hz5, hz5a, hz5b⟩ := hI.int 23 9 (lo := 0) (hi := 8) (by decide) (by decide) rfl
  have ghz5 := gv_eq hz5
  obtain ⟨z6, hz6, hz6a, hz6b⟩ := hI.int 81 1 (lo := 1) (hi := 5) (by decide) (by decide) rfl
  have ghz6 := gv_eq hz6
  obtain ⟨z7, hz7, hz7a, hz7b⟩ := hI.int 81 17 (lo := 0) (hi := 400) (by decide) (by decide) rfl
  have ghz7 := gv_eq hz7
  obtain ⟨z8, hz8, hz8a, hz8b⟩ := hI.int 81 34 (lo := 0) (hi := 1) (by decide) (by decide) rfl
  have ghz8 := gv_eq hz8
  obtain ⟨z9, hz9, hz9a, hz9b⟩ := hI.int 81 23 (lo := 0) (hi := 12) (by decide) (by decide) rfl
  have ghz9 := gv_eq hz9
  obtain ⟨z10, hz10, hz10a, hz10b⟩ := hI.int 81 24 (lo := 0) (hi := 8) (by decide) (by decide) rfl
  have ghz10 := gv_eq hz10
  refine w_aload (i := 1) (npc := 1152) (v := cr 0) rfl rfl rfl ?_
  refine w_virt (ci := 7) (i := 0) (npc := 1155) (a := [cr 0]) (rest := []) rfl rfl (hI.pl (by decide)) (hI.T (by decide) rfl) rfl rfl rfl rfl (ct_c_restore (sl := sl) (x := x) (d := d + 18)  hI hN) (Or.inl rfl) (fun k9 v9 T12 E12 nx12 kc12 ks12 hq11 hk12 hv12 => ?_)
  obtain ⟨rfl, rfl, rfl, hI14, hG15, hN16, z13, rfl, hz13⟩ := hq11
  have hR17 := rl.fr hR hG15 (by intro i k h; (try simp only at h); omega)
  have hz18 : E12 0 10 = ai_i z1 := (hG15 0 10 (by first | omega | (simp; done) | (simp; omega) | (simp only; omega))).trans hz1
  have ghz18 := gv_eq hz18
  have hz19 : E12 0 11 = ai_i z2 := (hG15 0 11 (by first | omega | (simp; done) | (simp; omega) | (simp only; omega))).trans hz2
  have ghz19 := gv_eq hz19
  have hz20 : E12 0 14 = ai_i z3 := (hG15 0 14 (by first | omega | (simp; done) | (simp; omega) | (simp only; omega))).trans hz3
  have ghz20 := gv_eq hz20
  have hz21 : E12 23 8 = ai_i z4 := (hG15 23 8 (by first | omega | (simp; done) | (simp; omega) | (simp only; omega))).trans hz4
  have ghz21 := gv_eq hz21
  have hz22 : E12 23 9 = ai_i z5 := (hG15 23 9 (by first | omega | (simp; done) | (simp; omega) | (simp only; omega))).trans hz5
  have ghz22 := gv_eq hz22
  have hz23 : E12 81 1 = ai_i z6 := (hG15 81 1 (by first | omega | (simp; done) | (simp; omega) | (simp only; omega))).trans hz6
  have ghz23 := gv_eq hz23
  have hz24 : E12 81 17 = ai_i z7 := (hG15 81 17 (by first | omega | (simp; done) | (simp; omega) | (simp only; omega))).trans hz7
  have ghz24 := gv_eq hz24
  have hz25 : E12 81 34 = ai_i z8 := (hG15 81 34 (by first | omega | (simp; done) | (simp; omega) | (simp only; omega))).trans hz8
  have ghz25 := gv_eq hz25
  have hz26 : E12 81 23 = ai_i z9 := (hG15 81 23 (by first | omega | (simp; done) | (simp; omega) | (simp only; omega))).trans hz9
  have ghz26 := gv_eq hz26
  have hz27 : E12 81 24 = ai_i z10 := (hG15 81 24 (by first | omega | (simp; done) | (simp; omega) | (simp only; omega))).trans hz10
  have ghz27 := gv_eq hz27
  refine Or.inr (Or.inl ⟨rfl, ?_⟩)
  refine w_pop (npc := 1156) rfl rfl ?_
  refine w_aload (i := 2) (npc := 1157) (v := cr 81) rfl rfl rfl ?_
  refine w_virt (ci := 8) (i := 81) (npc := 1160) (a := [cr 81]) (rest := []) rfl rfl (hI14.pl (by decide)) (hI14.T (by decide) rfl) rfl rfl rfl rfl (ct_m_restore (sl := sl) (x := x) (d := d + 17)  hI14 hR17) (Or.inl rfl) (fun k9 v9 T29 E29 nx29 kc29 ks29 hq28 hk29 hv29 => ?_)
  obtain ⟨rfl, rfl, rfl, hI31, hG32, hRz30, z30, rfl, hz30⟩ := hq28
  obtain rfl : kc12 = kc29 := by omega
  obtain rfl : ks12 = ks29 := by omega
  have hN34 := hN16.fr hG32 (by intro i k h; (try simp only at h); omega)
  have hz35 : E29 0 10 = ai_i z1 := (hG32 0 10 (by first | omega | (simp; done) | (simp; omega) | (simp only; omega))).trans hz18
  have ghz35 := gv_eq hz35
  have hz36 : E29 0 11 = ai_i z2 := (hG32 0 11 (by first | omega | (simp; done) | (simp; omega) | (simp only; omega))).trans hz19
  have ghz36 := gv_eq hz36
  have hz37 : E29 0 14 = ai_i z3 := (hG32 0 14 (by first | omega | (simp; done) | (simp; omega) | (simp only; omega))).trans hz20
  have ghz37 := gv_eq hz37
  have hz38 : E29 23 8 = ai_i z4 := (hG32 23 8 (by first | omega | (simp; done) | (simp; omega) | (simp only; omega))).trans hz21
  have ghz38 := gv_eq hz38
  have hz39 : E29 23 9 = ai_i z5 := (hG32 23 9 (by first | omega | (simp; done) | (simp; omega) | (simp only; omega))).trans hz22
  have ghz39 := gv_eq hz39
  have hz40 : E29 81 1 = ai_i z6 := (hG32 81 1 (by first | omega | (simp; done) | (simp; omega) | (simp only; omega))).trans hz23
  have ghz40 := gv_eq hz40
  have hz41 : E29 81 17 = ai_i z7 := (hG32 81 17 (by first | omega | (simp; done) | (simp; omega) | (simp only; omega))).trans hz24
  have ghz41 := gv_eq hz41
  have hz42 : E29 81 34 = ai_i z8 := (hG32 81 34 (by first | omega | (simp; done) | (simp; omega) | (simp only; omega))).trans hz25
  have ghz42 := gv_eq hz42
  have hz43 : E29 81 23 = ai_i z9 := (hG32 81 23 (by first | omega | (simp; done) | (simp; omega) | (simp only; omega))).trans hz26
  have ghz43 := gv_eq hz43
  have hz44 : E29 81 24 = ai_i z10 := (hG32 81 24 (by first | omega | (simp; done) | (simp; omega) | (simp only; omega))).trans hz27
  have ghz44 := gv_eq hz44
  refine Or.inr (Or.inl ⟨rfl, ?_⟩)
  refine w_pop (npc := 1161) rfl rfl ?_
  refine w_goto (pt := 1164) rfl ?_
  exact next (u5) (u6) T E29 nx kc12 ks12 hI31 hN34 hRz30 (by omega) (by omega) (by omega) (by omega)
