set_option maxRecDepth 16384 in
theorem law_c0 {sl : Int × Int} {x : ai_E} {d A B : Nat} {T : cm_T} {E : cm_E} {nx kc ks : Nat} {L : Int} {sv : Nat → Int} (hsl : sl.1 = L) (hx : ∀ k : Nat, (k : Int) < L → ai_sv x k = ai_i (sv k) ∧ -2147483648 ≤ sv k ∧ sv k ≤ 2147483647) {i : Int} (hi : 0 ≤ i ∧ i + 6 ≤ L ∧ L ≤ 384) (hnx : nx ≤ 1000) (hA : kc + 20 ≤ A) (hB : ks + 2000 ≤ B) (u5 u6 : ai_V) (hI : cs_I T E nx) (hN : hn E) (hR : rl E) (hJ : gv E 0 10 = gv E 81 1 ∧ gv E 0 11 = gv E 81 17 ∧ gv E 0 14 = gv E 81 34 ∧ gv E 23 8 = gv E 81 23 ∧ gv E 23 9 = gv E 81 24)
    (next : ∀ (v5 v6 : ai_V) (T' : cm_T) (E' : cm_E) (nx' kc' ks' : Nat), cs_I T' E' nx' → hn E' → rl E' → (gv E' 0 10 = gv E' 81 1 ∧ gv E' 0 11 = gv E' 81 17 ∧ gv E' 0 14 = gv E' 81 34 ∧ gv E' 23 8 = gv E' 81 23 ∧ gv E' 23 9 = gv E' 81 24) → nx' ≤ nx + 2 → (kc ≤ kc' ∧ kc' ≤ kc + 10) → (ks ≤ ks' ∧ ks' ≤ ks + 500) → cm_wp (ai_find ai_c0 sl) (ai_ev sl (d + 20)) x A B (fun rk rv T' E' nx' => rk = 1 ∧ rv = ai_i 1) 1164 [(6, 0, 0), cr 0, cr 81, cr 104, ai_i i, v5, v6] [] T' E' nx' kc' ks') : cm_wp (ai_find ai_c0 sl) (ai_ev sl (d + 20)) x A B (fun rk rv T' E' nx' => rk = 1 ∧ rv = ai_i 1) 156 [(6, 0, 0), cr 0, cr 81, cr 104, ai_i i, u5, u6] [] T E nx kc ks := by
  obtain ⟨z1, hz1, hz1a, hz1b⟩ := hI.int 0 10 (lo := 1) (hi := 5) (by decide) (by decide) rfl
  have ghz1 := gv_eq hz1
  obtain ⟨z2, hz2, hz2a, hz2b⟩ := hI.int 0 11 (lo := 0) (hi := 400) (by decide) (by decide) rfl
  have ghz2 := gv_eq hz2
  obtain ⟨z3, hz3, hz3a, hz3b⟩ := hI.int 0 14 (lo := 0) (hi := 1) (by decide) (by decide) rfl
  have ghz3 := gv_eq hz3
  obtain ⟨z4, hz4, hz4a, hz4b⟩ := hI.int 23 8 (lo := 0) (hi := 12) (by decide) (by decide) rfl
  have ghz4 := gv_eq hz4
  obtain ⟨z5, hz5, hz5a, hz5b⟩ := hI.int 23 9 (lo := 0) (hi := 8) (by decide) (by decide) rfl
  have ghz5 := gv_eq hz5
  obtain ⟨z6, hz6, hz6a, hz6b⟩ := hI.int 81 1 (lo := 1) (hi := 5) (by decide) (by decide) rfl
  have ghz6 := gv_eq hz6
  obtain ⟨z7, hz7, hz7a, hz7b⟩ := hI.int 81 17 (lo := 0) (hi := 400) (by decide) (by decide) rfl
  have ghz7 := gv_eq hz7
  obtain ⟨z8, hz8, hz8a, hz8b⟩ := hI.int 81 34 (lo := 0) (hi := 1) (by decide) (by decide) rfl
  have ghz8 := gv_eq hz8
  obtain ⟨z9, hz9, hz9a, hz9b⟩ := hI.int 81 23 (lo := 0) (hi := 12) (by decide) (by decide) rfl
  have ghz9 := gv_eq hz9
  obtain ⟨z10, hz10, hz10a, hz10b⟩ := hI.int 81 24 (lo := 0) (hi := 8) (by decide) (by decide) rfl
  have ghz10 := gv_eq hz10
  refine w_aload (i := 1) (npc := 157) (v := cr 0) rfl rfl rfl ?_
  refine w_aload (i := 0) (npc := 158) (v := (6, 0, 0)) rfl rfl rfl ?_
  refine w_iload (i := 4) (npc := 160) rfl rfl ?_
  refine w_const (n := 1) (npc := 161) rfl ?_
  refine w_iadd (npc := 162) rfl (by omega) ?_
  obtain ⟨hx12, hx12a, hx12b⟩ := hx (i + 1 : Int).toNat (by omega)
  refine w_scr (npc := 163) (v := ai_i (sv (i + 1 : Int).toNat)) rfl rfl (by omega) hx12 ?_
  refine w_call (npc := 166) (a := [cr 0, ai_i (sv (i + 1 : Int).toNat)]) (rest := []) rfl rfl rfl rfl rfl (ct_lw_writers (sl := sl) (x := x) (d := d + 16) (sv (i + 1 : Int).toNat) hI hN (by omega)) (Or.inr (fun _ _ _ _ _ hq => by have h1 := hq.1; omega)) (fun k9 v9 T14 E14 nx14 kc14 ks14 hq13 hk14 hv14 => ?_)
  obtain ⟨rfl, hnxz15, hnyz15, hI16, hG17, hN18, z15, rfl, hz15⟩ := hq13
  have hR19 := rl.fr hR hG17 (by intro i k h; (try simp only at h); omega)
  have hz20 : E14 0 11 = ai_i z2 := (hG17 0 11 (by first | omega | (simp; done) | (simp; omega) | (simp only; omega))).trans hz2
  have ghz20 := gv_eq hz20
  have hz21 : E14 23 8 = ai_i z4 := (hG17 23 8 (by first | omega | (simp; done) | (simp; omega) | (simp only; omega))).trans hz4
  have ghz21 := gv_eq hz21
  have hz22 : E14 23 9 = ai_i z5 := (hG17 23 9 (by first | omega | (simp; done) | (simp; omega) | (simp only; omega))).trans hz5
  have ghz22 := gv_eq hz22
  have hz23 : E14 81 1 = ai_i z6 := (hG17 81 1 (by first | omega | (simp; done) | (simp; omega) | (simp only; omega))).trans hz6
  have ghz23 := gv_eq hz23
  have hz24 : E14 81 17 = ai_i z7 := (hG17 81 17 (by first | omega | (simp; done) | (simp; omega) | (simp only; omega))).trans hz7
  have ghz24 := gv_eq hz24
  have hz25 : E14 81 34 = ai_i z8 := (hG17 81 34 (by first | omega | (simp; done) | (simp; omega) | (simp only; omega))).trans hz8
  have ghz25 := gv_eq hz25
  have hz26 : E14 81 23 = ai_i z9 := (hG17 81 23 (by first | omega | (simp; done) | (simp; omega) | (simp only; omega))).trans hz9
  have ghz26 := gv_eq hz26
  have hz27 : E14 81 24 = ai_i z10 := (hG17 81 24 (by first | omega | (simp; done) | (simp; omega) | (simp only; omega))).trans hz10
  have ghz27 := gv_eq hz27
  refine Or.inr (Or.inl ⟨rfl, ?_⟩)
  refine w_istore (i := 5) (npc := 168) (loc' := [(6, 0, 0), cr 0, cr 81, cr 104, ai_i i, ai_i z15, u6]) rfl rfl ?_
  refine w_aload (i := 2) (npc := 169) (v := cr 81) rfl rfl rfl ?_
  refine w_aload (i := 0) (npc := 170) (v := (6, 0, 0)) rfl rfl rfl ?_
  refine w_iload (i := 4) (npc := 172) rfl rfl ?_
  refine w_const (n := 1) (npc := 173) rfl ?_
  refine w_iadd (npc := 174) rfl (by omega) ?_
  obtain ⟨hx29, hx29a, hx29b⟩ := hx (i + 1 : Int).toNat (by omega)
  refine w_scr (npc := 175) (v := ai_i (sv (i + 1 : Int).toNat)) rfl rfl (by omega) hx29 ?_
  obtain ⟨z30, hz30, hz30a, hz30b⟩ := hI16.int 0 10 (lo := 1) (hi := 5) (by decide) (by decide) rfl
  have ghz30 := gv_eq hz30
  obtain ⟨z31, hz31, hz31a, hz31b⟩ := hI16.int 0 14 (lo := 0) (hi := 1) (by decide) (by decide) rfl
  have ghz31 := gv_eq hz31
  refine w_virt (ci := 8) (i := 81) (npc := 178) (a := [cr 81, ai_i (sv (i + 1 : Int).toNat)]) (rest := []) rfl rfl (hI16.pl (by decide)) (hI16.T (by decide) rfl) rfl rfl rfl rfl (ct_m_writers (sl := sl) (x := x) (d := d + 18) (sv (i + 1 : Int).toNat) hI16 hR19 (by omega)) (Or.inl rfl) (fun k9 v9 T33 E33 nx33 kc33 ks33 hq32 hk33 hv33 => ?_)
  obtain ⟨rfl, rfl, rfl, hI35, hG36, hRz34, hz34⟩ := hq32
  obtain rfl : kc14 = kc33 := by omega
  obtain rfl : ks14 = ks33 := by omega
  have hN38 := hN18.fr hG36 (by intro i k h; (try simp only at h); omega)
  have hz39 : E33 0 11 = ai_i z2 := (hG36 0 11 (by first | omega | (simp; done) | (simp; omega) | (simp only; omega))).trans hz20
  have ghz39 := gv_eq hz39
  have hz40 : E33 23 8 = ai_i z4 := (hG36 23 8 (by first | omega | (simp; done) | (simp; omega) | (simp only; omega))).trans hz21
  have ghz40 := gv_eq hz40
  have hz41 : E33 23 9 = ai_i z5 := (hG36 23 9 (by first | omega | (simp; done) | (simp; omega) | (simp only; omega))).trans hz22
  have ghz41 := gv_eq hz41
  have hz42 : E33 81 17 = ai_i z7 := (hG36 81 17 (by first | omega | (simp; done) | (simp; omega) | (simp only; omega))).trans hz24
  have ghz42 := gv_eq hz42
  have hz43 : E33 81 23 = ai_i z9 := (hG36 81 23 (by first | omega | (simp; done) | (simp; omega) | (simp only; omega))).trans hz26
  have ghz43 := gv_eq hz43
  have hz44 : E33 81 24 = ai_i z10 := (hG36 81 24 (by first | omega | (simp; done) | (simp; omega) | (simp only; omega))).trans hz27
  have ghz44 := gv_eq hz44
  have hz45 : E33 0 10 = ai_i z30 := (hG36 0 10 (by first | omega | (simp; done) | (simp; omega) | (simp only; omega))).trans hz30
  have ghz45 := gv_eq hz45
  have hz46 : E33 0 14 = ai_i z31 := (hG36 0 14 (by first | omega | (simp; done) | (simp; omega) | (simp only; omega))).trans hz31
  have ghz46 := gv_eq hz46
  refine Or.inl ⟨rfl, ?_⟩
  refine w_goto (pt := 1164) rfl ?_
  exact next (ai_i z15) (u6) T14 E33 nx14 kc14 ks14 hI35 hN38 hRz34 (by omega) (by omega) (by omega) (by omega)
set_option maxRecDepth 16384 in
theorem law_c1 {sl : Int × Int} {x : ai_E} {d A B : Nat} {T : cm_T} {E : cm_E} {nx kc ks : Nat} {L : Int} {sv : Nat → Int} (hsl : sl.1 = L) (hx : ∀ k : Nat, (k : Int) < L → ai_sv x k = ai_i (sv k) ∧ -2147483648 ≤ sv k ∧ sv k ≤ 2147483647) {i : Int} (hi : 0 ≤ i ∧ i + 6 ≤ L ∧ L ≤ 384) (hnx : nx ≤ 1000) (hA : kc + 20 ≤ A) (hB : ks + 2000 ≤ B) (u5 u6 : ai_V) (hI : cs_I T E nx) (hN : hn E) (hR : rl E) (hJ : gv E 0 10 = gv E 81 1 ∧ gv E 0 11 = gv E 81 17 ∧ gv E 0 14 = gv E 81 34 ∧ gv E 23 8 = gv E 81 23 ∧ gv E 23 9 = gv E 81 24)
    (next : ∀ (v5 v6 : ai_V) (T' : cm_T) (E' : cm_E) (nx' kc' ks' : Nat), cs_I T' E' nx' → hn E' → rl E' → (gv E' 0 10 = gv E' 81 1 ∧ gv E' 0 11 = gv E' 81 17 ∧ gv E' 0 14 = gv E' 81 34 ∧ gv E' 23 8 = gv E' 81 23 ∧ gv E' 23 9 = gv E' 81 24) → nx' ≤ nx + 2 → (kc ≤ kc' ∧ kc' ≤ kc + 10) → (ks ≤ ks' ∧ ks' ≤ ks + 500) → cm_wp (ai_find ai_c0 sl) (ai_ev sl (d + 20)) x A B (fun rk rv T' E' nx' => rk = 1 ∧ rv = ai_i 1) 1164 [(6, 0, 0), cr 0, cr 81, cr 104, ai_i i, v5, v6] [] T' E' nx' kc' ks') : cm_wp (ai_find ai_c0 sl) (ai_ev sl (d + 20)) x A B (fun rk rv T' E' nx' => rk = 1 ∧ rv = ai_i 1) 181 [(6, 0, 0), cr 0, cr 81, cr 104, ai_i i, u5, u6] [] T E nx kc ks := by
  obtain ⟨z1, hz1, hz1a, hz1b⟩ := hI.int 0 10 (lo := 1) (hi := 5) (by decide) (by decide) rfl
  have ghz1 := gv_eq hz1
  obtain ⟨z2, hz2, hz2a, hz2b⟩ := hI.int 0 11 (lo := 0) (hi := 400) (by decide) (by decide) rfl
  have ghz2 := gv_eq hz2
  obtain ⟨z3, hz3, hz3a, hz3b⟩ := hI.int 0 14 (lo := 0) (hi := 1) (by decide) (by decide) rfl
  have ghz3 := gv_eq hz3
  obtain ⟨z4, hz4, hz4a, hz4b⟩ := hI.int 23 8 (lo := 0) (hi := 12) (by decide) (by decide) rfl
  have ghz4 := gv_eq hz4
  obtain ⟨z5, hz5, hz5a, hz5b⟩ := hI.int 23 9 (lo := 0) (hi := 8) (by decide) (by decide) rfl
  have ghz5 := gv_eq hz5
  obtain ⟨z6, hz6, hz6a, hz6b⟩ := hI.int 81 1 (lo := 1) (hi := 5) (by decide) (by decide) rfl
  have ghz6 := gv_eq hz6
  obtain ⟨z7, hz7, hz7a, hz7b⟩ := hI.int 81 17 (lo := 0) (hi := 400) (by decide) (by decide) rfl
  have ghz7 := gv_eq hz7
  obtain ⟨z8, hz8, hz8a, hz8b⟩ := hI.int 81 34 (lo := 0) (hi := 1) (by decide) (by decide) rfl
  have ghz8 := gv_eq hz8
  obtain ⟨z9, hz9, hz9a, hz9b⟩ := hI.int 81 23 (lo := 0) (hi := 12) (by decide) (by decide) rfl
  have ghz9 := gv_eq hz9
  obtain ⟨z10, hz10, hz10a, hz10b⟩ := hI.int 81 24 (lo := 0) (hi := 8) (by decide) (by decide) rfl
  have ghz10 := gv_eq hz10
  refine w_aload (i := 1) (npc := 182) (v := cr 0) rfl rfl rfl ?_
  refine w_aload (i := 0) (npc := 183) (v := (6, 0, 0)) rfl rfl rfl ?_
  refine w_iload (i := 4) (npc := 185) rfl rfl ?_
  refine w_const (n := 1) (npc := 186) rfl ?_
  refine w_iadd (npc := 187) rfl (by omega) ?_
  obtain ⟨hx12, hx12a, hx12b⟩ := hx (i + 1 : Int).toNat (by omega)
  refine w_scr (npc := 188) (v := ai_i (sv (i + 1 : Int).toNat)) rfl rfl (by omega) hx12 ?_
  refine w_aload (i := 3) (npc := 189) (v := cr 104) rfl rfl rfl ?_
  refine w_call (npc := 192) (a := [cr 0, ai_i (sv (i + 1 : Int).toNat), cr 104]) (rest := []) rfl rfl rfl rfl rfl (ct_lw_count (sl := sl) (x := x) (d := d + 18) (sv (i + 1 : Int).toNat) hI hN (by omega)) (Or.inr (fun _ _ _ _ _ hq => by have h1 := hq.1; omega)) (fun k9 v9 T14 E14 nx14 kc14 ks14 hq13 hk14 hv14 => ?_)
  obtain ⟨rfl, hnxz15, hnyz15, hI16, hG17, hN18, z15, rfl, hz15⟩ := hq13
  have hR19 := rl.fr hR hG17 (by intro i k h; (try simp only at h); omega)
  have hz20 : E14 0 10 = ai_i z1 := (hG17 0 10 (by first | omega | (simp; done) | (simp; omega) | (simp only; omega))).trans hz1
  have ghz20 := gv_eq hz20
  have hz21 : E14 0 11 = ai_i z2 := (hG17 0 11 (by first | omega | (simp; done) | (simp; omega) | (simp only; omega))).trans hz2
  have ghz21 := gv_eq hz21
  have hz22 : E14 0 14 = ai_i z3 := (hG17 0 14 (by first | omega | (simp; done) | (simp; omega) | (simp only; omega))).trans hz3
  have ghz22 := gv_eq hz22
  have hz23 : E14 23 8 = ai_i z4 := (hG17 23 8 (by first | omega | (simp; done) | (simp; omega) | (simp only; omega))).trans hz4
  have ghz23 := gv_eq hz23
  have hz24 : E14 23 9 = ai_i z5 := (hG17 23 9 (by first | omega | (simp; done) | (simp; omega) | (simp only; omega))).trans hz5
  have ghz24 := gv_eq hz24
  have hz25 : E14 81 1 = ai_i z6 := (hG17 81 1 (by first | omega | (simp; done) | (simp; omega) | (simp only; omega))).trans hz6
  have ghz25 := gv_eq hz25
  have hz26 : E14 81 17 = ai_i z7 := (hG17 81 17 (by first | omega | (simp; done) | (simp; omega) | (simp only; omega))).trans hz7
  have ghz26 := gv_eq hz26
  have hz27 : E14 81 34 = ai_i z8 := (hG17 81 34 (by first | omega | (simp; done) | (simp; omega) | (simp only; omega))).trans hz8
  have ghz27 := gv_eq hz27
  have hz28 : E14 81 23 = ai_i z9 := (hG17 81 23 (by first | omega | (simp; done) | (simp; omega) | (simp only; omega))).trans hz9
  have ghz28 := gv_eq hz28
  have hz29 : E14 81 24 = ai_i z10 := (hG17 81 24 (by first | omega | (simp; done) | (simp; omega) | (simp only; omega))).trans hz10
  have ghz29 := gv_eq hz29
  refine Or.inr (Or.inl ⟨rfl, ?_⟩)
  refine w_istore (i := 5) (npc := 194) (loc' := [(6, 0, 0), cr 0, cr 81, cr 104, ai_i i, ai_i z15, u6]) rfl rfl ?_
  refine w_aload (i := 2) (npc := 195) (v := cr 81) rfl rfl rfl ?_
  refine w_aload (i := 0) (npc := 196) (v := (6, 0, 0)) rfl rfl rfl ?_
  refine w_iload (i := 4) (npc := 198) rfl rfl ?_
  refine w_const (n := 1) (npc := 199) rfl ?_
  refine w_iadd (npc := 200) rfl (by omega) ?_
  obtain ⟨hx31, hx31a, hx31b⟩ := hx (i + 1 : Int).toNat (by omega)
  refine w_scr (npc := 201) (v := ai_i (sv (i + 1 : Int).toNat)) rfl rfl (by omega) hx31 ?_
  refine w_virt (ci := 8) (i := 81) (npc := 204) (a := [cr 81, ai_i (sv (i + 1 : Int).toNat)]) (rest := []) rfl rfl (hI16.pl (by decide)) (hI16.T (by decide) rfl) rfl rfl rfl rfl (ct_m_count (sl := sl) (x := x) (d := d + 18) (sv (i + 1 : Int).toNat) hI16 hR19 (by omega)) (Or.inl rfl) (fun k9 v9 T33 E33 nx33 kc33 ks33 hq32 hk33 hv33 => ?_)
  obtain ⟨rfl, rfl, rfl, hI35, hG36, hRz34, z34, rfl, hz34⟩ := hq32
  obtain rfl : kc14 = kc33 := by omega
  obtain rfl : ks14 = ks33 := by omega
  have hN38 := hN18.fr hG36 (by intro i k h; (try simp only at h); omega)
  have hz39 : E33 0 10 = ai_i z1 := (hG36 0 10 (by first | omega | (simp; done) | (simp; omega) | (simp only; omega))).trans hz20
  have ghz39 := gv_eq hz39
  have hz40 : E33 0 11 = ai_i z2 := (hG36 0 11 (by first | omega | (simp; done) | (simp; omega) | (simp only; omega))).trans hz21
  have ghz40 := gv_eq hz40
  have hz41 : E33 0 14 = ai_i z3 := (hG36 0 14 (by first | omega | (simp; done) | (simp; omega) | (simp only; omega))).trans hz22
  have ghz41 := gv_eq hz41
  have hz42 : E33 23 8 = ai_i z4 := (hG36 23 8 (by first | omega | (simp; done) | (simp; omega) | (simp only; omega))).trans hz23
  have ghz42 := gv_eq hz42
  have hz43 : E33 23 9 = ai_i z5 := (hG36 23 9 (by first | omega | (simp; done) | (simp; omega) | (simp only; omega))).trans hz24
  have ghz43 := gv_eq hz43
  have hz44 : E33 81 1 = ai_i z6 := (hG36 81 1 (by first | omega | (simp; done) | (simp; omega) | (simp only; omega))).trans hz25
  have ghz44 := gv_eq hz44
  have hz45 : E33 81 17 = ai_i z7 := (hG36 81 17 (by first | omega | (simp; done) | (simp; omega) | (simp only; omega))).trans hz26
  have ghz45 := gv_eq hz45
  have hz46 : E33 81 34 = ai_i z8 := (hG36 81 34 (by first | omega | (simp; done) | (simp; omega) | (simp only; omega))).trans hz27
  have ghz46 := gv_eq hz46
  have hz47 : E33 81 23 = ai_i z9 := (hG36 81 23 (by first | omega | (simp; done) | (simp; omega) | (simp only; omega))).trans hz28
  have ghz47 := gv_eq hz47
  have hz48 : E33 81 24 = ai_i z10 := (hG36 81 24 (by first | omega | (simp; done) | (simp; omega) | (simp only; omega))).trans hz29
  have ghz48 := gv_eq hz48
  refine Or.inr (Or.inl ⟨rfl, ?_⟩)
  refine w_istore (i := 6) (npc := 206) (loc' := [(6, 0, 0), cr 0, cr 81, cr 104, ai_i i, ai_i z15, ai_i z34]) rfl rfl ?_
  refine w_goto (pt := 1164) rfl ?_
  exact next (ai_i z15) (ai_i z34) T14 E33 nx14 kc14 ks14 hI35 hN38 hRz34 (by omega) (by omega) (by omega) (by omega)
set_option maxRecDepth 16384 in
theorem law_c2 {sl : Int × Int} {x : ai_E} {d A B : Nat} {T : cm_T} {E : cm_E} {nx kc ks : Nat} {L : Int} {sv : Nat → Int} (hsl : sl.1 = L) (hx : ∀ k : Nat, (k : Int) < L → ai_sv x k = ai_i (sv k) ∧ -2147483648 ≤ sv k ∧ sv k ≤ 2147483647) {i : Int} (hi : 0 ≤ i ∧ i + 6 ≤ L ∧ L ≤ 384) (hnx : nx ≤ 1000) (hA : kc + 20 ≤ A) (hB : ks + 2000 ≤ B) (u5 u6 : ai_V) (hI : cs_I T E nx) (hN : hn E) (hR : rl E) (hJ : gv E 0 10 = gv E 81 1 ∧ gv E 0 11 = gv E 81 17 ∧ gv E 0 14 = gv E 81 34 ∧ gv E 23 8 = gv E 81 23 ∧ gv E 23 9 = gv E 81 24)
    (next : ∀ (v5 v6 : ai_V) (T' : cm_T) (E' : cm_E) (nx' kc' ks' : Nat), cs_I T' E' nx' → hn E' → rl E' → (gv E' 0 10 = gv E' 81 1 ∧ gv E' 0 11 = gv E' 81 17 ∧ gv E' 0 14 = gv E' 81 34 ∧ gv E' 23 8 = gv E' 81 23 ∧ gv E' 23 9 = gv E' 81 24) → nx' ≤ nx + 2 → (kc ≤ kc' ∧ kc' ≤ kc + 10) → (ks ≤ ks' ∧ ks' ≤ ks + 500) → cm_wp (ai_find ai_c0 sl) (ai_ev sl (d + 20)) x A B (fun rk rv T' E' nx' => rk = 1 ∧ rv = ai_i 1) 1164 [(6, 0, 0), cr 0, cr 81, cr 104, ai_i i, v5, v6] [] T' E' nx' kc' ks') : cm_wp (ai_find ai_c0 sl) (ai_ev sl (d + 20)) x A B (fun rk rv T' E' nx' => rk = 1 ∧ rv = ai_i 1) 209 [(6, 0, 0), cr 0, cr 81, cr 104, ai_i i, u5, u6] [] T E nx kc ks := by
  obtain ⟨z1, hz1, hz1a, hz1b⟩ := hI.int 0 10 (lo := 1) (hi := 5) (by decide) (by decide) rfl
  have ghz1 := gv_eq hz1
  obtain ⟨z2, hz2, hz2a, hz2b⟩ := hI.int 0 11 (lo := 0) (hi := 400) (by decide) (by decide) rfl
  have ghz2 := gv_eq hz2
  obtain ⟨z3, hz3, hz3a, hz3b⟩ := hI.int 0 14 (lo := 0) (hi := 1) (by decide) (by decide) rfl
  have ghz3 := gv_eq hz3
  obtain ⟨z4, hz4, hz4a, hz4b⟩ := hI.int 23 8 (lo := 0) (hi := 12) (by decide) (by decide) rfl
  have ghz4 := gv_eq hz4
  obtain ⟨z5, hz5, hz5a, hz5b⟩ := hI.int 23 9 (lo := 0) (hi := 8) (by decide) (by decide) rfl
  have ghz5 := gv_eq hz5
  obtain ⟨z6, hz6, hz6a, hz6b⟩ := hI.int 81 1 (lo := 1) (hi := 5) (by decide) (by decide) rfl
  have ghz6 := gv_eq hz6
  obtain ⟨z7, hz7, hz7a, hz7b⟩ := hI.int 81 17 (lo := 0) (hi := 400) (by decide) (by decide) rfl
  have ghz7 := gv_eq hz7
  obtain ⟨z8, hz8, hz8a, hz8b⟩ := hI.int 81 34 (lo := 0) (hi := 1) (by decide) (by decide) rfl
  have ghz8 := gv_eq hz8
  obtain ⟨z9, hz9, hz9a, hz9b⟩ := hI.int 81 23 (lo := 0) (hi := 12) (by decide) (by decide) rfl
  have ghz9 := gv_eq hz9
  obtain ⟨z10, hz10, hz10a, hz10b⟩ := hI.int 81 24 (lo := 0) (hi := 8) (by decide) (by decide) rfl
  have ghz10 := gv_eq hz10
  refine w_aload (i := 1) (npc := 210) (v := cr 0) rfl rfl rfl ?_
  refine w_aload (i := 0) (npc := 211) (v := (6, 0, 0)) rfl rfl rfl ?_
  refine w_iload (i := 4) (npc := 213) rfl rfl ?_
  refine w_const (n := 1) (npc := 214) rfl ?_
  refine w_iadd (npc := 215) rfl (by omega) ?_
  obtain ⟨hx12, hx12a, hx12b⟩ := hx (i + 1 : Int).toNat (by omega)
  refine w_scr (npc := 216) (v := ai_i (sv (i + 1 : Int).toNat)) rfl rfl (by omega) hx12 ?_
  refine w_aload (i := 0) (npc := 217) (v := (6, 0, 0)) rfl rfl rfl ?_
  refine w_iload (i := 4) (npc := 219) rfl rfl ?_
  refine w_const (n := 2) (npc := 220) rfl ?_
  refine w_iadd (npc := 221) rfl (by omega) ?_
  obtain ⟨hx14, hx14a, hx14b⟩ := hx (i + 2 : Int).toNat (by omega)
  refine w_scr (npc := 222) (v := ai_i (sv (i + 2 : Int).toNat)) rfl rfl (by omega) hx14 ?_
  refine w_aload (i := 3) (npc := 223) (v := cr 104) rfl rfl rfl ?_
  refine w_call (npc := 226) (a := [cr 0, ai_i (sv (i + 1 : Int).toNat), ai_i (sv (i + 2 : Int).toNat), cr 104]) (rest := []) rfl rfl rfl rfl rfl (ct_lw_page (sl := sl) (x := x) (d := d + 11) (sv (i + 1 : Int).toNat) (sv (i + 2 : Int).toNat) hI hN (by omega) (by omega)) (Or.inr (fun _ _ _ _ _ hq => by have h1 := hq.1; omega)) (fun k9 v9 T16 E16 nx16 kc16 ks16 hq15 hk16 hv16 => ?_)
  obtain ⟨rfl, hnxz17, hnyz17, hI18, hG19, hN20, z17, rfl, hz17⟩ := hq15
  have hR21 := rl.fr hR hG19 (by intro i k h; (try simp only at h); omega)
  have hz22 : E16 0 10 = ai_i z1 := (hG19 0 10 (by first | omega | (simp; done) | (simp; omega) | (simp only; omega))).trans hz1
  have ghz22 := gv_eq hz22
  have hz23 : E16 0 11 = ai_i z2 := (hG19 0 11 (by first | omega | (simp; done) | (simp; omega) | (simp only; omega))).trans hz2
  have ghz23 := gv_eq hz23
  have hz24 : E16 0 14 = ai_i z3 := (hG19 0 14 (by first | omega | (simp; done) | (simp; omega) | (simp only; omega))).trans hz3
  have ghz24 := gv_eq hz24
  have hz25 : E16 23 8 = ai_i z4 := (hG19 23 8 (by first | omega | (simp; done) | (simp; omega) | (simp only; omega))).trans hz4
  have ghz25 := gv_eq hz25
  have hz26 : E16 23 9 = ai_i z5 := (hG19 23 9 (by first | omega | (simp; done) | (simp; omega) | (simp only; omega))).trans hz5
  have ghz26 := gv_eq hz26
  have hz27 : E16 81 1 = ai_i z6 := (hG19 81 1 (by first | omega | (simp; done) | (simp; omega) | (simp only; omega))).trans hz6
  have ghz27 := gv_eq hz27
  have hz28 : E16 81 17 = ai_i z7 := (hG19 81 17 (by first | omega | (simp; done) | (simp; omega) | (simp only; omega))).trans hz7
  have ghz28 := gv_eq hz28
  have hz29 : E16 81 34 = ai_i z8 := (hG19 81 34 (by first | omega | (simp; done) | (simp; omega) | (simp only; omega))).trans hz8
  have ghz29 := gv_eq hz29
  have hz30 : E16 81 23 = ai_i z9 := (hG19 81 23 (by first | omega | (simp; done) | (simp; omega) | (simp only; omega))).trans hz9
  have ghz30 := gv_eq hz30
  have hz31 : E16 81 24 = ai_i z10 := (hG19 81 24 (by first | omega | (simp; done) | (simp; omega) | (simp only; omega))).trans hz10
  have ghz31 := gv_eq hz31
  refine Or.inr (Or.inl ⟨rfl, ?_⟩)
  refine w_istore (i := 5) (npc := 228) (loc' := [(6, 0, 0), cr 0, cr 81, cr 104, ai_i i, ai_i z17, u6]) rfl rfl ?_
  refine w_aload (i := 2) (npc := 229) (v := cr 81) rfl rfl rfl ?_
  refine w_aload (i := 0) (npc := 230) (v := (6, 0, 0)) rfl rfl rfl ?_
  refine w_iload (i := 4) (npc := 232) rfl rfl ?_
  refine w_const (n := 1) (npc := 233) rfl ?_
  refine w_iadd (npc := 234) rfl (by omega) ?_
  obtain ⟨hx33, hx33a, hx33b⟩ := hx (i + 1 : Int).toNat (by omega)
  refine w_scr (npc := 235) (v := ai_i (sv (i + 1 : Int).toNat)) rfl rfl (by omega) hx33 ?_
  refine w_aload (i := 0) (npc := 236) (v := (6, 0, 0)) rfl rfl rfl ?_
  refine w_iload (i := 4) (npc := 238) rfl rfl ?_
  refine w_const (n := 2) (npc := 239) rfl ?_
  refine w_iadd (npc := 240) rfl (by omega) ?_
  obtain ⟨hx35, hx35a, hx35b⟩ := hx (i + 2 : Int).toNat (by omega)
  refine w_scr (npc := 241) (v := ai_i (sv (i + 2 : Int).toNat)) rfl rfl (by omega) hx35 ?_
  refine w_virt (ci := 8) (i := 81) (npc := 244) (a := [cr 81, ai_i (sv (i + 1 : Int).toNat), ai_i (sv (i + 2 : Int).toNat)]) (rest := []) rfl rfl (hI18.pl (by decide)) (hI18.T (by decide) rfl) rfl rfl rfl rfl (ct_m_page (sl := sl) (x := x) (d := d + 12) (sv (i + 1 : Int).toNat) (sv (i + 2 : Int).toNat) hI18 hR21 (by omega) (by omega)) (Or.inl rfl) (fun k9 v9 T37 E37 nx37 kc37 ks37 hq36 hk37 hv37 => ?_)
  obtain ⟨rfl, rfl, rfl, hI39, hG40, hRz38, z38, rfl, hz38⟩ := hq36
  obtain rfl : kc16 = kc37 := by omega
  obtain rfl : ks16 = ks37 := by omega
  have hN42 := hN20.fr hG40 (by intro i k h; (try simp only at h); omega)
  have hz43 : E37 0 10 = ai_i z1 := (hG40 0 10 (by first | omega | (simp; done) | (simp; omega) | (simp only; omega))).trans hz22
  have ghz43 := gv_eq hz43
  have hz44 : E37 0 11 = ai_i z2 := (hG40 0 11 (by first | omega | (simp; done) | (simp; omega) | (simp only; omega))).trans hz23
  have ghz44 := gv_eq hz44
  have hz45 : E37 0 14 = ai_i z3 := (hG40 0 14 (by first | omega | (simp; done) | (simp; omega) | (simp only; omega))).trans hz24
  have ghz45 := gv_eq hz45
  have hz46 : E37 23 8 = ai_i z4 := (hG40 23 8 (by first | omega | (simp; done) | (simp; omega) | (simp only; omega))).trans hz25
  have ghz46 := gv_eq hz46
  have hz47 : E37 23 9 = ai_i z5 := (hG40 23 9 (by first | omega | (simp; done) | (simp; omega) | (simp only; omega))).trans hz26
  have ghz47 := gv_eq hz47
  have hz48 : E37 81 1 = ai_i z6 := (hG40 81 1 (by first | omega | (simp; done) | (simp; omega) | (simp only; omega))).trans hz27
  have ghz48 := gv_eq hz48
  have hz49 : E37 81 17 = ai_i z7 := (hG40 81 17 (by first | omega | (simp; done) | (simp; omega) | (simp only; omega))).trans hz28
  have ghz49 := gv_eq hz49
  have hz50 : E37 81 34 = ai_i z8 := (hG40 81 34 (by first | omega | (simp; done) | (simp; omega) | (simp only; omega))).trans hz29
  have ghz50 := gv_eq hz50
  have hz51 : E37 81 23 = ai_i z9 := (hG40 81 23 (by first | omega | (simp; done) | (simp; omega) | (simp only; omega))).trans hz30
  have ghz51 := gv_eq hz51
  have hz52 : E37 81 24 = ai_i z10 := (hG40 81 24 (by first | omega | (simp; done) | (simp; omega) | (simp only; omega))).trans hz31
  have ghz52 := gv_eq hz52
  refine Or.inr (Or.inl ⟨rfl, ?_⟩)
  refine w_istore (i := 6) (npc := 246) (loc' := [(6, 0, 0), cr 0, cr 81, cr 104, ai_i i, ai_i z17, ai_i z38]) rfl rfl ?_
  refine w_goto (pt := 1164) rfl ?_
  exact next (ai_i z17) (ai_i z38) T16 E37 nx16 kc16 ks16 hI39 hN42 hRz38 (by omega) (by omega) (by omega) (by omega)
set_option maxRecDepth 16384 in
theorem law_c3 {sl : Int × Int} {x : ai_E} {d A B : Nat} {T : cm_T} {E : cm_E} {nx kc ks : Nat} {L : Int} {sv : Nat → Int} (hsl : sl.1 = L) (hx : ∀ k : Nat, (k : Int) < L → ai_sv x k = ai_i (sv k) ∧ -2147483648 ≤ sv k ∧ sv k ≤ 2147483647) {i : Int} (hi : 0 ≤ i ∧ i + 6 ≤ L ∧ L ≤ 384) (hnx : nx ≤ 1000) (hA : kc + 20 ≤ A) (hB : ks + 2000 ≤ B) (u5 u6 : ai_V) (hI : cs_I T E nx) (hN : hn E) (hR : rl E) (hJ : gv E 0 10 = gv E 81 1 ∧ gv E 0 11 = gv E 81 17 ∧ gv E 0 14 = gv E 81 34 ∧ gv E 23 8 = gv E 81 23 ∧ gv E 23 9 = gv E 81 24)
    (next : ∀ (v5 v6 : ai_V) (T' : cm_T) (E' : cm_E) (nx' kc' ks' : Nat), cs_I T' E' nx' → hn E' → rl E' → (gv E' 0 10 = gv E' 81 1 ∧ gv E' 0 11 = gv E' 81 17 ∧ gv E' 0 14 = gv E' 81 34 ∧ gv E' 23 8 = gv E' 81 23 ∧ gv E' 23 9 = gv E' 81 24) → nx' ≤ nx + 2 → (kc ≤ kc' ∧ kc' ≤ kc + 10) → (ks ≤ ks' ∧ ks' ≤ ks + 500) → cm_wp (ai_find ai_c0 sl) (ai_ev sl (d + 20)) x A B (fun rk rv T' E' nx' => rk = 1 ∧ rv = ai_i 1) 1164 [(6, 0, 0), cr 0, cr 81, cr 104, ai_i i, v5, v6] [] T' E' nx' kc' ks') : cm_wp (ai_find ai_c0 sl) (ai_ev sl (d + 20)) x A B (fun rk rv T' E' nx' => rk = 1 ∧ rv = ai_i 1) 249 [(6, 0, 0), cr 0, cr 81, cr 104, ai_i i, u5, u6] [] T E nx kc ks := by
  obtain ⟨z1, hz1, hz1a, hz1b⟩ := hI.int 0 10 (lo := 1) (hi := 5) (by decide) (by decide) rfl
  have ghz1 := gv_eq hz1
  obtain ⟨z2, hz2, hz2a, hz2b⟩ := hI.int 0 11 (lo := 0) (hi := 400) (by decide) (by decide) rfl
  have ghz2 := gv_eq hz2
  obtain ⟨z3, hz3, hz3a, hz3b⟩ := hI.int 0 14 (lo := 0) (hi := 1) (by decide) (by decide) rfl
  have ghz3 := gv_eq hz3
  obtain ⟨z4, hz4, hz4a, hz4b⟩ := hI.int 23 8 (lo := 0) (hi := 12) (by decide) (by decide) rfl
  have ghz4 := gv_eq hz4
  obtain ⟨z5, hz5, hz5a, hz5b⟩ := hI.int 23 9 (lo := 0) (hi := 8) (by decide) (by decide) rfl
  have ghz5 := gv_eq hz5
  obtain ⟨z6, hz6, hz6a, hz6b⟩ := hI.int 81 1 (lo := 1) (hi := 5) (by decide) (by decide) rfl
  have ghz6 := gv_eq hz6
  obtain ⟨z7, hz7, hz7a, hz7b⟩ := hI.int 81 17 (lo := 0) (hi := 400) (by decide) (by decide) rfl
  have ghz7 := gv_eq hz7
  obtain ⟨z8, hz8, hz8a, hz8b⟩ := hI.int 81 34 (lo := 0) (hi := 1) (by decide) (by decide) rfl
  have ghz8 := gv_eq hz8
  obtain ⟨z9, hz9, hz9a, hz9b⟩ := hI.int 81 23 (lo := 0) (hi := 12) (by decide) (by decide) rfl
  have ghz9 := gv_eq hz9
  obtain ⟨z10, hz10, hz10a, hz10b⟩ := hI.int 81 24 (lo := 0) (hi := 8) (by decide) (by decide) rfl
  have ghz10 := gv_eq hz10
  refine w_aload (i := 1) (npc := 250) (v := cr 0) rfl rfl rfl ?_
  refine w_aload (i := 0) (npc := 251) (v := (6, 0, 0)) rfl rfl rfl ?_
  refine w_iload (i := 4) (npc := 253) rfl rfl ?_
  refine w_const (n := 1) (npc := 254) rfl ?_
  refine w_iadd (npc := 255) rfl (by omega) ?_
  obtain ⟨hx12, hx12a, hx12b⟩ := hx (i + 1 : Int).toNat (by omega)
  refine w_scr (npc := 256) (v := ai_i (sv (i + 1 : Int).toNat)) rfl rfl (by omega) hx12 ?_
  refine w_aload (i := 0) (npc := 257) (v := (6, 0, 0)) rfl rfl rfl ?_
  refine w_iload (i := 4) (npc := 259) rfl rfl ?_
  refine w_const (n := 2) (npc := 260) rfl ?_
  refine w_iadd (npc := 261) rfl (by omega) ?_
  obtain ⟨hx14, hx14a, hx14b⟩ := hx (i + 2 : Int).toNat (by omega)
  refine w_scr (npc := 262) (v := ai_i (sv (i + 2 : Int).toNat)) rfl rfl (by omega) hx14 ?_
  refine w_aload (i := 0) (npc := 263) (v := (6, 0, 0)) rfl rfl rfl ?_
  refine w_iload (i := 4) (npc := 265) rfl rfl ?_
  refine w_const (n := 3) (npc := 266) rfl ?_
  refine w_iadd (npc := 267) rfl (by omega) ?_
  obtain ⟨hx16, hx16a, hx16b⟩ := hx (i + 3 : Int).toNat (by omega)
  refine w_scr (npc := 268) (v := ai_i (sv (i + 3 : Int).toNat)) rfl rfl (by omega) hx16 ?_
  refine w_aload (i := 3) (npc := 269) (v := cr 104) rfl rfl rfl ?_
  refine w_call (npc := 272) (a := [cr 0, ai_i (sv (i + 1 : Int).toNat), ai_i (sv (i + 2 : Int).toNat), ai_i (sv (i + 3 : Int).toNat), cr 104]) (rest := []) rfl rfl rfl rfl rfl (ct_lw_text (sl := sl) (x := x) (d := d + 11) (sv (i + 1 : Int).toNat) (sv (i + 2 : Int).toNat) (sv (i + 3 : Int).toNat) hI hN (by omega) (by omega)) (Or.inr (fun _ _ _ _ _ hq => by have h1 := hq.1; omega)) (fun k9 v9 T18 E18 nx18 kc18 ks18 hq17 hk18 hv18 => ?_)
  obtain ⟨rfl, hnxz19, hnyz19, hI20, hG21, hN22, z19, rfl, hz19⟩ := hq17
  have hR23 := rl.fr hR hG21 (by intro i k h; (try simp only at h); omega)
  have hz24 : E18 0 10 = ai_i z1 := (hG21 0 10 (by first | omega | (simp; done) | (simp; omega) | (simp only; omega))).trans hz1
  have ghz24 := gv_eq hz24
  have hz25 : E18 0 11 = ai_i z2 := (hG21 0 11 (by first | omega | (simp; done) | (simp; omega) | (simp only; omega))).trans hz2
  have ghz25 := gv_eq hz25
  have hz26 : E18 0 14 = ai_i z3 := (hG21 0 14 (by first | omega | (simp; done) | (simp; omega) | (simp only; omega))).trans hz3
  have ghz26 := gv_eq hz26
  have hz27 : E18 23 8 = ai_i z4 := (hG21 23 8 (by first | omega | (simp; done) | (simp; omega) | (simp only; omega))).trans hz4
  have ghz27 := gv_eq hz27
  have hz28 : E18 23 9 = ai_i z5 := (hG21 23 9 (by first | omega | (simp; done) | (simp; omega) | (simp only; omega))).trans hz5
  have ghz28 := gv_eq hz28
  have hz29 : E18 81 1 = ai_i z6 := (hG21 81 1 (by first | omega | (simp; done) | (simp; omega) | (simp only; omega))).trans hz6
  have ghz29 := gv_eq hz29
  have hz30 : E18 81 17 = ai_i z7 := (hG21 81 17 (by first | omega | (simp; done) | (simp; omega) | (simp only; omega))).trans hz7
  have ghz30 := gv_eq hz30
  have hz31 : E18 81 34 = ai_i z8 := (hG21 81 34 (by first | omega | (simp; done) | (simp; omega) | (simp only; omega))).trans hz8
  have ghz31 := gv_eq hz31
  have hz32 : E18 81 23 = ai_i z9 := (hG21 81 23 (by first | omega | (simp; done) | (simp; omega) | (simp only; omega))).trans hz9
  have ghz32 := gv_eq hz32
  have hz33 : E18 81 24 = ai_i z10 := (hG21 81 24 (by first | omega | (simp; done) | (simp; omega) | (simp only; omega))).trans hz10
  have ghz33 := gv_eq hz33
  refine Or.inr (Or.inl ⟨rfl, ?_⟩)
  refine w_istore (i := 5) (npc := 274) (loc' := [(6, 0, 0), cr 0, cr 81, cr 104, ai_i i, ai_i z19, u6]) rfl rfl ?_
  refine w_aload (i := 2) (npc := 275) (v := cr 81) rfl rfl rfl ?_
  refine w_aload (i := 0) (npc := 276) (v := (6, 0, 0)) rfl rfl rfl ?_
  refine w_iload (i := 4) (npc := 278) rfl rfl ?_
  refine w_const (n := 1) (npc := 279) rfl ?_
  refine w_iadd (npc := 280) rfl (by omega) ?_
  obtain ⟨hx35, hx35a, hx35b⟩ := hx (i + 1 : Int).toNat (by omega)
  refine w_scr (npc := 281) (v := ai_i (sv (i + 1 : Int).toNat)) rfl rfl (by omega) hx35 ?_
  refine w_aload (i := 0) (npc := 282) (v := (6, 0, 0)) rfl rfl rfl ?_
  refine w_iload (i := 4) (npc := 284) rfl rfl ?_
  refine w_const (n := 2) (npc := 285) rfl ?_
  refine w_iadd (npc := 286) rfl (by omega) ?_
  obtain ⟨hx37, hx37a, hx37b⟩ := hx (i + 2 : Int).toNat (by omega)
  refine w_scr (npc := 287) (v := ai_i (sv (i + 2 : Int).toNat)) rfl rfl (by omega) hx37 ?_
  refine w_aload (i := 0) (npc := 288) (v := (6, 0, 0)) rfl rfl rfl ?_
  refine w_iload (i := 4) (npc := 290) rfl rfl ?_
  refine w_const (n := 3) (npc := 291) rfl ?_
  refine w_iadd (npc := 292) rfl (by omega) ?_
  obtain ⟨hx39, hx39a, hx39b⟩ := hx (i + 3 : Int).toNat (by omega)
  refine w_scr (npc := 293) (v := ai_i (sv (i + 3 : Int).toNat)) rfl rfl (by omega) hx39 ?_
  refine w_virt (ci := 8) (i := 81) (npc := 296) (a := [cr 81, ai_i (sv (i + 1 : Int).toNat), ai_i (sv (i + 2 : Int).toNat), ai_i (sv (i + 3 : Int).toNat)]) (rest := []) rfl rfl (hI20.pl (by decide)) (hI20.T (by decide) rfl) rfl rfl rfl rfl (ct_m_text (sl := sl) (x := x) (d := d + 12) (sv (i + 1 : Int).toNat) (sv (i + 2 : Int).toNat) (sv (i + 3 : Int).toNat) hI20 hR23 (by omega) (by omega) (by omega)) (Or.inl rfl) (fun k9 v9 T41 E41 nx41 kc41 ks41 hq40 hk41 hv41 => ?_)
  obtain ⟨rfl, rfl, rfl, hI43, hG44, hRz42, z42, rfl, hz42⟩ := hq40
  obtain rfl : kc18 = kc41 := by omega
  obtain rfl : ks18 = ks41 := by omega
  have hN46 := hN22.fr hG44 (by intro i k h; (try simp only at h); omega)
  have hz47 : E41 0 10 = ai_i z1 := (hG44 0 10 (by first | omega | (simp; done) | (simp; omega) | (simp only; omega))).trans hz24
  have ghz47 := gv_eq hz47
  have hz48 : E41 0 11 = ai_i z2 := (hG44 0 11 (by first | omega | (simp; done) | (simp; omega) | (simp only; omega))).trans hz25
  have ghz48 := gv_eq hz48
  have hz49 : E41 0 14 = ai_i z3 := (hG44 0 14 (by first | omega | (simp; done) | (simp; omega) | (simp only; omega))).trans hz26
  have ghz49 := gv_eq hz49
  have hz50 : E41 23 8 = ai_i z4 := (hG44 23 8 (by first | omega | (simp; done) | (simp; omega) | (simp only; omega))).trans hz27
  have ghz50 := gv_eq hz50
  have hz51 : E41 23 9 = ai_i z5 := (hG44 23 9 (by first | omega | (simp; done) | (simp; omega) | (simp only; omega))).trans hz28
  have ghz51 := gv_eq hz51
  have hz52 : E41 81 1 = ai_i z6 := (hG44 81 1 (by first | omega | (simp; done) | (simp; omega) | (simp only; omega))).trans hz29
  have ghz52 := gv_eq hz52
  have hz53 : E41 81 17 = ai_i z7 := (hG44 81 17 (by first | omega | (simp; done) | (simp; omega) | (simp only; omega))).trans hz30
  have ghz53 := gv_eq hz53
  have hz54 : E41 81 34 = ai_i z8 := (hG44 81 34 (by first | omega | (simp; done) | (simp; omega) | (simp only; omega))).trans hz31
  have ghz54 := gv_eq hz54
  have hz55 : E41 81 23 = ai_i z9 := (hG44 81 23 (by first | omega | (simp; done) | (simp; omega) | (simp only; omega))).trans hz32
  have ghz55 := gv_eq hz55
  have hz56 : E41 81 24 = ai_i z10 := (hG44 81 24 (by first | omega | (simp; done) | (simp; omega) | (simp only; omega))).trans hz33
  have ghz56 := gv_eq hz56
  refine Or.inr (Or.inl ⟨rfl, ?_⟩)
  refine w_istore (i := 6) (npc := 298) (loc' := [(6, 0, 0), cr 0, cr 81, cr 104, ai_i i, ai_i z19, ai_i z42]) rfl rfl ?_
  refine w_goto (pt := 1164) rfl ?_
  exact next (ai_i z19) (ai_i z42) T18 E41 nx18 kc18 ks18 hI43 hN46 hRz42 (by omega) (by omega) (by omega) (by omega)
set_option maxRecDepth 16384 in
theorem law_c4 {sl : Int × Int} {x : ai_E} {d A B : Nat} {T : cm_T} {E : cm_E} {nx kc ks : Nat} {L : Int} {sv : Nat → Int} (hsl : sl.1 = L) (hx : ∀ k : Nat, (k : Int) < L → ai_sv x k = ai_i (sv k) ∧ -2147483648 ≤ sv k ∧ sv k ≤ 2147483647) {i : Int} (hi : 0 ≤ i ∧ i + 6 ≤ L ∧ L ≤ 384) (hnx : nx ≤ 1000) (hA : kc + 20 ≤ A) (hB : ks + 2000 ≤ B) (u5 u6 : ai_V) (hI : cs_I T E nx) (hN : hn E) (hR : rl E) (hJ : gv E 0 10 = gv E 81 1 ∧ gv E 0 11 = gv E 81 17 ∧ gv E 0 14 = gv E 81 34 ∧ gv E 23 8 = gv E 81 23 ∧ gv E 23 9 = gv E 81 24)
    (next : ∀ (v5 v6 : ai_V) (T' : cm_T) (E' : cm_E) (nx' kc' ks' : Nat), cs_I T' E' nx' → hn E' → rl E' → (gv E' 0 10 = gv E' 81 1 ∧ gv E' 0 11 = gv E' 81 17 ∧ gv E' 0 14 = gv E' 81 34 ∧ gv E' 23 8 = gv E' 81 23 ∧ gv E' 23 9 = gv E' 81 24) → nx' ≤ nx + 2 → (kc ≤ kc' ∧ kc' ≤ kc + 10) → (ks ≤ ks' ∧ ks' ≤ ks + 500) → cm_wp (ai_find ai_c0 sl) (ai_ev sl (d + 20)) x A B (fun rk rv T' E' nx' => rk = 1 ∧ rv = ai_i 1) 1164 [(6, 0, 0), cr 0, cr 81, cr 104, ai_i i, v5, v6] [] T' E' nx' kc' ks') : cm_wp (ai_find ai_c0 sl) (ai_ev sl (d + 20)) x A B (fun rk rv T' E' nx' => rk = 1 ∧ rv = ai_i 1) 301 [(6, 0, 0), cr 0, cr 81, cr 104, ai_i i, u5, u6] [] T E nx kc ks := by
  obtain ⟨z1, hz1, hz1a, hz1b⟩ := hI.int 0 10 (lo := 1) (hi := 5) (by decide) (by decide) rfl
  have ghz1 := gv_eq hz1
  obtain ⟨z2, hz2, hz2a, hz2b⟩ := hI.int 0 11 (lo := 0) (hi := 400) (by decide) (by decide) rfl
  have ghz2 := gv_eq hz2
  obtain ⟨z3, hz3, hz3a, hz3b⟩ := hI.int 0 14 (lo := 0) (hi := 1) (by decide) (by decide) rfl
  have ghz3 := gv_eq hz3
  obtain ⟨z4, hz4, hz4a, hz4b⟩ := hI.int 23 8 (lo := 0) (hi := 12) (by decide) (by decide) rfl
  have ghz4 := gv_eq hz4
  obtain ⟨z5, hz5, hz5a, hz5b⟩ := hI.int 23 9 (lo := 0) (hi := 8) (by decide) (by decide) rfl
  have ghz5 := gv_eq hz5
  obtain ⟨z6, hz6, hz6a, hz6b⟩ := hI.int 81 1 (lo := 1) (hi := 5) (by decide) (by decide) rfl
  have ghz6 := gv_eq hz6
  obtain ⟨z7, hz7, hz7a, hz7b⟩ := hI.int 81 17 (lo := 0) (hi := 400) (by decide) (by decide) rfl
  have ghz7 := gv_eq hz7
  obtain ⟨z8, hz8, hz8a, hz8b⟩ := hI.int 81 34 (lo := 0) (hi := 1) (by decide) (by decide) rfl
  have ghz8 := gv_eq hz8
  obtain ⟨z9, hz9, hz9a, hz9b⟩ := hI.int 81 23 (lo := 0) (hi := 12) (by decide) (by decide) rfl
  have ghz9 := gv_eq hz9
  obtain ⟨z10, hz10, hz10a, hz10b⟩ := hI.int 81 24 (lo := 0) (hi := 8) (by decide) (by decide) rfl
  have ghz10 := gv_eq hz10
  refine w_aload (i := 1) (npc := 302) (v := cr 0) rfl rfl rfl ?_
  refine w_aload (i := 0) (npc := 303) (v := (6, 0, 0)) rfl rfl rfl ?_
  refine w_iload (i := 4) (npc := 305) rfl rfl ?_
  refine w_const (n := 1) (npc := 306) rfl ?_
  refine w_iadd (npc := 307) rfl (by omega) ?_
  obtain ⟨hx12, hx12a, hx12b⟩ := hx (i + 1 : Int).toNat (by omega)
  refine w_scr (npc := 308) (v := ai_i (sv (i + 1 : Int).toNat)) rfl rfl (by omega) hx12 ?_
  refine w_aload (i := 0) (npc := 309) (v := (6, 0, 0)) rfl rfl rfl ?_
  refine w_iload (i := 4) (npc := 311) rfl rfl ?_
  refine w_const (n := 2) (npc := 312) rfl ?_
  refine w_iadd (npc := 313) rfl (by omega) ?_
  obtain ⟨hx14, hx14a, hx14b⟩ := hx (i + 2 : Int).toNat (by omega)
  refine w_scr (npc := 314) (v := ai_i (sv (i + 2 : Int).toNat)) rfl rfl (by omega) hx14 ?_
  refine w_aload (i := 0) (npc := 315) (v := (6, 0, 0)) rfl rfl rfl ?_
  refine w_iload (i := 4) (npc := 317) rfl rfl ?_
  refine w_const (n := 3) (npc := 318) rfl ?_
  refine w_iadd (npc := 319) rfl (by omega) ?_
  obtain ⟨hx16, hx16a, hx16b⟩ := hx (i + 3 : Int).toNat (by omega)
  refine w_scr (npc := 320) (v := ai_i (sv (i + 3 : Int).toNat)) rfl rfl (by omega) hx16 ?_
  refine w_aload (i := 0) (npc := 321) (v := (6, 0, 0)) rfl rfl rfl ?_
  refine w_iload (i := 4) (npc := 323) rfl rfl ?_
  refine w_const (n := 4) (npc := 324) rfl ?_
  refine w_iadd (npc := 325) rfl (by omega) ?_
  obtain ⟨hx18, hx18a, hx18b⟩ := hx (i + 4 : Int).toNat (by omega)
  refine w_scr (npc := 326) (v := ai_i (sv (i + 4 : Int).toNat)) rfl rfl (by omega) hx18 ?_
  refine w_aload (i := 3) (npc := 327) (v := cr 104) rfl rfl rfl ?_
  refine w_call (npc := 330) (a := [cr 0, ai_i (sv (i + 1 : Int).toNat), ai_i (sv (i + 2 : Int).toNat), ai_i (sv (i + 3 : Int).toNat), ai_i (sv (i + 4 : Int).toNat), cr 104]) (rest := []) rfl rfl rfl rfl rfl (ct_lw_step (sl := sl) (x := x) (d := d + 11) (sv (i + 1 : Int).toNat) (sv (i + 2 : Int).toNat) (sv (i + 3 : Int).toNat) (sv (i + 4 : Int).toNat) hI hN (by omega)) (Or.inr (fun _ _ _ _ _ hq => by have h1 := hq.1; omega)) (fun k9 v9 T20 E20 nx20 kc20 ks20 hq19 hk20 hv20 => ?_)
  obtain ⟨rfl, hnxz21, hnyz21, hI22, hG23, hN24, z21, rfl, hz21⟩ := hq19
  have hR25 := rl.fr hR hG23 (by intro i k h; (try simp only at h); omega)
  have hz26 : E20 0 10 = ai_i z1 := (hG23 0 10 (by first | omega | (simp; done) | (simp; omega) | (simp only; omega))).trans hz1
  have ghz26 := gv_eq hz26
  have hz27 : E20 0 11 = ai_i z2 := (hG23 0 11 (by first | omega | (simp; done) | (simp; omega) | (simp only; omega))).trans hz2
  have ghz27 := gv_eq hz27
  have hz28 : E20 0 14 = ai_i z3 := (hG23 0 14 (by first | omega | (simp; done) | (simp; omega) | (simp only; omega))).trans hz3
  have ghz28 := gv_eq hz28
  have hz29 : E20 23 8 = ai_i z4 := (hG23 23 8 (by first | omega | (simp; done) | (simp; omega) | (simp only; omega))).trans hz4
  have ghz29 := gv_eq hz29
  have hz30 : E20 23 9 = ai_i z5 := (hG23 23 9 (by first | omega | (simp; done) | (simp; omega) | (simp only; omega))).trans hz5
  have ghz30 := gv_eq hz30
  have hz31 : E20 81 1 = ai_i z6 := (hG23 81 1 (by first | omega | (simp; done) | (simp; omega) | (simp only; omega))).trans hz6
  have ghz31 := gv_eq hz31
  have hz32 : E20 81 17 = ai_i z7 := (hG23 81 17 (by first | omega | (simp; done) | (simp; omega) | (simp only; omega))).trans hz7
  have ghz32 := gv_eq hz32
  have hz33 : E20 81 34 = ai_i z8 := (hG23 81 34 (by first | omega | (simp; done) | (simp; omega) | (simp only; omega))).trans hz8
  have ghz33 := gv_eq hz33
  have hz34 : E20 81 23 = ai_i z9 := (hG23 81 23 (by first | omega | (simp; done) | (simp; omega) | (simp only; omega))).trans hz9
  have ghz34 := gv_eq hz34
  have hz35 : E20 81 24 = ai_i z10 := (hG23 81 24 (by first | omega | (simp; done) | (simp; omega) | (simp only; omega))).trans hz10
  have ghz35 := gv_eq hz35
  refine Or.inr (Or.inl ⟨rfl, ?_⟩)
  refine w_istore (i := 5) (npc := 332) (loc' := [(6, 0, 0), cr 0, cr 81, cr 104, ai_i i, ai_i z21, u6]) rfl rfl ?_
  refine w_aload (i := 2) (npc := 333) (v := cr 81) rfl rfl rfl ?_
  refine w_aload (i := 0) (npc := 334) (v := (6, 0, 0)) rfl rfl rfl ?_
  refine w_iload (i := 4) (npc := 336) rfl rfl ?_
  refine w_const (n := 1) (npc := 337) rfl ?_
  refine w_iadd (npc := 338) rfl (by omega) ?_
  obtain ⟨hx37, hx37a, hx37b⟩ := hx (i + 1 : Int).toNat (by omega)
  refine w_scr (npc := 339) (v := ai_i (sv (i + 1 : Int).toNat)) rfl rfl (by omega) hx37 ?_
  refine w_aload (i := 0) (npc := 340) (v := (6, 0, 0)) rfl rfl rfl ?_
  refine w_iload (i := 4) (npc := 342) rfl rfl ?_
  refine w_const (n := 2) (npc := 343) rfl ?_
  refine w_iadd (npc := 344) rfl (by omega) ?_
  obtain ⟨hx39, hx39a, hx39b⟩ := hx (i + 2 : Int).toNat (by omega)
  refine w_scr (npc := 345) (v := ai_i (sv (i + 2 : Int).toNat)) rfl rfl (by omega) hx39 ?_
  refine w_aload (i := 0) (npc := 346) (v := (6, 0, 0)) rfl rfl rfl ?_
  refine w_iload (i := 4) (npc := 348) rfl rfl ?_
  refine w_const (n := 3) (npc := 349) rfl ?_
  refine w_iadd (npc := 350) rfl (by omega) ?_
  obtain ⟨hx41, hx41a, hx41b⟩ := hx (i + 3 : Int).toNat (by omega)
  refine w_scr (npc := 351) (v := ai_i (sv (i + 3 : Int).toNat)) rfl rfl (by omega) hx41 ?_
  refine w_aload (i := 0) (npc := 352) (v := (6, 0, 0)) rfl rfl rfl ?_
  refine w_iload (i := 4) (npc := 354) rfl rfl ?_
  refine w_const (n := 4) (npc := 355) rfl ?_
  refine w_iadd (npc := 356) rfl (by omega) ?_
  obtain ⟨hx43, hx43a, hx43b⟩ := hx (i + 4 : Int).toNat (by omega)
  refine w_scr (npc := 357) (v := ai_i (sv (i + 4 : Int).toNat)) rfl rfl (by omega) hx43 ?_
  refine w_virt (ci := 8) (i := 81) (npc := 360) (a := [cr 81, ai_i (sv (i + 1 : Int).toNat), ai_i (sv (i + 2 : Int).toNat), ai_i (sv (i + 3 : Int).toNat), ai_i (sv (i + 4 : Int).toNat)]) (rest := []) rfl rfl (hI22.pl (by decide)) (hI22.T (by decide) rfl) rfl rfl rfl rfl (ct_m_step (sl := sl) (x := x) (d := d + 12) (sv (i + 1 : Int).toNat) (sv (i + 2 : Int).toNat) (sv (i + 3 : Int).toNat) (sv (i + 4 : Int).toNat) hI22 hR25 (by omega) (by omega) (by omega) (by omega)) (Or.inl rfl) (fun k9 v9 T45 E45 nx45 kc45 ks45 hq44 hk45 hv45 => ?_)
  obtain ⟨rfl, rfl, rfl, hI47, hG48, hRz46, z46, rfl, hz46⟩ := hq44
  obtain rfl : kc20 = kc45 := by omega
  obtain rfl : ks20 = ks45 := by omega
  have hN50 := hN24.fr hG48 (by intro i k h; (try simp only at h); omega)
  have hz51 : E45 0 10 = ai_i z1 := (hG48 0 10 (by first | omega | (simp; done) | (simp; omega) | (simp only; omega))).trans hz26
  have ghz51 := gv_eq hz51
  have hz52 : E45 0 11 = ai_i z2 := (hG48 0 11 (by first | omega | (simp; done) | (simp; omega) | (simp only; omega))).trans hz27
  have ghz52 := gv_eq hz52
  have hz53 : E45 0 14 = ai_i z3 := (hG48 0 14 (by first | omega | (simp; done) | (simp; omega) | (simp only; omega))).trans hz28
  have ghz53 := gv_eq hz53
  have hz54 : E45 23 8 = ai_i z4 := (hG48 23 8 (by first | omega | (simp; done) | (simp; omega) | (simp only; omega))).trans hz29
  have ghz54 := gv_eq hz54
  have hz55 : E45 23 9 = ai_i z5 := (hG48 23 9 (by first | omega | (simp; done) | (simp; omega) | (simp only; omega))).trans hz30
  have ghz55 := gv_eq hz55
  have hz56 : E45 81 1 = ai_i z6 := (hG48 81 1 (by first | omega | (simp; done) | (simp; omega) | (simp only; omega))).trans hz31
  have ghz56 := gv_eq hz56
  have hz57 : E45 81 17 = ai_i z7 := (hG48 81 17 (by first | omega | (simp; done) | (simp; omega) | (simp only; omega))).trans hz32
  have ghz57 := gv_eq hz57
  have hz58 : E45 81 34 = ai_i z8 := (hG48 81 34 (by first | omega | (simp; done) | (simp; omega) | (simp only; omega))).trans hz33
  have ghz58 := gv_eq hz58
  have hz59 : E45 81 23 = ai_i z9 := (hG48 81 23 (by first | omega | (simp; done) | (simp; omega) | (simp only; omega))).trans hz34
  have ghz59 := gv_eq hz59
  have hz60 : E45 81 24 = ai_i z10 := (hG48 81 24 (by first | omega | (simp; done) | (simp; omega) | (simp only; omega))).trans hz35
  have ghz60 := gv_eq hz60
  refine Or.inr (Or.inl ⟨rfl, ?_⟩)
  refine w_istore (i := 6) (npc := 362) (loc' := [(6, 0, 0), cr 0, cr 81, cr 104, ai_i i, ai_i z21, ai_i z46]) rfl rfl ?_
  refine w_goto (pt := 1164) rfl ?_
  exact next (ai_i z21) (ai_i z46) T20 E45 nx20 kc20 ks20 hI47 hN50 hRz46 (by omega) (by omega) (by omega) (by omega)
set_option maxRecDepth 16384 in
theorem law_c5 {sl : Int × Int} {x : ai_E} {d A B : Nat} {T : cm_T} {E : cm_E} {nx kc ks : Nat} {L : Int} {sv : Nat → Int} (hsl : sl.1 = L) (hx : ∀ k : Nat, (k : Int) < L → ai_sv x k = ai_i (sv k) ∧ -2147483648 ≤ sv k ∧ sv k ≤ 2147483647) {i : Int} (hi : 0 ≤ i ∧ i + 6 ≤ L ∧ L ≤ 384) (hnx : nx ≤ 1000) (hA : kc + 20 ≤ A) (hB : ks + 2000 ≤ B) (u5 u6 : ai_V) (hI : cs_I T E nx) (hN : hn E) (hR : rl E) (hJ : gv E 0 10 = gv E 81 1 ∧ gv E 0 11 = gv E 81 17 ∧ gv E 0 14 = gv E 81 34 ∧ gv E 23 8 = gv E 81 23 ∧ gv E 23 9 = gv E 81 24)
    (next : ∀ (v5 v6 : ai_V) (T' : cm_T) (E' : cm_E) (nx' kc' ks' : Nat), cs_I T' E' nx' → hn E' → rl E' → (gv E' 0 10 = gv E' 81 1 ∧ gv E' 0 11 = gv E' 81 17 ∧ gv E' 0 14 = gv E' 81 34 ∧ gv E' 23 8 = gv E' 81 23 ∧ gv E' 23 9 = gv E' 81 24) → nx' ≤ nx + 2 → (kc ≤ kc' ∧ kc' ≤ kc + 10) → (ks ≤ ks' ∧ ks' ≤ ks + 500) → cm_wp (ai_find ai_c0 sl) (ai_ev sl (d + 20)) x A B (fun rk rv T' E' nx' => rk = 1 ∧ rv = ai_i 1) 1164 [(6, 0, 0), cr 0, cr 81, cr 104, ai_i i, v5, v6] [] T' E' nx' kc' ks') : cm_wp (ai_find ai_c0 sl) (ai_ev sl (d + 20)) x A B (fun rk rv T' E' nx' => rk = 1 ∧ rv = ai_i 1) 365 [(6, 0, 0), cr 0, cr 81, cr 104, ai_i i, u5, u6] [] T E nx kc ks := by
  obtain ⟨z1, hz1, hz1a, hz1b⟩ := hI.int 0 10 (lo := 1) (hi := 5) (by decide) (by decide) rfl
  have ghz1 := gv_eq hz1
  obtain ⟨z2, hz2, hz2a, hz2b⟩ := hI.int 0 11 (lo := 0) (hi := 400) (by decide) (by decide) rfl
  have ghz2 := gv_eq hz2
  obtain ⟨z3, hz3, hz3a, hz3b⟩ := hI.int 0 14 (lo := 0) (hi := 1) (by decide) (by decide) rfl
  have ghz3 := gv_eq hz3
  obtain ⟨z4, hz4, hz4a, hz4b⟩ := hI.int 23 8 (lo := 0) (hi := 12) (by decide) (by decide) rfl
  have ghz4 := gv_eq hz4
  obtain ⟨z5, hz5, hz5a, hz5b⟩ := hI.int 23 9 (lo := 0) (hi := 8) (by decide) (by decide) rfl
  have ghz5 := gv_eq hz5
  obtain ⟨z6, hz6, hz6a, hz6b⟩ := hI.int 81 1 (lo := 1) (hi := 5) (by decide) (by decide) rfl
  have ghz6 := gv_eq hz6
  obtain ⟨z7, hz7, hz7a, hz7b⟩ := hI.int 81 17 (lo := 0) (hi := 400) (by decide) (by decide) rfl
  have ghz7 := gv_eq hz7
  obtain ⟨z8, hz8, hz8a, hz8b⟩ := hI.int 81 34 (lo := 0) (hi := 1) (by decide) (by decide) rfl
  have ghz8 := gv_eq hz8
  obtain ⟨z9, hz9, hz9a, hz9b⟩ := hI.int 81 23 (lo := 0) (hi := 12) (by decide) (by decide) rfl
  have ghz9 := gv_eq hz9
  obtain ⟨z10, hz10, hz10a, hz10b⟩ := hI.int 81 24 (lo := 0) (hi := 8) (by decide) (by decide) rfl
  have ghz10 := gv_eq hz10
  refine w_aload (i := 1) (npc := 366) (v := cr 0) rfl rfl rfl ?_
  refine w_aload (i := 0) (npc := 367) (v := (6, 0, 0)) rfl rfl rfl ?_
  refine w_iload (i := 4) (npc := 369) rfl rfl ?_
  refine w_const (n := 1) (npc := 370) rfl ?_
  refine w_iadd (npc := 371) rfl (by omega) ?_
  obtain ⟨hx12, hx12a, hx12b⟩ := hx (i + 1 : Int).toNat (by omega)
  refine w_scr (npc := 372) (v := ai_i (sv (i + 1 : Int).toNat)) rfl rfl (by omega) hx12 ?_
  refine w_aload (i := 0) (npc := 373) (v := (6, 0, 0)) rfl rfl rfl ?_
  refine w_iload (i := 4) (npc := 375) rfl rfl ?_
  refine w_const (n := 2) (npc := 376) rfl ?_
  refine w_iadd (npc := 377) rfl (by omega) ?_
  obtain ⟨hx14, hx14a, hx14b⟩ := hx (i + 2 : Int).toNat (by omega)
  refine w_scr (npc := 378) (v := ai_i (sv (i + 2 : Int).toNat)) rfl rfl (by omega) hx14 ?_
  refine w_aload (i := 0) (npc := 379) (v := (6, 0, 0)) rfl rfl rfl ?_
  refine w_iload (i := 4) (npc := 381) rfl rfl ?_
  refine w_const (n := 3) (npc := 382) rfl ?_
  refine w_iadd (npc := 383) rfl (by omega) ?_
  obtain ⟨hx16, hx16a, hx16b⟩ := hx (i + 3 : Int).toNat (by omega)
  refine w_scr (npc := 384) (v := ai_i (sv (i + 3 : Int).toNat)) rfl rfl (by omega) hx16 ?_
  refine w_aload (i := 3) (npc := 385) (v := cr 104) rfl rfl rfl ?_
  refine w_call (npc := 388) (a := [cr 0, ai_i (sv (i + 1 : Int).toNat), ai_i (sv (i + 2 : Int).toNat), ai_i (sv (i + 3 : Int).toNat), cr 104]) (rest := []) rfl rfl rfl rfl rfl (ct_lw_set (sl := sl) (x := x) (d := d + 11) (sv (i + 1 : Int).toNat) (sv (i + 2 : Int).toNat) (sv (i + 3 : Int).toNat) hI hN (by omega)) (Or.inr (fun _ _ _ _ _ hq => by have h1 := hq.1; omega)) (fun k9 v9 T18 E18 nx18 kc18 ks18 hq17 hk18 hv18 => ?_)
  obtain ⟨rfl, hnxz19, hnyz19, hI20, hG21, hN22, z19, rfl, hz19⟩ := hq17
  have hR23 := rl.fr hR hG21 (by intro i k h; (try simp only at h); omega)
  have hz24 : E18 0 10 = ai_i z1 := (hG21 0 10 (by first | omega | (simp; done) | (simp; omega) | (simp only; omega))).trans hz1
  have ghz24 := gv_eq hz24
  have hz25 : E18 0 11 = ai_i z2 := (hG21 0 11 (by first | omega | (simp; done) | (simp; omega) | (simp only; omega))).trans hz2
  have ghz25 := gv_eq hz25
  have hz26 : E18 0 14 = ai_i z3 := (hG21 0 14 (by first | omega | (simp; done) | (simp; omega) | (simp only; omega))).trans hz3
  have ghz26 := gv_eq hz26
  have hz27 : E18 23 8 = ai_i z4 := (hG21 23 8 (by first | omega | (simp; done) | (simp; omega) | (simp only; omega))).trans hz4
  have ghz27 := gv_eq hz27
  have hz28 : E18 23 9 = ai_i z5 := (hG21 23 9 (by first | omega | (simp; done) | (simp; omega) | (simp only; omega))).trans hz5
  have ghz28 := gv_eq hz28
  have hz29 : E18 81 1 = ai_i z6 := (hG21 81 1 (by first | omega | (simp; done) | (simp; omega) | (simp only; omega))).trans hz6
  have ghz29 := gv_eq hz29
  have hz30 : E18 81 17 = ai_i z7 := (hG21 81 17 (by first | omega | (simp; done) | (simp; omega) | (simp only; omega))).trans hz7
  have ghz30 := gv_eq hz30
  have hz31 : E18 81 34 = ai_i z8 := (hG21 81 34 (by first | omega | (simp; done) | (simp; omega) | (simp only; omega))).trans hz8
  have ghz31 := gv_eq hz31
  have hz32 : E18 81 23 = ai_i z9 := (hG21 81 23 (by first | omega | (simp; done) | (simp; omega) | (simp only; omega))).trans hz9
  have ghz32 := gv_eq hz32
  have hz33 : E18 81 24 = ai_i z10 := (hG21 81 24 (by first | omega | (simp; done) | (simp; omega) | (simp only; omega))).trans hz10
  have ghz33 := gv_eq hz33
  refine Or.inr (Or.inl ⟨rfl, ?_⟩)
  refine w_istore (i := 5) (npc := 390) (loc' := [(6, 0, 0), cr 0, cr 81, cr 104, ai_i i, ai_i z19, u6]) rfl rfl ?_
  refine w_aload (i := 2) (npc := 391) (v := cr 81) rfl rfl rfl ?_
  refine w_aload (i := 0) (npc := 392) (v := (6, 0, 0)) rfl rfl rfl ?_
  refine w_iload (i := 4) (npc := 394) rfl rfl ?_
  refine w_const (n := 1) (npc := 395) rfl ?_
  refine w_iadd (npc := 396) rfl (by omega) ?_
  obtain ⟨hx35, hx35a, hx35b⟩ := hx (i + 1 : Int).toNat (by omega)
  refine w_scr (npc := 397) (v := ai_i (sv (i + 1 : Int).toNat)) rfl rfl (by omega) hx35 ?_
  refine w_aload (i := 0) (npc := 398) (v := (6, 0, 0)) rfl rfl rfl ?_
  refine w_iload (i := 4) (npc := 400) rfl rfl ?_
  refine w_const (n := 2) (npc := 401) rfl ?_
  refine w_iadd (npc := 402) rfl (by omega) ?_
  obtain ⟨hx37, hx37a, hx37b⟩ := hx (i + 2 : Int).toNat (by omega)
  refine w_scr (npc := 403) (v := ai_i (sv (i + 2 : Int).toNat)) rfl rfl (by omega) hx37 ?_
  refine w_aload (i := 0) (npc := 404) (v := (6, 0, 0)) rfl rfl rfl ?_
  refine w_iload (i := 4) (npc := 406) rfl rfl ?_
  refine w_const (n := 3) (npc := 407) rfl ?_
  refine w_iadd (npc := 408) rfl (by omega) ?_
  obtain ⟨hx39, hx39a, hx39b⟩ := hx (i + 3 : Int).toNat (by omega)
  refine w_scr (npc := 409) (v := ai_i (sv (i + 3 : Int).toNat)) rfl rfl (by omega) hx39 ?_
  refine w_virt (ci := 8) (i := 81) (npc := 412) (a := [cr 81, ai_i (sv (i + 1 : Int).toNat), ai_i (sv (i + 2 : Int).toNat), ai_i (sv (i + 3 : Int).toNat)]) (rest := []) rfl rfl (hI20.pl (by decide)) (hI20.T (by decide) rfl) rfl rfl rfl rfl (ct_m_set (sl := sl) (x := x) (d := d + 12) (sv (i + 1 : Int).toNat) (sv (i + 2 : Int).toNat) (sv (i + 3 : Int).toNat) hI20 hR23) (Or.inl rfl) (fun k9 v9 T41 E41 nx41 kc41 ks41 hq40 hk41 hv41 => ?_)
  obtain ⟨rfl, rfl, rfl, hI43, hG44, hRz42, z42, rfl, hz42⟩ := hq40
  obtain rfl : kc18 = kc41 := by omega
  obtain rfl : ks18 = ks41 := by omega
  have hN46 := hN22.fr hG44 (by intro i k h; (try simp only at h); omega)
  have hz47 : E41 0 10 = ai_i z1 := (hG44 0 10 (by first | omega | (simp; done) | (simp; omega) | (simp only; omega))).trans hz24
  have ghz47 := gv_eq hz47
  have hz48 : E41 0 11 = ai_i z2 := (hG44 0 11 (by first | omega | (simp; done) | (simp; omega) | (simp only; omega))).trans hz25
  have ghz48 := gv_eq hz48
  have hz49 : E41 0 14 = ai_i z3 := (hG44 0 14 (by first | omega | (simp; done) | (simp; omega) | (simp only; omega))).trans hz26
  have ghz49 := gv_eq hz49
  have hz50 : E41 23 8 = ai_i z4 := (hG44 23 8 (by first | omega | (simp; done) | (simp; omega) | (simp only; omega))).trans hz27
  have ghz50 := gv_eq hz50
  have hz51 : E41 23 9 = ai_i z5 := (hG44 23 9 (by first | omega | (simp; done) | (simp; omega) | (simp only; omega))).trans hz28
  have ghz51 := gv_eq hz51
  have hz52 : E41 81 1 = ai_i z6 := (hG44 81 1 (by first | omega | (simp; done) | (simp; omega) | (simp only; omega))).trans hz29
  have ghz52 := gv_eq hz52
  have hz53 : E41 81 17 = ai_i z7 := (hG44 81 17 (by first | omega | (simp; done) | (simp; omega) | (simp only; omega))).trans hz30
  have ghz53 := gv_eq hz53
  have hz54 : E41 81 34 = ai_i z8 := (hG44 81 34 (by first | omega | (simp; done) | (simp; omega) | (simp only; omega))).trans hz31
  have ghz54 := gv_eq hz54
  have hz55 : E41 81 23 = ai_i z9 := (hG44 81 23 (by first | omega | (simp; done) | (simp; omega) | (simp only; omega))).trans hz32
  have ghz55 := gv_eq hz55
  have hz56 : E41 81 24 = ai_i z10 := (hG44 81 24 (by first | omega | (simp; done) | (simp; omega) | (simp only; omega))).trans hz33
  have ghz56 := gv_eq hz56
  refine Or.inr (Or.inl ⟨rfl, ?_⟩)
  refine w_istore (i := 6) (npc := 414) (loc' := [(6, 0, 0), cr 0, cr 81, cr 104, ai_i i, ai_i z19, ai_i z42]) rfl rfl ?_
  refine w_goto (pt := 1164) rfl ?_
  exact next (ai_i z19) (ai_i z42) T18 E41 nx18 kc18 ks18 hI43 hN46 hRz42 (by omega) (by omega) (by omega) (by omega)
set_option maxRecDepth 16384 in
theorem law_c6 {sl : Int × Int} {x : ai_E} {d A B : Nat} {T : cm_T} {E : cm_E} {nx kc ks : Nat} {L : Int} {sv : Nat → Int} (hsl : sl.1 = L) (hx : ∀ k : Nat, (k : Int) < L → ai_sv x k = ai_i (sv k) ∧ -2147483648 ≤ sv k ∧ sv k ≤ 2147483647) {i : Int} (hi : 0 ≤ i ∧ i + 6 ≤ L ∧ L ≤ 384) (hnx : nx ≤ 1000) (hA : kc + 20 ≤ A) (hB : ks + 2000 ≤ B) (u5 u6 : ai_V) (hI : cs_I T E nx) (hN : hn E) (hR : rl E) (hJ : gv E 0 10 = gv E 81 1 ∧ gv E 0 11 = gv E 81 17 ∧ gv E 0 14 = gv E 81 34 ∧ gv E 23 8 = gv E 81 23 ∧ gv E 23 9 = gv E 81 24)
    (next : ∀ (v5 v6 : ai_V) (T' : cm_T) (E' : cm_E) (nx' kc' ks' : Nat), cs_I T' E' nx' → hn E' → rl E' → (gv E' 0 10 = gv E' 81 1 ∧ gv E' 0 11 = gv E' 81 17 ∧ gv E' 0 14 = gv E' 81 34 ∧ gv E' 23 8 = gv E' 81 23 ∧ gv E' 23 9 = gv E' 81 24) → nx' ≤ nx + 2 → (kc ≤ kc' ∧ kc' ≤ kc + 10) → (ks ≤ ks' ∧ ks' ≤ ks + 500) → cm_wp (ai_find ai_c0 sl) (ai_ev sl (d + 20)) x A B (fun rk rv T' E' nx' => rk = 1 ∧ rv = ai_i 1) 1164 [(6, 0, 0), cr 0, cr 81, cr 104, ai_i i, v5, v6] [] T' E' nx' kc' ks') : cm_wp (ai_find ai_c0 sl) (ai_ev sl (d + 20)) x A B (fun rk rv T' E' nx' => rk = 1 ∧ rv = ai_i 1) 417 [(6, 0, 0), cr 0, cr 81, cr 104, ai_i i, u5, u6] [] T E nx kc ks := by
  obtain ⟨z1, hz1, hz1a, hz1b⟩ := hI.int 0 10 (lo := 1) (hi := 5) (by decide) (by decide) rfl
  have ghz1 := gv_eq hz1
  obtain ⟨z2, hz2, hz2a, hz2b⟩ := hI.int 0 11 (lo := 0) (hi := 400) (by decide) (by decide) rfl
  have ghz2 := gv_eq hz2
  obtain ⟨z3, hz3, hz3a, hz3b⟩ := hI.int 0 14 (lo := 0) (hi := 1) (by decide) (by decide) rfl
  have ghz3 := gv_eq hz3
  obtain ⟨z4, hz4, hz4a, hz4b⟩ := hI.int 23 8 (lo := 0) (hi := 12) (by decide) (by decide) rfl
  have ghz4 := gv_eq hz4
  obtain ⟨z5, hz5, hz5a, hz5b⟩ := hI.int 23 9 (lo := 0) (hi := 8) (by decide) (by decide) rfl
  have ghz5 := gv_eq hz5
  obtain ⟨z6, hz6, hz6a, hz6b⟩ := hI.int 81 1 (lo := 1) (hi := 5) (by decide) (by decide) rfl
  have ghz6 := gv_eq hz6
  obtain ⟨z7, hz7, hz7a, hz7b⟩ := hI.int 81 17 (lo := 0) (hi := 400) (by decide) (by decide) rfl
  have ghz7 := gv_eq hz7
  obtain ⟨z8, hz8, hz8a, hz8b⟩ := hI.int 81 34 (lo := 0) (hi := 1) (by decide) (by decide) rfl
  have ghz8 := gv_eq hz8
  obtain ⟨z9, hz9, hz9a, hz9b⟩ := hI.int 81 23 (lo := 0) (hi := 12) (by decide) (by decide) rfl
  have ghz9 := gv_eq hz9
  obtain ⟨z10, hz10, hz10a, hz10b⟩ := hI.int 81 24 (lo := 0) (hi := 8) (by decide) (by decide) rfl
  have ghz10 := gv_eq hz10
  refine w_aload (i := 1) (npc := 418) (v := cr 0) rfl rfl rfl ?_
  refine w_aload (i := 0) (npc := 419) (v := (6, 0, 0)) rfl rfl rfl ?_
  refine w_iload (i := 4) (npc := 421) rfl rfl ?_
  refine w_const (n := 1) (npc := 422) rfl ?_
  refine w_iadd (npc := 423) rfl (by omega) ?_
  obtain ⟨hx12, hx12a, hx12b⟩ := hx (i + 1 : Int).toNat (by omega)
  refine w_scr (npc := 424) (v := ai_i (sv (i + 1 : Int).toNat)) rfl rfl (by omega) hx12 ?_
  refine w_aload (i := 0) (npc := 425) (v := (6, 0, 0)) rfl rfl rfl ?_
  refine w_iload (i := 4) (npc := 427) rfl rfl ?_
  refine w_const (n := 2) (npc := 428) rfl ?_
  refine w_iadd (npc := 429) rfl (by omega) ?_
  obtain ⟨hx14, hx14a, hx14b⟩ := hx (i + 2 : Int).toNat (by omega)
  refine w_scr (npc := 430) (v := ai_i (sv (i + 2 : Int).toNat)) rfl rfl (by omega) hx14 ?_
  refine w_aload (i := 3) (npc := 431) (v := cr 104) rfl rfl rfl ?_
  refine w_call (npc := 434) (a := [cr 0, ai_i (sv (i + 1 : Int).toNat), ai_i (sv (i + 2 : Int).toNat), cr 104]) (rest := []) rfl rfl rfl rfl rfl (ct_lw_strike (sl := sl) (x := x) (d := d + 11) (sv (i + 1 : Int).toNat) (sv (i + 2 : Int).toNat) hI hN (by omega)) (Or.inr (fun _ _ _ _ _ hq => by have h1 := hq.1; omega)) (fun k9 v9 T16 E16 nx16 kc16 ks16 hq15 hk16 hv16 => ?_)
  obtain ⟨rfl, hnxz17, hnyz17, hI18, hG19, hN20, z17, rfl, hz17⟩ := hq15
  have hR21 := rl.fr hR hG19 (by intro i k h; (try simp only at h); omega)
  have hz22 : E16 0 10 = ai_i z1 := (hG19 0 10 (by first | omega | (simp; done) | (simp; omega) | (simp only; omega))).trans hz1
  have ghz22 := gv_eq hz22
  have hz23 : E16 0 11 = ai_i z2 := (hG19 0 11 (by first | omega | (simp; done) | (simp; omega) | (simp only; omega))).trans hz2
  have ghz23 := gv_eq hz23
  have hz24 : E16 0 14 = ai_i z3 := (hG19 0 14 (by first | omega | (simp; done) | (simp; omega) | (simp only; omega))).trans hz3
  have ghz24 := gv_eq hz24
  have hz25 : E16 23 8 = ai_i z4 := (hG19 23 8 (by first | omega | (simp; done) | (simp; omega) | (simp only; omega))).trans hz4
  have ghz25 := gv_eq hz25
  have hz26 : E16 23 9 = ai_i z5 := (hG19 23 9 (by first | omega | (simp; done) | (simp; omega) | (simp only; omega))).trans hz5
  have ghz26 := gv_eq hz26
  have hz27 : E16 81 1 = ai_i z6 := (hG19 81 1 (by first | omega | (simp; done) | (simp; omega) | (simp only; omega))).trans hz6
  have ghz27 := gv_eq hz27
  have hz28 : E16 81 17 = ai_i z7 := (hG19 81 17 (by first | omega | (simp; done) | (simp; omega) | (simp only; omega))).trans hz7
  have ghz28 := gv_eq hz28
  have hz29 : E16 81 34 = ai_i z8 := (hG19 81 34 (by first | omega | (simp; done) | (simp; omega) | (simp only; omega))).trans hz8
  have ghz29 := gv_eq hz29
  have hz30 : E16 81 23 = ai_i z9 := (hG19 81 23 (by first | omega | (simp; done) | (simp; omega) | (simp only; omega))).trans hz9
  have ghz30 := gv_eq hz30
  have hz31 : E16 81 24 = ai_i z10 := (hG19 81 24 (by first | omega | (simp; done) | (simp; omega) | (simp only; omega))).trans hz10
  have ghz31 := gv_eq hz31
  refine Or.inr (Or.inl ⟨rfl, ?_⟩)
  refine w_istore (i := 5) (npc := 436) (loc' := [(6, 0, 0), cr 0, cr 81, cr 104, ai_i i, ai_i z17, u6]) rfl rfl ?_
  refine w_aload (i := 2) (npc := 437) (v := cr 81) rfl rfl rfl ?_
  refine w_aload (i := 0) (npc := 438) (v := (6, 0, 0)) rfl rfl rfl ?_
  refine w_iload (i := 4) (npc := 440) rfl rfl ?_
  refine w_const (n := 1) (npc := 441) rfl ?_
  refine w_iadd (npc := 442) rfl (by omega) ?_
  obtain ⟨hx33, hx33a, hx33b⟩ := hx (i + 1 : Int).toNat (by omega)
  refine w_scr (npc := 443) (v := ai_i (sv (i + 1 : Int).toNat)) rfl rfl (by omega) hx33 ?_
  refine w_aload (i := 0) (npc := 444) (v := (6, 0, 0)) rfl rfl rfl ?_
  refine w_iload (i := 4) (npc := 446) rfl rfl ?_
  refine w_const (n := 2) (npc := 447) rfl ?_
  refine w_iadd (npc := 448) rfl (by omega) ?_
  obtain ⟨hx35, hx35a, hx35b⟩ := hx (i + 2 : Int).toNat (by omega)
  refine w_scr (npc := 449) (v := ai_i (sv (i + 2 : Int).toNat)) rfl rfl (by omega) hx35 ?_
  refine w_virt (ci := 8) (i := 81) (npc := 452) (a := [cr 81, ai_i (sv (i + 1 : Int).toNat), ai_i (sv (i + 2 : Int).toNat)]) (rest := []) rfl rfl (hI18.pl (by decide)) (hI18.T (by decide) rfl) rfl rfl rfl rfl (ct_m_strike (sl := sl) (x := x) (d := d + 12) (sv (i + 1 : Int).toNat) (sv (i + 2 : Int).toNat) hI18 hR21) (Or.inl rfl) (fun k9 v9 T37 E37 nx37 kc37 ks37 hq36 hk37 hv37 => ?_)
  obtain ⟨rfl, rfl, rfl, hI39, hG40, hRz38, z38, rfl, hz38⟩ := hq36
  obtain rfl : kc16 = kc37 := by omega
  obtain rfl : ks16 = ks37 := by omega
  have hN42 := hN20.fr hG40 (by intro i k h; (try simp only at h); omega)
  have hz43 : E37 0 10 = ai_i z1 := (hG40 0 10 (by first | omega | (simp; done) | (simp; omega) | (simp only; omega))).trans hz22
  have ghz43 := gv_eq hz43
  have hz44 : E37 0 11 = ai_i z2 := (hG40 0 11 (by first | omega | (simp; done) | (simp; omega) | (simp only; omega))).trans hz23
  have ghz44 := gv_eq hz44
  have hz45 : E37 0 14 = ai_i z3 := (hG40 0 14 (by first | omega | (simp; done) | (simp; omega) | (simp only; omega))).trans hz24
  have ghz45 := gv_eq hz45
  have hz46 : E37 23 8 = ai_i z4 := (hG40 23 8 (by first | omega | (simp; done) | (simp; omega) | (simp only; omega))).trans hz25
  have ghz46 := gv_eq hz46
  have hz47 : E37 23 9 = ai_i z5 := (hG40 23 9 (by first | omega | (simp; done) | (simp; omega) | (simp only; omega))).trans hz26
  have ghz47 := gv_eq hz47
  have hz48 : E37 81 1 = ai_i z6 := (hG40 81 1 (by first | omega | (simp; done) | (simp; omega) | (simp only; omega))).trans hz27
  have ghz48 := gv_eq hz48
  have hz49 : E37 81 17 = ai_i z7 := (hG40 81 17 (by first | omega | (simp; done) | (simp; omega) | (simp only; omega))).trans hz28
  have ghz49 := gv_eq hz49
  have hz50 : E37 81 34 = ai_i z8 := (hG40 81 34 (by first | omega | (simp; done) | (simp; omega) | (simp only; omega))).trans hz29
  have ghz50 := gv_eq hz50
  have hz51 : E37 81 23 = ai_i z9 := (hG40 81 23 (by first | omega | (simp; done) | (simp; omega) | (simp only; omega))).trans hz30
  have ghz51 := gv_eq hz51
  have hz52 : E37 81 24 = ai_i z10 := (hG40 81 24 (by first | omega | (simp; done) | (simp; omega) | (simp only; omega))).trans hz31
  have ghz52 := gv_eq hz52
  refine Or.inr (Or.inl ⟨rfl, ?_⟩)
  refine w_istore (i := 6) (npc := 454) (loc' := [(6, 0, 0), cr 0, cr 81, cr 104, ai_i i, ai_i z17, ai_i z38]) rfl rfl ?_
  refine w_goto (pt := 1164) rfl ?_
  exact next (ai_i z17) (ai_i z38) T16 E37 nx16 kc16 ks16 hI39 hN42 hRz38 (by omega) (by omega) (by omega) (by omega)
set_option maxRecDepth 16384 in
theorem law_c7 {sl : Int × Int} {x : ai_E} {d A B : Nat} {T : cm_T} {E : cm_E} {nx kc ks : Nat} {L : Int} {sv : Nat → Int} (hsl : sl.1 = L) (hx : ∀ k : Nat, (k : Int) < L → ai_sv x k = ai_i (sv k) ∧ -2147483648 ≤ sv k ∧ sv k ≤ 2147483647) {i : Int} (hi : 0 ≤ i ∧ i + 6 ≤ L ∧ L ≤ 384) (hnx : nx ≤ 1000) (hA : kc + 20 ≤ A) (hB : ks + 2000 ≤ B) (u5 u6 : ai_V) (hI : cs_I T E nx) (hN : hn E) (hR : rl E) (hJ : gv E 0 10 = gv E 81 1 ∧ gv E 0 11 = gv E 81 17 ∧ gv E 0 14 = gv E 81 34 ∧ gv E 23 8 = gv E 81 23 ∧ gv E 23 9 = gv E 81 24)
    (next : ∀ (v5 v6 : ai_V) (T' : cm_T) (E' : cm_E) (nx' kc' ks' : Nat), cs_I T' E' nx' → hn E' → rl E' → (gv E' 0 10 = gv E' 81 1 ∧ gv E' 0 11 = gv E' 81 17 ∧ gv E' 0 14 = gv E' 81 34 ∧ gv E' 23 8 = gv E' 81 23 ∧ gv E' 23 9 = gv E' 81 24) → nx' ≤ nx + 2 → (kc ≤ kc' ∧ kc' ≤ kc + 10) → (ks ≤ ks' ∧ ks' ≤ ks + 500) → cm_wp (ai_find ai_c0 sl) (ai_ev sl (d + 20)) x A B (fun rk rv T' E' nx' => rk = 1 ∧ rv = ai_i 1) 1164 [(6, 0, 0), cr 0, cr 81, cr 104, ai_i i, v5, v6] [] T' E' nx' kc' ks') : cm_wp (ai_find ai_c0 sl) (ai_ev sl (d + 20)) x A B (fun rk rv T' E' nx' => rk = 1 ∧ rv = ai_i 1) 457 [(6, 0, 0), cr 0, cr 81, cr 104, ai_i i, u5, u6] [] T E nx kc ks := by
  obtain ⟨z1, hz1, hz1a, hz1b⟩ := hI.int 0 10 (lo := 1) (hi := 5) (by decide) (by decide) rfl
  have ghz1 := gv_eq hz1
  obtain ⟨z2, hz2, hz2a, hz2b⟩ := hI.int 0 11 (lo := 0) (hi := 400) (by decide) (by decide) rfl
  have ghz2 := gv_eq hz2
  obtain ⟨z3, hz3, hz3a, hz3b⟩ := hI.int 0 14 (lo := 0) (hi := 1) (by decide) (by decide) rfl
  have ghz3 := gv_eq hz3
  obtain ⟨z4, hz4, hz4a, hz4b⟩ := hI.int 23 8 (lo := 0) (hi := 12) (by decide) (by decide) rfl
  have ghz4 := gv_eq hz4
  obtain ⟨z5, hz5, hz5a, hz5b⟩ := hI.int 23 9 (lo := 0) (hi := 8) (by decide) (by decide) rfl
  have ghz5 := gv_eq hz5
  obtain ⟨z6, hz6, hz6a, hz6b⟩ := hI.int 81 1 (lo := 1) (hi := 5) (by decide) (by decide) rfl
  have ghz6 := gv_eq hz6
  obtain ⟨z7, hz7, hz7a, hz7b⟩ := hI.int 81 17 (lo := 0) (hi := 400) (by decide) (by decide) rfl
  have ghz7 := gv_eq hz7
  obtain ⟨z8, hz8, hz8a, hz8b⟩ := hI.int 81 34 (lo := 0) (hi := 1) (by decide) (by decide) rfl
  have ghz8 := gv_eq hz8
  obtain ⟨z9, hz9, hz9a, hz9b⟩ := hI.int 81 23 (lo := 0) (hi := 12) (by decide) (by decide) rfl
  have ghz9 := gv_eq hz9
  obtain ⟨z10, hz10, hz10a, hz10b⟩ := hI.int 81 24 (lo := 0) (hi := 8) (by decide) (by decide) rfl
  have ghz10 := gv_eq hz10
  refine w_aload (i := 1) (npc := 458) (v := cr 0) rfl rfl rfl ?_
  refine w_aload (i := 0) (npc := 459) (v := (6, 0, 0)) rfl rfl rfl ?_
  refine w_iload (i := 4) (npc := 461) rfl rfl ?_
  refine w_const (n := 1) (npc := 462) rfl ?_
  refine w_iadd (npc := 463) rfl (by omega) ?_
  obtain ⟨hx12, hx12a, hx12b⟩ := hx (i + 1 : Int).toNat (by omega)
  refine w_scr (npc := 464) (v := ai_i (sv (i + 1 : Int).toNat)) rfl rfl (by omega) hx12 ?_
  refine w_aload (i := 0) (npc := 465) (v := (6, 0, 0)) rfl rfl rfl ?_
  refine w_iload (i := 4) (npc := 467) rfl rfl ?_
  refine w_const (n := 2) (npc := 468) rfl ?_
  refine w_iadd (npc := 469) rfl (by omega) ?_
  obtain ⟨hx14, hx14a, hx14b⟩ := hx (i + 2 : Int).toNat (by omega)
  refine w_scr (npc := 470) (v := ai_i (sv (i + 2 : Int).toNat)) rfl rfl (by omega) hx14 ?_
  refine w_aload (i := 3) (npc := 471) (v := cr 104) rfl rfl rfl ?_
  refine w_call (npc := 474) (a := [cr 0, ai_i (sv (i + 1 : Int).toNat), ai_i (sv (i + 2 : Int).toNat), cr 104]) (rest := []) rfl rfl rfl rfl rfl (ct_lw_undo (sl := sl) (x := x) (d := d + 11) (sv (i + 1 : Int).toNat) (sv (i + 2 : Int).toNat) hI hN (by omega)) (Or.inr (fun _ _ _ _ _ hq => by have h1 := hq.1; omega)) (fun k9 v9 T16 E16 nx16 kc16 ks16 hq15 hk16 hv16 => ?_)
  obtain ⟨rfl, hnxz17, hnyz17, hI18, hG19, hN20, z17, rfl, hz17⟩ := hq15
  have hR21 := rl.fr hR hG19 (by intro i k h; (try simp only at h); omega)
  have hz22 : E16 0 10 = ai_i z1 := (hG19 0 10 (by first | omega | (simp; done) | (simp; omega) | (simp only; omega))).trans hz1
  have ghz22 := gv_eq hz22
  have hz23 : E16 0 11 = ai_i z2 := (hG19 0 11 (by first | omega | (simp; done) | (simp; omega) | (simp only; omega))).trans hz2
  have ghz23 := gv_eq hz23
  have hz24 : E16 0 14 = ai_i z3 := (hG19 0 14 (by first | omega | (simp; done) | (simp; omega) | (simp only; omega))).trans hz3
  have ghz24 := gv_eq hz24
  have hz25 : E16 23 8 = ai_i z4 := (hG19 23 8 (by first | omega | (simp; done) | (simp; omega) | (simp only; omega))).trans hz4
  have ghz25 := gv_eq hz25
  have hz26 : E16 23 9 = ai_i z5 := (hG19 23 9 (by first | omega | (simp; done) | (simp; omega) | (simp only; omega))).trans hz5
  have ghz26 := gv_eq hz26
  have hz27 : E16 81 1 = ai_i z6 := (hG19 81 1 (by first | omega | (simp; done) | (simp; omega) | (simp only; omega))).trans hz6
  have ghz27 := gv_eq hz27
  have hz28 : E16 81 17 = ai_i z7 := (hG19 81 17 (by first | omega | (simp; done) | (simp; omega) | (simp only; omega))).trans hz7
  have ghz28 := gv_eq hz28
  have hz29 : E16 81 34 = ai_i z8 := (hG19 81 34 (by first | omega | (simp; done) | (simp; omega) | (simp only; omega))).trans hz8
  have ghz29 := gv_eq hz29
  have hz30 : E16 81 23 = ai_i z9 := (hG19 81 23 (by first | omega | (simp; done) | (simp; omega) | (simp only; omega))).trans hz9
  have ghz30 := gv_eq hz30
  have hz31 : E16 81 24 = ai_i z10 := (hG19 81 24 (by first | omega | (simp; done) | (simp; omega) | (simp only; omega))).trans hz10
  have ghz31 := gv_eq hz31
  refine Or.inr (Or.inl ⟨rfl, ?_⟩)
  refine w_istore (i := 5) (npc := 476) (loc' := [(6, 0, 0), cr 0, cr 81, cr 104, ai_i i, ai_i z17, u6]) rfl rfl ?_
  refine w_aload (i := 2) (npc := 477) (v := cr 81) rfl rfl rfl ?_
  refine w_aload (i := 0) (npc := 478) (v := (6, 0, 0)) rfl rfl rfl ?_
  refine w_iload (i := 4) (npc := 480) rfl rfl ?_
  refine w_const (n := 1) (npc := 481) rfl ?_
  refine w_iadd (npc := 482) rfl (by omega) ?_
  obtain ⟨hx33, hx33a, hx33b⟩ := hx (i + 1 : Int).toNat (by omega)
  refine w_scr (npc := 483) (v := ai_i (sv (i + 1 : Int).toNat)) rfl rfl (by omega) hx33 ?_
  refine w_aload (i := 0) (npc := 484) (v := (6, 0, 0)) rfl rfl rfl ?_
  refine w_iload (i := 4) (npc := 486) rfl rfl ?_
  refine w_const (n := 2) (npc := 487) rfl ?_
  refine w_iadd (npc := 488) rfl (by omega) ?_
  obtain ⟨hx35, hx35a, hx35b⟩ := hx (i + 2 : Int).toNat (by omega)
  refine w_scr (npc := 489) (v := ai_i (sv (i + 2 : Int).toNat)) rfl rfl (by omega) hx35 ?_
  refine w_virt (ci := 8) (i := 81) (npc := 492) (a := [cr 81, ai_i (sv (i + 1 : Int).toNat), ai_i (sv (i + 2 : Int).toNat)]) (rest := []) rfl rfl (hI18.pl (by decide)) (hI18.T (by decide) rfl) rfl rfl rfl rfl (ct_m_undo (sl := sl) (x := x) (d := d + 12) (sv (i + 1 : Int).toNat) (sv (i + 2 : Int).toNat) hI18 hR21) (Or.inl rfl) (fun k9 v9 T37 E37 nx37 kc37 ks37 hq36 hk37 hv37 => ?_)
  obtain ⟨rfl, rfl, rfl, hI39, hG40, hRz38, z38, rfl, hz38⟩ := hq36
  obtain rfl : kc16 = kc37 := by omega
  obtain rfl : ks16 = ks37 := by omega
  have hN42 := hN20.fr hG40 (by intro i k h; (try simp only at h); omega)
  have hz43 : E37 0 10 = ai_i z1 := (hG40 0 10 (by first | omega | (simp; done) | (simp; omega) | (simp only; omega))).trans hz22
  have ghz43 := gv_eq hz43
  have hz44 : E37 0 11 = ai_i z2 := (hG40 0 11 (by first | omega | (simp; done) | (simp; omega) | (simp only; omega))).trans hz23
  have ghz44 := gv_eq hz44
  have hz45 : E37 0 14 = ai_i z3 := (hG40 0 14 (by first | omega | (simp; done) | (simp; omega) | (simp only; omega))).trans hz24
  have ghz45 := gv_eq hz45
  have hz46 : E37 23 8 = ai_i z4 := (hG40 23 8 (by first | omega | (simp; done) | (simp; omega) | (simp only; omega))).trans hz25
  have ghz46 := gv_eq hz46
  have hz47 : E37 23 9 = ai_i z5 := (hG40 23 9 (by first | omega | (simp; done) | (simp; omega) | (simp only; omega))).trans hz26
  have ghz47 := gv_eq hz47
  have hz48 : E37 81 1 = ai_i z6 := (hG40 81 1 (by first | omega | (simp; done) | (simp; omega) | (simp only; omega))).trans hz27
  have ghz48 := gv_eq hz48
  have hz49 : E37 81 17 = ai_i z7 := (hG40 81 17 (by first | omega | (simp; done) | (simp; omega) | (simp only; omega))).trans hz28
  have ghz49 := gv_eq hz49
  have hz50 : E37 81 34 = ai_i z8 := (hG40 81 34 (by first | omega | (simp; done) | (simp; omega) | (simp only; omega))).trans hz29
  have ghz50 := gv_eq hz50
  have hz51 : E37 81 23 = ai_i z9 := (hG40 81 23 (by first | omega | (simp; done) | (simp; omega) | (simp only; omega))).trans hz30
  have ghz51 := gv_eq hz51
  have hz52 : E37 81 24 = ai_i z10 := (hG40 81 24 (by first | omega | (simp; done) | (simp; omega) | (simp only; omega))).trans hz31
  have ghz52 := gv_eq hz52
  refine Or.inr (Or.inl ⟨rfl, ?_⟩)
  refine w_istore (i := 6) (npc := 494) (loc' := [(6, 0, 0), cr 0, cr 81, cr 104, ai_i i, ai_i z17, ai_i z38]) rfl rfl ?_
  refine w_goto (pt := 1164) rfl ?_
  exact next (ai_i z17) (ai_i z38) T16 E37 nx16 kc16 ks16 hI39 hN42 hRz38 (by omega) (by omega) (by omega) (by omega)
set_option maxRecDepth 16384 in
theorem law_c8 {sl : Int × Int} {x : ai_E} {d A B : Nat} {T : cm_T} {E : cm_E} {nx kc ks : Nat} {L : Int} {sv : Nat → Int} (hsl : sl.1 = L) (hx : ∀ k : Nat, (k : Int) < L → ai_sv x k = ai_i (sv k) ∧ -2147483648 ≤ sv k ∧ sv k ≤ 2147483647) {i : Int} (hi : 0 ≤ i ∧ i + 6 ≤ L ∧ L ≤ 384) (hnx : nx ≤ 1000) (hA : kc + 20 ≤ A) (hB : ks + 2000 ≤ B) (u5 u6 : ai_V) (hI : cs_I T E nx) (hN : hn E) (hR : rl E) (hJ : gv E 0 10 = gv E 81 1 ∧ gv E 0 11 = gv E 81 17 ∧ gv E 0 14 = gv E 81 34 ∧ gv E 23 8 = gv E 81 23 ∧ gv E 23 9 = gv E 81 24)
    (next : ∀ (v5 v6 : ai_V) (T' : cm_T) (E' : cm_E) (nx' kc' ks' : Nat), cs_I T' E' nx' → hn E' → rl E' → (gv E' 0 10 = gv E' 81 1 ∧ gv E' 0 11 = gv E' 81 17 ∧ gv E' 0 14 = gv E' 81 34 ∧ gv E' 23 8 = gv E' 81 23 ∧ gv E' 23 9 = gv E' 81 24) → nx' ≤ nx + 2 → (kc ≤ kc' ∧ kc' ≤ kc + 10) → (ks ≤ ks' ∧ ks' ≤ ks + 500) → cm_wp (ai_find ai_c0 sl) (ai_ev sl (d + 20)) x A B (fun rk rv T' E' nx' => rk = 1 ∧ rv = ai_i 1) 1164 [(6, 0, 0), cr 0, cr 81, cr 104, ai_i i, v5, v6] [] T' E' nx' kc' ks') : cm_wp (ai_find ai_c0 sl) (ai_ev sl (d + 20)) x A B (fun rk rv T' E' nx' => rk = 1 ∧ rv = ai_i 1) 497 [(6, 0, 0), cr 0, cr 81, cr 104, ai_i i, u5, u6] [] T E nx kc ks := by
  obtain ⟨z1, hz1, hz1a, hz1b⟩ := hI.int 0 10 (lo := 1) (hi := 5) (by decide) (by decide) rfl
  have ghz1 := gv_eq hz1
  obtain ⟨z2, hz2, hz2a, hz2b⟩ := hI.int 0 11 (lo := 0) (hi := 400) (by decide) (by decide) rfl
  have ghz2 := gv_eq hz2
  obtain ⟨z3, hz3, hz3a, hz3b⟩ := hI.int 0 14 (lo := 0) (hi := 1) (by decide) (by decide) rfl
  have ghz3 := gv_eq hz3
  obtain ⟨z4, hz4, hz4a, hz4b⟩ := hI.int 23 8 (lo := 0) (hi := 12) (by decide) (by decide) rfl
  have ghz4 := gv_eq hz4
  obtain ⟨z5, hz5, hz5a, hz5b⟩ := hI.int 23 9 (lo := 0) (hi := 8) (by decide) (by decide) rfl
  have ghz5 := gv_eq hz5
  obtain ⟨z6, hz6, hz6a, hz6b⟩ := hI.int 81 1 (lo := 1) (hi := 5) (by decide) (by decide) rfl
  have ghz6 := gv_eq hz6
  obtain ⟨z7, hz7, hz7a, hz7b⟩ := hI.int 81 17 (lo := 0) (hi := 400) (by decide) (by decide) rfl
  have ghz7 := gv_eq hz7
  obtain ⟨z8, hz8, hz8a, hz8b⟩ := hI.int 81 34 (lo := 0) (hi := 1) (by decide) (by decide) rfl
  have ghz8 := gv_eq hz8
  obtain ⟨z9, hz9, hz9a, hz9b⟩ := hI.int 81 23 (lo := 0) (hi := 12) (by decide) (by decide) rfl
  have ghz9 := gv_eq hz9
  obtain ⟨z10, hz10, hz10a, hz10b⟩ := hI.int 81 24 (lo := 0) (hi := 8) (by decide) (by decide) rfl
  have ghz10 := gv_eq hz10
  refine w_aload (i := 1) (npc := 498) (v := cr 0) rfl rfl rfl ?_
  refine w_aload (i := 0) (npc := 499) (v := (6, 0, 0)) rfl rfl rfl ?_
  refine w_iload (i := 4) (npc := 501) rfl rfl ?_
  refine w_const (n := 1) (npc := 502) rfl ?_
  refine w_iadd (npc := 503) rfl (by omega) ?_
  obtain ⟨hx12, hx12a, hx12b⟩ := hx (i + 1 : Int).toNat (by omega)
  refine w_scr (npc := 504) (v := ai_i (sv (i + 1 : Int).toNat)) rfl rfl (by omega) hx12 ?_
  refine w_aload (i := 0) (npc := 505) (v := (6, 0, 0)) rfl rfl rfl ?_
  refine w_iload (i := 4) (npc := 507) rfl rfl ?_
  refine w_const (n := 2) (npc := 508) rfl ?_
  refine w_iadd (npc := 509) rfl (by omega) ?_
  obtain ⟨hx14, hx14a, hx14b⟩ := hx (i + 2 : Int).toNat (by omega)
  refine w_scr (npc := 510) (v := ai_i (sv (i + 2 : Int).toNat)) rfl rfl (by omega) hx14 ?_
  refine w_aload (i := 0) (npc := 511) (v := (6, 0, 0)) rfl rfl rfl ?_
  refine w_iload (i := 4) (npc := 513) rfl rfl ?_
  refine w_const (n := 3) (npc := 514) rfl ?_
  refine w_iadd (npc := 515) rfl (by omega) ?_
  obtain ⟨hx16, hx16a, hx16b⟩ := hx (i + 3 : Int).toNat (by omega)
  refine w_scr (npc := 516) (v := ai_i (sv (i + 3 : Int).toNat)) rfl rfl (by omega) hx16 ?_
  refine w_aload (i := 0) (npc := 517) (v := (6, 0, 0)) rfl rfl rfl ?_
  refine w_iload (i := 4) (npc := 519) rfl rfl ?_
  refine w_const (n := 4) (npc := 520) rfl ?_
  refine w_iadd (npc := 521) rfl (by omega) ?_
  obtain ⟨hx18, hx18a, hx18b⟩ := hx (i + 4 : Int).toNat (by omega)
  refine w_scr (npc := 522) (v := ai_i (sv (i + 4 : Int).toNat)) rfl rfl (by omega) hx18 ?_
  refine w_aload (i := 3) (npc := 523) (v := cr 104) rfl rfl rfl ?_
  refine w_call (npc := 526) (a := [cr 0, ai_i (sv (i + 1 : Int).toNat), ai_i (sv (i + 2 : Int).toNat), ai_i (sv (i + 3 : Int).toNat), ai_i (sv (i + 4 : Int).toNat), cr 104]) (rest := []) rfl rfl rfl rfl rfl (ct_lw_move (sl := sl) (x := x) (d := d + 11) (sv (i + 1 : Int).toNat) (sv (i + 2 : Int).toNat) (sv (i + 3 : Int).toNat) (sv (i + 4 : Int).toNat) hI hN (by omega)) (Or.inr (fun _ _ _ _ _ hq => by have h1 := hq.1; omega)) (fun k9 v9 T20 E20 nx20 kc20 ks20 hq19 hk20 hv20 => ?_)
  obtain ⟨rfl, hnxz21, hnyz21, hI22, hG23, hN24, z21, rfl, hz21⟩ := hq19
  have hR25 := rl.fr hR hG23 (by intro i k h; (try simp only at h); omega)
  have hz26 : E20 0 10 = ai_i z1 := (hG23 0 10 (by first | omega | (simp; done) | (simp; omega) | (simp only; omega))).trans hz1
  have ghz26 := gv_eq hz26
  have hz27 : E20 0 11 = ai_i z2 := (hG23 0 11 (by first | omega | (simp; done) | (simp; omega) | (simp only; omega))).trans hz2
  have ghz27 := gv_eq hz27
  have hz28 : E20 0 14 = ai_i z3 := (hG23 0 14 (by first | omega | (simp; done) | (simp; omega) | (simp only; omega))).trans hz3
  have ghz28 := gv_eq hz28
  have hz29 : E20 23 8 = ai_i z4 := (hG23 23 8 (by first | omega | (simp; done) | (simp; omega) | (simp only; omega))).trans hz4
  have ghz29 := gv_eq hz29
  have hz30 : E20 23 9 = ai_i z5 := (hG23 23 9 (by first | omega | (simp; done) | (simp; omega) | (simp only; omega))).trans hz5
  have ghz30 := gv_eq hz30
  have hz31 : E20 81 1 = ai_i z6 := (hG23 81 1 (by first | omega | (simp; done) | (simp; omega) | (simp only; omega))).trans hz6
  have ghz31 := gv_eq hz31
  have hz32 : E20 81 17 = ai_i z7 := (hG23 81 17 (by first | omega | (simp; done) | (simp; omega) | (simp only; omega))).trans hz7
  have ghz32 := gv_eq hz32
  have hz33 : E20 81 34 = ai_i z8 := (hG23 81 34 (by first | omega | (simp; done) | (simp; omega) | (simp only; omega))).trans hz8
  have ghz33 := gv_eq hz33
  have hz34 : E20 81 23 = ai_i z9 := (hG23 81 23 (by first | omega | (simp; done) | (simp; omega) | (simp only; omega))).trans hz9
  have ghz34 := gv_eq hz34
  have hz35 : E20 81 24 = ai_i z10 := (hG23 81 24 (by first | omega | (simp; done) | (simp; omega) | (simp only; omega))).trans hz10
  have ghz35 := gv_eq hz35
  refine Or.inr (Or.inl ⟨rfl, ?_⟩)
  refine w_istore (i := 5) (npc := 528) (loc' := [(6, 0, 0), cr 0, cr 81, cr 104, ai_i i, ai_i z21, u6]) rfl rfl ?_
  refine w_aload (i := 2) (npc := 529) (v := cr 81) rfl rfl rfl ?_
  refine w_aload (i := 0) (npc := 530) (v := (6, 0, 0)) rfl rfl rfl ?_
  refine w_iload (i := 4) (npc := 532) rfl rfl ?_
  refine w_const (n := 1) (npc := 533) rfl ?_
  refine w_iadd (npc := 534) rfl (by omega) ?_
  obtain ⟨hx37, hx37a, hx37b⟩ := hx (i + 1 : Int).toNat (by omega)
  refine w_scr (npc := 535) (v := ai_i (sv (i + 1 : Int).toNat)) rfl rfl (by omega) hx37 ?_
  refine w_aload (i := 0) (npc := 536) (v := (6, 0, 0)) rfl rfl rfl ?_
  refine w_iload (i := 4) (npc := 538) rfl rfl ?_
  refine w_const (n := 2) (npc := 539) rfl ?_
  refine w_iadd (npc := 540) rfl (by omega) ?_
  obtain ⟨hx39, hx39a, hx39b⟩ := hx (i + 2 : Int).toNat (by omega)
  refine w_scr (npc := 541) (v := ai_i (sv (i + 2 : Int).toNat)) rfl rfl (by omega) hx39 ?_
  refine w_aload (i := 0) (npc := 542) (v := (6, 0, 0)) rfl rfl rfl ?_
  refine w_iload (i := 4) (npc := 544) rfl rfl ?_
  refine w_const (n := 3) (npc := 545) rfl ?_
  refine w_iadd (npc := 546) rfl (by omega) ?_
  obtain ⟨hx41, hx41a, hx41b⟩ := hx (i + 3 : Int).toNat (by omega)
  refine w_scr (npc := 547) (v := ai_i (sv (i + 3 : Int).toNat)) rfl rfl (by omega) hx41 ?_
  refine w_aload (i := 0) (npc := 548) (v := (6, 0, 0)) rfl rfl rfl ?_
  refine w_iload (i := 4) (npc := 550) rfl rfl ?_
  refine w_const (n := 4) (npc := 551) rfl ?_
  refine w_iadd (npc := 552) rfl (by omega) ?_
  obtain ⟨hx43, hx43a, hx43b⟩ := hx (i + 4 : Int).toNat (by omega)
  refine w_scr (npc := 553) (v := ai_i (sv (i + 4 : Int).toNat)) rfl rfl (by omega) hx43 ?_
  refine w_virt (ci := 8) (i := 81) (npc := 556) (a := [cr 81, ai_i (sv (i + 1 : Int).toNat), ai_i (sv (i + 2 : Int).toNat), ai_i (sv (i + 3 : Int).toNat), ai_i (sv (i + 4 : Int).toNat)]) (rest := []) rfl rfl (hI22.pl (by decide)) (hI22.T (by decide) rfl) rfl rfl rfl rfl (ct_m_move (sl := sl) (x := x) (d := d + 12) (sv (i + 1 : Int).toNat) (sv (i + 2 : Int).toNat) (sv (i + 3 : Int).toNat) (sv (i + 4 : Int).toNat) hI22 hR25) (Or.inl rfl) (fun k9 v9 T45 E45 nx45 kc45 ks45 hq44 hk45 hv45 => ?_)
  obtain ⟨rfl, rfl, rfl, hI47, hG48, hRz46, z46, rfl, hz46⟩ := hq44
  obtain rfl : kc20 = kc45 := by omega
  obtain rfl : ks20 = ks45 := by omega
  have hN50 := hN24.fr hG48 (by intro i k h; (try simp only at h); omega)
  have hz51 : E45 0 10 = ai_i z1 := (hG48 0 10 (by first | omega | (simp; done) | (simp; omega) | (simp only; omega))).trans hz26
  have ghz51 := gv_eq hz51
  have hz52 : E45 0 11 = ai_i z2 := (hG48 0 11 (by first | omega | (simp; done) | (simp; omega) | (simp only; omega))).trans hz27
  have ghz52 := gv_eq hz52
  have hz53 : E45 0 14 = ai_i z3 := (hG48 0 14 (by first | omega | (simp; done) | (simp; omega) | (simp only; omega))).trans hz28
  have ghz53 := gv_eq hz53
  have hz54 : E45 23 8 = ai_i z4 := (hG48 23 8 (by first | omega | (simp; done) | (simp; omega) | (simp only; omega))).trans hz29
  have ghz54 := gv_eq hz54
  have hz55 : E45 23 9 = ai_i z5 := (hG48 23 9 (by first | omega | (simp; done) | (simp; omega) | (simp only; omega))).trans hz30
  have ghz55 := gv_eq hz55
  have hz56 : E45 81 1 = ai_i z6 := (hG48 81 1 (by first | omega | (simp; done) | (simp; omega) | (simp only; omega))).trans hz31
  have ghz56 := gv_eq hz56
  have hz57 : E45 81 17 = ai_i z7 := (hG48 81 17 (by first | omega | (simp; done) | (simp; omega) | (simp only; omega))).trans hz32
  have ghz57 := gv_eq hz57
  have hz58 : E45 81 34 = ai_i z8 := (hG48 81 34 (by first | omega | (simp; done) | (simp; omega) | (simp only; omega))).trans hz33
  have ghz58 := gv_eq hz58
  have hz59 : E45 81 23 = ai_i z9 := (hG48 81 23 (by first | omega | (simp; done) | (simp; omega) | (simp only; omega))).trans hz34
  have ghz59 := gv_eq hz59
  have hz60 : E45 81 24 = ai_i z10 := (hG48 81 24 (by first | omega | (simp; done) | (simp; omega) | (simp only; omega))).trans hz35
  have ghz60 := gv_eq hz60
  refine Or.inr (Or.inl ⟨rfl, ?_⟩)
  refine w_istore (i := 6) (npc := 558) (loc' := [(6, 0, 0), cr 0, cr 81, cr 104, ai_i i, ai_i z21, ai_i z46]) rfl rfl ?_
  refine w_goto (pt := 1164) rfl ?_
  exact next (ai_i z21) (ai_i z46) T20 E45 nx20 kc20 ks20 hI47 hN50 hRz46 (by omega) (by omega) (by omega) (by omega)
