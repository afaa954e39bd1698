set_option maxRecDepth 16384 in
theorem law_c9 {sl : Int × Int} {x : ai_E} {d A B : Nat} {T : cm_T} {E : cm_E} {nx kc ks : Nat} {L : Int} {sv : Nat → Int} (hsl : sl.1 = L) (hx : ∀ k : Nat, (k : Int) < L → ai_sv x k = ai_i (sv k) ∧ -2147483648 ≤ sv k ∧ sv k ≤ 2147483647) {i : Int} (hi : 0 ≤ i ∧ i + 6 ≤ L ∧ L ≤ 384) (hnx : nx ≤ 1000) (hA : kc + 20 ≤ A) (hB : ks + 2000 ≤ B) (u5 u6 : ai_V) (hI : cs_I T E nx) (hN : hn E) (hR : rl E) (hJ : gv E 0 10 = gv E 81 1 ∧ gv E 0 11 = gv E 81 17 ∧ gv E 0 14 = gv E 81 34 ∧ gv E 23 8 = gv E 81 23 ∧ gv E 23 9 = gv E 81 24)
    (next : ∀ (v5 v6 : ai_V) (T' : cm_T) (E' : cm_E) (nx' kc' ks' : Nat), cs_I T' E' nx' → hn E' → rl E' → (gv E' 0 10 = gv E' 81 1 ∧ gv E' 0 11 = gv E' 81 17 ∧ gv E' 0 14 = gv E' 81 34 ∧ gv E' 23 8 = gv E' 81 23 ∧ gv E' 23 9 = gv E' 81 24) → nx' ≤ nx + 2 → (kc ≤ kc' ∧ kc' ≤ kc + 10) → (ks ≤ ks' ∧ ks' ≤ ks + 500) → cm_wp (ai_find ai_c0 sl) (ai_ev sl (d + 20)) x A B (fun rk rv T' E' nx' => rk = 1 ∧ rv = ai_i 1) 1164 [(6, 0, 0), cr 0, cr 81, cr 104, ai_i i, v5, v6] [] T' E' nx' kc' ks') : cm_wp (ai_find ai_c0 sl) (ai_ev sl (d + 20)) x A B (fun rk rv T' E' nx' => rk = 1 ∧ rv = ai_i 1) 561 [(6, 0, 0), cr 0, cr 81, cr 104, ai_i i, u5, u6] [] T E nx kc ks := by
  obtain ⟨z1, hz1, hz1a, hz1b⟩ := hI.int 0 10 (lo := 1) (hi := 5) (by decide) (by decide) rfl
  have ghz1 := gv_eq hz1
  obtain ⟨z2, hz2, hz2a, hz2b⟩ := hI.int 0 11 (lo := 0) (hi := 400) (by decide) (by decide) rfl
  have ghz2 := gv_eq hz2
  obtain ⟨z3, hz3, hz3a, hz3b⟩ := hI.int 0 14 (lo := 0) (hi := 1) (by decide) (by decide) rfl
  have ghz3 := gv_eq hz3
  obtain ⟨z4, hz4, hz4a, hz4b⟩ := hI.int 23 8 (lo := 0) (hi := 12) (by decide) (by decide) rfl
  have ghz4 := gv_eq hz4
  obtain ⟨z5, hz5, hz5a, hz5b⟩ := hI.int 23 9 (lo := 0) (hi := 8) (by decide) (by decide) rfl
  have ghz5 := gv_eq hz5
  obtain ⟨z6, hz6, hz6a, hz6b⟩ := hI.int 81 1 (lo := 1) (hi := 5) (by decide) (by decide) rfl
  have ghz6 := gv_eq hz6
  obtain ⟨z7, hz7, hz7a, hz7b⟩ := hI.int 81 17 (lo := 0) (hi := 400) (by decide) (by decide) rfl
  have ghz7 := gv_eq hz7
  obtain ⟨z8, hz8, hz8a, hz8b⟩ := hI.int 81 34 (lo := 0) (hi := 1) (by decide) (by decide) rfl
  have ghz8 := gv_eq hz8
  obtain ⟨z9, hz9, hz9a, hz9b⟩ := hI.int 81 23 (lo := 0) (hi := 12) (by decide) (by decide) rfl
  have ghz9 := gv_eq hz9
  obtain ⟨z10, hz10, hz10a, hz10b⟩ := hI.int 81 24 (lo := 0) (hi := 8) (by decide) (by decide) rfl
  have ghz10 := gv_eq hz10
  refine w_aload (i := 1) (npc := 562) (v := cr 0) rfl rfl rfl ?_
  refine w_aload (i := 0) (npc := 563) (v := (6, 0, 0)) rfl rfl rfl ?_
  refine w_iload (i := 4) (npc := 565) rfl rfl ?_
  refine w_const (n := 1) (npc := 566) rfl ?_
  refine w_iadd (npc := 567) rfl (by omega) ?_
  obtain ⟨hx12, hx12a, hx12b⟩ := hx (i + 1 : Int).toNat (by omega)
  refine w_scr (npc := 568) (v := ai_i (sv (i + 1 : Int).toNat)) rfl rfl (by omega) hx12 ?_
  refine w_aload (i := 0) (npc := 569) (v := (6, 0, 0)) rfl rfl rfl ?_
  refine w_iload (i := 4) (npc := 571) rfl rfl ?_
  refine w_const (n := 2) (npc := 572) rfl ?_
  refine w_iadd (npc := 573) rfl (by omega) ?_
  obtain ⟨hx14, hx14a, hx14b⟩ := hx (i + 2 : Int).toNat (by omega)
  refine w_scr (npc := 574) (v := ai_i (sv (i + 2 : Int).toNat)) rfl rfl (by omega) hx14 ?_
  refine w_aload (i := 0) (npc := 575) (v := (6, 0, 0)) rfl rfl rfl ?_
  refine w_iload (i := 4) (npc := 577) rfl rfl ?_
  refine w_const (n := 3) (npc := 578) rfl ?_
  refine w_iadd (npc := 579) rfl (by omega) ?_
  obtain ⟨hx16, hx16a, hx16b⟩ := hx (i + 3 : Int).toNat (by omega)
  refine w_scr (npc := 580) (v := ai_i (sv (i + 3 : Int).toNat)) rfl rfl (by omega) hx16 ?_
  refine w_aload (i := 0) (npc := 581) (v := (6, 0, 0)) rfl rfl rfl ?_
  refine w_iload (i := 4) (npc := 583) rfl rfl ?_
  refine w_const (n := 4) (npc := 584) rfl ?_
  refine w_iadd (npc := 585) rfl (by omega) ?_
  obtain ⟨hx18, hx18a, hx18b⟩ := hx (i + 4 : Int).toNat (by omega)
  refine w_scr (npc := 586) (v := ai_i (sv (i + 4 : Int).toNat)) rfl rfl (by omega) hx18 ?_
  refine w_aload (i := 3) (npc := 587) (v := cr 104) rfl rfl rfl ?_
  refine w_call (npc := 590) (a := [cr 0, ai_i (sv (i + 1 : Int).toNat), ai_i (sv (i + 2 : Int).toNat), ai_i (sv (i + 3 : Int).toNat), ai_i (sv (i + 4 : Int).toNat), cr 104]) (rest := []) rfl rfl rfl rfl rfl (ct_lw_packet (sl := sl) (x := x) (d := d + 15) (sv (i + 1 : Int).toNat) (sv (i + 2 : Int).toNat) (sv (i + 3 : Int).toNat) (sv (i + 4 : Int).toNat) hI hN (by omega)) (Or.inr (fun _ _ _ _ _ hq => by have h1 := hq.1; omega)) (fun k9 v9 T20 E20 nx20 kc20 ks20 hq19 hk20 hv20 => ?_)
  obtain ⟨rfl, hnxz21, hnyz21, hI22, hG23, hN24, z21, rfl, hz21⟩ := hq19
  have hR25 := rl.fr hR hG23 (by intro i k h; (try simp only at h); omega)
  have hz26 : E20 0 10 = ai_i z1 := (hG23 0 10 (by first | omega | (simp; done) | (simp; omega) | (simp only; omega))).trans hz1
  have ghz26 := gv_eq hz26
  have hz27 : E20 0 11 = ai_i z2 := (hG23 0 11 (by first | omega | (simp; done) | (simp; omega) | (simp only; omega))).trans hz2
  have ghz27 := gv_eq hz27
  have hz28 : E20 0 14 = ai_i z3 := (hG23 0 14 (by first | omega | (simp; done) | (simp; omega) | (simp only; omega))).trans hz3
  have ghz28 := gv_eq hz28
  have hz29 : E20 23 8 = ai_i z4 := (hG23 23 8 (by first | omega | (simp; done) | (simp; omega) | (simp only; omega))).trans hz4
  have ghz29 := gv_eq hz29
  have hz30 : E20 23 9 = ai_i z5 := (hG23 23 9 (by first | omega | (simp; done) | (simp; omega) | (simp only; omega))).trans hz5
  have ghz30 := gv_eq hz30
  have hz31 : E20 81 1 = ai_i z6 := (hG23 81 1 (by first | omega | (simp; done) | (simp; omega) | (simp only; omega))).trans hz6
  have ghz31 := gv_eq hz31
  have hz32 : E20 81 17 = ai_i z7 := (hG23 81 17 (by first | omega | (simp; done) | (simp; omega) | (simp only; omega))).trans hz7
  have ghz32 := gv_eq hz32
  have hz33 : E20 81 34 = ai_i z8 := (hG23 81 34 (by first | omega | (simp; done) | (simp; omega) | (simp only; omega))).trans hz8
  have ghz33 := gv_eq hz33
  have hz34 : E20 81 23 = ai_i z9 := (hG23 81 23 (by first | omega | (simp; done) | (simp; omega) | (simp only; omega))).trans hz9
  have ghz34 := gv_eq hz34
  have hz35 : E20 81 24 = ai_i z10 := (hG23 81 24 (by first | omega | (simp; done) | (simp; omega) | (simp only; omega))).trans hz10
  have ghz35 := gv_eq hz35
  refine Or.inr (Or.inl ⟨rfl, ?_⟩)
  refine w_istore (i := 5) (npc := 592) (loc' := [(6, 0, 0), cr 0, cr 81, cr 104, ai_i i, ai_i z21, u6]) rfl rfl ?_
  refine w_aload (i := 2) (npc := 593) (v := cr 81) rfl rfl rfl ?_
  refine w_aload (i := 0) (npc := 594) (v := (6, 0, 0)) rfl rfl rfl ?_
  refine w_iload (i := 4) (npc := 596) rfl rfl ?_
  refine w_const (n := 1) (npc := 597) rfl ?_
  refine w_iadd (npc := 598) rfl (by omega) ?_
  obtain ⟨hx37, hx37a, hx37b⟩ := hx (i + 1 : Int).toNat (by omega)
  refine w_scr (npc := 599) (v := ai_i (sv (i + 1 : Int).toNat)) rfl rfl (by omega) hx37 ?_
  refine w_aload (i := 0) (npc := 600) (v := (6, 0, 0)) rfl rfl rfl ?_
  refine w_iload (i := 4) (npc := 602) rfl rfl ?_
  refine w_const (n := 2) (npc := 603) rfl ?_
  refine w_iadd (npc := 604) rfl (by omega) ?_
  obtain ⟨hx39, hx39a, hx39b⟩ := hx (i + 2 : Int).toNat (by omega)
  refine w_scr (npc := 605) (v := ai_i (sv (i + 2 : Int).toNat)) rfl rfl (by omega) hx39 ?_
  refine w_aload (i := 0) (npc := 606) (v := (6, 0, 0)) rfl rfl rfl ?_
  refine w_iload (i := 4) (npc := 608) rfl rfl ?_
  refine w_const (n := 3) (npc := 609) rfl ?_
  refine w_iadd (npc := 610) rfl (by omega) ?_
  obtain ⟨hx41, hx41a, hx41b⟩ := hx (i + 3 : Int).toNat (by omega)
  refine w_scr (npc := 611) (v := ai_i (sv (i + 3 : Int).toNat)) rfl rfl (by omega) hx41 ?_
  refine w_aload (i := 0) (npc := 612) (v := (6, 0, 0)) rfl rfl rfl ?_
  refine w_iload (i := 4) (npc := 614) rfl rfl ?_
  refine w_const (n := 4) (npc := 615) rfl ?_
  refine w_iadd (npc := 616) rfl (by omega) ?_
  obtain ⟨hx43, hx43a, hx43b⟩ := hx (i + 4 : Int).toNat (by omega)
  refine w_scr (npc := 617) (v := ai_i (sv (i + 4 : Int).toNat)) rfl rfl (by omega) hx43 ?_
  refine w_virt (ci := 8) (i := 81) (npc := 620) (a := [cr 81, ai_i (sv (i + 1 : Int).toNat), ai_i (sv (i + 2 : Int).toNat), ai_i (sv (i + 3 : Int).toNat), ai_i (sv (i + 4 : Int).toNat)]) (rest := []) rfl rfl (hI22.pl (by decide)) (hI22.T (by decide) rfl) rfl rfl rfl rfl (ct_m_packet (sl := sl) (x := x) (d := d + 16) (sv (i + 1 : Int).toNat) (sv (i + 2 : Int).toNat) (sv (i + 3 : Int).toNat) (sv (i + 4 : Int).toNat) hI22 hR25) (Or.inl rfl) (fun k9 v9 T45 E45 nx45 kc45 ks45 hq44 hk45 hv45 => ?_)
  obtain ⟨rfl, rfl, rfl, hI47, hG48, hRz46, z46, rfl, hz46⟩ := hq44
  obtain rfl : kc20 = kc45 := by omega
  obtain rfl : ks20 = ks45 := by omega
  have hN50 := hN24.fr hG48 (by intro i k h; (try simp only at h); omega)
  have hz51 : E45 0 10 = ai_i z1 := (hG48 0 10 (by first | omega | (simp; done) | (simp; omega) | (simp only; omega))).trans hz26
  have ghz51 := gv_eq hz51
  have hz52 : E45 0 11 = ai_i z2 := (hG48 0 11 (by first | omega | (simp; done) | (simp; omega) | (simp only; omega))).trans hz27
  have ghz52 := gv_eq hz52
  have hz53 : E45 0 14 = ai_i z3 := (hG48 0 14 (by first | omega | (simp; done) | (simp; omega) | (simp only; omega))).trans hz28
  have ghz53 := gv_eq hz53
  have hz54 : E45 23 8 = ai_i z4 := (hG48 23 8 (by first | omega | (simp; done) | (simp; omega) | (simp only; omega))).trans hz29
  have ghz54 := gv_eq hz54
  have hz55 : E45 23 9 = ai_i z5 := (hG48 23 9 (by first | omega | (simp; done) | (simp; omega) | (simp only; omega))).trans hz30
  have ghz55 := gv_eq hz55
  have hz56 : E45 81 1 = ai_i z6 := (hG48 81 1 (by first | omega | (simp; done) | (simp; omega) | (simp only; omega))).trans hz31
  have ghz56 := gv_eq hz56
  have hz57 : E45 81 17 = ai_i z7 := (hG48 81 17 (by first | omega | (simp; done) | (simp; omega) | (simp only; omega))).trans hz32
  have ghz57 := gv_eq hz57
  have hz58 : E45 81 34 = ai_i z8 := (hG48 81 34 (by first | omega | (simp; done) | (simp; omega) | (simp only; omega))).trans hz33
  have ghz58 := gv_eq hz58
  have hz59 : E45 81 23 = ai_i z9 := (hG48 81 23 (by first | omega | (simp; done) | (simp; omega) | (simp only; omega))).trans hz34
  have ghz59 := gv_eq hz59
  have hz60 : E45 81 24 = ai_i z10 := (hG48 81 24 (by first | omega | (simp; done) | (simp; omega) | (simp only; omega))).trans hz35
  have ghz60 := gv_eq hz60
  refine Or.inr (Or.inl ⟨rfl, ?_⟩)
  refine w_istore (i := 6) (npc := 622) (loc' := [(6, 0, 0), cr 0, cr 81, cr 104, ai_i i, ai_i z21, ai_i z46]) rfl rfl ?_
  refine w_goto (pt := 1164) rfl ?_
  exact next (ai_i z21) (ai_i z46) T20 E45 nx20 kc20 ks20 hI47 hN50 hRz46 (by omega) (by omega) (by omega) (by omega)
set_option maxRecDepth 16384 in
theorem law_c10 {sl : Int × Int} {x : ai_E} {d A B : Nat} {T : cm_T} {E : cm_E} {nx kc ks : Nat} {L : Int} {sv : Nat → Int} (hsl : sl.1 = L) (hx : ∀ k : Nat, (k : Int) < L → ai_sv x k = ai_i (sv k) ∧ -2147483648 ≤ sv k ∧ sv k ≤ 2147483647) {i : Int} (hi : 0 ≤ i ∧ i + 6 ≤ L ∧ L ≤ 384) (hnx : nx ≤ 1000) (hA : kc + 20 ≤ A) (hB : ks + 2000 ≤ B) (u5 u6 : ai_V) (hI : cs_I T E nx) (hN : hn E) (hR : rl E) (hJ : gv E 0 10 = gv E 81 1 ∧ gv E 0 11 = gv E 81 17 ∧ gv E 0 14 = gv E 81 34 ∧ gv E 23 8 = gv E 81 23 ∧ gv E 23 9 = gv E 81 24)
    (next : ∀ (v5 v6 : ai_V) (T' : cm_T) (E' : cm_E) (nx' kc' ks' : Nat), cs_I T' E' nx' → hn E' → rl E' → (gv E' 0 10 = gv E' 81 1 ∧ gv E' 0 11 = gv E' 81 17 ∧ gv E' 0 14 = gv E' 81 34 ∧ gv E' 23 8 = gv E' 81 23 ∧ gv E' 23 9 = gv E' 81 24) → nx' ≤ nx + 2 → (kc ≤ kc' ∧ kc' ≤ kc + 10) → (ks ≤ ks' ∧ ks' ≤ ks + 500) → cm_wp (ai_find ai_c0 sl) (ai_ev sl (d + 20)) x A B (fun rk rv T' E' nx' => rk = 1 ∧ rv = ai_i 1) 1164 [(6, 0, 0), cr 0, cr 81, cr 104, ai_i i, v5, v6] [] T' E' nx' kc' ks') : cm_wp (ai_find ai_c0 sl) (ai_ev sl (d + 20)) x A B (fun rk rv T' E' nx' => rk = 1 ∧ rv = ai_i 1) 625 [(6, 0, 0), cr 0, cr 81, cr 104, ai_i i, u5, u6] [] T E nx kc ks := by
  obtain ⟨z1, hz1, hz1a, hz1b⟩ := hI.int 0 10 (lo := 1) (hi := 5) (by decide) (by decide) rfl
  have ghz1 := gv_eq hz1
  obtain ⟨z2, hz2, hz2a, hz2b⟩ := hI.int 0 11 (lo := 0) (hi := 400) (by decide) (by decide) rfl
  have ghz2 := gv_eq hz2
  obtain ⟨z3, hz3, hz3a, hz3b⟩ := hI.int 0 14 (lo := 0) (hi := 1) (by decide) (by decide) rfl
  have ghz3 := gv_eq hz3
  obtain ⟨z4, hz4, hz4a, hz4b⟩ := hI.int 23 8 (lo := 0) (hi := 12) (by decide) (by decide) rfl
  have ghz4 := gv_eq hz4
  obtain ⟨z5, hz5, hz5a, hz5b⟩ := hI.int 23 9 (lo := 0) (hi := 8) (by decide) (by decide) rfl
  have ghz5 := gv_eq hz5
  obtain ⟨z6, hz6, hz6a, hz6b⟩ := hI.int 81 1 (lo := 1) (hi := 5) (by decide) (by decide) rfl
  have ghz6 := gv_eq hz6
  obtain ⟨z7, hz7, hz7a, hz7b⟩ := hI.int 81 17 (lo := 0) (hi := 400) (by decide) (by decide) rfl
  have ghz7 := gv_eq hz7
  obtain ⟨z8, hz8, hz8a, hz8b⟩ := hI.int 81 34 (lo := 0) (hi := 1) (by decide) (by decide) rfl
  have ghz8 := gv_eq hz8
  obtain ⟨z9, hz9, hz9a, hz9b⟩ := hI.int 81 23 (lo := 0) (hi := 12) (by decide) (by decide) rfl
  have ghz9 := gv_eq hz9
  obtain ⟨z10, hz10, hz10a, hz10b⟩ := hI.int 81 24 (lo := 0) (hi := 8) (by decide) (by decide) rfl
  have ghz10 := gv_eq hz10
  refine w_aload (i := 1) (npc := 626) (v := cr 0) rfl rfl rfl ?_
  refine w_aload (i := 0) (npc := 627) (v := (6, 0, 0)) rfl rfl rfl ?_
  refine w_iload (i := 4) (npc := 629) rfl rfl ?_
  refine w_const (n := 1) (npc := 630) rfl ?_
  refine w_iadd (npc := 631) rfl (by omega) ?_
  obtain ⟨hx12, hx12a, hx12b⟩ := hx (i + 1 : Int).toNat (by omega)
  refine w_scr (npc := 632) (v := ai_i (sv (i + 1 : Int).toNat)) rfl rfl (by omega) hx12 ?_
  refine w_aload (i := 0) (npc := 633) (v := (6, 0, 0)) rfl rfl rfl ?_
  refine w_iload (i := 4) (npc := 635) rfl rfl ?_
  refine w_const (n := 2) (npc := 636) rfl ?_
  refine w_iadd (npc := 637) rfl (by omega) ?_
  obtain ⟨hx14, hx14a, hx14b⟩ := hx (i + 2 : Int).toNat (by omega)
  refine w_scr (npc := 638) (v := ai_i (sv (i + 2 : Int).toNat)) rfl rfl (by omega) hx14 ?_
  refine w_aload (i := 0) (npc := 639) (v := (6, 0, 0)) rfl rfl rfl ?_
  refine w_iload (i := 4) (npc := 641) rfl rfl ?_
  refine w_const (n := 3) (npc := 642) rfl ?_
  refine w_iadd (npc := 643) rfl (by omega) ?_
  obtain ⟨hx16, hx16a, hx16b⟩ := hx (i + 3 : Int).toNat (by omega)
  refine w_scr (npc := 644) (v := ai_i (sv (i + 3 : Int).toNat)) rfl rfl (by omega) hx16 ?_
  refine w_aload (i := 0) (npc := 645) (v := (6, 0, 0)) rfl rfl rfl ?_
  refine w_iload (i := 4) (npc := 647) rfl rfl ?_
  refine w_const (n := 4) (npc := 648) rfl ?_
  refine w_iadd (npc := 649) rfl (by omega) ?_
  obtain ⟨hx18, hx18a, hx18b⟩ := hx (i + 4 : Int).toNat (by omega)
  refine w_scr (npc := 650) (v := ai_i (sv (i + 4 : Int).toNat)) rfl rfl (by omega) hx18 ?_
  refine w_aload (i := 0) (npc := 651) (v := (6, 0, 0)) rfl rfl rfl ?_
  refine w_iload (i := 4) (npc := 653) rfl rfl ?_
  refine w_const (n := 5) (npc := 654) rfl ?_
  refine w_iadd (npc := 655) rfl (by omega) ?_
  obtain ⟨hx20, hx20a, hx20b⟩ := hx (i + 5 : Int).toNat (by omega)
  refine w_scr (npc := 656) (v := ai_i (sv (i + 5 : Int).toNat)) rfl rfl (by omega) hx20 ?_
  refine w_virt (ci := 7) (i := 0) (npc := 659) (a := [cr 0, ai_i (sv (i + 1 : Int).toNat), ai_i (sv (i + 2 : Int).toNat), ai_i (sv (i + 3 : Int).toNat), ai_i (sv (i + 4 : Int).toNat), ai_i (sv (i + 5 : Int).toNat)]) (rest := []) rfl rfl (hI.pl (by decide)) (hI.T (by decide) rfl) rfl rfl rfl rfl (ct_c_feed (sl := sl) (x := x) (d := d + 18) (sv (i + 1 : Int).toNat) (sv (i + 2 : Int).toNat) (sv (i + 3 : Int).toNat) (sv (i + 4 : Int).toNat) (sv (i + 5 : Int).toNat) hI hN) (Or.inl rfl) (fun k9 v9 T22 E22 nx22 kc22 ks22 hq21 hk22 hv22 => ?_)
  obtain ⟨rfl, rfl, rfl, hI24, hG25, hN26, z23, rfl, hz23⟩ := hq21
  have hR27 := rl.fr hR hG25 (by intro i k h; (try simp only at h); omega)
  have hz28 : E22 0 10 = ai_i z1 := (hG25 0 10 (by first | omega | (simp; done) | (simp; omega) | (simp only; omega))).trans hz1
  have ghz28 := gv_eq hz28
  have hz29 : E22 0 14 = ai_i z3 := (hG25 0 14 (by first | omega | (simp; done) | (simp; omega) | (simp only; omega))).trans hz3
  have ghz29 := gv_eq hz29
  have hz30 : E22 23 8 = ai_i z4 := (hG25 23 8 (by first | omega | (simp; done) | (simp; omega) | (simp only; omega))).trans hz4
  have ghz30 := gv_eq hz30
  have hz31 : E22 23 9 = ai_i z5 := (hG25 23 9 (by first | omega | (simp; done) | (simp; omega) | (simp only; omega))).trans hz5
  have ghz31 := gv_eq hz31
  have hz32 : E22 81 1 = ai_i z6 := (hG25 81 1 (by first | omega | (simp; done) | (simp; omega) | (simp only; omega))).trans hz6
  have ghz32 := gv_eq hz32
  have hz33 : E22 81 17 = ai_i z7 := (hG25 81 17 (by first | omega | (simp; done) | (simp; omega) | (simp only; omega))).trans hz7
  have ghz33 := gv_eq hz33
  have hz34 : E22 81 34 = ai_i z8 := (hG25 81 34 (by first | omega | (simp; done) | (simp; omega) | (simp only; omega))).trans hz8
  have ghz34 := gv_eq hz34
  have hz35 : E22 81 23 = ai_i z9 := (hG25 81 23 (by first | omega | (simp; done) | (simp; omega) | (simp only; omega))).trans hz9
  have ghz35 := gv_eq hz35
  have hz36 : E22 81 24 = ai_i z10 := (hG25 81 24 (by first | omega | (simp; done) | (simp; omega) | (simp only; omega))).trans hz10
  have ghz36 := gv_eq hz36
  refine Or.inr (Or.inl ⟨rfl, ?_⟩)
  refine w_pop (npc := 660) rfl rfl ?_
  refine w_aload (i := 2) (npc := 661) (v := cr 81) rfl rfl rfl ?_
  refine w_aload (i := 0) (npc := 662) (v := (6, 0, 0)) rfl rfl rfl ?_
  refine w_iload (i := 4) (npc := 664) rfl rfl ?_
  refine w_const (n := 1) (npc := 665) rfl ?_
  refine w_iadd (npc := 666) rfl (by omega) ?_
  obtain ⟨hx38, hx38a, hx38b⟩ := hx (i + 1 : Int).toNat (by omega)
  refine w_scr (npc := 667) (v := ai_i (sv (i + 1 : Int).toNat)) rfl rfl (by omega) hx38 ?_
  refine w_aload (i := 0) (npc := 668) (v := (6, 0, 0)) rfl rfl rfl ?_
  refine w_iload (i := 4) (npc := 670) rfl rfl ?_
  refine w_const (n := 2) (npc := 671) rfl ?_
  refine w_iadd (npc := 672) rfl (by omega) ?_
  obtain ⟨hx40, hx40a, hx40b⟩ := hx (i + 2 : Int).toNat (by omega)
  refine w_scr (npc := 673) (v := ai_i (sv (i + 2 : Int).toNat)) rfl rfl (by omega) hx40 ?_
  refine w_aload (i := 0) (npc := 674) (v := (6, 0, 0)) rfl rfl rfl ?_
  refine w_iload (i := 4) (npc := 676) rfl rfl ?_
  refine w_const (n := 3) (npc := 677) rfl ?_
  refine w_iadd (npc := 678) rfl (by omega) ?_
  obtain ⟨hx42, hx42a, hx42b⟩ := hx (i + 3 : Int).toNat (by omega)
  refine w_scr (npc := 679) (v := ai_i (sv (i + 3 : Int).toNat)) rfl rfl (by omega) hx42 ?_
  refine w_aload (i := 0) (npc := 680) (v := (6, 0, 0)) rfl rfl rfl ?_
  refine w_iload (i := 4) (npc := 682) rfl rfl ?_
  refine w_const (n := 4) (npc := 683) rfl ?_
  refine w_iadd (npc := 684) rfl (by omega) ?_
  obtain ⟨hx44, hx44a, hx44b⟩ := hx (i + 4 : Int).toNat (by omega)
  refine w_scr (npc := 685) (v := ai_i (sv (i + 4 : Int).toNat)) rfl rfl (by omega) hx44 ?_
  refine w_aload (i := 0) (npc := 686) (v := (6, 0, 0)) rfl rfl rfl ?_
  refine w_iload (i := 4) (npc := 688) rfl rfl ?_
  refine w_const (n := 5) (npc := 689) rfl ?_
  refine w_iadd (npc := 690) rfl (by omega) ?_
  obtain ⟨hx46, hx46a, hx46b⟩ := hx (i + 5 : Int).toNat (by omega)
  refine w_scr (npc := 691) (v := ai_i (sv (i + 5 : Int).toNat)) rfl rfl (by omega) hx46 ?_
  obtain ⟨z47, hz47, hz47a, hz47b⟩ := hI24.int 0 11 (lo := 0) (hi := 400) (by decide) (by decide) rfl
  have ghz47 := gv_eq hz47
  refine w_virt (ci := 8) (i := 81) (npc := 694) (a := [cr 81, ai_i (sv (i + 1 : Int).toNat), ai_i (sv (i + 2 : Int).toNat), ai_i (sv (i + 3 : Int).toNat), ai_i (sv (i + 4 : Int).toNat), ai_i (sv (i + 5 : Int).toNat)]) (rest := []) rfl rfl (hI24.pl (by decide)) (hI24.T (by decide) rfl) rfl rfl rfl rfl (ct_m_feed (sl := sl) (x := x) (d := d + 19) (sv (i + 1 : Int).toNat) (sv (i + 2 : Int).toNat) (sv (i + 3 : Int).toNat) (sv (i + 4 : Int).toNat) (sv (i + 5 : Int).toNat) hI24 hR27 (by omega) (by omega) (by omega) (by omega) (by omega)) (Or.inl rfl) (fun k9 v9 T49 E49 nx49 kc49 ks49 hq48 hk49 hv49 => ?_)
  obtain ⟨rfl, rfl, rfl, hI51, hG52, hRz50, z50, rfl, hz50⟩ := hq48
  obtain rfl : kc22 = kc49 := by omega
  obtain rfl : ks22 = ks49 := by omega
  have hN54 := hN26.fr hG52 (by intro i k h; (try simp only at h); omega)
  have hz55 : E49 0 10 = ai_i z1 := (hG52 0 10 (by first | omega | (simp; done) | (simp; omega) | (simp only; omega))).trans hz28
  have ghz55 := gv_eq hz55
  have hz56 : E49 0 14 = ai_i z3 := (hG52 0 14 (by first | omega | (simp; done) | (simp; omega) | (simp only; omega))).trans hz29
  have ghz56 := gv_eq hz56
  have hz57 : E49 23 8 = ai_i z4 := (hG52 23 8 (by first | omega | (simp; done) | (simp; omega) | (simp only; omega))).trans hz30
  have ghz57 := gv_eq hz57
  have hz58 : E49 23 9 = ai_i z5 := (hG52 23 9 (by first | omega | (simp; done) | (simp; omega) | (simp only; omega))).trans hz31
  have ghz58 := gv_eq hz58
  have hz59 : E49 81 1 = ai_i z6 := (hG52 81 1 (by first | omega | (simp; done) | (simp; omega) | (simp only; omega))).trans hz32
  have ghz59 := gv_eq hz59
  have hz60 : E49 81 34 = ai_i z8 := (hG52 81 34 (by first | omega | (simp; done) | (simp; omega) | (simp only; omega))).trans hz34
  have ghz60 := gv_eq hz60
  have hz61 : E49 81 23 = ai_i z9 := (hG52 81 23 (by first | omega | (simp; done) | (simp; omega) | (simp only; omega))).trans hz35
  have ghz61 := gv_eq hz61
  have hz62 : E49 81 24 = ai_i z10 := (hG52 81 24 (by first | omega | (simp; done) | (simp; omega) | (simp only; omega))).trans hz36
  have ghz62 := gv_eq hz62
  have hz63 : E49 0 11 = ai_i z47 := (hG52 0 11 (by first | omega | (simp; done) | (simp; omega) | (simp only; omega))).trans hz47
  have ghz63 := gv_eq hz63
  refine Or.inr (Or.inl ⟨rfl, ?_⟩)
  refine w_pop (npc := 695) rfl rfl ?_
  refine w_goto (pt := 1164) rfl ?_
  exact next (u5) (u6) T E49 nx kc22 ks22 hI51 hN54 hRz50 (by omega) (by omega) (by omega) (by omega)
set_option maxRecDepth 16384 in
theorem law_c11 {sl : Int × Int} {x : ai_E} {d A B : Nat} {T : cm_T} {E : cm_E} {nx kc ks : Nat} {L : Int} {sv : Nat → Int} (hsl : sl.1 = L) (hx : ∀ k : Nat, (k : Int) < L → ai_sv x k = ai_i (sv k) ∧ -2147483648 ≤ sv k ∧ sv k ≤ 2147483647) {i : Int} (hi : 0 ≤ i ∧ i + 6 ≤ L ∧ L ≤ 384) (hnx : nx ≤ 1000) (hA : kc + 20 ≤ A) (hB : ks + 2000 ≤ B) (u5 u6 : ai_V) (hI : cs_I T E nx) (hN : hn E) (hR : rl E) (hJ : gv E 0 10 = gv E 81 1 ∧ gv E 0 11 = gv E 81 17 ∧ gv E 0 14 = gv E 81 34 ∧ gv E 23 8 = gv E 81 23 ∧ gv E 23 9 = gv E 81 24)
    (next : ∀ (v5 v6 : ai_V) (T' : cm_T) (E' : cm_E) (nx' kc' ks' : Nat), cs_I T' E' nx' → hn E' → rl E' → (gv E' 0 10 = gv E' 81 1 ∧ gv E' 0 11 = gv E' 81 17 ∧ gv E' 0 14 = gv E' 81 34 ∧ gv E' 23 8 = gv E' 81 23 ∧ gv E' 23 9 = gv E' 81 24) → nx' ≤ nx + 2 → (kc ≤ kc' ∧ kc' ≤ kc + 10) → (ks ≤ ks' ∧ ks' ≤ ks + 500) → cm_wp (ai_find ai_c0 sl) (ai_ev sl (d + 20)) x A B (fun rk rv T' E' nx' => rk = 1 ∧ rv = ai_i 1) 1164 [(6, 0, 0), cr 0, cr 81, cr 104, ai_i i, v5, v6] [] T' E' nx' kc' ks') : cm_wp (ai_find ai_c0 sl) (ai_ev sl (d + 20)) x A B (fun rk rv T' E' nx' => rk = 1 ∧ rv = ai_i 1) 698 [(6, 0, 0), cr 0, cr 81, cr 104, ai_i i, u5, u6] [] T E nx kc ks := by
  obtain ⟨z1, hz1, hz1a, hz1b⟩ := hI.int 0 10 (lo := 1) (hi := 5) (by decide) (by decide) rfl
  have ghz1 := gv_eq hz1
  obtain ⟨z2, hz2, hz2a, hz2b⟩ := hI.int 0 11 (lo := 0) (hi := 400) (by decide) (by decide) rfl
  have ghz2 := gv_eq hz2
  obtain ⟨z3, hz3, hz3a, hz3b⟩ := hI.int 0 14 (lo := 0) (hi := 1) (by decide) (by decide) rfl
  have ghz3 := gv_eq hz3
  obtain ⟨z4, hz4, hz4a, hz4b⟩ := hI.int 23 8 (lo := 0) (hi := 12) (by decide) (by decide) rfl
  have ghz4 := gv_eq hz4
  obtain ⟨z5, hz5, hz5a, hz5b⟩ := hI.int 23 9 (lo := 0) (hi := 8) (by decide) (by decide) rfl
  have ghz5 := gv_eq hz5
  obtain ⟨z6, hz6, hz6a, hz6b⟩ := hI.int 81 1 (lo := 1) (hi := 5) (by decide) (by decide) rfl
  have ghz6 := gv_eq hz6
  obtain ⟨z7, hz7, hz7a, hz7b⟩ := hI.int 81 17 (lo := 0) (hi := 400) (by decide) (by decide) rfl
  have ghz7 := gv_eq hz7
  obtain ⟨z8, hz8, hz8a, hz8b⟩ := hI.int 81 34 (lo := 0) (hi := 1) (by decide) (by decide) rfl
  have ghz8 := gv_eq hz8
  obtain ⟨z9, hz9, hz9a, hz9b⟩ := hI.int 81 23 (lo := 0) (hi := 12) (by decide) (by decide) rfl
  have ghz9 := gv_eq hz9
  obtain ⟨z10, hz10, hz10a, hz10b⟩ := hI.int 81 24 (lo := 0) (hi := 8) (by decide) (by decide) rfl
  have ghz10 := gv_eq hz10
  refine w_aload (i := 1) (npc := 699) (v := cr 0) rfl rfl rfl ?_
  refine w_aload (i := 0) (npc := 700) (v := (6, 0, 0)) rfl rfl rfl ?_
  refine w_iload (i := 4) (npc := 702) rfl rfl ?_
  refine w_const (n := 1) (npc := 703) rfl ?_
  refine w_iadd (npc := 704) rfl (by omega) ?_
  obtain ⟨hx12, hx12a, hx12b⟩ := hx (i + 1 : Int).toNat (by omega)
  refine w_scr (npc := 705) (v := ai_i (sv (i + 1 : Int).toNat)) rfl rfl (by omega) hx12 ?_
  refine w_aload (i := 0) (npc := 706) (v := (6, 0, 0)) rfl rfl rfl ?_
  refine w_iload (i := 4) (npc := 708) rfl rfl ?_
  refine w_const (n := 2) (npc := 709) rfl ?_
  refine w_iadd (npc := 710) rfl (by omega) ?_
  obtain ⟨hx14, hx14a, hx14b⟩ := hx (i + 2 : Int).toNat (by omega)
  refine w_scr (npc := 711) (v := ai_i (sv (i + 2 : Int).toNat)) rfl rfl (by omega) hx14 ?_
  refine w_aload (i := 3) (npc := 712) (v := cr 104) rfl rfl rfl ?_
  refine w_call (npc := 715) (a := [cr 0, ai_i (sv (i + 1 : Int).toNat), ai_i (sv (i + 2 : Int).toNat), cr 104]) (rest := []) rfl rfl rfl rfl rfl (ct_lw_hear (sl := sl) (x := x) (d := d + 11) (sv (i + 1 : Int).toNat) (sv (i + 2 : Int).toNat) hI hN (by omega)) (Or.inr (fun _ _ _ _ _ hq => by have h1 := hq.1; omega)) (fun k9 v9 T16 E16 nx16 kc16 ks16 hq15 hk16 hv16 => ?_)
  obtain ⟨rfl, hnxz17, hnyz17, hI18, hG19, hN20, z17, rfl, hz17⟩ := hq15
  have hR21 := rl.fr hR hG19 (by intro i k h; (try simp only at h); omega)
  have hz22 : E16 0 10 = ai_i z1 := (hG19 0 10 (by first | omega | (simp; done) | (simp; omega) | (simp only; omega))).trans hz1
  have ghz22 := gv_eq hz22
  have hz23 : E16 0 14 = ai_i z3 := (hG19 0 14 (by first | omega | (simp; done) | (simp; omega) | (simp only; omega))).trans hz3
  have ghz23 := gv_eq hz23
  have hz24 : E16 23 8 = ai_i z4 := (hG19 23 8 (by first | omega | (simp; done) | (simp; omega) | (simp only; omega))).trans hz4
  have ghz24 := gv_eq hz24
  have hz25 : E16 23 9 = ai_i z5 := (hG19 23 9 (by first | omega | (simp; done) | (simp; omega) | (simp only; omega))).trans hz5
  have ghz25 := gv_eq hz25
  have hz26 : E16 81 1 = ai_i z6 := (hG19 81 1 (by first | omega | (simp; done) | (simp; omega) | (simp only; omega))).trans hz6
  have ghz26 := gv_eq hz26
  have hz27 : E16 81 17 = ai_i z7 := (hG19 81 17 (by first | omega | (simp; done) | (simp; omega) | (simp only; omega))).trans hz7
  have ghz27 := gv_eq hz27
  have hz28 : E16 81 34 = ai_i z8 := (hG19 81 34 (by first | omega | (simp; done) | (simp; omega) | (simp only; omega))).trans hz8
  have ghz28 := gv_eq hz28
  have hz29 : E16 81 23 = ai_i z9 := (hG19 81 23 (by first | omega | (simp; done) | (simp; omega) | (simp only; omega))).trans hz9
  have ghz29 := gv_eq hz29
  have hz30 : E16 81 24 = ai_i z10 := (hG19 81 24 (by first | omega | (simp; done) | (simp; omega) | (simp only; omega))).trans hz10
  have ghz30 := gv_eq hz30
  refine Or.inr (Or.inl ⟨rfl, ?_⟩)
  refine w_istore (i := 5) (npc := 717) (loc' := [(6, 0, 0), cr 0, cr 81, cr 104, ai_i i, ai_i z17, u6]) rfl rfl ?_
  refine w_aload (i := 2) (npc := 718) (v := cr 81) rfl rfl rfl ?_
  refine w_aload (i := 0) (npc := 719) (v := (6, 0, 0)) rfl rfl rfl ?_
  refine w_iload (i := 4) (npc := 721) rfl rfl ?_
  refine w_const (n := 1) (npc := 722) rfl ?_
  refine w_iadd (npc := 723) rfl (by omega) ?_
  obtain ⟨hx32, hx32a, hx32b⟩ := hx (i + 1 : Int).toNat (by omega)
  refine w_scr (npc := 724) (v := ai_i (sv (i + 1 : Int).toNat)) rfl rfl (by omega) hx32 ?_
  refine w_aload (i := 0) (npc := 725) (v := (6, 0, 0)) rfl rfl rfl ?_
  refine w_iload (i := 4) (npc := 727) rfl rfl ?_
  refine w_const (n := 2) (npc := 728) rfl ?_
  refine w_iadd (npc := 729) rfl (by omega) ?_
  obtain ⟨hx34, hx34a, hx34b⟩ := hx (i + 2 : Int).toNat (by omega)
  refine w_scr (npc := 730) (v := ai_i (sv (i + 2 : Int).toNat)) rfl rfl (by omega) hx34 ?_
  obtain ⟨z35, hz35, hz35a, hz35b⟩ := hI18.int 0 11 (lo := 0) (hi := 400) (by decide) (by decide) rfl
  have ghz35 := gv_eq hz35
  refine w_virt (ci := 8) (i := 81) (npc := 733) (a := [cr 81, ai_i (sv (i + 1 : Int).toNat), ai_i (sv (i + 2 : Int).toNat)]) (rest := []) rfl rfl (hI18.pl (by decide)) (hI18.T (by decide) rfl) rfl rfl rfl rfl (ct_m_hear (sl := sl) (x := x) (d := d + 12) (sv (i + 1 : Int).toNat) (sv (i + 2 : Int).toNat) hI18 hR21 (by omega) (by omega)) (Or.inl rfl) (fun k9 v9 T37 E37 nx37 kc37 ks37 hq36 hk37 hv37 => ?_)
  obtain ⟨rfl, rfl, rfl, hI39, hG40, hRz38, z38, rfl, hz38⟩ := hq36
  obtain rfl : kc16 = kc37 := by omega
  obtain rfl : ks16 = ks37 := by omega
  have hN42 := hN20.fr hG40 (by intro i k h; (try simp only at h); omega)
  have hz43 : E37 0 10 = ai_i z1 := (hG40 0 10 (by first | omega | (simp; done) | (simp; omega) | (simp only; omega))).trans hz22
  have ghz43 := gv_eq hz43
  have hz44 : E37 0 14 = ai_i z3 := (hG40 0 14 (by first | omega | (simp; done) | (simp; omega) | (simp only; omega))).trans hz23
  have ghz44 := gv_eq hz44
  have hz45 : E37 23 8 = ai_i z4 := (hG40 23 8 (by first | omega | (simp; done) | (simp; omega) | (simp only; omega))).trans hz24
  have ghz45 := gv_eq hz45
  have hz46 : E37 23 9 = ai_i z5 := (hG40 23 9 (by first | omega | (simp; done) | (simp; omega) | (simp only; omega))).trans hz25
  have ghz46 := gv_eq hz46
  have hz47 : E37 81 1 = ai_i z6 := (hG40 81 1 (by first | omega | (simp; done) | (simp; omega) | (simp only; omega))).trans hz26
  have ghz47 := gv_eq hz47
  have hz48 : E37 81 34 = ai_i z8 := (hG40 81 34 (by first | omega | (simp; done) | (simp; omega) | (simp only; omega))).trans hz28
  have ghz48 := gv_eq hz48
  have hz49 : E37 81 23 = ai_i z9 := (hG40 81 23 (by first | omega | (simp; done) | (simp; omega) | (simp only; omega))).trans hz29
  have ghz49 := gv_eq hz49
  have hz50 : E37 81 24 = ai_i z10 := (hG40 81 24 (by first | omega | (simp; done) | (simp; omega) | (simp only; omega))).trans hz30
  have ghz50 := gv_eq hz50
  have hz51 : E37 0 11 = ai_i z35 := (hG40 0 11 (by first | omega | (simp; done) | (simp; omega) | (simp only; omega))).trans hz35
  have ghz51 := gv_eq hz51
  refine Or.inr (Or.inl ⟨rfl, ?_⟩)
  refine w_istore (i := 6) (npc := 735) (loc' := [(6, 0, 0), cr 0, cr 81, cr 104, ai_i i, ai_i z17, ai_i z38]) rfl rfl ?_
  refine w_goto (pt := 1164) rfl ?_
  exact next (ai_i z17) (ai_i z38) T16 E37 nx16 kc16 ks16 hI39 hN42 hRz38 (by omega) (by omega) (by omega) (by omega)
set_option maxRecDepth 16384 in
theorem law_c12 {sl : Int × Int} {x : ai_E} {d A B : Nat} {T : cm_T} {E : cm_E} {nx kc ks : Nat} {L : Int} {sv : Nat → Int} (hsl : sl.1 = L) (hx : ∀ k : Nat, (k : Int) < L → ai_sv x k = ai_i (sv k) ∧ -2147483648 ≤ sv k ∧ sv k ≤ 2147483647) {i : Int} (hi : 0 ≤ i ∧ i + 6 ≤ L ∧ L ≤ 384) (hnx : nx ≤ 1000) (hA : kc + 20 ≤ A) (hB : ks + 2000 ≤ B) (u5 u6 : ai_V) (hI : cs_I T E nx) (hN : hn E) (hR : rl E) (hJ : gv E 0 10 = gv E 81 1 ∧ gv E 0 11 = gv E 81 17 ∧ gv E 0 14 = gv E 81 34 ∧ gv E 23 8 = gv E 81 23 ∧ gv E 23 9 = gv E 81 24)
    (next : ∀ (v5 v6 : ai_V) (T' : cm_T) (E' : cm_E) (nx' kc' ks' : Nat), cs_I T' E' nx' → hn E' → rl E' → (gv E' 0 10 = gv E' 81 1 ∧ gv E' 0 11 = gv E' 81 17 ∧ gv E' 0 14 = gv E' 81 34 ∧ gv E' 23 8 = gv E' 81 23 ∧ gv E' 23 9 = gv E' 81 24) → nx' ≤ nx + 2 → (kc ≤ kc' ∧ kc' ≤ kc + 10) → (ks ≤ ks' ∧ ks' ≤ ks + 500) → cm_wp (ai_find ai_c0 sl) (ai_ev sl (d + 20)) x A B (fun rk rv T' E' nx' => rk = 1 ∧ rv = ai_i 1) 1164 [(6, 0, 0), cr 0, cr 81, cr 104, ai_i i, v5, v6] [] T' E' nx' kc' ks') : cm_wp (ai_find ai_c0 sl) (ai_ev sl (d + 20)) x A B (fun rk rv T' E' nx' => rk = 1 ∧ rv = ai_i 1) 738 [(6, 0, 0), cr 0, cr 81, cr 104, ai_i i, u5, u6] [] T E nx kc ks := by
  obtain ⟨z1, hz1, hz1a, hz1b⟩ := hI.int 0 10 (lo := 1) (hi := 5) (by decide) (by decide) rfl
  have ghz1 := gv_eq hz1
  obtain ⟨z2, hz2, hz2a, hz2b⟩ := hI.int 0 11 (lo := 0) (hi := 400) (by decide) (by decide) rfl
  have ghz2 := gv_eq hz2
  obtain ⟨z3, hz3, hz3a, hz3b⟩ := hI.int 0 14 (lo := 0) (hi := 1) (by decide) (by decide) rfl
  have ghz3 := gv_eq hz3
  obtain ⟨z4, hz4, hz4a, hz4b⟩ := hI.int 23 8 (lo := 0) (hi := 12) (by decide) (by decide) rfl
  have ghz4 := gv_eq hz4
  obtain ⟨z5, hz5, hz5a, hz5b⟩ := hI.int 23 9 (lo := 0) (hi := 8) (by decide) (by decide) rfl
  have ghz5 := gv_eq hz5
  obtain ⟨z6, hz6, hz6a, hz6b⟩ := hI.int 81 1 (lo := 1) (hi := 5) (by decide) (by decide) rfl
  have ghz6 := gv_eq hz6
  obtain ⟨z7, hz7, hz7a, hz7b⟩ := hI.int 81 17 (lo := 0) (hi := 400) (by decide) (by decide) rfl
  have ghz7 := gv_eq hz7
  obtain ⟨z8, hz8, hz8a, hz8b⟩ := hI.int 81 34 (lo := 0) (hi := 1) (by decide) (by decide) rfl
  have ghz8 := gv_eq hz8
  obtain ⟨z9, hz9, hz9a, hz9b⟩ := hI.int 81 23 (lo := 0) (hi := 12) (by decide) (by decide) rfl
  have ghz9 := gv_eq hz9
  obtain ⟨z10, hz10, hz10a, hz10b⟩ := hI.int 81 24 (lo := 0) (hi := 8) (by decide) (by decide) rfl
  have ghz10 := gv_eq hz10
  refine w_aload (i := 1) (npc := 739) (v := cr 0) rfl rfl rfl ?_
  refine w_virt (ci := 7) (i := 0) (npc := 742) (a := [cr 0]) (rest := []) rfl rfl (hI.pl (by decide)) (hI.T (by decide) rfl) rfl rfl rfl rfl (ct_c_fault (sl := sl) (x := x) (d := d + 19)  hI hN) (Or.inl rfl) (fun k9 v9 T12 E12 nx12 kc12 ks12 hq11 hk12 hv12 => ?_)
  obtain ⟨rfl, rfl, rfl, hI14, hG15, hN16, z13, rfl, hz13⟩ := hq11
  have hR17 := rl.fr hR hG15 (by intro i k h; (try simp only at h); omega)
  have hz18 : E12 0 10 = ai_i z1 := (hG15 0 10 (by first | omega | (simp; done) | (simp; omega) | (simp only; omega))).trans hz1
  have ghz18 := gv_eq hz18
  have hz19 : E12 0 11 = ai_i z2 := (hG15 0 11 (by first | omega | (simp; done) | (simp; omega) | (simp only; omega))).trans hz2
  have ghz19 := gv_eq hz19
  have hz20 : E12 0 14 = ai_i z3 := (hG15 0 14 (by first | omega | (simp; done) | (simp; omega) | (simp only; omega))).trans hz3
  have ghz20 := gv_eq hz20
  have hz21 : E12 23 8 = ai_i z4 := (hG15 23 8 (by first | omega | (simp; done) | (simp; omega) | (simp only; omega))).trans hz4
  have ghz21 := gv_eq hz21
  have hz22 : E12 23 9 = ai_i z5 := (hG15 23 9 (by first | omega | (simp; done) | (simp; omega) | (simp only; omega))).trans hz5
  have ghz22 := gv_eq hz22
  have hz23 : E12 81 1 = ai_i z6 := (hG15 81 1 (by first | omega | (simp; done) | (simp; omega) | (simp only; omega))).trans hz6
  have ghz23 := gv_eq hz23
  have hz24 : E12 81 17 = ai_i z7 := (hG15 81 17 (by first | omega | (simp; done) | (simp; omega) | (simp only; omega))).trans hz7
  have ghz24 := gv_eq hz24
  have hz25 : E12 81 34 = ai_i z8 := (hG15 81 34 (by first | omega | (simp; done) | (simp; omega) | (simp only; omega))).trans hz8
  have ghz25 := gv_eq hz25
  have hz26 : E12 81 23 = ai_i z9 := (hG15 81 23 (by first | omega | (simp; done) | (simp; omega) | (simp only; omega))).trans hz9
  have ghz26 := gv_eq hz26
  have hz27 : E12 81 24 = ai_i z10 := (hG15 81 24 (by first | omega | (simp; done) | (simp; omega) | (simp only; omega))).trans hz10
  have ghz27 := gv_eq hz27
  refine Or.inr (Or.inl ⟨rfl, ?_⟩)
  refine w_pop (npc := 743) rfl rfl ?_
  refine w_aload (i := 2) (npc := 744) (v := cr 81) rfl rfl rfl ?_
  refine w_virt (ci := 8) (i := 81) (npc := 747) (a := [cr 81]) (rest := []) rfl rfl (hI14.pl (by decide)) (hI14.T (by decide) rfl) rfl rfl rfl rfl (ct_m_fault (sl := sl) (x := x) (d := d + 19)  hI14 hR17) (Or.inl rfl) (fun k9 v9 T29 E29 nx29 kc29 ks29 hq28 hk29 hv29 => ?_)
  obtain ⟨rfl, rfl, rfl, hI31, hG32, hRz30, z30, rfl, hz30⟩ := hq28
  obtain rfl : kc12 = kc29 := by omega
  obtain rfl : ks12 = ks29 := by omega
  have hN34 := hN16.fr hG32 (by intro i k h; (try simp only at h); omega)
  have hz35 : E29 0 10 = ai_i z1 := (hG32 0 10 (by first | omega | (simp; done) | (simp; omega) | (simp only; omega))).trans hz18
  have ghz35 := gv_eq hz35
  have hz36 : E29 0 11 = ai_i z2 := (hG32 0 11 (by first | omega | (simp; done) | (simp; omega) | (simp only; omega))).trans hz19
  have ghz36 := gv_eq hz36
  have hz37 : E29 0 14 = ai_i z3 := (hG32 0 14 (by first | omega | (simp; done) | (simp; omega) | (simp only; omega))).trans hz20
  have ghz37 := gv_eq hz37
  have hz38 : E29 23 8 = ai_i z4 := (hG32 23 8 (by first | omega | (simp; done) | (simp; omega) | (simp only; omega))).trans hz21
  have ghz38 := gv_eq hz38
  have hz39 : E29 23 9 = ai_i z5 := (hG32 23 9 (by first | omega | (simp; done) | (simp; omega) | (simp only; omega))).trans hz22
  have ghz39 := gv_eq hz39
  have hz40 : E29 81 1 = ai_i z6 := (hG32 81 1 (by first | omega | (simp; done) | (simp; omega) | (simp only; omega))).trans hz23
  have ghz40 := gv_eq hz40
  have hz41 : E29 81 17 = ai_i z7 := (hG32 81 17 (by first | omega | (simp; done) | (simp; omega) | (simp only; omega))).trans hz24
  have ghz41 := gv_eq hz41
  have hz42 : E29 81 34 = ai_i z8 := (hG32 81 34 (by first | omega | (simp; done) | (simp; omega) | (simp only; omega))).trans hz25
  have ghz42 := gv_eq hz42
  have hz43 : E29 81 23 = ai_i z9 := (hG32 81 23 (by first | omega | (simp; done) | (simp; omega) | (simp only; omega))).trans hz26
  have ghz43 := gv_eq hz43
  have hz44 : E29 81 24 = ai_i z10 := (hG32 81 24 (by first | omega | (simp; done) | (simp; omega) | (simp only; omega))).trans hz27
  have ghz44 := gv_eq hz44
  refine Or.inr (Or.inl ⟨rfl, ?_⟩)
  refine w_pop (npc := 748) rfl rfl ?_
  refine w_goto (pt := 1164) rfl ?_
  exact next (u5) (u6) T E29 nx kc12 ks12 hI31 hN34 hRz30 (by omega) (by omega) (by omega) (by omega)
set_option maxRecDepth 16384 in
theorem law_c13 {sl : Int × Int} {x : ai_E} {d A B : Nat} {T : cm_T} {E : cm_E} {nx kc ks : Nat} {L : Int} {sv : Nat → Int} (hsl : sl.1 = L) (hx : ∀ k : Nat, (k : Int) < L → ai_sv x k = ai_i (sv k) ∧ -2147483648 ≤ sv k ∧ sv k ≤ 2147483647) {i : Int} (hi : 0 ≤ i ∧ i + 6 ≤ L ∧ L ≤ 384) (hnx : nx ≤ 1000) (hA : kc + 20 ≤ A) (hB : ks + 2000 ≤ B) (u5 u6 : ai_V) (hI : cs_I T E nx) (hN : hn E) (hR : rl E) (hJ : gv E 0 10 = gv E 81 1 ∧ gv E 0 11 = gv E 81 17 ∧ gv E 0 14 = gv E 81 34 ∧ gv E 23 8 = gv E 81 23 ∧ gv E 23 9 = gv E 81 24)
    (next : ∀ (v5 v6 : ai_V) (T' : cm_T) (E' : cm_E) (nx' kc' ks' : Nat), cs_I T' E' nx' → hn E' → rl E' → (gv E' 0 10 = gv E' 81 1 ∧ gv E' 0 11 = gv E' 81 17 ∧ gv E' 0 14 = gv E' 81 34 ∧ gv E' 23 8 = gv E' 81 23 ∧ gv E' 23 9 = gv E' 81 24) → nx' ≤ nx + 2 → (kc ≤ kc' ∧ kc' ≤ kc + 10) → (ks ≤ ks' ∧ ks' ≤ ks + 500) → cm_wp (ai_find ai_c0 sl) (ai_ev sl (d + 20)) x A B (fun rk rv T' E' nx' => rk = 1 ∧ rv = ai_i 1) 1164 [(6, 0, 0), cr 0, cr 81, cr 104, ai_i i, v5, v6] [] T' E' nx' kc' ks') : cm_wp (ai_find ai_c0 sl) (ai_ev sl (d + 20)) x A B (fun rk rv T' E' nx' => rk = 1 ∧ rv = ai_i 1) 751 [(6, 0, 0), cr 0, cr 81, cr 104, ai_i i, u5, u6] [] T E nx kc ks := by
  obtain ⟨z1, hz1, hz1a, hz1b⟩ := hI.int 0 10 (lo := 1) (hi := 5) (by decide) (by decide) rfl
  have ghz1 := gv_eq hz1
  obtain ⟨z2, hz2, hz2a, hz2b⟩ := hI.int 0 11 (lo := 0) (hi := 400) (by decide) (by decide) rfl
  have ghz2 := gv_eq hz2
  obtain ⟨z3, hz3, hz3a, hz3b⟩ := hI.int 0 14 (lo := 0) (hi := 1) (by decide) (by decide) rfl
  have ghz3 := gv_eq hz3
  obtain ⟨z4, hz4, hz4a, hz4b⟩ := hI.int 23 8 (lo := 0) (hi := 12) (by decide) (by decide) rfl
  have ghz4 := gv_eq hz4
  obtain ⟨z5, hz5, hz5a, hz5b⟩ := hI.int 23 9 (lo := 0) (hi := 8) (by decide) (by decide) rfl
  have ghz5 := gv_eq hz5
  obtain ⟨z6, hz6, hz6a, hz6b⟩ := hI.int 81 1 (lo := 1) (hi := 5) (by decide) (by decide) rfl
  have ghz6 := gv_eq hz6
  obtain ⟨z7, hz7, hz7a, hz7b⟩ := hI.int 81 17 (lo := 0) (hi := 400) (by decide) (by decide) rfl
  have ghz7 := gv_eq hz7
  obtain ⟨z8, hz8, hz8a, hz8b⟩ := hI.int 81 34 (lo := 0) (hi := 1) (by decide) (by decide) rfl
  have ghz8 := gv_eq hz8
  obtain ⟨z9, hz9, hz9a, hz9b⟩ := hI.int 81 23 (lo := 0) (hi := 12) (by decide) (by decide) rfl
  have ghz9 := gv_eq hz9
  obtain ⟨z10, hz10, hz10a, hz10b⟩ := hI.int 81 24 (lo := 0) (hi := 8) (by decide) (by decide) rfl
  have ghz10 := gv_eq hz10
  refine w_aload (i := 1) (npc := 752) (v := cr 0) rfl rfl rfl ?_
  refine w_aload (i := 0) (npc := 753) (v := (6, 0, 0)) rfl rfl rfl ?_
  refine w_iload (i := 4) (npc := 755) rfl rfl ?_
  refine w_const (n := 1) (npc := 756) rfl ?_
  refine w_iadd (npc := 757) rfl (by omega) ?_
  obtain ⟨hx12, hx12a, hx12b⟩ := hx (i + 1 : Int).toNat (by omega)
  refine w_scr (npc := 758) (v := ai_i (sv (i + 1 : Int).toNat)) rfl rfl (by omega) hx12 ?_
  refine w_aload (i := 0) (npc := 759) (v := (6, 0, 0)) rfl rfl rfl ?_
  refine w_iload (i := 4) (npc := 761) rfl rfl ?_
  refine w_const (n := 2) (npc := 762) rfl ?_
  refine w_iadd (npc := 763) rfl (by omega) ?_
  obtain ⟨hx14, hx14a, hx14b⟩ := hx (i + 2 : Int).toNat (by omega)
  refine w_scr (npc := 764) (v := ai_i (sv (i + 2 : Int).toNat)) rfl rfl (by omega) hx14 ?_
  refine w_aload (i := 0) (npc := 765) (v := (6, 0, 0)) rfl rfl rfl ?_
  refine w_iload (i := 4) (npc := 767) rfl rfl ?_
  refine w_const (n := 3) (npc := 768) rfl ?_
  refine w_iadd (npc := 769) rfl (by omega) ?_
  obtain ⟨hx16, hx16a, hx16b⟩ := hx (i + 3 : Int).toNat (by omega)
  refine w_scr (npc := 770) (v := ai_i (sv (i + 3 : Int).toNat)) rfl rfl (by omega) hx16 ?_
  refine w_aload (i := 0) (npc := 771) (v := (6, 0, 0)) rfl rfl rfl ?_
  refine w_iload (i := 4) (npc := 773) rfl rfl ?_
  refine w_const (n := 4) (npc := 774) rfl ?_
  refine w_iadd (npc := 775) rfl (by omega) ?_
  obtain ⟨hx18, hx18a, hx18b⟩ := hx (i + 4 : Int).toNat (by omega)
  refine w_scr (npc := 776) (v := ai_i (sv (i + 4 : Int).toNat)) rfl rfl (by omega) hx18 ?_
  refine w_aload (i := 3) (npc := 777) (v := cr 104) rfl rfl rfl ?_
  refine w_call (npc := 780) (a := [cr 0, ai_i (sv (i + 1 : Int).toNat), ai_i (sv (i + 2 : Int).toNat), ai_i (sv (i + 3 : Int).toNat), ai_i (sv (i + 4 : Int).toNat), cr 104]) (rest := []) rfl rfl rfl rfl rfl (ct_lw_send (sl := sl) (x := x) (d := d + 12) (sv (i + 1 : Int).toNat) (sv (i + 2 : Int).toNat) (sv (i + 3 : Int).toNat) (sv (i + 4 : Int).toNat) hI hN (by omega)) (Or.inr (fun _ _ _ _ _ hq => by have h1 := hq.1; omega)) (fun k9 v9 T20 E20 nx20 kc20 ks20 hq19 hk20 hv20 => ?_)
  obtain ⟨rfl, hnxz21, hnyz21, hI22, hG23, hN24, z21, rfl, hz21⟩ := hq19
  have hR25 := rl.fr hR hG23 (by intro i k h; (try simp only at h); omega)
  have hz26 : E20 0 10 = ai_i z1 := (hG23 0 10 (by first | omega | (simp; done) | (simp; omega) | (simp only; omega))).trans hz1
  have ghz26 := gv_eq hz26
  have hz27 : E20 0 11 = ai_i z2 := (hG23 0 11 (by first | omega | (simp; done) | (simp; omega) | (simp only; omega))).trans hz2
  have ghz27 := gv_eq hz27
  have hz28 : E20 0 14 = ai_i z3 := (hG23 0 14 (by first | omega | (simp; done) | (simp; omega) | (simp only; omega))).trans hz3
  have ghz28 := gv_eq hz28
  have hz29 : E20 23 8 = ai_i z4 := (hG23 23 8 (by first | omega | (simp; done) | (simp; omega) | (simp only; omega))).trans hz4
  have ghz29 := gv_eq hz29
  have hz30 : E20 23 9 = ai_i z5 := (hG23 23 9 (by first | omega | (simp; done) | (simp; omega) | (simp only; omega))).trans hz5
  have ghz30 := gv_eq hz30
  have hz31 : E20 81 1 = ai_i z6 := (hG23 81 1 (by first | omega | (simp; done) | (simp; omega) | (simp only; omega))).trans hz6
  have ghz31 := gv_eq hz31
  have hz32 : E20 81 17 = ai_i z7 := (hG23 81 17 (by first | omega | (simp; done) | (simp; omega) | (simp only; omega))).trans hz7
  have ghz32 := gv_eq hz32
  have hz33 : E20 81 34 = ai_i z8 := (hG23 81 34 (by first | omega | (simp; done) | (simp; omega) | (simp only; omega))).trans hz8
  have ghz33 := gv_eq hz33
  have hz34 : E20 81 23 = ai_i z9 := (hG23 81 23 (by first | omega | (simp; done) | (simp; omega) | (simp only; omega))).trans hz9
  have ghz34 := gv_eq hz34
  have hz35 : E20 81 24 = ai_i z10 := (hG23 81 24 (by first | omega | (simp; done) | (simp; omega) | (simp only; omega))).trans hz10
  have ghz35 := gv_eq hz35
  refine Or.inr (Or.inl ⟨rfl, ?_⟩)
  refine w_istore (i := 5) (npc := 782) (loc' := [(6, 0, 0), cr 0, cr 81, cr 104, ai_i i, ai_i z21, u6]) rfl rfl ?_
  refine w_aload (i := 2) (npc := 783) (v := cr 81) rfl rfl rfl ?_
  refine w_aload (i := 0) (npc := 784) (v := (6, 0, 0)) rfl rfl rfl ?_
  refine w_iload (i := 4) (npc := 786) rfl rfl ?_
  refine w_const (n := 1) (npc := 787) rfl ?_
  refine w_iadd (npc := 788) rfl (by omega) ?_
  obtain ⟨hx37, hx37a, hx37b⟩ := hx (i + 1 : Int).toNat (by omega)
  refine w_scr (npc := 789) (v := ai_i (sv (i + 1 : Int).toNat)) rfl rfl (by omega) hx37 ?_
  refine w_aload (i := 0) (npc := 790) (v := (6, 0, 0)) rfl rfl rfl ?_
  refine w_iload (i := 4) (npc := 792) rfl rfl ?_
  refine w_const (n := 2) (npc := 793) rfl ?_
  refine w_iadd (npc := 794) rfl (by omega) ?_
  obtain ⟨hx39, hx39a, hx39b⟩ := hx (i + 2 : Int).toNat (by omega)
  refine w_scr (npc := 795) (v := ai_i (sv (i + 2 : Int).toNat)) rfl rfl (by omega) hx39 ?_
  refine w_aload (i := 0) (npc := 796) (v := (6, 0, 0)) rfl rfl rfl ?_
  refine w_iload (i := 4) (npc := 798) rfl rfl ?_
  refine w_const (n := 3) (npc := 799) rfl ?_
  refine w_iadd (npc := 800) rfl (by omega) ?_
  obtain ⟨hx41, hx41a, hx41b⟩ := hx (i + 3 : Int).toNat (by omega)
  refine w_scr (npc := 801) (v := ai_i (sv (i + 3 : Int).toNat)) rfl rfl (by omega) hx41 ?_
  refine w_aload (i := 0) (npc := 802) (v := (6, 0, 0)) rfl rfl rfl ?_
  refine w_iload (i := 4) (npc := 804) rfl rfl ?_
  refine w_const (n := 4) (npc := 805) rfl ?_
  refine w_iadd (npc := 806) rfl (by omega) ?_
  obtain ⟨hx43, hx43a, hx43b⟩ := hx (i + 4 : Int).toNat (by omega)
  refine w_scr (npc := 807) (v := ai_i (sv (i + 4 : Int).toNat)) rfl rfl (by omega) hx43 ?_
  refine w_virt (ci := 8) (i := 81) (npc := 810) (a := [cr 81, ai_i (sv (i + 1 : Int).toNat), ai_i (sv (i + 2 : Int).toNat), ai_i (sv (i + 3 : Int).toNat), ai_i (sv (i + 4 : Int).toNat)]) (rest := []) rfl rfl (hI22.pl (by decide)) (hI22.T (by decide) rfl) rfl rfl rfl rfl (ct_m_send (sl := sl) (x := x) (d := d + 14) (sv (i + 1 : Int).toNat) (sv (i + 2 : Int).toNat) (sv (i + 3 : Int).toNat) (sv (i + 4 : Int).toNat) hI22 hR25 (by omega) (by omega) (by omega) (by omega)) (Or.inl rfl) (fun k9 v9 T45 E45 nx45 kc45 ks45 hq44 hk45 hv45 => ?_)
  obtain ⟨rfl, rfl, rfl, hI47, hG48, hRz46, z46, rfl, hz46⟩ := hq44
  obtain rfl : kc20 = kc45 := by omega
  obtain rfl : ks20 = ks45 := by omega
  have hN50 := hN24.fr hG48 (by intro i k h; (try simp only at h); omega)
  have hz51 : E45 0 10 = ai_i z1 := (hG48 0 10 (by first | omega | (simp; done) | (simp; omega) | (simp only; omega))).trans hz26
  have ghz51 := gv_eq hz51
  have hz52 : E45 0 11 = ai_i z2 := (hG48 0 11 (by first | omega | (simp; done) | (simp; omega) | (simp only; omega))).trans hz27
  have ghz52 := gv_eq hz52
  have hz53 : E45 0 14 = ai_i z3 := (hG48 0 14 (by first | omega | (simp; done) | (simp; omega) | (simp only; omega))).trans hz28
  have ghz53 := gv_eq hz53
  have hz54 : E45 23 8 = ai_i z4 := (hG48 23 8 (by first | omega | (simp; done) | (simp; omega) | (simp only; omega))).trans hz29
  have ghz54 := gv_eq hz54
  have hz55 : E45 23 9 = ai_i z5 := (hG48 23 9 (by first | omega | (simp; done) | (simp; omega) | (simp only; omega))).trans hz30
  have ghz55 := gv_eq hz55
  have hz56 : E45 81 1 = ai_i z6 := (hG48 81 1 (by first | omega | (simp; done) | (simp; omega) | (simp only; omega))).trans hz31
  have ghz56 := gv_eq hz56
  have hz57 : E45 81 17 = ai_i z7 := (hG48 81 17 (by first | omega | (simp; done) | (simp; omega) | (simp only; omega))).trans hz32
  have ghz57 := gv_eq hz57
  have hz58 : E45 81 34 = ai_i z8 := (hG48 81 34 (by first | omega | (simp; done) | (simp; omega) | (simp only; omega))).trans hz33
  have ghz58 := gv_eq hz58
  have hz59 : E45 81 23 = ai_i z9 := (hG48 81 23 (by first | omega | (simp; done) | (simp; omega) | (simp only; omega))).trans hz34
  have ghz59 := gv_eq hz59
  have hz60 : E45 81 24 = ai_i z10 := (hG48 81 24 (by first | omega | (simp; done) | (simp; omega) | (simp only; omega))).trans hz35
  have ghz60 := gv_eq hz60
  refine Or.inr (Or.inl ⟨rfl, ?_⟩)
  refine w_istore (i := 6) (npc := 812) (loc' := [(6, 0, 0), cr 0, cr 81, cr 104, ai_i i, ai_i z21, ai_i z46]) rfl rfl ?_
  refine w_goto (pt := 1164) rfl ?_
  exact next (ai_i z21) (ai_i z46) T20 E45 nx20 kc20 ks20 hI47 hN50 hRz46 (by omega) (by omega) (by omega) (by omega)
set_option maxRecDepth 16384 in
theorem law_c14 {sl : Int × Int} {x : ai_E} {d A B : Nat} {T : cm_T} {E : cm_E} {nx kc ks : Nat} {L : Int} {sv : Nat → Int} (hsl : sl.1 = L) (hx : ∀ k : Nat, (k : Int) < L → ai_sv x k = ai_i (sv k) ∧ -2147483648 ≤ sv k ∧ sv k ≤ 2147483647) {i : Int} (hi : 0 ≤ i ∧ i + 6 ≤ L ∧ L ≤ 384) (hnx : nx ≤ 1000) (hA : kc + 20 ≤ A) (hB : ks + 2000 ≤ B) (u5 u6 : ai_V) (hI : cs_I T E nx) (hN : hn E) (hR : rl E) (hJ : gv E 0 10 = gv E 81 1 ∧ gv E 0 11 = gv E 81 17 ∧ gv E 0 14 = gv E 81 34 ∧ gv E 23 8 = gv E 81 23 ∧ gv E 23 9 = gv E 81 24)
    (next : ∀ (v5 v6 : ai_V) (T' : cm_T) (E' : cm_E) (nx' kc' ks' : Nat), cs_I T' E' nx' → hn E' → rl E' → (gv E' 0 10 = gv E' 81 1 ∧ gv E' 0 11 = gv E' 81 17 ∧ gv E' 0 14 = gv E' 81 34 ∧ gv E' 23 8 = gv E' 81 23 ∧ gv E' 23 9 = gv E' 81 24) → nx' ≤ nx + 2 → (kc ≤ kc' ∧ kc' ≤ kc + 10) → (ks ≤ ks' ∧ ks' ≤ ks + 500) → cm_wp (ai_find ai_c0 sl) (ai_ev sl (d + 20)) x A B (fun rk rv T' E' nx' => rk = 1 ∧ rv = ai_i 1) 1164 [(6, 0, 0), cr 0, cr 81, cr 104, ai_i i, v5, v6] [] T' E' nx' kc' ks') : cm_wp (ai_find ai_c0 sl) (ai_ev sl (d + 20)) x A B (fun rk rv T' E' nx' => rk = 1 ∧ rv = ai_i 1) 815 [(6, 0, 0), cr 0, cr 81, cr 104, ai_i i, u5, u6] [] T E nx kc ks := by
  obtain ⟨z1, hz1, hz1a, hz1b⟩ := hI.int 0 10 (lo := 1) (hi := 5) (by decide) (by decide) rfl
  have ghz1 := gv_eq hz1
  obtain ⟨z2, hz2, hz2a, hz2b⟩ := hI.int 0 11 (lo := 0) (hi := 400) (by decide) (by decide) rfl
  have ghz2 := gv_eq hz2
  obtain ⟨z3, hz3, hz3a, hz3b⟩ := hI.int 0 14 (lo := 0) (hi := 1) (by decide) (by decide) rfl
  have ghz3 := gv_eq hz3
  obtain ⟨z4, hz4, hz4a, hz4b⟩ := hI.int 23 8 (lo := 0) (hi := 12) (by decide) (by decide) rfl
  have ghz4 := gv_eq hz4
  obtain ⟨z5, hz5, hz5a, hz5b⟩ := hI.int 23 9 (lo := 0) (hi := 8) (by decide) (by decide) rfl
  have ghz5 := gv_eq hz5
  obtain ⟨z6, hz6, hz6a, hz6b⟩ := hI.int 81 1 (lo := 1) (hi := 5) (by decide) (by decide) rfl
  have ghz6 := gv_eq hz6
  obtain ⟨z7, hz7, hz7a, hz7b⟩ := hI.int 81 17 (lo := 0) (hi := 400) (by decide) (by decide) rfl
  have ghz7 := gv_eq hz7
  obtain ⟨z8, hz8, hz8a, hz8b⟩ := hI.int 81 34 (lo := 0) (hi := 1) (by decide) (by decide) rfl
  have ghz8 := gv_eq hz8
  obtain ⟨z9, hz9, hz9a, hz9b⟩ := hI.int 81 23 (lo := 0) (hi := 12) (by decide) (by decide) rfl
  have ghz9 := gv_eq hz9
  obtain ⟨z10, hz10, hz10a, hz10b⟩ := hI.int 81 24 (lo := 0) (hi := 8) (by decide) (by decide) rfl
  have ghz10 := gv_eq hz10
  refine w_aload (i := 1) (npc := 816) (v := cr 0) rfl rfl rfl ?_
  refine w_aload (i := 0) (npc := 817) (v := (6, 0, 0)) rfl rfl rfl ?_
  refine w_iload (i := 4) (npc := 819) rfl rfl ?_
  refine w_const (n := 1) (npc := 820) rfl ?_
  refine w_iadd (npc := 821) rfl (by omega) ?_
  obtain ⟨hx12, hx12a, hx12b⟩ := hx (i + 1 : Int).toNat (by omega)
  refine w_scr (npc := 822) (v := ai_i (sv (i + 1 : Int).toNat)) rfl rfl (by omega) hx12 ?_
  refine w_aload (i := 0) (npc := 823) (v := (6, 0, 0)) rfl rfl rfl ?_
  refine w_iload (i := 4) (npc := 825) rfl rfl ?_
  refine w_const (n := 2) (npc := 826) rfl ?_
  refine w_iadd (npc := 827) rfl (by omega) ?_
  obtain ⟨hx14, hx14a, hx14b⟩ := hx (i + 2 : Int).toNat (by omega)
  refine w_scr (npc := 828) (v := ai_i (sv (i + 2 : Int).toNat)) rfl rfl (by omega) hx14 ?_
  refine w_aload (i := 0) (npc := 829) (v := (6, 0, 0)) rfl rfl rfl ?_
  refine w_iload (i := 4) (npc := 831) rfl rfl ?_
  refine w_const (n := 3) (npc := 832) rfl ?_
  refine w_iadd (npc := 833) rfl (by omega) ?_
  obtain ⟨hx16, hx16a, hx16b⟩ := hx (i + 3 : Int).toNat (by omega)
  refine w_scr (npc := 834) (v := ai_i (sv (i + 3 : Int).toNat)) rfl rfl (by omega) hx16 ?_
  refine w_aload (i := 3) (npc := 835) (v := cr 104) rfl rfl rfl ?_
  refine w_call (npc := 838) (a := [cr 0, ai_i (sv (i + 1 : Int).toNat), ai_i (sv (i + 2 : Int).toNat), ai_i (sv (i + 3 : Int).toNat), cr 104]) (rest := []) rfl rfl rfl rfl rfl (ct_lw_lacks (sl := sl) (x := x) (d := d + 15) (sv (i + 1 : Int).toNat) (sv (i + 2 : Int).toNat) (sv (i + 3 : Int).toNat) hI hN (by omega)) (Or.inr (fun _ _ _ _ _ hq => by have h1 := hq.1; omega)) (fun k9 v9 T18 E18 nx18 kc18 ks18 hq17 hk18 hv18 => ?_)
  obtain ⟨rfl, hnxz19, hnyz19, hI20, hG21, hN22, z19, rfl, hz19⟩ := hq17
  have hR23 := rl.fr hR hG21 (by intro i k h; (try simp only at h); omega)
  have hz24 : E18 0 10 = ai_i z1 := (hG21 0 10 (by first | omega | (simp; done) | (simp; omega) | (simp only; omega))).trans hz1
  have ghz24 := gv_eq hz24
  have hz25 : E18 0 11 = ai_i z2 := (hG21 0 11 (by first | omega | (simp; done) | (simp; omega) | (simp only; omega))).trans hz2
  have ghz25 := gv_eq hz25
  have hz26 : E18 0 14 = ai_i z3 := (hG21 0 14 (by first | omega | (simp; done) | (simp; omega) | (simp only; omega))).trans hz3
  have ghz26 := gv_eq hz26
  have hz27 : E18 23 8 = ai_i z4 := (hG21 23 8 (by first | omega | (simp; done) | (simp; omega) | (simp only; omega))).trans hz4
  have ghz27 := gv_eq hz27
  have hz28 : E18 23 9 = ai_i z5 := (hG21 23 9 (by first | omega | (simp; done) | (simp; omega) | (simp only; omega))).trans hz5
  have ghz28 := gv_eq hz28
  have hz29 : E18 81 1 = ai_i z6 := (hG21 81 1 (by first | omega | (simp; done) | (simp; omega) | (simp only; omega))).trans hz6
  have ghz29 := gv_eq hz29
  have hz30 : E18 81 17 = ai_i z7 := (hG21 81 17 (by first | omega | (simp; done) | (simp; omega) | (simp only; omega))).trans hz7
  have ghz30 := gv_eq hz30
  have hz31 : E18 81 34 = ai_i z8 := (hG21 81 34 (by first | omega | (simp; done) | (simp; omega) | (simp only; omega))).trans hz8
  have ghz31 := gv_eq hz31
  have hz32 : E18 81 23 = ai_i z9 := (hG21 81 23 (by first | omega | (simp; done) | (simp; omega) | (simp only; omega))).trans hz9
  have ghz32 := gv_eq hz32
  have hz33 : E18 81 24 = ai_i z10 := (hG21 81 24 (by first | omega | (simp; done) | (simp; omega) | (simp only; omega))).trans hz10
  have ghz33 := gv_eq hz33
  refine Or.inr (Or.inl ⟨rfl, ?_⟩)
  refine w_istore (i := 5) (npc := 840) (loc' := [(6, 0, 0), cr 0, cr 81, cr 104, ai_i i, ai_i z19, u6]) rfl rfl ?_
  refine w_aload (i := 2) (npc := 841) (v := cr 81) rfl rfl rfl ?_
  refine w_aload (i := 0) (npc := 842) (v := (6, 0, 0)) rfl rfl rfl ?_
  refine w_iload (i := 4) (npc := 844) rfl rfl ?_
  refine w_const (n := 1) (npc := 845) rfl ?_
  refine w_iadd (npc := 846) rfl (by omega) ?_
  obtain ⟨hx35, hx35a, hx35b⟩ := hx (i + 1 : Int).toNat (by omega)
  refine w_scr (npc := 847) (v := ai_i (sv (i + 1 : Int).toNat)) rfl rfl (by omega) hx35 ?_
  refine w_aload (i := 0) (npc := 848) (v := (6, 0, 0)) rfl rfl rfl ?_
  refine w_iload (i := 4) (npc := 850) rfl rfl ?_
  refine w_const (n := 2) (npc := 851) rfl ?_
  refine w_iadd (npc := 852) rfl (by omega) ?_
  obtain ⟨hx37, hx37a, hx37b⟩ := hx (i + 2 : Int).toNat (by omega)
  refine w_scr (npc := 853) (v := ai_i (sv (i + 2 : Int).toNat)) rfl rfl (by omega) hx37 ?_
  refine w_aload (i := 0) (npc := 854) (v := (6, 0, 0)) rfl rfl rfl ?_
  refine w_iload (i := 4) (npc := 856) rfl rfl ?_
  refine w_const (n := 3) (npc := 857) rfl ?_
  refine w_iadd (npc := 858) rfl (by omega) ?_
  obtain ⟨hx39, hx39a, hx39b⟩ := hx (i + 3 : Int).toNat (by omega)
  refine w_scr (npc := 859) (v := ai_i (sv (i + 3 : Int).toNat)) rfl rfl (by omega) hx39 ?_
  refine w_virt (ci := 8) (i := 81) (npc := 862) (a := [cr 81, ai_i (sv (i + 1 : Int).toNat), ai_i (sv (i + 2 : Int).toNat), ai_i (sv (i + 3 : Int).toNat)]) (rest := []) rfl rfl (hI20.pl (by decide)) (hI20.T (by decide) rfl) rfl rfl rfl rfl (ct_m_lacks (sl := sl) (x := x) (d := d + 14) (sv (i + 1 : Int).toNat) (sv (i + 2 : Int).toNat) (sv (i + 3 : Int).toNat) hI20 hR23 (by omega) (by omega) (by omega)) (Or.inl rfl) (fun k9 v9 T41 E41 nx41 kc41 ks41 hq40 hk41 hv41 => ?_)
  obtain ⟨rfl, rfl, rfl, hI43, hG44, hRz42, z42, rfl, hz42⟩ := hq40
  obtain rfl : kc18 = kc41 := by omega
  obtain rfl : ks18 = ks41 := by omega
  have hN46 := hN22.fr hG44 (by intro i k h; (try simp only at h); omega)
  have hz47 : E41 0 10 = ai_i z1 := (hG44 0 10 (by first | omega | (simp; done) | (simp; omega) | (simp only; omega))).trans hz24
  have ghz47 := gv_eq hz47
  have hz48 : E41 0 11 = ai_i z2 := (hG44 0 11 (by first | omega | (simp; done) | (simp; omega) | (simp only; omega))).trans hz25
  have ghz48 := gv_eq hz48
  have hz49 : E41 0 14 = ai_i z3 := (hG44 0 14 (by first | omega | (simp; done) | (simp; omega) | (simp only; omega))).trans hz26
  have ghz49 := gv_eq hz49
  have hz50 : E41 23 8 = ai_i z4 := (hG44 23 8 (by first | omega | (simp; done) | (simp; omega) | (simp only; omega))).trans hz27
  have ghz50 := gv_eq hz50
  have hz51 : E41 23 9 = ai_i z5 := (hG44 23 9 (by first | omega | (simp; done) | (simp; omega) | (simp only; omega))).trans hz28
  have ghz51 := gv_eq hz51
  have hz52 : E41 81 1 = ai_i z6 := (hG44 81 1 (by first | omega | (simp; done) | (simp; omega) | (simp only; omega))).trans hz29
  have ghz52 := gv_eq hz52
  have hz53 : E41 81 17 = ai_i z7 := (hG44 81 17 (by first | omega | (simp; done) | (simp; omega) | (simp only; omega))).trans hz30
  have ghz53 := gv_eq hz53
  have hz54 : E41 81 34 = ai_i z8 := (hG44 81 34 (by first | omega | (simp; done) | (simp; omega) | (simp only; omega))).trans hz31
  have ghz54 := gv_eq hz54
  have hz55 : E41 81 23 = ai_i z9 := (hG44 81 23 (by first | omega | (simp; done) | (simp; omega) | (simp only; omega))).trans hz32
  have ghz55 := gv_eq hz55
  have hz56 : E41 81 24 = ai_i z10 := (hG44 81 24 (by first | omega | (simp; done) | (simp; omega) | (simp only; omega))).trans hz33
  have ghz56 := gv_eq hz56
  refine Or.inr (Or.inl ⟨rfl, ?_⟩)
  refine w_istore (i := 6) (npc := 864) (loc' := [(6, 0, 0), cr 0, cr 81, cr 104, ai_i i, ai_i z19, ai_i z42]) rfl rfl ?_
  refine w_goto (pt := 1164) rfl ?_
  exact next (ai_i z19) (ai_i z42) T18 E41 nx18 kc18 ks18 hI43 hN46 hRz42 (by omega) (by omega) (by omega) (by omega)
set_option maxRecDepth 16384 in
theorem law_c15 {sl : Int × Int} {x : ai_E} {d A B : Nat} {T : cm_T} {E : cm_E} {nx kc ks : Nat} {L : Int} {sv : Nat → Int} (hsl : sl.1 = L) (hx : ∀ k : Nat, (k : Int) < L → ai_sv x k = ai_i (sv k) ∧ -2147483648 ≤ sv k ∧ sv k ≤ 2147483647) {i : Int} (hi : 0 ≤ i ∧ i + 6 ≤ L ∧ L ≤ 384) (hnx : nx ≤ 1000) (hA : kc + 20 ≤ A) (hB : ks + 2000 ≤ B) (u5 u6 : ai_V) (hI : cs_I T E nx) (hN : hn E) (hR : rl E) (hJ : gv E 0 10 = gv E 81 1 ∧ gv E 0 11 = gv E 81 17 ∧ gv E 0 14 = gv E 81 34 ∧ gv E 23 8 = gv E 81 23 ∧ gv E 23 9 = gv E 81 24)
    (next : ∀ (v5 v6 : ai_V) (T' : cm_T) (E' : cm_E) (nx' kc' ks' : Nat), cs_I T' E' nx' → hn E' → rl E' → (gv E' 0 10 = gv E' 81 1 ∧ gv E' 0 11 = gv E' 81 17 ∧ gv E' 0 14 = gv E' 81 34 ∧ gv E' 23 8 = gv E' 81 23 ∧ gv E' 23 9 = gv E' 81 24) → nx' ≤ nx + 2 → (kc ≤ kc' ∧ kc' ≤ kc + 10) → (ks ≤ ks' ∧ ks' ≤ ks + 500) → cm_wp (ai_find ai_c0 sl) (ai_ev sl (d + 20)) x A B (fun rk rv T' E' nx' => rk = 1 ∧ rv = ai_i 1) 1164 [(6, 0, 0), cr 0, cr 81, cr 104, ai_i i, v5, v6] [] T' E' nx' kc' ks') : cm_wp (ai_find ai_c0 sl) (ai_ev sl (d + 20)) x A B (fun rk rv T' E' nx' => rk = 1 ∧ rv = ai_i 1) 867 [(6, 0, 0), cr 0, cr 81, cr 104, ai_i i, u5, u6] [] T E nx kc ks := by
  obtain ⟨z1, hz1, hz1a, hz1b⟩ := hI.int 0 10 (lo := 1) (hi := 5) (by decide) (by decide) rfl
  have ghz1 := gv_eq hz1
  obtain ⟨z2, hz2, hz2a, hz2b⟩ := hI.int 0 11 (lo := 0) (hi := 400) (by decide) (by decide) rfl
  have ghz2 := gv_eq hz2
  obtain ⟨z3, hz3, hz3a, hz3b⟩ := hI.int 0 14 (lo := 0) (hi := 1) (by decide) (by decide) rfl
  have ghz3 := gv_eq hz3
  obtain ⟨z4, hz4, hz4a, hz4b⟩ := hI.int 23 8 (lo := 0) (hi := 12) (by decide) (by decide) rfl
  have ghz4 := gv_eq hz4
  obtain ⟨z5, hz5, hz5a, hz5b⟩ := hI.int 23 9 (lo := 0) (hi := 8) (by decide) (by decide) rfl
  have ghz5 := gv_eq hz5
  obtain ⟨z6, hz6, hz6a, hz6b⟩ := hI.int 81 1 (lo := 1) (hi := 5) (by decide) (by decide) rfl
  have ghz6 := gv_eq hz6
  obtain ⟨z7, hz7, hz7a, hz7b⟩ := hI.int 81 17 (lo := 0) (hi := 400) (by decide) (by decide) rfl
  have ghz7 := gv_eq hz7
  obtain ⟨z8, hz8, hz8a, hz8b⟩ := hI.int 81 34 (lo := 0) (hi := 1) (by decide) (by decide) rfl
  have ghz8 := gv_eq hz8
  obtain ⟨z9, hz9, hz9a, hz9b⟩ := hI.int 81 23 (lo := 0) (hi := 12) (by decide) (by decide) rfl
  have ghz9 := gv_eq hz9
  obtain ⟨z10, hz10, hz10a, hz10b⟩ := hI.int 81 24 (lo := 0) (hi := 8) (by decide) (by decide) rfl
  have ghz10 := gv_eq hz10
  refine w_aload (i := 1) (npc := 868) (v := cr 0) rfl rfl rfl ?_
  refine w_aload (i := 0) (npc := 869) (v := (6, 0, 0)) rfl rfl rfl ?_
  refine w_iload (i := 4) (npc := 871) rfl rfl ?_
  refine w_const (n := 1) (npc := 872) rfl ?_
  refine w_iadd (npc := 873) rfl (by omega) ?_
  obtain ⟨hx12, hx12a, hx12b⟩ := hx (i + 1 : Int).toNat (by omega)
  refine w_scr (npc := 874) (v := ai_i (sv (i + 1 : Int).toNat)) rfl rfl (by omega) hx12 ?_
  refine w_aload (i := 0) (npc := 875) (v := (6, 0, 0)) rfl rfl rfl ?_
  refine w_iload (i := 4) (npc := 877) rfl rfl ?_
  refine w_const (n := 2) (npc := 878) rfl ?_
  refine w_iadd (npc := 879) rfl (by omega) ?_
  obtain ⟨hx14, hx14a, hx14b⟩ := hx (i + 2 : Int).toNat (by omega)
  refine w_scr (npc := 880) (v := ai_i (sv (i + 2 : Int).toNat)) rfl rfl (by omega) hx14 ?_
  refine w_aload (i := 3) (npc := 881) (v := cr 104) rfl rfl rfl ?_
  refine w_call (npc := 884) (a := [cr 0, ai_i (sv (i + 1 : Int).toNat), ai_i (sv (i + 2 : Int).toNat), cr 104]) (rest := []) rfl rfl rfl rfl rfl (ct_lw_fewest (sl := sl) (x := x) (d := d + 15) (sv (i + 1 : Int).toNat) (sv (i + 2 : Int).toNat) hI hN (by omega)) (Or.inr (fun _ _ _ _ _ hq => by have h1 := hq.1; omega)) (fun k9 v9 T16 E16 nx16 kc16 ks16 hq15 hk16 hv16 => ?_)
  obtain ⟨rfl, hnxz17, hnyz17, hI18, hG19, hN20, z17, rfl, hz17⟩ := hq15
  have hR21 := rl.fr hR hG19 (by intro i k h; (try simp only at h); omega)
  have hz22 : E16 0 10 = ai_i z1 := (hG19 0 10 (by first | omega | (simp; done) | (simp; omega) | (simp only; omega))).trans hz1
  have ghz22 := gv_eq hz22
  have hz23 : E16 0 11 = ai_i z2 := (hG19 0 11 (by first | omega | (simp; done) | (simp; omega) | (simp only; omega))).trans hz2
  have ghz23 := gv_eq hz23
  have hz24 : E16 0 14 = ai_i z3 := (hG19 0 14 (by first | omega | (simp; done) | (simp; omega) | (simp only; omega))).trans hz3
  have ghz24 := gv_eq hz24
  have hz25 : E16 23 8 = ai_i z4 := (hG19 23 8 (by first | omega | (simp; done) | (simp; omega) | (simp only; omega))).trans hz4
  have ghz25 := gv_eq hz25
  have hz26 : E16 23 9 = ai_i z5 := (hG19 23 9 (by first | omega | (simp; done) | (simp; omega) | (simp only; omega))).trans hz5
  have ghz26 := gv_eq hz26
  have hz27 : E16 81 1 = ai_i z6 := (hG19 81 1 (by first | omega | (simp; done) | (simp; omega) | (simp only; omega))).trans hz6
  have ghz27 := gv_eq hz27
  have hz28 : E16 81 17 = ai_i z7 := (hG19 81 17 (by first | omega | (simp; done) | (simp; omega) | (simp only; omega))).trans hz7
  have ghz28 := gv_eq hz28
  have hz29 : E16 81 34 = ai_i z8 := (hG19 81 34 (by first | omega | (simp; done) | (simp; omega) | (simp only; omega))).trans hz8
  have ghz29 := gv_eq hz29
  have hz30 : E16 81 23 = ai_i z9 := (hG19 81 23 (by first | omega | (simp; done) | (simp; omega) | (simp only; omega))).trans hz9
  have ghz30 := gv_eq hz30
  have hz31 : E16 81 24 = ai_i z10 := (hG19 81 24 (by first | omega | (simp; done) | (simp; omega) | (simp only; omega))).trans hz10
  have ghz31 := gv_eq hz31
  refine Or.inr (Or.inl ⟨rfl, ?_⟩)
  refine w_istore (i := 5) (npc := 886) (loc' := [(6, 0, 0), cr 0, cr 81, cr 104, ai_i i, ai_i z17, u6]) rfl rfl ?_
  refine w_aload (i := 2) (npc := 887) (v := cr 81) rfl rfl rfl ?_
  refine w_aload (i := 0) (npc := 888) (v := (6, 0, 0)) rfl rfl rfl ?_
  refine w_iload (i := 4) (npc := 890) rfl rfl ?_
  refine w_const (n := 1) (npc := 891) rfl ?_
  refine w_iadd (npc := 892) rfl (by omega) ?_
  obtain ⟨hx33, hx33a, hx33b⟩ := hx (i + 1 : Int).toNat (by omega)
  refine w_scr (npc := 893) (v := ai_i (sv (i + 1 : Int).toNat)) rfl rfl (by omega) hx33 ?_
  refine w_aload (i := 0) (npc := 894) (v := (6, 0, 0)) rfl rfl rfl ?_
  refine w_iload (i := 4) (npc := 896) rfl rfl ?_
  refine w_const (n := 2) (npc := 897) rfl ?_
  refine w_iadd (npc := 898) rfl (by omega) ?_
  obtain ⟨hx35, hx35a, hx35b⟩ := hx (i + 2 : Int).toNat (by omega)
  refine w_scr (npc := 899) (v := ai_i (sv (i + 2 : Int).toNat)) rfl rfl (by omega) hx35 ?_
  refine w_virt (ci := 8) (i := 81) (npc := 902) (a := [cr 81, ai_i (sv (i + 1 : Int).toNat), ai_i (sv (i + 2 : Int).toNat)]) (rest := []) rfl rfl (hI18.pl (by decide)) (hI18.T (by decide) rfl) rfl rfl rfl rfl (ct_m_fewest (sl := sl) (x := x) (d := d + 14) (sv (i + 1 : Int).toNat) (sv (i + 2 : Int).toNat) hI18 hR21 (by omega) (by omega)) (Or.inl rfl) (fun k9 v9 T37 E37 nx37 kc37 ks37 hq36 hk37 hv37 => ?_)
  obtain ⟨rfl, rfl, rfl, hI39, hG40, hRz38, z38, rfl, hz38⟩ := hq36
  obtain rfl : kc16 = kc37 := by omega
  obtain rfl : ks16 = ks37 := by omega
  have hN42 := hN20.fr hG40 (by intro i k h; (try simp only at h); omega)
  have hz43 : E37 0 10 = ai_i z1 := (hG40 0 10 (by first | omega | (simp; done) | (simp; omega) | (simp only; omega))).trans hz22
  have ghz43 := gv_eq hz43
  have hz44 : E37 0 11 = ai_i z2 := (hG40 0 11 (by first | omega | (simp; done) | (simp; omega) | (simp only; omega))).trans hz23
  have ghz44 := gv_eq hz44
  have hz45 : E37 0 14 = ai_i z3 := (hG40 0 14 (by first | omega | (simp; done) | (simp; omega) | (simp only; omega))).trans hz24
  have ghz45 := gv_eq hz45
  have hz46 : E37 23 8 = ai_i z4 := (hG40 23 8 (by first | omega | (simp; done) | (simp; omega) | (simp only; omega))).trans hz25
  have ghz46 := gv_eq hz46
  have hz47 : E37 23 9 = ai_i z5 := (hG40 23 9 (by first | omega | (simp; done) | (simp; omega) | (simp only; omega))).trans hz26
  have ghz47 := gv_eq hz47
  have hz48 : E37 81 1 = ai_i z6 := (hG40 81 1 (by first | omega | (simp; done) | (simp; omega) | (simp only; omega))).trans hz27
  have ghz48 := gv_eq hz48
  have hz49 : E37 81 17 = ai_i z7 := (hG40 81 17 (by first | omega | (simp; done) | (simp; omega) | (simp only; omega))).trans hz28
  have ghz49 := gv_eq hz49
  have hz50 : E37 81 34 = ai_i z8 := (hG40 81 34 (by first | omega | (simp; done) | (simp; omega) | (simp only; omega))).trans hz29
  have ghz50 := gv_eq hz50
  have hz51 : E37 81 23 = ai_i z9 := (hG40 81 23 (by first | omega | (simp; done) | (simp; omega) | (simp only; omega))).trans hz30
  have ghz51 := gv_eq hz51
  have hz52 : E37 81 24 = ai_i z10 := (hG40 81 24 (by first | omega | (simp; done) | (simp; omega) | (simp only; omega))).trans hz31
  have ghz52 := gv_eq hz52
  refine Or.inr (Or.inl ⟨rfl, ?_⟩)
  refine w_istore (i := 6) (npc := 904) (loc' := [(6, 0, 0), cr 0, cr 81, cr 104, ai_i i, ai_i z17, ai_i z38]) rfl rfl ?_
  refine w_goto (pt := 1164) rfl ?_
  exact next (ai_i z17) (ai_i z38) T16 E37 nx16 kc16 ks16 hI39 hN42 hRz38 (by omega) (by omega) (by omega) (by omega)
set_option maxRecDepth 16384 in
theorem law_c16 {sl : Int × Int} {x : ai_E} {d A B : Nat} {T : cm_T} {E : cm_E} {nx kc ks : Nat} {L : Int} {sv : Nat → Int} (hsl : sl.1 = L) (hx : ∀ k : Nat, (k : Int) < L → ai_sv x k = ai_i (sv k) ∧ -2147483648 ≤ sv k ∧ sv k ≤ 2147483647) {i : Int} (hi : 0 ≤ i ∧ i + 6 ≤ L ∧ L ≤ 384) (hnx : nx ≤ 1000) (hA : kc + 20 ≤ A) (hB : ks + 2000 ≤ B) (u5 u6 : ai_V) (hI : cs_I T E nx) (hN : hn E) (hR : rl E) (hJ : gv E 0 10 = gv E 81 1 ∧ gv E 0 11 = gv E 81 17 ∧ gv E 0 14 = gv E 81 34 ∧ gv E 23 8 = gv E 81 23 ∧ gv E 23 9 = gv E 81 24)
    (next : ∀ (v5 v6 : ai_V) (T' : cm_T) (E' : cm_E) (nx' kc' ks' : Nat), cs_I T' E' nx' → hn E' → rl E' → (gv E' 0 10 = gv E' 81 1 ∧ gv E' 0 11 = gv E' 81 17 ∧ gv E' 0 14 = gv E' 81 34 ∧ gv E' 23 8 = gv E' 81 23 ∧ gv E' 23 9 = gv E' 81 24) → nx' ≤ nx + 2 → (kc ≤ kc' ∧ kc' ≤ kc + 10) → (ks ≤ ks' ∧ ks' ≤ ks + 500) → cm_wp (ai_find ai_c0 sl) (ai_ev sl (d + 20)) x A B (fun rk rv T' E' nx' => rk = 1 ∧ rv = ai_i 1) 1164 [(6, 0, 0), cr 0, cr 81, cr 104, ai_i i, v5, v6] [] T' E' nx' kc' ks') : cm_wp (ai_find ai_c0 sl) (ai_ev sl (d + 20)) x A B (fun rk rv T' E' nx' => rk = 1 ∧ rv = ai_i 1) 907 [(6, 0, 0), cr 0, cr 81, cr 104, ai_i i, u5, u6] [] T E nx kc ks := by
  obtain ⟨z1, hz1, hz1a, hz1b⟩ := hI.int 0 10 (lo := 1) (hi := 5) (by decide) (by decide) rfl
  have ghz1 := gv_eq hz1
  obtain ⟨z2, hz2, hz2a, hz2b⟩ := hI.int 0 11 (lo := 0) (hi := 400) (by decide) (by decide) rfl
  have ghz2 := gv_eq hz2
  obtain ⟨z3, hz3, hz3a, hz3b⟩ := hI.int 0 14 (lo := 0) (hi := 1) (by decide) (by decide) rfl
  have ghz3 := gv_eq hz3
  obtain ⟨z4, hz4, hz4a, hz4b⟩ := hI.int 23 8 (lo := 0) (hi := 12) (by decide) (by decide) rfl
  have ghz4 := gv_eq hz4
  obtain ⟨z5, hz5, hz5a, hz5b⟩ := hI.int 23 9 (lo := 0) (hi := 8) (by decide) (by decide) rfl
  have ghz5 := gv_eq hz5
  obtain ⟨z6, hz6, hz6a, hz6b⟩ := hI.int 81 1 (lo := 1) (hi := 5) (by decide) (by decide) rfl
  have ghz6 := gv_eq hz6
  obtain ⟨z7, hz7, hz7a, hz7b⟩ := hI.int 81 17 (lo := 0) (hi := 400) (by decide) (by decide) rfl
  have ghz7 := gv_eq hz7
  obtain ⟨z8, hz8, hz8a, hz8b⟩ := hI.int 81 34 (lo := 0) (hi := 1) (by decide) (by decide) rfl
  have ghz8 := gv_eq hz8
  obtain ⟨z9, hz9, hz9a, hz9b⟩ := hI.int 81 23 (lo := 0) (hi := 12) (by decide) (by decide) rfl
  have ghz9 := gv_eq hz9
  obtain ⟨z10, hz10, hz10a, hz10b⟩ := hI.int 81 24 (lo := 0) (hi := 8) (by decide) (by decide) rfl
  have ghz10 := gv_eq hz10
  refine w_aload (i := 1) (npc := 908) (v := cr 0) rfl rfl rfl ?_
  refine w_aload (i := 0) (npc := 909) (v := (6, 0, 0)) rfl rfl rfl ?_
  refine w_iload (i := 4) (npc := 911) rfl rfl ?_
  refine w_const (n := 1) (npc := 912) rfl ?_
  refine w_iadd (npc := 913) rfl (by omega) ?_
  obtain ⟨hx12, hx12a, hx12b⟩ := hx (i + 1 : Int).toNat (by omega)
  refine w_scr (npc := 914) (v := ai_i (sv (i + 1 : Int).toNat)) rfl rfl (by omega) hx12 ?_
  refine w_aload (i := 0) (npc := 915) (v := (6, 0, 0)) rfl rfl rfl ?_
  refine w_iload (i := 4) (npc := 917) rfl rfl ?_
  refine w_const (n := 2) (npc := 918) rfl ?_
  refine w_iadd (npc := 919) rfl (by omega) ?_
  obtain ⟨hx14, hx14a, hx14b⟩ := hx (i + 2 : Int).toNat (by omega)
  refine w_scr (npc := 920) (v := ai_i (sv (i + 2 : Int).toNat)) rfl rfl (by omega) hx14 ?_
  refine w_aload (i := 3) (npc := 921) (v := cr 104) rfl rfl rfl ?_
  refine w_call (npc := 924) (a := [cr 0, ai_i (sv (i + 1 : Int).toNat), ai_i (sv (i + 2 : Int).toNat), cr 104]) (rest := []) rfl rfl rfl rfl rfl (ct_lw_alike (sl := sl) (x := x) (d := d + 15) (sv (i + 1 : Int).toNat) (sv (i + 2 : Int).toNat) hI hN (by omega)) (Or.inr (fun _ _ _ _ _ hq => by have h1 := hq.1; omega)) (fun k9 v9 T16 E16 nx16 kc16 ks16 hq15 hk16 hv16 => ?_)
  obtain ⟨rfl, hnxz17, hnyz17, hI18, hG19, hN20, z17, rfl, hz17⟩ := hq15
  have hR21 := rl.fr hR hG19 (by intro i k h; (try simp only at h); omega)
  have hz22 : E16 0 10 = ai_i z1 := (hG19 0 10 (by first | omega | (simp; done) | (simp; omega) | (simp only; omega))).trans hz1
  have ghz22 := gv_eq hz22
  have hz23 : E16 0 11 = ai_i z2 := (hG19 0 11 (by first | omega | (simp; done) | (simp; omega) | (simp only; omega))).trans hz2
  have ghz23 := gv_eq hz23
  have hz24 : E16 0 14 = ai_i z3 := (hG19 0 14 (by first | omega | (simp; done) | (simp; omega) | (simp only; omega))).trans hz3
  have ghz24 := gv_eq hz24
  have hz25 : E16 23 8 = ai_i z4 := (hG19 23 8 (by first | omega | (simp; done) | (simp; omega) | (simp only; omega))).trans hz4
  have ghz25 := gv_eq hz25
  have hz26 : E16 23 9 = ai_i z5 := (hG19 23 9 (by first | omega | (simp; done) | (simp; omega) | (simp only; omega))).trans hz5
  have ghz26 := gv_eq hz26
  have hz27 : E16 81 1 = ai_i z6 := (hG19 81 1 (by first | omega | (simp; done) | (simp; omega) | (simp only; omega))).trans hz6
  have ghz27 := gv_eq hz27
  have hz28 : E16 81 17 = ai_i z7 := (hG19 81 17 (by first | omega | (simp; done) | (simp; omega) | (simp only; omega))).trans hz7
  have ghz28 := gv_eq hz28
  have hz29 : E16 81 34 = ai_i z8 := (hG19 81 34 (by first | omega | (simp; done) | (simp; omega) | (simp only; omega))).trans hz8
  have ghz29 := gv_eq hz29
  have hz30 : E16 81 23 = ai_i z9 := (hG19 81 23 (by first | omega | (simp; done) | (simp; omega) | (simp only; omega))).trans hz9
  have ghz30 := gv_eq hz30
  have hz31 : E16 81 24 = ai_i z10 := (hG19 81 24 (by first | omega | (simp; done) | (simp; omega) | (simp only; omega))).trans hz10
  have ghz31 := gv_eq hz31
  refine Or.inr (Or.inl ⟨rfl, ?_⟩)
  refine w_istore (i := 5) (npc := 926) (loc' := [(6, 0, 0), cr 0, cr 81, cr 104, ai_i i, ai_i z17, u6]) rfl rfl ?_
  refine w_aload (i := 2) (npc := 927) (v := cr 81) rfl rfl rfl ?_
  refine w_aload (i := 0) (npc := 928) (v := (6, 0, 0)) rfl rfl rfl ?_
  refine w_iload (i := 4) (npc := 930) rfl rfl ?_
  refine w_const (n := 1) (npc := 931) rfl ?_
  refine w_iadd (npc := 932) rfl (by omega) ?_
  obtain ⟨hx33, hx33a, hx33b⟩ := hx (i + 1 : Int).toNat (by omega)
  refine w_scr (npc := 933) (v := ai_i (sv (i + 1 : Int).toNat)) rfl rfl (by omega) hx33 ?_
  refine w_aload (i := 0) (npc := 934) (v := (6, 0, 0)) rfl rfl rfl ?_
  refine w_iload (i := 4) (npc := 936) rfl rfl ?_
  refine w_const (n := 2) (npc := 937) rfl ?_
  refine w_iadd (npc := 938) rfl (by omega) ?_
  obtain ⟨hx35, hx35a, hx35b⟩ := hx (i + 2 : Int).toNat (by omega)
  refine w_scr (npc := 939) (v := ai_i (sv (i + 2 : Int).toNat)) rfl rfl (by omega) hx35 ?_
  refine w_virt (ci := 8) (i := 81) (npc := 942) (a := [cr 81, ai_i (sv (i + 1 : Int).toNat), ai_i (sv (i + 2 : Int).toNat)]) (rest := []) rfl rfl (hI18.pl (by decide)) (hI18.T (by decide) rfl) rfl rfl rfl rfl (ct_m_alike (sl := sl) (x := x) (d := d + 14) (sv (i + 1 : Int).toNat) (sv (i + 2 : Int).toNat) hI18 hR21 (by omega) (by omega)) (Or.inl rfl) (fun k9 v9 T37 E37 nx37 kc37 ks37 hq36 hk37 hv37 => ?_)
  obtain ⟨rfl, rfl, rfl, hI39, hG40, hRz38, z38, rfl, hz38⟩ := hq36
  obtain rfl : kc16 = kc37 := by omega
  obtain rfl : ks16 = ks37 := by omega
  have hN42 := hN20.fr hG40 (by intro i k h; (try simp only at h); omega)
  have hz43 : E37 0 10 = ai_i z1 := (hG40 0 10 (by first | omega | (simp; done) | (simp; omega) | (simp only; omega))).trans hz22
  have ghz43 := gv_eq hz43
  have hz44 : E37 0 11 = ai_i z2 := (hG40 0 11 (by first | omega | (simp; done) | (simp; omega) | (simp only; omega))).trans hz23
  have ghz44 := gv_eq hz44
  have hz45 : E37 0 14 = ai_i z3 := (hG40 0 14 (by first | omega | (simp; done) | (simp; omega) | (simp only; omega))).trans hz24
  have ghz45 := gv_eq hz45
  have hz46 : E37 23 8 = ai_i z4 := (hG40 23 8 (by first | omega | (simp; done) | (simp; omega) | (simp only; omega))).trans hz25
  have ghz46 := gv_eq hz46
  have hz47 : E37 23 9 = ai_i z5 := (hG40 23 9 (by first | omega | (simp; done) | (simp; omega) | (simp only; omega))).trans hz26
  have ghz47 := gv_eq hz47
  have hz48 : E37 81 1 = ai_i z6 := (hG40 81 1 (by first | omega | (simp; done) | (simp; omega) | (simp only; omega))).trans hz27
  have ghz48 := gv_eq hz48
  have hz49 : E37 81 17 = ai_i z7 := (hG40 81 17 (by first | omega | (simp; done) | (simp; omega) | (simp only; omega))).trans hz28
  have ghz49 := gv_eq hz49
  have hz50 : E37 81 34 = ai_i z8 := (hG40 81 34 (by first | omega | (simp; done) | (simp; omega) | (simp only; omega))).trans hz29
  have ghz50 := gv_eq hz50
  have hz51 : E37 81 23 = ai_i z9 := (hG40 81 23 (by first | omega | (simp; done) | (simp; omega) | (simp only; omega))).trans hz30
  have ghz51 := gv_eq hz51
  have hz52 : E37 81 24 = ai_i z10 := (hG40 81 24 (by first | omega | (simp; done) | (simp; omega) | (simp only; omega))).trans hz31
  have ghz52 := gv_eq hz52
  refine Or.inr (Or.inl ⟨rfl, ?_⟩)
  refine w_istore (i := 6) (npc := 944) (loc' := [(6, 0, 0), cr 0, cr 81, cr 104, ai_i i, ai_i z17, ai_i z38]) rfl rfl ?_
  refine w_goto (pt := 1164) rfl ?_
  exact next (ai_i z17) (ai_i z38) T16 E37 nx16 kc16 ks16 hI39 hN42 hRz38 (by omega) (by omega) (by omega) (by omega)
set_option maxRecDepth 16384 in
theorem law_c17 {sl : Int × Int} {x : ai_E} {d A B : Nat} {T : cm_T} {E : cm_E} {nx kc ks : Nat} {L : Int} {sv : Nat → Int} (hsl : sl.1 = L) (hx : ∀ k : Nat, (k : Int) < L → ai_sv x k = ai_i (sv k) ∧ -2147483648 ≤ sv k ∧ sv k ≤ 2147483647) {i : Int} (hi : 0 ≤ i ∧ i + 6 ≤ L ∧ L ≤ 384) (hnx : nx ≤ 1000) (hA : kc + 20 ≤ A) (hB : ks + 2000 ≤ B) (u5 u6 : ai_V) (hI : cs_I T E nx) (hN : hn E) (hR : rl E) (hJ : gv E 0 10 = gv E 81 1 ∧ gv E 0 11 = gv E 81 17 ∧ gv E 0 14 = gv E 81 34 ∧ gv E 23 8 = gv E 81 23 ∧ gv E 23 9 = gv E 81 24)
    (next : ∀ (v5 v6 : ai_V) (T' : cm_T) (E' : cm_E) (nx' kc' ks' : Nat), cs_I T' E' nx' → hn E' → rl E' → (gv E' 0 10 = gv E' 81 1 ∧ gv E' 0 11 = gv E' 81 17 ∧ gv E' 0 14 = gv E' 81 34 ∧ gv E' 23 8 = gv E' 81 23 ∧ gv E' 23 9 = gv E' 81 24) → nx' ≤ nx + 2 → (kc ≤ kc' ∧ kc' ≤ kc + 10) → (ks ≤ ks' ∧ ks' ≤ ks + 500) → cm_wp (ai_find ai_c0 sl) (ai_ev sl (d + 20)) x A B (fun rk rv T' E' nx' => rk = 1 ∧ rv = ai_i 1) 1164 [(6, 0, 0), cr 0, cr 81, cr 104, ai_i i, v5, v6] [] T' E' nx' kc' ks') : cm_wp (ai_find ai_c0 sl) (ai_ev sl (d + 20)) x A B (fun rk rv T' E' nx' => rk = 1 ∧ rv = ai_i 1) 947 [(6, 0, 0), cr 0, cr 81, cr 104, ai_i i, u5, u6] [] T E nx kc ks := by
  obtain ⟨z1, hz1, hz1a, hz1b⟩ := hI.int 0 10 (lo := 1) (hi := 5) (by decide) (by decide) rfl
  have ghz1 := gv_eq hz1
  obtain ⟨z2, hz2, hz2a, hz2b⟩ := hI.int 0 11 (lo := 0) (hi := 400) (by decide) (by decide) rfl
  have ghz2 := gv_eq hz2
  obtain ⟨z3, hz3, hz3a, hz3b⟩ := hI.int 0 14 (lo := 0) (hi := 1) (by decide) (by decide) rfl
  have ghz3 := gv_eq hz3
  obtain ⟨z4, hz4, hz4a, hz4b⟩ := hI.int 23 8 (lo := 0) (hi := 12) (by decide) (by decide) rfl
  have ghz4 := gv_eq hz4
  obtain ⟨z5, hz5, hz5a, hz5b⟩ := hI.int 23 9 (lo := 0) (hi := 8) (by decide) (by decide) rfl
  have ghz5 := gv_eq hz5
  obtain ⟨z6, hz6, hz6a, hz6b⟩ := hI.int 81 1 (lo := 1) (hi := 5) (by decide) (by decide) rfl
  have ghz6 := gv_eq hz6
  obtain ⟨z7, hz7, hz7a, hz7b⟩ := hI.int 81 17 (lo := 0) (hi := 400) (by decide) (by decide) rfl
  have ghz7 := gv_eq hz7
  obtain ⟨z8, hz8, hz8a, hz8b⟩ := hI.int 81 34 (lo := 0) (hi := 1) (by decide) (by decide) rfl
  have ghz8 := gv_eq hz8
  obtain ⟨z9, hz9, hz9a, hz9b⟩ := hI.int 81 23 (lo := 0) (hi := 12) (by decide) (by decide) rfl
  have ghz9 := gv_eq hz9
  obtain ⟨z10, hz10, hz10a, hz10b⟩ := hI.int 81 24 (lo := 0) (hi := 8) (by decide) (by decide) rfl
  have ghz10 := gv_eq hz10
  refine w_aload (i := 1) (npc := 948) (v := cr 0) rfl rfl rfl ?_
  refine w_aload (i := 0) (npc := 949) (v := (6, 0, 0)) rfl rfl rfl ?_
  refine w_iload (i := 4) (npc := 951) rfl rfl ?_
  refine w_const (n := 1) (npc := 952) rfl ?_
  refine w_iadd (npc := 953) rfl (by omega) ?_
  obtain ⟨hx12, hx12a, hx12b⟩ := hx (i + 1 : Int).toNat (by omega)
  refine w_scr (npc := 954) (v := ai_i (sv (i + 1 : Int).toNat)) rfl rfl (by omega) hx12 ?_
  refine w_aload (i := 0) (npc := 955) (v := (6, 0, 0)) rfl rfl rfl ?_
  refine w_iload (i := 4) (npc := 957) rfl rfl ?_
  refine w_const (n := 2) (npc := 958) rfl ?_
  refine w_iadd (npc := 959) rfl (by omega) ?_
  obtain ⟨hx14, hx14a, hx14b⟩ := hx (i + 2 : Int).toNat (by omega)
  refine w_scr (npc := 960) (v := ai_i (sv (i + 2 : Int).toNat)) rfl rfl (by omega) hx14 ?_
  refine w_aload (i := 3) (npc := 961) (v := cr 104) rfl rfl rfl ?_
  refine w_call (npc := 964) (a := [cr 0, ai_i (sv (i + 1 : Int).toNat), ai_i (sv (i + 2 : Int).toNat), cr 104]) (rest := []) rfl rfl rfl rfl rfl (ct_lw_whose (sl := sl) (x := x) (d := d + 11) (sv (i + 1 : Int).toNat) (sv (i + 2 : Int).toNat) hI hN (by omega)) (Or.inr (fun _ _ _ _ _ hq => by have h1 := hq.1; omega)) (fun k9 v9 T16 E16 nx16 kc16 ks16 hq15 hk16 hv16 => ?_)
  obtain ⟨rfl, hnxz17, hnyz17, hI18, hG19, hN20, z17, rfl, hz17⟩ := hq15
  have hR21 := rl.fr hR hG19 (by intro i k h; (try simp only at h); omega)
  have hz22 : E16 0 10 = ai_i z1 := (hG19 0 10 (by first | omega | (simp; done) | (simp; omega) | (simp only; omega))).trans hz1
  have ghz22 := gv_eq hz22
  have hz23 : E16 0 11 = ai_i z2 := (hG19 0 11 (by first | omega | (simp; done) | (simp; omega) | (simp only; omega))).trans hz2
  have ghz23 := gv_eq hz23
  have hz24 : E16 0 14 = ai_i z3 := (hG19 0 14 (by first | omega | (simp; done) | (simp; omega) | (simp only; omega))).trans hz3
  have ghz24 := gv_eq hz24
  have hz25 : E16 23 8 = ai_i z4 := (hG19 23 8 (by first | omega | (simp; done) | (simp; omega) | (simp only; omega))).trans hz4
  have ghz25 := gv_eq hz25
  have hz26 : E16 23 9 = ai_i z5 := (hG19 23 9 (by first | omega | (simp; done) | (simp; omega) | (simp only; omega))).trans hz5
  have ghz26 := gv_eq hz26
  have hz27 : E16 81 1 = ai_i z6 := (hG19 81 1 (by first | omega | (simp; done) | (simp; omega) | (simp only; omega))).trans hz6
  have ghz27 := gv_eq hz27
  have hz28 : E16 81 17 = ai_i z7 := (hG19 81 17 (by first | omega | (simp; done) | (simp; omega) | (simp only; omega))).trans hz7
  have ghz28 := gv_eq hz28
  have hz29 : E16 81 34 = ai_i z8 := (hG19 81 34 (by first | omega | (simp; done) | (simp; omega) | (simp only; omega))).trans hz8
  have ghz29 := gv_eq hz29
  have hz30 : E16 81 23 = ai_i z9 := (hG19 81 23 (by first | omega | (simp; done) | (simp; omega) | (simp only; omega))).trans hz9
  have ghz30 := gv_eq hz30
  have hz31 : E16 81 24 = ai_i z10 := (hG19 81 24 (by first | omega | (simp; done) | (simp; omega) | (simp only; omega))).trans hz10
  have ghz31 := gv_eq hz31
  refine Or.inr (Or.inl ⟨rfl, ?_⟩)
  refine w_istore (i := 5) (npc := 966) (loc' := [(6, 0, 0), cr 0, cr 81, cr 104, ai_i i, ai_i z17, u6]) rfl rfl ?_
  refine w_aload (i := 2) (npc := 967) (v := cr 81) rfl rfl rfl ?_
  refine w_aload (i := 0) (npc := 968) (v := (6, 0, 0)) rfl rfl rfl ?_
  refine w_iload (i := 4) (npc := 970) rfl rfl ?_
  refine w_const (n := 1) (npc := 971) rfl ?_
  refine w_iadd (npc := 972) rfl (by omega) ?_
  obtain ⟨hx33, hx33a, hx33b⟩ := hx (i + 1 : Int).toNat (by omega)
  refine w_scr (npc := 973) (v := ai_i (sv (i + 1 : Int).toNat)) rfl rfl (by omega) hx33 ?_
  refine w_aload (i := 0) (npc := 974) (v := (6, 0, 0)) rfl rfl rfl ?_
  refine w_iload (i := 4) (npc := 976) rfl rfl ?_
  refine w_const (n := 2) (npc := 977) rfl ?_
  refine w_iadd (npc := 978) rfl (by omega) ?_
  obtain ⟨hx35, hx35a, hx35b⟩ := hx (i + 2 : Int).toNat (by omega)
  refine w_scr (npc := 979) (v := ai_i (sv (i + 2 : Int).toNat)) rfl rfl (by omega) hx35 ?_
  refine w_virt (ci := 8) (i := 81) (npc := 982) (a := [cr 81, ai_i (sv (i + 1 : Int).toNat), ai_i (sv (i + 2 : Int).toNat)]) (rest := []) rfl rfl (hI18.pl (by decide)) (hI18.T (by decide) rfl) rfl rfl rfl rfl (ct_m_whose (sl := sl) (x := x) (d := d + 12) (sv (i + 1 : Int).toNat) (sv (i + 2 : Int).toNat) hI18 hR21 (by omega) (by omega)) (Or.inl rfl) (fun k9 v9 T37 E37 nx37 kc37 ks37 hq36 hk37 hv37 => ?_)
  obtain ⟨rfl, rfl, rfl, hI39, hG40, hRz38, z38, rfl, hz38⟩ := hq36
  obtain rfl : kc16 = kc37 := by omega
  obtain rfl : ks16 = ks37 := by omega
  have hN42 := hN20.fr hG40 (by intro i k h; (try simp only at h); omega)
  have hz43 : E37 0 10 = ai_i z1 := (hG40 0 10 (by first | omega | (simp; done) | (simp; omega) | (simp only; omega))).trans hz22
  have ghz43 := gv_eq hz43
  have hz44 : E37 0 11 = ai_i z2 := (hG40 0 11 (by first | omega | (simp; done) | (simp; omega) | (simp only; omega))).trans hz23
  have ghz44 := gv_eq hz44
  have hz45 : E37 0 14 = ai_i z3 := (hG40 0 14 (by first | omega | (simp; done) | (simp; omega) | (simp only; omega))).trans hz24
  have ghz45 := gv_eq hz45
  have hz46 : E37 23 8 = ai_i z4 := (hG40 23 8 (by first | omega | (simp; done) | (simp; omega) | (simp only; omega))).trans hz25
  have ghz46 := gv_eq hz46
  have hz47 : E37 23 9 = ai_i z5 := (hG40 23 9 (by first | omega | (simp; done) | (simp; omega) | (simp only; omega))).trans hz26
  have ghz47 := gv_eq hz47
  have hz48 : E37 81 1 = ai_i z6 := (hG40 81 1 (by first | omega | (simp; done) | (simp; omega) | (simp only; omega))).trans hz27
  have ghz48 := gv_eq hz48
  have hz49 : E37 81 17 = ai_i z7 := (hG40 81 17 (by first | omega | (simp; done) | (simp; omega) | (simp only; omega))).trans hz28
  have ghz49 := gv_eq hz49
  have hz50 : E37 81 34 = ai_i z8 := (hG40 81 34 (by first | omega | (simp; done) | (simp; omega) | (simp only; omega))).trans hz29
  have ghz50 := gv_eq hz50
  have hz51 : E37 81 23 = ai_i z9 := (hG40 81 23 (by first | omega | (simp; done) | (simp; omega) | (simp only; omega))).trans hz30
  have ghz51 := gv_eq hz51
  have hz52 : E37 81 24 = ai_i z10 := (hG40 81 24 (by first | omega | (simp; done) | (simp; omega) | (simp only; omega))).trans hz31
  have ghz52 := gv_eq hz52
  refine Or.inr (Or.inl ⟨rfl, ?_⟩)
  refine w_istore (i := 6) (npc := 984) (loc' := [(6, 0, 0), cr 0, cr 81, cr 104, ai_i i, ai_i z17, ai_i z38]) rfl rfl ?_
  refine w_goto (pt := 1164) rfl ?_
  exact next (ai_i z17) (ai_i z38) T16 E37 nx16 kc16 ks16 hI39 hN42 hRz38 (by omega) (by omega) (by omega) (by omega)
