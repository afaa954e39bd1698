set_option maxRecDepth 16384 in
theorem law_c9 {sl : Int × Int} {x : ai_E} {d A B : Nat} {T : cm_T} {E : cm_E} {nx kc ks : Nat} {L : Int} {sv : Nat → Int} (hsl : sl.1 = L) (hx : ∀ k : Nat, (k : Int) < L → ai_sv x k = ai_i (sv k) ∧ -2147483648 ≤ sv k ∧ sv k ≤ 2147483647) {i : Int} (hi : 0 ≤ i ∧ i + 6 ≤ L ∧ L ≤ 384) (hnx : nx ≤ 1000) (hA : kc + 20 ≤ A) (hB : ks + 2000 ≤ B) (u5 u6 : ai_V) (hI : cs_I T E nx) (hN : hn E) (hR : rl E) (hJ : gv E 0 10 = gv E 81 1 ∧ gv E 0 11 = gv E 81 17 ∧ gv E 0 14 = gv E 81 34 ∧ gv E 23 8 = gv E 81 23 ∧ gv E 23 9 = gv E 81 24)
    (next : ∀ (v5 v6 : ai_V) (T' : cm_T) (E' : cm_E) (nx' kc' ks' : Nat), cs_I T' E' nx' → hn E' → rl E' → (gv E' 0 10 = gv E' 81 1 ∧ gv E' 0 11 = gv E' 81 17 ∧ gv E' 0 14 = gv E' 81 34 ∧ gv E' 23 8 = gv E' 81 23 ∧ gv E' 23 9 = gv E' 81 24) → nx' ≤ nx + 2 → (kc ≤ kc' ∧ kc' ≤ kc + 10) → (ks ≤ ks' ∧ ks' ≤ ks + 500) → cm_wp (ai_find ai_c0 sl) (ai_ev sl (d + 20)) x A B (fun rk rv T' E' nx' => rk = 1 ∧ rv = ai_i 1) 1175 [(6, 0, 0), cr 0, cr 81, cr 104, ai_i i, v5, v6] [] T' E' nx' kc' ks') : cm_wp (ai_find ai_c0 sl) (ai_ev sl (d + 20)) x A B (fun rk rv T' E' nx' => rk = 1 ∧ rv = ai_i 1) 572 [(6, 0, 0), cr 0, cr 81, cr 104, ai_i i, u5, u6] [] T E nx kc ks := by
  obtain ⟨z1, hz1, hz1a, hz1b⟩ := hI.int 0 10 (lo := 1) (hi := 5) (by decide) (by decide) rfl
  have ghz1 := gv_eq hz1
  obtain ⟨z2, hz2, hz2a, hz2b⟩ := hI.int 0 11 (lo := 0) (hi := 400) (by decide) (by decide) rfl
  have ghz2 := gv_eq hz2
  obtain ⟨z3, hz3, hz3a, hz3b⟩ := hI.int 0 14 (lo := 0) (hi := 1) (by decide) (by decide) rfl
  have ghz3 := gv_eq hz3
  obtain ⟨z4, hz4, hz4a, hz4b⟩ := hI.int 23 8 (lo := 0) (hi := 12) (by decide) (by decide) rfl
  have ghz4 := gv_eq hz4
  obtain ⟨z5, hz5, hz5a, hz5b⟩ := hI.int 23 9 (lo := 0) (hi := 8) (by decide) (by decide) rfl
  have ghz5 := gv_eq hz5
  obtain ⟨z6, hz6, hz6a, hz6b⟩ := hI.int 81 1 (lo := 1) (hi := 5) (by decide) (by decide) rfl
  have ghz6 := gv_eq hz6
  obtain ⟨z7, hz7, hz7a, hz7b⟩ := hI.int 81 17 (lo := 0) (hi := 400) (by decide) (by decide) rfl
  have ghz7 := gv_eq hz7
  obtain ⟨z8, hz8, hz8a, hz8b⟩ := hI.int 81 34 (lo := 0) (hi := 1) (by decide) (by decide) rfl
  have ghz8 := gv_eq hz8
  obtain ⟨z9, hz9, hz9a, hz9b⟩ := hI.int 81 23 (lo := 0) (hi := 12) (by decide) (by decide) rfl
  have ghz9 := gv_eq hz9
  obtain ⟨z10, hz10, hz10a, hz10b⟩ := hI.int 81 24 (lo := 0) (hi := 8) (by decide) (by decide) rfl
  have ghz10 := gv_eq hz10
  refine w_aload (i := 1) (npc := 573) (v := cr 0) rfl rfl rfl ?_
  refine w_aload (i := 0) (npc := 574) (v := (6, 0, 0)) rfl rfl rfl ?_
  refine w_iload (i := 4) (npc := 576) rfl rfl ?_
  refine w_const (n := 1) (npc := 577) rfl ?_
  refine w_iadd (npc := 578) rfl (by omega) ?_
  obtain ⟨hx12, hx12a, hx12b⟩ := hx (i + 1 : Int).toNat (by omega)
  refine w_scr (npc := 579) (v := ai_i (sv (i + 1 : Int).toNat)) rfl rfl (by omega) hx12 ?_
  refine w_aload (i := 0) (npc := 580) (v := (6, 0, 0)) rfl rfl rfl ?_
  refine w_iload (i := 4) (npc := 582) rfl rfl ?_
  refine w_const (n := 2) (npc := 583) rfl ?_
  refine w_iadd (npc := 584) rfl (by omega) ?_
  obtain ⟨hx14, hx14a, hx14b⟩ := hx (i + 2 : Int).toNat (by omega)
  refine w_scr (npc := 585) (v := ai_i (sv (i + 2 : Int).toNat)) rfl rfl (by omega) hx14 ?_
  refine w_aload (i := 0) (npc := 586) (v := (6, 0, 0)) rfl rfl rfl ?_
  refine w_iload (i := 4) (npc := 588) rfl rfl ?_
  refine w_const (n := 3) (npc := 589) rfl ?_
  refine w_iadd (npc := 590) rfl (by omega) ?_
  obtain ⟨hx16, hx16a, hx16b⟩ := hx (i + 3 : Int).toNat (by omega)
  refine w_scr (npc := 591) (v := ai_i (sv (i + 3 : Int).toNat)) rfl rfl (by omega) hx16 ?_
  refine w_aload (i := 0) (npc := 592) (v := (6, 0, 0)) rfl rfl rfl ?_
  refine w_iload (i := 4) (npc := 594) rfl rfl ?_
  refine w_const (n := 4) (npc := 595) rfl ?_
  refine w_iadd (npc := 596) rfl (by omega) ?_
  obtain ⟨hx18, hx18a, hx18b⟩ := hx (i + 4 : Int).toNat (by omega)
  refine w_scr (npc := 597) (v := ai_i (sv (i + 4 : Int).toNat)) rfl rfl (by omega) hx18 ?_
  refine w_aload (i := 3) (npc := 598) (v := cr 104) rfl rfl rfl ?_
  refine w_call (npc := 601) (a := [cr 0, ai_i (sv (i + 1 : Int).toNat), ai_i (sv (i + 2 : Int).toNat), ai_i (sv (i + 3 : Int).toNat), ai_i (sv (i + 4 : Int).toNat), cr 104]) (rest := []) rfl rfl rfl rfl rfl (ct_lw_packet (sl := sl) (x := x) (d := d + 15) (sv (i + 1 : Int).toNat) (sv (i + 2 : Int).toNat) (sv (i + 3 : Int).toNat) (sv (i + 4 : Int).toNat) hI hN (by omega)) (Or.inr (fun _ _ _ _ _ hq => by have h1 := hq.1; omega)) (fun k9 v9 T20 E20 nx20 kc20 ks20 hq19 hk20 hv20 => ?_)
  obtain ⟨rfl, hnxz21, hnyz21, hI22, hG23, hN24, z21, rfl, hz21⟩ := hq19
  have hR25 := rl.fr hR hG23 (by intro i k h; (try simp only at h); omega)
  have hz26 : E20 0 10 = ai_i z1 := (hG23 0 10 (by first | omega | (simp; done) | (simp; omega) | (simp only; omega))).trans hz1
  have ghz26 := gv_eq hz26
  have hz27 : E20 0 11 = ai_i z2 := (hG23 0 11 (by first | omega | (simp; done) | (simp; omega) | (simp only; omega))).trans hz2
  have ghz27 := gv_eq hz27
  have hz28 : E20 0 14 = ai_i z3 := (hG23 0 14 (by first | omega | (simp; done) | (simp; omega) | (simp only; omega))).trans hz3
  have ghz28 := gv_eq hz28
  have hz29 : E20 23 8 = ai_i z4 := (hG23 23 8 (by first | omega | (simp; done) | (simp; omega) | (simp only; omega))).trans hz4
  have ghz29 := gv_eq hz29
  have hz30 : E20 23 9 = ai_i z5 := (hG23 23 9 (by first | omega | (simp; done) | (simp; omega) | (simp only; omega))).trans hz5
  have ghz30 := gv_eq hz30
  have hz31 : E20 81 1 = ai_i z6 := (hG23 81 1 (by first | omega | (simp; done) | (simp; omega) | (simp only; omega))).trans hz6
  have ghz31 := gv_eq hz31
  have hz32 : E20 81 17 = ai_i z7 := (hG23 81 17 (by first | omega | (simp; done) | (simp; omega) | (simp only; omega))).trans hz7
  have ghz32 := gv_eq hz32
  have hz33 : E20 81 34 = ai_i z8 := (hG23 81 34 (by first | omega | (simp; done) | (simp; omega) | (simp only; omega))).trans hz8
  have ghz33 := gv_eq hz33
  have hz34 : E20 81 23 = ai_i z9 := (hG23 81 23 (by first | omega | (simp; done) | (simp; omega) | (simp only; omega))).trans hz9
  have ghz34 := gv_eq hz34
  have hz35 : E20 81 24 = ai_i z10 := (hG23 81 24 (by first | omega | (simp; done) | (simp; omega) | (simp only; omega))).trans hz10
  have ghz35 := gv_eq hz35
  refine Or.inr (Or.inl ⟨rfl, ?_⟩)
  refine w_istore (i := 5) (npc := 603) (loc' := [(6, 0, 0), cr 0, cr 81, cr 104, ai_i i, ai_i z21, u6]) rfl rfl ?_
  refine w_aload (i := 2) (npc := 604) (v := cr 81) rfl rfl rfl ?_
  refine w_aload (i := 0) (npc := 605) (v := (6, 0, 0)) rfl rfl rfl ?_
  refine w_iload (i := 4) (npc := 607) rfl rfl ?_
  refine w_const (n := 1) (npc := 608) rfl ?_
  refine w_iadd (npc := 609) rfl (by omega) ?_
  obtain ⟨hx37, hx37a, hx37b⟩ := hx (i + 1 : Int).toNat (by omega)
  refine w_scr (npc := 610) (v := ai_i (sv (i + 1 : Int).toNat)) rfl rfl (by omega) hx37 ?_
  refine w_aload (i := 0) (npc := 611) (v := (6, 0, 0)) rfl rfl rfl ?_
  refine w_iload (i := 4) (npc := 613) rfl rfl ?_
  refine w_const (n := 2) (npc := 614) rfl ?_
  refine w_iadd (npc := 615) rfl (by omega) ?_
  obtain ⟨hx39, hx39a, hx39b⟩ := hx (i + 2 : Int).toNat (by omega)
  refine w_scr (npc := 616) (v := ai_i (sv (i + 2 : Int).toNat)) rfl rfl (by omega) hx39 ?_
  refine w_aload (i := 0) (npc := 617) (v := (6, 0, 0)) rfl rfl rfl ?_
  refine w_iload (i := 4) (npc := 619) rfl rfl ?_
  refine w_const (n := 3) (npc := 620) rfl ?_
  refine w_iadd (npc := 621) rfl (by omega) ?_
  obtain ⟨hx41, hx41a, hx41b⟩ := hx (i + 3 : Int).toNat (by omega)
  refine w_scr (npc := 622) (v := ai_i (sv (i + 3 : Int).toNat)) rfl rfl (by omega) hx41 ?_
  refine w_aload (i := 0) (npc := 623) (v := (6, 0, 0)) rfl rfl rfl ?_
  refine w_iload (i := 4) (npc := 625) rfl rfl ?_
  refine w_const (n := 4) (npc := 626) rfl ?_
  refine w_iadd (npc := 627) rfl (by omega) ?_
  obtain ⟨hx43, hx43a, hx43b⟩ := hx (i + 4 : Int).toNat (by omega)
  refine w_scr (npc := 628) (v := ai_i (sv (i + 4 : Int).toNat)) rfl rfl (by omega) hx43 ?_
  refine w_virt (ci := 8) (i := 81) (npc := 631) (a := [cr 81, ai_i (sv (i + 1 : Int).toNat), ai_i (sv (i + 2 : Int).toNat), ai_i (sv (i + 3 : Int).toNat), ai_i (sv (i + 4 : Int).toNat)]) (rest := []) rfl rfl (hI22.pl (by decide)) (hI22.T (by decide) rfl) rfl rfl rfl rfl (ct_m_packet (sl := sl) (x := x) (d := d + 16) (sv (i + 1 : Int).toNat) (sv (i + 2 : Int).toNat) (sv (i + 3 : Int).toNat) (sv (i + 4 : Int).toNat) hI22 hR25) (Or.inl rfl) (fun k9 v9 T45 E45 nx45 kc45 ks45 hq44 hk45 hv45 => ?_)
  obtain ⟨rfl, rfl, rfl, hI47, hG48, hRz46, z46, rfl, hz46⟩ := hq44
  obtain rfl : kc20 = kc45 := by omega
  obtain rfl : ks20 = ks45 := by omega
  have hN50 := hN24.fr hG48 (by intro i k h; (try simp only at h); omega)
  have hz51 : E45 0 10 = ai_i z1 := (hG48 0 10 (by first | omega | (simp; done) | (simp; omega) | (simp only; omega))).trans hz26
  have ghz51 := gv_eq hz51
  have hz52 : E45 0 11 = ai_i z2 := (hG48 0 11 (by first | omega | (simp; done) | (simp; omega) | (simp only; omega))).trans hz27
  have ghz52 := gv_eq hz52
  have hz53 : E45 0 14 = ai_i z3 := (hG48 0 14 (by first | omega | (simp; done) | (simp; omega) | (simp only; omega))).trans hz28
  have ghz53 := gv_eq hz53
  have hz54 : E45 23 8 = ai_i z4 := (hG48 23 8 (by first | omega | (simp; done) | (simp; omega) | (simp only; omega))).trans hz29
  have ghz54 := gv_eq hz54
  have hz55 : E45 23 9 = ai_i z5 := (hG48 23 9 (by first | omega | (simp; done) | (simp; omega) | (simp only; omega))).trans hz30
  have ghz55 := gv_eq hz55
  have hz56 : E45 81 1 = ai_i z6 := (hG48 81 1 (by first | omega | (simp; done) | (simp; omega) | (simp only; omega))).trans hz31
  have ghz56 := gv_eq hz56
  have hz57 : E45 81 17 = ai_i z7 := (hG48 81 17 (by first | omega | (simp; done) | (simp; omega) | (simp only; omega))).trans hz32
  have ghz57 := gv_eq hz57
  have hz58 : E45 81 34 = ai_i z8 := (hG48 81 34 (by first | omega | (simp; done) | (simp; omega) | (simp only; omega))).trans hz33
  have ghz58 := gv_eq hz58
  have hz59 : E45 81 23 = ai_i z9 := (hG48 81 23 (by first | omega | (simp; done) | (simp; omega) | (simp only; omega))).trans hz34
  have ghz59 := gv_eq hz59
  have hz60 : E45 81 24 = ai_i z10 := (hG48 81 24 (by first | omega | (simp; done) | (simp; omega) | (simp only; omega))).trans hz35
  have ghz60 := gv_eq hz60
  refine Or.inr (Or.inl ⟨rfl, ?_⟩)
  refine w_istore (i := 6) (npc := 633) (loc' := [(6, 0, 0), cr 0, cr 81, cr 104, ai_i i, ai_i z21, ai_i z46]) rfl rfl ?_
  refine w_goto (pt := 1175) rfl ?_
  exact next (ai_i z21) (ai_i z46) T20 E45 nx20 kc20 ks20 hI47 hN50 hRz46 (by omega) (by omega) (by omega) (by omega)
set_option maxRecDepth 16384 in
theorem law_c10 {sl : Int × Int} {x : ai_E} {d A B : Nat} {T : cm_T} {E : cm_E} {nx kc ks : Nat} {L : Int} {sv : Nat → Int} (hsl : sl.1 = L) (hx : ∀ k : Nat, (k : Int) < L → ai_sv x k = ai_i (sv k) ∧ -2147483648 ≤ sv k ∧ sv k ≤ 2147483647) {i : Int} (hi : 0 ≤ i ∧ i + 6 ≤ L ∧ L ≤ 384) (hnx : nx ≤ 1000) (hA : kc + 20 ≤ A) (hB : ks + 2000 ≤ B) (u5 u6 : ai_V) (hI : cs_I T E nx) (hN : hn E) (hR : rl E) (hJ : gv E 0 10 = gv E 81 1 ∧ gv E 0 11 = gv E 81 17 ∧ gv E 0 14 = gv E 81 34 ∧ gv E 23 8 = gv E 81 23 ∧ gv E 23 9 = gv E 81 24)
    (next : ∀ (v5 v6 : ai_V) (T' : cm_T) (E' : cm_E) (nx' kc' ks' : Nat), cs_I T' E' nx' → hn E' → rl E' → (gv E' 0 10 = gv E' 81 1 ∧ gv E' 0 11 = gv E' 81 17 ∧ gv E' 0 14 = gv E' 81 34 ∧ gv E' 23 8 = gv E' 81 23 ∧ gv E' 23 9 = gv E' 81 24) → nx' ≤ nx + 2 → (kc ≤ kc' ∧ kc' ≤ kc + 10) → (ks ≤ ks' ∧ ks' ≤ ks + 500) → cm_wp (ai_find ai_c0 sl) (ai_ev sl (d + 20)) x A B (fun rk rv T' E' nx' => rk = 1 ∧ rv = ai_i 1) 1175 [(6, 0, 0), cr 0, cr 81, cr 104, ai_i i, v5, v6] [] T' E' nx' kc' ks') : cm_wp (ai_find ai_c0 sl) (ai_ev sl (d + 20)) x A B (fun rk rv T' E' nx' => rk = 1 ∧ rv = ai_i 1) 636 [(6, 0, 0), cr 0, cr 81, cr 104, ai_i i, u5, u6] [] T E nx kc ks := by
  obtain ⟨z1, hz1, hz1a, hz1b⟩ := hI.int 0 10 (lo := 1) (hi := 5) (by decide) (by decide) rfl
  have ghz1 := gv_eq hz1
  obtain ⟨z2, hz2, hz2a, hz2b⟩ := hI.int 0 11 (lo := 0) (hi := 400) (by decide) (by decide) rfl
  have ghz2 := gv_eq hz2
  obtain ⟨z3, hz3, hz3a, hz3b⟩ := hI.int 0 14 (lo := 0) (hi := 1) (by decide) (by decide) rfl
  have ghz3 := gv_eq hz3
  obtain ⟨z4, hz4, hz4a, hz4b⟩ := hI.int 23 8 (lo := 0) (hi := 12) (by decide) (by decide) rfl
  have ghz4 := gv_eq hz4
  obtain ⟨z5, hz5, hz5a, hz5b⟩ := hI.int 23 9 (lo := 0) (hi := 8) (by decide) (by decide) rfl
  have ghz5 := gv_eq hz5
  obtain ⟨z6, hz6, hz6a, hz6b⟩ := hI.int 81 1 (lo := 1) (hi := 5) (by decide) (by decide) rfl
  have ghz6 := gv_eq hz6
  obtain ⟨z7, hz7, hz7a, hz7b⟩ := hI.int 81 17 (lo := 0) (hi := 400) (by decide) (by decide) rfl
  have ghz7 := gv_eq hz7
  obtain ⟨z8, hz8, hz8a, hz8b⟩ := hI.int 81 34 (lo := 0) (hi := 1) (by decide) (by decide) rfl
  have ghz8 := gv_eq hz8
  obtain ⟨z9, hz9, hz9a, hz9b⟩ := hI.int 81 23 (lo := 0) (hi := 12) (by decide) (by decide) rfl
  have ghz9 := gv_eq hz9
  obtain ⟨z10, hz10, hz10a, hz10b⟩ := hI.int 81 24 (lo := 0) (hi := 8) (by decide) (by decide) rfl
  have ghz10 := gv_eq hz10
  refine w_aload (i := 1) (npc := 637) (v := cr 0) rfl rfl rfl ?_
  refine w_aload (i := 0) (npc := 638) (v := (6, 0, 0)) rfl rfl rfl ?_
  refine w_iload (i := 4) (npc := 640) rfl rfl ?_
  refine w_const (n := 1) (npc := 641) rfl ?_
  refine w_iadd (npc := 642) rfl (by omega) ?_
  obtain ⟨hx12, hx12a, hx12b⟩ := hx (i + 1 : Int).toNat (by omega)
  refine w_scr (npc := 643) (v := ai_i (sv (i + 1 : Int).toNat)) rfl rfl (by omega) hx12 ?_
  refine w_aload (i := 0) (npc := 644) (v := (6, 0, 0)) rfl rfl rfl ?_
  refine w_iload (i := 4) (npc := 646) rfl rfl ?_
  refine w_const (n := 2) (npc := 647) rfl ?_
  refine w_iadd (npc := 648) rfl (by omega) ?_
  obtain ⟨hx14, hx14a, hx14b⟩ := hx (i + 2 : Int).toNat (by omega)
  refine w_scr (npc := 649) (v := ai_i (sv (i + 2 : Int).toNat)) rfl rfl (by omega) hx14 ?_
  refine w_aload (i := 0) (npc := 650) (v := (6, 0, 0)) rfl rfl rfl ?_
  refine w_iload (i := 4) (npc := 652) rfl rfl ?_
  refine w_const (n := 3) (npc := 653) rfl ?_
  refine w_iadd (npc := 654) rfl (by omega) ?_
  obtain ⟨hx16, hx16a, hx16b⟩ := hx (i + 3 : Int).toNat (by omega)
  refine w_scr (npc := 655) (v := ai_i (sv (i + 3 : Int).toNat)) rfl rfl (by omega) hx16 ?_
  refine w_aload (i := 0) (npc := 656) (v := (6, 0, 0)) rfl rfl rfl ?_
  refine w_iload (i := 4) (npc := 658) rfl rfl ?_
  refine w_const (n := 4) (npc := 659) rfl ?_
  refine w_iadd (npc := 660) rfl (by omega) ?_
  obtain ⟨hx18, hx18a, hx18b⟩ := hx (i + 4 : Int).toNat (by omega)
  refine w_scr (npc := 661) (v := ai_i (sv (i + 4 : Int).toNat)) rfl rfl (by omega) hx18 ?_
  refine w_aload (i := 0) (npc := 662) (v := (6, 0, 0)) rfl rfl rfl ?_
  refine w_iload (i := 4) (npc := 664) rfl rfl ?_
  refine w_const (n := 5) (npc := 665) rfl ?_
  refine w_iadd (npc := 666) rfl (by omega) ?_
  obtain ⟨hx20, hx20a, hx20b⟩ := hx (i + 5 : Int).toNat (by omega)
  refine w_scr (npc := 667) (v := ai_i (sv (i + 5 : Int).toNat)) rfl rfl (by omega) hx20 ?_
  refine w_virt (ci := 7) (i := 0) (npc := 670) (a := [cr 0, ai_i (sv (i + 1 : Int).toNat), ai_i (sv (i + 2 : Int).toNat), ai_i (sv (i + 3 : Int).toNat), ai_i (sv (i + 4 : Int).toNat), ai_i (sv (i + 5 : Int).toNat)]) (rest := []) rfl rfl (hI.pl (by decide)) (hI.T (by decide) rfl) rfl rfl rfl rfl (ct_c_feed (sl := sl) (x := x) (d := d + 18) (sv (i + 1 : Int).toNat) (sv (i + 2 : Int).toNat) (sv (i + 3 : Int).toNat) (sv (i + 4 : Int).toNat) (sv (i + 5 : Int).toNat) hI hN) (Or.inl rfl) (fun k9 v9 T22 E22 nx22 kc22 ks22 hq21 hk22 hv22 => ?_)
  obtain ⟨rfl, rfl, rfl, hI24, hG25, hN26, z23, rfl, hz23⟩ := hq21
  have hR27 := rl.fr hR hG25 (by intro i k h; (try simp only at h); omega)
  have hz28 : E22 0 10 = ai_i z1 := (hG25 0 10 (by first | omega | (simp; done) | (simp; omega) | (simp only; omega))).trans hz1
  have ghz28 := gv_eq hz28
  have hz29 : E22 0 14 = ai_i z3 := (hG25 0 14 (by first | omega | (simp; done) | (simp; omega) | (simp only; omega))).trans hz3
  have ghz29 := gv_eq hz29
  have hz30 : E22 23 8 = ai_i z4 := (hG25 23 8 (by first | omega | (simp; done) | (simp; omega) | (simp only; omega))).trans hz4
  have ghz30 := gv_eq hz30
  have hz31 : E22 23 9 = ai_i z5 := (hG25 23 9 (by first | omega | (simp; done) | (simp; omega) | (simp only; omega))).trans hz5
  have ghz31 := gv_eq hz31
  have hz32 : E22 81 1 = ai_i z6 := (hG25 81 1 (by first | omega | (simp; done) | (simp; omega) | (simp only; omega))).trans hz6
  have ghz32 := gv_eq hz32
  have hz33 : E22 81 17 = ai_i z7 := (hG25 81 17 (by first | omega | (simp; done) | (simp; omega) | (simp only; omega))).trans hz7
  have ghz33 := gv_eq hz33
  have hz34 : E22 81 34 = ai_i z8 := (hG25 81 34 (by first | omega | (simp; done) | (simp; omega) | (simp only; omega))).trans hz8
  have ghz34 := gv_eq hz34
  have hz35 : E22 81 23 = ai_i z9 := (hG25 81 23 (by first | omega | (simp; done) | (simp; omega) | (simp only; omega))).trans hz9
  have ghz35 := gv_eq hz35
  have hz36 : E22 81 24 = ai_i z10 := (hG25 81 24 (by first | omega | (simp; done) | (simp; omega) | (simp only; omega))).trans hz10
  have ghz36 := gv_eq hz36
  refine Or.inr (Or.inl ⟨rfl, ?_⟩)
  refine w_pop (npc := 671) rfl rfl ?_
  refine w_aload (i := 2) (npc := 672) (v := cr 81) rfl rfl rfl ?_
  refine w_aload (i := 0) (npc := 673) (v := (6, 0, 0)) rfl rfl rfl ?_
  refine w_iload (i := 4) (npc := 675) rfl rfl ?_
  refine w_const (n := 1) (npc := 676) rfl ?_
  refine w_iadd (npc := 677) rfl (by omega) ?_
  obtain ⟨hx38, hx38a, hx38b⟩ := hx (i + 1 : Int).toNat (by omega)
  refine w_scr (npc := 678) (v := ai_i (sv (i + 1 : Int).toNat)) rfl rfl (by omega) hx38 ?_
  refine w_aload (i := 0) (npc := 679) (v := (6, 0, 0)) rfl rfl rfl ?_
  refine w_iload (i := 4) (npc := 681) rfl rfl ?_
  refine w_const (n := 2) (npc := 682) rfl ?_
  refine w_iadd (npc := 683) rfl (by omega) ?_
  obtain ⟨hx40, hx40a, hx40b⟩ := hx (i + 2 : Int).toNat (by omega)
  refine w_scr (npc := 684) (v := ai_i (sv (i + 2 : Int).toNat)) rfl rfl (by omega) hx40 ?_
  refine w_aload (i := 0) (npc := 685) (v := (6, 0, 0)) rfl rfl rfl ?_
  refine w_iload (i := 4) (npc := 687) rfl rfl ?_
  refine w_const (n := 3) (npc := 688) rfl ?_
  refine w_iadd (npc := 689) rfl (by omega) ?_
  obtain ⟨hx42, hx42a, hx42b⟩ := hx (i + 3 : Int).toNat (by omega)
  refine w_scr (npc := 690) (v := ai_i (sv (i + 3 : Int).toNat)) rfl rfl (by omega) hx42 ?_
  refine w_aload (i := 0) (npc := 691) (v := (6, 0, 0)) rfl rfl rfl ?_
  refine w_iload (i := 4) (npc := 693) rfl rfl ?_
  refine w_const (n := 4) (npc := 694) rfl ?_
  refine w_iadd (npc := 695) rfl (by omega) ?_
  obtain ⟨hx44, hx44a, hx44b⟩ := hx (i + 4 : Int).toNat (by omega)
  refine w_scr (npc := 696) (v := ai_i (sv (i + 4 : Int).toNat)) rfl rfl (by omega) hx44 ?_
  refine w_aload (i := 0) (npc := 697) (v := (6, 0, 0)) rfl rfl rfl ?_
  refine w_iload (i := 4) (npc := 699) rfl rfl ?_
  refine w_const (n := 5) (npc := 700) rfl ?_
  refine w_iadd (npc := 701) rfl (by omega) ?_
  obtain ⟨hx46, hx46a, hx46b⟩ := hx (i + 5 : Int).toNat (by omega)
  refine w_scr (npc := 702) (v := ai_i (sv (i + 5 : Int).toNat)) rfl rfl (by omega) hx46 ?_
  obtain ⟨z47, hz47, hz47a, hz47b⟩ := hI24.int 0 11 (lo := 0) (hi := 400) (by decide) (by decide) rfl
  have ghz47 := gv_eq hz47
  refine w_virt (ci := 8) (i := 81) (npc := 705) (a := [cr 81, ai_i (sv (i + 1 : Int).toNat), ai_i (sv (i + 2 : Int).toNat), ai_i (sv (i + 3 : Int).toNat), ai_i (sv (i + 4 : Int).toNat), ai_i (sv (i + 5 : Int).toNat)]) (rest := []) rfl rfl (hI24.pl (by decide)) (hI24.T (by decide) rfl) rfl rfl rfl rfl (ct_m_feed (sl := sl) (x := x) (d := d + 19) (sv (i + 1 : Int).toNat) (sv (i + 2 : Int).toNat) (sv (i + 3 : Int).toNat) (sv (i + 4 : Int).toNat) (sv (i + 5 : Int).toNat) hI24 hR27 (by omega) (by omega) (by omega) (by omega) (by omega)) (Or.inl rfl) (fun k9 v9 T49 E49 nx49 kc49 ks49 hq48 hk49 hv49 => ?_)
  obtain ⟨rfl, rfl, rfl, hI51, hG52, hRz50, z50, rfl, hz50⟩ := hq48
  obtain rfl : kc22 = kc49 := by omega
  obtain rfl : ks22 = ks49 := by omega
  have hN54 := hN26.fr hG52 (by intro i k h; (try simp only at h); omega)
  have hz55 : E49 0 10 = ai_i z1 := (hG52 0 10 (by first | omega | (simp; done) | (simp; omega) | (simp only; omega))).trans hz28
  have ghz55 := gv_eq hz55
  have hz56 : E49 0 14 = ai_i z3 := (hG52 0 14 (by first | omega | (simp; done) | (simp; omega) | (simp only; omega))).trans hz29
  have ghz56 := gv_eq hz56
  have hz57 : E49 23 8 = ai_i z4 := (hG52 23 8 (by first | omega | (simp; done) | (simp; omega) | (simp only; omega))).trans hz30
  have ghz57 := gv_eq hz57
  have hz58 : E49 23 9 = ai_i z5 := (hG52 23 9 (by first | omega | (simp; done) | (simp; omega) | (simp only; omega))).trans hz31
  have ghz58 := gv_eq hz58
  have hz59 : E49 81 1 = ai_i z6 := (hG52 81 1 (by first | omega | (simp; done) | (simp; omega) | (simp only; omega))).trans hz32
  have ghz59 := gv_eq hz59
  have hz60 : E49 81 34 = ai_i z8 := (hG52 81 34 (by first | omega | (simp; done) | (simp; omega) | (simp only; omega))).trans hz34
  have ghz60 := gv_eq hz60
  have hz61 : E49 81 23 = ai_i z9 := (hG52 81 23 (by first | omega | (simp; done) | (simp; omega) | (simp only; omega))).trans hz35
  have ghz61 := gv_eq hz61
  have hz62 : E49 81 24 = ai_i z10 := (hG52 81 24 (by first | omega | (simp; done) | (simp; omega) | (simp only; omega))).trans hz36
  have ghz62 := gv_eq hz62
  have hz63 : E49 0 11 = ai_i z47 := (hG52 0 11 (by first | omega | (simp; done) | (simp; omega) | (simp only; omega))).trans hz47
  have ghz63 := gv_eq hz63
  refine Or.inr (Or.inl ⟨rfl, ?_⟩)
  refine w_pop (npc := 706) rfl rfl ?_
  refine w_goto (pt := 1175) rfl ?_
  exact next (u5) (u6) T E49 nx kc22 ks22 hI51 hN54 hRz50 (by omega) (by omega) (by omega) (by omega)
set_option maxRecDepth 16384 in
theorem law_c11 {sl : Int × Int} {x : ai_E} {d A B : Nat} {T : cm_T} {E : cm_E} {nx kc ks : Nat} {L : Int} {sv : Nat → Int} (hsl : sl.1 = L) (hx : ∀ k : Nat, (k : Int) < L → ai_sv x k = ai_i (sv k) ∧ -2147483648 ≤ sv k ∧ sv k ≤ 2147483647) {i : Int} (hi : 0 ≤ i ∧ i + 6 ≤ L ∧ L ≤ 384) (hnx : nx ≤ 1000) (hA : kc + 20 ≤ A) (hB : ks + 2000 ≤ B) (u5 u6 : ai_V) (hI : cs_I T E nx) (hN : hn E) (hR : rl E) (hJ : gv E 0 10 = gv E 81 1 ∧ gv E 0 11 = gv E 81 17 ∧ gv E 0 14 = gv E 81 34 ∧ gv E 23 8 = gv E 81 23 ∧ gv E 23 9 = gv E 81 24)
    (next : ∀ (v5 v6 : ai_V) (T' : cm_T) (E' : cm_E) (nx' kc' ks' : Nat), cs_I T' E' nx' → hn E' → rl E' → (gv E' 0 10 = gv E' 81 1 ∧ gv E' 0 11 = gv E' 81 17 ∧ gv E' 0 14 = gv E' 81 34 ∧ gv E' 23 8 = gv E' 81 23 ∧ gv E' 23 9 = gv E' 81 24) → nx' ≤ nx + 2 → (kc ≤ kc' ∧ kc' ≤ kc + 10) → (ks ≤ ks' ∧ ks' ≤ ks + 500) → cm_wp (ai_find ai_c0 sl) (ai_ev sl (d + 20)) x A B (fun rk rv T' E' nx' => rk = 1 ∧ rv = ai_i 1) 1175 [(6, 0, 0), cr 0, cr 81, cr 104, ai_i i, v5, v6] [] T' E' nx' kc' ks') : cm_wp (ai_find ai_c0 sl) (ai_ev sl (d + 20)) x A B (fun rk rv T' E' nx' => rk = 1 ∧ rv = ai_i 1) 709 [(6, 0, 0), cr 0, cr 81, cr 104, ai_i i, u5, u6] [] T E nx kc ks := by
  obtain ⟨z1, hz1, hz1a, hz1b⟩ := hI.int 0 10 (lo := 1) (hi := 5) (by decide) (by decide) rfl
  have ghz1 := gv_eq hz1
  obtain ⟨z2, hz2, hz2a, hz2b⟩ := hI.int 0 11 (lo := 0) (hi := 400) (by decide) (by decide) rfl
  have ghz2 := gv_eq hz2
  obtain ⟨z3, hz3, hz3a, hz3b⟩ := hI.int 0 14 (lo := 0) (hi := 1) (by decide) (by decide) rfl
  have ghz3 := gv_eq hz3
  obtain ⟨z4, hz4, hz4a, hz4b⟩ := hI.int 23 8 (lo := 0) (hi := 12) (by decide) (by decide) rfl
  have ghz4 := gv_eq hz4
  obtain ⟨z5, hz5, hz5a, hz5b⟩ := hI.int 23 9 (lo := 0) (hi := 8) (by decide) (by decide) rfl
  have ghz5 := gv_eq hz5
  obtain ⟨z6, hz6, hz6a, hz6b⟩ := hI.int 81 1 (lo := 1) (hi := 5) (by decide) (by decide) rfl
  have ghz6 := gv_eq hz6
  obtain ⟨z7, hz7, hz7a, hz7b⟩ := hI.int 81 17 (lo := 0) (hi := 400) (by decide) (by decide) rfl
  have ghz7 := gv_eq hz7
  obtain ⟨z8, hz8, hz8a, hz8b⟩ := hI.int 81 34 (lo := 0) (hi := 1) (by decide) (by decide) rfl
  have ghz8 := gv_eq hz8
  obtain ⟨z9, hz9, hz9a, hz9b⟩ := hI.int 81 23 (lo := 0) (hi := 12) (by decide) (by decide) rfl
  have ghz9 := gv_eq hz9
  obtain ⟨z10, hz10, hz10a, hz10b⟩ := hI.int 81 24 (lo := 0) (hi := 8) (by decide) (by decide) rfl
  have ghz10 := gv_eq hz10
  refine w_aload (i := 1) (npc := 710) (v := cr 0) rfl rfl rfl ?_
  refine w_aload (i := 0) (npc := 711) (v := (6, 0, 0)) rfl rfl rfl ?_
  refine w_iload (i := 4) (npc := 713) rfl rfl ?_
  refine w_const (n := 1) (npc := 714) rfl ?_
  refine w_iadd (npc := 715) rfl (by omega) ?_
  obtain ⟨hx12, hx12a, hx12b⟩ := hx (i + 1 : Int).toNat (by omega)
  refine w_scr (npc := 716) (v := ai_i (sv (i + 1 : Int).toNat)) rfl rfl (by omega) hx12 ?_
  refine w_aload (i := 0) (npc := 717) (v := (6, 0, 0)) rfl rfl rfl ?_
  refine w_iload (i := 4) (npc := 719) rfl rfl ?_
  refine w_const (n := 2) (npc := 720) rfl ?_
  refine w_iadd (npc := 721) rfl (by omega) ?_
  obtain ⟨hx14, hx14a, hx14b⟩ := hx (i + 2 : Int).toNat (by omega)
  refine w_scr (npc := 722) (v := ai_i (sv (i + 2 : Int).toNat)) rfl rfl (by omega) hx14 ?_
  refine w_aload (i := 3) (npc := 723) (v := cr 104) rfl rfl rfl ?_
  refine w_call (npc := 726) (a := [cr 0, ai_i (sv (i + 1 : Int).toNat), ai_i (sv (i + 2 : Int).toNat), cr 104]) (rest := []) rfl rfl rfl rfl rfl (ct_lw_hear (sl := sl) (x := x) (d := d + 11) (sv (i + 1 : Int).toNat) (sv (i + 2 : Int).toNat) hI hN (by omega)) (Or.inr (fun _ _ _ _ _ hq => by have h1 := hq.1; omega)) (fun k9 v9 T16 E16 nx16 kc16 ks16 hq15 hk16 hv16 => ?_)
  obtain ⟨rfl, hnxz17, hnyz17, hI18, hG19, hN20, z17, rfl, hz17⟩ := hq15
  have hR21 := rl.fr hR hG19 (by intro i k h; (try simp only at h); omega)
  have hz22 : E16 0 10 = ai_i z1 := (hG19 0 10 (by first | omega | (simp; done) | (simp; omega) | (simp only; omega))).trans hz1
  have ghz22 := gv_eq hz22
  have hz23 : E16 0 14 = ai_i z3 := (hG19 0 14 (by first | omega | (simp; done) | (simp; omega) | (simp only; omega))).trans hz3
  have ghz23 := gv_eq hz23
  have hz24 : E16 23 8 = ai_i z4 := (hG19 23 8 (by first | omega | (simp; done) | (simp; omega) | (simp only; omega))).trans hz4
  have ghz24 := gv_eq hz24
  have hz25 : E16 23 9 = ai_i z5 := (hG19 23 9 (by first | omega | (simp; done) | (simp; omega) | (simp only; omega))).trans hz5
  have ghz25 := gv_eq hz25
  have hz26 : E16 81 1 = ai_i z6 := (hG19 81 1 (by first | omega | (simp; done) | (simp; omega) | (simp only; omega))).trans hz6
  have ghz26 := gv_eq hz26
  have hz27 : E16 81 17 = ai_i z7 := (hG19 81 17 (by first | omega | (simp; done) | (simp; omega) | (simp only; omega))).trans hz7
  have ghz27 := gv_eq hz27
  have hz28 : E16 81 34 = ai_i z8 := (hG19 81 34 (by first | omega | (simp; done) | (simp; omega) | (simp only; omega))).trans hz8
  have ghz28 := gv_eq hz28
  have hz29 : E16 81 23 = ai_i z9 := (hG19 81 23 (by first | omega | (simp; done) | (simp; omega) | (simp only; omega))).trans hz9
  have ghz29 := gv_eq hz29
  have hz30 : E16 81 24 = ai_i z10 := (hG19 81 24 (by first | omega | (simp; done) | (simp; omega) | (simp only; omega))).trans hz10
  have ghz30 := gv_eq hz30
  refine Or.inr (Or.inl ⟨rfl, ?_⟩)
  refine w_istore (i := 5) (npc := 728) (loc' := [(6, 0, 0), cr 0, cr 81, cr 104, ai_i i, ai_i z17, u6]) rfl rfl ?_
  refine w_aload (i := 2) (npc := 729) (v := cr 81) rfl rfl rfl ?_
  refine w_aload (i := 0) (npc := 730) (v := (6, 0, 0)) rfl rfl rfl ?_
  refine w_iload (i := 4) (npc := 732) rfl rfl ?_
  refine w_const (n := 1) (npc := 733) rfl ?_
  refine w_iadd (npc := 734) rfl (by omega) ?_
  obtain ⟨hx32, hx32a, hx32b⟩ := hx (i + 1 : Int).toNat (by omega)
  refine w_scr (npc := 735) (v := ai_i (sv (i + 1 : Int).toNat)) rfl rfl (by omega) hx32 ?_
  refine w_aload (i := 0) (npc := 736) (v := (6, 0, 0)) rfl rfl rfl ?_
  refine w_iload (i := 4) (npc := 738) rfl rfl ?_
  refine w_const (n := 2) (npc := 739) rfl ?_
  refine w_iadd (npc := 740) rfl (by omega) ?_
  obtain ⟨hx34, hx34a, hx34b⟩ := hx (i + 2 : Int).toNat (by omega)
  refine w_scr (npc := 741) (v := ai_i (sv (i + 2 : Int).toNat)) rfl rfl (by omega) hx34 ?_
  obtain ⟨z35, hz35, hz35a, hz35b⟩ := hI18.int 0 11 (lo := 0) (hi := 400) (by decide) (by decide) rfl
  have ghz35 := gv_eq hz35
  refine w_virt (ci := 8) (i := 81) (npc := 744) (a := [cr 81, ai_i (sv (i + 1 : Int).toNat), ai_i (sv (i + 2 : Int).toNat)]) (rest := []) rfl rfl (hI18.pl (by decide)) (hI18.T (by decide) rfl) rfl rfl rfl rfl (ct_m_hear (sl := sl) (x := x) (d := d + 12) (sv (i + 1 : Int).toNat) (sv (i + 2 : Int).toNat) hI18 hR21 (by omega) (by omega)) (Or.inl rfl) (fun k9 v9 T37 E37 nx37 kc37 ks37 hq36 hk37 hv37 => ?_)
  obtain ⟨rfl, rfl, rfl, hI39, hG40, hRz38, z38, rfl, hz38⟩ := hq36
  obtain rfl : kc16 = kc37 := by omega
  obtain rfl : ks16 = ks37 := by omega
  have hN42 := hN20.fr hG40 (by intro i k h; (try simp only at h); omega)
  have hz43 : E37 0 10 = ai_i z1 := (hG40 0 10 (by first | omega | (simp; done) | (simp; omega) | (simp only; omega))).trans hz22
  have ghz43 := gv_eq hz43
  have hz44 : E37 0 14 = ai_i z3 := (hG40 0 14 (by first | omega | (simp; done) | (simp; omega) | (simp only; omega))).trans hz23
  have ghz44 := gv_eq hz44
  have hz45 : E37 23 8 = ai_i z4 := (hG40 23 8 (by first | omega | (simp; done) | (simp; omega) | (simp only; omega))).trans hz24
  have ghz45 := gv_eq hz45
  have hz46 : E37 23 9 = ai_i z5 := (hG40 23 9 (by first | omega | (simp; done) | (simp; omega) | (simp only; omega))).trans hz25
  have ghz46 := gv_eq hz46
  have hz47 : E37 81 1 = ai_i z6 := (hG40 81 1 (by first | omega | (simp; done) | (simp; omega) | (simp only; omega))).trans hz26
  have ghz47 := gv_eq hz47
  have hz48 : E37 81 34 = ai_i z8 := (hG40 81 34 (by first | omega | (simp; done) | (simp; omega) | (simp only; omega))).trans hz28
  have ghz48 := gv_eq hz48
  have hz49 : E37 81 23 = ai_i z9 := (hG40 81 23 (by first | omega | (simp; done) | (simp; omega) | (simp only; omega))).trans hz29
  have ghz49 := gv_eq hz49
  have hz50 : E37 81 24 = ai_i z10 := (hG40 81 24 (by first | omega | (simp; done) | (simp; omega) | (simp only; omega))).trans hz30
  have ghz50 := gv_eq hz50
  have hz51 : E37 0 11 = ai_i z35 := (hG40 0 11 (by first | omega | (simp; done) | (simp; omega) | (simp only; omega))).trans hz35
  have ghz51 := gv_eq hz51
  refine Or.inr (Or.inl ⟨rfl, ?_⟩)
  refine w_istore (i := 6) (npc := 746) (loc' := [(6, 0, 0), cr 0, cr 81, cr 104, ai_i i, ai_i z17, ai_i z38]) rfl rfl ?_
  refine w_goto (pt := 1175) rfl ?_
  exact next (ai_i z17) (ai_i z38) T16 E37 nx16 kc16 ks16 hI39 hN42 hRz38 (by omega) (by omega) (by omega) (by omega)
set_option maxRecDepth 16384 in
theorem law_c12 {sl : Int × Int} {x : ai_E} {d A B : Nat} {T : cm_T} {E : cm_E} {nx kc ks : Nat} {L : Int} {sv : Nat → Int} (hsl : sl.1 = L) (hx : ∀ k : Nat, (k : Int) < L → ai_sv x k = ai_i (sv k) ∧ -2147483648 ≤ sv k ∧ sv k ≤ 2147483647) {i : Int} (hi : 0 ≤ i ∧ i + 6 ≤ L ∧ L ≤ 384) (hnx : nx ≤ 1000) (hA : kc + 20 ≤ A) (hB : ks + 2000 ≤ B) (u5 u6 : ai_V) (hI : cs_I T E nx) (hN : hn E) (hR : rl E) (hJ : gv E 0 10 = gv E 81 1 ∧ gv E 0 11 = gv E 81 17 ∧ gv E 0 14 = gv E 81 34 ∧ gv E 23 8 = gv E 81 23 ∧ gv E 23 9 = gv E 81 24)
    (next : ∀ (v5 v6 : ai_V) (T' : cm_T) (E' : cm_E) (nx' kc' ks' : Nat), cs_I T' E' nx' → hn E' → rl E' → (gv E' 0 10 = gv E' 81 1 ∧ gv E' 0 11 = gv E' 81 17 ∧ gv E' 0 14 = gv E' 81 34 ∧ gv E' 23 8 = gv E' 81 23 ∧ gv E' 23 9 = gv E' 81 24) → nx' ≤ nx + 2 → (kc ≤ kc' ∧ kc' ≤ kc + 10) → (ks ≤ ks' ∧ ks' ≤ ks + 500) → cm_wp (ai_find ai_c0 sl) (ai_ev sl (d + 20)) x A B (fun rk rv T' E' nx' => rk = 1 ∧ rv = ai_i 1) 1175 [(6, 0, 0), cr 0, cr 81, cr 104, ai_i i, v5, v6] [] T' E' nx' kc' ks') : cm_wp (ai_find ai_c0 sl) (ai_ev sl (d + 20)) x A B (fun rk rv T' E' nx' => rk = 1 ∧ rv = ai_i 1) 749 [(6, 0, 0), cr 0, cr 81, cr 104, ai_i i, u5, u6] [] T E nx kc ks := by
  obtain ⟨z1, hz1, hz1a, hz1b⟩ := hI.int 0 10 (lo := 1) (hi := 5) (by decide) (by decide) rfl
  have ghz1 := gv_eq hz1
  obtain ⟨z2, hz2, hz2a, hz2b⟩ := hI.int 0 11 (lo := 0) (hi := 400) (by decide) (by decide) rfl
  have ghz2 := gv_eq hz2
  obtain ⟨z3, hz3, hz3a, hz3b⟩ := hI.int 0 14 (lo := 0) (hi := 1) (by decide) (by decide) rfl
  have ghz3 := gv_eq hz3
  obtain ⟨z4, hz4, hz4a, hz4b⟩ := hI.int 23 8 (lo := 0) (hi := 12) (by decide) (by decide) rfl
  have ghz4 := gv_eq hz4
  obtain ⟨z5, hz5, hz5a, hz5b⟩ := hI.int 23 9 (lo := 0) (hi := 8) (by decide) (by decide) rfl
  have ghz5 := gv_eq hz5
  obtain ⟨z6, hz6, hz6a, hz6b⟩ := hI.int 81 1 (lo := 1) (hi := 5) (by decide) (by decide) rfl
  have ghz6 := gv_eq hz6
  obtain ⟨z7, hz7, hz7a, hz7b⟩ := hI.int 81 17 (lo := 0) (hi := 400) (by decide) (by decide) rfl
  have ghz7 := gv_eq hz7
  obtain ⟨z8, hz8, hz8a, hz8b⟩ := hI.int 81 34 (lo := 0) (hi := 1) (by decide) (by decide) rfl
  have ghz8 := gv_eq hz8
  obtain ⟨z9, hz9, hz9a, hz9b⟩ := hI.int 81 23 (lo := 0) (hi := 12) (by decide) (by decide) rfl
  have ghz9 := gv_eq hz9
  obtain ⟨z10, hz10, hz10a, hz10b⟩ := hI.int 81 24 (lo := 0) (hi := 8) (by decide) (by decide) rfl
  have ghz10 := gv_eq hz10
  refine w_aload (i := 1) (npc := 750) (v := cr 0) rfl rfl rfl ?_
  refine w_virt (ci := 7) (i := 0) (npc := 753) (a := [cr 0]) (rest := []) rfl rfl (hI.pl (by decide)) (hI.T (by decide) rfl) rfl rfl rfl rfl (ct_c_fault (sl := sl) (x := x) (d := d + 19)  hI hN) (Or.inl rfl) (fun k9 v9 T12 E12 nx12 kc12 ks12 hq11 hk12 hv12 => ?_)
  obtain ⟨rfl, rfl, rfl, hI14, hG15, hN16, z13, rfl, hz13⟩ := hq11
  have hR17 := rl.fr hR hG15 (by intro i k h; (try simp only at h); omega)
  have hz18 : E12 0 10 = ai_i z1 := (hG15 0 10 (by first | omega | (simp; done) | (simp; omega) | (simp only; omega))).trans hz1
  have ghz18 := gv_eq hz18
  have hz19 : E12 0 11 = ai_i z2 := (hG15 0 11 (by first | omega | (simp; done) | (simp; omega) | (simp only; omega))).trans hz2
  have ghz19 := gv_eq hz19
  have hz20 : E12 0 14 = ai_i z3 := (hG15 0 14 (by first | omega | (simp; done) | (simp; omega) | (simp only; omega))).trans hz3
  have ghz20 := gv_eq hz20
  have hz21 : E12 23 8 = ai_i z4 := (hG15 23 8 (by first | omega | (simp; done) | (simp; omega) | (simp only; omega))).trans hz4
  have ghz21 := gv_eq hz21
  have hz22 : E12 23 9 = ai_i z5 := (hG15 23 9 (by first | omega | (simp; done) | (simp; omega) | (simp only; omega))).trans hz5
  have ghz22 := gv_eq hz22
  have hz23 : E12 81 1 = ai_i z6 := (hG15 81 1 (by first | omega | (simp; done) | (simp; omega) | (simp only; omega))).trans hz6
  have ghz23 := gv_eq hz23
  have hz24 : E12 81 17 = ai_i z7 := (hG15 81 17 (by first | omega | (simp; done) | (simp; omega) | (simp only; omega))).trans hz7
  have ghz24 := gv_eq hz24
  have hz25 : E12 81 34 = ai_i z8 := (hG15 81 34 (by first | omega | (simp; done) | (simp; omega) | (simp only; omega))).trans hz8
  have ghz25 := gv_eq hz25
  have hz26 : E12 81 23 = ai_i z9 := (hG15 81 23 (by first | omega | (simp; done) | (simp; omega) | (simp only; omega))).trans hz9
  have ghz26 := gv_eq hz26
  have hz27 : E12 81 24 = ai_i z10 := (hG15 81 24 (by first | omega | (simp; done) | (simp; omega) | (simp only; omega))).trans hz10
  have ghz27 := gv_eq hz27
  refine Or.inr (Or.inl ⟨rfl, ?_⟩)
  refine w_pop (npc := 754) rfl rfl ?_
  refine w_aload (i := 2) (npc := 755) (v := cr 81) rfl rfl rfl ?_
  refine w_virt (ci := 8) (i := 81) (npc := 758) (a := [cr 81]) (rest := []) rfl rfl (hI14.pl (by decide)) (hI14.T (by decide) rfl) rfl rfl rfl rfl (ct_m_fault (sl := sl) (x := x) (d := d + 19)  hI14 hR17) (Or.inl rfl) (fun k9 v9 T29 E29 nx29 kc29 ks29 hq28 hk29 hv29 => ?_)
  obtain ⟨rfl, rfl, rfl, hI31, hG32, hRz30, z30, rfl, hz30⟩ := hq28
  obtain rfl : kc12 = kc29 := by omega
  obtain rfl : ks12 = ks29 := by omega
  have hN34 := hN16.fr hG32 (by intro i k h; (try simp only at h); omega)
  have hz35 : E29 0 10 = ai_i z1 := (hG32 0 10 (by first | omega | (simp; done) | (simp; omega) | (simp only; omega))).trans hz18
  have ghz35 := gv_eq hz35
  have hz36 : E29 0 11 = ai_i z2 := (hG32 0 11 (by first | omega | (simp; done) | (simp; omega) | (simp only; omega))).trans hz19
  have ghz36 := gv_eq hz36
  have hz37 : E29 0 14 = ai_i z3 := (hG32 0 14 (by first | omega | (simp; done) | (simp; omega) | (simp only; omega))).trans hz20
  have ghz37 := gv_eq hz37
  have hz38 : E29 23 8 = ai_i z4 := (hG32 23 8 (by first | omega | (simp; done) | (simp; omega) | (simp only; omega))).trans hz21
  have ghz38 := gv_eq hz38
  have hz39 : E29 23 9 = ai_i z5 := (hG32 23 9 (by first | omega | (simp; done) | (simp; omega) | (simp only; omega))).trans hz22
  have ghz39 := gv_eq hz39
  have hz40 : E29 81 1 = ai_i z6 := (hG32 81 1 (by first | omega | (simp; done) | (simp; omega) | (simp only; omega))).trans hz23
  have ghz40 := gv_eq hz40
  have hz41 : E29 81 17 = ai_i z7 := (hG32 81 17 (by first | omega | (simp; done) | (simp; omega) | (simp only; omega))).trans hz24
  have ghz41 := gv_eq hz41
  have hz42 : E29 81 34 = ai_i z8 := (hG32 81 34 (by first | omega | (simp; done) | (simp; omega) | (simp only; omega))).trans hz25
  have ghz42 := gv_eq hz42
  have hz43 : E29 81 23 = ai_i z9 := (hG32 81 23 (by first | omega | (simp; done) | (simp; omega) | (simp only; omega))).trans hz26
  have ghz43 := gv_eq hz43
  have hz44 : E29 81 24 = ai_i z10 := (hG32 81 24 (by first | omega | (simp; done) | (simp; omega) | (simp only; omega))).trans hz27
  have ghz44 := gv_eq hz44
  refine Or.inr (Or.inl ⟨rfl, ?_⟩)
  refine w_pop (npc := 759) rfl rfl ?_
  refine w_goto (pt := 1175) rfl ?_
  exact next (u5) (u6) T E29 nx kc12 ks12 hI31 hN34 hRz30 (by omega) (by omega) (by omega) (by omega)
set_option maxRecDepth 16384 in
theorem law_c13 {sl : Int × Int} {x : ai_E} {d A B : Nat} {T : cm_T} {E : cm_E} {nx kc ks : Nat} {L : Int} {sv : Nat → Int} (hsl : sl.1 = L) (hx : ∀ k : Nat, (k : Int) < L → ai_sv x k = ai_i (sv k) ∧ -2147483648 ≤ sv k ∧ sv k ≤ 2147483647) {i : Int} (hi : 0 ≤ i ∧ i + 6 ≤ L ∧ L ≤ 384) (hnx : nx ≤ 1000) (hA : kc + 20 ≤ A) (hB : ks + 2000 ≤ B) (u5 u6 : ai_V) (hI : cs_I T E nx) (hN : hn E) (hR : rl E) (hJ : gv E 0 10 = gv E 81 1 ∧ gv E 0 11 = gv E 81 17 ∧ gv E 0 14 = gv E 81 34 ∧ gv E 23 8 = gv E 81 23 ∧ gv E 23 9 = gv E 81 24)
    (next : ∀ (v5 v6 : ai_V) (T' : cm_T) (E' : cm_E) (nx' kc' ks' : Nat), cs_I T' E' nx' → hn E' → rl E' → (gv E' 0 10 = gv E' 81 1 ∧ gv E' 0 11 = gv E' 81 17 ∧ gv E' 0 14 = gv E' 81 34 ∧ gv E' 23 8 = gv E' 81 23 ∧ gv E' 23 9 = gv E' 81 24) → nx' ≤ nx + 2 → (kc ≤ kc' ∧ kc' ≤ kc + 10) → (ks ≤ ks' ∧ ks' ≤ ks + 500) → cm_wp (ai_find ai_c0 sl) (ai_ev sl (d + 20)) x A B (fun rk rv T' E' nx' => rk = 1 ∧ rv = ai_i 1) 1175 [(6, 0, 0), cr 0, cr 81, cr 104, ai_i i, v5, v6] [] T' E' nx' kc' ks') : cm_wp (ai_find ai_c0 sl) (ai_ev sl (d + 20)) x A B (fun rk rv T' E' nx' => rk = 1 ∧ rv = ai_i 1) 762 [(6, 0, 0), cr 0, cr 81, cr 104, ai_i i, u5, u6] [] T E nx kc ks := by
  obtain ⟨z1, hz1, hz1a, hz1b⟩ := hI.int 0 10 (lo := 1) (hi := 5) (by decide) (by decide) rfl
  have ghz1 := gv_eq hz1
  obtain ⟨z2, hz2, hz2a, hz2b⟩ := hI.int 0 11 (lo := 0) (hi := 400) (by decide) (by decide) rfl
  have ghz2 := gv_eq hz2
  obtain ⟨z3, hz3, hz3a, hz3b⟩ := hI.int 0 14 (lo := 0) (hi := 1) (by decide) (by decide) rfl
  have ghz3 := gv_eq hz3
  obtain ⟨z4, hz4, hz4a, hz4b⟩ := hI.int 23 8 (lo := 0) (hi := 12) (by decide) (by decide) rfl
  have ghz4 := gv_eq hz4
  obtain ⟨z5, hz5, hz5a, hz5b⟩ := hI.int 23 9 (lo := 0) (hi := 8) (by decide) (by decide) rfl
  have ghz5 := gv_eq hz5
  obtain ⟨z6, hz6, hz6a, hz6b⟩ := hI.int 81 1 (lo := 1) (hi := 5) (by decide) (by decide) rfl
  have ghz6 := gv_eq hz6
  obtain ⟨z7, hz7, hz7a, hz7b⟩ := hI.int 81 17 (lo := 0) (hi := 400) (by decide) (by decide) rfl
  have ghz7 := gv_eq hz7
  obtain ⟨z8, hz8, hz8a, hz8b⟩ := hI.int 81 34 (lo := 0) (hi := 1) (by decide) (by decide) rfl
  have ghz8 := gv_eq hz8
  obtain ⟨z9, hz9, hz9a, hz9b⟩ := hI.int 81 23 (lo := 0) (hi := 12) (by decide) (by decide) rfl
  have ghz9 := gv_eq hz9
  obtain ⟨z10, hz10, hz10a, hz10b⟩ := hI.int 81 24 (lo := 0) (hi := 8) (by decide) (by decide) rfl
  have ghz10 := gv_eq hz10
  refine w_aload (i := 1) (npc := 763) (v := cr 0) rfl rfl rfl ?_
  refine w_aload (i := 0) (npc := 764) (v := (6, 0, 0)) rfl rfl rfl ?_
  refine w_iload (i := 4) (npc := 766) rfl rfl ?_
  refine w_const (n := 1) (npc := 767) rfl ?_
  refine w_iadd (npc := 768) rfl (by omega) ?_
  obtain ⟨hx12, hx12a, hx12b⟩ := hx (i + 1 : Int).toNat (by omega)
  refine w_scr (npc := 769) (v := ai_i (sv (i + 1 : Int).toNat)) rfl rfl (by omega) hx12 ?_
  refine w_aload (i := 0) (npc := 770) (v := (6, 0, 0)) rfl rfl rfl ?_
  refine w_iload (i := 4) (npc := 772) rfl rfl ?_
  refine w_const (n := 2) (npc := 773) rfl ?_
  refine w_iadd (npc := 774) rfl (by omega) ?_
  obtain ⟨hx14, hx14a, hx14b⟩ := hx (i + 2 : Int).toNat (by omega)
  refine w_scr (npc := 775) (v := ai_i (sv (i + 2 : Int).toNat)) rfl rfl (by omega) hx14 ?_
  refine w_aload (i := 0) (npc := 776) (v := (6, 0, 0)) rfl rfl rfl ?_
  refine w_iload (i := 4) (npc := 778) rfl rfl ?_
  refine w_const (n := 3) (npc := 779) rfl ?_
  refine w_iadd (npc := 780) rfl (by omega) ?_
  obtain ⟨hx16, hx16a, hx16b⟩ := hx (i + 3 : Int).toNat (by omega)
  refine w_scr (npc := 781) (v := ai_i (sv (i + 3 : Int).toNat)) rfl rfl (by omega) hx16 ?_
  refine w_aload (i := 0) (npc := 782) (v := (6, 0, 0)) rfl rfl rfl ?_
  refine w_iload (i := 4) (npc := 784) rfl rfl ?_
  refine w_const (n := 4) (npc := 785) rfl ?_
  refine w_iadd (npc := 786) rfl (by omega) ?_
  obtain ⟨hx18, hx18a, hx18b⟩ := hx (i + 4 : Int).toNat (by omega)
  refine w_scr (npc := 787) (v := ai_i (sv (i + 4 : Int).toNat)) rfl rfl (by omega) hx18 ?_
  refine w_aload (i := 3) (npc := 788) (v := cr 104) rfl rfl rfl ?_
  refine w_call (npc := 791) (a := [cr 0, ai_i (sv (i + 1 : Int).toNat), ai_i (sv (i + 2 : Int).toNat), ai_i (sv (i + 3 : Int).toNat), ai_i (sv (i + 4 : Int).toNat), cr 104]) (rest := []) rfl rfl rfl rfl rfl (ct_lw_send (sl := sl) (x := x) (d := d + 12) (sv (i + 1 : Int).toNat) (sv (i + 2 : Int).toNat) (sv (i + 3 : Int).toNat) (sv (i + 4 : Int).toNat) hI hN (by omega)) (Or.inr (fun _ _ _ _ _ hq => by have h1 := hq.1; omega)) (fun k9 v9 T20 E20 nx20 kc20 ks20 hq19 hk20 hv20 => ?_)
  obtain ⟨rfl, hnxz21, hnyz21, hI22, hG23, hN24, z21, rfl, hz21⟩ := hq19
  have hR25 := rl.fr hR hG23 (by intro i k h; (try simp only at h); omega)
  have hz26 : E20 0 10 = ai_i z1 := (hG23 0 10 (by first | omega | (simp; done) | (simp; omega) | (simp only; omega))).trans hz1
  have ghz26 := gv_eq hz26
  have hz27 : E20 0 11 = ai_i z2 := (hG23 0 11 (by first | omega | (simp; done) | (simp; omega) | (simp only; omega))).trans hz2
  have ghz27 := gv_eq hz27
  have hz28 : E20 0 14 = ai_i z3 := (hG23 0 14 (by first | omega | (simp; done) | (simp; omega) | (simp only; omega))).trans hz3
  have ghz28 := gv_eq hz28
  have hz29 : E20 23 8 = ai_i z4 := (hG23 23 8 (by first | omega | (simp; done) | (simp; omega) | (simp only; omega))).trans hz4
  have ghz29 := gv_eq hz29
  have hz30 : E20 23 9 = ai_i z5 := (hG23 23 9 (by first | omega | (simp; done) | (simp; omega) | (simp only; omega))).trans hz5
  have ghz30 := gv_eq hz30
  have hz31 : E20 81 1 = ai_i z6 := (hG23 81 1 (by first | omega | (simp; done) | (simp; omega) | (simp only; omega))).trans hz6
  have ghz31 := gv_eq hz31
  have hz32 : E20 81 17 = ai_i z7 := (hG23 81 17 (by first | omega | (simp; done) | (simp; omega) | (simp only; omega))).trans hz7
  have ghz32 := gv_eq hz32
  have hz33 : E20 81 34 = ai_i z8 := (hG23 81 34 (by first | omega | (simp; done) | (simp; omega) | (simp only; omega))).trans hz8
  have ghz33 := gv_eq hz33
  have hz34 : E20 81 23 = ai_i z9 := (hG23 81 23 (by first | omega | (simp; done) | (simp; omega) | (simp only; omega))).trans hz9
  have ghz34 := gv_eq hz34
  have hz35 : E20 81 24 = ai_i z10 := (hG23 81 24 (by first | omega | (simp; done) | (simp; omega) | (simp only; omega))).trans hz10
  have ghz35 := gv_eq hz35
  refine Or.inr (Or.inl ⟨rfl, ?_⟩)
  refine w_istore (i := 5) (npc := 793) (loc' := [(6, 0, 0), cr 0, cr 81, cr 104, ai_i i, ai_i z21, u6]) rfl rfl ?_
  refine w_aload (i := 2) (npc := 794) (v := cr 81) rfl rfl rfl ?_
  refine w_aload (i := 0) (npc := 795) (v := (6, 0, 0)) rfl rfl rfl ?_
  refine w_iload (i := 4) (npc := 797) rfl rfl ?_
  refine w_const (n := 1) (npc := 798) rfl ?_
  refine w_iadd (npc := 799) rfl (by omega) ?_
  obtain ⟨hx37, hx37a, hx37b⟩ := hx (i + 1 : Int).toNat (by omega)
  refine w_scr (npc := 800) (v := ai_i (sv (i + 1 : Int).toNat)) rfl rfl (by omega) hx37 ?_
  refine w_aload (i := 0) (npc := 801) (v := (6, 0, 0)) rfl rfl rfl ?_
  refine w_iload (i := 4) (npc := 803) rfl rfl ?_
  refine w_const (n := 2) (npc := 804) rfl ?_
  refine w_iadd (npc := 805) rfl (by omega) ?_
  obtain ⟨hx39, hx39a, hx39b⟩ := hx (i + 2 : Int).toNat (by omega)
  refine w_scr (npc := 806) (v := ai_i (sv (i + 2 : Int).toNat)) rfl rfl (by omega) hx39 ?_
  refine w_aload (i := 0) (npc := 807) (v := (6, 0, 0)) rfl rfl rfl ?_
  refine w_iload (i := 4) (npc := 809) rfl rfl ?_
  refine w_const (n := 3) (npc := 810) rfl ?_
  refine w_iadd (npc := 811) rfl (by omega) ?_
  obtain ⟨hx41, hx41a, hx41b⟩ := hx (i + 3 : Int).toNat (by omega)
  refine w_scr (npc := 812) (v := ai_i (sv (i + 3 : Int).toNat)) rfl rfl (by omega) hx41 ?_
  refine w_aload (i := 0) (npc := 813) (v := (6, 0, 0)) rfl rfl rfl ?_
  refine w_iload (i := 4) (npc := 815) rfl rfl ?_
  refine w_const (n := 4) (npc := 816) rfl ?_
  refine w_iadd (npc := 817) rfl (by omega) ?_
  obtain ⟨hx43, hx43a, hx43b⟩ := hx (i + 4 : Int).toNat (by omega)
  refine w_scr (npc := 818) (v := ai_i (sv (i + 4 : Int).toNat)) rfl rfl (by omega) hx43 ?_
  refine w_virt (ci := 8) (i := 81) (npc := 821) (a := [cr 81, ai_i (sv (i + 1 : Int).toNat), ai_i (sv (i + 2 : Int).toNat), ai_i (sv (i + 3 : Int).toNat), ai_i (sv (i + 4 : Int).toNat)]) (rest := []) rfl rfl (hI22.pl (by decide)) (hI22.T (by decide) rfl) rfl rfl rfl rfl (ct_m_send (sl := sl) (x := x) (d := d + 14) (sv (i + 1 : Int).toNat) (sv (i + 2 : Int).toNat) (sv (i + 3 : Int).toNat) (sv (i + 4 : Int).toNat) hI22 hR25 (by omega) (by omega) (by omega) (by omega)) (Or.inl rfl) (fun k9 v9 T45 E45 nx45 kc45 ks45 hq44 hk45 hv45 => ?_)
  obtain ⟨rfl, rfl, rfl, hI47, hG48, hRz46, z46, rfl, hz46⟩ := hq44
  obtain rfl : kc20 = kc45 := by omega
  obtain rfl : ks20 = ks45 := by omega
  have hN50 := hN24.fr hG48 (by intro i k h; (try simp only at h); omega)
  have hz51 : E45 0 10 = ai_i z1 := (hG48 0 10 (by first | omega | (simp; done) | (simp; omega) | (simp only; omega))).trans hz26
  have ghz51 := gv_eq hz51
  have hz52 : E45 0 11 = ai_i z2 := (hG48 0 11 (by first | omega | (simp; done) | (simp; omega) | (simp only; omega))).trans hz27
  have ghz52 := gv_eq hz52
  have hz53 : E45 0 14 = ai_i z3 := (hG48 0 14 (by first | omega | (simp; done) | (simp; omega) | (simp only; omega))).trans hz28
  have ghz53 := gv_eq hz53
  have hz54 : E45 23 8 = ai_i z4 := (hG48 23 8 (by first | omega | (simp; done) | (simp; omega) | (simp only; omega))).trans hz29
  have ghz54 := gv_eq hz54
  have hz55 : E45 23 9 = ai_i z5 := (hG48 23 9 (by first | omega | (simp; done) | (simp; omega) | (simp only; omega))).trans hz30
  have ghz55 := gv_eq hz55
  have hz56 : E45 81 1 = ai_i z6 := (hG48 81 1 (by first | omega | (simp; done) | (simp; omega) | (simp only; omega))).trans hz31
  have ghz56 := gv_eq hz56
  have hz57 : E45 81 17 = ai_i z7 := (hG48 81 17 (by first | omega | (simp; done) | (simp; omega) | (simp only; omega))).trans hz32
  have ghz57 := gv_eq hz57
  have hz58 : E45 81 34 = ai_i z8 := (hG48 81 34 (by first | omega | (simp; done) | (simp; omega) | (simp only; omega))).trans hz33
  have ghz58 := gv_eq hz58
  have hz59 : E45 81 23 = ai_i z9 := (hG48 81 23 (by first | omega | (simp; done) | (simp; omega) | (simp only; omega))).trans hz34
  have ghz59 := gv_eq hz59
  have hz60 : E45 81 24 = ai_i z10 := (hG48 81 24 (by first | omega | (simp; done) | (simp; omega) | (simp only; omega))).trans hz35
  have ghz60 := gv_eq hz60
  refine Or.inr (Or.inl ⟨rfl, ?_⟩)
  refine w_istore (i := 6) (npc := 823) (loc' := [(6, 0, 0), cr 0, cr 81, cr 104, ai_i i, ai_i z21, ai_i z46]) rfl rfl ?_
  refine w_goto (pt := 1175) rfl ?_
  exact next (ai_i z21) (ai_i z46) T20 E45 nx20 kc20 ks20 hI47 hN50 hRz46 (by omega) (by omega) (by omega) (by omega)
set_option maxRecDepth 16384 in
theorem law_c14 {sl : Int × Int} {x : ai_E} {d A B : Nat} {T : cm_T} {E : cm_E} {nx kc ks : Nat} {L : Int} {sv : Nat → Int} (hsl : sl.1 = L) (hx : ∀ k : Nat, (k : Int) < L → ai_sv x k = ai_i (sv k) ∧ -2147483648 ≤ sv k ∧ sv k ≤ 2147483647) {i : Int} (hi : 0 ≤ i ∧ i + 6 ≤ L ∧ L ≤ 384) (hnx : nx ≤ 1000) (hA : kc + 20 ≤ A) (hB : ks + 2000 ≤ B) (u5 u6 : ai_V) (hI : cs_I T E nx) (hN : hn E) (hR : rl E) (hJ : gv E 0 10 = gv E 81 1 ∧ gv E 0 11 = gv E 81 17 ∧ gv E 0 14 = gv E 81 34 ∧ gv E 23 8 = gv E 81 23 ∧ gv E 23 9 = gv E 81 24)
    (next : ∀ (v5 v6 : ai_V) (T' : cm_T) (E' : cm_E) (nx' kc' ks' : Nat), cs_I T' E' nx' → hn E' → rl E' → (gv E' 0 10 = gv E' 81 1 ∧ gv E' 0 11 = gv E' 81 17 ∧ gv E' 0 14 = gv E' 81 34 ∧ gv E' 23 8 = gv E' 81 23 ∧ gv E' 23 9 = gv E' 81 24) → nx' ≤ nx + 2 → (kc ≤ kc' ∧ kc' ≤ kc + 10) → (ks ≤ ks' ∧ ks' ≤ ks + 500) → cm_wp (ai_find ai_c0 sl) (ai_ev sl (d + 20)) x A B (fun rk rv T' E' nx' => rk = 1 ∧ rv = ai_i 1) 1175 [(6, 0, 0), cr 0, cr 81, cr 104, ai_i i, v5, v6] [] T' E' nx' kc' ks') : cm_wp (ai_find ai_c0 sl) (ai_ev sl (d + 20)) x A B (fun rk rv T' E' nx' => rk = 1 ∧ rv = ai_i 1) 826 [(6, 0, 0), cr 0, cr 81, cr 104, ai_i i, u5, u6] [] T E nx kc ks := by
  obtain ⟨z1, hz1, hz1a, hz1b⟩ := hI.int 0 10 (lo := 1) (hi := 5) (by decide) (by decide) rfl
  have ghz1 := gv_eq hz1
  obtain ⟨z2, hz2, hz2a, hz2b⟩ := hI.int 0 11 (lo := 0) (hi := 400) (by decide) (by decide) rfl
  have ghz2 := gv_eq hz2
  obtain ⟨z3, hz3, hz3a, hz3b⟩ := hI.int 0 14 (lo := 0) (hi := 1) (by decide) (by decide) rfl
  have ghz3 := gv_eq hz3
  obtain ⟨z4, hz4, hz4a, hz4b⟩ := hI.int 23 8 (lo := 0) (hi := 12) (by decide) (by decide) rfl
  have ghz4 := gv_eq hz4
  obtain ⟨z5, hz5, hz5a, hz5b⟩ := hI.int 23 9 (lo := 0) (hi := 8) (by decide) (by decide) rfl
  have ghz5 := gv_eq hz5
  obtain ⟨z6, hz6, hz6a, hz6b⟩ := hI.int 81 1 (lo := 1) (hi := 5) (by decide) (by decide) rfl
  have ghz6 := gv_eq hz6
  obtain ⟨z7, hz7, hz7a, hz7b⟩ := hI.int 81 17 (lo := 0) (hi := 400) (by decide) (by decide) rfl
  have ghz7 := gv_eq hz7
  obtain ⟨z8, hz8, hz8a, hz8b⟩ := hI.int 81 34 (lo := 0) (hi := 1) (by decide) (by decide) rfl
  have ghz8 := gv_eq hz8
  obtain ⟨z9, hz9, hz9a, hz9b⟩ := hI.int 81 23 (lo := 0) (hi := 12) (by decide) (by decide) rfl
  have ghz9 := gv_eq hz9
  obtain ⟨z10, hz10, hz10a, hz10b⟩ := hI.int 81 24 (lo := 0) (hi := 8) (by decide) (by decide) rfl
  have ghz10 := gv_eq hz10
  refine w_aload (i := 1) (npc := 827) (v := cr 0) rfl rfl rfl ?_
  refine w_aload (i := 0) (npc := 828) (v := (6, 0, 0)) rfl rfl rfl ?_
  refine w_iload (i := 4) (npc := 830) rfl rfl ?_
  refine w_const (n := 1) (npc := 831) rfl ?_
  refine w_iadd (npc := 832) rfl (by omega) ?_
  obtain ⟨hx12, hx12a, hx12b⟩ := hx (i + 1 : Int).toNat (by omega)
  refine w_scr (npc := 833) (v := ai_i (sv (i + 1 : Int).toNat)) rfl rfl (by omega) hx12 ?_
  refine w_aload (i := 0) (npc := 834) (v := (6, 0, 0)) rfl rfl rfl ?_
  refine w_iload (i := 4) (npc := 836) rfl rfl ?_
  refine w_const (n := 2) (npc := 837) rfl ?_
  refine w_iadd (npc := 838) rfl (by omega) ?_
  obtain ⟨hx14, hx14a, hx14b⟩ := hx (i + 2 : Int).toNat (by omega)
  refine w_scr (npc := 839) (v := ai_i (sv (i + 2 : Int).toNat)) rfl rfl (by omega) hx14 ?_
  refine w_aload (i := 0) (npc := 840) (v := (6, 0, 0)) rfl rfl rfl ?_
  refine w_iload (i := 4) (npc := 842) rfl rfl ?_
  refine w_const (n := 3) (npc := 843) rfl ?_
  refine w_iadd (npc := 844) rfl (by omega) ?_
  obtain ⟨hx16, hx16a, hx16b⟩ := hx (i + 3 : Int).toNat (by omega)
  refine w_scr (npc := 845) (v := ai_i (sv (i + 3 : Int).toNat)) rfl rfl (by omega) hx16 ?_
  refine w_aload (i := 3) (npc := 846) (v := cr 104) rfl rfl rfl ?_
  refine w_call (npc := 849) (a := [cr 0, ai_i (sv (i + 1 : Int).toNat), ai_i (sv (i + 2 : Int).toNat), ai_i (sv (i + 3 : Int).toNat), cr 104]) (rest := []) rfl rfl rfl rfl rfl (ct_lw_lacks (sl := sl) (x := x) (d := d + 15) (sv (i + 1 : Int).toNat) (sv (i + 2 : Int).toNat) (sv (i + 3 : Int).toNat) hI hN (by omega)) (Or.inr (fun _ _ _ _ _ hq => by have h1 := hq.1; omega)) (fun k9 v9 T18 E18 nx18 kc18 ks18 hq17 hk18 hv18 => ?_)
  obtain ⟨rfl, hnxz19, hnyz19, hI20, hG21, hN22, z19, rfl, hz19⟩ := hq17
  have hR23 := rl.fr hR hG21 (by intro i k h; (try simp only at h); omega)
  have hz24 : E18 0 10 = ai_i z1 := (hG21 0 10 (by first | omega | (simp; done) | (simp; omega) | (simp only; omega))).trans hz1
  have ghz24 := gv_eq hz24
  have hz25 : E18 0 11 = ai_i z2 := (hG21 0 11 (by first | omega | (simp; done) | (simp; omega) | (simp only; omega))).trans hz2
  have ghz25 := gv_eq hz25
  have hz26 : E18 0 14 = ai_i z3 := (hG21 0 14 (by first | omega | (simp; done) | (simp; omega) | (simp only; omega))).trans hz3
  have ghz26 := gv_eq hz26
  have hz27 : E18 23 8 = ai_i z4 := (hG21 23 8 (by first | omega | (simp; done) | (simp; omega) | (simp only; omega))).trans hz4
  have ghz27 := gv_eq hz27
  have hz28 : E18 23 9 = ai_i z5 := (hG21 23 9 (by first | omega | (simp; done) | (simp; omega) | (simp only; omega))).trans hz5
  have ghz28 := gv_eq hz28
  have hz29 : E18 81 1 = ai_i z6 := (hG21 81 1 (by first | omega | (simp; done) | (simp; omega) | (simp only; omega))).trans hz6
  have ghz29 := gv_eq hz29
  have hz30 : E18 81 17 = ai_i z7 := (hG21 81 17 (by first | omega | (simp; done) | (simp; omega) | (simp only; omega))).trans hz7
  have ghz30 := gv_eq hz30
  have hz31 : E18 81 34 = ai_i z8 := (hG21 81 34 (by first | omega | (simp; done) | (simp; omega) | (simp only; omega))).trans hz8
  have ghz31 := gv_eq hz31
  have hz32 : E18 81 23 = ai_i z9 := (hG21 81 23 (by first | omega | (simp; done) | (simp; omega) | (simp only; omega))).trans hz9
  have ghz32 := gv_eq hz32
  have hz33 : E18 81 24 = ai_i z10 := (hG21 81 24 (by first | omega | (simp; done) | (simp; omega) | (simp only; omega))).trans hz10
  have ghz33 := gv_eq hz33
  refine Or.inr (Or.inl ⟨rfl, ?_⟩)
  refine w_istore (i := 5) (npc := 851) (loc' := [(6, 0, 0), cr 0, cr 81, cr 104, ai_i i, ai_i z19, u6]) rfl rfl ?_
  refine w_aload (i := 2) (npc := 852) (v := cr 81) rfl rfl rfl ?_
  refine w_aload (i := 0) (npc := 853) (v := (6, 0, 0)) rfl rfl rfl ?_
  refine w_iload (i := 4) (npc := 855) rfl rfl ?_
  refine w_const (n := 1) (npc := 856) rfl ?_
  refine w_iadd (npc := 857) rfl (by omega) ?_
  obtain ⟨hx35, hx35a, hx35b⟩ := hx (i + 1 : Int).toNat (by omega)
  refine w_scr (npc := 858) (v := ai_i (sv (i + 1 : Int).toNat)) rfl rfl (by omega) hx35 ?_
  refine w_aload (i := 0) (npc := 859) (v := (6, 0, 0)) rfl rfl rfl ?_
  refine w_iload (i := 4) (npc := 861) rfl rfl ?_
  refine w_const (n := 2) (npc := 862) rfl ?_
  refine w_iadd (npc := 863) rfl (by omega) ?_
  obtain ⟨hx37, hx37a, hx37b⟩ := hx (i + 2 : Int).toNat (by omega)
  refine w_scr (npc := 864) (v := ai_i (sv (i + 2 : Int).toNat)) rfl rfl (by omega) hx37 ?_
  refine w_aload (i := 0) (npc := 865) (v := (6, 0, 0)) rfl rfl rfl ?_
  refine w_iload (i := 4) (npc := 867) rfl rfl ?_
  refine w_const (n := 3) (npc := 868) rfl ?_
  refine w_iadd (npc := 869) rfl (by omega) ?_
  obtain ⟨hx39, hx39a, hx39b⟩ := hx (i + 3 : Int).toNat (by omega)
  refine w_scr (npc := 870) (v := ai_i (sv (i + 3 : Int).toNat)) rfl rfl (by omega) hx39 ?_
  refine w_virt (ci := 8) (i := 81) (npc := 873) (a := [cr 81, ai_i (sv (i + 1 : Int).toNat), ai_i (sv (i + 2 : Int).toNat), ai_i (sv (i + 3 : Int).toNat)]) (rest := []) rfl rfl (hI20.pl (by decide)) (hI20.T (by decide) rfl) rfl rfl rfl rfl (ct_m_lacks (sl := sl) (x := x) (d := d + 14) (sv (i + 1 : Int).toNat) (sv (i + 2 : Int).toNat) (sv (i + 3 : Int).toNat) hI20 hR23 (by omega) (by omega) (by omega)) (Or.inl rfl) (fun k9 v9 T41 E41 nx41 kc41 ks41 hq40 hk41 hv41 => ?_)
  obtain ⟨rfl, rfl, rfl, hI43, hG44, hRz42, z42, rfl, hz42⟩ := hq40
  obtain rfl : kc18 = kc41 := by omega
  obtain rfl : ks18 = ks41 := by omega
  have hN46 := hN22.fr hG44 (by intro i k h; (try simp only at h); omega)
  have hz47 : E41 0 10 = ai_i z1 := (hG44 0 10 (by first | omega | (simp; done) | (simp; omega) | (simp only; omega))).trans hz24
  have ghz47 := gv_eq hz47
  have hz48 : E41 0 11 = ai_i z2 := (hG44 0 11 (by first | omega | (simp; done) | (simp; omega) | (simp only; omega))).trans hz25
  have ghz48 := gv_eq hz48
  have hz49 : E41 0 14 = ai_i z3 := (hG44 0 14 (by first | omega | (simp; done) | (simp; omega) | (simp only; omega))).trans hz26
  have ghz49 := gv_eq hz49
  have hz50 : E41 23 8 = ai_i z4 := (hG44 23 8 (by first | omega | (simp; done) | (simp; omega) | (simp only; omega))).trans hz27
  have ghz50 := gv_eq hz50
  have hz51 : E41 23 9 = ai_i z5 := (hG44 23 9 (by first | omega | (simp; done) | (simp; omega) | (simp only; omega))).trans hz28
  have ghz51 := gv_eq hz51
  have hz52 : E41 81 1 = ai_i z6 := (hG44 81 1 (by first | omega | (simp; done) | (simp; omega) | (simp only; omega))).trans hz29
  have ghz52 := gv_eq hz52
  have hz53 : E41 81 17 = ai_i z7 := (hG44 81 17 (by first | omega | (simp; done) | (simp; omega) | (simp only; omega))).trans hz30
  have ghz53 := gv_eq hz53
  have hz54 : E41 81 34 = ai_i z8 := (hG44 81 34 (by first | omega | (simp; done) | (simp; omega) | (simp only; omega))).trans hz31
  have ghz54 := gv_eq hz54
  have hz55 : E41 81 23 = ai_i z9 := (hG44 81 23 (by first | omega | (simp; done) | (simp; omega) | (simp only; omega))).trans hz32
  have ghz55 := gv_eq hz55
  have hz56 : E41 81 24 = ai_i z10 := (hG44 81 24 (by first | omega | (simp; done) | (simp; omega) | (simp only; omega))).trans hz33
  have ghz56 := gv_eq hz56
  refine Or.inr (Or.inl ⟨rfl, ?_⟩)
  refine w_istore (i := 6) (npc := 875) (loc' := [(6, 0, 0), cr 0, cr 81, cr 104, ai_i i, ai_i z19, ai_i z42]) rfl rfl ?_
  refine w_goto (pt := 1175) rfl ?_
  exact next (ai_i z19) (ai_i z42) T18 E41 nx18 kc18 ks18 hI43 hN46 hRz42 (by omega) (by omega) (by omega) (by omega)
set_option maxRecDepth 16384 in
theorem law_c15 {sl : Int × Int} {x : ai_E} {d A B : Nat} {T : cm_T} {E : cm_E} {nx kc ks : Nat} {L : Int} {sv : Nat → Int} (hsl : sl.1 = L) (hx : ∀ k : Nat, (k : Int) < L → ai_sv x k = ai_i (sv k) ∧ -2147483648 ≤ sv k ∧ sv k ≤ 2147483647) {i : Int} (hi : 0 ≤ i ∧ i + 6 ≤ L ∧ L ≤ 384) (hnx : nx ≤ 1000) (hA : kc + 20 ≤ A) (hB : ks + 2000 ≤ B) (u5 u6 : ai_V) (hI : cs_I T E nx) (hN : hn E) (hR : rl E) (hJ : gv E 0 10 = gv E 81 1 ∧ gv E 0 11 = gv E 81 17 ∧ gv E 0 14 = gv E 81 34 ∧ gv E 23 8 = gv E 81 23 ∧ gv E 23 9 = gv E 81 24)
    (next : ∀ (v5 v6 : ai_V) (T' : cm_T) (E' : cm_E) (nx' kc' ks' : Nat), cs_I T' E' nx' → hn E' → rl E' → (gv E' 0 10 = gv E' 81 1 ∧ gv E' 0 11 = gv E' 81 17 ∧ gv E' 0 14 = gv E' 81 34 ∧ gv E' 23 8 = gv E' 81 23 ∧ gv E' 23 9 = gv E' 81 24) → nx' ≤ nx + 2 → (kc ≤ kc' ∧ kc' ≤ kc + 10) → (ks ≤ ks' ∧ ks' ≤ ks + 500) → cm_wp (ai_find ai_c0 sl) (ai_ev sl (d + 20)) x A B (fun rk rv T' E' nx' => rk = 1 ∧ rv = ai_i 1) 1175 [(6, 0, 0), cr 0, cr 81, cr 104, ai_i i, v5, v6] [] T' E' nx' kc' ks') : cm_wp (ai_find ai_c0 sl) (ai_ev sl (d + 20)) x A B (fun rk rv T' E' nx' => rk = 1 ∧ rv = ai_i 1) 878 [(6, 0, 0), cr 0, cr 81, cr 104, ai_i i, u5, u6] [] T E nx kc ks := by
  obtain ⟨z1, hz1, hz1a, hz1b⟩ := hI.int 0 10 (lo := 1) (hi := 5) (by decide) (by decide) rfl
  have ghz1 := gv_eq hz1
  obtain ⟨z2, hz2, hz2a, hz2b⟩ := hI.int 0 11 (lo := 0) (hi := 400) (by decide) (by decide) rfl
  have ghz2 := gv_eq hz2
  obtain ⟨z3, hz3, hz3a, hz3b⟩ := hI.int 0 14 (lo := 0) (hi := 1) (by decide) (by decide) rfl
  have ghz3 := gv_eq hz3
  obtain ⟨z4, hz4, hz4a, hz4b⟩ := hI.int 23 8 (lo := 0) (hi := 12) (by decide) (by decide) rfl
  have ghz4 := gv_eq hz4
  obtain ⟨z5, hz5, hz5a, hz5b⟩ := hI.int 23 9 (lo := 0) (hi := 8) (by decide) (by decide) rfl
  have ghz5 := gv_eq hz5
  obtain ⟨z6, hz6, hz6a, hz6b⟩ := hI.int 81 1 (lo := 1) (hi := 5) (by decide) (by decide) rfl
  have ghz6 := gv_eq hz6
  obtain ⟨z7, hz7, hz7a, hz7b⟩ := hI.int 81 17 (lo := 0) (hi := 400) (by decide) (by decide) rfl
  have ghz7 := gv_eq hz7
  obtain ⟨z8, hz8, hz8a, hz8b⟩ := hI.int 81 34 (lo := 0) (hi := 1) (by decide) (by decide) rfl
  have ghz8 := gv_eq hz8
  obtain ⟨z9, hz9, hz9a, hz9b⟩ := hI.int 81 23 (lo := 0) (hi := 12) (by decide) (by decide) rfl
  have ghz9 := gv_eq hz9
  obtain ⟨z10, hz10, hz10a, hz10b⟩ := hI.int 81 24 (lo := 0) (hi := 8) (by decide) (by decide) rfl
  have ghz10 := gv_eq hz10
  refine w_aload (i := 1) (npc := 879) (v := cr 0) rfl rfl rfl ?_
  refine w_aload (i := 0) (npc := 880) (v := (6, 0, 0)) rfl rfl rfl ?_
  refine w_iload (i := 4) (npc := 882) rfl rfl ?_
  refine w_const (n := 1) (npc := 883) rfl ?_
  refine w_iadd (npc := 884) rfl (by omega) ?_
  obtain ⟨hx12, hx12a, hx12b⟩ := hx (i + 1 : Int).toNat (by omega)
  refine w_scr (npc := 885) (v := ai_i (sv (i + 1 : Int).toNat)) rfl rfl (by omega) hx12 ?_
  refine w_aload (i := 0) (npc := 886) (v := (6, 0, 0)) rfl rfl rfl ?_
  refine w_iload (i := 4) (npc := 888) rfl rfl ?_
  refine w_const (n := 2) (npc := 889) rfl ?_
  refine w_iadd (npc := 890) rfl (by omega) ?_
  obtain ⟨hx14, hx14a, hx14b⟩ := hx (i + 2 : Int).toNat (by omega)
  refine w_scr (npc := 891) (v := ai_i (sv (i + 2 : Int).toNat)) rfl rfl (by omega) hx14 ?_
  refine w_aload (i := 3) (npc := 892) (v := cr 104) rfl rfl rfl ?_
  refine w_call (npc := 895) (a := [cr 0, ai_i (sv (i + 1 : Int).toNat), ai_i (sv (i + 2 : Int).toNat), cr 104]) (rest := []) rfl rfl rfl rfl rfl (ct_lw_fewest (sl := sl) (x := x) (d := d + 15) (sv (i + 1 : Int).toNat) (sv (i + 2 : Int).toNat) hI hN (by omega)) (Or.inr (fun _ _ _ _ _ hq => by have h1 := hq.1; omega)) (fun k9 v9 T16 E16 nx16 kc16 ks16 hq15 hk16 hv16 => ?_)
  obtain ⟨rfl, hnxz17, hnyz17, hI18, hG19, hN20, z17, rfl, hz17⟩ := hq15
  have hR21 := rl.fr hR hG19 (by intro i k h; (try simp only at h); omega)
  have hz22 : E16 0 10 = ai_i z1 := (hG19 0 10 (by first | omega | (simp; done) | (simp; omega) | (simp only; omega))).trans hz1
  have ghz22 := gv_eq hz22
  have hz23 : E16 0 11 = ai_i z2 := (hG19 0 11 (by first | omega | (simp; done) | (simp; omega) | (simp only; omega))).trans hz2
  have ghz23 := gv_eq hz23
  have hz24 : E16 0 14 = ai_i z3 := (hG19 0 14 (by first | omega | (simp; done) | (simp; omega) | (simp only; omega))).trans hz3
  have ghz24 := gv_eq hz24
  have hz25 : E16 23 8 = ai_i z4 := (hG19 23 8 (by first | omega | (simp; done) | (simp; omega) | (simp only; omega))).trans hz4
  have ghz25 := gv_eq hz25
  have hz26 : E16 23 9 = ai_i z5 := (hG19 23 9 (by first | omega | (simp; done) | (simp; omega) | (simp only; omega))).trans hz5
  have ghz26 := gv_eq hz26
  have hz27 : E16 81 1 = ai_i z6 := (hG19 81 1 (by first | omega | (simp; done) | (simp; omega) | (simp only; omega))).trans hz6
  have ghz27 := gv_eq hz27
  have hz28 : E16 81 17 = ai_i z7 := (hG19 81 17 (by first | omega | (simp; done) | (simp; omega) | (simp only; omega))).trans hz7
  have ghz28 := gv_eq hz28
  have hz29 : E16 81 34 = ai_i z8 := (hG19 81 34 (by first | omega | (simp; done) | (simp; omega) | (simp only; omega))).trans hz8
  have ghz29 := gv_eq hz29
  have hz30 : E16 81 23 = ai_i z9 := (hG19 81 23 (by first | omega | (simp; done) | (simp; omega) | (simp only; omega))).trans hz9
  have ghz30 := gv_eq hz30
  have hz31 : E16 81 24 = ai_i z10 := (hG19 81 24 (by first | omega | (simp; done) | (simp; omega) | (simp only; omega))).trans hz10
  have ghz31 := gv_eq hz31
  refine Or.inr (Or.inl ⟨rfl, ?_⟩)
  refine w_istore (i := 5) (npc := 897) (loc' := [(6, 0, 0), cr 0, cr 81, cr 104, ai_i i, ai_i z17, u6]) rfl rfl ?_
  refine w_aload (i := 2) (npc := 898) (v := cr 81) rfl rfl rfl ?_
  refine w_aload (i := 0) (npc := 899) (v := (6, 0, 0)) rfl rfl rfl ?_
  refine w_iload (i := 4) (npc := 901) rfl rfl ?_
  refine w_const (n := 1) (npc := 902) rfl ?_
  refine w_iadd (npc := 903) rfl (by omega) ?_
  obtain ⟨hx33, hx33a, hx33b⟩ := hx (i + 1 : Int).toNat (by omega)
  refine w_scr (npc := 904) (v := ai_i (sv (i + 1 : Int).toNat)) rfl rfl (by omega) hx33 ?_
  refine w_aload (i := 0) (npc := 905) (v := (6, 0, 0)) rfl rfl rfl ?_
  refine w_iload (i := 4) (npc := 907) rfl rfl ?_
  refine w_const (n := 2) (npc := 908) rfl ?_
  refine w_iadd (npc := 909) rfl (by omega) ?_
  obtain ⟨hx35, hx35a, hx35b⟩ := hx (i + 2 : Int).toNat (by omega)
  refine w_scr (npc := 910) (v := ai_i (sv (i + 2 : Int).toNat)) rfl rfl (by omega) hx35 ?_
  refine w_virt (ci := 8) (i := 81) (npc := 913) (a := [cr 81, ai_i (sv (i + 1 : Int).toNat), ai_i (sv (i + 2 : Int).toNat)]) (rest := []) rfl rfl (hI18.pl (by decide)) (hI18.T (by decide) rfl) rfl rfl rfl rfl (ct_m_fewest (sl := sl) (x := x) (d := d + 14) (sv (i + 1 : Int).toNat) (sv (i + 2 : Int).toNat) hI18 hR21 (by omega) (by omega)) (Or.inl rfl) (fun k9 v9 T37 E37 nx37 kc37 ks37 hq36 hk37 hv37 => ?_)
  obtain ⟨rfl, rfl, rfl, hI39, hG40, hRz38, z38, rfl, hz38⟩ := hq36
  obtain rfl : kc16 = kc37 := by omega
  obtain rfl : ks16 = ks37 := by omega
  have hN42 := hN20.fr hG40 (by intro i k h; (try simp only at h); omega)
  have hz43 : E37 0 10 = ai_i z1 := (hG40 0 10 (by first | omega | (simp; done) | (simp; omega) | (simp only; omega))).trans hz22
  have ghz43 := gv_eq hz43
  have hz44 : E37 0 11 = ai_i z2 := (hG40 0 11 (by first | omega | (simp; done) | (simp; omega) | (simp only; omega))).trans hz23
  have ghz44 := gv_eq hz44
  have hz45 : E37 0 14 = ai_i z3 := (hG40 0 14 (by first | omega | (simp; done) | (simp; omega) | (simp only; omega))).trans hz24
  have ghz45 := gv_eq hz45
  have hz46 : E37 23 8 = ai_i z4 := (hG40 23 8 (by first | omega | (simp; done) | (simp; omega) | (simp only; omega))).trans hz25
  have ghz46 := gv_eq hz46
  have hz47 : E37 23 9 = ai_i z5 := (hG40 23 9 (by first | omega | (simp; done) | (simp; omega) | (simp only; omega))).trans hz26
  have ghz47 := gv_eq hz47
  have hz48 : E37 81 1 = ai_i z6 := (hG40 81 1 (by first | omega | (simp; done) | (simp; omega) | (simp only; omega))).trans hz27
  have ghz48 := gv_eq hz48
  have hz49 : E37 81 17 = ai_i z7 := (hG40 81 17 (by first | omega | (simp; done) | (simp; omega) | (simp only; omega))).trans hz28
  have ghz49 := gv_eq hz49
  have hz50 : E37 81 34 = ai_i z8 := (hG40 81 34 (by first | omega | (simp; done) | (simp; omega) | (simp only; omega))).trans hz29
  have ghz50 := gv_eq hz50
  have hz51 : E37 81 23 = ai_i z9 := (hG40 81 23 (by first | omega | (simp; done) | (simp; omega) | (simp only; omega))).trans hz30
  have ghz51 := gv_eq hz51
  have hz52 : E37 81 24 = ai_i z10 := (hG40 81 24 (by first | omega | (simp; done) | (simp; omega) | (simp only; omega))).trans hz31
  have ghz52 := gv_eq hz52
  refine Or.inr (Or.inl ⟨rfl, ?_⟩)
  refine w_istore (i := 6) (npc := 915) (loc' := [(6, 0, 0), cr 0, cr 81, cr 104, ai_i i, ai_i z17, ai_i z38]) rfl rfl ?_
  refine w_goto (pt := 1175) rfl ?_
  exact next (ai_i z17) (ai_i z38) T16 E37 nx16 kc16 ks16 hI39 hN42 hRz38 (by omega) (by omega) (by omega) (by omega)
set_option maxRecDepth 16384 in
theorem law_c16 {sl : Int × Int} {x : ai_E} {d A B : Nat} {T : cm_T} {E : cm_E} {nx kc ks : Nat} {L : Int} {sv : Nat → Int} (hsl : sl.1 = L) (hx : ∀ k : Nat, (k : Int) < L → ai_sv x k = ai_i (sv k) ∧ -2147483648 ≤ sv k ∧ sv k ≤ 2147483647) {i : Int} (hi : 0 ≤ i ∧ i + 6 ≤ L ∧ L ≤ 384) (hnx : nx ≤ 1000) (hA : kc + 20 ≤ A) (hB : ks + 2000 ≤ B) (u5 u6 : ai_V) (hI : cs_I T E nx) (hN : hn E) (hR : rl E) (hJ : gv E 0 10 = gv E 81 1 ∧ gv E 0 11 = gv E 81 17 ∧ gv E 0 14 = gv E 81 34 ∧ gv E 23 8 = gv E 81 23 ∧ gv E 23 9 = gv E 81 24)
    (next : ∀ (v5 v6 : ai_V) (T' : cm_T) (E' : cm_E) (nx' kc' ks' : Nat), cs_I T' E' nx' → hn E' → rl E' → (gv E' 0 10 = gv E' 81 1 ∧ gv E' 0 11 = gv E' 81 17 ∧ gv E' 0 14 = gv E' 81 34 ∧ gv E' 23 8 = gv E' 81 23 ∧ gv E' 23 9 = gv E' 81 24) → nx' ≤ nx + 2 → (kc ≤ kc' ∧ kc' ≤ kc + 10) → (ks ≤ ks' ∧ ks' ≤ ks + 500) → cm_wp (ai_find ai_c0 sl) (ai_ev sl (d + 20)) x A B (fun rk rv T' E' nx' => rk = 1 ∧ rv = ai_i 1) 1175 [(6, 0, 0), cr 0, cr 81, cr 104, ai_i i, v5, v6] [] T' E' nx' kc' ks') : cm_wp (ai_find ai_c0 sl) (ai_ev sl (d + 20)) x A B (fun rk rv T' E' nx' => rk = 1 ∧ rv = ai_i 1) 918 [(6, 0, 0), cr 0, cr 81, cr 104, ai_i i, u5, u6] [] T E nx kc ks := by
  obtain ⟨z1, hz1, hz1a, hz1b⟩ := hI.int 0 10 (lo := 1) (hi := 5) (by decide) (by decide) rfl
  have ghz1 := gv_eq hz1
  obtain ⟨z2, hz2, hz2a, hz2b⟩ := hI.int 0 11 (lo := 0) (hi := 400) (by decide) (by decide) rfl
  have ghz2 := gv_eq hz2
  obtain ⟨z3, hz3, hz3a, hz3b⟩ := hI.int 0 14 (lo := 0) (hi := 1) (by decide) (by decide) rfl
  have ghz3 := gv_eq hz3
  obtain ⟨z4, hz4, hz4a, hz4b⟩ := hI.int 23 8 (lo := 0) (hi := 12) (by decide) (by decide) rfl
  have ghz4 := gv_eq hz4
  obtain ⟨z5, hz5, hz5a, hz5b⟩ := hI.int 23 9 (lo := 0) (hi := 8) (by decide) (by decide) rfl
  have ghz5 := gv_eq hz5
  obtain ⟨z6, hz6, hz6a, hz6b⟩ := hI.int 81 1 (lo := 1) (hi := 5) (by decide) (by decide) rfl
  have ghz6 := gv_eq hz6
  obtain ⟨z7, hz7, hz7a, hz7b⟩ := hI.int 81 17 (lo := 0) (hi := 400) (by decide) (by decide) rfl
  have ghz7 := gv_eq hz7
  obtain ⟨z8, hz8, hz8a, hz8b⟩ := hI.int 81 34 (lo := 0) (hi := 1) (by decide) (by decide) rfl
  have ghz8 := gv_eq hz8
  obtain ⟨z9, hz9, hz9a, hz9b⟩ := hI.int 81 23 (lo := 0) (hi := 12) (by decide) (by decide) rfl
  have ghz9 := gv_eq hz9
  obtain ⟨z10, hz10, hz10a, hz10b⟩ := hI.int 81 24 (lo := 0) (hi := 8) (by decide) (by decide) rfl
  have ghz10 := gv_eq hz10
  refine w_aload (i := 1) (npc := 919) (v := cr 0) rfl rfl rfl ?_
  refine w_aload (i := 0) (npc := 920) (v := (6, 0, 0)) rfl rfl rfl ?_
  refine w_iload (i := 4) (npc := 922) rfl rfl ?_
  refine w_const (n := 1) (npc := 923) rfl ?_
  refine w_iadd (npc := 924) rfl (by omega) ?_
  obtain ⟨hx12, hx12a, hx12b⟩ := hx (i + 1 : Int).toNat (by omega)
  refine w_scr (npc := 925) (v := ai_i (sv (i + 1 : Int).toNat)) rfl rfl (by omega) hx12 ?_
  refine w_aload (i := 0) (npc := 926) (v := (6, 0, 0)) rfl rfl rfl ?_
  refine w_iload (i := 4) (npc := 928) rfl rfl ?_
  refine w_const (n := 2) (npc := 929) rfl ?_
  refine w_iadd (npc := 930) rfl (by omega) ?_
  obtain ⟨hx14, hx14a, hx14b⟩ := hx (i + 2 : Int).toNat (by omega)
  refine w_scr (npc := 931) (v := ai_i (sv (i + 2 : Int).toNat)) rfl rfl (by omega) hx14 ?_
  refine w_aload (i := 3) (npc := 932) (v := cr 104) rfl rfl rfl ?_
  refine w_call (npc := 935) (a := [cr 0, ai_i (sv (i + 1 : Int).toNat), ai_i (sv (i + 2 : Int).toNat), cr 104]) (rest := []) rfl rfl rfl rfl rfl (ct_lw_alike (sl := sl) (x := x) (d := d + 15) (sv (i + 1 : Int).toNat) (sv (i + 2 : Int).toNat) hI hN (by omega)) (Or.inr (fun _ _ _ _ _ hq => by have h1 := hq.1; omega)) (fun k9 v9 T16 E16 nx16 kc16 ks16 hq15 hk16 hv16 => ?_)
  obtain ⟨rfl, hnxz17, hnyz17, hI18, hG19, hN20, z17, rfl, hz17⟩ := hq15
  have hR21 := rl.fr hR hG19 (by intro i k h; (try simp only at h); omega)
  have hz22 : E16 0 10 = ai_i z1 := (hG19 0 10 (by first | omega | (simp; done) | (simp; omega) | (simp only; omega))).trans hz1
  have ghz22 := gv_eq hz22
  have hz23 : E16 0 11 = ai_i z2 := (hG19 0 11 (by first | omega | (simp; done) | (simp; omega) | (simp only; omega))).trans hz2
  have ghz23 := gv_eq hz23
  have hz24 : E16 0 14 = ai_i z3 := (hG19 0 14 (by first | omega | (simp; done) | (simp; omega) | (simp only; omega))).trans hz3
  have ghz24 := gv_eq hz24
  have hz25 : E16 23 8 = ai_i z4 := (hG19 23 8 (by first | omega | (simp; done) | (simp; omega) | (simp only; omega))).trans hz4
  have ghz25 := gv_eq hz25
  have hz26 : E16 23 9 = ai_i z5 := (hG19 23 9 (by first | omega | (simp; done) | (simp; omega) | (simp only; omega))).trans hz5
  have ghz26 := gv_eq hz26
  have hz27 : E16 81 1 = ai_i z6 := (hG19 81 1 (by first | omega | (simp; done) | (simp; omega) | (simp only; omega))).trans hz6
  have ghz27 := gv_eq hz27
  have hz28 : E16 81 17 = ai_i z7 := (hG19 81 17 (by first | omega | (simp; done) | (simp; omega) | (simp only; omega))).trans hz7
  have ghz28 := gv_eq hz28
  have hz29 : E16 81 34 = ai_i z8 := (hG19 81 34 (by first | omega | (simp; done) | (simp; omega) | (simp only; omega))).trans hz8
  have ghz29 := gv_eq hz29
  have hz30 : E16 81 23 = ai_i z9 := (hG19 81 23 (by first | omega | (simp; done) | (simp; omega) | (simp only; omega))).trans hz9
  have ghz30 := gv_eq hz30
  have hz31 : E16 81 24 = ai_i z10 := (hG19 81 24 (by first | omega | (simp; done) | (simp; omega) | (simp only; omega))).trans hz10
  have ghz31 := gv_eq hz31
  refine Or.inr (Or.inl ⟨rfl, ?_⟩)
  refine w_istore (i := 5) (npc := 937) (loc' := [(6, 0, 0), cr 0, cr 81, cr 104, ai_i i, ai_i z17, u6]) rfl rfl ?_
  refine w_aload (i := 2) (npc := 938) (v := cr 81) rfl rfl rfl ?_
  refine w_aload (i := 0) (npc := 939) (v := (6, 0, 0)) rfl rfl rfl ?_
  refine w_iload (i := 4) (npc := 941) rfl rfl ?_
  refine w_const (n := 1) (npc := 942) rfl ?_
  refine w_iadd (npc := 943) rfl (by omega) ?_
  obtain ⟨hx33, hx33a, hx33b⟩ := hx (i + 1 : Int).toNat (by omega)
  refine w_scr (npc := 944) (v := ai_i (sv (i + 1 : Int).toNat)) rfl rfl (by omega) hx33 ?_
  refine w_aload (i := 0) (npc := 945) (v := (6, 0, 0)) rfl rfl rfl ?_
  refine w_iload (i := 4) (npc := 947) rfl rfl ?_
  refine w_const (n := 2) (npc := 948) rfl ?_
  refine w_iadd (npc := 949) rfl (by omega) ?_
  obtain ⟨hx35, hx35a, hx35b⟩ := hx (i + 2 : Int).toNat (by omega)
  refine w_scr (npc := 950) (v := ai_i (sv (i + 2 : Int).toNat)) rfl rfl (by omega) hx35 ?_
  refine w_virt (ci := 8) (i := 81) (npc := 953) (a := [cr 81, ai_i (sv (i + 1 : Int).toNat), ai_i (sv (i + 2 : Int).toNat)]) (rest := []) rfl rfl (hI18.pl (by decide)) (hI18.T (by decide) rfl) rfl rfl rfl rfl (ct_m_alike (sl := sl) (x := x) (d := d + 14) (sv (i + 1 : Int).toNat) (sv (i + 2 : Int).toNat) hI18 hR21 (by omega) (by omega)) (Or.inl rfl) (fun k9 v9 T37 E37 nx37 kc37 ks37 hq36 hk37 hv37 => ?_)
  obtain ⟨rfl, rfl, rfl, hI39, hG40, hRz38, z38, rfl, hz38⟩ := hq36
  obtain rfl : kc16 = kc37 := by omega
  obtain rfl : ks16 = ks37 := by omega
  have hN42 := hN20.fr hG40 (by intro i k h; (try simp only at h); omega)
  have hz43 : E37 0 10 = ai_i z1 := (hG40 0 10 (by first | omega | (simp; done) | (simp; omega) | (simp only; omega))).trans hz22
  have ghz43 := gv_eq hz43
  have hz44 : E37 0 11 = ai_i z2 := (hG40 0 11 (by first | omega | (simp; done) | (simp; omega) | (simp only; omega))).trans hz23
  have ghz44 := gv_eq hz44
  have hz45 : E37 0 14 = ai_i z3 := (hG40 0 14 (by first | omega | (simp; done) | (simp; omega) | (simp only; omega))).trans hz24
  have ghz45 := gv_eq hz45
  have hz46 : E37 23 8 = ai_i z4 := (hG40 23 8 (by first | omega | (simp; done) | (simp; omega) | (simp only; omega))).trans hz25
  have ghz46 := gv_eq hz46
  have hz47 : E37 23 9 = ai_i z5 := (hG40 23 9 (by first | omega | (simp; done) | (simp; omega) | (simp only; omega))).trans hz26
  have ghz47 := gv_eq hz47
  have hz48 : E37 81 1 = ai_i z6 := (hG40 81 1 (by first | omega | (simp; done) | (simp; omega) | (simp only; omega))).trans hz27
  have ghz48 := gv_eq hz48
  have hz49 : E37 81 17 = ai_i z7 := (hG40 81 17 (by first | omega | (simp; done) | (simp; omega) | (simp only; omega))).trans hz28
  have ghz49 := gv_eq hz49
  have hz50 : E37 81 34 = ai_i z8 := (hG40 81 34 (by first | omega | (simp; done) | (simp; omega) | (simp only; omega))).trans hz29
  have ghz50 := gv_eq hz50
  have hz51 : E37 81 23 = ai_i z9 := (hG40 81 23 (by first | omega | (simp; done) | (simp; omega) | (simp only; omega))).trans hz30
  have ghz51 := gv_eq hz51
  have hz52 : E37 81 24 = ai_i z10 := (hG40 81 24 (by first | omega | (simp; done) | (simp; omega) | (simp only; omega))).trans hz31
  have ghz52 := gv_eq hz52
  refine Or.inr (Or.inl ⟨rfl, ?_⟩)
  refine w_istore (i := 6) (npc := 955) (loc' := [(6, 0, 0), cr 0, cr 81, cr 104, ai_i i, ai_i z17, ai_i z38]) rfl rfl ?_
  refine w_goto (pt := 1175) rfl ?_
  exact next (ai_i z17) (ai_i z38) T16 E37 nx16 kc16 ks16 hI39 hN42 hRz38 (by omega) (by omega) (by omega) (by omega)
set_option maxRecDepth 16384 in
theorem law_c17 {sl : Int × Int} {x : ai_E} {d A B : Nat} {T : cm_T} {E : cm_E} {nx kc ks : Nat} {L : Int} {sv : Nat → Int} (hsl : sl.1 = L) (hx : ∀ k : Nat, (k : Int) < L → ai_sv x k = ai_i (sv k) ∧ -2147483648 ≤ sv k ∧ sv k ≤ 2147483647) {i : Int} (hi : 0 ≤ i ∧ i + 6 ≤ L ∧ L ≤ 384) (hnx : nx ≤ 1000) (hA : kc + 20 ≤ A) (hB : ks + 2000 ≤ B) (u5 u6 : ai_V) (hI : cs_I T E nx) (hN : hn E) (hR : rl E) (hJ : gv E 0 10 = gv E 81 1 ∧ gv E 0 11 = gv E 81 17 ∧ gv E 0 14 = gv E 81 34 ∧ gv E 23 8 = gv E 81 23 ∧ gv E 23 9 = gv E 81 24)
    (next : ∀ (v5 v6 : ai_V) (T' : cm_T) (E' : cm_E) (nx' kc' ks' : Nat), cs_I T' E' nx' → hn E' → rl E' → (gv E' 0 10 = gv E' 81 1 ∧ gv E' 0 11 = gv E' 81 17 ∧ gv E' 0 14 = gv E' 81 34 ∧ gv E' 23 8 = gv E' 81 23 ∧ gv E' 23 9 = gv E' 81 24) → nx' ≤ nx + 2 → (kc ≤ kc' ∧ kc' ≤ kc + 10) → (ks ≤ ks' ∧ ks' ≤ ks + 500) → cm_wp (ai_find ai_c0 sl) (ai_ev sl (d + 20)) x A B (fun rk rv T' E' nx' => rk = 1 ∧ rv = ai_i 1) 1175 [(6, 0, 0), cr 0, cr 81, cr 104, ai_i i, v5, v6] [] T' E' nx' kc' ks') : cm_wp (ai_find ai_c0 sl) (ai_ev sl (d + 20)) x A B (fun rk rv T' E' nx' => rk = 1 ∧ rv = ai_i 1) 958 [(6, 0, 0), cr 0, cr 81, cr 104, ai_i i, u5, u6] [] T E nx kc ks := by
  obtain ⟨z1, hz1, hz1a, hz1b⟩ := hI.int 0 10 (lo := 1) (hi := 5) (by decide) (by decide) rfl
  have ghz1 := gv_eq hz1
  obtain ⟨z2, hz2, hz2a, hz2b⟩ := hI.int 0 11 (lo := 0) (hi := 400) (by decide) (by decide) rfl
  have ghz2 := gv_eq hz2
  obtain ⟨z3, hz3, hz3a, hz3b⟩ := hI.int 0 14 (lo := 0) (hi := 1) (by decide) (by decide) rfl
  have ghz3 := gv_eq hz3
  obtain ⟨z4, hz4, hz4a, hz4b⟩ := hI.int 23 8 (lo := 0) (hi := 12) (by decide) (by decide) rfl
  have ghz4 := gv_eq hz4
  obtain ⟨z5, hz5, hz5a, hz5b⟩ := hI.int 23 9 (lo := 0) (hi := 8) (by decide) (by decide) rfl
  have ghz5 := gv_eq hz5
  obtain ⟨z6, hz6, hz6a, hz6b⟩ := hI.int 81 1 (lo := 1) (hi := 5) (by decide) (by decide) rfl
  have ghz6 := gv_eq hz6
  obtain ⟨z7, hz7, hz7a, hz7b⟩ := hI.int 81 17 (lo := 0) (hi := 400) (by decide) (by decide) rfl
  have ghz7 := gv_eq hz7
  obtain ⟨z8, hz8, hz8a, hz8b⟩ := hI.int 81 34 (lo := 0) (hi := 1) (by decide) (by decide) rfl
  have ghz8 := gv_eq hz8
  obtain ⟨z9, hz9, hz9a, hz9b⟩ := hI.int 81 23 (lo := 0) (hi := 12) (by decide) (by decide) rfl
  have ghz9 := gv_eq hz9
  obtain ⟨z10, hz10, hz10a, hz10b⟩ := hI.int 81 24 (lo := 0) (hi := 8) (by decide) (by decide) rfl
  have ghz10 := gv_eq hz10
  refine w_aload (i := 1) (npc := 959) (v := cr 0) rfl rfl rfl ?_
  refine w_aload (i := 0) (npc := 960) (v := (6, 0, 0)) rfl rfl rfl ?_
  refine w_iload (i := 4) (npc := 962) rfl rfl ?_
  refine w_const (n := 1) (npc := 963) rfl ?_
  refine w_iadd (npc := 964) rfl (by omega) ?_
  obtain ⟨hx12, hx12a, hx12b⟩ := hx (i + 1 : Int).toNat (by omega)
  refine w_scr (npc := 965) (v := ai_i (sv (i + 1 : Int).toNat)) rfl rfl (by omega) hx12 ?_
  refine w_aload (i := 0) (npc := 966) (v := (6, 0, 0)) rfl rfl rfl ?_
  refine w_iload (i := 4) (npc := 968) rfl rfl ?_
  refine w_const (n := 2) (npc := 969) rfl ?_
  refine w_iadd (npc := 970) rfl (by omega) ?_
  obtain ⟨hx14, hx14a, hx14b⟩ := hx (i + 2 : Int).toNat (by omega)
  refine w_scr (npc := 971) (v := ai_i (sv (i + 2 : Int).toNat)) rfl rfl (by omega) hx14 ?_
  refine w_aload (i := 3) (npc := 972) (v := cr 104) rfl rfl rfl ?_
  refine w_call (npc := 975) (a := [cr 0, ai_i (sv (i + 1 : Int).toNat), ai_i (sv (i + 2 : Int).toNat), cr 104]) (rest := []) rfl rfl rfl rfl rfl (ct_lw_whose (sl := sl) (x := x) (d := d + 11) (sv (i + 1 : Int).toNat) (sv (i + 2 : Int).toNat) hI hN (by omega)) (Or.inr (fun _ _ _ _ _ hq => by have h1 := hq.1; omega)) (fun k9 v9 T16 E16 nx16 kc16 ks16 hq15 hk16 hv16 => ?_)
  obtain ⟨rfl, hnxz17, hnyz17, hI18, hG19, hN20, z17, rfl, hz17⟩ := hq15
  have hR21 := rl.fr hR hG19 (by intro i k h; (try simp only at h); omega)
  have hz22 : E16 0 10 = ai_i z1 := (hG19 0 10 (by first | omega | (simp; done) | (simp; omega) | (simp only; omega))).trans hz1
  have ghz22 := gv_eq hz22
  have hz23 : E16 0 11 = ai_i z2 := (hG19 0 11 (by first | omega | (simp; done) | (simp; omega) | (simp only; omega))).trans hz2
  have ghz23 := gv_eq hz23
  have hz24 : E16 0 14 = ai_i z3 := (hG19 0 14 (by first | omega | (simp; done) | (simp; omega) | (simp only; omega))).trans hz3
  have ghz24 := gv_eq hz24
  have hz25 : E16 23 8 = ai_i z4 := (hG19 23 8 (by first | omega | (simp; done) | (simp; omega) | (simp only; omega))).trans hz4
  have ghz25 := gv_eq hz25
  have hz26 : E16 23 9 = ai_i z5 := (hG19 23 9 (by first | omega | (simp; done) | (simp; omega) | (simp only; omega))).trans hz5
  have ghz26 := gv_eq hz26
  have hz27 : E16 81 1 = ai_i z6 := (hG19 81 1 (by first | omega | (simp; done) | (simp; omega) | (simp only; omega))).trans hz6
  have ghz27 := gv_eq hz27
  have hz28 : E16 81 17 = ai_i z7 := (hG19 81 17 (by first | omega | (simp; done) | (simp; omega) | (simp only; omega))).trans hz7
  have ghz28 := gv_eq hz28
  have hz29 : E16 81 34 = ai_i z8 := (hG19 81 34 (by first | omega | (simp; done) | (simp; omega) | (simp only; omega))).trans hz8
  have ghz29 := gv_eq hz29
  have hz30 : E16 81 23 = ai_i z9 := (hG19 81 23 (by first | omega | (simp; done) | (simp; omega) | (simp only; omega))).trans hz9
  have ghz30 := gv_eq hz30
  have hz31 : E16 81 24 = ai_i z10 := (hG19 81 24 (by first | omega | (simp; done) | (simp; omega) | (simp only; omega))).trans hz10
  have ghz31 := gv_eq hz31
  refine Or.inr (Or.inl ⟨rfl, ?_⟩)
  refine w_istore (i := 5) (npc := 977) (loc' := [(6, 0, 0), cr 0, cr 81, cr 104, ai_i i, ai_i z17, u6]) rfl rfl ?_
  refine w_aload (i := 2) (npc := 978) (v := cr 81) rfl rfl rfl ?_
  refine w_aload (i := 0) (npc := 979) (v := (6, 0, 0)) rfl rfl rfl ?_
  refine w_iload (i := 4) (npc := 981) rfl rfl ?_
  refine w_const (n := 1) (npc := 982) rfl ?_
  refine w_iadd (npc := 983) rfl (by omega) ?_
  obtain ⟨hx33, hx33a, hx33b⟩ := hx (i + 1 : Int).toNat (by omega)
  refine w_scr (npc := 984) (v := ai_i (sv (i + 1 : Int).toNat)) rfl rfl (by omega) hx33 ?_
  refine w_aload (i := 0) (npc := 985) (v := (6, 0, 0)) rfl rfl rfl ?_
  refine w_iload (i := 4) (npc := 987) rfl rfl ?_
  refine w_const (n := 2) (npc := 988) rfl ?_
  refine w_iadd (npc := 989) rfl (by omega) ?_
  obtain ⟨hx35, hx35a, hx35b⟩ := hx (i + 2 : Int).toNat (by omega)
  refine w_scr (npc := 990) (v := ai_i (sv (i + 2 : Int).toNat)) rfl rfl (by omega) hx35 ?_
  refine w_virt (ci := 8) (i := 81) (npc := 993) (a := [cr 81, ai_i (sv (i + 1 : Int).toNat), ai_i (sv (i + 2 : Int).toNat)]) (rest := []) rfl rfl (hI18.pl (by decide)) (hI18.T (by decide) rfl) rfl rfl rfl rfl (ct_m_whose (sl := sl) (x := x) (d := d + 12) (sv (i + 1 : Int).toNat) (sv (i + 2 : Int).toNat) hI18 hR21 (by omega) (by omega)) (Or.inl rfl) (fun k9 v9 T37 E37 nx37 kc37 ks37 hq36 hk37 hv37 => ?_)
  obtain ⟨rfl, rfl, rfl, hI39, hG40, hRz38, z38, rfl, hz38⟩ := hq36
  obtain rfl : kc16 = kc37 := by omega
  obtain rfl : ks16 = ks37 := by omega
  have hN42 := hN20.fr hG40 (by intro i k h; (try simp only at h); omega)
  have hz43 : E37 0 10 = ai_i z1 := (hG40 0 10 (by first | omega | (simp; done) | (simp; omega) | (simp only; omega))).trans hz22
  have ghz43 := gv_eq hz43
  have hz44 : E37 0 11 = ai_i z2 := (hG40 0 11 (by first | omega | (simp; done) | (simp; omega) | (simp only; omega))).trans hz23
  have ghz44 := gv_eq hz44
  have hz45 : E37 0 14 = ai_i z3 := (hG40 0 14 (by first | omega | (simp; done) | (simp; omega) | (simp only; omega))).trans hz24
  have ghz45 := gv_eq hz45
  have hz46 : E37 23 8 = ai_i z4 := (hG40 23 8 (by first | omega | (simp; done) | (simp; omega) | (simp only; omega))).trans hz25
  have ghz46 := gv_eq hz46
  have hz47 : E37 23 9 = ai_i z5 := (hG40 23 9 (by first | omega | (simp; done) | (simp; omega) | (simp only; omega))).trans hz26
  have ghz47 := gv_eq hz47
  have hz48 : E37 81 1 = ai_i z6 := (hG40 81 1 (by first | omega | (simp; done) | (simp; omega) | (simp only; omega))).trans hz27
  have ghz48 := gv_eq hz48
  have hz49 : E37 81 17 = ai_i z7 := (hG40 81 17 (by first | omega | (simp; done) | (simp; omega) | (simp only; omega))).trans hz28
  have ghz49 := gv_eq hz49
  have hz50 : E37 81 34 = ai_i z8 := (hG40 81 34 (by first | omega | (simp; done) | (simp; omega) | (simp only; omega))).trans hz29
  have ghz50 := gv_eq hz50
  have hz51 : E37 81 23 = ai_i z9 := (hG40 81 23 (by first | omega | (simp; done) | (simp; omega) | (simp only; omega))).trans hz30
  have ghz51 := gv_eq hz51
  have hz52 : E37 81 24 = ai_i z10 := (hG40 81 24 (by first | omega | (simp; done) | (simp; omega) | (simp only; omega))).trans hz31
  have ghz52 := gv_eq hz52
  refine Or.inr (Or.inl ⟨rfl, ?_⟩)
  refine w_istore (i := 6) (npc := 995) (loc' := [(6, 0, 0), cr 0, cr 81, cr 104, ai_i i, ai_i z17, ai_i z38]) rfl rfl ?_
  refine w_goto (pt := 1175) rfl ?_
  exact next (ai_i z17) (ai_i z38) T16 E37 nx16 kc16 ks16 hI39 hN42 hRz38 (by omega) (by omega) (by omega) (by omega)
