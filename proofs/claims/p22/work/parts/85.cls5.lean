set_option maxRecDepth 16384 in
theorem ct_nk_load {sl : Int × Int} {x : ai_E} {d : Nat} {T : cm_T} {E : cm_E} {nx : Nat} (s : Int) {c : Nat} (hc_c : 15 ≤ c ∧ c ≤ 16) (hI : cs_I T E nx) (hp0 : 0 ≤ s ∧ s ≤ 299) : cm_ct (ai_ev sl (d + 3)) x 60 [cr c, cr 6, ai_i s] T E nx 0 0 (fun rk rv T' E' nx' => rk = 1 ∧ T = T' ∧ nx = nx' ∧ cs_I T E' nx ∧ cm_fr (fun i k => i = c) E E' ∧ ∃ z : Int, rv = ai_i z ∧ (0 ≤ z ∧ z ≤ 24)) := by
  refine cm_body (M := ai_m60) rfl rfl (fun kc ks => ?_)
  show cm_wp (ai_find ai_c60 sl) (ai_ev sl (d + 2)) x (kc + 0) (ks + 0) _ 0 [cr c, cr 6, ai_i s, ai_un, ai_un] [] T E nx kc ks
  have hF : cm_fr (fun i k => i = c) E E := fun _ _ _ => rfl
  refine w_aload (i := 0) (npc := 1) (v := cr c) rfl rfl rfl ?_
  refine w_len (i := c) (t := 1) (n := 24) (npc := 2) rfl (hI.pl (by omega)) (hI.T (by omega) (nk_c hc_c).1) (by decide) ?_
  refine w_aload (i := 1) (npc := 3) (v := cr 6) rfl rfl rfl ?_
  refine w_iload (i := 2) (npc := 4) rfl rfl ?_
  refine w_virt (ci := 6) (i := 6) (npc := 7) (a := [cr 6, ai_i s]) (rest := [ai_i (((24 : Nat) : Int))]) rfl rfl (hI.pl (by decide)) (hI.T (by decide) rfl) rfl rfl rfl rfl (ct_vw_keyLengthOf (sl := sl) (x := x) (d := d + 0) (s) hI (by omega)) (Or.inl rfl) (fun k9 v9 T2 E2 nx2 kc2 ks2 hq1 hk2 hv2 => ?_)
  obtain ⟨rfl, rfl, rfl, rfl, z3, rfl, hz3⟩ := hq1
  obtain rfl : kc = kc2 := by omega
  obtain rfl : ks = ks2 := by omega
  refine Or.inr (Or.inl ⟨rfl, ?_⟩)
  refine w_min (npc := 10) rfl rfl ?_
  obtain ⟨z7, hz7⟩ : ∃ z7 : Int, z7 = min (((24 : Nat) : Int)) z3 := ⟨_, rfl⟩
  rw [← hz7]
  refine w_istore (i := 3) (npc := 11) (loc' := [cr c, cr 6, ai_i s, ai_i z7, ai_un]) rfl rfl ?_
  refine w_const (n := 0) (npc := 12) rfl ?_
  refine w_istore (i := 4) (npc := 14) (loc' := [cr c, cr 6, ai_i s, ai_i z7, ai_i 0]) rfl rfl ?_
  have loop14 : ∀ (nf : Nat) (k : Int) (Eq14 : cm_E), ((24 - k).toNat) < nf → cs_I T Eq14 nx → cm_fr (fun i k => i = c) E Eq14 → (0 ≤ k ∧ k ≤ 24) → cm_wp (ai_find ai_c60 sl) (ai_ev sl (d + 2)) x (kc + 0) (ks + 0) (fun rk rv T' E' nx' => rk = 1 ∧ T = T' ∧ nx = nx' ∧ cs_I T E' nx ∧ cm_fr (fun i k => i = c) E E' ∧ ∃ z : Int, rv = ai_i z ∧ (0 ≤ z ∧ z ≤ 24)) 14 [cr c, cr 6, ai_i s, ai_i z7, ai_i k] [] T Eq14 nx kc ks := by
    intro nf
    induction nf with
    | zero => intro k Eq14 hm; exact absurd hm (Nat.not_lt_zero _)
    | succ nf14 ih =>
      intro k Eq14 hm14 hI14 hF14 hv14
      have ih14 := ih; clear ih
      refine w_iload (i := 4) (npc := 16) rfl rfl ?_
      refine w_iload (i := 3) (npc := 17) rfl rfl ?_
      refine w_icmp (c := .ge) (npc := 20) (pt := 37) rfl (fun hc8 => ?_) (fun hc8 => ?_)
      · replace hc8 : z7 ≤ k := hc8
        refine w_iload (i := 3) (npc := 38) rfl rfl ?_
        exact w_iret rfl (⟨rfl, rfl, rfl, hI14, hF14, z7, rfl, by omega⟩) (by omega) (by omega)
      · replace hc8 : ¬ (z7 ≤ k) := hc8
        refine w_aload (i := 0) (npc := 21) (v := cr c) rfl rfl rfl ?_
        refine w_iload (i := 4) (npc := 23) rfl rfl ?_
        refine w_aload (i := 1) (npc := 24) (v := cr 6) rfl rfl rfl ?_
        refine w_iload (i := 2) (npc := 25) rfl rfl ?_
        refine w_iload (i := 4) (npc := 27) rfl rfl ?_
        refine w_virt (ci := 6) (i := 6) (npc := 30) (a := [cr 6, ai_i s, ai_i k]) (rest := [ai_i k, cr c]) rfl rfl (hI14.pl (by decide)) (hI14.T (by decide) rfl) rfl rfl rfl rfl (ct_vw_keyNumberOf (sl := sl) (x := x) (d := d + 0) (s) (k) hI14 (by omega) (by omega)) (Or.inl rfl) (fun k9 v9 T10 E10 nx10 kc10 ks10 hq9 hk10 hv10 => ?_)
        obtain ⟨rfl, rfl, rfl, rfl, z11, rfl, hz11⟩ := hq9
        obtain rfl : kc = kc10 := by omega
        obtain rfl : ks = ks10 := by omega
        refine Or.inr (Or.inl ⟨rfl, ?_⟩)
        refine w_ast (i := c) (k := 1) (n := 24) (npc := 31) rfl (hI14.pl (by omega)) (hI14.T (by omega) (nk_c hc_c).1) (by decide) (by omega) cm_af1 ?_
        have hI16 := hI14.nkw hc_c (k := (k : Int).toNat) (z := z11) (by omega)
        have hF18 := cm_fr.up (i := c) (k := (k : Int).toNat) (v := ai_i z11) hF14 (by first | omega | (simp; done) | (simp; omega) | (simp only; omega))
        generalize hE17 : cm_up Eq14 c ((k : Int).toNat) (ai_i z11) = E15 at hI16 hF18 ⊢
        have hz19 : E15 c ((k : Int).toNat) = ai_i z11 := by rw [← hE17, cm_up_eq]
        have ghz19 := gv_eq hz19
        refine w_iinc (i := 4) (n := 1) (npc := 34) (loc' := [cr c, cr 6, ai_i s, ai_i z7, ai_i (k + 1)]) rfl rfl (by omega) rfl ?_
        refine w_goto (pt := 14) rfl ?_
        exact ih14 (k + 1) E15 (by omega) hI16 hF18 (by omega)
  exact loop14 _ (0) E (Nat.lt_succ_self _) hI hF (by omega)
set_option maxRecDepth 16384 in
theorem ct_nk_behindLike {sl : Int × Int} {x : ai_E} {d : Nat} {T : cm_T} {E : cm_E} {nx : Nat} (a : Int)  (hI : cs_I T E nx) (hp0 : 0 ≤ a ∧ a ≤ 299) : cm_ct (ai_ev sl (d + 3)) x 58 [cr 6, ai_i a] T E nx 0 0 (fun rk rv T' E' nx' => rk = 1 ∧ T = T' ∧ E = E' ∧ nx = nx' ∧ ∃ z : Int, rv = ai_i z ∧ (1 ≤ z ∧ z ≤ 300)) := by
  refine cm_body (M := ai_m58) rfl rfl (fun kc ks => ?_)
  show cm_wp (ai_find ai_c58 sl) (ai_ev sl (d + 2)) x (kc + 0) (ks + 0) _ 0 [cr 6, ai_i a, ai_un] [] T E nx kc ks
  refine w_iload (i := 1) (npc := 1) rfl rfl ?_
  refine w_const (n := 1) (npc := 2) rfl ?_
  refine w_iadd (npc := 3) rfl (by omega) ?_
  refine w_istore (i := 2) (npc := 4) (loc' := [cr 6, ai_i a, ai_i (a + 1)]) rfl rfl ?_
  have loop4 : ∀ (nf : Nat) (n : Int), ((300 - n).toNat) < nf → (1 ≤ n ∧ n ≤ 300) → cm_wp (ai_find ai_c58 sl) (ai_ev sl (d + 2)) x (kc + 0) (ks + 0) (fun rk rv T' E' nx' => rk = 1 ∧ T = T' ∧ E = E' ∧ nx = nx' ∧ ∃ z : Int, rv = ai_i z ∧ (1 ≤ z ∧ z ≤ 300)) 4 [cr 6, ai_i a, ai_i n] [] T E nx kc ks := by
    intro nf
    induction nf with
    | zero => intro n hm; exact absurd hm (Nat.not_lt_zero _)
    | succ nf4 ih =>
      intro n hm4 hv4
      have ih4 := ih; clear ih
      refine w_iload (i := 2) (npc := 5) rfl rfl ?_
      refine w_aload (i := 0) (npc := 6) (v := cr 6) rfl rfl rfl ?_
      obtain ⟨z2, hz2, hz2a, hz2b⟩ := hI.int 6 7 (lo := 0) (hi := 300) (by decide) (by decide) rfl
      have ghz2 := gv_eq hz2
      refine w_getf (i := 6) (ci := 6) (k := 7) (npc := 9) rfl (hI.pl (by decide)) (hI.T (by decide) rfl) (by decide) hz2 ?_
      refine w_icmp (c := .ge) (npc := 12) (pt := 37) rfl (fun hc3 => ?_) (fun hc3 => ?_)
      · replace hc3 : z2 ≤ n := hc3
        refine w_iload (i := 2) (npc := 38) rfl rfl ?_
        exact w_iret rfl (⟨rfl, rfl, rfl, rfl, n, rfl, by omega⟩) (by omega) (by omega)
      · replace hc3 : ¬ (z2 ≤ n) := hc3
        refine w_aload (i := 0) (npc := 13) (v := cr 6) rfl rfl rfl ?_
        refine w_aload (i := 0) (npc := 14) (v := cr 6) rfl rfl rfl ?_
        refine w_getf (i := 6) (ci := 6) (k := 4) (npc := 17) rfl (hI.pl (by decide)) (hI.T (by decide) rfl) (by decide) (hI.ref 6 4 (p := 11) (by decide) (by decide) rfl) ?_
        refine w_iload (i := 1) (npc := 18) rfl rfl ?_
        obtain ⟨z4, hz4, hz4a, hz4b⟩ := hI.int 11 (a : Int).toNat (lo := 0) (hi := 299) (by decide) (show (a : Int).toNat < 300 by omega) rfl
        have ghz4 := gv_eq hz4
        refine w_ald (i := 11) (t := 1) (n := 300) (npc := 19) rfl (hI.pl (by decide)) (hI.T (by decide) rfl) (by decide) rfl (by omega) hz4 ?_
        refine w_aload (i := 0) (npc := 20) (v := cr 6) rfl rfl rfl ?_
        refine w_getf (i := 6) (ci := 6) (k := 4) (npc := 23) rfl (hI.pl (by decide)) (hI.T (by decide) rfl) (by decide) (hI.ref 6 4 (p := 11) (by decide) (by decide) rfl) ?_
        refine w_iload (i := 2) (npc := 24) rfl rfl ?_
        obtain ⟨z5, hz5, hz5a, hz5b⟩ := hI.int 11 (n : Int).toNat (lo := 0) (hi := 299) (by decide) (show (n : Int).toNat < 300 by omega) rfl
        have ghz5 := gv_eq hz5
        refine w_ald (i := 11) (t := 1) (n := 300) (npc := 25) rfl (hI.pl (by decide)) (hI.T (by decide) rfl) (by decide) rfl (by omega) hz5 ?_
        refine w_virt (ci := 6) (i := 6) (npc := 28) (a := [cr 6, ai_i z4, ai_i z5]) (rest := []) rfl rfl (hI.pl (by decide)) (hI.T (by decide) rfl) rfl rfl rfl rfl (ct_vw_compareKeys (sl := sl) (x := x) (d := d + 0) (z4) (z5) hI (by omega) (by omega)) (Or.inl rfl) (fun k9 v9 T7 E7 nx7 kc7 ks7 hq6 hk7 hv7 => ?_)
        obtain ⟨rfl, rfl, rfl, rfl, z8, rfl, hz8⟩ := hq6
        obtain rfl : kc = kc7 := by omega
        obtain rfl : ks = ks7 := by omega
        refine Or.inr (Or.inl ⟨rfl, ?_⟩)
        refine w_if (c := .ne) (npc := 31) (pt := 37) rfl (fun hc12 => ?_) (fun hc12 => ?_)
        · replace hc12 : z8 ≠ (0 : Int) := hc12
          refine w_iload (i := 2) (npc := 38) rfl rfl ?_
          exact w_iret rfl (⟨rfl, rfl, rfl, rfl, n, rfl, by omega⟩) (by omega) (by omega)
        · replace hc12 : ¬ (z8 ≠ (0 : Int)) := hc12
          refine w_iinc (i := 2) (n := 1) (npc := 34) (loc' := [cr 6, ai_i a, ai_i (n + 1)]) rfl rfl (by omega) rfl ?_
          refine w_goto (pt := 4) rfl ?_
          exact ih4 (n + 1) (by omega) (by omega)
  exact loop4 _ (a + 1) (Nat.lt_succ_self _) (by omega)
set_option maxRecDepth 16384 in
theorem ct_nk_aim {sl : Int × Int} {x : ai_E} {d : Nat} {T : cm_T} {E : cm_E} {nx : Nat} (l : Int)  (hI : cs_I T E nx) (hp0 : 0 ≤ l ∧ l ≤ 300) : cm_ct (ai_ev sl (d + 4)) x 57 [cr 14, cr 6, ai_i l] T E nx 0 0 (fun rk rv T' E' nx' => rk = 0 ∧ T = T' ∧ nx = nx' ∧ cs_I T E' nx ∧ cm_fr (fun i k => 14 ≤ i ∧ i ≤ 16) E E' ∧ (True)) := by
  refine cm_body (M := ai_m57) rfl rfl (fun kc ks => ?_)
  show cm_wp (ai_find ai_c57 sl) (ai_ev sl (d + 3)) x (kc + 0) (ks + 0) _ 0 [cr 14, cr 6, ai_i l, ai_un, ai_un] [] T E nx kc ks
  have hF : cm_fr (fun i k => 14 ≤ i ∧ i ≤ 16) E E := fun _ _ _ => rfl
  obtain ⟨z1, hz1, hz1a, hz1b⟩ := hI.int 6 8 (lo := 0) (hi := 300) (by decide) (by decide) rfl
  have ghz1 := gv_eq hz1
  refine w_aload (i := 0) (npc := 1) (v := cr 14) rfl rfl rfl ?_
  refine w_const (n := 0) (npc := 2) rfl ?_
  refine w_putf (i := 14) (ci := 1) (k := 2) (t := 0) (npc := 5) rfl (hI.pl (by decide)) (hI.T (by decide) rfl) (by decide) cm_fit0 ?_
  have hI3 := hI.puti (i := 14) (k := 2) (z := 0) (lo := 0) (hi := 24) (by decide) rfl (by omega)
  have hF5 := cm_fr.up (i := 14) (k := 2) (v := ai_i 0) hF (by first | omega | (simp; done) | (simp; omega) | (simp only; omega))
  generalize hE4 : cm_up E 14 2 (ai_i 0) = E2 at hI3 hF5 ⊢
  have hz6 : E2 6 8 = ai_i z1 := by rw [← hE4, cm_up_nei _ _ (by decide)]; exact hz1
  have ghz6 := gv_eq hz6
  have hz7 : E2 14 2 = ai_i 0 := by rw [← hE4, cm_up_eq]
  have ghz7 := gv_eq hz7
  refine w_aload (i := 0) (npc := 6) (v := cr 14) rfl rfl rfl ?_
  refine w_const (n := 0) (npc := 7) rfl ?_
  refine w_putf (i := 14) (ci := 1) (k := 3) (t := 0) (npc := 10) rfl (hI3.pl (by decide)) (hI3.T (by decide) rfl) (by decide) cm_fit0 ?_
  have hI9 := hI3.puti (i := 14) (k := 3) (z := 0) (lo := 0) (hi := 24) (by decide) rfl (by omega)
  have hF11 := cm_fr.up (i := 14) (k := 3) (v := ai_i 0) hF5 (by first | omega | (simp; done) | (simp; omega) | (simp only; omega))
  generalize hE10 : cm_up E2 14 3 (ai_i 0) = E8 at hI9 hF11 ⊢
  have hz12 : E8 6 8 = ai_i z1 := by rw [← hE10, cm_up_nei _ _ (by decide)]; exact hz6
  have ghz12 := gv_eq hz12
  have hz13 : E8 14 2 = ai_i 0 := by rw [← hE10, cm_up_ne _ _ (by decide)]; exact hz7
  have ghz13 := gv_eq hz13
  have hz14 : E8 14 3 = ai_i 0 := by rw [← hE10, cm_up_eq]
  have ghz14 := gv_eq hz14
  refine w_const (n := 0) (npc := 11) rfl ?_
  refine w_istore (i := 3) (npc := 12) (loc' := [cr 14, cr 6, ai_i l, ai_i 0, ai_un]) rfl rfl ?_
  refine w_aload (i := 1) (npc := 13) (v := cr 6) rfl rfl rfl ?_
  refine w_iload (i := 2) (npc := 14) rfl rfl ?_
  refine w_const (n := 1) (npc := 15) rfl ?_
  refine w_isub (npc := 16) rfl (by omega) ?_
  refine w_virt (ci := 6) (i := 6) (npc := 19) (a := [cr 6, ai_i (l - 1)]) (rest := []) rfl rfl (hI9.pl (by decide)) (hI9.T (by decide) rfl) rfl rfl rfl rfl (ct_vw_slotAt (sl := sl) (x := x) (d := d + 2) (l - 1) hI9) (Or.inl rfl) (fun k9 v9 T17 E17 nx17 kc17 ks17 hq16 hk17 hv17 => ?_)
  obtain ⟨rfl, rfl, rfl, rfl, z18, rfl, hz18⟩ := hq16
  obtain rfl : kc = kc17 := by omega
  obtain rfl : ks = ks17 := by omega
  refine Or.inr (Or.inl ⟨rfl, ?_⟩)
  refine w_istore (i := 4) (npc := 21) (loc' := [cr 14, cr 6, ai_i l, ai_i 0, ai_i z18]) rfl rfl ?_
  refine w_iload (i := 4) (npc := 23) rfl rfl ?_
  refine w_const (n := (-1)) (npc := 24) rfl ?_
  refine w_icmp (c := .eq) (npc := 27) (pt := 54) rfl (fun hc22 => ?_) (fun hc22 => ?_)
  · replace hc22 : z18 = ((-1) : Int) := hc22
    refine w_iload (i := 3) (npc := 55) rfl rfl ?_
    refine w_aload (i := 1) (npc := 56) (v := cr 6) rfl rfl rfl ?_
    obtain ⟨z23, hz23, hz23a, hz23b⟩ := hI9.int 6 7 (lo := 0) (hi := 300) (by decide) (by decide) rfl
    have ghz23 := gv_eq hz23
    refine w_getf (i := 6) (ci := 6) (k := 7) (npc := 59) rfl (hI9.pl (by decide)) (hI9.T (by decide) rfl) (by decide) hz23 ?_
    refine w_icmp (c := .ge) (npc := 62) (pt := 80) rfl (fun hc24 => ?_) (fun hc24 => ?_)
    · replace hc24 : z23 ≤ (0 : Int) := hc24
      exact w_vret rfl (⟨rfl, rfl, rfl, hI9, hF11, trivial⟩) (by omega) (by omega)
    · replace hc24 : ¬ (z23 ≤ (0 : Int)) := hc24
      refine w_aload (i := 0) (npc := 63) (v := cr 14) rfl rfl rfl ?_
      refine w_aload (i := 0) (npc := 64) (v := cr 14) rfl rfl rfl ?_
      refine w_getf (i := 14) (ci := 1) (k := 1) (npc := 67) rfl (hI9.pl (by decide)) (hI9.T (by decide) rfl) (by decide) (hI9.ref 14 1 (p := 16) (by decide) (by decide) rfl) ?_
      refine w_aload (i := 1) (npc := 68) (v := cr 6) rfl rfl rfl ?_
      refine w_aload (i := 1) (npc := 69) (v := cr 6) rfl rfl rfl ?_
      refine w_getf (i := 6) (ci := 6) (k := 4) (npc := 72) rfl (hI9.pl (by decide)) (hI9.T (by decide) rfl) (by decide) (hI9.ref 6 4 (p := 11) (by decide) (by decide) rfl) ?_
      refine w_iload (i := 3) (npc := 73) rfl rfl ?_
      obtain ⟨z25, hz25, hz25a, hz25b⟩ := hI9.int 11 (0 : Int).toNat (lo := 0) (hi := 299) (by decide) (show (0 : Int).toNat < 300 by omega) rfl
      have ghz25 := gv_eq hz25
      refine w_ald (i := 11) (t := 1) (n := 300) (npc := 74) rfl (hI9.pl (by decide)) (hI9.T (by decide) rfl) (by decide) rfl (by omega) hz25 ?_
      refine w_call (npc := 77) (a := [cr 16, cr 6, ai_i z25]) (rest := [cr 14]) rfl rfl rfl rfl rfl (ct_nk_load (sl := sl) (x := x) (d := d + 0) (z25) (c := 16) (by omega) hI9 (by omega)) (Or.inr (fun _ _ _ _ _ hq => by have h1 := hq.1; omega)) (fun k9 v9 T27 E27 nx27 kc27 ks27 hq26 hk27 hv27 => ?_)
      obtain ⟨rfl, rfl, rfl, hI29, hG30, z28, rfl, hz28⟩ := hq26
      obtain rfl : kc = kc27 := by omega
      obtain rfl : ks = ks27 := by omega
      have hF32 := cm_fr.trans hF11 hG30 (by intro i k h; (try simp only at h); (try simp only); omega)
      have hz33 : E27 6 8 = ai_i z1 := (hG30 6 8 (by first | omega | (simp; done) | (simp; omega) | (simp only; omega))).trans hz12
      have ghz33 := gv_eq hz33
      have hz34 : E27 14 2 = ai_i 0 := (hG30 14 2 (by first | omega | (simp; done) | (simp; omega) | (simp only; omega))).trans hz13
      have ghz34 := gv_eq hz34
      have hz35 : E27 14 3 = ai_i 0 := (hG30 14 3 (by first | omega | (simp; done) | (simp; omega) | (simp only; omega))).trans hz14
      have ghz35 := gv_eq hz35
      have hz36 : E27 6 7 = ai_i z23 := (hG30 6 7 (by first | omega | (simp; done) | (simp; omega) | (simp only; omega))).trans hz23
      have ghz36 := gv_eq hz36
      refine Or.inr (Or.inl ⟨rfl, ?_⟩)
      refine w_putf (i := 14) (ci := 1) (k := 3) (t := 0) (npc := 80) rfl (hI29.pl (by decide)) (hI29.T (by decide) rfl) (by decide) cm_fit0 ?_
      have hI38 := hI29.puti (i := 14) (k := 3) (z := z28) (lo := 0) (hi := 24) (by decide) rfl (by omega)
      have hF40 := cm_fr.up (i := 14) (k := 3) (v := ai_i z28) hF32 (by first | omega | (simp; done) | (simp; omega) | (simp only; omega))
      generalize hE39 : cm_up E27 14 3 (ai_i z28) = E37 at hI38 hF40 ⊢
      have hz41 : E37 6 8 = ai_i z1 := by rw [← hE39, cm_up_nei _ _ (by decide)]; exact hz33
      have ghz41 := gv_eq hz41
      have hz42 : E37 14 2 = ai_i 0 := by rw [← hE39, cm_up_ne _ _ (by decide)]; exact hz34
      have ghz42 := gv_eq hz42
      have hz43 : E37 6 7 = ai_i z23 := by rw [← hE39, cm_up_nei _ _ (by decide)]; exact hz36
      have ghz43 := gv_eq hz43
      have hz44 : E37 14 3 = ai_i z28 := by rw [← hE39, cm_up_eq]
      have ghz44 := gv_eq hz44
      exact w_vret rfl (⟨rfl, rfl, rfl, hI38, hF40, trivial⟩) (by omega) (by omega)
  · replace hc22 : ¬ (z18 = ((-1) : Int)) := hc22
    refine w_aload (i := 0) (npc := 28) (v := cr 14) rfl rfl rfl ?_
    refine w_aload (i := 0) (npc := 29) (v := cr 14) rfl rfl rfl ?_
    refine w_getf (i := 14) (ci := 1) (k := 0) (npc := 32) rfl (hI9.pl (by decide)) (hI9.T (by decide) rfl) (by decide) (hI9.ref 14 0 (p := 15) (by decide) (by decide) rfl) ?_
    refine w_aload (i := 1) (npc := 33) (v := cr 6) rfl rfl rfl ?_
    refine w_iload (i := 4) (npc := 35) rfl rfl ?_
    refine w_call (npc := 38) (a := [cr 15, cr 6, ai_i z18]) (rest := [cr 14]) rfl rfl rfl rfl rfl (ct_nk_load (sl := sl) (x := x) (d := d + 0) (z18) (c := 15) (by omega) hI9 (by omega)) (Or.inr (fun _ _ _ _ _ hq => by have h1 := hq.1; omega)) (fun k9 v9 T46 E46 nx46 kc46 ks46 hq45 hk46 hv46 => ?_)
    obtain ⟨rfl, rfl, rfl, hI48, hG49, z47, rfl, hz47⟩ := hq45
    obtain rfl : kc = kc46 := by omega
    obtain rfl : ks = ks46 := by omega
    have hF51 := cm_fr.trans hF11 hG49 (by intro i k h; (try simp only at h); (try simp only); omega)
    have hz52 : E46 6 8 = ai_i z1 := (hG49 6 8 (by first | omega | (simp; done) | (simp; omega) | (simp only; omega))).trans hz12
    have ghz52 := gv_eq hz52
    have hz53 : E46 14 2 = ai_i 0 := (hG49 14 2 (by first | omega | (simp; done) | (simp; omega) | (simp only; omega))).trans hz13
    have ghz53 := gv_eq hz53
    have hz54 : E46 14 3 = ai_i 0 := (hG49 14 3 (by first | omega | (simp; done) | (simp; omega) | (simp only; omega))).trans hz14
    have ghz54 := gv_eq hz54
    refine Or.inr (Or.inl ⟨rfl, ?_⟩)
    refine w_putf (i := 14) (ci := 1) (k := 2) (t := 0) (npc := 41) rfl (hI48.pl (by decide)) (hI48.T (by decide) rfl) (by decide) cm_fit0 ?_
    have hI56 := hI48.puti (i := 14) (k := 2) (z := z47) (lo := 0) (hi := 24) (by decide) rfl (by omega)
    have hF58 := cm_fr.up (i := 14) (k := 2) (v := ai_i z47) hF51 (by first | omega | (simp; done) | (simp; omega) | (simp only; omega))
    generalize hE57 : cm_up E46 14 2 (ai_i z47) = E55 at hI56 hF58 ⊢
    have hz59 : E55 6 8 = ai_i z1 := by rw [← hE57, cm_up_nei _ _ (by decide)]; exact hz52
    have ghz59 := gv_eq hz59
    have hz60 : E55 14 3 = ai_i 0 := by rw [← hE57, cm_up_ne _ _ (by decide)]; exact hz54
    have ghz60 := gv_eq hz60
    have hz61 : E55 14 2 = ai_i z47 := by rw [← hE57, cm_up_eq]
    have ghz61 := gv_eq hz61
    refine w_aload (i := 1) (npc := 42) (v := cr 6) rfl rfl rfl ?_
    refine w_aload (i := 1) (npc := 43) (v := cr 6) rfl rfl rfl ?_
    refine w_getf (i := 6) (ci := 6) (k := 5) (npc := 46) rfl (hI56.pl (by decide)) (hI56.T (by decide) rfl) (by decide) (hI56.ref 6 5 (p := 12) (by decide) (by decide) rfl) ?_
    refine w_iload (i := 2) (npc := 47) rfl rfl ?_
    refine w_const (n := 1) (npc := 48) rfl ?_
    refine w_isub (npc := 49) rfl (by omega) ?_
    obtain ⟨z63, hz63, hz63a, hz63b⟩ := hI56.int 12 (l - 1 : Int).toNat (lo := 0) (hi := 299) (by decide) (show (l - 1 : Int).toNat < 300 by omega) rfl
    have ghz63 := gv_eq hz63
    refine w_ald (i := 12) (t := 1) (n := 300) (npc := 50) rfl (hI56.pl (by decide)) (hI56.T (by decide) rfl) (by decide) rfl (by omega) hz63 ?_
    refine w_call (npc := 53) (a := [cr 6, ai_i z63]) (rest := []) rfl rfl rfl rfl rfl (ct_nk_behindLike (sl := sl) (x := x) (d := d + 0) (z63) hI56 (by omega)) (Or.inr (fun _ _ _ _ _ hq => by have h1 := hq.1; omega)) (fun k9 v9 T65 E65 nx65 kc65 ks65 hq64 hk65 hv65 => ?_)
    obtain ⟨rfl, rfl, rfl, rfl, z66, rfl, hz66⟩ := hq64
    obtain rfl : kc = kc65 := by omega
    obtain rfl : ks = ks65 := by omega
    refine Or.inr (Or.inl ⟨rfl, ?_⟩)
    refine w_istore (i := 3) (npc := 54) (loc' := [cr 14, cr 6, ai_i l, ai_i z66, ai_i z18]) rfl rfl ?_
    refine w_iload (i := 3) (npc := 55) rfl rfl ?_
    refine w_aload (i := 1) (npc := 56) (v := cr 6) rfl rfl rfl ?_
    obtain ⟨z70, hz70, hz70a, hz70b⟩ := hI56.int 6 7 (lo := 0) (hi := 300) (by decide) (by decide) rfl
    have ghz70 := gv_eq hz70
    refine w_getf (i := 6) (ci := 6) (k := 7) (npc := 59) rfl (hI56.pl (by decide)) (hI56.T (by decide) rfl) (by decide) hz70 ?_
    refine w_icmp (c := .ge) (npc := 62) (pt := 80) rfl (fun hc71 => ?_) (fun hc71 => ?_)
    · replace hc71 : z70 ≤ z66 := hc71
      exact w_vret rfl (⟨rfl, rfl, rfl, hI56, hF58, trivial⟩) (by omega) (by omega)
    · replace hc71 : ¬ (z70 ≤ z66) := hc71
      refine w_aload (i := 0) (npc := 63) (v := cr 14) rfl rfl rfl ?_
      refine w_aload (i := 0) (npc := 64) (v := cr 14) rfl rfl rfl ?_
      refine w_getf (i := 14) (ci := 1) (k := 1) (npc := 67) rfl (hI56.pl (by decide)) (hI56.T (by decide) rfl) (by decide) (hI56.ref 14 1 (p := 16) (by decide) (by decide) rfl) ?_
      refine w_aload (i := 1) (npc := 68) (v := cr 6) rfl rfl rfl ?_
      refine w_aload (i := 1) (npc := 69) (v := cr 6) rfl rfl rfl ?_
      refine w_getf (i := 6) (ci := 6) (k := 4) (npc := 72) rfl (hI56.pl (by decide)) (hI56.T (by decide) rfl) (by decide) (hI56.ref 6 4 (p := 11) (by decide) (by decide) rfl) ?_
      refine w_iload (i := 3) (npc := 73) rfl rfl ?_
      obtain ⟨z72, hz72, hz72a, hz72b⟩ := hI56.int 11 (z66 : Int).toNat (lo := 0) (hi := 299) (by decide) (show (z66 : Int).toNat < 300 by omega) rfl
      have ghz72 := gv_eq hz72
      refine w_ald (i := 11) (t := 1) (n := 300) (npc := 74) rfl (hI56.pl (by decide)) (hI56.T (by decide) rfl) (by decide) rfl (by omega) hz72 ?_
      refine w_call (npc := 77) (a := [cr 16, cr 6, ai_i z72]) (rest := [cr 14]) rfl rfl rfl rfl rfl (ct_nk_load (sl := sl) (x := x) (d := d + 0) (z72) (c := 16) (by omega) hI56 (by omega)) (Or.inr (fun _ _ _ _ _ hq => by have h1 := hq.1; omega)) (fun k9 v9 T74 E74 nx74 kc74 ks74 hq73 hk74 hv74 => ?_)
      obtain ⟨rfl, rfl, rfl, hI76, hG77, z75, rfl, hz75⟩ := hq73
      obtain rfl : kc = kc74 := by omega
      obtain rfl : ks = ks74 := by omega
      have hF79 := cm_fr.trans hF58 hG77 (by intro i k h; (try simp only at h); (try simp only); omega)
      have hz80 : E74 6 8 = ai_i z1 := (hG77 6 8 (by first | omega | (simp; done) | (simp; omega) | (simp only; omega))).trans hz59
      have ghz80 := gv_eq hz80
      have hz81 : E74 14 3 = ai_i 0 := (hG77 14 3 (by first | omega | (simp; done) | (simp; omega) | (simp only; omega))).trans hz60
      have ghz81 := gv_eq hz81
      have hz82 : E74 14 2 = ai_i z47 := (hG77 14 2 (by first | omega | (simp; done) | (simp; omega) | (simp only; omega))).trans hz61
      have ghz82 := gv_eq hz82
      have hz83 : E74 6 7 = ai_i z70 := (hG77 6 7 (by first | omega | (simp; done) | (simp; omega) | (simp only; omega))).trans hz70
      have ghz83 := gv_eq hz83
      refine Or.inr (Or.inl ⟨rfl, ?_⟩)
      refine w_putf (i := 14) (ci := 1) (k := 3) (t := 0) (npc := 80) rfl (hI76.pl (by decide)) (hI76.T (by decide) rfl) (by decide) cm_fit0 ?_
      have hI85 := hI76.puti (i := 14) (k := 3) (z := z75) (lo := 0) (hi := 24) (by decide) rfl (by omega)
      have hF87 := cm_fr.up (i := 14) (k := 3) (v := ai_i z75) hF79 (by first | omega | (simp; done) | (simp; omega) | (simp only; omega))
      generalize hE86 : cm_up E74 14 3 (ai_i z75) = E84 at hI85 hF87 ⊢
      have hz88 : E84 6 8 = ai_i z1 := by rw [← hE86, cm_up_nei _ _ (by decide)]; exact hz80
      have ghz88 := gv_eq hz88
      have hz89 : E84 14 2 = ai_i z47 := by rw [← hE86, cm_up_ne _ _ (by decide)]; exact hz82
      have ghz89 := gv_eq hz89
      have hz90 : E84 6 7 = ai_i z70 := by rw [← hE86, cm_up_nei _ _ (by decide)]; exact hz83
      have ghz90 := gv_eq hz90
      have hz91 : E84 14 3 = ai_i z75 := by rw [← hE86, cm_up_eq]
      have ghz91 := gv_eq hz91
      exact w_vret rfl (⟨rfl, rfl, rfl, hI85, hF87, trivial⟩) (by omega) (by omega)
set_option maxRecDepth 16384 in
theorem ct_nk_grow {sl : Int × Int} {x : ai_E} {d : Nat} {T : cm_T} {E : cm_E} {nx : Nat} (w : Int)  (hI : cs_I T E nx) (hp0 : 0 ≤ w ∧ w ≤ 4) : cm_ct (ai_ev sl (d + 1)) x 59 [cr 14, ai_i w] T E nx 0 0 (fun rk rv T' E' nx' => rk = 1 ∧ T = T' ∧ nx = nx' ∧ cs_I T E' nx ∧ cm_fr (fun i k => 14 ≤ i ∧ i ≤ 16) E E' ∧ ∃ z : Int, rv = ai_i z ∧ (0 ≤ z ∧ z ≤ 1)) := by
  refine cm_body (M := ai_m59) rfl rfl (fun kc ks => ?_)
  show cm_wp (ai_find ai_c59 sl) (ai_ev sl (d + 0)) x (kc + 0) (ks + 0) _ 0 [cr 14, ai_i w, ai_un, ai_un, ai_un, ai_un, ai_un, ai_un] [] T E nx kc ks
  have hF : cm_fr (fun i k => 14 ≤ i ∧ i ≤ 16) E E := fun _ _ _ => rfl
  refine w_aload (i := 0) (npc := 1) (v := cr 14) rfl rfl rfl ?_
  obtain ⟨z1, hz1, hz1a, hz1b⟩ := hI.int 14 3 (lo := 0) (hi := 24) (by decide) (by decide) rfl
  have ghz1 := gv_eq hz1
  refine w_getf (i := 14) (ci := 1) (k := 3) (npc := 4) rfl (hI.pl (by decide)) (hI.T (by decide) rfl) (by decide) hz1 ?_
  refine w_if (c := .le) (npc := 7) (pt := 11) rfl (fun hc2 => ?_) (fun hc2 => ?_)
  · replace hc2 : z1 ≤ (0 : Int) := hc2
    refine w_const (n := 0) (npc := 12) rfl ?_
    refine w_istore (i := 2) (npc := 13) (loc' := [cr 14, ai_i w, ai_i 0, ai_un, ai_un, ai_un, ai_un, ai_un]) rfl rfl ?_
    refine w_const (n := 0) (npc := 14) rfl ?_
    refine w_istore (i := 3) (npc := 15) (loc' := [cr 14, ai_i w, ai_i 0, ai_i 0, ai_un, ai_un, ai_un, ai_un]) rfl rfl ?_
    have loop15 : ∀ (nf : Nat) (c : Int) (k : Int) (u15_4 : ai_V) (u15_5 : ai_V) (u15_6 : ai_V) (u15_7 : ai_V) (Eq15 : cm_E), ((24 - k).toNat) < nf → cs_I T Eq15 nx → cm_fr (fun i k => 14 ≤ i ∧ i ≤ 16) E Eq15 → (0 ≤ c ∧ c ≤ 1 ∧ 0 ≤ k ∧ k ≤ 24) → cm_wp (ai_find ai_c59 sl) (ai_ev sl (d + 0)) x (kc + 0) (ks + 0) (fun rk rv T' E' nx' => rk = 1 ∧ T = T' ∧ nx = nx' ∧ cs_I T E' nx ∧ cm_fr (fun i k => 14 ≤ i ∧ i ≤ 16) E E' ∧ ∃ z : Int, rv = ai_i z ∧ (0 ≤ z ∧ z ≤ 1)) 15 [cr 14, ai_i w, ai_i c, ai_i k, u15_4, u15_5, u15_6, u15_7] [] T Eq15 nx kc ks := by
      intro nf
      induction nf with
      | zero => intro c k u15_4 u15_5 u15_6 u15_7 Eq15 hm; exact absurd hm (Nat.not_lt_zero _)
      | succ nf15 ih =>
        intro c k u15_4 u15_5 u15_6 u15_7 Eq15 hm15 hI15 hF15 hv15
        have ih15 := ih; clear ih
        refine w_iload (i := 3) (npc := 16) rfl rfl ?_
        refine w_const (n := 24) (npc := 18) rfl ?_
        refine w_icmp (c := .ge) (npc := 21) (pt := 148) rfl (fun hc3 => ?_) (fun hc3 => ?_)
        · replace hc3 : (24 : Int) ≤ k := hc3
          refine w_const (n := 0) (npc := 149) rfl ?_
          exact w_zret rfl (by omega) (⟨rfl, rfl, rfl, hI15, hF15, 0, rfl, by omega⟩) (by omega) (by omega)
        · replace hc3 : ¬ ((24 : Int) ≤ k) := hc3
          refine w_iload (i := 3) (npc := 22) rfl rfl ?_
          refine w_aload (i := 0) (npc := 23) (v := cr 14) rfl rfl rfl ?_
          obtain ⟨z4, hz4, hz4a, hz4b⟩ := hI15.int 14 2 (lo := 0) (hi := 24) (by decide) (by decide) rfl
          have ghz4 := gv_eq hz4
          refine w_getf (i := 14) (ci := 1) (k := 2) (npc := 26) rfl (hI15.pl (by decide)) (hI15.T (by decide) rfl) (by decide) hz4 ?_
          refine w_icmp (c := .ge) (npc := 29) (pt := 38) rfl (fun hc5 => ?_) (fun hc5 => ?_)
          · replace hc5 : z4 ≤ k := hc5
            refine w_const (n := 0) (npc := 39) rfl ?_
            refine w_istore (i := 4) (npc := 41) (loc' := [cr 14, ai_i w, ai_i c, ai_i k, ai_i 0, u15_5, u15_6, u15_7]) rfl rfl ?_
            refine w_iload (i := 2) (npc := 42) rfl rfl ?_
            refine w_if (c := .eq) (npc := 45) (pt := 62) rfl (fun hc6 => ?_) (fun hc6 => ?_)
            · replace hc6 : c = (0 : Int) := hc6
              refine w_const (n := 800) (npc := 65) rfl ?_
              refine w_istore (i := 5) (npc := 67) (loc' := [cr 14, ai_i w, ai_i c, ai_i k, ai_i 0, ai_i 800, u15_6, u15_7]) rfl rfl ?_
              refine w_iload (i := 4) (npc := 69) rfl rfl ?_
              refine w_const (n := 8) (npc := 71) rfl ?_
              refine w_idiv (npc := 72) rfl (by omega) (by omega) (fun z7 hz7 hz7b hz7c => ?_)
              refine w_istore (i := 6) (npc := 74) (loc' := [cr 14, ai_i w, ai_i c, ai_i k, ai_i 0, ai_i 800, ai_i z7, u15_7]) rfl rfl ?_
              refine w_iload (i := 5) (npc := 76) rfl rfl ?_
              refine w_const (n := 8) (npc := 78) rfl ?_
              refine w_idiv (npc := 79) rfl (by omega) (by omega) (fun z8 hz8 hz8b hz8c => ?_)
              refine w_istore (i := 7) (npc := 81) (loc' := [cr 14, ai_i w, ai_i c, ai_i k, ai_i 0, ai_i 800, ai_i z7, ai_i z8]) rfl rfl ?_
              refine w_iload (i := 7) (npc := 83) rfl rfl ?_
              refine w_iload (i := 6) (npc := 85) rfl rfl ?_
              refine w_isub (npc := 86) rfl (by omega) ?_
              refine w_const (n := 2) (npc := 87) rfl ?_
              refine w_icmp (c := .lt) (npc := 90) (pt := 117) rfl (fun hc10 => ?_) (fun hc10 => ?_)
              · replace hc10 : z8 - z7 < (2 : Int) := hc10
                refine w_aload (i := 0) (npc := 118) (v := cr 14) rfl rfl rfl ?_
                refine w_getf (i := 14) (ci := 1) (k := 0) (npc := 121) rfl (hI15.pl (by decide)) (hI15.T (by decide) rfl) (by decide) (hI15.ref 14 0 (p := 15) (by decide) (by decide) rfl) ?_
                refine w_iload (i := 3) (npc := 122) rfl rfl ?_
                refine w_iload (i := 4) (npc := 124) rfl rfl ?_
                refine w_ast (i := 15) (k := 1) (n := 24) (npc := 125) rfl (hI15.pl (by decide)) (hI15.T (by decide) rfl) (by decide) (by omega) cm_af1 ?_
                have hI12 := hI15.puti (i := 15) (k := (k : Int).toNat) (z := 0) (lo := 0) (hi := 65535) (by decide) rfl (by omega)
                have hF14 := cm_fr.up (i := 15) (k := (k : Int).toNat) (v := ai_i 0) hF15 (by first | omega | (simp; done) | (simp; omega) | (simp only; omega))
                generalize hE13 : cm_up Eq15 15 ((k : Int).toNat) (ai_i 0) = E11 at hI12 hF14 ⊢
                have hz15 : E11 14 2 = ai_i z4 := by rw [← hE13, cm_up_nei _ _ (by decide)]; exact hz4
                have ghz15 := gv_eq hz15
                have hz16 : E11 15 ((k : Int).toNat) = ai_i 0 := by rw [← hE13, cm_up_eq]
                have ghz16 := gv_eq hz16
                refine w_iload (i := 2) (npc := 126) rfl rfl ?_
                refine w_if (c := .eq) (npc := 129) (pt := 140) rfl (fun hc17 => ?_) (fun hc17 => ?_)
                · replace hc17 : c = (0 : Int) := hc17
                  refine w_const (n := 0) (npc := 141) rfl ?_
                  refine w_istore (i := 2) (npc := 142) (loc' := [cr 14, ai_i w, ai_i 0, ai_i k, ai_i 0, ai_i 800, ai_i z7, ai_i z8]) rfl rfl ?_
                  refine w_iinc (i := 3) (n := 1) (npc := 145) (loc' := [cr 14, ai_i w, ai_i 0, ai_i (k + 1), ai_i 0, ai_i 800, ai_i z7, ai_i z8]) rfl rfl (by omega) rfl ?_
                  refine w_goto (pt := 15) rfl ?_
                  exact ih15 (0) (k + 1) (ai_i 0) (ai_i 800) (ai_i z7) (ai_i z8) E11 (by omega) hI12 hF14 (by omega)
                · replace hc17 : ¬ (c = (0 : Int)) := hc17
                  refine w_iload (i := 4) (npc := 131) rfl rfl ?_
                  refine w_iload (i := 5) (npc := 133) rfl rfl ?_
                  refine w_icmp (c := .ne) (npc := 136) (pt := 140) rfl (fun hc19 => ?_) (fun hc19 => ?_)
                  · replace hc19 : (0 : Int) ≠ 800 := hc19
                    refine w_const (n := 0) (npc := 141) rfl ?_
                    refine w_istore (i := 2) (npc := 142) (loc' := [cr 14, ai_i w, ai_i 0, ai_i k, ai_i 0, ai_i 800, ai_i z7, ai_i z8]) rfl rfl ?_
                    refine w_iinc (i := 3) (n := 1) (npc := 145) (loc' := [cr 14, ai_i w, ai_i 0, ai_i (k + 1), ai_i 0, ai_i 800, ai_i z7, ai_i z8]) rfl rfl (by omega) rfl ?_
                    refine w_goto (pt := 15) rfl ?_
                    exact ih15 (0) (k + 1) (ai_i 0) (ai_i 800) (ai_i z7) (ai_i z8) E11 (by omega) hI12 hF14 (by omega)
                  · replace hc19 : ¬ ((0 : Int) ≠ 800) := hc19
                    refine w_const (n := 1) (npc := 137) rfl ?_
                    refine w_goto (pt := 141) rfl ?_
                    refine w_istore (i := 2) (npc := 142) (loc' := [cr 14, ai_i w, ai_i 1, ai_i k, ai_i 0, ai_i 800, ai_i z7, ai_i z8]) rfl rfl ?_
                    refine w_iinc (i := 3) (n := 1) (npc := 145) (loc' := [cr 14, ai_i w, ai_i 1, ai_i (k + 1), ai_i 0, ai_i 800, ai_i z7, ai_i z8]) rfl rfl (by omega) rfl ?_
                    refine w_goto (pt := 15) rfl ?_
                    exact ih15 (1) (k + 1) (ai_i 0) (ai_i 800) (ai_i z7) (ai_i z8) E11 (by omega) hI12 hF14 (by omega)
              · replace hc10 : ¬ (z8 - z7 < (2 : Int)) := hc10
                refine w_aload (i := 0) (npc := 91) (v := cr 14) rfl rfl rfl ?_
                refine w_getf (i := 14) (ci := 1) (k := 0) (npc := 94) rfl (hI15.pl (by decide)) (hI15.T (by decide) rfl) (by decide) (hI15.ref 14 0 (p := 15) (by decide) (by decide) rfl) ?_
                refine w_iload (i := 3) (npc := 95) rfl rfl ?_
                refine w_iload (i := 6) (npc := 97) rfl rfl ?_
                refine w_iload (i := 7) (npc := 99) rfl rfl ?_
                refine w_iadd (npc := 100) rfl (by omega) ?_
                refine w_const (n := 2) (npc := 101) rfl ?_
                refine w_idiv (npc := 102) rfl (by omega) (by omega) (fun z23 hz23 hz23b hz23c => ?_)
                refine w_const (n := 8) (npc := 104) rfl ?_
                refine w_imul (npc := 105) rfl (by omega) ?_
                refine w_iload (i := 1) (npc := 106) rfl rfl ?_
                refine w_iadd (npc := 107) rfl (by omega) ?_
                refine w_ast (i := 15) (k := 1) (n := 24) (npc := 108) rfl (hI15.pl (by decide)) (hI15.T (by decide) rfl) (by decide) (by omega) cm_af1 ?_
                have hI27 := hI15.puti (i := 15) (k := (k : Int).toNat) (z := z23 * 8 + w) (lo := 0) (hi := 65535) (by decide) rfl (by omega)
                have hF29 := cm_fr.up (i := 15) (k := (k : Int).toNat) (v := ai_i (z23 * 8 + w)) hF15 (by first | omega | (simp; done) | (simp; omega) | (simp only; omega))
                generalize hE28 : cm_up Eq15 15 ((k : Int).toNat) (ai_i (z23 * 8 + w)) = E26 at hI27 hF29 ⊢
                have hz30 : E26 14 2 = ai_i z4 := by rw [← hE28, cm_up_nei _ _ (by decide)]; exact hz4
                have ghz30 := gv_eq hz30
                have hz31 : E26 15 ((k : Int).toNat) = ai_i (z23 * 8 + w) := by rw [← hE28, cm_up_eq]
                have ghz31 := gv_eq hz31
                refine w_aload (i := 0) (npc := 109) (v := cr 14) rfl rfl rfl ?_
                refine w_iload (i := 3) (npc := 110) rfl rfl ?_
                refine w_const (n := 1) (npc := 111) rfl ?_
                refine w_iadd (npc := 112) rfl (by omega) ?_
                refine w_putf (i := 14) (ci := 1) (k := 2) (t := 0) (npc := 115) rfl (hI27.pl (by decide)) (hI27.T (by decide) rfl) (by decide) cm_fit0 ?_
                have hI34 := hI27.puti (i := 14) (k := 2) (z := k + 1) (lo := 0) (hi := 24) (by decide) rfl (by omega)
                have hF36 := cm_fr.up (i := 14) (k := 2) (v := ai_i (k + 1)) hF29 (by first | omega | (simp; done) | (simp; omega) | (simp only; omega))
                generalize hE35 : cm_up E26 14 2 (ai_i (k + 1)) = E33 at hI34 hF36 ⊢
                have hz37 : E33 15 ((k : Int).toNat) = ai_i (z23 * 8 + w) := by rw [← hE35, cm_up_nei _ _ (by decide)]; exact hz31
                have ghz37 := gv_eq hz37
                have hz38 : E33 14 2 = ai_i (k + 1) := by rw [← hE35, cm_up_eq]
                have ghz38 := gv_eq hz38
                refine w_const (n := 1) (npc := 116) rfl ?_
                exact w_zret rfl (by omega) (⟨rfl, rfl, rfl, hI34, hF36, 1, rfl, by omega⟩) (by omega) (by omega)
            · replace hc6 : ¬ (c = (0 : Int)) := hc6
              refine w_iload (i := 3) (npc := 46) rfl rfl ?_
              refine w_aload (i := 0) (npc := 47) (v := cr 14) rfl rfl rfl ?_
              obtain ⟨z39, hz39, hz39a, hz39b⟩ := hI15.int 14 3 (lo := 0) (hi := 24) (by decide) (by decide) rfl
              have ghz39 := gv_eq hz39
              refine w_getf (i := 14) (ci := 1) (k := 3) (npc := 50) rfl (hI15.pl (by decide)) (hI15.T (by decide) rfl) (by decide) hz39 ?_
              refine w_icmp (c := .ge) (npc := 53) (pt := 62) rfl (fun hc40 => ?_) (fun hc40 => ?_)
              · replace hc40 : z39 ≤ k := hc40
                refine w_const (n := 800) (npc := 65) rfl ?_
                refine w_istore (i := 5) (npc := 67) (loc' := [cr 14, ai_i w, ai_i c, ai_i k, ai_i 0, ai_i 800, u15_6, u15_7]) rfl rfl ?_
                refine w_iload (i := 4) (npc := 69) rfl rfl ?_
                refine w_const (n := 8) (npc := 71) rfl ?_
                refine w_idiv (npc := 72) rfl (by omega) (by omega) (fun z41 hz41 hz41b hz41c => ?_)
                refine w_istore (i := 6) (npc := 74) (loc' := [cr 14, ai_i w, ai_i c, ai_i k, ai_i 0, ai_i 800, ai_i z41, u15_7]) rfl rfl ?_
                refine w_iload (i := 5) (npc := 76) rfl rfl ?_
                refine w_const (n := 8) (npc := 78) rfl ?_
                refine w_idiv (npc := 79) rfl (by omega) (by omega) (fun z42 hz42 hz42b hz42c => ?_)
                refine w_istore (i := 7) (npc := 81) (loc' := [cr 14, ai_i w, ai_i c, ai_i k, ai_i 0, ai_i 800, ai_i z41, ai_i z42]) rfl rfl ?_
                refine w_iload (i := 7) (npc := 83) rfl rfl ?_
                refine w_iload (i := 6) (npc := 85) rfl rfl ?_
                refine w_isub (npc := 86) rfl (by omega) ?_
                refine w_const (n := 2) (npc := 87) rfl ?_
                refine w_icmp (c := .lt) (npc := 90) (pt := 117) rfl (fun hc44 => ?_) (fun hc44 => ?_)
                · replace hc44 : z42 - z41 < (2 : Int) := hc44
                  refine w_aload (i := 0) (npc := 118) (v := cr 14) rfl rfl rfl ?_
                  refine w_getf (i := 14) (ci := 1) (k := 0) (npc := 121) rfl (hI15.pl (by decide)) (hI15.T (by decide) rfl) (by decide) (hI15.ref 14 0 (p := 15) (by decide) (by decide) rfl) ?_
                  refine w_iload (i := 3) (npc := 122) rfl rfl ?_
                  refine w_iload (i := 4) (npc := 124) rfl rfl ?_
                  refine w_ast (i := 15) (k := 1) (n := 24) (npc := 125) rfl (hI15.pl (by decide)) (hI15.T (by decide) rfl) (by decide) (by omega) cm_af1 ?_
                  have hI46 := hI15.puti (i := 15) (k := (k : Int).toNat) (z := 0) (lo := 0) (hi := 65535) (by decide) rfl (by omega)
                  have hF48 := cm_fr.up (i := 15) (k := (k : Int).toNat) (v := ai_i 0) hF15 (by first | omega | (simp; done) | (simp; omega) | (simp only; omega))
                  generalize hE47 : cm_up Eq15 15 ((k : Int).toNat) (ai_i 0) = E45 at hI46 hF48 ⊢
                  have hz49 : E45 14 2 = ai_i z4 := by rw [← hE47, cm_up_nei _ _ (by decide)]; exact hz4
                  have ghz49 := gv_eq hz49
                  have hz50 : E45 14 3 = ai_i z39 := by rw [← hE47, cm_up_nei _ _ (by decide)]; exact hz39
                  have ghz50 := gv_eq hz50
                  have hz51 : E45 15 ((k : Int).toNat) = ai_i 0 := by rw [← hE47, cm_up_eq]
                  have ghz51 := gv_eq hz51
                  refine w_iload (i := 2) (npc := 126) rfl rfl ?_
                  refine w_if (c := .eq) (npc := 129) (pt := 140) rfl (fun hc52 => ?_) (fun hc52 => ?_)
                  · replace hc52 : c = (0 : Int) := hc52
                    refine w_const (n := 0) (npc := 141) rfl ?_
                    refine w_istore (i := 2) (npc := 142) (loc' := [cr 14, ai_i w, ai_i 0, ai_i k, ai_i 0, ai_i 800, ai_i z41, ai_i z42]) rfl rfl ?_
                    refine w_iinc (i := 3) (n := 1) (npc := 145) (loc' := [cr 14, ai_i w, ai_i 0, ai_i (k + 1), ai_i 0, ai_i 800, ai_i z41, ai_i z42]) rfl rfl (by omega) rfl ?_
                    refine w_goto (pt := 15) rfl ?_
                    exact ih15 (0) (k + 1) (ai_i 0) (ai_i 800) (ai_i z41) (ai_i z42) E45 (by omega) hI46 hF48 (by omega)
                  · replace hc52 : ¬ (c = (0 : Int)) := hc52
                    refine w_iload (i := 4) (npc := 131) rfl rfl ?_
                    refine w_iload (i := 5) (npc := 133) rfl rfl ?_
                    refine w_icmp (c := .ne) (npc := 136) (pt := 140) rfl (fun hc54 => ?_) (fun hc54 => ?_)
                    · replace hc54 : (0 : Int) ≠ 800 := hc54
                      refine w_const (n := 0) (npc := 141) rfl ?_
                      refine w_istore (i := 2) (npc := 142) (loc' := [cr 14, ai_i w, ai_i 0, ai_i k, ai_i 0, ai_i 800, ai_i z41, ai_i z42]) rfl rfl ?_
                      refine w_iinc (i := 3) (n := 1) (npc := 145) (loc' := [cr 14, ai_i w, ai_i 0, ai_i (k + 1), ai_i 0, ai_i 800, ai_i z41, ai_i z42]) rfl rfl (by omega) rfl ?_
                      refine w_goto (pt := 15) rfl ?_
                      exact ih15 (0) (k + 1) (ai_i 0) (ai_i 800) (ai_i z41) (ai_i z42) E45 (by omega) hI46 hF48 (by omega)
                    · replace hc54 : ¬ ((0 : Int) ≠ 800) := hc54
                      refine w_const (n := 1) (npc := 137) rfl ?_
                      refine w_goto (pt := 141) rfl ?_
                      refine w_istore (i := 2) (npc := 142) (loc' := [cr 14, ai_i w, ai_i 1, ai_i k, ai_i 0, ai_i 800, ai_i z41, ai_i z42]) rfl rfl ?_
                      refine w_iinc (i := 3) (n := 1) (npc := 145) (loc' := [cr 14, ai_i w, ai_i 1, ai_i (k + 1), ai_i 0, ai_i 800, ai_i z41, ai_i z42]) rfl rfl (by omega) rfl ?_
                      refine w_goto (pt := 15) rfl ?_
                      exact ih15 (1) (k + 1) (ai_i 0) (ai_i 800) (ai_i z41) (ai_i z42) E45 (by omega) hI46 hF48 (by omega)
                · replace hc44 : ¬ (z42 - z41 < (2 : Int)) := hc44
                  refine w_aload (i := 0) (npc := 91) (v := cr 14) rfl rfl rfl ?_
                  refine w_getf (i := 14) (ci := 1) (k := 0) (npc := 94) rfl (hI15.pl (by decide)) (hI15.T (by decide) rfl) (by decide) (hI15.ref 14 0 (p := 15) (by decide) (by decide) rfl) ?_
                  refine w_iload (i := 3) (npc := 95) rfl rfl ?_
                  refine w_iload (i := 6) (npc := 97) rfl rfl ?_
                  refine w_iload (i := 7) (npc := 99) rfl rfl ?_
                  refine w_iadd (npc := 100) rfl (by omega) ?_
                  refine w_const (n := 2) (npc := 101) rfl ?_
                  refine w_idiv (npc := 102) rfl (by omega) (by omega) (fun z58 hz58 hz58b hz58c => ?_)
                  refine w_const (n := 8) (npc := 104) rfl ?_
                  refine w_imul (npc := 105) rfl (by omega) ?_
                  refine w_iload (i := 1) (npc := 106) rfl rfl ?_
                  refine w_iadd (npc := 107) rfl (by omega) ?_
                  refine w_ast (i := 15) (k := 1) (n := 24) (npc := 108) rfl (hI15.pl (by decide)) (hI15.T (by decide) rfl) (by decide) (by omega) cm_af1 ?_
                  have hI62 := hI15.puti (i := 15) (k := (k : Int).toNat) (z := z58 * 8 + w) (lo := 0) (hi := 65535) (by decide) rfl (by omega)
                  have hF64 := cm_fr.up (i := 15) (k := (k : Int).toNat) (v := ai_i (z58 * 8 + w)) hF15 (by first | omega | (simp; done) | (simp; omega) | (simp only; omega))
                  generalize hE63 : cm_up Eq15 15 ((k : Int).toNat) (ai_i (z58 * 8 + w)) = E61 at hI62 hF64 ⊢
                  have hz65 : E61 14 2 = ai_i z4 := by rw [← hE63, cm_up_nei _ _ (by decide)]; exact hz4
                  have ghz65 := gv_eq hz65
                  have hz66 : E61 14 3 = ai_i z39 := by rw [← hE63, cm_up_nei _ _ (by decide)]; exact hz39
                  have ghz66 := gv_eq hz66
                  have hz67 : E61 15 ((k : Int).toNat) = ai_i (z58 * 8 + w) := by rw [← hE63, cm_up_eq]
                  have ghz67 := gv_eq hz67
                  refine w_aload (i := 0) (npc := 109) (v := cr 14) rfl rfl rfl ?_
                  refine w_iload (i := 3) (npc := 110) rfl rfl ?_
                  refine w_const (n := 1) (npc := 111) rfl ?_
                  refine w_iadd (npc := 112) rfl (by omega) ?_
                  refine w_putf (i := 14) (ci := 1) (k := 2) (t := 0) (npc := 115) rfl (hI62.pl (by decide)) (hI62.T (by decide) rfl) (by decide) cm_fit0 ?_
                  have hI70 := hI62.puti (i := 14) (k := 2) (z := k + 1) (lo := 0) (hi := 24) (by decide) rfl (by omega)
                  have hF72 := cm_fr.up (i := 14) (k := 2) (v := ai_i (k + 1)) hF64 (by first | omega | (simp; done) | (simp; omega) | (simp only; omega))
                  generalize hE71 : cm_up E61 14 2 (ai_i (k + 1)) = E69 at hI70 hF72 ⊢
                  have hz73 : E69 14 3 = ai_i z39 := by rw [← hE71, cm_up_ne _ _ (by decide)]; exact hz66
                  have ghz73 := gv_eq hz73
                  have hz74 : E69 15 ((k : Int).toNat) = ai_i (z58 * 8 + w) := by rw [← hE71, cm_up_nei _ _ (by decide)]; exact hz67
                  have ghz74 := gv_eq hz74
                  have hz75 : E69 14 2 = ai_i (k + 1) := by rw [← hE71, cm_up_eq]
                  have ghz75 := gv_eq hz75
                  refine w_const (n := 1) (npc := 116) rfl ?_
                  exact w_zret rfl (by omega) (⟨rfl, rfl, rfl, hI70, hF72, 1, rfl, by omega⟩) (by omega) (by omega)
              · replace hc40 : ¬ (z39 ≤ k) := hc40
                refine w_aload (i := 0) (npc := 54) (v := cr 14) rfl rfl rfl ?_
                refine w_getf (i := 14) (ci := 1) (k := 1) (npc := 57) rfl (hI15.pl (by decide)) (hI15.T (by decide) rfl) (by decide) (hI15.ref 14 1 (p := 16) (by decide) (by decide) rfl) ?_
                refine w_iload (i := 3) (npc := 58) rfl rfl ?_
                obtain ⟨z76, hz76, hz76a, hz76b⟩ := hI15.int 16 (k : Int).toNat (lo := 0) (hi := 65535) (by decide) (show (k : Int).toNat < 24 by omega) rfl
                have ghz76 := gv_eq hz76
                refine w_ald (i := 16) (t := 1) (n := 24) (npc := 59) rfl (hI15.pl (by decide)) (hI15.T (by decide) rfl) (by decide) rfl (by omega) hz76 ?_
                refine w_goto (pt := 65) rfl ?_
                refine w_istore (i := 5) (npc := 67) (loc' := [cr 14, ai_i w, ai_i c, ai_i k, ai_i 0, ai_i z76, u15_6, u15_7]) rfl rfl ?_
                refine w_iload (i := 4) (npc := 69) rfl rfl ?_
                refine w_const (n := 8) (npc := 71) rfl ?_
                refine w_idiv (npc := 72) rfl (by omega) (by omega) (fun z77 hz77 hz77b hz77c => ?_)
                refine w_istore (i := 6) (npc := 74) (loc' := [cr 14, ai_i w, ai_i c, ai_i k, ai_i 0, ai_i z76, ai_i z77, u15_7]) rfl rfl ?_
                refine w_iload (i := 5) (npc := 76) rfl rfl ?_
                refine w_const (n := 8) (npc := 78) rfl ?_
                refine w_idiv (npc := 79) rfl (by omega) (by omega) (fun z78 hz78 hz78b hz78c => ?_)
                refine w_istore (i := 7) (npc := 81) (loc' := [cr 14, ai_i w, ai_i c, ai_i k, ai_i 0, ai_i z76, ai_i z77, ai_i z78]) rfl rfl ?_
                refine w_iload (i := 7) (npc := 83) rfl rfl ?_
                refine w_iload (i := 6) (npc := 85) rfl rfl ?_
                refine w_isub (npc := 86) rfl (by omega) ?_
                refine w_const (n := 2) (npc := 87) rfl ?_
                refine w_icmp (c := .lt) (npc := 90) (pt := 117) rfl (fun hc80 => ?_) (fun hc80 => ?_)
                · replace hc80 : z78 - z77 < (2 : Int) := hc80
                  refine w_aload (i := 0) (npc := 118) (v := cr 14) rfl rfl rfl ?_
                  refine w_getf (i := 14) (ci := 1) (k := 0) (npc := 121) rfl (hI15.pl (by decide)) (hI15.T (by decide) rfl) (by decide) (hI15.ref 14 0 (p := 15) (by decide) (by decide) rfl) ?_
                  refine w_iload (i := 3) (npc := 122) rfl rfl ?_
                  refine w_iload (i := 4) (npc := 124) rfl rfl ?_
                  refine w_ast (i := 15) (k := 1) (n := 24) (npc := 125) rfl (hI15.pl (by decide)) (hI15.T (by decide) rfl) (by decide) (by omega) cm_af1 ?_
                  have hI82 := hI15.puti (i := 15) (k := (k : Int).toNat) (z := 0) (lo := 0) (hi := 65535) (by decide) rfl (by omega)
                  have hF84 := cm_fr.up (i := 15) (k := (k : Int).toNat) (v := ai_i 0) hF15 (by first | omega | (simp; done) | (simp; omega) | (simp only; omega))
                  generalize hE83 : cm_up Eq15 15 ((k : Int).toNat) (ai_i 0) = E81 at hI82 hF84 ⊢
                  have hz85 : E81 14 2 = ai_i z4 := by rw [← hE83, cm_up_nei _ _ (by decide)]; exact hz4
                  have ghz85 := gv_eq hz85
                  have hz86 : E81 14 3 = ai_i z39 := by rw [← hE83, cm_up_nei _ _ (by decide)]; exact hz39
                  have ghz86 := gv_eq hz86
                  have hz87 : E81 16 ((k : Int).toNat) = ai_i z76 := by rw [← hE83, cm_up_nei _ _ (by decide)]; exact hz76
                  have ghz87 := gv_eq hz87
                  have hz88 : E81 15 ((k : Int).toNat) = ai_i 0 := by rw [← hE83, cm_up_eq]
                  have ghz88 := gv_eq hz88
                  refine w_iload (i := 2) (npc := 126) rfl rfl ?_
                  refine w_if (c := .eq) (npc := 129) (pt := 140) rfl (fun hc89 => ?_) (fun hc89 => ?_)
                  · replace hc89 : c = (0 : Int) := hc89
                    refine w_const (n := 0) (npc := 141) rfl ?_
                    refine w_istore (i := 2) (npc := 142) (loc' := [cr 14, ai_i w, ai_i 0, ai_i k, ai_i 0, ai_i z76, ai_i z77, ai_i z78]) rfl rfl ?_
                    refine w_iinc (i := 3) (n := 1) (npc := 145) (loc' := [cr 14, ai_i w, ai_i 0, ai_i (k + 1), ai_i 0, ai_i z76, ai_i z77, ai_i z78]) rfl rfl (by omega) rfl ?_
                    refine w_goto (pt := 15) rfl ?_
                    exact ih15 (0) (k + 1) (ai_i 0) (ai_i z76) (ai_i z77) (ai_i z78) E81 (by omega) hI82 hF84 (by omega)
                  · replace hc89 : ¬ (c = (0 : Int)) := hc89
                    refine w_iload (i := 4) (npc := 131) rfl rfl ?_
                    refine w_iload (i := 5) (npc := 133) rfl rfl ?_
                    refine w_icmp (c := .ne) (npc := 136) (pt := 140) rfl (fun hc91 => ?_) (fun hc91 => ?_)
                    · replace hc91 : (0 : Int) ≠ z76 := hc91
                      refine w_const (n := 0) (npc := 141) rfl ?_
                      refine w_istore (i := 2) (npc := 142) (loc' := [cr 14, ai_i w, ai_i 0, ai_i k, ai_i 0, ai_i z76, ai_i z77, ai_i z78]) rfl rfl ?_
                      refine w_iinc (i := 3) (n := 1) (npc := 145) (loc' := [cr 14, ai_i w, ai_i 0, ai_i (k + 1), ai_i 0, ai_i z76, ai_i z77, ai_i z78]) rfl rfl (by omega) rfl ?_
                      refine w_goto (pt := 15) rfl ?_
                      exact ih15 (0) (k + 1) (ai_i 0) (ai_i z76) (ai_i z77) (ai_i z78) E81 (by omega) hI82 hF84 (by omega)
                    · replace hc91 : ¬ ((0 : Int) ≠ z76) := hc91
                      refine w_const (n := 1) (npc := 137) rfl ?_
                      refine w_goto (pt := 141) rfl ?_
                      refine w_istore (i := 2) (npc := 142) (loc' := [cr 14, ai_i w, ai_i 1, ai_i k, ai_i 0, ai_i z76, ai_i z77, ai_i z78]) rfl rfl ?_
                      refine w_iinc (i := 3) (n := 1) (npc := 145) (loc' := [cr 14, ai_i w, ai_i 1, ai_i (k + 1), ai_i 0, ai_i z76, ai_i z77, ai_i z78]) rfl rfl (by omega) rfl ?_
                      refine w_goto (pt := 15) rfl ?_
                      exact ih15 (1) (k + 1) (ai_i 0) (ai_i z76) (ai_i z77) (ai_i z78) E81 (by omega) hI82 hF84 (by omega)
                · replace hc80 : ¬ (z78 - z77 < (2 : Int)) := hc80
                  refine w_aload (i := 0) (npc := 91) (v := cr 14) rfl rfl rfl ?_
                  refine w_getf (i := 14) (ci := 1) (k := 0) (npc := 94) rfl (hI15.pl (by decide)) (hI15.T (by decide) rfl) (by decide) (hI15.ref 14 0 (p := 15) (by decide) (by decide) rfl) ?_
                  refine w_iload (i := 3) (npc := 95) rfl rfl ?_
                  refine w_iload (i := 6) (npc := 97) rfl rfl ?_
                  refine w_iload (i := 7) (npc := 99) rfl rfl ?_
                  refine w_iadd (npc := 100) rfl (by omega) ?_
                  refine w_const (n := 2) (npc := 101) rfl ?_
                  refine w_idiv (npc := 102) rfl (by omega) (by omega) (fun z95 hz95 hz95b hz95c => ?_)
                  refine w_const (n := 8) (npc := 104) rfl ?_
                  refine w_imul (npc := 105) rfl (by omega) ?_
                  refine w_iload (i := 1) (npc := 106) rfl rfl ?_
                  refine w_iadd (npc := 107) rfl (by omega) ?_
                  refine w_ast (i := 15) (k := 1) (n := 24) (npc := 108) rfl (hI15.pl (by decide)) (hI15.T (by decide) rfl) (by decide) (by omega) cm_af1 ?_
                  have hI99 := hI15.puti (i := 15) (k := (k : Int).toNat) (z := z95 * 8 + w) (lo := 0) (hi := 65535) (by decide) rfl (by omega)
                  have hF101 := cm_fr.up (i := 15) (k := (k : Int).toNat) (v := ai_i (z95 * 8 + w)) hF15 (by first | omega | (simp; done) | (simp; omega) | (simp only; omega))
                  generalize hE100 : cm_up Eq15 15 ((k : Int).toNat) (ai_i (z95 * 8 + w)) = E98 at hI99 hF101 ⊢
                  have hz102 : E98 14 2 = ai_i z4 := by rw [← hE100, cm_up_nei _ _ (by decide)]; exact hz4
                  have ghz102 := gv_eq hz102
                  have hz103 : E98 14 3 = ai_i z39 := by rw [← hE100, cm_up_nei _ _ (by decide)]; exact hz39
                  have ghz103 := gv_eq hz103
                  have hz104 : E98 16 ((k : Int).toNat) = ai_i z76 := by rw [← hE100, cm_up_nei _ _ (by decide)]; exact hz76
                  have ghz104 := gv_eq hz104
                  have hz105 : E98 15 ((k : Int).toNat) = ai_i (z95 * 8 + w) := by rw [← hE100, cm_up_eq]
                  have ghz105 := gv_eq hz105
                  refine w_aload (i := 0) (npc := 109) (v := cr 14) rfl rfl rfl ?_
                  refine w_iload (i := 3) (npc := 110) rfl rfl ?_
                  refine w_const (n := 1) (npc := 111) rfl ?_
                  refine w_iadd (npc := 112) rfl (by omega) ?_
                  refine w_putf (i := 14) (ci := 1) (k := 2) (t := 0) (npc := 115) rfl (hI99.pl (by decide)) (hI99.T (by decide) rfl) (by decide) cm_fit0 ?_
                  have hI108 := hI99.puti (i := 14) (k := 2) (z := k + 1) (lo := 0) (hi := 24) (by decide) rfl (by omega)
                  have hF110 := cm_fr.up (i := 14) (k := 2) (v := ai_i (k + 1)) hF101 (by first | omega | (simp; done) | (simp; omega) | (simp only; omega))
                  generalize hE109 : cm_up E98 14 2 (ai_i (k + 1)) = E107 at hI108 hF110 ⊢
                  have hz111 : E107 14 3 = ai_i z39 := by rw [← hE109, cm_up_ne _ _ (by decide)]; exact hz103
                  have ghz111 := gv_eq hz111
                  have hz112 : E107 16 ((k : Int).toNat) = ai_i z76 := by rw [← hE109, cm_up_nei _ _ (by decide)]; exact hz104
                  have ghz112 := gv_eq hz112
                  have hz113 : E107 15 ((k : Int).toNat) = ai_i (z95 * 8 + w) := by rw [← hE109, cm_up_nei _ _ (by decide)]; exact hz105
                  have ghz113 := gv_eq hz113
                  have hz114 : E107 14 2 = ai_i (k + 1) := by rw [← hE109, cm_up_eq]
                  have ghz114 := gv_eq hz114
                  refine w_const (n := 1) (npc := 116) rfl ?_
                  exact w_zret rfl (by omega) (⟨rfl, rfl, rfl, hI108, hF110, 1, rfl, by omega⟩) (by omega) (by omega)
          · replace hc5 : ¬ (z4 ≤ k) := hc5
            refine w_aload (i := 0) (npc := 30) (v := cr 14) rfl rfl rfl ?_
            refine w_getf (i := 14) (ci := 1) (k := 0) (npc := 33) rfl (hI15.pl (by decide)) (hI15.T (by decide) rfl) (by decide) (hI15.ref 14 0 (p := 15) (by decide) (by decide) rfl) ?_
            refine w_iload (i := 3) (npc := 34) rfl rfl ?_
            obtain ⟨z115, hz115, hz115a, hz115b⟩ := hI15.int 15 (k : Int).toNat (lo := 0) (hi := 65535) (by decide) (show (k : Int).toNat < 24 by omega) rfl
            have ghz115 := gv_eq hz115
            refine w_ald (i := 15) (t := 1) (n := 24) (npc := 35) rfl (hI15.pl (by decide)) (hI15.T (by decide) rfl) (by decide) rfl (by omega) hz115 ?_
            refine w_goto (pt := 39) rfl ?_
            refine w_istore (i := 4) (npc := 41) (loc' := [cr 14, ai_i w, ai_i c, ai_i k, ai_i z115, u15_5, u15_6, u15_7]) rfl rfl ?_
            refine w_iload (i := 2) (npc := 42) rfl rfl ?_
            refine w_if (c := .eq) (npc := 45) (pt := 62) rfl (fun hc116 => ?_) (fun hc116 => ?_)
            · replace hc116 : c = (0 : Int) := hc116
              refine w_const (n := 800) (npc := 65) rfl ?_
              refine w_istore (i := 5) (npc := 67) (loc' := [cr 14, ai_i w, ai_i c, ai_i k, ai_i z115, ai_i 800, u15_6, u15_7]) rfl rfl ?_
              refine w_iload (i := 4) (npc := 69) rfl rfl ?_
              refine w_const (n := 8) (npc := 71) rfl ?_
              refine w_idiv (npc := 72) rfl (by omega) (by omega) (fun z117 hz117 hz117b hz117c => ?_)
              refine w_istore (i := 6) (npc := 74) (loc' := [cr 14, ai_i w, ai_i c, ai_i k, ai_i z115, ai_i 800, ai_i z117, u15_7]) rfl rfl ?_
              refine w_iload (i := 5) (npc := 76) rfl rfl ?_
              refine w_const (n := 8) (npc := 78) rfl ?_
              refine w_idiv (npc := 79) rfl (by omega) (by omega) (fun z118 hz118 hz118b hz118c => ?_)
              refine w_istore (i := 7) (npc := 81) (loc' := [cr 14, ai_i w, ai_i c, ai_i k, ai_i z115, ai_i 800, ai_i z117, ai_i z118]) rfl rfl ?_
              refine w_iload (i := 7) (npc := 83) rfl rfl ?_
              refine w_iload (i := 6) (npc := 85) rfl rfl ?_
              refine w_isub (npc := 86) rfl (by omega) ?_
              refine w_const (n := 2) (npc := 87) rfl ?_
              refine w_icmp (c := .lt) (npc := 90) (pt := 117) rfl (fun hc120 => ?_) (fun hc120 => ?_)
              · replace hc120 : z118 - z117 < (2 : Int) := hc120
                refine w_aload (i := 0) (npc := 118) (v := cr 14) rfl rfl rfl ?_
                refine w_getf (i := 14) (ci := 1) (k := 0) (npc := 121) rfl (hI15.pl (by decide)) (hI15.T (by decide) rfl) (by decide) (hI15.ref 14 0 (p := 15) (by decide) (by decide) rfl) ?_
                refine w_iload (i := 3) (npc := 122) rfl rfl ?_
                refine w_iload (i := 4) (npc := 124) rfl rfl ?_
                refine w_ast (i := 15) (k := 1) (n := 24) (npc := 125) rfl (hI15.pl (by decide)) (hI15.T (by decide) rfl) (by decide) (by omega) cm_af1 ?_
                have hI122 := hI15.puti (i := 15) (k := (k : Int).toNat) (z := z115) (lo := 0) (hi := 65535) (by decide) rfl (by omega)
                have hF124 := cm_fr.up (i := 15) (k := (k : Int).toNat) (v := ai_i z115) hF15 (by first | omega | (simp; done) | (simp; omega) | (simp only; omega))
                generalize hE123 : cm_up Eq15 15 ((k : Int).toNat) (ai_i z115) = E121 at hI122 hF124 ⊢
                have hz125 : E121 14 2 = ai_i z4 := by rw [← hE123, cm_up_nei _ _ (by decide)]; exact hz4
                have ghz125 := gv_eq hz125
                have hz126 : E121 15 ((k : Int).toNat) = ai_i z115 := by rw [← hE123, cm_up_eq]
                have ghz126 := gv_eq hz126
                refine w_iload (i := 2) (npc := 126) rfl rfl ?_
                refine w_if (c := .eq) (npc := 129) (pt := 140) rfl (fun hc127 => ?_) (fun hc127 => ?_)
                · replace hc127 : c = (0 : Int) := hc127
                  refine w_const (n := 0) (npc := 141) rfl ?_
                  refine w_istore (i := 2) (npc := 142) (loc' := [cr 14, ai_i w, ai_i 0, ai_i k, ai_i z115, ai_i 800, ai_i z117, ai_i z118]) rfl rfl ?_
                  refine w_iinc (i := 3) (n := 1) (npc := 145) (loc' := [cr 14, ai_i w, ai_i 0, ai_i (k + 1), ai_i z115, ai_i 800, ai_i z117, ai_i z118]) rfl rfl (by omega) rfl ?_
                  refine w_goto (pt := 15) rfl ?_
                  exact ih15 (0) (k + 1) (ai_i z115) (ai_i 800) (ai_i z117) (ai_i z118) E121 (by omega) hI122 hF124 (by omega)
                · replace hc127 : ¬ (c = (0 : Int)) := hc127
                  refine w_iload (i := 4) (npc := 131) rfl rfl ?_
                  refine w_iload (i := 5) (npc := 133) rfl rfl ?_
                  refine w_icmp (c := .ne) (npc := 136) (pt := 140) rfl (fun hc129 => ?_) (fun hc129 => ?_)
                  · replace hc129 : z115 ≠ (800 : Int) := hc129
                    refine w_const (n := 0) (npc := 141) rfl ?_
                    refine w_istore (i := 2) (npc := 142) (loc' := [cr 14, ai_i w, ai_i 0, ai_i k, ai_i z115, ai_i 800, ai_i z117, ai_i z118]) rfl rfl ?_
                    refine w_iinc (i := 3) (n := 1) (npc := 145) (loc' := [cr 14, ai_i w, ai_i 0, ai_i (k + 1), ai_i z115, ai_i 800, ai_i z117, ai_i z118]) rfl rfl (by omega) rfl ?_
                    refine w_goto (pt := 15) rfl ?_
                    exact ih15 (0) (k + 1) (ai_i z115) (ai_i 800) (ai_i z117) (ai_i z118) E121 (by omega) hI122 hF124 (by omega)
                  · replace hc129 : ¬ (z115 ≠ (800 : Int)) := hc129
                    refine w_const (n := 1) (npc := 137) rfl ?_
                    refine w_goto (pt := 141) rfl ?_
                    refine w_istore (i := 2) (npc := 142) (loc' := [cr 14, ai_i w, ai_i 1, ai_i k, ai_i z115, ai_i 800, ai_i z117, ai_i z118]) rfl rfl ?_
                    refine w_iinc (i := 3) (n := 1) (npc := 145) (loc' := [cr 14, ai_i w, ai_i 1, ai_i (k + 1), ai_i z115, ai_i 800, ai_i z117, ai_i z118]) rfl rfl (by omega) rfl ?_
                    refine w_goto (pt := 15) rfl ?_
                    exact ih15 (1) (k + 1) (ai_i z115) (ai_i 800) (ai_i z117) (ai_i z118) E121 (by omega) hI122 hF124 (by omega)
              · replace hc120 : ¬ (z118 - z117 < (2 : Int)) := hc120
                refine w_aload (i := 0) (npc := 91) (v := cr 14) rfl rfl rfl ?_
                refine w_getf (i := 14) (ci := 1) (k := 0) (npc := 94) rfl (hI15.pl (by decide)) (hI15.T (by decide) rfl) (by decide) (hI15.ref 14 0 (p := 15) (by decide) (by decide) rfl) ?_
                refine w_iload (i := 3) (npc := 95) rfl rfl ?_
                refine w_iload (i := 6) (npc := 97) rfl rfl ?_
                refine w_iload (i := 7) (npc := 99) rfl rfl ?_
                refine w_iadd (npc := 100) rfl (by omega) ?_
                refine w_const (n := 2) (npc := 101) rfl ?_
                refine w_idiv (npc := 102) rfl (by omega) (by omega) (fun z133 hz133 hz133b hz133c => ?_)
                refine w_const (n := 8) (npc := 104) rfl ?_
                refine w_imul (npc := 105) rfl (by omega) ?_
                refine w_iload (i := 1) (npc := 106) rfl rfl ?_
                refine w_iadd (npc := 107) rfl (by omega) ?_
                refine w_ast (i := 15) (k := 1) (n := 24) (npc := 108) rfl (hI15.pl (by decide)) (hI15.T (by decide) rfl) (by decide) (by omega) cm_af1 ?_
                have hI137 := hI15.puti (i := 15) (k := (k : Int).toNat) (z := z133 * 8 + w) (lo := 0) (hi := 65535) (by decide) rfl (by omega)
                have hF139 := cm_fr.up (i := 15) (k := (k : Int).toNat) (v := ai_i (z133 * 8 + w)) hF15 (by first | omega | (simp; done) | (simp; omega) | (simp only; omega))
                generalize hE138 : cm_up Eq15 15 ((k : Int).toNat) (ai_i (z133 * 8 + w)) = E136 at hI137 hF139 ⊢
                have hz140 : E136 14 2 = ai_i z4 := by rw [← hE138, cm_up_nei _ _ (by decide)]; exact hz4
                have ghz140 := gv_eq hz140
                have hz141 : E136 15 ((k : Int).toNat) = ai_i (z133 * 8 + w) := by rw [← hE138, cm_up_eq]
                have ghz141 := gv_eq hz141
                refine w_aload (i := 0) (npc := 109) (v := cr 14) rfl rfl rfl ?_
                refine w_iload (i := 3) (npc := 110) rfl rfl ?_
                refine w_const (n := 1) (npc := 111) rfl ?_
                refine w_iadd (npc := 112) rfl (by omega) ?_
                refine w_putf (i := 14) (ci := 1) (k := 2) (t := 0) (npc := 115) rfl (hI137.pl (by decide)) (hI137.T (by decide) rfl) (by decide) cm_fit0 ?_
                have hI144 := hI137.puti (i := 14) (k := 2) (z := k + 1) (lo := 0) (hi := 24) (by decide) rfl (by omega)
                have hF146 := cm_fr.up (i := 14) (k := 2) (v := ai_i (k + 1)) hF139 (by first | omega | (simp; done) | (simp; omega) | (simp only; omega))
                generalize hE145 : cm_up E136 14 2 (ai_i (k + 1)) = E143 at hI144 hF146 ⊢
                have hz147 : E143 15 ((k : Int).toNat) = ai_i (z133 * 8 + w) := by rw [← hE145, cm_up_nei _ _ (by decide)]; exact hz141
                have ghz147 := gv_eq hz147
                have hz148 : E143 14 2 = ai_i (k + 1) := by rw [← hE145, cm_up_eq]
                have ghz148 := gv_eq hz148
                refine w_const (n := 1) (npc := 116) rfl ?_
                exact w_zret rfl (by omega) (⟨rfl, rfl, rfl, hI144, hF146, 1, rfl, by omega⟩) (by omega) (by omega)
            · replace hc116 : ¬ (c = (0 : Int)) := hc116
              refine w_iload (i := 3) (npc := 46) rfl rfl ?_
              refine w_aload (i := 0) (npc := 47) (v := cr 14) rfl rfl rfl ?_
              obtain ⟨z149, hz149, hz149a, hz149b⟩ := hI15.int 14 3 (lo := 0) (hi := 24) (by decide) (by decide) rfl
              have ghz149 := gv_eq hz149
              refine w_getf (i := 14) (ci := 1) (k := 3) (npc := 50) rfl (hI15.pl (by decide)) (hI15.T (by decide) rfl) (by decide) hz149 ?_
              refine w_icmp (c := .ge) (npc := 53) (pt := 62) rfl (fun hc150 => ?_) (fun hc150 => ?_)
              · replace hc150 : z149 ≤ k := hc150
                refine w_const (n := 800) (npc := 65) rfl ?_
                refine w_istore (i := 5) (npc := 67) (loc' := [cr 14, ai_i w, ai_i c, ai_i k, ai_i z115, ai_i 800, u15_6, u15_7]) rfl rfl ?_
                refine w_iload (i := 4) (npc := 69) rfl rfl ?_
                refine w_const (n := 8) (npc := 71) rfl ?_
                refine w_idiv (npc := 72) rfl (by omega) (by omega) (fun z151 hz151 hz151b hz151c => ?_)
                refine w_istore (i := 6) (npc := 74) (loc' := [cr 14, ai_i w, ai_i c, ai_i k, ai_i z115, ai_i 800, ai_i z151, u15_7]) rfl rfl ?_
                refine w_iload (i := 5) (npc := 76) rfl rfl ?_
                refine w_const (n := 8) (npc := 78) rfl ?_
                refine w_idiv (npc := 79) rfl (by omega) (by omega) (fun z152 hz152 hz152b hz152c => ?_)
                refine w_istore (i := 7) (npc := 81) (loc' := [cr 14, ai_i w, ai_i c, ai_i k, ai_i z115, ai_i 800, ai_i z151, ai_i z152]) rfl rfl ?_
                refine w_iload (i := 7) (npc := 83) rfl rfl ?_
                refine w_iload (i := 6) (npc := 85) rfl rfl ?_
                refine w_isub (npc := 86) rfl (by omega) ?_
                refine w_const (n := 2) (npc := 87) rfl ?_
                refine w_icmp (c := .lt) (npc := 90) (pt := 117) rfl (fun hc154 => ?_) (fun hc154 => ?_)
                · replace hc154 : z152 - z151 < (2 : Int) := hc154
                  refine w_aload (i := 0) (npc := 118) (v := cr 14) rfl rfl rfl ?_
                  refine w_getf (i := 14) (ci := 1) (k := 0) (npc := 121) rfl (hI15.pl (by decide)) (hI15.T (by decide) rfl) (by decide) (hI15.ref 14 0 (p := 15) (by decide) (by decide) rfl) ?_
                  refine w_iload (i := 3) (npc := 122) rfl rfl ?_
                  refine w_iload (i := 4) (npc := 124) rfl rfl ?_
                  refine w_ast (i := 15) (k := 1) (n := 24) (npc := 125) rfl (hI15.pl (by decide)) (hI15.T (by decide) rfl) (by decide) (by omega) cm_af1 ?_
                  have hI156 := hI15.puti (i := 15) (k := (k : Int).toNat) (z := z115) (lo := 0) (hi := 65535) (by decide) rfl (by omega)
                  have hF158 := cm_fr.up (i := 15) (k := (k : Int).toNat) (v := ai_i z115) hF15 (by first | omega | (simp; done) | (simp; omega) | (simp only; omega))
                  generalize hE157 : cm_up Eq15 15 ((k : Int).toNat) (ai_i z115) = E155 at hI156 hF158 ⊢
                  have hz159 : E155 14 2 = ai_i z4 := by rw [← hE157, cm_up_nei _ _ (by decide)]; exact hz4
                  have ghz159 := gv_eq hz159
                  have hz160 : E155 14 3 = ai_i z149 := by rw [← hE157, cm_up_nei _ _ (by decide)]; exact hz149
                  have ghz160 := gv_eq hz160
                  have hz161 : E155 15 ((k : Int).toNat) = ai_i z115 := by rw [← hE157, cm_up_eq]
                  have ghz161 := gv_eq hz161
                  refine w_iload (i := 2) (npc := 126) rfl rfl ?_
                  refine w_if (c := .eq) (npc := 129) (pt := 140) rfl (fun hc162 => ?_) (fun hc162 => ?_)
                  · replace hc162 : c = (0 : Int) := hc162
                    refine w_const (n := 0) (npc := 141) rfl ?_
                    refine w_istore (i := 2) (npc := 142) (loc' := [cr 14, ai_i w, ai_i 0, ai_i k, ai_i z115, ai_i 800, ai_i z151, ai_i z152]) rfl rfl ?_
                    refine w_iinc (i := 3) (n := 1) (npc := 145) (loc' := [cr 14, ai_i w, ai_i 0, ai_i (k + 1), ai_i z115, ai_i 800, ai_i z151, ai_i z152]) rfl rfl (by omega) rfl ?_
                    refine w_goto (pt := 15) rfl ?_
                    exact ih15 (0) (k + 1) (ai_i z115) (ai_i 800) (ai_i z151) (ai_i z152) E155 (by omega) hI156 hF158 (by omega)
                  · replace hc162 : ¬ (c = (0 : Int)) := hc162
                    refine w_iload (i := 4) (npc := 131) rfl rfl ?_
                    refine w_iload (i := 5) (npc := 133) rfl rfl ?_
                    refine w_icmp (c := .ne) (npc := 136) (pt := 140) rfl (fun hc164 => ?_) (fun hc164 => ?_)
                    · replace hc164 : z115 ≠ (800 : Int) := hc164
                      refine w_const (n := 0) (npc := 141) rfl ?_
                      refine w_istore (i := 2) (npc := 142) (loc' := [cr 14, ai_i w, ai_i 0, ai_i k, ai_i z115, ai_i 800, ai_i z151, ai_i z152]) rfl rfl ?_
                      refine w_iinc (i := 3) (n := 1) (npc := 145) (loc' := [cr 14, ai_i w, ai_i 0, ai_i (k + 1), ai_i z115, ai_i 800, ai_i z151, ai_i z152]) rfl rfl (by omega) rfl ?_
                      refine w_goto (pt := 15) rfl ?_
                      exact ih15 (0) (k + 1) (ai_i z115) (ai_i 800) (ai_i z151) (ai_i z152) E155 (by omega) hI156 hF158 (by omega)
                    · replace hc164 : ¬ (z115 ≠ (800 : Int)) := hc164
                      refine w_const (n := 1) (npc := 137) rfl ?_
                      refine w_goto (pt := 141) rfl ?_
                      refine w_istore (i := 2) (npc := 142) (loc' := [cr 14, ai_i w, ai_i 1, ai_i k, ai_i z115, ai_i 800, ai_i z151, ai_i z152]) rfl rfl ?_
                      refine w_iinc (i := 3) (n := 1) (npc := 145) (loc' := [cr 14, ai_i w, ai_i 1, ai_i (k + 1), ai_i z115, ai_i 800, ai_i z151, ai_i z152]) rfl rfl (by omega) rfl ?_
                      refine w_goto (pt := 15) rfl ?_
                      exact ih15 (1) (k + 1) (ai_i z115) (ai_i 800) (ai_i z151) (ai_i z152) E155 (by omega) hI156 hF158 (by omega)
                · replace hc154 : ¬ (z152 - z151 < (2 : Int)) := hc154
                  refine w_aload (i := 0) (npc := 91) (v := cr 14) rfl rfl rfl ?_
                  refine w_getf (i := 14) (ci := 1) (k := 0) (npc := 94) rfl (hI15.pl (by decide)) (hI15.T (by decide) rfl) (by decide) (hI15.ref 14 0 (p := 15) (by decide) (by decide) rfl) ?_
                  refine w_iload (i := 3) (npc := 95) rfl rfl ?_
                  refine w_iload (i := 6) (npc := 97) rfl rfl ?_
                  refine w_iload (i := 7) (npc := 99) rfl rfl ?_
                  refine w_iadd (npc := 100) rfl (by omega) ?_
                  refine w_const (n := 2) (npc := 101) rfl ?_
                  refine w_idiv (npc := 102) rfl (by omega) (by omega) (fun z168 hz168 hz168b hz168c => ?_)
                  refine w_const (n := 8) (npc := 104) rfl ?_
                  refine w_imul (npc := 105) rfl (by omega) ?_
                  refine w_iload (i := 1) (npc := 106) rfl rfl ?_
                  refine w_iadd (npc := 107) rfl (by omega) ?_
                  refine w_ast (i := 15) (k := 1) (n := 24) (npc := 108) rfl (hI15.pl (by decide)) (hI15.T (by decide) rfl) (by decide) (by omega) cm_af1 ?_
                  have hI172 := hI15.puti (i := 15) (k := (k : Int).toNat) (z := z168 * 8 + w) (lo := 0) (hi := 65535) (by decide) rfl (by omega)
                  have hF174 := cm_fr.up (i := 15) (k := (k : Int).toNat) (v := ai_i (z168 * 8 + w)) hF15 (by first | omega | (simp; done) | (simp; omega) | (simp only; omega))
                  generalize hE173 : cm_up Eq15 15 ((k : Int).toNat) (ai_i (z168 * 8 + w)) = E171 at hI172 hF174 ⊢
                  have hz175 : E171 14 2 = ai_i z4 := by rw [← hE173, cm_up_nei _ _ (by decide)]; exact hz4
                  have ghz175 := gv_eq hz175
                  have hz176 : E171 14 3 = ai_i z149 := by rw [← hE173, cm_up_nei _ _ (by decide)]; exact hz149
                  have ghz176 := gv_eq hz176
                  have hz177 : E171 15 ((k : Int).toNat) = ai_i (z168 * 8 + w) := by rw [← hE173, cm_up_eq]
                  have ghz177 := gv_eq hz177
                  refine w_aload (i := 0) (npc := 109) (v := cr 14) rfl rfl rfl ?_
                  refine w_iload (i := 3) (npc := 110) rfl rfl ?_
                  refine w_const (n := 1) (npc := 111) rfl ?_
                  refine w_iadd (npc := 112) rfl (by omega) ?_
                  refine w_putf (i := 14) (ci := 1) (k := 2) (t := 0) (npc := 115) rfl (hI172.pl (by decide)) (hI172.T (by decide) rfl) (by decide) cm_fit0 ?_
                  have hI180 := hI172.puti (i := 14) (k := 2) (z := k + 1) (lo := 0) (hi := 24) (by decide) rfl (by omega)
                  have hF182 := cm_fr.up (i := 14) (k := 2) (v := ai_i (k + 1)) hF174 (by first | omega | (simp; done) | (simp; omega) | (simp only; omega))
                  generalize hE181 : cm_up E171 14 2 (ai_i (k + 1)) = E179 at hI180 hF182 ⊢
                  have hz183 : E179 14 3 = ai_i z149 := by rw [← hE181, cm_up_ne _ _ (by decide)]; exact hz176
                  have ghz183 := gv_eq hz183
                  have hz184 : E179 15 ((k : Int).toNat) = ai_i (z168 * 8 + w) := by rw [← hE181, cm_up_nei _ _ (by decide)]; exact hz177
                  have ghz184 := gv_eq hz184
                  have hz185 : E179 14 2 = ai_i (k + 1) := by rw [← hE181, cm_up_eq]
                  have ghz185 := gv_eq hz185
                  refine w_const (n := 1) (npc := 116) rfl ?_
                  exact w_zret rfl (by omega) (⟨rfl, rfl, rfl, hI180, hF182, 1, rfl, by omega⟩) (by omega) (by omega)
              · replace hc150 : ¬ (z149 ≤ k) := hc150
                refine w_aload (i := 0) (npc := 54) (v := cr 14) rfl rfl rfl ?_
                refine w_getf (i := 14) (ci := 1) (k := 1) (npc := 57) rfl (hI15.pl (by decide)) (hI15.T (by decide) rfl) (by decide) (hI15.ref 14 1 (p := 16) (by decide) (by decide) rfl) ?_
                refine w_iload (i := 3) (npc := 58) rfl rfl ?_
                obtain ⟨z186, hz186, hz186a, hz186b⟩ := hI15.int 16 (k : Int).toNat (lo := 0) (hi := 65535) (by decide) (show (k : Int).toNat < 24 by omega) rfl
                have ghz186 := gv_eq hz186
                refine w_ald (i := 16) (t := 1) (n := 24) (npc := 59) rfl (hI15.pl (by decide)) (hI15.T (by decide) rfl) (by decide) rfl (by omega) hz186 ?_
                refine w_goto (pt := 65) rfl ?_
                refine w_istore (i := 5) (npc := 67) (loc' := [cr 14, ai_i w, ai_i c, ai_i k, ai_i z115, ai_i z186, u15_6, u15_7]) rfl rfl ?_
                refine w_iload (i := 4) (npc := 69) rfl rfl ?_
                refine w_const (n := 8) (npc := 71) rfl ?_
                refine w_idiv (npc := 72) rfl (by omega) (by omega) (fun z187 hz187 hz187b hz187c => ?_)
                refine w_istore (i := 6) (npc := 74) (loc' := [cr 14, ai_i w, ai_i c, ai_i k, ai_i z115, ai_i z186, ai_i z187, u15_7]) rfl rfl ?_
                refine w_iload (i := 5) (npc := 76) rfl rfl ?_
                refine w_const (n := 8) (npc := 78) rfl ?_
                refine w_idiv (npc := 79) rfl (by omega) (by omega) (fun z188 hz188 hz188b hz188c => ?_)
                refine w_istore (i := 7) (npc := 81) (loc' := [cr 14, ai_i w, ai_i c, ai_i k, ai_i z115, ai_i z186, ai_i z187, ai_i z188]) rfl rfl ?_
                refine w_iload (i := 7) (npc := 83) rfl rfl ?_
                refine w_iload (i := 6) (npc := 85) rfl rfl ?_
                refine w_isub (npc := 86) rfl (by omega) ?_
                refine w_const (n := 2) (npc := 87) rfl ?_
                refine w_icmp (c := .lt) (npc := 90) (pt := 117) rfl (fun hc190 => ?_) (fun hc190 => ?_)
                · replace hc190 : z188 - z187 < (2 : Int) := hc190
                  refine w_aload (i := 0) (npc := 118) (v := cr 14) rfl rfl rfl ?_
                  refine w_getf (i := 14) (ci := 1) (k := 0) (npc := 121) rfl (hI15.pl (by decide)) (hI15.T (by decide) rfl) (by decide) (hI15.ref 14 0 (p := 15) (by decide) (by decide) rfl) ?_
                  refine w_iload (i := 3) (npc := 122) rfl rfl ?_
                  refine w_iload (i := 4) (npc := 124) rfl rfl ?_
                  refine w_ast (i := 15) (k := 1) (n := 24) (npc := 125) rfl (hI15.pl (by decide)) (hI15.T (by decide) rfl) (by decide) (by omega) cm_af1 ?_
                  have hI192 := hI15.puti (i := 15) (k := (k : Int).toNat) (z := z115) (lo := 0) (hi := 65535) (by decide) rfl (by omega)
                  have hF194 := cm_fr.up (i := 15) (k := (k : Int).toNat) (v := ai_i z115) hF15 (by first | omega | (simp; done) | (simp; omega) | (simp only; omega))
                  generalize hE193 : cm_up Eq15 15 ((k : Int).toNat) (ai_i z115) = E191 at hI192 hF194 ⊢
                  have hz195 : E191 14 2 = ai_i z4 := by rw [← hE193, cm_up_nei _ _ (by decide)]; exact hz4
                  have ghz195 := gv_eq hz195
                  have hz196 : E191 14 3 = ai_i z149 := by rw [← hE193, cm_up_nei _ _ (by decide)]; exact hz149
                  have ghz196 := gv_eq hz196
                  have hz197 : E191 16 ((k : Int).toNat) = ai_i z186 := by rw [← hE193, cm_up_nei _ _ (by decide)]; exact hz186
                  have ghz197 := gv_eq hz197
                  have hz198 : E191 15 ((k : Int).toNat) = ai_i z115 := by rw [← hE193, cm_up_eq]
                  have ghz198 := gv_eq hz198
                  refine w_iload (i := 2) (npc := 126) rfl rfl ?_
                  refine w_if (c := .eq) (npc := 129) (pt := 140) rfl (fun hc199 => ?_) (fun hc199 => ?_)
                  · replace hc199 : c = (0 : Int) := hc199
                    refine w_const (n := 0) (npc := 141) rfl ?_
                    refine w_istore (i := 2) (npc := 142) (loc' := [cr 14, ai_i w, ai_i 0, ai_i k, ai_i z115, ai_i z186, ai_i z187, ai_i z188]) rfl rfl ?_
                    refine w_iinc (i := 3) (n := 1) (npc := 145) (loc' := [cr 14, ai_i w, ai_i 0, ai_i (k + 1), ai_i z115, ai_i z186, ai_i z187, ai_i z188]) rfl rfl (by omega) rfl ?_
                    refine w_goto (pt := 15) rfl ?_
                    exact ih15 (0) (k + 1) (ai_i z115) (ai_i z186) (ai_i z187) (ai_i z188) E191 (by omega) hI192 hF194 (by omega)
                  · replace hc199 : ¬ (c = (0 : Int)) := hc199
                    refine w_iload (i := 4) (npc := 131) rfl rfl ?_
                    refine w_iload (i := 5) (npc := 133) rfl rfl ?_
                    refine w_icmp (c := .ne) (npc := 136) (pt := 140) rfl (fun hc201 => ?_) (fun hc201 => ?_)
                    · replace hc201 : z115 ≠ z186 := hc201
                      refine w_const (n := 0) (npc := 141) rfl ?_
                      refine w_istore (i := 2) (npc := 142) (loc' := [cr 14, ai_i w, ai_i 0, ai_i k, ai_i z115, ai_i z186, ai_i z187, ai_i z188]) rfl rfl ?_
                      refine w_iinc (i := 3) (n := 1) (npc := 145) (loc' := [cr 14, ai_i w, ai_i 0, ai_i (k + 1), ai_i z115, ai_i z186, ai_i z187, ai_i z188]) rfl rfl (by omega) rfl ?_
                      refine w_goto (pt := 15) rfl ?_
                      exact ih15 (0) (k + 1) (ai_i z115) (ai_i z186) (ai_i z187) (ai_i z188) E191 (by omega) hI192 hF194 (by omega)
                    · replace hc201 : ¬ (z115 ≠ z186) := hc201
                      refine w_const (n := 1) (npc := 137) rfl ?_
                      refine w_goto (pt := 141) rfl ?_
                      refine w_istore (i := 2) (npc := 142) (loc' := [cr 14, ai_i w, ai_i 1, ai_i k, ai_i z115, ai_i z186, ai_i z187, ai_i z188]) rfl rfl ?_
                      refine w_iinc (i := 3) (n := 1) (npc := 145) (loc' := [cr 14, ai_i w, ai_i 1, ai_i (k + 1), ai_i z115, ai_i z186, ai_i z187, ai_i z188]) rfl rfl (by omega) rfl ?_
                      refine w_goto (pt := 15) rfl ?_
                      exact ih15 (1) (k + 1) (ai_i z115) (ai_i z186) (ai_i z187) (ai_i z188) E191 (by omega) hI192 hF194 (by omega)
                · replace hc190 : ¬ (z188 - z187 < (2 : Int)) := hc190
                  refine w_aload (i := 0) (npc := 91) (v := cr 14) rfl rfl rfl ?_
                  refine w_getf (i := 14) (ci := 1) (k := 0) (npc := 94) rfl (hI15.pl (by decide)) (hI15.T (by decide) rfl) (by decide) (hI15.ref 14 0 (p := 15) (by decide) (by decide) rfl) ?_
                  refine w_iload (i := 3) (npc := 95) rfl rfl ?_
                  refine w_iload (i := 6) (npc := 97) rfl rfl ?_
                  refine w_iload (i := 7) (npc := 99) rfl rfl ?_
                  refine w_iadd (npc := 100) rfl (by omega) ?_
                  refine w_const (n := 2) (npc := 101) rfl ?_
                  refine w_idiv (npc := 102) rfl (by omega) (by omega) (fun z205 hz205 hz205b hz205c => ?_)
                  refine w_const (n := 8) (npc := 104) rfl ?_
                  refine w_imul (npc := 105) rfl (by omega) ?_
                  refine w_iload (i := 1) (npc := 106) rfl rfl ?_
                  refine w_iadd (npc := 107) rfl (by omega) ?_
                  refine w_ast (i := 15) (k := 1) (n := 24) (npc := 108) rfl (hI15.pl (by decide)) (hI15.T (by decide) rfl) (by decide) (by omega) cm_af1 ?_
                  have hI209 := hI15.puti (i := 15) (k := (k : Int).toNat) (z := z205 * 8 + w) (lo := 0) (hi := 65535) (by decide) rfl (by omega)
                  have hF211 := cm_fr.up (i := 15) (k := (k : Int).toNat) (v := ai_i (z205 * 8 + w)) hF15 (by first | omega | (simp; done) | (simp; omega) | (simp only; omega))
                  generalize hE210 : cm_up Eq15 15 ((k : Int).toNat) (ai_i (z205 * 8 + w)) = E208 at hI209 hF211 ⊢
                  have hz212 : E208 14 2 = ai_i z4 := by rw [← hE210, cm_up_nei _ _ (by decide)]; exact hz4
                  have ghz212 := gv_eq hz212
                  have hz213 : E208 14 3 = ai_i z149 := by rw [← hE210, cm_up_nei _ _ (by decide)]; exact hz149
                  have ghz213 := gv_eq hz213
                  have hz214 : E208 16 ((k : Int).toNat) = ai_i z186 := by rw [← hE210, cm_up_nei _ _ (by decide)]; exact hz186
                  have ghz214 := gv_eq hz214
                  have hz215 : E208 15 ((k : Int).toNat) = ai_i (z205 * 8 + w) := by rw [← hE210, cm_up_eq]
                  have ghz215 := gv_eq hz215
                  refine w_aload (i := 0) (npc := 109) (v := cr 14) rfl rfl rfl ?_
                  refine w_iload (i := 3) (npc := 110) rfl rfl ?_
                  refine w_const (n := 1) (npc := 111) rfl ?_
                  refine w_iadd (npc := 112) rfl (by omega) ?_
                  refine w_putf (i := 14) (ci := 1) (k := 2) (t := 0) (npc := 115) rfl (hI209.pl (by decide)) (hI209.T (by decide) rfl) (by decide) cm_fit0 ?_
                  have hI218 := hI209.puti (i := 14) (k := 2) (z := k + 1) (lo := 0) (hi := 24) (by decide) rfl (by omega)
                  have hF220 := cm_fr.up (i := 14) (k := 2) (v := ai_i (k + 1)) hF211 (by first | omega | (simp; done) | (simp; omega) | (simp only; omega))
                  generalize hE219 : cm_up E208 14 2 (ai_i (k + 1)) = E217 at hI218 hF220 ⊢
                  have hz221 : E217 14 3 = ai_i z149 := by rw [← hE219, cm_up_ne _ _ (by decide)]; exact hz213
                  have ghz221 := gv_eq hz221
                  have hz222 : E217 16 ((k : Int).toNat) = ai_i z186 := by rw [← hE219, cm_up_nei _ _ (by decide)]; exact hz214
                  have ghz222 := gv_eq hz222
                  have hz223 : E217 15 ((k : Int).toNat) = ai_i (z205 * 8 + w) := by rw [← hE219, cm_up_nei _ _ (by decide)]; exact hz215
                  have ghz223 := gv_eq hz223
                  have hz224 : E217 14 2 = ai_i (k + 1) := by rw [← hE219, cm_up_eq]
                  have ghz224 := gv_eq hz224
                  refine w_const (n := 1) (npc := 116) rfl ?_
                  exact w_zret rfl (by omega) (⟨rfl, rfl, rfl, hI218, hF220, 1, rfl, by omega⟩) (by omega) (by omega)
    exact loop15 _ (0) (0) (ai_un) (ai_un) (ai_un) (ai_un) E (Nat.lt_succ_self _) hI hF (by omega)
  · replace hc2 : ¬ (z1 ≤ (0 : Int)) := hc2
    refine w_const (n := 1) (npc := 8) rfl ?_
    refine w_goto (pt := 12) rfl ?_
    refine w_istore (i := 2) (npc := 13) (loc' := [cr 14, ai_i w, ai_i 1, ai_un, ai_un, ai_un, ai_un, ai_un]) rfl rfl ?_
    refine w_const (n := 0) (npc := 14) rfl ?_
    refine w_istore (i := 3) (npc := 15) (loc' := [cr 14, ai_i w, ai_i 1, ai_i 0, ai_un, ai_un, ai_un, ai_un]) rfl rfl ?_
    have loop15 : ∀ (nf : Nat) (c : Int) (k : Int) (u15_4 : ai_V) (u15_5 : ai_V) (u15_6 : ai_V) (u15_7 : ai_V) (Eq15 : cm_E), ((24 - k).toNat) < nf → cs_I T Eq15 nx → cm_fr (fun i k => 14 ≤ i ∧ i ≤ 16) E Eq15 → (0 ≤ c ∧ c ≤ 1 ∧ 0 ≤ k ∧ k ≤ 24) → cm_wp (ai_find ai_c59 sl) (ai_ev sl (d + 0)) x (kc + 0) (ks + 0) (fun rk rv T' E' nx' => rk = 1 ∧ T = T' ∧ nx = nx' ∧ cs_I T E' nx ∧ cm_fr (fun i k => 14 ≤ i ∧ i ≤ 16) E E' ∧ ∃ z : Int, rv = ai_i z ∧ (0 ≤ z ∧ z ≤ 1)) 15 [cr 14, ai_i w, ai_i c, ai_i k, u15_4, u15_5, u15_6, u15_7] [] T Eq15 nx kc ks := by
      intro nf
      induction nf with
      | zero => intro c k u15_4 u15_5 u15_6 u15_7 Eq15 hm; exact absurd hm (Nat.not_lt_zero _)
      | succ nf15 ih =>
        intro c k u15_4 u15_5 u15_6 u15_7 Eq15 hm15 hI15 hF15 hv15
        have ih15 := ih; clear ih
        refine w_iload (i := 3) (npc := 16) rfl rfl ?_
        refine w_const (n := 24) (npc := 18) rfl ?_
        refine w_icmp (c := .ge) (npc := 21) (pt := 148) rfl (fun hc225 => ?_) (fun hc225 => ?_)
        · replace hc225 : (24 : Int) ≤ k := hc225
          refine w_const (n := 0) (npc := 149) rfl ?_
          exact w_zret rfl (by omega) (⟨rfl, rfl, rfl, hI15, hF15, 0, rfl, by omega⟩) (by omega) (by omega)
        · replace hc225 : ¬ ((24 : Int) ≤ k) := hc225
          refine w_iload (i := 3) (npc := 22) rfl rfl ?_
          refine w_aload (i := 0) (npc := 23) (v := cr 14) rfl rfl rfl ?_
          obtain ⟨z226, hz226, hz226a, hz226b⟩ := hI15.int 14 2 (lo := 0) (hi := 24) (by decide) (by decide) rfl
          have ghz226 := gv_eq hz226
          refine w_getf (i := 14) (ci := 1) (k := 2) (npc := 26) rfl (hI15.pl (by decide)) (hI15.T (by decide) rfl) (by decide) hz226 ?_
          refine w_icmp (c := .ge) (npc := 29) (pt := 38) rfl (fun hc227 => ?_) (fun hc227 => ?_)
          · replace hc227 : z226 ≤ k := hc227
            refine w_const (n := 0) (npc := 39) rfl ?_
            refine w_istore (i := 4) (npc := 41) (loc' := [cr 14, ai_i w, ai_i c, ai_i k, ai_i 0, u15_5, u15_6, u15_7]) rfl rfl ?_
            refine w_iload (i := 2) (npc := 42) rfl rfl ?_
            refine w_if (c := .eq) (npc := 45) (pt := 62) rfl (fun hc228 => ?_) (fun hc228 => ?_)
            · replace hc228 : c = (0 : Int) := hc228
              refine w_const (n := 800) (npc := 65) rfl ?_
              refine w_istore (i := 5) (npc := 67) (loc' := [cr 14, ai_i w, ai_i c, ai_i k, ai_i 0, ai_i 800, u15_6, u15_7]) rfl rfl ?_
              refine w_iload (i := 4) (npc := 69) rfl rfl ?_
              refine w_const (n := 8) (npc := 71) rfl ?_
              refine w_idiv (npc := 72) rfl (by omega) (by omega) (fun z229 hz229 hz229b hz229c => ?_)
              refine w_istore (i := 6) (npc := 74) (loc' := [cr 14, ai_i w, ai_i c, ai_i k, ai_i 0, ai_i 800, ai_i z229, u15_7]) rfl rfl ?_
              refine w_iload (i := 5) (npc := 76) rfl rfl ?_
              refine w_const (n := 8) (npc := 78) rfl ?_
              refine w_idiv (npc := 79) rfl (by omega) (by omega) (fun z230 hz230 hz230b hz230c => ?_)
              refine w_istore (i := 7) (npc := 81) (loc' := [cr 14, ai_i w, ai_i c, ai_i k, ai_i 0, ai_i 800, ai_i z229, ai_i z230]) rfl rfl ?_
              refine w_iload (i := 7) (npc := 83) rfl rfl ?_
              refine w_iload (i := 6) (npc := 85) rfl rfl ?_
              refine w_isub (npc := 86) rfl (by omega) ?_
              refine w_const (n := 2) (npc := 87) rfl ?_
              refine w_icmp (c := .lt) (npc := 90) (pt := 117) rfl (fun hc232 => ?_) (fun hc232 => ?_)
              · replace hc232 : z230 - z229 < (2 : Int) := hc232
                refine w_aload (i := 0) (npc := 118) (v := cr 14) rfl rfl rfl ?_
                refine w_getf (i := 14) (ci := 1) (k := 0) (npc := 121) rfl (hI15.pl (by decide)) (hI15.T (by decide) rfl) (by decide) (hI15.ref 14 0 (p := 15) (by decide) (by decide) rfl) ?_
                refine w_iload (i := 3) (npc := 122) rfl rfl ?_
                refine w_iload (i := 4) (npc := 124) rfl rfl ?_
                refine w_ast (i := 15) (k := 1) (n := 24) (npc := 125) rfl (hI15.pl (by decide)) (hI15.T (by decide) rfl) (by decide) (by omega) cm_af1 ?_
                have hI234 := hI15.puti (i := 15) (k := (k : Int).toNat) (z := 0) (lo := 0) (hi := 65535) (by decide) rfl (by omega)
                have hF236 := cm_fr.up (i := 15) (k := (k : Int).toNat) (v := ai_i 0) hF15 (by first | omega | (simp; done) | (simp; omega) | (simp only; omega))
                generalize hE235 : cm_up Eq15 15 ((k : Int).toNat) (ai_i 0) = E233 at hI234 hF236 ⊢
                have hz237 : E233 14 2 = ai_i z226 := by rw [← hE235, cm_up_nei _ _ (by decide)]; exact hz226
                have ghz237 := gv_eq hz237
                have hz238 : E233 15 ((k : Int).toNat) = ai_i 0 := by rw [← hE235, cm_up_eq]
                have ghz238 := gv_eq hz238
                refine w_iload (i := 2) (npc := 126) rfl rfl ?_
                refine w_if (c := .eq) (npc := 129) (pt := 140) rfl (fun hc239 => ?_) (fun hc239 => ?_)
                · replace hc239 : c = (0 : Int) := hc239
                  refine w_const (n := 0) (npc := 141) rfl ?_
                  refine w_istore (i := 2) (npc := 142) (loc' := [cr 14, ai_i w, ai_i 0, ai_i k, ai_i 0, ai_i 800, ai_i z229, ai_i z230]) rfl rfl ?_
                  refine w_iinc (i := 3) (n := 1) (npc := 145) (loc' := [cr 14, ai_i w, ai_i 0, ai_i (k + 1), ai_i 0, ai_i 800, ai_i z229, ai_i z230]) rfl rfl (by omega) rfl ?_
                  refine w_goto (pt := 15) rfl ?_
                  exact ih15 (0) (k + 1) (ai_i 0) (ai_i 800) (ai_i z229) (ai_i z230) E233 (by omega) hI234 hF236 (by omega)
                · replace hc239 : ¬ (c = (0 : Int)) := hc239
                  refine w_iload (i := 4) (npc := 131) rfl rfl ?_
                  refine w_iload (i := 5) (npc := 133) rfl rfl ?_
                  refine w_icmp (c := .ne) (npc := 136) (pt := 140) rfl (fun hc241 => ?_) (fun hc241 => ?_)
                  · replace hc241 : (0 : Int) ≠ 800 := hc241
                    refine w_const (n := 0) (npc := 141) rfl ?_
                    refine w_istore (i := 2) (npc := 142) (loc' := [cr 14, ai_i w, ai_i 0, ai_i k, ai_i 0, ai_i 800, ai_i z229, ai_i z230]) rfl rfl ?_
                    refine w_iinc (i := 3) (n := 1) (npc := 145) (loc' := [cr 14, ai_i w, ai_i 0, ai_i (k + 1), ai_i 0, ai_i 800, ai_i z229, ai_i z230]) rfl rfl (by omega) rfl ?_
                    refine w_goto (pt := 15) rfl ?_
                    exact ih15 (0) (k + 1) (ai_i 0) (ai_i 800) (ai_i z229) (ai_i z230) E233 (by omega) hI234 hF236 (by omega)
                  · replace hc241 : ¬ ((0 : Int) ≠ 800) := hc241
                    refine w_const (n := 1) (npc := 137) rfl ?_
                    refine w_goto (pt := 141) rfl ?_
                    refine w_istore (i := 2) (npc := 142) (loc' := [cr 14, ai_i w, ai_i 1, ai_i k, ai_i 0, ai_i 800, ai_i z229, ai_i z230]) rfl rfl ?_
                    refine w_iinc (i := 3) (n := 1) (npc := 145) (loc' := [cr 14, ai_i w, ai_i 1, ai_i (k + 1), ai_i 0, ai_i 800, ai_i z229, ai_i z230]) rfl rfl (by omega) rfl ?_
                    refine w_goto (pt := 15) rfl ?_
                    exact ih15 (1) (k + 1) (ai_i 0) (ai_i 800) (ai_i z229) (ai_i z230) E233 (by omega) hI234 hF236 (by omega)
              · replace hc232 : ¬ (z230 - z229 < (2 : Int)) := hc232
                refine w_aload (i := 0) (npc := 91) (v := cr 14) rfl rfl rfl ?_
                refine w_getf (i := 14) (ci := 1) (k := 0) (npc := 94) rfl (hI15.pl (by decide)) (hI15.T (by decide) rfl) (by decide) (hI15.ref 14 0 (p := 15) (by decide) (by decide) rfl) ?_
                refine w_iload (i := 3) (npc := 95) rfl rfl ?_
                refine w_iload (i := 6) (npc := 97) rfl rfl ?_
                refine w_iload (i := 7) (npc := 99) rfl rfl ?_
                refine w_iadd (npc := 100) rfl (by omega) ?_
                refine w_const (n := 2) (npc := 101) rfl ?_
                refine w_idiv (npc := 102) rfl (by omega) (by omega) (fun z245 hz245 hz245b hz245c => ?_)
                refine w_const (n := 8) (npc := 104) rfl ?_
                refine w_imul (npc := 105) rfl (by omega) ?_
                refine w_iload (i := 1) (npc := 106) rfl rfl ?_
                refine w_iadd (npc := 107) rfl (by omega) ?_
                refine w_ast (i := 15) (k := 1) (n := 24) (npc := 108) rfl (hI15.pl (by decide)) (hI15.T (by decide) rfl) (by decide) (by omega) cm_af1 ?_
                have hI249 := hI15.puti (i := 15) (k := (k : Int).toNat) (z := z245 * 8 + w) (lo := 0) (hi := 65535) (by decide) rfl (by omega)
                have hF251 := cm_fr.up (i := 15) (k := (k : Int).toNat) (v := ai_i (z245 * 8 + w)) hF15 (by first | omega | (simp; done) | (simp; omega) | (simp only; omega))
                generalize hE250 : cm_up Eq15 15 ((k : Int).toNat) (ai_i (z245 * 8 + w)) = E248 at hI249 hF251 ⊢
                have hz252 : E248 14 2 = ai_i z226 := by rw [← hE250, cm_up_nei _ _ (by decide)]; exact hz226
                have ghz252 := gv_eq hz252
                have hz253 : E248 15 ((k : Int).toNat) = ai_i (z245 * 8 + w) := by rw [← hE250, cm_up_eq]
                have ghz253 := gv_eq hz253
                refine w_aload (i := 0) (npc := 109) (v := cr 14) rfl rfl rfl ?_
                refine w_iload (i := 3) (npc := 110) rfl rfl ?_
                refine w_const (n := 1) (npc := 111) rfl ?_
                refine w_iadd (npc := 112) rfl (by omega) ?_
                refine w_putf (i := 14) (ci := 1) (k := 2) (t := 0) (npc := 115) rfl (hI249.pl (by decide)) (hI249.T (by decide) rfl) (by decide) cm_fit0 ?_
                have hI256 := hI249.puti (i := 14) (k := 2) (z := k + 1) (lo := 0) (hi := 24) (by decide) rfl (by omega)
                have hF258 := cm_fr.up (i := 14) (k := 2) (v := ai_i (k + 1)) hF251 (by first | omega | (simp; done) | (simp; omega) | (simp only; omega))
                generalize hE257 : cm_up E248 14 2 (ai_i (k + 1)) = E255 at hI256 hF258 ⊢
                have hz259 : E255 15 ((k : Int).toNat) = ai_i (z245 * 8 + w) := by rw [← hE257, cm_up_nei _ _ (by decide)]; exact hz253
                have ghz259 := gv_eq hz259
                have hz260 : E255 14 2 = ai_i (k + 1) := by rw [← hE257, cm_up_eq]
                have ghz260 := gv_eq hz260
                refine w_const (n := 1) (npc := 116) rfl ?_
                exact w_zret rfl (by omega) (⟨rfl, rfl, rfl, hI256, hF258, 1, rfl, by omega⟩) (by omega) (by omega)
            · replace hc228 : ¬ (c = (0 : Int)) := hc228
              refine w_iload (i := 3) (npc := 46) rfl rfl ?_
              refine w_aload (i := 0) (npc := 47) (v := cr 14) rfl rfl rfl ?_
              obtain ⟨z261, hz261, hz261a, hz261b⟩ := hI15.int 14 3 (lo := 0) (hi := 24) (by decide) (by decide) rfl
              have ghz261 := gv_eq hz261
              refine w_getf (i := 14) (ci := 1) (k := 3) (npc := 50) rfl (hI15.pl (by decide)) (hI15.T (by decide) rfl) (by decide) hz261 ?_
              refine w_icmp (c := .ge) (npc := 53) (pt := 62) rfl (fun hc262 => ?_) (fun hc262 => ?_)
              · replace hc262 : z261 ≤ k := hc262
                refine w_const (n := 800) (npc := 65) rfl ?_
                refine w_istore (i := 5) (npc := 67) (loc' := [cr 14, ai_i w, ai_i c, ai_i k, ai_i 0, ai_i 800, u15_6, u15_7]) rfl rfl ?_
                refine w_iload (i := 4) (npc := 69) rfl rfl ?_
                refine w_const (n := 8) (npc := 71) rfl ?_
                refine w_idiv (npc := 72) rfl (by omega) (by omega) (fun z263 hz263 hz263b hz263c => ?_)
                refine w_istore (i := 6) (npc := 74) (loc' := [cr 14, ai_i w, ai_i c, ai_i k, ai_i 0, ai_i 800, ai_i z263, u15_7]) rfl rfl ?_
                refine w_iload (i := 5) (npc := 76) rfl rfl ?_
                refine w_const (n := 8) (npc := 78) rfl ?_
                refine w_idiv (npc := 79) rfl (by omega) (by omega) (fun z264 hz264 hz264b hz264c => ?_)
                refine w_istore (i := 7) (npc := 81) (loc' := [cr 14, ai_i w, ai_i c, ai_i k, ai_i 0, ai_i 800, ai_i z263, ai_i z264]) rfl rfl ?_
                refine w_iload (i := 7) (npc := 83) rfl rfl ?_
                refine w_iload (i := 6) (npc := 85) rfl rfl ?_
                refine w_isub (npc := 86) rfl (by omega) ?_
                refine w_const (n := 2) (npc := 87) rfl ?_
                refine w_icmp (c := .lt) (npc := 90) (pt := 117) rfl (fun hc266 => ?_) (fun hc266 => ?_)
                · replace hc266 : z264 - z263 < (2 : Int) := hc266
                  refine w_aload (i := 0) (npc := 118) (v := cr 14) rfl rfl rfl ?_
                  refine w_getf (i := 14) (ci := 1) (k := 0) (npc := 121) rfl (hI15.pl (by decide)) (hI15.T (by decide) rfl) (by decide) (hI15.ref 14 0 (p := 15) (by decide) (by decide) rfl) ?_
                  refine w_iload (i := 3) (npc := 122) rfl rfl ?_
                  refine w_iload (i := 4) (npc := 124) rfl rfl ?_
                  refine w_ast (i := 15) (k := 1) (n := 24) (npc := 125) rfl (hI15.pl (by decide)) (hI15.T (by decide) rfl) (by decide) (by omega) cm_af1 ?_
                  have hI268 := hI15.puti (i := 15) (k := (k : Int).toNat) (z := 0) (lo := 0) (hi := 65535) (by decide) rfl (by omega)
                  have hF270 := cm_fr.up (i := 15) (k := (k : Int).toNat) (v := ai_i 0) hF15 (by first | omega | (simp; done) | (simp; omega) | (simp only; omega))
                  generalize hE269 : cm_up Eq15 15 ((k : Int).toNat) (ai_i 0) = E267 at hI268 hF270 ⊢
                  have hz271 : E267 14 2 = ai_i z226 := by rw [← hE269, cm_up_nei _ _ (by decide)]; exact hz226
                  have ghz271 := gv_eq hz271
                  have hz272 : E267 14 3 = ai_i z261 := by rw [← hE269, cm_up_nei _ _ (by decide)]; exact hz261
                  have ghz272 := gv_eq hz272
                  have hz273 : E267 15 ((k : Int).toNat) = ai_i 0 := by rw [← hE269, cm_up_eq]
                  have ghz273 := gv_eq hz273
                  refine w_iload (i := 2) (npc := 126) rfl rfl ?_
                  refine w_if (c := .eq) (npc := 129) (pt := 140) rfl (fun hc274 => ?_) (fun hc274 => ?_)
                  · replace hc274 : c = (0 : Int) := hc274
                    refine w_const (n := 0) (npc := 141) rfl ?_
                    refine w_istore (i := 2) (npc := 142) (loc' := [cr 14, ai_i w, ai_i 0, ai_i k, ai_i 0, ai_i 800, ai_i z263, ai_i z264]) rfl rfl ?_
                    refine w_iinc (i := 3) (n := 1) (npc := 145) (loc' := [cr 14, ai_i w, ai_i 0, ai_i (k + 1), ai_i 0, ai_i 800, ai_i z263, ai_i z264]) rfl rfl (by omega) rfl ?_
                    refine w_goto (pt := 15) rfl ?_
                    exact ih15 (0) (k + 1) (ai_i 0) (ai_i 800) (ai_i z263) (ai_i z264) E267 (by omega) hI268 hF270 (by omega)
                  · replace hc274 : ¬ (c = (0 : Int)) := hc274
                    refine w_iload (i := 4) (npc := 131) rfl rfl ?_
                    refine w_iload (i := 5) (npc := 133) rfl rfl ?_
                    refine w_icmp (c := .ne) (npc := 136) (pt := 140) rfl (fun hc276 => ?_) (fun hc276 => ?_)
                    · replace hc276 : (0 : Int) ≠ 800 := hc276
                      refine w_const (n := 0) (npc := 141) rfl ?_
                      refine w_istore (i := 2) (npc := 142) (loc' := [cr 14, ai_i w, ai_i 0, ai_i k, ai_i 0, ai_i 800, ai_i z263, ai_i z264]) rfl rfl ?_
                      refine w_iinc (i := 3) (n := 1) (npc := 145) (loc' := [cr 14, ai_i w, ai_i 0, ai_i (k + 1), ai_i 0, ai_i 800, ai_i z263, ai_i z264]) rfl rfl (by omega) rfl ?_
                      refine w_goto (pt := 15) rfl ?_
                      exact ih15 (0) (k + 1) (ai_i 0) (ai_i 800) (ai_i z263) (ai_i z264) E267 (by omega) hI268 hF270 (by omega)
                    · replace hc276 : ¬ ((0 : Int) ≠ 800) := hc276
                      refine w_const (n := 1) (npc := 137) rfl ?_
                      refine w_goto (pt := 141) rfl ?_
                      refine w_istore (i := 2) (npc := 142) (loc' := [cr 14, ai_i w, ai_i 1, ai_i k, ai_i 0, ai_i 800, ai_i z263, ai_i z264]) rfl rfl ?_
                      refine w_iinc (i := 3) (n := 1) (npc := 145) (loc' := [cr 14, ai_i w, ai_i 1, ai_i (k + 1), ai_i 0, ai_i 800, ai_i z263, ai_i z264]) rfl rfl (by omega) rfl ?_
                      refine w_goto (pt := 15) rfl ?_
                      exact ih15 (1) (k + 1) (ai_i 0) (ai_i 800) (ai_i z263) (ai_i z264) E267 (by omega) hI268 hF270 (by omega)
                · replace hc266 : ¬ (z264 - z263 < (2 : Int)) := hc266
                  refine w_aload (i := 0) (npc := 91) (v := cr 14) rfl rfl rfl ?_
                  refine w_getf (i := 14) (ci := 1) (k := 0) (npc := 94) rfl (hI15.pl (by decide)) (hI15.T (by decide) rfl) (by decide) (hI15.ref 14 0 (p := 15) (by decide) (by decide) rfl) ?_
                  refine w_iload (i := 3) (npc := 95) rfl rfl ?_
                  refine w_iload (i := 6) (npc := 97) rfl rfl ?_
                  refine w_iload (i := 7) (npc := 99) rfl rfl ?_
                  refine w_iadd (npc := 100) rfl (by omega) ?_
                  refine w_const (n := 2) (npc := 101) rfl ?_
                  refine w_idiv (npc := 102) rfl (by omega) (by omega) (fun z280 hz280 hz280b hz280c => ?_)
                  refine w_const (n := 8) (npc := 104) rfl ?_
                  refine w_imul (npc := 105) rfl (by omega) ?_
                  refine w_iload (i := 1) (npc := 106) rfl rfl ?_
                  refine w_iadd (npc := 107) rfl (by omega) ?_
                  refine w_ast (i := 15) (k := 1) (n := 24) (npc := 108) rfl (hI15.pl (by decide)) (hI15.T (by decide) rfl) (by decide) (by omega) cm_af1 ?_
                  have hI284 := hI15.puti (i := 15) (k := (k : Int).toNat) (z := z280 * 8 + w) (lo := 0) (hi := 65535) (by decide) rfl (by omega)
                  have hF286 := cm_fr.up (i := 15) (k := (k : Int).toNat) (v := ai_i (z280 * 8 + w)) hF15 (by first | omega | (simp; done) | (simp; omega) | (simp only; omega))
                  generalize hE285 : cm_up Eq15 15 ((k : Int).toNat) (ai_i (z280 * 8 + w)) = E283 at hI284 hF286 ⊢
                  have hz287 : E283 14 2 = ai_i z226 := by rw [← hE285, cm_up_nei _ _ (by decide)]; exact hz226
                  have ghz287 := gv_eq hz287
                  have hz288 : E283 14 3 = ai_i z261 := by rw [← hE285, cm_up_nei _ _ (by decide)]; exact hz261
                  have ghz288 := gv_eq hz288
                  have hz289 : E283 15 ((k : Int).toNat) = ai_i (z280 * 8 + w) := by rw [← hE285, cm_up_eq]
                  have ghz289 := gv_eq hz289
                  refine w_aload (i := 0) (npc := 109) (v := cr 14) rfl rfl rfl ?_
                  refine w_iload (i := 3) (npc := 110) rfl rfl ?_
                  refine w_const (n := 1) (npc := 111) rfl ?_
                  refine w_iadd (npc := 112) rfl (by omega) ?_
                  refine w_putf (i := 14) (ci := 1) (k := 2) (t := 0) (npc := 115) rfl (hI284.pl (by decide)) (hI284.T (by decide) rfl) (by decide) cm_fit0 ?_
                  have hI292 := hI284.puti (i := 14) (k := 2) (z := k + 1) (lo := 0) (hi := 24) (by decide) rfl (by omega)
                  have hF294 := cm_fr.up (i := 14) (k := 2) (v := ai_i (k + 1)) hF286 (by first | omega | (simp; done) | (simp; omega) | (simp only; omega))
                  generalize hE293 : cm_up E283 14 2 (ai_i (k + 1)) = E291 at hI292 hF294 ⊢
                  have hz295 : E291 14 3 = ai_i z261 := by rw [← hE293, cm_up_ne _ _ (by decide)]; exact hz288
                  have ghz295 := gv_eq hz295
                  have hz296 : E291 15 ((k : Int).toNat) = ai_i (z280 * 8 + w) := by rw [← hE293, cm_up_nei _ _ (by decide)]; exact hz289
                  have ghz296 := gv_eq hz296
                  have hz297 : E291 14 2 = ai_i (k + 1) := by rw [← hE293, cm_up_eq]
                  have ghz297 := gv_eq hz297
                  refine w_const (n := 1) (npc := 116) rfl ?_
                  exact w_zret rfl (by omega) (⟨rfl, rfl, rfl, hI292, hF294, 1, rfl, by omega⟩) (by omega) (by omega)
              · replace hc262 : ¬ (z261 ≤ k) := hc262
                refine w_aload (i := 0) (npc := 54) (v := cr 14) rfl rfl rfl ?_
                refine w_getf (i := 14) (ci := 1) (k := 1) (npc := 57) rfl (hI15.pl (by decide)) (hI15.T (by decide) rfl) (by decide) (hI15.ref 14 1 (p := 16) (by decide) (by decide) rfl) ?_
                refine w_iload (i := 3) (npc := 58) rfl rfl ?_
                obtain ⟨z298, hz298, hz298a, hz298b⟩ := hI15.int 16 (k : Int).toNat (lo := 0) (hi := 65535) (by decide) (show (k : Int).toNat < 24 by omega) rfl
                have ghz298 := gv_eq hz298
                refine w_ald (i := 16) (t := 1) (n := 24) (npc := 59) rfl (hI15.pl (by decide)) (hI15.T (by decide) rfl) (by decide) rfl (by omega) hz298 ?_
                refine w_goto (pt := 65) rfl ?_
                refine w_istore (i := 5) (npc := 67) (loc' := [cr 14, ai_i w, ai_i c, ai_i k, ai_i 0, ai_i z298, u15_6, u15_7]) rfl rfl ?_
                refine w_iload (i := 4) (npc := 69) rfl rfl ?_
                refine w_const (n := 8) (npc := 71) rfl ?_
                refine w_idiv (npc := 72) rfl (by omega) (by omega) (fun z299 hz299 hz299b hz299c => ?_)
                refine w_istore (i := 6) (npc := 74) (loc' := [cr 14, ai_i w, ai_i c, ai_i k, ai_i 0, ai_i z298, ai_i z299, u15_7]) rfl rfl ?_
                refine w_iload (i := 5) (npc := 76) rfl rfl ?_
                refine w_const (n := 8) (npc := 78) rfl ?_
                refine w_idiv (npc := 79) rfl (by omega) (by omega) (fun z300 hz300 hz300b hz300c => ?_)
                refine w_istore (i := 7) (npc := 81) (loc' := [cr 14, ai_i w, ai_i c, ai_i k, ai_i 0, ai_i z298, ai_i z299, ai_i z300]) rfl rfl ?_
                refine w_iload (i := 7) (npc := 83) rfl rfl ?_
                refine w_iload (i := 6) (npc := 85) rfl rfl ?_
                refine w_isub (npc := 86) rfl (by omega) ?_
                refine w_const (n := 2) (npc := 87) rfl ?_
                refine w_icmp (c := .lt) (npc := 90) (pt := 117) rfl (fun hc302 => ?_) (fun hc302 => ?_)
                · replace hc302 : z300 - z299 < (2 : Int) := hc302
                  refine w_aload (i := 0) (npc := 118) (v := cr 14) rfl rfl rfl ?_
                  refine w_getf (i := 14) (ci := 1) (k := 0) (npc := 121) rfl (hI15.pl (by decide)) (hI15.T (by decide) rfl) (by decide) (hI15.ref 14 0 (p := 15) (by decide) (by decide) rfl) ?_
                  refine w_iload (i := 3) (npc := 122) rfl rfl ?_
                  refine w_iload (i := 4) (npc := 124) rfl rfl ?_
                  refine w_ast (i := 15) (k := 1) (n := 24) (npc := 125) rfl (hI15.pl (by decide)) (hI15.T (by decide) rfl) (by decide) (by omega) cm_af1 ?_
                  have hI304 := hI15.puti (i := 15) (k := (k : Int).toNat) (z := 0) (lo := 0) (hi := 65535) (by decide) rfl (by omega)
                  have hF306 := cm_fr.up (i := 15) (k := (k : Int).toNat) (v := ai_i 0) hF15 (by first | omega | (simp; done) | (simp; omega) | (simp only; omega))
                  generalize hE305 : cm_up Eq15 15 ((k : Int).toNat) (ai_i 0) = E303 at hI304 hF306 ⊢
                  have hz307 : E303 14 2 = ai_i z226 := by rw [← hE305, cm_up_nei _ _ (by decide)]; exact hz226
                  have ghz307 := gv_eq hz307
                  have hz308 : E303 14 3 = ai_i z261 := by rw [← hE305, cm_up_nei _ _ (by decide)]; exact hz261
                  have ghz308 := gv_eq hz308
                  have hz309 : E303 16 ((k : Int).toNat) = ai_i z298 := by rw [← hE305, cm_up_nei _ _ (by decide)]; exact hz298
                  have ghz309 := gv_eq hz309
                  have hz310 : E303 15 ((k : Int).toNat) = ai_i 0 := by rw [← hE305, cm_up_eq]
                  have ghz310 := gv_eq hz310
                  refine w_iload (i := 2) (npc := 126) rfl rfl ?_
                  refine w_if (c := .eq) (npc := 129) (pt := 140) rfl (fun hc311 => ?_) (fun hc311 => ?_)
                  · replace hc311 : c = (0 : Int) := hc311
                    refine w_const (n := 0) (npc := 141) rfl ?_
                    refine w_istore (i := 2) (npc := 142) (loc' := [cr 14, ai_i w, ai_i 0, ai_i k, ai_i 0, ai_i z298, ai_i z299, ai_i z300]) rfl rfl ?_
                    refine w_iinc (i := 3) (n := 1) (npc := 145) (loc' := [cr 14, ai_i w, ai_i 0, ai_i (k + 1), ai_i 0, ai_i z298, ai_i z299, ai_i z300]) rfl rfl (by omega) rfl ?_
                    refine w_goto (pt := 15) rfl ?_
                    exact ih15 (0) (k + 1) (ai_i 0) (ai_i z298) (ai_i z299) (ai_i z300) E303 (by omega) hI304 hF306 (by omega)
                  · replace hc311 : ¬ (c = (0 : Int)) := hc311
                    refine w_iload (i := 4) (npc := 131) rfl rfl ?_
                    refine w_iload (i := 5) (npc := 133) rfl rfl ?_
                    refine w_icmp (c := .ne) (npc := 136) (pt := 140) rfl (fun hc313 => ?_) (fun hc313 => ?_)
                    · replace hc313 : (0 : Int) ≠ z298 := hc313
                      refine w_const (n := 0) (npc := 141) rfl ?_
                      refine w_istore (i := 2) (npc := 142) (loc' := [cr 14, ai_i w, ai_i 0, ai_i k, ai_i 0, ai_i z298, ai_i z299, ai_i z300]) rfl rfl ?_
                      refine w_iinc (i := 3) (n := 1) (npc := 145) (loc' := [cr 14, ai_i w, ai_i 0, ai_i (k + 1), ai_i 0, ai_i z298, ai_i z299, ai_i z300]) rfl rfl (by omega) rfl ?_
                      refine w_goto (pt := 15) rfl ?_
                      exact ih15 (0) (k + 1) (ai_i 0) (ai_i z298) (ai_i z299) (ai_i z300) E303 (by omega) hI304 hF306 (by omega)
                    · replace hc313 : ¬ ((0 : Int) ≠ z298) := hc313
                      refine w_const (n := 1) (npc := 137) rfl ?_
                      refine w_goto (pt := 141) rfl ?_
                      refine w_istore (i := 2) (npc := 142) (loc' := [cr 14, ai_i w, ai_i 1, ai_i k, ai_i 0, ai_i z298, ai_i z299, ai_i z300]) rfl rfl ?_
                      refine w_iinc (i := 3) (n := 1) (npc := 145) (loc' := [cr 14, ai_i w, ai_i 1, ai_i (k + 1), ai_i 0, ai_i z298, ai_i z299, ai_i z300]) rfl rfl (by omega) rfl ?_
                      refine w_goto (pt := 15) rfl ?_
                      exact ih15 (1) (k + 1) (ai_i 0) (ai_i z298) (ai_i z299) (ai_i z300) E303 (by omega) hI304 hF306 (by omega)
                · replace hc302 : ¬ (z300 - z299 < (2 : Int)) := hc302
                  refine w_aload (i := 0) (npc := 91) (v := cr 14) rfl rfl rfl ?_
                  refine w_getf (i := 14) (ci := 1) (k := 0) (npc := 94) rfl (hI15.pl (by decide)) (hI15.T (by decide) rfl) (by decide) (hI15.ref 14 0 (p := 15) (by decide) (by decide) rfl) ?_
                  refine w_iload (i := 3) (npc := 95) rfl rfl ?_
                  refine w_iload (i := 6) (npc := 97) rfl rfl ?_
                  refine w_iload (i := 7) (npc := 99) rfl rfl ?_
                  refine w_iadd (npc := 100) rfl (by omega) ?_
                  refine w_const (n := 2) (npc := 101) rfl ?_
                  refine w_idiv (npc := 102) rfl (by omega) (by omega) (fun z317 hz317 hz317b hz317c => ?_)
                  refine w_const (n := 8) (npc := 104) rfl ?_
                  refine w_imul (npc := 105) rfl (by omega) ?_
                  refine w_iload (i := 1) (npc := 106) rfl rfl ?_
                  refine w_iadd (npc := 107) rfl (by omega) ?_
                  refine w_ast (i := 15) (k := 1) (n := 24) (npc := 108) rfl (hI15.pl (by decide)) (hI15.T (by decide) rfl) (by decide) (by omega) cm_af1 ?_
                  have hI321 := hI15.puti (i := 15) (k := (k : Int).toNat) (z := z317 * 8 + w) (lo := 0) (hi := 65535) (by decide) rfl (by omega)
                  have hF323 := cm_fr.up (i := 15) (k := (k : Int).toNat) (v := ai_i (z317 * 8 + w)) hF15 (by first | omega | (simp; done) | (simp; omega) | (simp only; omega))
                  generalize hE322 : cm_up Eq15 15 ((k : Int).toNat) (ai_i (z317 * 8 + w)) = E320 at hI321 hF323 ⊢
                  have hz324 : E320 14 2 = ai_i z226 := by rw [← hE322, cm_up_nei _ _ (by decide)]; exact hz226
                  have ghz324 := gv_eq hz324
                  have hz325 : E320 14 3 = ai_i z261 := by rw [← hE322, cm_up_nei _ _ (by decide)]; exact hz261
                  have ghz325 := gv_eq hz325
                  have hz326 : E320 16 ((k : Int).toNat) = ai_i z298 := by rw [← hE322, cm_up_nei _ _ (by decide)]; exact hz298
                  have ghz326 := gv_eq hz326
                  have hz327 : E320 15 ((k : Int).toNat) = ai_i (z317 * 8 + w) := by rw [← hE322, cm_up_eq]
                  have ghz327 := gv_eq hz327
                  refine w_aload (i := 0) (npc := 109) (v := cr 14) rfl rfl rfl ?_
                  refine w_iload (i := 3) (npc := 110) rfl rfl ?_
                  refine w_const (n := 1) (npc := 111) rfl ?_
                  refine w_iadd (npc := 112) rfl (by omega) ?_
                  refine w_putf (i := 14) (ci := 1) (k := 2) (t := 0) (npc := 115) rfl (hI321.pl (by decide)) (hI321.T (by decide) rfl) (by decide) cm_fit0 ?_
                  have hI330 := hI321.puti (i := 14) (k := 2) (z := k + 1) (lo := 0) (hi := 24) (by decide) rfl (by omega)
                  have hF332 := cm_fr.up (i := 14) (k := 2) (v := ai_i (k + 1)) hF323 (by first | omega | (simp; done) | (simp; omega) | (simp only; omega))
                  generalize hE331 : cm_up E320 14 2 (ai_i (k + 1)) = E329 at hI330 hF332 ⊢
                  have hz333 : E329 14 3 = ai_i z261 := by rw [← hE331, cm_up_ne _ _ (by decide)]; exact hz325
                  have ghz333 := gv_eq hz333
                  have hz334 : E329 16 ((k : Int).toNat) = ai_i z298 := by rw [← hE331, cm_up_nei _ _ (by decide)]; exact hz326
                  have ghz334 := gv_eq hz334
                  have hz335 : E329 15 ((k : Int).toNat) = ai_i (z317 * 8 + w) := by rw [← hE331, cm_up_nei _ _ (by decide)]; exact hz327
                  have ghz335 := gv_eq hz335
                  have hz336 : E329 14 2 = ai_i (k + 1) := by rw [← hE331, cm_up_eq]
                  have ghz336 := gv_eq hz336
                  refine w_const (n := 1) (npc := 116) rfl ?_
                  exact w_zret rfl (by omega) (⟨rfl, rfl, rfl, hI330, hF332, 1, rfl, by omega⟩) (by omega) (by omega)
          · replace hc227 : ¬ (z226 ≤ k) := hc227
            refine w_aload (i := 0) (npc := 30) (v := cr 14) rfl rfl rfl ?_
            refine w_getf (i := 14) (ci := 1) (k := 0) (npc := 33) rfl (hI15.pl (by decide)) (hI15.T (by decide) rfl) (by decide) (hI15.ref 14 0 (p := 15) (by decide) (by decide) rfl) ?_
            refine w_iload (i := 3) (npc := 34) rfl rfl ?_
            obtain ⟨z337, hz337, hz337a, hz337b⟩ := hI15.int 15 (k : Int).toNat (lo := 0) (hi := 65535) (by decide) (show (k : Int).toNat < 24 by omega) rfl
            have ghz337 := gv_eq hz337
            refine w_ald (i := 15) (t := 1) (n := 24) (npc := 35) rfl (hI15.pl (by decide)) (hI15.T (by decide) rfl) (by decide) rfl (by omega) hz337 ?_
            refine w_goto (pt := 39) rfl ?_
            refine w_istore (i := 4) (npc := 41) (loc' := [cr 14, ai_i w, ai_i c, ai_i k, ai_i z337, u15_5, u15_6, u15_7]) rfl rfl ?_
            refine w_iload (i := 2) (npc := 42) rfl rfl ?_
            refine w_if (c := .eq) (npc := 45) (pt := 62) rfl (fun hc338 => ?_) (fun hc338 => ?_)
            · replace hc338 : c = (0 : Int) := hc338
              refine w_const (n := 800) (npc := 65) rfl ?_
              refine w_istore (i := 5) (npc := 67) (loc' := [cr 14, ai_i w, ai_i c, ai_i k, ai_i z337, ai_i 800, u15_6, u15_7]) rfl rfl ?_
              refine w_iload (i := 4) (npc := 69) rfl rfl ?_
              refine w_const (n := 8) (npc := 71) rfl ?_
              refine w_idiv (npc := 72) rfl (by omega) (by omega) (fun z339 hz339 hz339b hz339c => ?_)
              refine w_istore (i := 6) (npc := 74) (loc' := [cr 14, ai_i w, ai_i c, ai_i k, ai_i z337, ai_i 800, ai_i z339, u15_7]) rfl rfl ?_
              refine w_iload (i := 5) (npc := 76) rfl rfl ?_
              refine w_const (n := 8) (npc := 78) rfl ?_
              refine w_idiv (npc := 79) rfl (by omega) (by omega) (fun z340 hz340 hz340b hz340c => ?_)
              refine w_istore (i := 7) (npc := 81) (loc' := [cr 14, ai_i w, ai_i c, ai_i k, ai_i z337, ai_i 800, ai_i z339, ai_i z340]) rfl rfl ?_
              refine w_iload (i := 7) (npc := 83) rfl rfl ?_
              refine w_iload (i := 6) (npc := 85) rfl rfl ?_
              refine w_isub (npc := 86) rfl (by omega) ?_
              refine w_const (n := 2) (npc := 87) rfl ?_
              refine w_icmp (c := .lt) (npc := 90) (pt := 117) rfl (fun hc342 => ?_) (fun hc342 => ?_)
              · replace hc342 : z340 - z339 < (2 : Int) := hc342
                refine w_aload (i := 0) (npc := 118) (v := cr 14) rfl rfl rfl ?_
                refine w_getf (i := 14) (ci := 1) (k := 0) (npc := 121) rfl (hI15.pl (by decide)) (hI15.T (by decide) rfl) (by decide) (hI15.ref 14 0 (p := 15) (by decide) (by decide) rfl) ?_
                refine w_iload (i := 3) (npc := 122) rfl rfl ?_
                refine w_iload (i := 4) (npc := 124) rfl rfl ?_
                refine w_ast (i := 15) (k := 1) (n := 24) (npc := 125) rfl (hI15.pl (by decide)) (hI15.T (by decide) rfl) (by decide) (by omega) cm_af1 ?_
                have hI344 := hI15.puti (i := 15) (k := (k : Int).toNat) (z := z337) (lo := 0) (hi := 65535) (by decide) rfl (by omega)
                have hF346 := cm_fr.up (i := 15) (k := (k : Int).toNat) (v := ai_i z337) hF15 (by first | omega | (simp; done) | (simp; omega) | (simp only; omega))
                generalize hE345 : cm_up Eq15 15 ((k : Int).toNat) (ai_i z337) = E343 at hI344 hF346 ⊢
                have hz347 : E343 14 2 = ai_i z226 := by rw [← hE345, cm_up_nei _ _ (by decide)]; exact hz226
                have ghz347 := gv_eq hz347
                have hz348 : E343 15 ((k : Int).toNat) = ai_i z337 := by rw [← hE345, cm_up_eq]
                have ghz348 := gv_eq hz348
                refine w_iload (i := 2) (npc := 126) rfl rfl ?_
                refine w_if (c := .eq) (npc := 129) (pt := 140) rfl (fun hc349 => ?_) (fun hc349 => ?_)
                · replace hc349 : c = (0 : Int) := hc349
                  refine w_const (n := 0) (npc := 141) rfl ?_
                  refine w_istore (i := 2) (npc := 142) (loc' := [cr 14, ai_i w, ai_i 0, ai_i k, ai_i z337, ai_i 800, ai_i z339, ai_i z340]) rfl rfl ?_
                  refine w_iinc (i := 3) (n := 1) (npc := 145) (loc' := [cr 14, ai_i w, ai_i 0, ai_i (k + 1), ai_i z337, ai_i 800, ai_i z339, ai_i z340]) rfl rfl (by omega) rfl ?_
                  refine w_goto (pt := 15) rfl ?_
                  exact ih15 (0) (k + 1) (ai_i z337) (ai_i 800) (ai_i z339) (ai_i z340) E343 (by omega) hI344 hF346 (by omega)
                · replace hc349 : ¬ (c = (0 : Int)) := hc349
                  refine w_iload (i := 4) (npc := 131) rfl rfl ?_
                  refine w_iload (i := 5) (npc := 133) rfl rfl ?_
                  refine w_icmp (c := .ne) (npc := 136) (pt := 140) rfl (fun hc351 => ?_) (fun hc351 => ?_)
                  · replace hc351 : z337 ≠ (800 : Int) := hc351
                    refine w_const (n := 0) (npc := 141) rfl ?_
                    refine w_istore (i := 2) (npc := 142) (loc' := [cr 14, ai_i w, ai_i 0, ai_i k, ai_i z337, ai_i 800, ai_i z339, ai_i z340]) rfl rfl ?_
                    refine w_iinc (i := 3) (n := 1) (npc := 145) (loc' := [cr 14, ai_i w, ai_i 0, ai_i (k + 1), ai_i z337, ai_i 800, ai_i z339, ai_i z340]) rfl rfl (by omega) rfl ?_
                    refine w_goto (pt := 15) rfl ?_
                    exact ih15 (0) (k + 1) (ai_i z337) (ai_i 800) (ai_i z339) (ai_i z340) E343 (by omega) hI344 hF346 (by omega)
                  · replace hc351 : ¬ (z337 ≠ (800 : Int)) := hc351
                    refine w_const (n := 1) (npc := 137) rfl ?_
                    refine w_goto (pt := 141) rfl ?_
                    refine w_istore (i := 2) (npc := 142) (loc' := [cr 14, ai_i w, ai_i 1, ai_i k, ai_i z337, ai_i 800, ai_i z339, ai_i z340]) rfl rfl ?_
                    refine w_iinc (i := 3) (n := 1) (npc := 145) (loc' := [cr 14, ai_i w, ai_i 1, ai_i (k + 1), ai_i z337, ai_i 800, ai_i z339, ai_i z340]) rfl rfl (by omega) rfl ?_
                    refine w_goto (pt := 15) rfl ?_
                    exact ih15 (1) (k + 1) (ai_i z337) (ai_i 800) (ai_i z339) (ai_i z340) E343 (by omega) hI344 hF346 (by omega)
              · replace hc342 : ¬ (z340 - z339 < (2 : Int)) := hc342
                refine w_aload (i := 0) (npc := 91) (v := cr 14) rfl rfl rfl ?_
                refine w_getf (i := 14) (ci := 1) (k := 0) (npc := 94) rfl (hI15.pl (by decide)) (hI15.T (by decide) rfl) (by decide) (hI15.ref 14 0 (p := 15) (by decide) (by decide) rfl) ?_
                refine w_iload (i := 3) (npc := 95) rfl rfl ?_
                refine w_iload (i := 6) (npc := 97) rfl rfl ?_
                refine w_iload (i := 7) (npc := 99) rfl rfl ?_
                refine w_iadd (npc := 100) rfl (by omega) ?_
                refine w_const (n := 2) (npc := 101) rfl ?_
                refine w_idiv (npc := 102) rfl (by omega) (by omega) (fun z355 hz355 hz355b hz355c => ?_)
                refine w_const (n := 8) (npc := 104) rfl ?_
                refine w_imul (npc := 105) rfl (by omega) ?_
                refine w_iload (i := 1) (npc := 106) rfl rfl ?_
                refine w_iadd (npc := 107) rfl (by omega) ?_
                refine w_ast (i := 15) (k := 1) (n := 24) (npc := 108) rfl (hI15.pl (by decide)) (hI15.T (by decide) rfl) (by decide) (by omega) cm_af1 ?_
                have hI359 := hI15.puti (i := 15) (k := (k : Int).toNat) (z := z355 * 8 + w) (lo := 0) (hi := 65535) (by decide) rfl (by omega)
                have hF361 := cm_fr.up (i := 15) (k := (k : Int).toNat) (v := ai_i (z355 * 8 + w)) hF15 (by first | omega | (simp; done) | (simp; omega) | (simp only; omega))
                generalize hE360 : cm_up Eq15 15 ((k : Int).toNat) (ai_i (z355 * 8 + w)) = E358 at hI359 hF361 ⊢
                have hz362 : E358 14 2 = ai_i z226 := by rw [← hE360, cm_up_nei _ _ (by decide)]; exact hz226
                have ghz362 := gv_eq hz362
                have hz363 : E358 15 ((k : Int).toNat) = ai_i (z355 * 8 + w) := by rw [← hE360, cm_up_eq]
                have ghz363 := gv_eq hz363
                refine w_aload (i := 0) (npc := 109) (v := cr 14) rfl rfl rfl ?_
                refine w_iload (i := 3) (npc := 110) rfl rfl ?_
                refine w_const (n := 1) (npc := 111) rfl ?_
                refine w_iadd (npc := 112) rfl (by omega) ?_
                refine w_putf (i := 14) (ci := 1) (k := 2) (t := 0) (npc := 115) rfl (hI359.pl (by decide)) (hI359.T (by decide) rfl) (by decide) cm_fit0 ?_
                have hI366 := hI359.puti (i := 14) (k := 2) (z := k + 1) (lo := 0) (hi := 24) (by decide) rfl (by omega)
                have hF368 := cm_fr.up (i := 14) (k := 2) (v := ai_i (k + 1)) hF361 (by first | omega | (simp; done) | (simp; omega) | (simp only; omega))
                generalize hE367 : cm_up E358 14 2 (ai_i (k + 1)) = E365 at hI366 hF368 ⊢
                have hz369 : E365 15 ((k : Int).toNat) = ai_i (z355 * 8 + w) := by rw [← hE367, cm_up_nei _ _ (by decide)]; exact hz363
                have ghz369 := gv_eq hz369
                have hz370 : E365 14 2 = ai_i (k + 1) := by rw [← hE367, cm_up_eq]
                have ghz370 := gv_eq hz370
                refine w_const (n := 1) (npc := 116) rfl ?_
                exact w_zret rfl (by omega) (⟨rfl, rfl, rfl, hI366, hF368, 1, rfl, by omega⟩) (by omega) (by omega)
            · replace hc338 : ¬ (c = (0 : Int)) := hc338
              refine w_iload (i := 3) (npc := 46) rfl rfl ?_
              refine w_aload (i := 0) (npc := 47) (v := cr 14) rfl rfl rfl ?_
              obtain ⟨z371, hz371, hz371a, hz371b⟩ := hI15.int 14 3 (lo := 0) (hi := 24) (by decide) (by decide) rfl
              have ghz371 := gv_eq hz371
              refine w_getf (i := 14) (ci := 1) (k := 3) (npc := 50) rfl (hI15.pl (by decide)) (hI15.T (by decide) rfl) (by decide) hz371 ?_
              refine w_icmp (c := .ge) (npc := 53) (pt := 62) rfl (fun hc372 => ?_) (fun hc372 => ?_)
              · replace hc372 : z371 ≤ k := hc372
                refine w_const (n := 800) (npc := 65) rfl ?_
                refine w_istore (i := 5) (npc := 67) (loc' := [cr 14, ai_i w, ai_i c, ai_i k, ai_i z337, ai_i 800, u15_6, u15_7]) rfl rfl ?_
                refine w_iload (i := 4) (npc := 69) rfl rfl ?_
                refine w_const (n := 8) (npc := 71) rfl ?_
                refine w_idiv (npc := 72) rfl (by omega) (by omega) (fun z373 hz373 hz373b hz373c => ?_)
                refine w_istore (i := 6) (npc := 74) (loc' := [cr 14, ai_i w, ai_i c, ai_i k, ai_i z337, ai_i 800, ai_i z373, u15_7]) rfl rfl ?_
                refine w_iload (i := 5) (npc := 76) rfl rfl ?_
                refine w_const (n := 8) (npc := 78) rfl ?_
                refine w_idiv (npc := 79) rfl (by omega) (by omega) (fun z374 hz374 hz374b hz374c => ?_)
                refine w_istore (i := 7) (npc := 81) (loc' := [cr 14, ai_i w, ai_i c, ai_i k, ai_i z337, ai_i 800, ai_i z373, ai_i z374]) rfl rfl ?_
                refine w_iload (i := 7) (npc := 83) rfl rfl ?_
                refine w_iload (i := 6) (npc := 85) rfl rfl ?_
                refine w_isub (npc := 86) rfl (by omega) ?_
                refine w_const (n := 2) (npc := 87) rfl ?_
                refine w_icmp (c := .lt) (npc := 90) (pt := 117) rfl (fun hc376 => ?_) (fun hc376 => ?_)
                · replace hc376 : z374 - z373 < (2 : Int) := hc376
                  refine w_aload (i := 0) (npc := 118) (v := cr 14) rfl rfl rfl ?_
                  refine w_getf (i := 14) (ci := 1) (k := 0) (npc := 121) rfl (hI15.pl (by decide)) (hI15.T (by decide) rfl) (by decide) (hI15.ref 14 0 (p := 15) (by decide) (by decide) rfl) ?_
                  refine w_iload (i := 3) (npc := 122) rfl rfl ?_
                  refine w_iload (i := 4) (npc := 124) rfl rfl ?_
                  refine w_ast (i := 15) (k := 1) (n := 24) (npc := 125) rfl (hI15.pl (by decide)) (hI15.T (by decide) rfl) (by decide) (by omega) cm_af1 ?_
                  have hI378 := hI15.puti (i := 15) (k := (k : Int).toNat) (z := z337) (lo := 0) (hi := 65535) (by decide) rfl (by omega)
                  have hF380 := cm_fr.up (i := 15) (k := (k : Int).toNat) (v := ai_i z337) hF15 (by first | omega | (simp; done) | (simp; omega) | (simp only; omega))
                  generalize hE379 : cm_up Eq15 15 ((k : Int).toNat) (ai_i z337) = E377 at hI378 hF380 ⊢
                  have hz381 : E377 14 2 = ai_i z226 := by rw [← hE379, cm_up_nei _ _ (by decide)]; exact hz226
                  have ghz381 := gv_eq hz381
                  have hz382 : E377 14 3 = ai_i z371 := by rw [← hE379, cm_up_nei _ _ (by decide)]; exact hz371
                  have ghz382 := gv_eq hz382
                  have hz383 : E377 15 ((k : Int).toNat) = ai_i z337 := by rw [← hE379, cm_up_eq]
                  have ghz383 := gv_eq hz383
                  refine w_iload (i := 2) (npc := 126) rfl rfl ?_
                  refine w_if (c := .eq) (npc := 129) (pt := 140) rfl (fun hc384 => ?_) (fun hc384 => ?_)
                  · replace hc384 : c = (0 : Int) := hc384
                    refine w_const (n := 0) (npc := 141) rfl ?_
                    refine w_istore (i := 2) (npc := 142) (loc' := [cr 14, ai_i w, ai_i 0, ai_i k, ai_i z337, ai_i 800, ai_i z373, ai_i z374]) rfl rfl ?_
                    refine w_iinc (i := 3) (n := 1) (npc := 145) (loc' := [cr 14, ai_i w, ai_i 0, ai_i (k + 1), ai_i z337, ai_i 800, ai_i z373, ai_i z374]) rfl rfl (by omega) rfl ?_
                    refine w_goto (pt := 15) rfl ?_
                    exact ih15 (0) (k + 1) (ai_i z337) (ai_i 800) (ai_i z373) (ai_i z374) E377 (by omega) hI378 hF380 (by omega)
                  · replace hc384 : ¬ (c = (0 : Int)) := hc384
                    refine w_iload (i := 4) (npc := 131) rfl rfl ?_
                    refine w_iload (i := 5) (npc := 133) rfl rfl ?_
                    refine w_icmp (c := .ne) (npc := 136) (pt := 140) rfl (fun hc386 => ?_) (fun hc386 => ?_)
                    · replace hc386 : z337 ≠ (800 : Int) := hc386
                      refine w_const (n := 0) (npc := 141) rfl ?_
                      refine w_istore (i := 2) (npc := 142) (loc' := [cr 14, ai_i w, ai_i 0, ai_i k, ai_i z337, ai_i 800, ai_i z373, ai_i z374]) rfl rfl ?_
                      refine w_iinc (i := 3) (n := 1) (npc := 145) (loc' := [cr 14, ai_i w, ai_i 0, ai_i (k + 1), ai_i z337, ai_i 800, ai_i z373, ai_i z374]) rfl rfl (by omega) rfl ?_
                      refine w_goto (pt := 15) rfl ?_
                      exact ih15 (0) (k + 1) (ai_i z337) (ai_i 800) (ai_i z373) (ai_i z374) E377 (by omega) hI378 hF380 (by omega)
                    · replace hc386 : ¬ (z337 ≠ (800 : Int)) := hc386
                      refine w_const (n := 1) (npc := 137) rfl ?_
                      refine w_goto (pt := 141) rfl ?_
                      refine w_istore (i := 2) (npc := 142) (loc' := [cr 14, ai_i w, ai_i 1, ai_i k, ai_i z337, ai_i 800, ai_i z373, ai_i z374]) rfl rfl ?_
                      refine w_iinc (i := 3) (n := 1) (npc := 145) (loc' := [cr 14, ai_i w, ai_i 1, ai_i (k + 1), ai_i z337, ai_i 800, ai_i z373, ai_i z374]) rfl rfl (by omega) rfl ?_
                      refine w_goto (pt := 15) rfl ?_
                      exact ih15 (1) (k + 1) (ai_i z337) (ai_i 800) (ai_i z373) (ai_i z374) E377 (by omega) hI378 hF380 (by omega)
                · replace hc376 : ¬ (z374 - z373 < (2 : Int)) := hc376
                  refine w_aload (i := 0) (npc := 91) (v := cr 14) rfl rfl rfl ?_
                  refine w_getf (i := 14) (ci := 1) (k := 0) (npc := 94) rfl (hI15.pl (by decide)) (hI15.T (by decide) rfl) (by decide) (hI15.ref 14 0 (p := 15) (by decide) (by decide) rfl) ?_
                  refine w_iload (i := 3) (npc := 95) rfl rfl ?_
                  refine w_iload (i := 6) (npc := 97) rfl rfl ?_
                  refine w_iload (i := 7) (npc := 99) rfl rfl ?_
                  refine w_iadd (npc := 100) rfl (by omega) ?_
                  refine w_const (n := 2) (npc := 101) rfl ?_
                  refine w_idiv (npc := 102) rfl (by omega) (by omega) (fun z390 hz390 hz390b hz390c => ?_)
                  refine w_const (n := 8) (npc := 104) rfl ?_
                  refine w_imul (npc := 105) rfl (by omega) ?_
                  refine w_iload (i := 1) (npc := 106) rfl rfl ?_
                  refine w_iadd (npc := 107) rfl (by omega) ?_
                  refine w_ast (i := 15) (k := 1) (n := 24) (npc := 108) rfl (hI15.pl (by decide)) (hI15.T (by decide) rfl) (by decide) (by omega) cm_af1 ?_
                  have hI394 := hI15.puti (i := 15) (k := (k : Int).toNat) (z := z390 * 8 + w) (lo := 0) (hi := 65535) (by decide) rfl (by omega)
                  have hF396 := cm_fr.up (i := 15) (k := (k : Int).toNat) (v := ai_i (z390 * 8 + w)) hF15 (by first | omega | (simp; done) | (simp; omega) | (simp only; omega))
                  generalize hE395 : cm_up Eq15 15 ((k : Int).toNat) (ai_i (z390 * 8 + w)) = E393 at hI394 hF396 ⊢
                  have hz397 : E393 14 2 = ai_i z226 := by rw [← hE395, cm_up_nei _ _ (by decide)]; exact hz226
                  have ghz397 := gv_eq hz397
                  have hz398 : E393 14 3 = ai_i z371 := by rw [← hE395, cm_up_nei _ _ (by decide)]; exact hz371
                  have ghz398 := gv_eq hz398
                  have hz399 : E393 15 ((k : Int).toNat) = ai_i (z390 * 8 + w) := by rw [← hE395, cm_up_eq]
                  have ghz399 := gv_eq hz399
                  refine w_aload (i := 0) (npc := 109) (v := cr 14) rfl rfl rfl ?_
                  refine w_iload (i := 3) (npc := 110) rfl rfl ?_
                  refine w_const (n := 1) (npc := 111) rfl ?_
                  refine w_iadd (npc := 112) rfl (by omega) ?_
                  refine w_putf (i := 14) (ci := 1) (k := 2) (t := 0) (npc := 115) rfl (hI394.pl (by decide)) (hI394.T (by decide) rfl) (by decide) cm_fit0 ?_
                  have hI402 := hI394.puti (i := 14) (k := 2) (z := k + 1) (lo := 0) (hi := 24) (by decide) rfl (by omega)
                  have hF404 := cm_fr.up (i := 14) (k := 2) (v := ai_i (k + 1)) hF396 (by first | omega | (simp; done) | (simp; omega) | (simp only; omega))
                  generalize hE403 : cm_up E393 14 2 (ai_i (k + 1)) = E401 at hI402 hF404 ⊢
                  have hz405 : E401 14 3 = ai_i z371 := by rw [← hE403, cm_up_ne _ _ (by decide)]; exact hz398
                  have ghz405 := gv_eq hz405
                  have hz406 : E401 15 ((k : Int).toNat) = ai_i (z390 * 8 + w) := by rw [← hE403, cm_up_nei _ _ (by decide)]; exact hz399
                  have ghz406 := gv_eq hz406
                  have hz407 : E401 14 2 = ai_i (k + 1) := by rw [← hE403, cm_up_eq]
                  have ghz407 := gv_eq hz407
                  refine w_const (n := 1) (npc := 116) rfl ?_
                  exact w_zret rfl (by omega) (⟨rfl, rfl, rfl, hI402, hF404, 1, rfl, by omega⟩) (by omega) (by omega)
              · replace hc372 : ¬ (z371 ≤ k) := hc372
                refine w_aload (i := 0) (npc := 54) (v := cr 14) rfl rfl rfl ?_
                refine w_getf (i := 14) (ci := 1) (k := 1) (npc := 57) rfl (hI15.pl (by decide)) (hI15.T (by decide) rfl) (by decide) (hI15.ref 14 1 (p := 16) (by decide) (by decide) rfl) ?_
                refine w_iload (i := 3) (npc := 58) rfl rfl ?_
                obtain ⟨z408, hz408, hz408a, hz408b⟩ := hI15.int 16 (k : Int).toNat (lo := 0) (hi := 65535) (by decide) (show (k : Int).toNat < 24 by omega) rfl
                have ghz408 := gv_eq hz408
                refine w_ald (i := 16) (t := 1) (n := 24) (npc := 59) rfl (hI15.pl (by decide)) (hI15.T (by decide) rfl) (by decide) rfl (by omega) hz408 ?_
                refine w_goto (pt := 65) rfl ?_
                refine w_istore (i := 5) (npc := 67) (loc' := [cr 14, ai_i w, ai_i c, ai_i k, ai_i z337, ai_i z408, u15_6, u15_7]) rfl rfl ?_
                refine w_iload (i := 4) (npc := 69) rfl rfl ?_
                refine w_const (n := 8) (npc := 71) rfl ?_
                refine w_idiv (npc := 72) rfl (by omega) (by omega) (fun z409 hz409 hz409b hz409c => ?_)
                refine w_istore (i := 6) (npc := 74) (loc' := [cr 14, ai_i w, ai_i c, ai_i k, ai_i z337, ai_i z408, ai_i z409, u15_7]) rfl rfl ?_
                refine w_iload (i := 5) (npc := 76) rfl rfl ?_
                refine w_const (n := 8) (npc := 78) rfl ?_
                refine w_idiv (npc := 79) rfl (by omega) (by omega) (fun z410 hz410 hz410b hz410c => ?_)
                refine w_istore (i := 7) (npc := 81) (loc' := [cr 14, ai_i w, ai_i c, ai_i k, ai_i z337, ai_i z408, ai_i z409, ai_i z410]) rfl rfl ?_
                refine w_iload (i := 7) (npc := 83) rfl rfl ?_
                refine w_iload (i := 6) (npc := 85) rfl rfl ?_
                refine w_isub (npc := 86) rfl (by omega) ?_
                refine w_const (n := 2) (npc := 87) rfl ?_
                refine w_icmp (c := .lt) (npc := 90) (pt := 117) rfl (fun hc412 => ?_) (fun hc412 => ?_)
                · replace hc412 : z410 - z409 < (2 : Int) := hc412
                  refine w_aload (i := 0) (npc := 118) (v := cr 14) rfl rfl rfl ?_
                  refine w_getf (i := 14) (ci := 1) (k := 0) (npc := 121) rfl (hI15.pl (by decide)) (hI15.T (by decide) rfl) (by decide) (hI15.ref 14 0 (p := 15) (by decide) (by decide) rfl) ?_
                  refine w_iload (i := 3) (npc := 122) rfl rfl ?_
                  refine w_iload (i := 4) (npc := 124) rfl rfl ?_
                  refine w_ast (i := 15) (k := 1) (n := 24) (npc := 125) rfl (hI15.pl (by decide)) (hI15.T (by decide) rfl) (by decide) (by omega) cm_af1 ?_
                  have hI414 := hI15.puti (i := 15) (k := (k : Int).toNat) (z := z337) (lo := 0) (hi := 65535) (by decide) rfl (by omega)
                  have hF416 := cm_fr.up (i := 15) (k := (k : Int).toNat) (v := ai_i z337) hF15 (by first | omega | (simp; done) | (simp; omega) | (simp only; omega))
                  generalize hE415 : cm_up Eq15 15 ((k : Int).toNat) (ai_i z337) = E413 at hI414 hF416 ⊢
                  have hz417 : E413 14 2 = ai_i z226 := by rw [← hE415, cm_up_nei _ _ (by decide)]; exact hz226
                  have ghz417 := gv_eq hz417
                  have hz418 : E413 14 3 = ai_i z371 := by rw [← hE415, cm_up_nei _ _ (by decide)]; exact hz371
                  have ghz418 := gv_eq hz418
                  have hz419 : E413 16 ((k : Int).toNat) = ai_i z408 := by rw [← hE415, cm_up_nei _ _ (by decide)]; exact hz408
                  have ghz419 := gv_eq hz419
                  have hz420 : E413 15 ((k : Int).toNat) = ai_i z337 := by rw [← hE415, cm_up_eq]
                  have ghz420 := gv_eq hz420
                  refine w_iload (i := 2) (npc := 126) rfl rfl ?_
                  refine w_if (c := .eq) (npc := 129) (pt := 140) rfl (fun hc421 => ?_) (fun hc421 => ?_)
                  · replace hc421 : c = (0 : Int) := hc421
                    refine w_const (n := 0) (npc := 141) rfl ?_
                    refine w_istore (i := 2) (npc := 142) (loc' := [cr 14, ai_i w, ai_i 0, ai_i k, ai_i z337, ai_i z408, ai_i z409, ai_i z410]) rfl rfl ?_
                    refine w_iinc (i := 3) (n := 1) (npc := 145) (loc' := [cr 14, ai_i w, ai_i 0, ai_i (k + 1), ai_i z337, ai_i z408, ai_i z409, ai_i z410]) rfl rfl (by omega) rfl ?_
                    refine w_goto (pt := 15) rfl ?_
                    exact ih15 (0) (k + 1) (ai_i z337) (ai_i z408) (ai_i z409) (ai_i z410) E413 (by omega) hI414 hF416 (by omega)
                  · replace hc421 : ¬ (c = (0 : Int)) := hc421
                    refine w_iload (i := 4) (npc := 131) rfl rfl ?_
                    refine w_iload (i := 5) (npc := 133) rfl rfl ?_
                    refine w_icmp (c := .ne) (npc := 136) (pt := 140) rfl (fun hc423 => ?_) (fun hc423 => ?_)
                    · replace hc423 : z337 ≠ z408 := hc423
                      refine w_const (n := 0) (npc := 141) rfl ?_
                      refine w_istore (i := 2) (npc := 142) (loc' := [cr 14, ai_i w, ai_i 0, ai_i k, ai_i z337, ai_i z408, ai_i z409, ai_i z410]) rfl rfl ?_
                      refine w_iinc (i := 3) (n := 1) (npc := 145) (loc' := [cr 14, ai_i w, ai_i 0, ai_i (k + 1), ai_i z337, ai_i z408, ai_i z409, ai_i z410]) rfl rfl (by omega) rfl ?_
                      refine w_goto (pt := 15) rfl ?_
                      exact ih15 (0) (k + 1) (ai_i z337) (ai_i z408) (ai_i z409) (ai_i z410) E413 (by omega) hI414 hF416 (by omega)
                    · replace hc423 : ¬ (z337 ≠ z408) := hc423
                      refine w_const (n := 1) (npc := 137) rfl ?_
                      refine w_goto (pt := 141) rfl ?_
                      refine w_istore (i := 2) (npc := 142) (loc' := [cr 14, ai_i w, ai_i 1, ai_i k, ai_i z337, ai_i z408, ai_i z409, ai_i z410]) rfl rfl ?_
                      refine w_iinc (i := 3) (n := 1) (npc := 145) (loc' := [cr 14, ai_i w, ai_i 1, ai_i (k + 1), ai_i z337, ai_i z408, ai_i z409, ai_i z410]) rfl rfl (by omega) rfl ?_
                      refine w_goto (pt := 15) rfl ?_
                      exact ih15 (1) (k + 1) (ai_i z337) (ai_i z408) (ai_i z409) (ai_i z410) E413 (by omega) hI414 hF416 (by omega)
                · replace hc412 : ¬ (z410 - z409 < (2 : Int)) := hc412
                  refine w_aload (i := 0) (npc := 91) (v := cr 14) rfl rfl rfl ?_
                  refine w_getf (i := 14) (ci := 1) (k := 0) (npc := 94) rfl (hI15.pl (by decide)) (hI15.T (by decide) rfl) (by decide) (hI15.ref 14 0 (p := 15) (by decide) (by decide) rfl) ?_
                  refine w_iload (i := 3) (npc := 95) rfl rfl ?_
                  refine w_iload (i := 6) (npc := 97) rfl rfl ?_
                  refine w_iload (i := 7) (npc := 99) rfl rfl ?_
                  refine w_iadd (npc := 100) rfl (by omega) ?_
                  refine w_const (n := 2) (npc := 101) rfl ?_
                  refine w_idiv (npc := 102) rfl (by omega) (by omega) (fun z427 hz427 hz427b hz427c => ?_)
                  refine w_const (n := 8) (npc := 104) rfl ?_
                  refine w_imul (npc := 105) rfl (by omega) ?_
                  refine w_iload (i := 1) (npc := 106) rfl rfl ?_
                  refine w_iadd (npc := 107) rfl (by omega) ?_
                  refine w_ast (i := 15) (k := 1) (n := 24) (npc := 108) rfl (hI15.pl (by decide)) (hI15.T (by decide) rfl) (by decide) (by omega) cm_af1 ?_
                  have hI431 := hI15.puti (i := 15) (k := (k : Int).toNat) (z := z427 * 8 + w) (lo := 0) (hi := 65535) (by decide) rfl (by omega)
                  have hF433 := cm_fr.up (i := 15) (k := (k : Int).toNat) (v := ai_i (z427 * 8 + w)) hF15 (by first | omega | (simp; done) | (simp; omega) | (simp only; omega))
                  generalize hE432 : cm_up Eq15 15 ((k : Int).toNat) (ai_i (z427 * 8 + w)) = E430 at hI431 hF433 ⊢
                  have hz434 : E430 14 2 = ai_i z226 := by rw [← hE432, cm_up_nei _ _ (by decide)]; exact hz226
                  have ghz434 := gv_eq hz434
                  have hz435 : E430 14 3 = ai_i z371 := by rw [← hE432, cm_up_nei _ _ (by decide)]; exact hz371
                  have ghz435 := gv_eq hz435
                  have hz436 : E430 16 ((k : Int).toNat) = ai_i z408 := by rw [← hE432, cm_up_nei _ _ (by decide)]; exact hz408
                  have ghz436 := gv_eq hz436
                  have hz437 : E430 15 ((k : Int).toNat) = ai_i (z427 * 8 + w) := by rw [← hE432, cm_up_eq]
                  have ghz437 := gv_eq hz437
                  refine w_aload (i := 0) (npc := 109) (v := cr 14) rfl rfl rfl ?_
                  refine w_iload (i := 3) (npc := 110) rfl rfl ?_
                  refine w_const (n := 1) (npc := 111) rfl ?_
                  refine w_iadd (npc := 112) rfl (by omega) ?_
                  refine w_putf (i := 14) (ci := 1) (k := 2) (t := 0) (npc := 115) rfl (hI431.pl (by decide)) (hI431.T (by decide) rfl) (by decide) cm_fit0 ?_
                  have hI440 := hI431.puti (i := 14) (k := 2) (z := k + 1) (lo := 0) (hi := 24) (by decide) rfl (by omega)
                  have hF442 := cm_fr.up (i := 14) (k := 2) (v := ai_i (k + 1)) hF433 (by first | omega | (simp; done) | (simp; omega) | (simp only; omega))
                  generalize hE441 : cm_up E430 14 2 (ai_i (k + 1)) = E439 at hI440 hF442 ⊢
                  have hz443 : E439 14 3 = ai_i z371 := by rw [← hE441, cm_up_ne _ _ (by decide)]; exact hz435
                  have ghz443 := gv_eq hz443
                  have hz444 : E439 16 ((k : Int).toNat) = ai_i z408 := by rw [← hE441, cm_up_nei _ _ (by decide)]; exact hz436
                  have ghz444 := gv_eq hz444
                  have hz445 : E439 15 ((k : Int).toNat) = ai_i (z427 * 8 + w) := by rw [← hE441, cm_up_nei _ _ (by decide)]; exact hz437
                  have ghz445 := gv_eq hz445
                  have hz446 : E439 14 2 = ai_i (k + 1) := by rw [← hE441, cm_up_eq]
                  have ghz446 := gv_eq hz446
                  refine w_const (n := 1) (npc := 116) rfl ?_
                  exact w_zret rfl (by omega) (⟨rfl, rfl, rfl, hI440, hF442, 1, rfl, by omega⟩) (by omega) (by omega)
    exact loop15 _ (1) (0) (ai_un) (ai_un) (ai_un) (ai_un) E (Nat.lt_succ_self _) hI hF (by omega)
