set_option maxRecDepth 16384 in
theorem ct_ty_solve {sl : Int × Int} {x : ai_E} {d : Nat} {T : cm_T} {E : cm_E} {nx : Nat}  (hI : cs_I T E nx) : cm_ct (ai_ev sl (d + 11)) x 101 [cr 23] T E nx 0 0 (fun rk rv T' E' nx' => rk = 0 ∧ T = T' ∧ nx = nx' ∧ cs_I T E' nx ∧ cm_fr (fun i k => (28 ≤ i ∧ i ≤ 40) ∨ (i = 23 ∧ (k = 10 ∨ k = 11 ∨ k = 12))) E E' ∧ (True)) := by
  refine cm_body (M := ai_m101) rfl rfl (fun kc ks => ?_)
  show cm_wp (ai_find ai_c101 sl) (ai_ev sl (d + 10)) x (kc + 0) (ks + 0) _ 0 [cr 23] [] T E nx kc ks
  have hF : cm_fr (fun i k => (28 ≤ i ∧ i ≤ 40) ∨ (i = 23 ∧ (k = 10 ∨ k = 11 ∨ k = 12))) E E := fun _ _ _ => rfl
  refine w_aload (i := 0) (npc := 1) (v := cr 23) rfl rfl rfl ?_
  obtain ⟨z1, hz1, hz1a, hz1b⟩ := hI.int 23 12 (lo := 0) (hi := 1) (by decide) (by decide) rfl
  have ghz1 := gv_eq hz1
  refine w_getf (i := 23) (ci := 5) (k := 12) (npc := 4) rfl (hI.pl (by decide)) (hI.T (by decide) rfl) (by decide) hz1 ?_
  refine w_if (c := .ne) (npc := 7) (pt := 34) rfl (fun hc2 => ?_) (fun hc2 => ?_)
  · replace hc2 : z1 ≠ (0 : Int) := hc2
    exact w_vret rfl (⟨rfl, rfl, rfl, hI, hF, trivial⟩) (by omega) (by omega)
  · replace hc2 : ¬ (z1 ≠ (0 : Int)) := hc2
    refine w_aload (i := 0) (npc := 8) (v := cr 23) rfl rfl rfl ?_
    refine w_const (n := 0) (npc := 9) rfl ?_
    refine w_putf (i := 23) (ci := 5) (k := 10) (t := 0) (npc := 12) rfl (hI.pl (by decide)) (hI.T (by decide) rfl) (by decide) cm_fit0 ?_
    have hI4 := hI.puti (i := 23) (k := 10) (z := 0) (lo := (-2147483648)) (hi := 2147483647) (by decide) rfl (by omega)
    have hF6 := cm_fr.up (i := 23) (k := 10) (v := ai_i 0) hF (by first | omega | (simp; done) | (simp; omega) | (simp only; omega))
    generalize hE5 : cm_up E 23 10 (ai_i 0) = E3 at hI4 hF6 ⊢
    have hz7 : E3 23 12 = ai_i z1 := by rw [← hE5, cm_up_ne _ _ (by decide)]; exact hz1
    have ghz7 := gv_eq hz7
    have hz8 : E3 23 10 = ai_i 0 := by rw [← hE5, cm_up_eq]
    have ghz8 := gv_eq hz8
    refine w_aload (i := 0) (npc := 13) (v := cr 23) rfl rfl rfl ?_
    refine w_const (n := 0) (npc := 14) rfl ?_
    refine w_putf (i := 23) (ci := 5) (k := 11) (t := 0) (npc := 17) rfl (hI4.pl (by decide)) (hI4.T (by decide) rfl) (by decide) cm_fit0 ?_
    have hI10 := hI4.puti (i := 23) (k := 11) (z := 0) (lo := (-2147483648)) (hi := 2147483647) (by decide) rfl (by omega)
    have hF12 := cm_fr.up (i := 23) (k := 11) (v := ai_i 0) hF6 (by first | omega | (simp; done) | (simp; omega) | (simp only; omega))
    generalize hE11 : cm_up E3 23 11 (ai_i 0) = E9 at hI10 hF12 ⊢
    have hz13 : E9 23 12 = ai_i z1 := by rw [← hE11, cm_up_ne _ _ (by decide)]; exact hz7
    have ghz13 := gv_eq hz13
    have hz14 : E9 23 10 = ai_i 0 := by rw [← hE11, cm_up_ne _ _ (by decide)]; exact hz8
    have ghz14 := gv_eq hz14
    have hz15 : E9 23 11 = ai_i 0 := by rw [← hE11, cm_up_eq]
    have ghz15 := gv_eq hz15
    refine w_aload (i := 0) (npc := 18) (v := cr 23) rfl rfl rfl ?_
    refine w_getf (i := 23) (ci := 5) (k := 7) (npc := 21) rfl (hI10.pl (by decide)) (hI10.T (by decide) rfl) (by decide) (hI10.ref 23 7 (p := 40) (by decide) (by decide) rfl) ?_
    refine w_const (n := 0) (npc := 22) rfl ?_
    refine w_const (n := 0) (npc := 23) rfl ?_
    refine w_ast (i := 40) (k := 1) (n := 9) (npc := 24) rfl (hI10.pl (by decide)) (hI10.T (by decide) rfl) (by decide) (by omega) cm_af1 ?_
    have hI17 := hI10.puti (i := 40) (k := (0 : Int).toNat) (z := 0) (lo := 0) (hi := 8) (by decide) rfl (by omega)
    have hF19 := cm_fr.up (i := 40) (k := (0 : Int).toNat) (v := ai_i 0) hF12 (by first | omega | (simp; done) | (simp; omega) | (simp only; omega))
    generalize hE18 : cm_up E9 40 ((0 : Int).toNat) (ai_i 0) = E16 at hI17 hF19 ⊢
    have hz20 : E16 23 12 = ai_i z1 := by rw [← hE18, cm_up_nei _ _ (by decide)]; exact hz13
    have ghz20 := gv_eq hz20
    have hz21 : E16 23 10 = ai_i 0 := by rw [← hE18, cm_up_nei _ _ (by decide)]; exact hz14
    have ghz21 := gv_eq hz21
    have hz22 : E16 23 11 = ai_i 0 := by rw [← hE18, cm_up_nei _ _ (by decide)]; exact hz15
    have ghz22 := gv_eq hz22
    have hz23 : E16 40 ((0 : Int).toNat) = ai_i 0 := by rw [← hE18, cm_up_eq]
    have ghz23 := gv_eq hz23
    refine w_aload (i := 0) (npc := 25) (v := cr 23) rfl rfl rfl ?_
    refine w_const (n := 0) (npc := 26) rfl ?_
    refine w_virt (ci := 5) (i := 23) (npc := 29) (a := [cr 23, ai_i 0]) (rest := []) rfl rfl (hI17.pl (by decide)) (hI17.T (by decide) rfl) rfl rfl rfl rfl (ct_ty_walk (sl := sl) (x := x) (d := d + 0) (0) hI17 (by omega)) (Or.inl rfl) (fun k9 v9 T25 E25 nx25 kc25 ks25 hq24 hk25 hv25 => ?_)
    obtain ⟨rfl, rfl, rfl, hI27, hG28, hz26⟩ := hq24
    obtain rfl : kc = kc25 := by omega
    obtain rfl : ks = ks25 := by omega
    have hF30 := cm_fr.trans hF19 hG28 (by intro i k h; (try simp only at h); (try simp only); omega)
    have hz31 : E25 23 12 = ai_i z1 := (hG28 23 12 (by first | omega | (simp; done) | (simp; omega) | (simp only; omega))).trans hz20
    have ghz31 := gv_eq hz31
    refine Or.inl ⟨rfl, ?_⟩
    refine w_aload (i := 0) (npc := 30) (v := cr 23) rfl rfl rfl ?_
    refine w_const (n := 1) (npc := 31) rfl ?_
    refine w_putf (i := 23) (ci := 5) (k := 12) (t := 1) (npc := 34) rfl (hI27.pl (by decide)) (hI27.T (by decide) rfl) (by decide) (cm_fit1 (by omega)) ?_
    have hI33 := hI27.puti (i := 23) (k := 12) (z := 1) (lo := 0) (hi := 1) (by decide) rfl (by omega)
    have hF35 := cm_fr.up (i := 23) (k := 12) (v := ai_i 1) hF30 (by first | omega | (simp; done) | (simp; omega) | (simp only; omega))
    generalize hE34 : cm_up E25 23 12 (ai_i 1) = E32 at hI33 hF35 ⊢
    have hz36 : E32 23 12 = ai_i 1 := by rw [← hE34, cm_up_eq]
    have ghz36 := gv_eq hz36
    exact w_vret rfl (⟨rfl, rfl, rfl, hI33, hF35, trivial⟩) (by omega) (by omega)
set_option maxRecDepth 16384 in
theorem ct_pk_finish {sl : Int × Int} {x : ai_E} {d : Nat} {T : cm_T} {E : cm_E} {nx : Nat}  (hI : cs_I T E nx) (hN : hn E) (hp0 : nx ≤ 1000) (hp1 : 3 ≤ gv E 17 1 ∧ gv E 17 1 ≤ 398) (hp2 : gv E 18 1 ≤ 4 ∧ 1 ≤ gv E 18 2 ∧ gv E 18 2 ≤ 60) : cm_ct (ai_ev sl (d + 3)) x 63 [cr 17] T E nx 2 401 (fun rk rv T' E' nx' => rk = 1 ∧ nx ≤ nx' ∧ nx' ≤ nx + 2 ∧ cs_I T' E' nx' ∧ cm_fr (fun i k => (i = 17 ∧ k = 1) ∨ (i = 18 ∧ 3 ≤ k) ∨ 105 ≤ i) E E' ∧ hn E' ∧ ∃ q : Nat, rv = cr q ∧ cs_st T' E' nx' q ∧ (True)) := by
  refine cm_body (M := ai_m63) rfl rfl (fun kc ks => ?_)
  show cm_wp (ai_find ai_c63 sl) (ai_ev sl (d + 2)) x (kc + 2) (ks + 401) _ 0 [cr 17, ai_un, ai_un] [] T E nx kc ks
  have hF : cm_fr (fun i k => (i = 17 ∧ k = 1) ∨ (i = 18 ∧ 3 ≤ k) ∨ 105 ≤ i) E E := fun _ _ _ => rfl
  refine w_const (n := 0) (npc := 1) rfl ?_
  refine w_istore (i := 1) (npc := 2) (loc' := [cr 17, ai_i 0, ai_un]) rfl rfl ?_
  refine w_const (n := 0) (npc := 3) rfl ?_
  refine w_istore (i := 2) (npc := 4) (loc' := [cr 17, ai_i 0, ai_i 0]) rfl rfl ?_
  have loop4 : ∀ (nf : Nat) (s : Int) (i : Int), ((400 - i).toNat) < nf → (0 ≤ i ∧ i ≤ 400 ∧ 0 ≤ s ∧ s ≤ 255 * i) → cm_wp (ai_find ai_c63 sl) (ai_ev sl (d + 2)) x (kc + 2) (ks + 401) (fun rk rv T' E' nx' => rk = 1 ∧ nx ≤ nx' ∧ nx' ≤ nx + 2 ∧ cs_I T' E' nx' ∧ cm_fr (fun i k => (i = 17 ∧ k = 1) ∨ (i = 18 ∧ 3 ≤ k) ∨ 105 ≤ i) E E' ∧ hn E' ∧ ∃ q : Nat, rv = cr q ∧ cs_st T' E' nx' q ∧ (True)) 4 [cr 17, ai_i s, ai_i i] [] T E nx kc ks := by
    intro nf
    induction nf with
    | zero => intro s i hm; exact absurd hm (Nat.not_lt_zero _)
    | succ nf4 ih =>
      intro s i hm4 hv4
      have ih4 := ih; clear ih
      refine w_iload (i := 2) (npc := 5) rfl rfl ?_
      refine w_aload (i := 0) (npc := 6) (v := cr 17) rfl rfl rfl ?_
      obtain ⟨z1, hz1, hz1a, hz1b⟩ := hI.int 17 1 (lo := 0) (hi := 400) (by decide) (by decide) rfl
      have ghz1 := gv_eq hz1
      refine w_getf (i := 17) (ci := 2) (k := 1) (npc := 9) rfl (hI.pl (by decide)) (hI.T (by decide) rfl) (by decide) hz1 ?_
      refine w_icmp (c := .ge) (npc := 12) (pt := 27) rfl (fun hc2 => ?_) (fun hc2 => ?_)
      · replace hc2 : z1 ≤ i := hc2
        refine w_aload (i := 0) (npc := 28) (v := cr 17) rfl rfl rfl ?_
        refine w_iload (i := 1) (npc := 29) rfl rfl ?_
        refine w_virt (ci := 2) (i := 17) (npc := 32) (a := [cr 17, ai_i s]) (rest := []) rfl rfl (hI.pl (by decide)) (hI.T (by decide) rfl) rfl rfl rfl rfl (ct_pk_put (sl := sl) (x := x) (d := d + 1) (s) hI) (Or.inl rfl) (fun k9 v9 T4 E4 nx4 kc4 ks4 hq3 hk4 hv4 => ?_)
        obtain ⟨rfl, rfl, rfl, hI6, hG7, hz5⟩ := hq3
        obtain rfl : kc = kc4 := by omega
        obtain rfl : ks = ks4 := by omega
        have hF9 := cm_fr.trans hF hG7 (by intro i k h; (try simp only at h); (try simp only); omega)
        have hN10 := hN.fr hG7 (by intro i k h; (try simp only at h); omega)
        refine Or.inl ⟨rfl, ?_⟩
        obtain ⟨z11, hz11, hz11a, hz11b⟩ := hI6.int 17 1 (lo := 0) (hi := 400) (by decide) (by decide) rfl
        have ghz11 := gv_eq hz11
        have h105u12 := hI6.1
        refine w_new (ci := 4) (npc := 35) rfl (by omega) ?_
        obtain ⟨Tu12, hTu12⟩ : ∃ t : cm_T, t = (fun i => if i = nx then (0, 4) else T i) := ⟨_, rfl⟩
        rw [← hTu12]
        obtain ⟨Eu12, hEu12⟩ : ∃ t : cm_E, t = (fun i k => if i = nx then ai_nth ai_un (ai_fld 4) k else E4 i k) := ⟨_, rfl⟩
        rw [← hEu12]
        have hTou12 : ∀ i, i < nx → Tu12 i = T i := fun i hi => by rw [hTu12]; show (if i = nx then _ else _) = _; rw [if_neg (by omega)]
        have hTnu12 : Tu12 nx = (0, 4) := by rw [hTu12]; show (if nx = nx then _ else _) = _; rw [if_pos rfl]
        have hEou12 : ∀ i k, i < nx → Eu12 i k = E4 i k := fun i k hi => by rw [hEu12]; show (if i = nx then _ else _) = _; rw [if_neg (by omega)]
        have hIu12 := hI6.mv (nx' := nx + 1) (by omega) hTou12 hEou12
        have hfnu12 : cm_fn 4 = 1 := rfl
        have hz13 : Eu12 17 1 = ai_i z11 := (hEou12 _ _ (by omega)).trans hz11
        have ghz13 := gv_eq hz13
        refine w_dup (npc := 36) rfl rfl ?_
        refine w_aload (i := 0) (npc := 37) (v := cr 17) rfl rfl rfl ?_
        refine w_getf (i := 17) (ci := 2) (k := 0) (npc := 40) rfl (hIu12.pl (by decide)) (hIu12.T (by decide) rfl) (by decide) (hIu12.ref 17 0 (p := 18) (by decide) (by decide) rfl) ?_
        refine w_aload (i := 0) (npc := 41) (v := cr 17) rfl rfl rfl ?_
        refine w_getf (i := 17) (ci := 2) (k := 1) (npc := 44) rfl (hIu12.pl (by decide)) (hIu12.T (by decide) rfl) (by decide) hz13 ?_
        refine w_virt (ci := 4) (i := nx) (npc := 47) (a := [cr nx, cr 18, ai_i z11]) (rest := [cr nx]) rfl rfl (by omega) hTnu12 rfl rfl rfl rfl (ct_sp_init (sl := sl) (x := x) (d := d + 0) (z11) (c := 18) (q := nx) (by omega) hIu12 (by omega) (by omega) hTnu12 (by omega)) (Or.inr (fun _ _ _ _ _ hq => by have h1 := hq.1; omega)) (fun k9 v9 Tv14 Ev14 nxv14 kcv14 ksv14 hqv14 hkv14 hvv14 => ?_)
        obtain ⟨rfl, hnv14, hTv14, hrv14, hev14, hk9v14⟩ := hqv14
        have hmv14 := st_new (c := 18) hI6 (by omega) (by omega) (by omega) hTu12 hTv14 hrv14 (fun i k hi => (hev14 i k (by omega) (by omega)).trans (hEou12 i k hi)) (fun k hk => (hk9v14 k hk).trans (hEou12 _ _ (by omega))) (by have e1 := gv_fr hF9 (i := 18) (k := 1) (by omega); have e2 := gv_fr hF9 (i := 18) (k := 2) (by omega); omega)
        have hEov14 : ∀ i k, i < nx → Ev14 i k = E4 i k := fun i k hi => (hev14 i k (by omega) (by omega)).trans (hEou12 i k hi)
        obtain ⟨hIv14, hsv14⟩ := hmv14
        have hFv14 : cm_fr (fun i k => (i = 17 ∧ k = 1) ∨ (i = 18 ∧ 3 ≤ k) ∨ 105 ≤ i) E Ev14 := fun i k hk => by
          (try simp only at hk)
          rw [hEov14 i k (by omega)]; exact hF9 i k hk
        have hNv14 : hn Ev14 := hN10.fr (P := fun i _ => nx ≤ i) (fun i k hk => hEov14 i k (by omega)) (by intro i k h; (try simp only at h); omega)
        have hz15 : Ev14 17 1 = ai_i z11 := (hEov14 _ _ (by omega)).trans hz11
        have ghz15 := gv_eq hz15
        refine Or.inl ⟨rfl, ?_⟩
        exact w_aret rfl (Or.inr ⟨_, rfl⟩) (⟨rfl, by omega, by omega, hIv14, hFv14, hNv14, nx, rfl, hsv14, trivial⟩) (by omega) (by omega)
      · replace hc2 : ¬ (z1 ≤ i) := hc2
        refine w_iload (i := 1) (npc := 13) rfl rfl ?_
        refine w_aload (i := 0) (npc := 14) (v := cr 17) rfl rfl rfl ?_
        refine w_getf (i := 17) (ci := 2) (k := 0) (npc := 17) rfl (hI.pl (by decide)) (hI.T (by decide) rfl) (by decide) (hI.ref 17 0 (p := 18) (by decide) (by decide) rfl) ?_
        refine w_iload (i := 2) (npc := 18) rfl rfl ?_
        obtain ⟨z16, hz16, hz16a, hz16b⟩ := hI.int 18 (i : Int).toNat (lo := 0) (hi := 255) (by decide) (show (i : Int).toNat < 400 by omega) rfl
        have ghz16 := gv_eq hz16
        refine w_ald (i := 18) (t := 1) (n := 400) (npc := 19) rfl (hI.pl (by decide)) (hI.T (by decide) rfl) (by decide) rfl (by omega) hz16 ?_
        refine w_iadd (npc := 20) rfl (by omega) ?_
        refine w_istore (i := 1) (npc := 21) (loc' := [cr 17, ai_i (s + z16), ai_i i]) rfl rfl ?_
        refine w_iinc (i := 2) (n := 1) (npc := 24) (loc' := [cr 17, ai_i (s + z16), ai_i (i + 1)]) rfl rfl (by omega) rfl ?_
        refine w_goto (pt := 4) rfl ?_
        exact ih4 (s + z16) (i + 1) (by omega) (by omega)
  exact loop4 _ (0) (0) (Nat.lt_succ_self _) (by omega)
set_option maxRecDepth 16384 in
theorem ct_c_perform {sl : Int × Int} {x : ai_E} {d : Nat} {T : cm_T} {E : cm_E} {nx : Nat} {b : Nat} (hb_b : 41 ≤ b ∧ b ≤ 77 ∧ b % 4 = 1) (hI : cs_I T E nx) (hN : hn E) (hp0 : nx ≤ 1000) (hp1 : 3 ≤ gv E 17 1 ∧ gv E 17 1 ≤ 398) (hp2 : gv E 18 1 ≤ 4 ∧ 1 ≤ gv E 18 2 ∧ gv E 18 2 ≤ 60) : cm_ct (ai_ev sl (d + 6)) x 26 [cr 0, cr b] T E nx 2 401 (fun rk rv T' E' nx' => rk = 1 ∧ nx ≤ nx' ∧ nx' ≤ nx + 2 ∧ cs_I T' E' nx' ∧ cm_fr (fun i k => (b ≤ i ∧ i ≤ b + 3) ∨ (i = 17 ∧ k = 1) ∨ i = 18 ∨ (i = 0 ∧ k = 13) ∨ 105 ≤ i) E E' ∧ hn E' ∧ ∃ z : Int, rv = ai_i z ∧ (True)) := by
  refine cm_body (M := ai_m26) rfl rfl (fun kc ks => ?_)
  show cm_wp (ai_find ai_c26 sl) (ai_ev sl (d + 5)) x (kc + 2) (ks + 401) _ 0 [cr 0, cr b, ai_un] [] T E nx kc ks
  have hF : cm_fr (fun i k => (b ≤ i ∧ i ≤ b + 3) ∨ (i = 17 ∧ k = 1) ∨ i = 18 ∨ (i = 0 ∧ k = 13) ∨ 105 ≤ i) E E := fun _ _ _ => rfl
  refine w_aload (i := 0) (npc := 1) (v := cr 0) rfl rfl rfl ?_
  refine w_getf (i := 0) (ci := 7) (k := 7) (npc := 4) rfl (hI.pl (by decide)) (hI.T (by decide) rfl) (by decide) (hI.ref 0 7 (p := 17) (by decide) (by decide) rfl) ?_
  refine w_virt (ci := 2) (i := 17) (npc := 7) (a := [cr 17]) (rest := []) rfl rfl (hI.pl (by decide)) (hI.T (by decide) rfl) rfl rfl rfl rfl (ct_pk_finish (sl := sl) (x := x) (d := d + 2)  hI hN (by omega) (by omega) (by omega)) (Or.inl rfl) (fun k9 v9 T2 E2 nx2 kc2 ks2 hq1 hk2 hv2 => ?_)
  obtain ⟨rfl, hnxz3, hnyz3, hI4, hG5, hN6, q7, rfl, hs8, hz3⟩ := hq1
  have hF9 := cm_fr.trans hF hG5 (by intro i k h; (try simp only at h); (try simp only); omega)
  refine Or.inr (Or.inl ⟨rfl, ?_⟩)
  refine w_astore (i := 2) (npc := 8) (loc' := [cr 0, cr b, cr q7]) rfl rfl rfl ?_
  refine w_aload (i := 1) (npc := 9) (v := cr b) rfl rfl rfl ?_
  refine w_aload (i := 2) (npc := 10) (v := cr q7) rfl rfl rfl ?_
  refine w_virt (ci := 3) (i := b) (npc := 13) (a := [cr b, cr q7]) (rest := []) rfl rfl (hI4.pl (by omega)) (hI4.pgT0 hb_b) rfl rfl rfl rfl (ct_pg_have (sl := sl) (x := x) (d := d + 2)  (b := b) hb_b hs8 hI4 hN6) (Or.inl rfl) (fun k9 v9 T11 E11 nx11 kc11 ks11 hq10 hk11 hv11 => ?_)
  obtain ⟨rfl, rfl, rfl, hI13, hG14, hN15, hz12⟩ := hq10
  obtain rfl : kc2 = kc11 := by omega
  obtain rfl : ks2 = ks11 := by omega
  have hF16 := cm_fr.trans hF9 hG14 (by intro i k h; (try simp only at h); (try simp only); omega)
  have hs17 := hs8.fr hG14 (by intro i k h; (try simp only at h); omega)
  refine Or.inl ⟨rfl, ?_⟩
  refine w_aload (i := 1) (npc := 14) (v := cr b) rfl rfl rfl ?_
  refine w_virt (ci := 3) (i := b) (npc := 17) (a := [cr b]) (rest := []) rfl rfl (hI13.pl (by omega)) (hI13.pgT0 hb_b) rfl rfl rfl rfl (ct_pg_settle (sl := sl) (x := x) (d := d + 0)  (b := b) hb_b hI13 hN15) (Or.inl rfl) (fun k9 v9 T19 E19 nx19 kc19 ks19 hq18 hk19 hv19 => ?_)
  obtain ⟨rfl, rfl, rfl, hI21, hG22, hN23, hz20⟩ := hq18
  obtain rfl : kc2 = kc19 := by omega
  obtain rfl : ks2 = ks19 := by omega
  have hF24 := cm_fr.trans hF16 hG22 (by intro i k h; (try simp only at h); (try simp only); omega)
  have hs25 := hs17.fr hG22 (by intro i k h; (try simp only at h); omega)
  refine Or.inl ⟨rfl, ?_⟩
  refine w_aload (i := 0) (npc := 18) (v := cr 0) rfl rfl rfl ?_
  refine w_const (n := (-1)) (npc := 19) rfl ?_
  refine w_putf (i := 0) (ci := 7) (k := 13) (t := 0) (npc := 22) rfl (hI21.pl (by decide)) (hI21.T (by decide) rfl) (by decide) cm_fit0 ?_
  have hI27 := hI21.puti (i := 0) (k := 13) (z := (-1)) (lo := (-1)) (hi := 4) (by decide) rfl (by omega)
  have hF29 := cm_fr.up (i := 0) (k := 13) (v := ai_i ((-1))) hF24 (by first | omega | (simp; done) | (simp; omega) | (simp only; omega))
  have hN30 := hn.wr (i := 0) (k := 13) (v := ai_i ((-1))) hN23 (by omega)
  have hs31 := hs25.up (i := 0) (k := 13) (v := ai_i ((-1))) (by decide)
  generalize hE28 : cm_up E19 0 13 (ai_i ((-1))) = E26 at hI27 hF29 hN30 hs31 ⊢
  have hz32 : E26 0 13 = ai_i ((-1)) := by rw [← hE28, cm_up_eq]
  have ghz32 := gv_eq hz32
  refine w_aload (i := 2) (npc := 23) (v := cr q7) rfl rfl rfl ?_
  refine w_virt (ci := 4) (i := q7) (npc := 26) (a := [cr q7]) (rest := []) rfl rfl hs31.lt hs31.T0 rfl rfl rfl rfl (ct_sp_number (sl := sl) (x := x) (d := d + 3)  hs31) (Or.inl rfl) (fun k9 v9 T34 E34 nx34 kc34 ks34 hq33 hk34 hv34 => ?_)
  obtain ⟨rfl, rfl, rfl, rfl, z35, rfl, hz35⟩ := hq33
  obtain rfl : kc2 = kc34 := by omega
  obtain rfl : ks2 = ks34 := by omega
  refine Or.inr (Or.inl ⟨rfl, ?_⟩)
  exact w_iret rfl (⟨rfl, by omega, by omega, hI27, hF29, hN30, z35, rfl, trivial⟩) (by omega) (by omega)
set_option maxRecDepth 16384 in
theorem ct_c_pageAt {sl : Int × Int} {x : ai_E} {d : Nat} {T : cm_T} {E : cm_E} {nx : Nat} (p : Int)  (hI : cs_I T E nx) : cm_ct (ai_ev sl (d + 1)) x 25 [cr 0, ai_i p] T E nx 1 6 (fun rk rv T' E' nx' => (rk = 2 ∧ T = T' ∧ E = E' ∧ nx = nx' ∧ (¬ (0 ≤ p ∧ p < gv E 0 10))) ∨ (rk = 1 ∧ T = T' ∧ E = E' ∧ nx = nx' ∧ ∃ b : Nat, rv = cr b ∧ (b = 41 + 8 * p.toNat ∧ (0 ≤ p ∧ p < gv E 0 10) ∧ gv E 0 10 ≤ 5))) := by
  refine cm_body (M := ai_m25) rfl rfl (fun kc ks => ?_)
  show cm_wp (ai_find ai_c25 sl) (ai_ev sl (d + 0)) x (kc + 1) (ks + 6) _ 0 [cr 0, ai_i p] [] T E nx kc ks
  refine w_iload (i := 1) (npc := 1) rfl rfl ?_
  refine w_if (c := .lt) (npc := 4) (pt := 12) rfl (fun hc1 => ?_) (fun hc1 => ?_)
  · replace hc1 : p < (0 : Int) := hc1
    exact w_throw (k := 2) rfl (Or.inl ⟨rfl, rfl, rfl, rfl, by omega⟩) (by omega) (by omega)
  · replace hc1 : ¬ (p < (0 : Int)) := hc1
    refine w_iload (i := 1) (npc := 5) rfl rfl ?_
    refine w_aload (i := 0) (npc := 6) (v := cr 0) rfl rfl rfl ?_
    obtain ⟨z2, hz2, hz2a, hz2b⟩ := hI.int 0 10 (lo := 1) (hi := 5) (by decide) (by decide) rfl
    have ghz2 := gv_eq hz2
    refine w_getf (i := 0) (ci := 7) (k := 10) (npc := 9) rfl (hI.pl (by decide)) (hI.T (by decide) rfl) (by decide) hz2 ?_
    refine w_icmp (c := .lt) (npc := 12) (pt := 23) rfl (fun hc3 => ?_) (fun hc3 => ?_)
    · replace hc3 : p < z2 := hc3
      refine w_aload (i := 0) (npc := 24) (v := cr 0) rfl rfl rfl ?_
      refine w_getf (i := 0) (ci := 7) (k := 0) (npc := 27) rfl (hI.pl (by decide)) (hI.T (by decide) rfl) (by decide) (hI.ref 0 0 (p := 1) (by decide) (by decide) rfl) ?_
      refine w_iload (i := 1) (npc := 28) rfl rfl ?_
      obtain ⟨b4, hb5e⟩ : ∃ b4 : Nat, b4 = 41 + 8 * (p : Int).toNat := ⟨_, rfl⟩
      have hb5 : 41 ≤ b4 ∧ b4 ≤ 77 ∧ b4 % 4 = 1 := by omega
      refine w_ald (i := 1) (t := 4) (n := 5) (npc := 29) rfl (hI.pl (by decide)) (hI.T (by decide) rfl) (by decide) rfl (by omega) (v := cr b4) (by rw [hb5e]; exact hI.pages (by omega)) ?_
      exact w_aret rfl (Or.inr ⟨_, rfl⟩) (Or.inr (⟨rfl, rfl, rfl, rfl, b4, rfl, by omega⟩)) (by omega) (by omega)
    · replace hc3 : ¬ (p < z2) := hc3
      exact w_throw (k := 2) rfl (Or.inl ⟨rfl, rfl, rfl, rfl, by omega⟩) (by omega) (by omega)
set_option maxRecDepth 16384 in
theorem ct_c_stepAt {sl : Int × Int} {x : ai_E} {d : Nat} {T : cm_T} {E : cm_E} {nx : Nat} (p w n : Int)  (hI : cs_I T E nx) : cm_ct (ai_ev sl (d + 3)) x 36 [cr 0, ai_i p, ai_i w, ai_i n] T E nx 2 12 (fun rk rv T' E' nx' => (rk = 2 ∧ T = T' ∧ E = E' ∧ nx = nx' ∧ (True)) ∨ (rk = 1 ∧ T = T' ∧ E = E' ∧ nx = nx' ∧ ∃ q : Nat, rv = cr q ∧ cs_st T E nx q ∧ (0 ≤ p ∧ p ≤ 4 ∧ 1 ≤ n ∧ n ≤ 60 ∧ 0 ≤ w ∧ w ≤ 4))) := by
  refine cm_body (M := ai_m36) rfl rfl (fun kc ks => ?_)
  show cm_wp (ai_find ai_c36 sl) (ai_ev sl (d + 2)) x (kc + 2) (ks + 12) _ 0 [cr 0, ai_i p, ai_i w, ai_i n, ai_un] [] T E nx kc ks
  refine w_aload (i := 0) (npc := 1) (v := cr 0) rfl rfl rfl ?_
  refine w_iload (i := 1) (npc := 2) rfl rfl ?_
  refine w_virt (ci := 7) (i := 0) (npc := 5) (a := [cr 0, ai_i p]) (rest := []) rfl rfl (hI.pl (by decide)) (hI.T (by decide) rfl) rfl rfl rfl rfl (ct_c_pageAt (sl := sl) (x := x) (d := d + 1) (p) hI) (Or.inl rfl) (fun k9 v9 T2 E2 nx2 kc2 ks2 hq1 hk2 hv2 => ?_)
  rcases hq1 with hq1 | hq1
  · obtain ⟨rfl, rfl, rfl, rfl, hz3⟩ := hq1
    exact Or.inr (Or.inr (Or.inl ⟨rfl, rfl, Or.inl ⟨rfl, rfl, rfl, rfl, trivial⟩, by omega, by omega⟩))
  obtain ⟨rfl, rfl, rfl, rfl, b7, rfl, hz3⟩ := hq1
  have hb8 : 41 ≤ b7 ∧ b7 ≤ 77 ∧ b7 % 4 = 1 := by omega
  refine Or.inr (Or.inl ⟨rfl, ?_⟩)
  refine w_iload (i := 2) (npc := 6) rfl rfl ?_
  refine w_iload (i := 3) (npc := 7) rfl rfl ?_
  refine w_virt (ci := 3) (i := b7) (npc := 10) (a := [cr b7, ai_i w, ai_i n]) (rest := []) rfl rfl (hI.pl (by omega)) (hI.pgT0 hb8) rfl rfl rfl rfl (ct_pg_stepOf (sl := sl) (x := x) (d := d + 0) (w) (n) (b := b7) hb8 hI) (Or.inl rfl) (fun k9 v9 T10 E10 nx10 kc10 ks10 hq9 hk10 hv10 => ?_)
  obtain ⟨rfl, rfl, rfl, rfl, hq9⟩ := hq9
  obtain rfl : kc2 = kc10 := by omega
  obtain rfl : ks2 = ks10 := by omega
  rcases hq9 with rfl | ⟨q15, rfl, hs16, hz11⟩
  · refine Or.inr (Or.inl ⟨rfl, ?_⟩)
    refine w_astore (i := 4) (npc := 12) (loc' := [cr 0, ai_i p, ai_i w, ai_i n, ai_nul]) rfl rfl rfl ?_
    refine w_aload (i := 4) (npc := 14) (v := ai_nul) rfl rfl rfl ?_
    refine w_isnullN (pt := 17) (npc := 28) rfl ?_
    exact w_throw (k := 2) rfl (Or.inl ⟨rfl, rfl, rfl, rfl, trivial⟩) (by omega) (by omega)
  refine Or.inr (Or.inl ⟨rfl, ?_⟩)
  refine w_astore (i := 4) (npc := 12) (loc' := [cr 0, ai_i p, ai_i w, ai_i n, cr q15]) rfl rfl rfl ?_
  refine w_aload (i := 4) (npc := 14) (v := cr q15) rfl rfl rfl ?_
  refine w_isnullR (pt := 17) (npc := 28) rfl ?_
  refine w_aload (i := 4) (npc := 30) (v := cr q15) rfl rfl rfl ?_
  exact w_aret rfl (Or.inr ⟨_, rfl⟩) (Or.inr (⟨rfl, rfl, rfl, rfl, q15, rfl, hs16, by omega⟩)) (by omega) (by omega)
set_option maxRecDepth 16384 in
theorem ct_c_viewOf {sl : Int × Int} {x : ai_E} {d : Nat} {T : cm_T} {E : cm_E} {nx : Nat} (p : Int)  (hI : cs_I T E nx) (hp0 : 0 ≤ p ∧ p ≤ 4) : cm_ct (ai_ev sl (d + 7)) x 41 [cr 0, ai_i p] T E nx 0 0 (fun rk rv T' E' nx' => rk = 1 ∧ T = T' ∧ nx = nx' ∧ cs_I T E' nx ∧ cm_fr (fun i k => (i = 0 ∧ k = 13) ∨ (6 ≤ i ∧ i ≤ 13)) E E' ∧ rv = cr 6 ∧ (True)) := by
  refine cm_body (M := ai_m41) rfl rfl (fun kc ks => ?_)
  show cm_wp (ai_find ai_c41 sl) (ai_ev sl (d + 6)) x (kc + 0) (ks + 0) _ 0 [cr 0, ai_i p] [] T E nx kc ks
  have hF : cm_fr (fun i k => (i = 0 ∧ k = 13) ∨ (6 ≤ i ∧ i ≤ 13)) E E := fun _ _ _ => rfl
  refine w_aload (i := 0) (npc := 1) (v := cr 0) rfl rfl rfl ?_
  obtain ⟨z1, hz1, hz1a, hz1b⟩ := hI.int 0 13 (lo := (-1)) (hi := 4) (by decide) (by decide) rfl
  have ghz1 := gv_eq hz1
  refine w_getf (i := 0) (ci := 7) (k := 13) (npc := 4) rfl (hI.pl (by decide)) (hI.T (by decide) rfl) (by decide) hz1 ?_
  refine w_iload (i := 1) (npc := 5) rfl rfl ?_
  refine w_icmp (c := .eq) (npc := 8) (pt := 26) rfl (fun hc2 => ?_) (fun hc2 => ?_)
  · replace hc2 : z1 = p := hc2
    refine w_aload (i := 0) (npc := 27) (v := cr 0) rfl rfl rfl ?_
    refine w_getf (i := 0) (ci := 7) (k := 5) (npc := 30) rfl (hI.pl (by decide)) (hI.T (by decide) rfl) (by decide) (hI.ref 0 5 (p := 6) (by decide) (by decide) rfl) ?_
    exact w_aret rfl (Or.inr ⟨_, rfl⟩) (⟨rfl, rfl, rfl, hI, hF, rfl, trivial⟩) (by omega) (by omega)
  · replace hc2 : ¬ (z1 = p) := hc2
    refine w_aload (i := 0) (npc := 9) (v := cr 0) rfl rfl rfl ?_
    refine w_getf (i := 0) (ci := 7) (k := 5) (npc := 12) rfl (hI.pl (by decide)) (hI.T (by decide) rfl) (by decide) (hI.ref 0 5 (p := 6) (by decide) (by decide) rfl) ?_
    refine w_aload (i := 0) (npc := 13) (v := cr 0) rfl rfl rfl ?_
    refine w_getf (i := 0) (ci := 7) (k := 0) (npc := 16) rfl (hI.pl (by decide)) (hI.T (by decide) rfl) (by decide) (hI.ref 0 0 (p := 1) (by decide) (by decide) rfl) ?_
    refine w_iload (i := 1) (npc := 17) rfl rfl ?_
    obtain ⟨b3, hb4e⟩ : ∃ b3 : Nat, b3 = 41 + 8 * (p : Int).toNat := ⟨_, rfl⟩
    have hb4 : 41 ≤ b3 ∧ b3 ≤ 77 ∧ b3 % 4 = 1 := by omega
    refine w_ald (i := 1) (t := 4) (n := 5) (npc := 18) rfl (hI.pl (by decide)) (hI.T (by decide) rfl) (by decide) rfl (by omega) (v := cr b3) (by rw [hb4e]; exact hI.pages (by omega)) ?_
    refine w_virt (ci := 6) (i := 6) (npc := 21) (a := [cr 6, cr b3]) (rest := []) rfl rfl (hI.pl (by decide)) (hI.T (by decide) rfl) rfl rfl rfl rfl (ct_vw_look (sl := sl) (x := x) (d := d + 0)  (b := b3) hb4 hI) (Or.inl rfl) (fun k9 v9 T6 E6 nx6 kc6 ks6 hq5 hk6 hv6 => ?_)
    obtain ⟨rfl, rfl, rfl, hI8, hG9, hz7⟩ := hq5
    obtain rfl : kc = kc6 := by omega
    obtain rfl : ks = ks6 := by omega
    have hF11 := cm_fr.trans hF hG9 (by intro i k h; (try simp only at h); (try simp only); omega)
    have hz12 : E6 0 13 = ai_i z1 := (hG9 0 13 (by first | omega | (simp; done) | (simp; omega) | (simp only; omega))).trans hz1
    have ghz12 := gv_eq hz12
    refine Or.inl ⟨rfl, ?_⟩
    refine w_aload (i := 0) (npc := 22) (v := cr 0) rfl rfl rfl ?_
    refine w_iload (i := 1) (npc := 23) rfl rfl ?_
    refine w_putf (i := 0) (ci := 7) (k := 13) (t := 0) (npc := 26) rfl (hI8.pl (by decide)) (hI8.T (by decide) rfl) (by decide) cm_fit0 ?_
    have hI14 := hI8.puti (i := 0) (k := 13) (z := p) (lo := (-1)) (hi := 4) (by decide) rfl (by omega)
    have hF16 := cm_fr.up (i := 0) (k := 13) (v := ai_i p) hF11 (by first | omega | (simp; done) | (simp; omega) | (simp only; omega))
    generalize hE15 : cm_up E6 0 13 (ai_i p) = E13 at hI14 hF16 ⊢
    have hz17 : E13 0 13 = ai_i p := by rw [← hE15, cm_up_eq]
    have ghz17 := gv_eq hz17
    refine w_aload (i := 0) (npc := 27) (v := cr 0) rfl rfl rfl ?_
    refine w_getf (i := 0) (ci := 7) (k := 5) (npc := 30) rfl (hI14.pl (by decide)) (hI14.T (by decide) rfl) (by decide) (hI14.ref 0 5 (p := 6) (by decide) (by decide) rfl) ?_
    exact w_aret rfl (Or.inr ⟨_, rfl⟩) (⟨rfl, rfl, rfl, hI14, hF16, rfl, trivial⟩) (by omega) (by omega)
set_option maxRecDepth 16384 in
theorem ct_c_signOf {sl : Int × Int} {x : ai_E} {d : Nat} {T : cm_T} {E : cm_E} {nx : Nat} (s : Int) {b : Nat} (hb_b : 41 ≤ b ∧ b ≤ 77 ∧ b % 4 = 1) (hI : cs_I T E nx) (hp0 : 0 ≤ s ∧ s ≤ 299) : cm_ct (ai_ev sl (d + 2)) x 33 [cr b, ai_i s] T E nx 0 0 (fun rk rv T' E' nx' => rk = 1 ∧ T = T' ∧ E = E' ∧ nx = nx' ∧ ∃ z : Int, rv = ai_i z ∧ (0 ≤ z ∧ z ≤ 255)) := by
  refine cm_body (M := ai_m33) rfl rfl (fun kc ks => ?_)
  show cm_wp (ai_find ai_c33 sl) (ai_ev sl (d + 1)) x (kc + 0) (ks + 0) _ 0 [cr b, ai_i s, ai_un] [] T E nx kc ks
  refine w_aload (i := 0) (npc := 1) (v := cr b) rfl rfl rfl ?_
  refine w_getf (i := b) (ci := 3) (k := 1) (npc := 4) rfl (hI.pl (by omega)) (hI.pgT0 hb_b) (by decide) (hI.pg1 hb_b) ?_
  refine w_iload (i := 1) (npc := 5) rfl rfl ?_
  have hlt9 : (s : Int).toNat < 300 := by omega
  rcases hI.pgs hb_b (s : Int).toNat hlt9 with hx3 | ⟨q1, hx3, hs2⟩
  · clear hlt9
    refine w_ald (i := b + 1) (t := 5) (n := 300) (npc := 6) rfl (hI.pl (by omega)) (hI.pgT1 hb_b) (by decide) rfl (by omega) hx3 ?_
    refine w_astore (i := 2) (npc := 7) (loc' := [cr b, ai_i s, ai_nul]) rfl rfl rfl ?_
    refine w_aload (i := 2) (npc := 8) (v := ai_nul) rfl rfl rfl ?_
    refine w_isnullN (pt := 11) (npc := 15) rfl ?_
    refine w_const (n := 0) (npc := 12) rfl ?_
    refine w_goto (pt := 21) rfl ?_
    exact w_iret rfl (⟨rfl, rfl, rfl, rfl, 0, rfl, by omega⟩) (by omega) (by omega)
  clear hlt9
  refine w_ald (i := b + 1) (t := 5) (n := 300) (npc := 6) rfl (hI.pl (by omega)) (hI.pgT1 hb_b) (by decide) rfl (by omega) hx3 ?_
  refine w_astore (i := 2) (npc := 7) (loc' := [cr b, ai_i s, cr q1]) rfl rfl rfl ?_
  refine w_aload (i := 2) (npc := 8) (v := cr q1) rfl rfl rfl ?_
  refine w_isnullR (pt := 11) (npc := 15) rfl ?_
  refine w_aload (i := 2) (npc := 16) (v := cr q1) rfl rfl rfl ?_
  refine w_const (n := 10) (npc := 18) rfl ?_
  refine w_virt (ci := 4) (i := q1) (npc := 21) (a := [cr q1, ai_i 10]) (rest := []) rfl rfl hs2.lt hs2.T0 rfl rfl rfl rfl (ct_sp_byteAt (sl := sl) (x := x) (d := d + 0) (10) hs2) (Or.inl rfl) (fun k9 v9 T5 E5 nx5 kc5 ks5 hq4 hk5 hv5 => ?_)
  obtain ⟨rfl, rfl, rfl, rfl, z6, rfl, hz6⟩ := hq4
  obtain rfl : kc = kc5 := by omega
  obtain rfl : ks = ks5 := by omega
  refine Or.inr (Or.inl ⟨rfl, ?_⟩)
  exact w_iret rfl (⟨rfl, rfl, rfl, rfl, z6, rfl, by omega⟩) (by omega) (by omega)
set_option maxRecDepth 16384 in
theorem ct_c_keyNumber {sl : Int × Int} {x : ai_E} {d : Nat} {T : cm_T} {E : cm_E} {nx : Nat} (s c : Int)  (hI : cs_I T E nx) (hp0 : 0 ≤ s ∧ s ≤ 299) (hp1 : -2147483648 ≤ c ∧ c ≤ 2147483647) : cm_ct (ai_ev sl (d + 3)) x 19 [cr 0, cr 6, ai_i s, ai_i c] T E nx 1 6 (fun rk rv T' E' nx' => (rk = 2 ∧ T = T' ∧ E = E' ∧ nx = nx' ∧ (True)) ∨ (rk = 1 ∧ T = T' ∧ E = E' ∧ nx = nx' ∧ ∃ z : Int, rv = ai_i z ∧ (True))) := by
  refine cm_body (M := ai_m19) rfl rfl (fun kc ks => ?_)
  show cm_wp (ai_find ai_c19 sl) (ai_ev sl (d + 2)) x (kc + 1) (ks + 6) _ 0 [cr 0, cr 6, ai_i s, ai_i c] [] T E nx kc ks
  refine w_iload (i := 3) (npc := 1) rfl rfl ?_
  refine w_const (n := 10) (npc := 3) rfl ?_
  refine w_icmp (c := .lt) (npc := 6) (pt := 18) rfl (fun hc1 => ?_) (fun hc1 => ?_)
  · replace hc1 : c < (10 : Int) := hc1
    exact w_throw (k := 2) rfl (Or.inl ⟨rfl, rfl, rfl, rfl, trivial⟩) (by omega) (by omega)
  · replace hc1 : ¬ (c < (10 : Int)) := hc1
    refine w_iload (i := 3) (npc := 7) rfl rfl ?_
    refine w_const (n := 10) (npc := 9) rfl ?_
    refine w_isub (npc := 10) rfl (by omega) ?_
    refine w_aload (i := 1) (npc := 11) (v := cr 6) rfl rfl rfl ?_
    refine w_iload (i := 2) (npc := 12) rfl rfl ?_
    refine w_virt (ci := 6) (i := 6) (npc := 15) (a := [cr 6, ai_i s]) (rest := [ai_i (c - 10)]) rfl rfl (hI.pl (by decide)) (hI.T (by decide) rfl) rfl rfl rfl rfl (ct_vw_keyLengthOf (sl := sl) (x := x) (d := d + 0) (s) hI (by omega)) (Or.inl rfl) (fun k9 v9 T4 E4 nx4 kc4 ks4 hq3 hk4 hv4 => ?_)
    obtain ⟨rfl, rfl, rfl, rfl, z5, rfl, hz5⟩ := hq3
    obtain rfl : kc = kc4 := by omega
    obtain rfl : ks = ks4 := by omega
    refine Or.inr (Or.inl ⟨rfl, ?_⟩)
    refine w_icmp (c := .lt) (npc := 18) (pt := 29) rfl (fun hc9 => ?_) (fun hc9 => ?_)
    · replace hc9 : c - 10 < z5 := hc9
      refine w_aload (i := 1) (npc := 30) (v := cr 6) rfl rfl rfl ?_
      refine w_iload (i := 2) (npc := 31) rfl rfl ?_
      refine w_iload (i := 3) (npc := 32) rfl rfl ?_
      refine w_const (n := 10) (npc := 34) rfl ?_
      refine w_isub (npc := 35) rfl (by omega) ?_
      refine w_virt (ci := 6) (i := 6) (npc := 38) (a := [cr 6, ai_i s, ai_i (c - 10)]) (rest := []) rfl rfl (hI.pl (by decide)) (hI.T (by decide) rfl) rfl rfl rfl rfl (ct_vw_keyNumberOf (sl := sl) (x := x) (d := d + 0) (s) (c - 10) hI (by omega) (by omega)) (Or.inl rfl) (fun k9 v9 T12 E12 nx12 kc12 ks12 hq11 hk12 hv12 => ?_)
      obtain ⟨rfl, rfl, rfl, rfl, z13, rfl, hz13⟩ := hq11
      obtain rfl : kc = kc12 := by omega
      obtain rfl : ks = ks12 := by omega
      refine Or.inr (Or.inl ⟨rfl, ?_⟩)
      exact w_iret rfl (Or.inr (⟨rfl, rfl, rfl, rfl, z13, rfl, trivial⟩)) (by omega) (by omega)
    · replace hc9 : ¬ (c - 10 < z5) := hc9
      exact w_throw (k := 2) rfl (Or.inl ⟨rfl, rfl, rfl, rfl, trivial⟩) (by omega) (by omega)
set_option maxRecDepth 16384 in
theorem ct_c_refuse {sl : Int × Int} {x : ai_E} {d : Nat} {T : cm_T} {E : cm_E} {nx : Nat} (c : Int)  (hI : cs_I T E nx) (hp0 : 0 ≤ c ∧ c ≤ 2) : cm_ct (ai_ev sl (d + 1)) x 27 [cr 0, ai_i c] T E nx 0 0 (fun rk rv T' E' nx' => rk = 1 ∧ T = T' ∧ nx = nx' ∧ cs_I T E' nx ∧ cm_fr (fun i k => i = 3) E E' ∧ ∃ z : Int, rv = ai_i z ∧ (z = -1)) := by
  refine cm_body (M := ai_m27) rfl rfl (fun kc ks => ?_)
  show cm_wp (ai_find ai_c27 sl) (ai_ev sl (d + 0)) x (kc + 0) (ks + 0) _ 0 [cr 0, ai_i c] [] T E nx kc ks
  have hF : cm_fr (fun i k => i = 3) E E := fun _ _ _ => rfl
  refine w_aload (i := 0) (npc := 1) (v := cr 0) rfl rfl rfl ?_
  refine w_getf (i := 0) (ci := 7) (k := 2) (npc := 4) rfl (hI.pl (by decide)) (hI.T (by decide) rfl) (by decide) (hI.ref 0 2 (p := 3) (by decide) (by decide) rfl) ?_
  refine w_iload (i := 1) (npc := 5) rfl rfl ?_
  refine w_dup2 (npc := 6) rfl rfl rfl ?_
  obtain ⟨z1, hz1, hz1a, hz1b⟩ := hI.int 3 (c : Int).toNat (lo := (-2147483648)) (hi := 2147483647) (by decide) (show (c : Int).toNat < 3 by omega) rfl
  have ghz1 := gv_eq hz1
  refine w_ald (i := 3) (t := 1) (n := 3) (npc := 7) rfl (hI.pl (by decide)) (hI.T (by decide) rfl) (by decide) rfl (by omega) hz1 ?_
  refine w_const (n := 1) (npc := 8) rfl ?_
  refine w_iaddw (npc := 9) rfl (fun z2 hz2 hz2b => ?_)
  refine w_ast (i := 3) (k := 1) (n := 3) (npc := 10) rfl (hI.pl (by decide)) (hI.T (by decide) rfl) (by decide) (by omega) cm_af1 ?_
  have hI4 := hI.puti (i := 3) (k := (c : Int).toNat) (z := z2) (lo := (-2147483648)) (hi := 2147483647) (by decide) rfl (by omega)
  have hF6 := cm_fr.up (i := 3) (k := (c : Int).toNat) (v := ai_i z2) hF (by first | omega | (simp; done) | (simp; omega) | (simp only; omega))
  generalize hE5 : cm_up E 3 ((c : Int).toNat) (ai_i z2) = E3 at hI4 hF6 ⊢
  have hz7 : E3 3 ((c : Int).toNat) = ai_i z2 := by rw [← hE5, cm_up_eq]
  have ghz7 := gv_eq hz7
  refine w_const (n := (-1)) (npc := 11) rfl ?_
  exact w_iret rfl (⟨rfl, rfl, rfl, hI4, hF6, (-1), rfl, by omega⟩) (by omega) (by omega)
set_option maxRecDepth 16384 in
theorem ct_c_refuseHeard {sl : Int × Int} {x : ai_E} {d : Nat} {T : cm_T} {E : cm_E} {nx : Nat} (a p : Int)  (hI : cs_I T E nx) (hp0 : 0 ≤ p ∧ p ≤ 400) : cm_ct (ai_ev sl (d + 1)) x 28 [cr 0, ai_i a, ai_i p] T E nx 0 0 (fun rk rv T' E' nx' => rk = 1 ∧ T = T' ∧ nx = nx' ∧ cs_I T E' nx ∧ cm_fr (fun i k => i = 3 ∨ (i = 0 ∧ k = 12)) E E' ∧ ∃ z : Int, rv = ai_i z ∧ (z = a)) := by
  refine cm_body (M := ai_m28) rfl rfl (fun kc ks => ?_)
  show cm_wp (ai_find ai_c28 sl) (ai_ev sl (d + 0)) x (kc + 0) (ks + 0) _ 0 [cr 0, ai_i a, ai_i p] [] T E nx kc ks
  have hF : cm_fr (fun i k => i = 3 ∨ (i = 0 ∧ k = 12)) E E := fun _ _ _ => rfl
  refine w_aload (i := 0) (npc := 1) (v := cr 0) rfl rfl rfl ?_
  refine w_getf (i := 0) (ci := 7) (k := 2) (npc := 4) rfl (hI.pl (by decide)) (hI.T (by decide) rfl) (by decide) (hI.ref 0 2 (p := 3) (by decide) (by decide) rfl) ?_
  refine w_const (n := 1) (npc := 5) rfl ?_
  refine w_dup2 (npc := 6) rfl rfl rfl ?_
  obtain ⟨z1, hz1, hz1a, hz1b⟩ := hI.int 3 (1 : Int).toNat (lo := (-2147483648)) (hi := 2147483647) (by decide) (show (1 : Int).toNat < 3 by omega) rfl
  have ghz1 := gv_eq hz1
  refine w_ald (i := 3) (t := 1) (n := 3) (npc := 7) rfl (hI.pl (by decide)) (hI.T (by decide) rfl) (by decide) rfl (by omega) hz1 ?_
  refine w_const (n := 1) (npc := 8) rfl ?_
  refine w_iaddw (npc := 9) rfl (fun z2 hz2 hz2b => ?_)
  refine w_ast (i := 3) (k := 1) (n := 3) (npc := 10) rfl (hI.pl (by decide)) (hI.T (by decide) rfl) (by decide) (by omega) cm_af1 ?_
  have hI4 := hI.puti (i := 3) (k := (1 : Int).toNat) (z := z2) (lo := (-2147483648)) (hi := 2147483647) (by decide) rfl (by omega)
  have hF6 := cm_fr.up (i := 3) (k := (1 : Int).toNat) (v := ai_i z2) hF (by first | omega | (simp; done) | (simp; omega) | (simp only; omega))
  generalize hE5 : cm_up E 3 ((1 : Int).toNat) (ai_i z2) = E3 at hI4 hF6 ⊢
  have hz7 : E3 3 ((1 : Int).toNat) = ai_i z2 := by rw [← hE5, cm_up_eq]
  have ghz7 := gv_eq hz7
  refine w_aload (i := 0) (npc := 11) (v := cr 0) rfl rfl rfl ?_
  refine w_iload (i := 2) (npc := 12) rfl rfl ?_
  refine w_putf (i := 0) (ci := 7) (k := 12) (t := 0) (npc := 15) rfl (hI4.pl (by decide)) (hI4.T (by decide) rfl) (by decide) cm_fit0 ?_
  have hI9 := hI4.puti (i := 0) (k := 12) (z := p) (lo := (-1)) (hi := 400) (by decide) rfl (by omega)
  have hF11 := cm_fr.up (i := 0) (k := 12) (v := ai_i p) hF6 (by first | omega | (simp; done) | (simp; omega) | (simp only; omega))
  generalize hE10 : cm_up E3 0 12 (ai_i p) = E8 at hI9 hF11 ⊢
  have hz12 : E8 3 ((1 : Int).toNat) = ai_i z2 := by rw [← hE10, cm_up_nei _ _ (by decide)]; exact hz7
  have ghz12 := gv_eq hz12
  have hz13 : E8 0 12 = ai_i p := by rw [← hE10, cm_up_eq]
  have ghz13 := gv_eq hz13
  refine w_iload (i := 1) (npc := 16) rfl rfl ?_
  exact w_iret rfl (⟨rfl, rfl, rfl, hI9, hF11, a, rfl, by omega⟩) (by omega) (by omega)
set_option maxRecDepth 16384 in
theorem ct_c_canUndo {sl : Int × Int} {x : ai_E} {d : Nat} {T : cm_T} {E : cm_E} {nx : Nat} {b : Nat} (hb_b : 41 ≤ b ∧ b ≤ 77 ∧ b % 4 = 1) {q : Nat} (hs_q : cs_st T E nx q) (hI : cs_I T E nx) : cm_ct (ai_ev sl (d + 6)) x 5 [cr 0, cr 6, cr b, cr q] T E nx 0 0 (fun rk rv T' E' nx' => rk = 1 ∧ T = T' ∧ nx = nx' ∧ cs_I T E' nx ∧ cm_fr (fun i k => i = 13) E E' ∧ ∃ z : Int, rv = ai_i z ∧ (0 ≤ z ∧ z ≤ 1)) := by
  refine cm_body (M := ai_m5) rfl rfl (fun kc ks => ?_)
  show cm_wp (ai_find ai_c5 sl) (ai_ev sl (d + 5)) x (kc + 0) (ks + 0) _ 0 [cr 0, cr 6, cr b, cr q, ai_un] [] T E nx kc ks
  have hF : cm_fr (fun i k => i = 13) E E := fun _ _ _ => rfl
  refine w_aload (i := 1) (npc := 1) (v := cr 6) rfl rfl rfl ?_
  refine w_getf (i := 6) (ci := 6) (k := 0) (npc := 4) rfl (hI.pl (by decide)) (hI.T (by decide) rfl) (by decide) (hI.ref 6 0 (p := 7) (by decide) (by decide) rfl) ?_
  refine w_aload (i := 2) (npc := 5) (v := cr b) rfl rfl rfl ?_
  obtain ⟨z1, hz1, hz1a, hz1b⟩ := hI.pg0 hb_b
  have ghz1 := gv_eq hz1
  refine w_getf (i := b) (ci := 3) (k := 0) (npc := 8) rfl (hI.pl (by omega)) (hI.pgT0 hb_b) (by decide) hz1 ?_
  refine w_aload (i := 3) (npc := 9) (v := cr q) rfl rfl rfl ?_
  refine w_virt (ci := 4) (i := q) (npc := 12) (a := [cr q]) (rest := [ai_i z1, cr 7]) rfl rfl hs_q.lt hs_q.T0 rfl rfl rfl rfl (ct_sp_number (sl := sl) (x := x) (d := d + 3)  hs_q) (Or.inl rfl) (fun k9 v9 T3 E3 nx3 kc3 ks3 hq2 hk3 hv3 => ?_)
  obtain ⟨rfl, rfl, rfl, rfl, z4, rfl, hz4⟩ := hq2
  obtain rfl : kc = kc3 := by omega
  obtain rfl : ks = ks3 := by omega
  refine Or.inr (Or.inl ⟨rfl, ?_⟩)
  refine w_call (npc := 15) (a := [ai_i z1, ai_i z4]) (rest := [cr 7]) rfl rfl rfl rfl rfl (ct_c_slotOf (sl := sl) (x := x) (d := d + 4) (z1) (z4) (by omega) (by omega)) (Or.inr (fun _ _ _ _ _ hq => by have h1 := hq.1; omega)) (fun k9 v9 T9 E9 nx9 kc9 ks9 hq8 hk9 hv9 => ?_)
  obtain ⟨rfl, rfl, rfl, rfl, z10, rfl, hz10⟩ := hq8
  obtain rfl : kc = kc9 := by omega
  obtain rfl : ks = ks9 := by omega
  refine Or.inr (Or.inl ⟨rfl, ?_⟩)
  obtain ⟨z14, hz14, hz14a, hz14b⟩ := hI.int 7 (z10 : Int).toNat (lo := 0) (hi := 1) (by decide) (show (z10 : Int).toNat < 300 by omega) rfl
  have ghz14 := gv_eq hz14
  refine w_ald (i := 7) (t := 2) (n := 300) (npc := 16) rfl (hI.pl (by decide)) (hI.T (by decide) rfl) (by decide) rfl (by omega) hz14 ?_
  refine w_if (c := .ne) (npc := 19) (pt := 21) rfl (fun hc15 => ?_) (fun hc15 => ?_)
  · replace hc15 : z14 ≠ (0 : Int) := hc15
    refine w_aload (i := 3) (npc := 22) (v := cr q) rfl rfl rfl ?_
    refine w_virt (ci := 4) (i := q) (npc := 25) (a := [cr q]) (rest := []) rfl rfl hs_q.lt hs_q.T0 rfl rfl rfl rfl (ct_sp_kind (sl := sl) (x := x) (d := d + 3)  hs_q) (Or.inl rfl) (fun k9 v9 T17 E17 nx17 kc17 ks17 hq16 hk17 hv17 => ?_)
    obtain ⟨rfl, rfl, rfl, rfl, z18, rfl, hz18⟩ := hq16
    obtain rfl : kc = kc17 := by omega
    obtain rfl : ks = ks17 := by omega
    refine Or.inr (Or.inl ⟨rfl, ?_⟩)
    refine w_const (n := 1) (npc := 26) rfl ?_
    refine w_icmp (c := .eq) (npc := 29) (pt := 31) rfl (fun hc22 => ?_) (fun hc22 => ?_)
    · replace hc22 : z18 = (1 : Int) := hc22
      refine w_aload (i := 1) (npc := 32) (v := cr 6) rfl rfl rfl ?_
      refine w_aload (i := 3) (npc := 33) (v := cr q) rfl rfl rfl ?_
      refine w_const (n := 10) (npc := 35) rfl ?_
      refine w_virt (ci := 6) (i := 6) (npc := 38) (a := [cr 6, cr q, ai_i 10]) (rest := []) rfl rfl (hI.pl (by decide)) (hI.T (by decide) rfl) rfl rfl rfl rfl (ct_vw_markSlot (sl := sl) (x := x) (d := d + 2) (10) hs_q hI (by omega)) (Or.inl rfl) (fun k9 v9 T24 E24 nx24 kc24 ks24 hq23 hk24 hv24 => ?_)
      obtain ⟨rfl, rfl, rfl, rfl, z25, rfl, hz25⟩ := hq23
      obtain rfl : kc = kc24 := by omega
      obtain rfl : ks = ks24 := by omega
      refine Or.inr (Or.inl ⟨rfl, ?_⟩)
      refine w_istore (i := 4) (npc := 40) (loc' := [cr 0, cr 6, cr b, cr q, ai_i z25]) rfl rfl ?_
      refine w_iload (i := 4) (npc := 42) rfl rfl ?_
      refine w_const (n := (-1)) (npc := 43) rfl ?_
      refine w_icmp (c := .eq) (npc := 46) (pt := 60) rfl (fun hc29 => ?_) (fun hc29 => ?_)
      · replace hc29 : z25 = ((-1) : Int) := hc29
        refine w_const (n := 1) (npc := 61) rfl ?_
        refine w_goto (pt := 65) rfl ?_
        exact w_zret rfl (by omega) (⟨rfl, rfl, rfl, hI, hF, 1, rfl, by omega⟩) (by omega) (by omega)
      · replace hc29 : ¬ (z25 = ((-1) : Int)) := hc29
        refine w_aload (i := 1) (npc := 47) (v := cr 6) rfl rfl rfl ?_
        refine w_aload (i := 2) (npc := 48) (v := cr b) rfl rfl rfl ?_
        refine w_aload (i := 0) (npc := 49) (v := cr 0) rfl rfl rfl ?_
        obtain ⟨z30, hz30, hz30a, hz30b⟩ := hI.int 0 10 (lo := 1) (hi := 5) (by decide) (by decide) rfl
        have ghz30 := gv_eq hz30
        refine w_getf (i := 0) (ci := 7) (k := 10) (npc := 52) rfl (hI.pl (by decide)) (hI.T (by decide) rfl) (by decide) hz30 ?_
        refine w_iload (i := 4) (npc := 54) rfl rfl ?_
        refine w_virt (ci := 6) (i := 6) (npc := 57) (a := [cr 6, cr b, ai_i z30, ai_i z25]) (rest := []) rfl rfl (hI.pl (by decide)) (hI.T (by decide) rfl) rfl rfl rfl rfl (ct_vw_isGone (sl := sl) (x := x) (d := d + 0) (z30) (z25) (b := b) hb_b hI (by omega) (by omega)) (Or.inl rfl) (fun k9 v9 T32 E32 nx32 kc32 ks32 hq31 hk32 hv32 => ?_)
        obtain ⟨rfl, rfl, rfl, hI34, hG35, z33, rfl, hz33⟩ := hq31
        obtain rfl : kc = kc32 := by omega
        obtain rfl : ks = ks32 := by omega
        have hF37 := cm_fr.trans hF hG35 (by intro i k h; (try simp only at h); (try simp only); omega)
        have hs38 := hs_q.fr hG35 (by intro i k h; (try simp only at h); omega)
        have hz39 : E32 b 0 = ai_i z1 := (hG35 b 0 (by first | omega | (simp; done) | (simp; omega) | (simp only; omega))).trans hz1
        have ghz39 := gv_eq hz39
        have hz40 : E32 0 10 = ai_i z30 := (hG35 0 10 (by first | omega | (simp; done) | (simp; omega) | (simp only; omega))).trans hz30
        have ghz40 := gv_eq hz40
        refine Or.inr (Or.inl ⟨rfl, ?_⟩)
        refine w_if (c := .ne) (npc := 60) (pt := 64) rfl (fun hc41 => ?_) (fun hc41 => ?_)
        · replace hc41 : z33 ≠ (0 : Int) := hc41
          refine w_const (n := 0) (npc := 65) rfl ?_
          exact w_zret rfl (by omega) (⟨rfl, rfl, rfl, hI34, hF37, 0, rfl, by omega⟩) (by omega) (by omega)
        · replace hc41 : ¬ (z33 ≠ (0 : Int)) := hc41
          refine w_const (n := 1) (npc := 61) rfl ?_
          refine w_goto (pt := 65) rfl ?_
          exact w_zret rfl (by omega) (⟨rfl, rfl, rfl, hI34, hF37, 1, rfl, by omega⟩) (by omega) (by omega)
    · replace hc22 : ¬ (z18 = (1 : Int)) := hc22
      refine w_const (n := 1) (npc := 30) rfl ?_
      exact w_zret rfl (by omega) (⟨rfl, rfl, rfl, hI, hF, 1, rfl, by omega⟩) (by omega) (by omega)
  · replace hc15 : ¬ (z14 ≠ (0 : Int)) := hc15
    refine w_const (n := 0) (npc := 20) rfl ?_
    exact w_zret rfl (by omega) (⟨rfl, rfl, rfl, hI, hF, 0, rfl, by omega⟩) (by omega) (by omega)
set_option maxRecDepth 16384 in
theorem ct_c_isLack {sl : Int × Int} {x : ai_E} {d : Nat} {T : cm_T} {E : cm_E} {nx : Nat} (s : Int) {a : Nat} (hb_a : 41 ≤ a ∧ a ≤ 77 ∧ a % 4 = 1) {b : Nat} (hb_b : 41 ≤ b ∧ b ≤ 77 ∧ b % 4 = 1) (hI : cs_I T E nx) (hp0 : 0 ≤ s ∧ s ≤ 299) : cm_ct (ai_ev sl (d + 2)) x 17 [cr a, cr b, ai_i s] T E nx 0 0 (fun rk rv T' E' nx' => rk = 1 ∧ T = T' ∧ E = E' ∧ nx = nx' ∧ ∃ z : Int, rv = ai_i z ∧ (0 ≤ z ∧ z ≤ 1)) := by
  refine cm_body (M := ai_m17) rfl rfl (fun kc ks => ?_)
  show cm_wp (ai_find ai_c17 sl) (ai_ev sl (d + 1)) x (kc + 0) (ks + 0) _ 0 [cr a, cr b, ai_i s, ai_un, ai_un] [] T E nx kc ks
  refine w_aload (i := 1) (npc := 1) (v := cr b) rfl rfl rfl ?_
  refine w_getf (i := b) (ci := 3) (k := 1) (npc := 4) rfl (hI.pl (by omega)) (hI.pgT0 hb_b) (by decide) (hI.pg1 hb_b) ?_
  refine w_iload (i := 2) (npc := 5) rfl rfl ?_
  have hlt9 : (s : Int).toNat < 300 := by omega
  rcases hI.pgs hb_b (s : Int).toNat hlt9 with hx3 | ⟨q1, hx3, hs2⟩
  · clear hlt9
    refine w_ald (i := b + 1) (t := 5) (n := 300) (npc := 6) rfl (hI.pl (by omega)) (hI.pgT1 hb_b) (by decide) rfl (by omega) hx3 ?_
    refine w_astore (i := 3) (npc := 7) (loc' := [cr a, cr b, ai_i s, ai_nul, ai_un]) rfl rfl rfl ?_
    refine w_aload (i := 3) (npc := 8) (v := ai_nul) rfl rfl rfl ?_
    refine w_isnullN (pt := 11) (npc := 13) rfl ?_
    refine w_const (n := 0) (npc := 12) rfl ?_
    exact w_zret rfl (by omega) (⟨rfl, rfl, rfl, rfl, 0, rfl, by omega⟩) (by omega) (by omega)
  clear hlt9
  refine w_ald (i := b + 1) (t := 5) (n := 300) (npc := 6) rfl (hI.pl (by omega)) (hI.pgT1 hb_b) (by decide) rfl (by omega) hx3 ?_
  refine w_astore (i := 3) (npc := 7) (loc' := [cr a, cr b, ai_i s, cr q1, ai_un]) rfl rfl rfl ?_
  refine w_aload (i := 3) (npc := 8) (v := cr q1) rfl rfl rfl ?_
  refine w_isnullR (pt := 11) (npc := 13) rfl ?_
  refine w_aload (i := 0) (npc := 14) (v := cr a) rfl rfl rfl ?_
  refine w_getf (i := a) (ci := 3) (k := 1) (npc := 17) rfl (hI.pl (by omega)) (hI.pgT0 hb_a) (by decide) (hI.pg1 hb_a) ?_
  refine w_iload (i := 2) (npc := 18) rfl rfl ?_
  have hlt9 : (s : Int).toNat < 300 := by omega
  rcases hI.pgs hb_a (s : Int).toNat hlt9 with hx6 | ⟨q4, hx6, hs5⟩
  · clear hlt9
    refine w_ald (i := a + 1) (t := 5) (n := 300) (npc := 19) rfl (hI.pl (by omega)) (hI.pgT1 hb_a) (by decide) rfl (by omega) hx6 ?_
    refine w_astore (i := 4) (npc := 21) (loc' := [cr a, cr b, ai_i s, cr q1, ai_nul]) rfl rfl rfl ?_
    refine w_aload (i := 4) (npc := 23) (v := ai_nul) rfl rfl rfl ?_
    refine w_isnullN (pt := 35) (npc := 26) rfl ?_
    refine w_const (n := 1) (npc := 36) rfl ?_
    refine w_goto (pt := 40) rfl ?_
    exact w_zret rfl (by omega) (⟨rfl, rfl, rfl, rfl, 1, rfl, by omega⟩) (by omega) (by omega)
  clear hlt9
  refine w_ald (i := a + 1) (t := 5) (n := 300) (npc := 19) rfl (hI.pl (by omega)) (hI.pgT1 hb_a) (by decide) rfl (by omega) hx6 ?_
  refine w_astore (i := 4) (npc := 21) (loc' := [cr a, cr b, ai_i s, cr q1, cr q4]) rfl rfl rfl ?_
  refine w_aload (i := 4) (npc := 23) (v := cr q4) rfl rfl rfl ?_
  refine w_isnullR (pt := 35) (npc := 26) rfl ?_
  refine w_aload (i := 4) (npc := 28) (v := cr q4) rfl rfl rfl ?_
  refine w_aload (i := 3) (npc := 29) (v := cr q1) rfl rfl rfl ?_
  refine w_virt (ci := 4) (i := q4) (npc := 32) (a := [cr q4, cr q1]) (rest := []) rfl rfl hs5.lt hs5.T0 rfl rfl rfl rfl (ct_sp_sameAs (sl := sl) (x := x) (d := d + 0)  hs5 hs2) (Or.inl rfl) (fun k9 v9 T8 E8 nx8 kc8 ks8 hq7 hk8 hv8 => ?_)
  obtain ⟨rfl, rfl, rfl, rfl, z9, rfl, hz9⟩ := hq7
  obtain rfl : kc = kc8 := by omega
  obtain rfl : ks = ks8 := by omega
  refine Or.inr (Or.inl ⟨rfl, ?_⟩)
  refine w_if (c := .ne) (npc := 35) (pt := 39) rfl (fun hc13 => ?_) (fun hc13 => ?_)
  · replace hc13 : z9 ≠ (0 : Int) := hc13
    refine w_const (n := 0) (npc := 40) rfl ?_
    exact w_zret rfl (by omega) (⟨rfl, rfl, rfl, rfl, 0, rfl, by omega⟩) (by omega) (by omega)
  · replace hc13 : ¬ (z9 ≠ (0 : Int)) := hc13
    refine w_const (n := 1) (npc := 36) rfl ?_
    refine w_goto (pt := 40) rfl ?_
    exact w_zret rfl (by omega) (⟨rfl, rfl, rfl, rfl, 1, rfl, by omega⟩) (by omega) (by omega)
set_option maxRecDepth 16384 in
theorem ct_c_countLacks {sl : Int × Int} {x : ai_E} {d : Nat} {T : cm_T} {E : cm_E} {nx : Nat} {a : Nat} (hb_a : 41 ≤ a ∧ a ≤ 77 ∧ a % 4 = 1) {b : Nat} (hb_b : 41 ≤ b ∧ b ≤ 77 ∧ b % 4 = 1) (hI : cs_I T E nx) : cm_ct (ai_ev sl (d + 3)) x 8 [cr a, cr b] T E nx 0 0 (fun rk rv T' E' nx' => rk = 1 ∧ T = T' ∧ E = E' ∧ nx = nx' ∧ ∃ z : Int, rv = ai_i z ∧ (0 ≤ z ∧ z ≤ 300)) := by
  refine cm_body (M := ai_m8) rfl rfl (fun kc ks => ?_)
  show cm_wp (ai_find ai_c8 sl) (ai_ev sl (d + 2)) x (kc + 0) (ks + 0) _ 0 [cr a, cr b, ai_un, ai_un] [] T E nx kc ks
  refine w_const (n := 0) (npc := 1) rfl ?_
  refine w_istore (i := 2) (npc := 2) (loc' := [cr a, cr b, ai_i 0, ai_un]) rfl rfl ?_
  refine w_const (n := 0) (npc := 3) rfl ?_
  refine w_istore (i := 3) (npc := 4) (loc' := [cr a, cr b, ai_i 0, ai_i 0]) rfl rfl ?_
  have loop4 : ∀ (nf : Nat) (c : Int) (i : Int), ((300 - i).toNat) < nf → (0 ≤ c ∧ c ≤ i ∧ i ≤ 300) → cm_wp (ai_find ai_c8 sl) (ai_ev sl (d + 2)) x (kc + 0) (ks + 0) (fun rk rv T' E' nx' => rk = 1 ∧ T = T' ∧ E = E' ∧ nx = nx' ∧ ∃ z : Int, rv = ai_i z ∧ (0 ≤ z ∧ z ≤ 300)) 4 [cr a, cr b, ai_i c, ai_i i] [] T E nx kc ks := by
    intro nf
    induction nf with
    | zero => intro c i hm; exact absurd hm (Nat.not_lt_zero _)
    | succ nf4 ih =>
      intro c i hm4 hv4
      have ih4 := ih; clear ih
      refine w_iload (i := 3) (npc := 5) rfl rfl ?_
      refine w_const (n := 300) (npc := 8) rfl ?_
      refine w_icmp (c := .ge) (npc := 11) (pt := 29) rfl (fun hc1 => ?_) (fun hc1 => ?_)
      · replace hc1 : (300 : Int) ≤ i := hc1
        refine w_iload (i := 2) (npc := 30) rfl rfl ?_
        exact w_iret rfl (⟨rfl, rfl, rfl, rfl, c, rfl, by omega⟩) (by omega) (by omega)
      · replace hc1 : ¬ ((300 : Int) ≤ i) := hc1
        refine w_aload (i := 0) (npc := 12) (v := cr a) rfl rfl rfl ?_
        refine w_aload (i := 1) (npc := 13) (v := cr b) rfl rfl rfl ?_
        refine w_iload (i := 3) (npc := 14) rfl rfl ?_
        refine w_call (npc := 17) (a := [cr a, cr b, ai_i i]) (rest := []) rfl rfl rfl rfl rfl (ct_c_isLack (sl := sl) (x := x) (d := d + 0) (i) (a := a) hb_a (b := b) hb_b hI (by omega)) (Or.inr (fun _ _ _ _ _ hq => by have h1 := hq.1; omega)) (fun k9 v9 T3 E3 nx3 kc3 ks3 hq2 hk3 hv3 => ?_)
        obtain ⟨rfl, rfl, rfl, rfl, z4, rfl, hz4⟩ := hq2
        obtain rfl : kc = kc3 := by omega
        obtain rfl : ks = ks3 := by omega
        refine Or.inr (Or.inl ⟨rfl, ?_⟩)
        refine w_if (c := .eq) (npc := 20) (pt := 23) rfl (fun hc8 => ?_) (fun hc8 => ?_)
        · replace hc8 : z4 = (0 : Int) := hc8
          refine w_iinc (i := 3) (n := 1) (npc := 26) (loc' := [cr a, cr b, ai_i c, ai_i (i + 1)]) rfl rfl (by omega) rfl ?_
          refine w_goto (pt := 4) rfl ?_
          exact ih4 (c) (i + 1) (by omega) (by omega)
        · replace hc8 : ¬ (z4 = (0 : Int)) := hc8
          refine w_iinc (i := 2) (n := 1) (npc := 23) (loc' := [cr a, cr b, ai_i (c + 1), ai_i i]) rfl rfl (by omega) rfl ?_
          refine w_iinc (i := 3) (n := 1) (npc := 26) (loc' := [cr a, cr b, ai_i (c + 1), ai_i (i + 1)]) rfl rfl (by omega) rfl ?_
          refine w_goto (pt := 4) rfl ?_
          exact ih4 (c + 1) (i + 1) (by omega) (by omega)
  exact loop4 _ (0) (0) (Nat.lt_succ_self _) (by omega)
set_option maxRecDepth 16384 in
theorem ct_c_findLack {sl : Int × Int} {x : ai_E} {d : Nat} {T : cm_T} {E : cm_E} {nx : Nat} (n : Int) {a : Nat} (hb_a : 41 ≤ a ∧ a ≤ 77 ∧ a % 4 = 1) {b : Nat} (hb_b : 41 ≤ b ∧ b ≤ 77 ∧ b % 4 = 1) (hI : cs_I T E nx) : cm_ct (ai_ev sl (d + 3)) x 13 [cr a, cr b, ai_i n] T E nx 0 0 (fun rk rv T' E' nx' => rk = 1 ∧ T = T' ∧ E = E' ∧ nx = nx' ∧ ∃ z : Int, rv = ai_i z ∧ (-1 ≤ z ∧ z ≤ 1000)) := by
  refine cm_body (M := ai_m13) rfl rfl (fun kc ks => ?_)
  show cm_wp (ai_find ai_c13 sl) (ai_ev sl (d + 2)) x (kc + 0) (ks + 0) _ 0 [cr a, cr b, ai_i n, ai_un, ai_un] [] T E nx kc ks
  refine w_const (n := 0) (npc := 1) rfl ?_
  refine w_istore (i := 3) (npc := 2) (loc' := [cr a, cr b, ai_i n, ai_i 0, ai_un]) rfl rfl ?_
  refine w_const (n := 0) (npc := 3) rfl ?_
  refine w_istore (i := 4) (npc := 5) (loc' := [cr a, cr b, ai_i n, ai_i 0, ai_i 0]) rfl rfl ?_
  have loop5 : ∀ (nf : Nat) (c : Int) (i : Int), ((300 - i).toNat) < nf → (0 ≤ c ∧ c ≤ i ∧ i ≤ 300) → cm_wp (ai_find ai_c13 sl) (ai_ev sl (d + 2)) x (kc + 0) (ks + 0) (fun rk rv T' E' nx' => rk = 1 ∧ T = T' ∧ E = E' ∧ nx = nx' ∧ ∃ z : Int, rv = ai_i z ∧ (-1 ≤ z ∧ z ≤ 1000)) 5 [cr a, cr b, ai_i n, ai_i c, ai_i i] [] T E nx kc ks := by
    intro nf
    induction nf with
    | zero => intro c i hm; exact absurd hm (Nat.not_lt_zero _)
    | succ nf5 ih =>
      intro c i hm5 hv5
      have ih5 := ih; clear ih
      refine w_iload (i := 4) (npc := 7) rfl rfl ?_
      refine w_const (n := 300) (npc := 10) rfl ?_
      refine w_icmp (c := .ge) (npc := 13) (pt := 43) rfl (fun hc1 => ?_) (fun hc1 => ?_)
      · replace hc1 : (300 : Int) ≤ i := hc1
        refine w_const (n := (-1)) (npc := 44) rfl ?_
        exact w_iret rfl (⟨rfl, rfl, rfl, rfl, (-1), rfl, by omega⟩) (by omega) (by omega)
      · replace hc1 : ¬ ((300 : Int) ≤ i) := hc1
        refine w_aload (i := 0) (npc := 14) (v := cr a) rfl rfl rfl ?_
        refine w_aload (i := 1) (npc := 15) (v := cr b) rfl rfl rfl ?_
        refine w_iload (i := 4) (npc := 17) rfl rfl ?_
        refine w_call (npc := 20) (a := [cr a, cr b, ai_i i]) (rest := []) rfl rfl rfl rfl rfl (ct_c_isLack (sl := sl) (x := x) (d := d + 0) (i) (a := a) hb_a (b := b) hb_b hI (by omega)) (Or.inr (fun _ _ _ _ _ hq => by have h1 := hq.1; omega)) (fun k9 v9 T3 E3 nx3 kc3 ks3 hq2 hk3 hv3 => ?_)
        obtain ⟨rfl, rfl, rfl, rfl, z4, rfl, hz4⟩ := hq2
        obtain rfl : kc = kc3 := by omega
        obtain rfl : ks = ks3 := by omega
        refine Or.inr (Or.inl ⟨rfl, ?_⟩)
        refine w_if (c := .eq) (npc := 23) (pt := 37) rfl (fun hc8 => ?_) (fun hc8 => ?_)
        · replace hc8 : z4 = (0 : Int) := hc8
          refine w_iinc (i := 4) (n := 1) (npc := 40) (loc' := [cr a, cr b, ai_i n, ai_i c, ai_i (i + 1)]) rfl rfl (by omega) rfl ?_
          refine w_goto (pt := 5) rfl ?_
          exact ih5 (c) (i + 1) (by omega) (by omega)
        · replace hc8 : ¬ (z4 = (0 : Int)) := hc8
          refine w_iload (i := 3) (npc := 24) rfl rfl ?_
          refine w_iload (i := 2) (npc := 25) rfl rfl ?_
          refine w_icmp (c := .ne) (npc := 28) (pt := 34) rfl (fun hc10 => ?_) (fun hc10 => ?_)
          · replace hc10 : c ≠ n := hc10
            refine w_iinc (i := 3) (n := 1) (npc := 37) (loc' := [cr a, cr b, ai_i n, ai_i (c + 1), ai_i i]) rfl rfl (by omega) rfl ?_
            refine w_iinc (i := 4) (n := 1) (npc := 40) (loc' := [cr a, cr b, ai_i n, ai_i (c + 1), ai_i (i + 1)]) rfl rfl (by omega) rfl ?_
            refine w_goto (pt := 5) rfl ?_
            exact ih5 (c + 1) (i + 1) (by omega) (by omega)
          · replace hc10 : ¬ (c ≠ n) := hc10
            refine w_iload (i := 4) (npc := 30) rfl rfl ?_
            refine w_call (npc := 33) (a := [ai_i i]) (rest := []) rfl rfl rfl rfl rfl (ct_c_markOf (sl := sl) (x := x) (d := d + 1) (i) (by omega)) (Or.inr (fun _ _ _ _ _ hq => by have h1 := hq.1; omega)) (fun k9 v9 T14 E14 nx14 kc14 ks14 hq13 hk14 hv14 => ?_)
            obtain ⟨rfl, rfl, rfl, rfl, z15, rfl, hz15⟩ := hq13
            obtain rfl : kc = kc14 := by omega
            obtain rfl : ks = ks14 := by omega
            refine Or.inr (Or.inl ⟨rfl, ?_⟩)
            exact w_iret rfl (⟨rfl, rfl, rfl, rfl, z15, rfl, by omega⟩) (by omega) (by omega)
  exact loop5 _ (0) (0) (Nat.lt_succ_self _) (by omega)
set_option maxRecDepth 16384 in
theorem ct_c_feedFour {sl : Int × Int} {x : ai_E} {d : Nat} {T : cm_T} {E : cm_E} {nx : Nat} (v : Int)  (hI : cs_I T E nx) : cm_ct (ai_ev sl (d + 1)) x 11 [cr 0, ai_i v] T E nx 0 0 (fun rk rv T' E' nx' => rk = 0 ∧ T = T' ∧ nx = nx' ∧ cs_I T E' nx ∧ cm_fr (fun i k => i = 5 ∨ (i = 0 ∧ k = 11)) E E' ∧ (gv E 0 11 ≤ 396 → gv E' 0 11 = gv E 0 11 + 4)) := by
  refine cm_body (M := ai_m11) rfl rfl (fun kc ks => ?_)
  show cm_wp (ai_find ai_c11 sl) (ai_ev sl (d + 0)) x (kc + 0) (ks + 0) _ 0 [cr 0, ai_i v, ai_un] [] T E nx kc ks
  have hF : cm_fr (fun i k => i = 5 ∨ (i = 0 ∧ k = 11)) E E := fun _ _ _ => rfl
  refine w_const (n := 24) (npc := 2) rfl ?_
  refine w_istore (i := 2) (npc := 3) (loc' := [cr 0, ai_i v, ai_i 24]) rfl rfl ?_
  have loop3 : ∀ (nf : Nat) (h : Int) (Eq3 : cm_E), ((h + 8).toNat) < nf → cs_I T Eq3 nx → cm_fr (fun i k => i = 5 ∨ (i = 0 ∧ k = 11)) E Eq3 → (-8 ≤ h ∧ h ≤ 24 ∧ h % 8 = 0 ∧ (gv E 0 11 ≤ 396 → gv Eq3 0 11 = gv E 0 11 + (24 - h) / 8)) → cm_wp (ai_find ai_c11 sl) (ai_ev sl (d + 0)) x (kc + 0) (ks + 0) (fun rk rv T' E' nx' => rk = 0 ∧ T = T' ∧ nx = nx' ∧ cs_I T E' nx ∧ cm_fr (fun i k => i = 5 ∨ (i = 0 ∧ k = 11)) E E' ∧ (gv E 0 11 ≤ 396 → gv E' 0 11 = gv E 0 11 + 4)) 3 [cr 0, ai_i v, ai_i h] [] T Eq3 nx kc ks := by
    intro nf
    induction nf with
    | zero => intro h Eq3 hm; exact absurd hm (Nat.not_lt_zero _)
    | succ nf3 ih =>
      intro h Eq3 hm3 hI3 hF3 hv3
      obtain ⟨z1, hz1, hz1a, hz1b⟩ := hI3.int 0 11 (lo := 0) (hi := 400) (by decide) (by decide) rfl
      have ghz1 := gv_eq hz1
      have ih3 := ih; clear ih
      refine w_iload (i := 2) (npc := 4) rfl rfl ?_
      refine w_if (c := .lt) (npc := 7) (pt := 49) rfl (fun hc2 => ?_) (fun hc2 => ?_)
      · replace hc2 : h < (0 : Int) := hc2
        exact w_vret rfl (⟨rfl, rfl, rfl, hI3, hF3, by omega⟩) (by omega) (by omega)
      · replace hc2 : ¬ (h < (0 : Int)) := hc2
        refine w_aload (i := 0) (npc := 8) (v := cr 0) rfl rfl rfl ?_
        refine w_getf (i := 0) (ci := 7) (k := 11) (npc := 11) rfl (hI3.pl (by decide)) (hI3.T (by decide) rfl) (by decide) hz1 ?_
        refine w_const (n := 400) (npc := 14) rfl ?_
        refine w_icmp (c := .ge) (npc := 17) (pt := 43) rfl (fun hc3 => ?_) (fun hc3 => ?_)
        · replace hc3 : (400 : Int) ≤ z1 := hc3
          refine w_iinc (i := 2) (n := (-8)) (npc := 46) (loc' := [cr 0, ai_i v, ai_i (h + (-8))]) rfl rfl (by omega) rfl ?_
          refine w_goto (pt := 3) rfl ?_
          exact ih3 (h + (-8)) Eq3 (by omega) hI3 hF3 (by omega)
        · replace hc3 : ¬ ((400 : Int) ≤ z1) := hc3
          refine w_aload (i := 0) (npc := 18) (v := cr 0) rfl rfl rfl ?_
          refine w_getf (i := 0) (ci := 7) (k := 4) (npc := 21) rfl (hI3.pl (by decide)) (hI3.T (by decide) rfl) (by decide) (hI3.ref 0 4 (p := 5) (by decide) (by decide) rfl) ?_
          refine w_aload (i := 0) (npc := 22) (v := cr 0) rfl rfl rfl ?_
          refine w_getf (i := 0) (ci := 7) (k := 11) (npc := 25) rfl (hI3.pl (by decide)) (hI3.T (by decide) rfl) (by decide) hz1 ?_
          refine w_iload (i := 1) (npc := 26) rfl rfl ?_
          refine w_iload (i := 2) (npc := 27) rfl rfl ?_
          refine w_con (npc := 28) rfl (fun z5 hz5 hz5b => ?_)
          refine w_const (n := 255) (npc := 31) rfl ?_
          refine w_iand (npc := 32) rfl (by omega) (fun z6 hz6 hz6b => ?_)
          refine w_ast (i := 5) (k := 1) (n := 400) (npc := 33) rfl (hI3.pl (by decide)) (hI3.T (by decide) rfl) (by decide) (by omega) cm_af1 ?_
          have hI8 := hI3.puti (i := 5) (k := (z1 : Int).toNat) (z := z6) (lo := 0) (hi := 255) (by decide) rfl (by omega)
          have hF10 := cm_fr.up (i := 5) (k := (z1 : Int).toNat) (v := ai_i z6) hF3 (by first | omega | (simp; done) | (simp; omega) | (simp only; omega))
          generalize hE9 : cm_up Eq3 5 ((z1 : Int).toNat) (ai_i z6) = E7 at hI8 hF10 ⊢
          have hz11 : E7 0 11 = ai_i z1 := by rw [← hE9, cm_up_nei _ _ (by decide)]; exact hz1
          have ghz11 := gv_eq hz11
          have hz12 : E7 5 ((z1 : Int).toNat) = ai_i z6 := by rw [← hE9, cm_up_eq]
          have ghz12 := gv_eq hz12
          refine w_aload (i := 0) (npc := 34) (v := cr 0) rfl rfl rfl ?_
          refine w_dup (npc := 35) rfl rfl ?_
          refine w_getf (i := 0) (ci := 7) (k := 11) (npc := 38) rfl (hI8.pl (by decide)) (hI8.T (by decide) rfl) (by decide) hz11 ?_
          refine w_const (n := 1) (npc := 39) rfl ?_
          refine w_iadd (npc := 40) rfl (by omega) ?_
          refine w_putf (i := 0) (ci := 7) (k := 11) (t := 0) (npc := 43) rfl (hI8.pl (by decide)) (hI8.T (by decide) rfl) (by decide) cm_fit0 ?_
          have hI15 := hI8.puti (i := 0) (k := 11) (z := z1 + 1) (lo := 0) (hi := 400) (by decide) rfl (by omega)
          have hF17 := cm_fr.up (i := 0) (k := 11) (v := ai_i (z1 + 1)) hF10 (by first | omega | (simp; done) | (simp; omega) | (simp only; omega))
          generalize hE16 : cm_up E7 0 11 (ai_i (z1 + 1)) = E14 at hI15 hF17 ⊢
          have hz18 : E14 5 ((z1 : Int).toNat) = ai_i z6 := by rw [← hE16, cm_up_nei _ _ (by decide)]; exact hz12
          have ghz18 := gv_eq hz18
          have hz19 : E14 0 11 = ai_i (z1 + 1) := by rw [← hE16, cm_up_eq]
          have ghz19 := gv_eq hz19
          refine w_iinc (i := 2) (n := (-8)) (npc := 46) (loc' := [cr 0, ai_i v, ai_i (h + (-8))]) rfl rfl (by omega) rfl ?_
          refine w_goto (pt := 3) rfl ?_
          exact ih3 (h + (-8)) E14 (by omega) hI15 hF17 (by omega)
  exact loop3 _ (24) E (Nat.lt_succ_self _) hI hF (by omega)
