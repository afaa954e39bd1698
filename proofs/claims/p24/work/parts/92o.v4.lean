theorem ct_ty_walk2 {sl : Int × Int} {x : ai_E} {d : Nat} {T : cm_T} {E : cm_E} {nx : Nat} (pf lf sf told : Nat → Int) (n : Nat) (m : Int) (kf : Nat) (w : Nat → Int) (q : Int × (Nat → Int)) (A : sA) (t : Int) (hI : cs_I T E nx) (hp0 : 0 ≤ t ∧ t ≤ 8 ∧ t + (kf : Int) = (n : Int) ∧ n ≤ 8) (hp1 : gv E 40 t.toNat = q.1 ∧ ∀ j : Nat, (j : Int) < q.1 → gv E (31 + t.toNat) j = q.2 j) (hp2 : ∀ k : Nat, (k : Int) < t → gv E 28 k = w k) (hp3 : gv E 23 8 = m ∧ gv E 23 9 = (n : Int)) (hp4 : ∀ j : Nat, (j : Int) < m → gv E 24 j = told j) (hp5 : ∀ a : Nat, a < n → gv E 25 a = pf a ∧ gv E 26 a = lf a ∧ gv E 27 a = sf a) (hp6 : mA E n A) (hp7 : 0 ≤ A.1 ∧ A.1 + (pw kf : Int) ≤ 200000) : cm_ct (ai_ev sl (d + 10)) x 102 [cr 23, ai_i t] T E nx 0 0 (fun rk rv T' E' nx' => rk = 0 ∧ T = T' ∧ nx = nx' ∧ cs_I T E' nx ∧ cm_fr (fun i k => (i = 28 ∧ t.toNat ≤ k) ∨ i = 29 ∨ (32 + t.toNat ≤ i ∧ i ≤ 39) ∨ (i = 40 ∧ t.toNat < k) ∨ (i = 23 ∧ (k = 10 ∨ k = 11))) E E' ∧ (mA E' n (sq pf lf sf n told m kf t.toNat w q A))) := by
  have key : ∀ (k : Nat) (kf : Nat) (w : Nat → Int) (q : Int × (Nat → Int)) (A : sA) (t : Int) (E : cm_E), kf ≤ k → cs_I T E nx → (0 ≤ t ∧ t ≤ 8 ∧ t + (kf : Int) = (n : Int) ∧ n ≤ 8) → (gv E 40 t.toNat = q.1 ∧ ∀ j : Nat, (j : Int) < q.1 → gv E (31 + t.toNat) j = q.2 j) → (∀ k : Nat, (k : Int) < t → gv E 28 k = w k) → (gv E 23 8 = m ∧ gv E 23 9 = (n : Int)) → (∀ j : Nat, (j : Int) < m → gv E 24 j = told j) → (∀ a : Nat, a < n → gv E 25 a = pf a ∧ gv E 26 a = lf a ∧ gv E 27 a = sf a) → (mA E n A) → (0 ≤ A.1 ∧ A.1 + (pw kf : Int) ≤ 200000) → cm_ct (ai_ev sl (d + k + 2)) x 102 [cr 23, ai_i t] T E nx 0 0 (fun rk rv T' E' nx' => rk = 0 ∧ T = T' ∧ nx = nx' ∧ cs_I T E' nx ∧ cm_fr (fun i k => (i = 28 ∧ t.toNat ≤ k) ∨ i = 29 ∨ (32 + t.toNat ≤ i ∧ i ≤ 39) ∨ (i = 40 ∧ t.toNat < k) ∨ (i = 23 ∧ (k = 10 ∨ k = 11))) E E' ∧ (mA E' n (sq pf lf sf n told m kf t.toNat w q A))) := by
    intro k
    induction k with
    | zero => exact fun kf w q A t E hk hI p0 p1 p2 p3 p4 p5 p6 p7 => ct_ty_walk2_s (d := d) pf lf sf told n m kf w q A t hI p0 p1 p2 p3 p4 p5 p6 p7 (fun k1 _ _ _ _ h => absurd h (by omega))
    | succ k ih => exact fun kf w q A t E hk hI p0 p1 p2 p3 p4 p5 p6 p7 => ct_ty_walk2_s (d := d + k + 1) pf lf sf told n m kf w q A t hI p0 p1 p2 p3 p4 p5 p6 p7 (fun k1 w1 q1 A1 E1 h hI1 r0 r1 r2 r3 r4 r5 r6 r7 => ih k1 w1 q1 A1 (t + 1) E1 (by omega) hI1 r0 r1 r2 r3 r4 r5 r6 r7)
  exact key 8 kf w q A t E (by omega) hI hp0 hp1 hp2 hp3 hp4 hp5 hp6 hp7
theorem pw_le {n : Nat} (h : n ≤ 8) : pw n ≤ 6561 := by
  have h1 : n = 0 ∨ n = 1 ∨ n = 2 ∨ n = 3 ∨ n = 4 ∨ n = 5 ∨ n = 6 ∨ n = 7 ∨ n = 8 := by omega
  rcases h1 with rfl | rfl | rfl | rfl | rfl | rfl | rfl | rfl | rfl <;> decide
set_option maxRecDepth 16384 in
theorem ct_ty_solve2 {sl : Int × Int} {x : ai_E} {d : Nat} {T : cm_T} {E : cm_E} {nx : Nat} (pf lf sf told : Nat → Int) (n : Nat) (m : Int)  (hI : cs_I T E nx) (hp0 : gv E 23 8 = m ∧ gv E 23 9 = (n : Int) ∧ n ≤ 8) (hp1 : ∀ j : Nat, (j : Int) < m → gv E 24 j = told j) (hp2 : ∀ a : Nat, a < n → gv E 25 a = pf a ∧ gv E 26 a = lf a ∧ gv E 27 a = sf a) (hp3 : gv E 23 12 = 1 → sol E pf lf sf n told m) : cm_ct (ai_ev sl (d + 11)) x 101 [cr 23] T E nx 0 0 (fun rk rv T' E' nx' => rk = 0 ∧ T = T' ∧ nx = nx' ∧ cs_I T E' nx ∧ cm_fr (fun i k => (28 ≤ i ∧ i ≤ 40) ∨ (i = 23 ∧ (k = 10 ∨ k = 11 ∨ k = 12))) E E' ∧ (gv E' 23 12 = 1 ∧ sol E' pf lf sf n told m)) := by
  refine cm_body (M := ai_m101) rfl rfl (fun kc ks => ?_)
  show cm_wp (ai_find ai_c101 sl) (ai_ev sl (d + 10)) x (kc + 0) (ks + 0) _ 0 [cr 23] [] T E nx kc ks
  have hF : cm_fr (fun i k => (28 ≤ i ∧ i ≤ 40) ∨ (i = 23 ∧ (k = 10 ∨ k = 11 ∨ k = 12))) E E := fun _ _ _ => rfl
  obtain ⟨z1, hz1, hz1a, hz1b⟩ := hI.int 23 12 (lo := 0) (hi := 1) (by decide) (by decide) rfl
  have ghz1 := gv_eq hz1
  refine w_aload (i := 0) (npc := 1) (v := cr 23) rfl rfl rfl ?_
  refine w_getf (i := 23) (ci := 5) (k := 12) (npc := 4) rfl (hI.pl (by decide)) (hI.T (by decide) rfl) (by decide) hz1 ?_
  refine w_if (c := .ne) (npc := 7) (pt := 34) rfl (fun hc2 => ?_) (fun hc2 => ?_)
  · replace hc2 : z1 ≠ (0 : Int) := hc2
    exact w_vret rfl (⟨rfl, rfl, rfl, hI, hF, ⟨by omega, hp3 (by omega)⟩⟩) (by omega) (by omega)
  · replace hc2 : ¬ (z1 ≠ (0 : Int)) := hc2
    refine w_aload (i := 0) (npc := 8) (v := cr 23) rfl rfl rfl ?_
    refine w_const (n := 0) (npc := 9) rfl ?_
    refine w_putf (i := 23) (ci := 5) (k := 10) (t := 0) (npc := 12) rfl (hI.pl (by decide)) (hI.T (by decide) rfl) (by decide) cm_fit0 ?_
    have hI4 := hI.puti (i := 23) (k := 10) (z := 0) (lo := (-2147483648)) (hi := 2147483647) (by decide) rfl (by omega)
    have hF6 := cm_fr.up (i := 23) (k := 10) (v := ai_i 0) hF (by first | omega | (simp; done) | (simp; omega) | (simp only; omega))
    generalize hE5 : cm_up E 23 10 (ai_i 0) = E3 at hI4 hF6 ⊢
    have hz7 : E3 23 12 = ai_i z1 := by rw [← hE5, cm_up_ne _ _ (by decide)]; exact hz1
    have ghz7 := gv_eq hz7
    have hz8 : E3 23 10 = ai_i 0 := by rw [← hE5, cm_up_eq]
    have ghz8 := gv_eq hz8
    refine w_aload (i := 0) (npc := 13) (v := cr 23) rfl rfl rfl ?_
    refine w_const (n := 0) (npc := 14) rfl ?_
    refine w_putf (i := 23) (ci := 5) (k := 11) (t := 0) (npc := 17) rfl (hI4.pl (by decide)) (hI4.T (by decide) rfl) (by decide) cm_fit0 ?_
    have hI10 := hI4.puti (i := 23) (k := 11) (z := 0) (lo := (-2147483648)) (hi := 2147483647) (by decide) rfl (by omega)
    have hF12 := cm_fr.up (i := 23) (k := 11) (v := ai_i 0) hF6 (by first | omega | (simp; done) | (simp; omega) | (simp only; omega))
    generalize hE11 : cm_up E3 23 11 (ai_i 0) = E9 at hI10 hF12 ⊢
    have hz13 : E9 23 12 = ai_i z1 := by rw [← hE11, cm_up_ne _ _ (by decide)]; exact hz7
    have ghz13 := gv_eq hz13
    have hz14 : E9 23 10 = ai_i 0 := by rw [← hE11, cm_up_ne _ _ (by decide)]; exact hz8
    have ghz14 := gv_eq hz14
    have hz15 : E9 23 11 = ai_i 0 := by rw [← hE11, cm_up_eq]
    have ghz15 := gv_eq hz15
    refine w_aload (i := 0) (npc := 18) (v := cr 23) rfl rfl rfl ?_
    refine w_getf (i := 23) (ci := 5) (k := 7) (npc := 21) rfl (hI10.pl (by decide)) (hI10.T (by decide) rfl) (by decide) (hI10.ref 23 7 (p := 40) (by decide) (by decide) rfl) ?_
    refine w_const (n := 0) (npc := 22) rfl ?_
    refine w_const (n := 0) (npc := 23) rfl ?_
    refine w_ast (i := 40) (k := 1) (n := 9) (npc := 24) rfl (hI10.pl (by decide)) (hI10.T (by decide) rfl) (by decide) (by omega) cm_af1 ?_
    have hI17 := hI10.puti (i := 40) (k := (0 : Int).toNat) (z := 0) (lo := 0) (hi := 8) (by decide) rfl (by omega)
    have hF19 := cm_fr.up (i := 40) (k := (0 : Int).toNat) (v := ai_i 0) hF12 (by first | omega | (simp; done) | (simp; omega) | (simp only; omega))
    generalize hE18 : cm_up E9 40 ((0 : Int).toNat) (ai_i 0) = E16 at hI17 hF19 ⊢
    have hz20 : E16 23 12 = ai_i z1 := by rw [← hE18, cm_up_nei _ _ (by decide)]; exact hz13
    have ghz20 := gv_eq hz20
    have hz21 : E16 23 10 = ai_i 0 := by rw [← hE18, cm_up_nei _ _ (by decide)]; exact hz14
    have ghz21 := gv_eq hz21
    have hz22 : E16 23 11 = ai_i 0 := by rw [← hE18, cm_up_nei _ _ (by decide)]; exact hz15
    have ghz22 := gv_eq hz22
    have hz23 : E16 40 ((0 : Int).toNat) = ai_i 0 := by rw [← hE18, cm_up_eq]
    have ghz23 := gv_eq hz23
    refine w_aload (i := 0) (npc := 25) (v := cr 23) rfl rfl rfl ?_
    refine w_const (n := 0) (npc := 26) rfl ?_
    refine w_virt (ci := 5) (i := 23) (npc := 29) (a := [cr 23, ai_i 0]) (rest := []) rfl rfl (hI17.pl (by decide)) (hI17.T (by decide) rfl) rfl rfl rfl rfl (ct_ty_walk2 (sl := sl) (x := x) (d := d + 0) pf lf sf told n m n (fun _ => 0) (0, fun _ => 0) (0, 0, fun k => gv E16 29 k) (0) hI17 (by omega) ⟨by omega, fun j hj => absurd hj (by show ¬ ((j : Int) < 0); omega)⟩ (fun k hk => absurd hk (by omega)) ⟨(by rw [← gv_fr hF19 (by omega)]; exact hp0.1), (by rw [← gv_fr hF19 (by omega)]; exact hp0.2.1)⟩ (fun j hj => (by rw [← gv_fr hF19 (by omega)]; exact hp1 j hj)) (fun a ha => ⟨(by rw [← gv_fr hF19 (by omega)]; exact (hp2 a ha).1), (by rw [← gv_fr hF19 (by omega)]; exact (hp2 a ha).2.1), (by rw [← gv_fr hF19 (by omega)]; exact (hp2 a ha).2.2)⟩) ⟨by omega, by omega, fun j _ => rfl⟩ (by have h9 := pw_le hp0.2.2; show (0 : Int) ≤ 0 ∧ 0 + (pw n : Int) ≤ 200000; omega)) (Or.inl rfl) (fun k9 v9 T25 E25 nx25 kc25 ks25 hq24 hk25 hv25 => ?_)
    obtain ⟨rfl, rfl, rfl, hI27, hG28, hz26⟩ := hq24
    obtain rfl : kc = kc25 := by omega
    obtain rfl : ks = ks25 := by omega
    have hF30 := cm_fr.trans hF19 hG28 (by intro i k h; (try simp only at h); (try simp only); omega)
    refine Or.inl ⟨rfl, ?_⟩
    refine w_aload (i := 0) (npc := 30) (v := cr 23) rfl rfl rfl ?_
    refine w_const (n := 1) (npc := 31) rfl ?_
    refine w_putf (i := 23) (ci := 5) (k := 12) (t := 1) (npc := 34) rfl (hI27.pl (by decide)) (hI27.T (by decide) rfl) (by decide) (cm_fit1 (by omega)) ?_
    have hI32 := hI27.puti (i := 23) (k := 12) (z := 1) (lo := 0) (hi := 1) (by decide) rfl (by omega)
    have hF34 := cm_fr.up (i := 23) (k := 12) (v := ai_i 1) hF30 (by first | omega | (simp; done) | (simp; omega) | (simp only; omega))
    generalize hE33 : cm_up E25 23 12 (ai_i 1) = E31 at hI32 hF34 ⊢
    have hz35 : E31 23 12 = ai_i 1 := by rw [← hE33, cm_up_eq]
    have ghz35 := gv_eq hz35
    exact w_vret rfl (⟨rfl, rfl, rfl, hI32, hF34, ⟨by omega, ⟨fun k => gv E16 29 k, by rw [← hE33]; exact mA.wr hz26 (by decide)⟩⟩⟩) (by omega) (by omega)
set_option maxRecDepth 16384 in
theorem ct_c_story2 {sl : Int × Int} {x : ai_E} {d : Nat} {T : cm_T} {E : cm_E} {nx : Nat} (pf lf sf told : Nat → Int) (n : Nat) (m : Int) (c : Int)  (hI : cs_I T E nx) (hN : hn E) (hp0 : gv E 23 8 = m ∧ gv E 23 9 = (n : Int) ∧ n ≤ 8) (hp1 : ∀ j : Nat, (j : Int) < m → gv E 24 j = told j) (hp2 : ∀ a : Nat, a < n → gv E 25 a = pf a ∧ gv E 26 a = lf a ∧ gv E 27 a = sf a) (hp3 : gv E 23 12 = 1 → sol E pf lf sf n told m) (hp4 : -2147483648 ≤ c ∧ c ≤ 2147483647) : cm_ct (ai_ev sl (d + 12)) x 37 [cr 0, ai_i c] T E nx 4 430 (fun rk rv T' E' nx' => (rk = 2 ∧ T = T' ∧ nx = nx' ∧ cs_I T E' nx ∧ cm_fr (fun i k => (28 ≤ i ∧ i ≤ 40) ∨ (i = 23 ∧ (k = 10 ∨ k = 11 ∨ k = 12))) E E' ∧ hn E' ∧ ((gv E' 23 12 = 1 ∧ sol E' pf lf sf n told m) ∧ ∃ fi : Nat → Int, stv (sq pf lf sf n told m n 0 (fun _ => 0) (0, fun _ => 0) (0, 0, fi)) n c = none)) ∨ (rk = 1 ∧ T = T' ∧ nx = nx' ∧ cs_I T E' nx ∧ cm_fr (fun i k => (28 ≤ i ∧ i ≤ 40) ∨ (i = 23 ∧ (k = 10 ∨ k = 11 ∨ k = 12))) E E' ∧ hn E' ∧ ∃ z : Int, rv = ai_i z ∧ ((gv E' 23 12 = 1 ∧ sol E' pf lf sf n told m) ∧ ∃ fi : Nat → Int, stv (sq pf lf sf n told m n 0 (fun _ => 0) (0, fun _ => 0) (0, 0, fi)) n c = some z))) := by
  refine cm_body (M := ai_m37) rfl rfl (fun kc ks => ?_)
  show cm_wp (ai_find ai_c37 sl) (ai_ev sl (d + 11)) x (kc + 4) (ks + 430) _ 0 [cr 0, ai_i c] [] T E nx kc ks
  have hF : cm_fr (fun i k => (28 ≤ i ∧ i ≤ 40) ∨ (i = 23 ∧ (k = 10 ∨ k = 11 ∨ k = 12))) E E := fun _ _ _ => rfl
  obtain ⟨z1, hz1, hz1a, hz1b⟩ := hI.int 23 9 (lo := 0) (hi := 8) (by decide) (by decide) rfl
  have ghz1 := gv_eq hz1
  refine w_aload (i := 0) (npc := 1) (v := cr 0) rfl rfl rfl ?_
  refine w_getf (i := 0) (ci := 7) (k := 9) (npc := 4) rfl (hI.pl (by decide)) (hI.T (by decide) rfl) (by decide) (hI.ref 0 9 (p := 23) (by decide) (by decide) rfl) ?_
  refine w_virt (ci := 5) (i := 23) (npc := 7) (a := [cr 23]) (rest := []) rfl rfl (hI.pl (by decide)) (hI.T (by decide) rfl) rfl rfl rfl rfl (ct_ty_solve2 (sl := sl) (x := x) (d := d + 0) pf lf sf told n m  hI hp0 hp1 hp2 hp3) (Or.inl rfl) (fun k9 v9 T3 E3 nx3 kc3 ks3 hq2 hk3 hv3 => ?_)
  obtain ⟨rfl, rfl, rfl, hI5, hG6, hz4⟩ := hq2
  obtain rfl : kc = kc3 := by omega
  obtain rfl : ks = ks3 := by omega
  have hF8 := cm_fr.trans hF hG6 (by intro i k h; (try simp only at h); (try simp only); omega)
  have hN9 := hN.fr hG6 (by intro i k h; (try simp only at h); omega)
  have hz10 : E3 23 9 = ai_i z1 := (hG6 23 9 (by first | omega | (simp; done) | (simp; omega) | (simp only; omega))).trans hz1
  have ghz10 := gv_eq hz10
  refine Or.inl ⟨rfl, ?_⟩
  have hsl9 := hz4
  obtain ⟨h12, fi, hm1, hm2, hm3⟩ := hz4
  generalize hRe : sq pf lf sf n told m n 0 (fun _ => 0) (0, fun _ => 0) (0, 0, fi) = R at hm1 hm2 hm3
  obtain ⟨z11, hz11, hz11a, hz11b⟩ := hI5.int 23 10 (lo := (-2147483648)) (hi := 2147483647) (by decide) (by decide) rfl
  have ghz11 := gv_eq hz11
  obtain ⟨z12, hz12, hz12a, hz12b⟩ := hI5.int 23 11 (lo := (-2147483648)) (hi := 2147483647) (by decide) (by decide) rfl
  have ghz12 := gv_eq hz12
  refine w_iload (i := 1) (npc := 8) rfl rfl ?_
  refine w_if (c := .ne) (npc := 11) (pt := 19) rfl (fun hc13 => ?_) (fun hc13 => ?_)
  · replace hc13 : c ≠ (0 : Int) := hc13
    refine w_iload (i := 1) (npc := 20) rfl rfl ?_
    refine w_const (n := 1) (npc := 21) rfl ?_
    refine w_icmp (c := .ne) (npc := 24) (pt := 32) rfl (fun hc14 => ?_) (fun hc14 => ?_)
    · replace hc14 : c ≠ (1 : Int) := hc14
      refine w_iload (i := 1) (npc := 33) rfl rfl ?_
      refine w_const (n := 10) (npc := 35) rfl ?_
      refine w_icmp (c := .lt) (npc := 38) (pt := 62) rfl (fun hc15 => ?_) (fun hc15 => ?_)
      · replace hc15 : c < (10 : Int) := hc15
        exact w_throw (k := 2) rfl (Or.inl ⟨rfl, rfl, rfl, hI5, hF8, hN9, ⟨hsl9, fi, by rw [hRe]; unfold stv; rw [if_neg (by omega), if_neg (by omega), if_pos (by omega)]⟩⟩) (by omega) (by omega)
      · replace hc15 : ¬ (c < (10 : Int)) := hc15
        refine w_iload (i := 1) (npc := 39) rfl rfl ?_
        refine w_const (n := 10) (npc := 41) rfl ?_
        refine w_isub (npc := 42) rfl (by omega) ?_
        refine w_aload (i := 0) (npc := 43) (v := cr 0) rfl rfl rfl ?_
        refine w_getf (i := 0) (ci := 7) (k := 9) (npc := 46) rfl (hI5.pl (by decide)) (hI5.T (by decide) rfl) (by decide) (hI5.ref 0 9 (p := 23) (by decide) (by decide) rfl) ?_
        refine w_getf (i := 23) (ci := 5) (k := 9) (npc := 49) rfl (hI5.pl (by decide)) (hI5.T (by decide) rfl) (by decide) hz10 ?_
        refine w_icmp (c := .ge) (npc := 52) (pt := 62) rfl (fun hc17 => ?_) (fun hc17 => ?_)
        · replace hc17 : z1 ≤ c - 10 := hc17
          exact w_throw (k := 2) rfl (Or.inl ⟨rfl, rfl, rfl, hI5, hF8, hN9, ⟨hsl9, fi, by rw [hRe]; unfold stv; rw [if_neg (by omega), if_neg (by omega), if_pos (by omega)]⟩⟩) (by omega) (by omega)
        · replace hc17 : ¬ (z1 ≤ c - 10) := hc17
          refine w_aload (i := 0) (npc := 53) (v := cr 0) rfl rfl rfl ?_
          refine w_getf (i := 0) (ci := 7) (k := 9) (npc := 56) rfl (hI5.pl (by decide)) (hI5.T (by decide) rfl) (by decide) (hI5.ref 0 9 (p := 23) (by decide) (by decide) rfl) ?_
          refine w_getf (i := 23) (ci := 5) (k := 10) (npc := 59) rfl (hI5.pl (by decide)) (hI5.T (by decide) rfl) (by decide) hz11 ?_
          refine w_if (c := .ne) (npc := 62) (pt := 73) rfl (fun hc18 => ?_) (fun hc18 => ?_)
          · replace hc18 : z11 ≠ (0 : Int) := hc18
            refine w_aload (i := 0) (npc := 74) (v := cr 0) rfl rfl rfl ?_
            refine w_getf (i := 0) (ci := 7) (k := 9) (npc := 77) rfl (hI5.pl (by decide)) (hI5.T (by decide) rfl) (by decide) (hI5.ref 0 9 (p := 23) (by decide) (by decide) rfl) ?_
            refine w_getf (i := 23) (ci := 5) (k := 5) (npc := 80) rfl (hI5.pl (by decide)) (hI5.T (by decide) rfl) (by decide) (hI5.ref 23 5 (p := 29) (by decide) (by decide) rfl) ?_
            refine w_iload (i := 1) (npc := 81) rfl rfl ?_
            refine w_const (n := 10) (npc := 83) rfl ?_
            refine w_isub (npc := 84) rfl (by omega) ?_
            obtain ⟨z20, hz20, hz20a, hz20b⟩ := hI5.int 29 (c - 10 : Int).toNat (lo := 0) (hi := 2) (by decide) (show (c - 10 : Int).toNat < 8 by omega) rfl
            have ghz20 := gv_eq hz20
            refine w_ald (i := 29) (t := 1) (n := 8) (npc := 85) rfl (hI5.pl (by decide)) (hI5.T (by decide) rfl) (by decide) rfl (by omega) hz20 ?_
            exact w_iret rfl (Or.inr (⟨rfl, rfl, rfl, hI5, hF8, hN9, z20, rfl, ⟨hsl9, fi, by rw [hRe]; unfold stv; rw [if_neg (by omega), if_neg (by omega), if_neg (by omega)]; congr 1; have e9 := hm3 (c - 10).toNat (by omega); omega⟩⟩)) (by omega) (by omega)
          · replace hc18 : ¬ (z11 ≠ (0 : Int)) := hc18
            exact w_throw (k := 2) rfl (Or.inl ⟨rfl, rfl, rfl, hI5, hF8, hN9, ⟨hsl9, fi, by rw [hRe]; unfold stv; rw [if_neg (by omega), if_neg (by omega), if_pos (by omega)]⟩⟩) (by omega) (by omega)
    · replace hc14 : ¬ (c ≠ (1 : Int)) := hc14
      refine w_aload (i := 0) (npc := 25) (v := cr 0) rfl rfl rfl ?_
      refine w_getf (i := 0) (ci := 7) (k := 9) (npc := 28) rfl (hI5.pl (by decide)) (hI5.T (by decide) rfl) (by decide) (hI5.ref 0 9 (p := 23) (by decide) (by decide) rfl) ?_
      refine w_getf (i := 23) (ci := 5) (k := 11) (npc := 31) rfl (hI5.pl (by decide)) (hI5.T (by decide) rfl) (by decide) hz12 ?_
      exact w_iret rfl (Or.inr (⟨rfl, rfl, rfl, hI5, hF8, hN9, z12, rfl, ⟨hsl9, fi, by rw [hRe]; unfold stv; rw [if_neg (by omega), if_pos (by omega)]; congr 1; omega⟩⟩)) (by omega) (by omega)
  · replace hc13 : ¬ (c ≠ (0 : Int)) := hc13
    refine w_aload (i := 0) (npc := 12) (v := cr 0) rfl rfl rfl ?_
    refine w_getf (i := 0) (ci := 7) (k := 9) (npc := 15) rfl (hI5.pl (by decide)) (hI5.T (by decide) rfl) (by decide) (hI5.ref 0 9 (p := 23) (by decide) (by decide) rfl) ?_
    refine w_getf (i := 23) (ci := 5) (k := 10) (npc := 18) rfl (hI5.pl (by decide)) (hI5.T (by decide) rfl) (by decide) hz11 ?_
    exact w_iret rfl (Or.inr (⟨rfl, rfl, rfl, hI5, hF8, hN9, z11, rfl, ⟨hsl9, fi, by rw [hRe]; unfold stv; rw [if_pos (by omega)]; congr 1; omega⟩⟩)) (by omega) (by omega)
