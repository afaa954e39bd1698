theorem ct_m_orderOn2 {sl : Int × Int} {x : ai_E} {d : Nat} {T : cm_T} {E : cm_E} {nx : Nat} (pf lf sf told : Nat → Int) (na : Nat) (m : Int) (kf : Nat) (w : Nat → Int) (A : sA) (n : Int) (hI : cs_I T E nx) (hp0 : 0 ≤ n ∧ n + (kf : Int) = (na : Int) ∧ na ≤ 8) (hp1 : gv E 81 24 = (na : Int) ∧ gv E 81 23 = m) (hp2 : ∀ k : Nat, (k : Int) < n → gv E 98 k = w k) (hp3 : ∀ j : Nat, (j : Int) < m → gv E 94 j = told j) (hp4 : f95 E = pf ∧ f96 E = lf ∧ f97 E = sf) (hp5 : mB E na A) (hp6 : 0 ≤ A.1 ∧ A.1 + (pw kf : Int) ≤ 200000) (hp7 : oo E (n)) : cm_ct (ai_ev sl (d + 10)) x 191 [cr 81, ai_i n] T E nx 0 0 (fun rk rv T' E' nx' => rk = 0 ∧ T = T' ∧ nx = nx' ∧ cs_I T E' nx ∧ cm_fr (fun i k => (i = 81 ∧ (k = 32 ∨ k = 33)) ∨ (i = 98 ∧ n.toNat ≤ k) ∨ i = 99 ∨ i = 100) E E' ∧ ((txp pf lf sf na w n.toNat = none → mB E' na A) ∧ ∀ q : Int × (Nat → Int), txp pf lf sf na w n.toNat = some q → mB E' na (sq pf lf sf na told m kf n.toNat w q A))) := by
  have key : ∀ (k kf : Nat) (w : Nat → Int) (A : sA) (n : Int) (E : cm_E), kf ≤ k → cs_I T E nx → (0 ≤ n ∧ n + (kf : Int) = (na : Int) ∧ na ≤ 8) → (gv E 81 24 = (na : Int) ∧ gv E 81 23 = m) → (∀ k : Nat, (k : Int) < n → gv E 98 k = w k) → (∀ j : Nat, (j : Int) < m → gv E 94 j = told j) → (f95 E = pf ∧ f96 E = lf ∧ f97 E = sf) → (mB E na A) → (0 ≤ A.1 ∧ A.1 + (pw kf : Int) ≤ 200000) → (oo E (n)) → cm_ct (ai_ev sl (d + k + 2)) x 191 [cr 81, ai_i n] T E nx 0 0 (fun rk rv T' E' nx' => rk = 0 ∧ T = T' ∧ nx = nx' ∧ cs_I T E' nx ∧ cm_fr (fun i k => (i = 81 ∧ (k = 32 ∨ k = 33)) ∨ (i = 98 ∧ n.toNat ≤ k) ∨ i = 99 ∨ i = 100) E E' ∧ ((txp pf lf sf na w n.toNat = none → mB E' na A) ∧ ∀ q : Int × (Nat → Int), txp pf lf sf na w n.toNat = some q → mB E' na (sq pf lf sf na told m kf n.toNat w q A))) := by
    intro k
    induction k with
    | zero => exact fun kf w A n E hk hI p0 p1 p2 p3 p4 p5 p6 p7 => ct_m_orderOn2_s (d := d) pf lf sf told na m kf w A n hI p0 p1 p2 p3 p4 p5 p6 p7 (fun k1 _ _ _ h => absurd h (by omega))
    | succ k ih => exact fun kf w A n E hk hI p0 p1 p2 p3 p4 p5 p6 p7 => ct_m_orderOn2_s (d := d + k + 1) pf lf sf told na m kf w A n hI p0 p1 p2 p3 p4 p5 p6 p7 (fun k1 w1 A1 E1 h hI1 r0 r1 r2 r3 r4 r5 r6 r7 => ih k1 w1 A1 (n + 1) E1 (by omega) hI1 r0 r1 r2 r3 r4 r5 r6 r7)
  exact key 8 kf w A n E (by omega) hI hp0 hp1 hp2 hp3 hp4 hp5 hp6 hp7
set_option maxRecDepth 16384 in
theorem ct_m_story2 {sl : Int × Int} {x : ai_E} {d : Nat} {T : cm_T} {E : cm_E} {nx : Nat} (pf lf sf told : Nat → Int) (na : Nat) (m : Int) (c : Int)  (hI : cs_I T E nx) (hR : rl E) (hp0 : gv E 81 24 = (na : Int) ∧ gv E 81 23 = m ∧ na ≤ 8) (hp1 : ∀ j : Nat, (j : Int) < m → gv E 94 j = told j) (hp2 : f95 E = pf ∧ f96 E = lf ∧ f97 E = sf) (hp3 : -2147483648 ≤ c ∧ c ≤ 2147483647) : cm_ct (ai_ev sl (d + 11)) x 212 [cr 81, ai_i c] T E nx 0 0 (fun rk rv T' E' nx' => rk = 1 ∧ T = T' ∧ nx = nx' ∧ cs_I T E' nx ∧ cm_fr (fun i k => (i = 81 ∧ (k = 0 ∨ k = 32 ∨ k = 33)) ∨ i = 98 ∨ i = 99 ∨ i = 100) E E' ∧ rl E' ∧ ∃ z : Int, rv = ai_i z ∧ (∃ fi : Nat → Int, (stv (sq pf lf sf na told m na 0 (fun _ => 0) (0, fun _ => 0) (0, 0, fi)) na c = none ∧ gv E' 81 0 = 1) ∨ (stv (sq pf lf sf na told m na 0 (fun _ => 0) (0, fun _ => 0) (0, 0, fi)) na c = some z ∧ gv E' 81 0 = 0))) := by
  refine cm_body (M := ai_m212) rfl rfl (fun kc ks => ?_)
  show cm_wp (ai_find ai_c212 sl) (ai_ev sl (d + 10)) x (kc + 0) (ks + 0) _ 0 [cr 81, ai_i c] [] T E nx kc ks
  have hF : cm_fr (fun i k => (i = 81 ∧ (k = 0 ∨ k = 32 ∨ k = 33)) ∨ i = 98 ∨ i = 99 ∨ i = 100) E E := fun _ _ _ => rfl
  obtain ⟨z1, hz1, hz1a, hz1b⟩ := hI.int 81 24 (lo := 0) (hi := 8) (by decide) (by decide) rfl
  have ghz1 := gv_eq hz1
  refine w_aload (i := 0) (npc := 1) (v := cr 81) rfl rfl rfl ?_
  refine w_const (n := 0) (npc := 2) rfl ?_
  refine w_putf (i := 81) (ci := 8) (k := 0) (t := 0) (npc := 5) rfl (hI.pl (by decide)) (hI.T (by decide) rfl) (by decide) cm_fit0 ?_
  have hI3 := hI.puti (i := 81) (k := 0) (z := 0) (lo := 0) (hi := 2) (by decide) rfl (by omega)
  have hF5 := cm_fr.up (i := 81) (k := 0) (v := ai_i 0) hF (by first | omega | (simp; done) | (simp; omega) | (simp only; omega))
  have hR6 := rl.wr (i := 81) (k := 0) (v := ai_i 0) hR (by omega)
  generalize hE4 : cm_up E 81 0 (ai_i 0) = E2 at hI3 hF5 hR6 ⊢
  have hz7 : E2 81 24 = ai_i z1 := by rw [← hE4, cm_up_ne _ _ (by decide)]; exact hz1
  have ghz7 := gv_eq hz7
  have hz8 : E2 81 0 = ai_i 0 := by rw [← hE4, cm_up_eq]
  have ghz8 := gv_eq hz8
  refine w_aload (i := 0) (npc := 6) (v := cr 81) rfl rfl rfl ?_
  refine w_const (n := 0) (npc := 7) rfl ?_
  refine w_putf (i := 81) (ci := 8) (k := 32) (t := 0) (npc := 10) rfl (hI3.pl (by decide)) (hI3.T (by decide) rfl) (by decide) cm_fit0 ?_
  have hI10 := hI3.puti (i := 81) (k := 32) (z := 0) (lo := (-2147483648)) (hi := 2147483647) (by decide) rfl (by omega)
  have hF12 := cm_fr.up (i := 81) (k := 32) (v := ai_i 0) hF5 (by first | omega | (simp; done) | (simp; omega) | (simp only; omega))
  have hR13 := rl.wr (i := 81) (k := 32) (v := ai_i 0) hR6 (by omega)
  generalize hE11 : cm_up E2 81 32 (ai_i 0) = E9 at hI10 hF12 hR13 ⊢
  have hz14 : E9 81 24 = ai_i z1 := by rw [← hE11, cm_up_ne _ _ (by decide)]; exact hz7
  have ghz14 := gv_eq hz14
  have hz15 : E9 81 0 = ai_i 0 := by rw [← hE11, cm_up_ne _ _ (by decide)]; exact hz8
  have ghz15 := gv_eq hz15
  have hz16 : E9 81 32 = ai_i 0 := by rw [← hE11, cm_up_eq]
  have ghz16 := gv_eq hz16
  refine w_aload (i := 0) (npc := 11) (v := cr 81) rfl rfl rfl ?_
  refine w_const (n := 0) (npc := 12) rfl ?_
  refine w_putf (i := 81) (ci := 8) (k := 33) (t := 0) (npc := 15) rfl (hI10.pl (by decide)) (hI10.T (by decide) rfl) (by decide) cm_fit0 ?_
  have hI18 := hI10.puti (i := 81) (k := 33) (z := 0) (lo := (-2147483648)) (hi := 2147483647) (by decide) rfl (by omega)
  have hF20 := cm_fr.up (i := 81) (k := 33) (v := ai_i 0) hF12 (by first | omega | (simp; done) | (simp; omega) | (simp only; omega))
  have hR21 := rl.wr (i := 81) (k := 33) (v := ai_i 0) hR13 (by omega)
  generalize hE19 : cm_up E9 81 33 (ai_i 0) = E17 at hI18 hF20 hR21 ⊢
  have hz22 : E17 81 24 = ai_i z1 := by rw [← hE19, cm_up_ne _ _ (by decide)]; exact hz14
  have ghz22 := gv_eq hz22
  have hz23 : E17 81 0 = ai_i 0 := by rw [← hE19, cm_up_ne _ _ (by decide)]; exact hz15
  have ghz23 := gv_eq hz23
  have hz24 : E17 81 32 = ai_i 0 := by rw [← hE19, cm_up_ne _ _ (by decide)]; exact hz16
  have ghz24 := gv_eq hz24
  have hz25 : E17 81 33 = ai_i 0 := by rw [← hE19, cm_up_eq]
  have ghz25 := gv_eq hz25
  refine w_aload (i := 0) (npc := 16) (v := cr 81) rfl rfl rfl ?_
  refine w_const (n := 0) (npc := 17) rfl ?_
  refine w_virt (ci := 8) (i := 81) (npc := 20) (a := [cr 81, ai_i 0]) (rest := []) rfl rfl (hI18.pl (by decide)) (hI18.T (by decide) rfl) rfl rfl rfl rfl (ct_m_orderOn2 (sl := sl) (x := x) (d := d + 0) pf lf sf told na m na (fun _ => 0) (0, 0, fun k => gv E17 99 k) (0) hI18 (by omega) ⟨(by rw [← gv_fr hF20 (by omega)]; exact hp0.1), (by rw [← gv_fr hF20 (by omega)]; exact hp0.2.1)⟩ (fun k hk => absurd hk (by omega)) (fun j hj => (by rw [← gv_fr hF20 (by omega)]; exact hp1 j hj)) ⟨((funext fun k => (gv_fr hF20 (i := 95) (k := k) (by omega)).symm).trans hp2.1), ((funext fun k => (gv_fr hF20 (i := 96) (k := k) (by omega)).symm).trans hp2.2.1), ((funext fun k => (gv_fr hF20 (i := 97) (k := k) (by omega)).symm).trans hp2.2.2)⟩ ⟨by omega, by omega, fun j _ => rfl⟩ (by have h9 := pw_le hp0.2.2; show (0 : Int) ≤ 0 ∧ 0 + (pw na : Int) ≤ 200000; omega) (oo_0 _)) (Or.inl rfl) (fun k9 v9 T27 E27 nx27 kc27 ks27 hq26 hk27 hv27 => ?_)
  obtain ⟨rfl, rfl, rfl, hI29, hG30, hz28⟩ := hq26
  obtain rfl : kc = kc27 := by omega
  obtain rfl : ks = ks27 := by omega
  have hF32 := cm_fr.trans hF20 hG30 (by intro i k h; (try simp only at h); (try simp only); omega)
  have hR33 := rl.fr hR21 hG30 (by intro i k h; (try simp only at h); omega)
  have hz34 : E27 81 24 = ai_i z1 := (hG30 81 24 (by first | omega | (simp; done) | (simp; omega) | (simp only; omega))).trans hz22
  have ghz34 := gv_eq hz34
  have hz35 : E27 81 0 = ai_i 0 := (hG30 81 0 (by first | omega | (simp; done) | (simp; omega) | (simp only; omega))).trans hz23
  have ghz35 := gv_eq hz35
  refine Or.inl ⟨rfl, ?_⟩
  obtain ⟨fi, hfi⟩ : ∃ fi : Nat → Int, fi = fun k => gv E17 99 k := ⟨_, rfl⟩
  have hmB := hz28.2 (0, fun _ => 0) rfl
  rw [← hfi] at hmB
  have hpos := (sq_o pf lf sf na told m na 0 (fun _ => 0) (0, fun _ => 0) (0, 0, fi)).1
  replace hmB : mB E27 na (sq pf lf sf na told m na 0 (fun _ => 0) (0, fun _ => 0) (0, 0, fi)) := hmB
  generalize hRe : sq pf lf sf na told m na 0 (fun _ => 0) (0, fun _ => 0) (0, 0, fi) = R at hmB hpos
  replace hpos : 0 ≤ R.1 := hpos
  obtain ⟨hm1, hm2, hm3⟩ := hmB
  obtain ⟨z36, hz36, hz36a, hz36b⟩ := hI29.int 81 32 (lo := (-2147483648)) (hi := 2147483647) (by decide) (by decide) rfl
  have ghz36 := gv_eq hz36
  obtain ⟨z37, hz37, hz37a, hz37b⟩ := hI29.int 81 33 (lo := (-2147483648)) (hi := 2147483647) (by decide) (by decide) rfl
  have ghz37 := gv_eq hz37
  refine w_iload (i := 1) (npc := 21) rfl rfl ?_
  refine w_const (n := 10) (npc := 23) rfl ?_
  refine w_icmp (c := .lt) (npc := 26) (pt := 62) rfl (fun hc38 => ?_) (fun hc38 => ?_)
  · replace hc38 : c < (10 : Int) := hc38
    refine w_iload (i := 1) (npc := 63) rfl rfl ?_
    refine w_if (c := .ne) (npc := 66) (pt := 73) rfl (fun hc39 => ?_) (fun hc39 => ?_)
    · replace hc39 : c ≠ (0 : Int) := hc39
      refine w_iload (i := 1) (npc := 74) rfl rfl ?_
      refine w_const (n := 1) (npc := 75) rfl ?_
      refine w_icmp (c := .ne) (npc := 78) (pt := 85) rfl (fun hc40 => ?_) (fun hc40 => ?_)
      · replace hc40 : c ≠ (1 : Int) := hc40
        refine w_aload (i := 0) (npc := 86) (v := cr 81) rfl rfl rfl ?_
        refine w_const (n := 1) (npc := 87) rfl ?_
        refine w_virt (ci := 8) (i := 81) (npc := 90) (a := [cr 81, ai_i 1]) (rest := []) rfl rfl (hI29.pl (by decide)) (hI29.T (by decide) rfl) rfl rfl rfl rfl (ct_m_fail (sl := sl) (x := x) (d := d + 9) (1) hI29 (by omega)) (Or.inl rfl) (fun k9 v9 T42 E42 nx42 kc42 ks42 hq41 hk42 hv42 => ?_)
        obtain ⟨rfl, rfl, rfl, hI44, hG45, z43, rfl, hz43⟩ := hq41
        obtain rfl : kc = kc42 := by omega
        obtain rfl : ks = ks42 := by omega
        have hF47 := cm_fr.trans hF32 hG45 (by intro i k h; (try simp only at h); (try simp only); omega)
        have hR48 := rl.fr hR33 hG45 (by intro i k h; (try simp only at h); omega)
        have hz49 : E42 81 24 = ai_i z1 := (hG45 81 24 (by first | omega | (simp; done) | (simp; omega) | (simp only; omega))).trans hz34
        have ghz49 := gv_eq hz49
        have hz50 : E42 81 32 = ai_i z36 := (hG45 81 32 (by first | omega | (simp; done) | (simp; omega) | (simp only; omega))).trans hz36
        have ghz50 := gv_eq hz50
        have hz51 : E42 81 33 = ai_i z37 := (hG45 81 33 (by first | omega | (simp; done) | (simp; omega) | (simp only; omega))).trans hz37
        have ghz51 := gv_eq hz51
        refine Or.inr (Or.inl ⟨rfl, ?_⟩)
        exact w_iret rfl (⟨rfl, rfl, rfl, hI44, hF47, hR48, z43, rfl, ⟨fi, Or.inl ⟨by rw [hRe]; unfold stv; rw [if_neg (by omega), if_neg (by omega), if_pos (by omega)], by omega⟩⟩⟩) (by omega) (by omega)
      · replace hc40 : ¬ (c ≠ (1 : Int)) := hc40
        refine w_aload (i := 0) (npc := 79) (v := cr 81) rfl rfl rfl ?_
        refine w_getf (i := 81) (ci := 8) (k := 33) (npc := 82) rfl (hI29.pl (by decide)) (hI29.T (by decide) rfl) (by decide) hz37 ?_
        refine w_goto (pt := 90) rfl ?_
        exact w_iret rfl (⟨rfl, rfl, rfl, hI29, hF32, hR33, z37, rfl, ⟨fi, Or.inr ⟨by rw [hRe]; unfold stv; rw [if_neg (by omega), if_pos (by omega)]; congr 1; omega, by omega⟩⟩⟩) (by omega) (by omega)
    · replace hc39 : ¬ (c ≠ (0 : Int)) := hc39
      refine w_aload (i := 0) (npc := 67) (v := cr 81) rfl rfl rfl ?_
      refine w_getf (i := 81) (ci := 8) (k := 32) (npc := 70) rfl (hI29.pl (by decide)) (hI29.T (by decide) rfl) (by decide) hz36 ?_
      refine w_goto (pt := 90) rfl ?_
      exact w_iret rfl (⟨rfl, rfl, rfl, hI29, hF32, hR33, z36, rfl, ⟨fi, Or.inr ⟨by rw [hRe]; unfold stv; rw [if_pos (by omega)]; congr 1; omega, by omega⟩⟩⟩) (by omega) (by omega)
  · replace hc38 : ¬ (c < (10 : Int)) := hc38
    refine w_aload (i := 0) (npc := 27) (v := cr 81) rfl rfl rfl ?_
    refine w_getf (i := 81) (ci := 8) (k := 32) (npc := 30) rfl (hI29.pl (by decide)) (hI29.T (by decide) rfl) (by decide) hz36 ?_
    refine w_if (c := .le) (npc := 33) (pt := 56) rfl (fun hc52 => ?_) (fun hc52 => ?_)
    · replace hc52 : z36 ≤ (0 : Int) := hc52
      refine w_aload (i := 0) (npc := 57) (v := cr 81) rfl rfl rfl ?_
      refine w_const (n := 1) (npc := 58) rfl ?_
      refine w_virt (ci := 8) (i := 81) (npc := 61) (a := [cr 81, ai_i 1]) (rest := []) rfl rfl (hI29.pl (by decide)) (hI29.T (by decide) rfl) rfl rfl rfl rfl (ct_m_fail (sl := sl) (x := x) (d := d + 9) (1) hI29 (by omega)) (Or.inl rfl) (fun k9 v9 T54 E54 nx54 kc54 ks54 hq53 hk54 hv54 => ?_)
      obtain ⟨rfl, rfl, rfl, hI56, hG57, z55, rfl, hz55⟩ := hq53
      obtain rfl : kc = kc54 := by omega
      obtain rfl : ks = ks54 := by omega
      have hF59 := cm_fr.trans hF32 hG57 (by intro i k h; (try simp only at h); (try simp only); omega)
      have hR60 := rl.fr hR33 hG57 (by intro i k h; (try simp only at h); omega)
      have hz61 : E54 81 24 = ai_i z1 := (hG57 81 24 (by first | omega | (simp; done) | (simp; omega) | (simp only; omega))).trans hz34
      have ghz61 := gv_eq hz61
      have hz62 : E54 81 32 = ai_i z36 := (hG57 81 32 (by first | omega | (simp; done) | (simp; omega) | (simp only; omega))).trans hz36
      have ghz62 := gv_eq hz62
      have hz63 : E54 81 33 = ai_i z37 := (hG57 81 33 (by first | omega | (simp; done) | (simp; omega) | (simp only; omega))).trans hz37
      have ghz63 := gv_eq hz63
      refine Or.inr (Or.inl ⟨rfl, ?_⟩)
      exact w_iret rfl (⟨rfl, rfl, rfl, hI56, hF59, hR60, z55, rfl, ⟨fi, Or.inl ⟨by rw [hRe]; unfold stv; rw [if_neg (by omega), if_neg (by omega), if_pos (by omega)], by omega⟩⟩⟩) (by omega) (by omega)
    · replace hc52 : ¬ (z36 ≤ (0 : Int)) := hc52
      refine w_iload (i := 1) (npc := 34) rfl rfl ?_
      refine w_const (n := 10) (npc := 36) rfl ?_
      refine w_isub (npc := 37) rfl (by omega) ?_
      refine w_aload (i := 0) (npc := 38) (v := cr 81) rfl rfl rfl ?_
      refine w_getf (i := 81) (ci := 8) (k := 24) (npc := 41) rfl (hI29.pl (by decide)) (hI29.T (by decide) rfl) (by decide) hz34 ?_
      refine w_icmp (c := .ge) (npc := 44) (pt := 56) rfl (fun hc65 => ?_) (fun hc65 => ?_)
      · replace hc65 : z1 ≤ c - 10 := hc65
        refine w_aload (i := 0) (npc := 57) (v := cr 81) rfl rfl rfl ?_
        refine w_const (n := 1) (npc := 58) rfl ?_
        refine w_virt (ci := 8) (i := 81) (npc := 61) (a := [cr 81, ai_i 1]) (rest := []) rfl rfl (hI29.pl (by decide)) (hI29.T (by decide) rfl) rfl rfl rfl rfl (ct_m_fail (sl := sl) (x := x) (d := d + 9) (1) hI29 (by omega)) (Or.inl rfl) (fun k9 v9 T67 E67 nx67 kc67 ks67 hq66 hk67 hv67 => ?_)
        obtain ⟨rfl, rfl, rfl, hI69, hG70, z68, rfl, hz68⟩ := hq66
        obtain rfl : kc = kc67 := by omega
        obtain rfl : ks = ks67 := by omega
        have hF72 := cm_fr.trans hF32 hG70 (by intro i k h; (try simp only at h); (try simp only); omega)
        have hR73 := rl.fr hR33 hG70 (by intro i k h; (try simp only at h); omega)
        have hz74 : E67 81 24 = ai_i z1 := (hG70 81 24 (by first | omega | (simp; done) | (simp; omega) | (simp only; omega))).trans hz34
        have ghz74 := gv_eq hz74
        have hz75 : E67 81 32 = ai_i z36 := (hG70 81 32 (by first | omega | (simp; done) | (simp; omega) | (simp only; omega))).trans hz36
        have ghz75 := gv_eq hz75
        have hz76 : E67 81 33 = ai_i z37 := (hG70 81 33 (by first | omega | (simp; done) | (simp; omega) | (simp only; omega))).trans hz37
        have ghz76 := gv_eq hz76
        refine Or.inr (Or.inl ⟨rfl, ?_⟩)
        exact w_iret rfl (⟨rfl, rfl, rfl, hI69, hF72, hR73, z68, rfl, ⟨fi, Or.inl ⟨by rw [hRe]; unfold stv; rw [if_neg (by omega), if_neg (by omega), if_pos (by omega)], by omega⟩⟩⟩) (by omega) (by omega)
      · replace hc65 : ¬ (z1 ≤ c - 10) := hc65
        refine w_aload (i := 0) (npc := 45) (v := cr 81) rfl rfl rfl ?_
        refine w_getf (i := 81) (ci := 8) (k := 30) (npc := 48) rfl (hI29.pl (by decide)) (hI29.T (by decide) rfl) (by decide) (hI29.ref 81 30 (p := 99) (by decide) (by decide) rfl) ?_
        refine w_iload (i := 1) (npc := 49) rfl rfl ?_
        refine w_const (n := 10) (npc := 51) rfl ?_
        refine w_isub (npc := 52) rfl (by omega) ?_
        obtain ⟨z78, hz78, hz78a, hz78b⟩ := hI29.int 99 (c - 10 : Int).toNat (lo := 0) (hi := 2) (by decide) (show (c - 10 : Int).toNat < 8 by omega) rfl
        have ghz78 := gv_eq hz78
        refine w_ald (i := 99) (t := 1) (n := 8) (npc := 53) rfl (hI29.pl (by decide)) (hI29.T (by decide) rfl) (by decide) rfl (by omega) hz78 ?_
        refine w_goto (pt := 61) rfl ?_
        exact w_iret rfl (⟨rfl, rfl, rfl, hI29, hF32, hR33, z78, rfl, ⟨fi, Or.inr ⟨by rw [hRe]; unfold stv; rw [if_neg (by omega), if_neg (by omega), if_neg (by omega)]; congr 1; have e9 := hm3 (c - 10).toNat (by omega); omega, by omega⟩⟩⟩) (by omega) (by omega)
