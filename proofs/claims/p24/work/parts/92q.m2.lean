set_option maxRecDepth 16384 in
theorem ct_m_orderOn2_s {sl : Int × Int} {x : ai_E} {d : Nat} {T : cm_T} {E : cm_E} {nx : Nat} (pf lf sf told : Nat → Int) (na : Nat) (m : Int) (kf : Nat) (w : Nat → Int) (A : sA) (n : Int)  (hI : cs_I T E nx) (hp0 : 0 ≤ n ∧ n + (kf : Int) = (na : Int) ∧ na ≤ 8) (hp1 : gv E 81 24 = (na : Int) ∧ gv E 81 23 = m) (hp2 : ∀ k : Nat, (k : Int) < n → gv E 98 k = w k) (hp3 : ∀ j : Nat, (j : Int) < m → gv E 94 j = told j) (hp4 : f95 E = pf ∧ f96 E = lf ∧ f97 E = sf) (hp5 : mB E na A) (hp6 : 0 ≤ A.1 ∧ A.1 + (pw kf : Int) ≤ 200000) (hp7 : oo E (n)) (hrec : ∀ (k1 : Nat) (w : Nat → Int) (A : sA) (E : cm_E), kf = k1 + 1 → cs_I T E nx → (0 ≤ n + 1 ∧ n + 1 + (k1 : Int) = (na : Int) ∧ na ≤ 8) → (gv E 81 24 = (na : Int) ∧ gv E 81 23 = m) → (∀ k : Nat, (k : Int) < n + 1 → gv E 98 k = w k) → (∀ j : Nat, (j : Int) < m → gv E 94 j = told j) → (f95 E = pf ∧ f96 E = lf ∧ f97 E = sf) → (mB E na A) → (0 ≤ A.1 ∧ A.1 + (pw k1 : Int) ≤ 200000) → (oo E (n + 1)) → cm_ct (ai_ev sl (d + 1)) x 191 [cr 81, ai_i (n + 1)] T E nx 0 0 (fun rk rv T' E' nx' => rk = 0 ∧ T = T' ∧ nx = nx' ∧ cs_I T E' nx ∧ cm_fr (fun i k => (i = 81 ∧ (k = 32 ∨ k = 33)) ∨ (i = 98 ∧ (n + 1).toNat ≤ k) ∨ i = 99 ∨ i = 100) E E' ∧ ((txp pf lf sf na w (n + 1).toNat = none → mB E' na A) ∧ ∀ q : Int × (Nat → Int), txp pf lf sf na w (n + 1).toNat = some q → mB E' na (sq pf lf sf na told m k1 (n + 1).toNat w q A)))) : cm_ct (ai_ev sl (d + 2)) x 191 [cr 81, ai_i n] T E nx 0 0 (fun rk rv T' E' nx' => rk = 0 ∧ T = T' ∧ nx = nx' ∧ cs_I T E' nx ∧ cm_fr (fun i k => (i = 81 ∧ (k = 32 ∨ k = 33)) ∨ (i = 98 ∧ n.toNat ≤ k) ∨ i = 99 ∨ i = 100) E E' ∧ ((txp pf lf sf na w n.toNat = none → mB E' na A) ∧ ∀ q : Int × (Nat → Int), txp pf lf sf na w n.toNat = some q → mB E' na (sq pf lf sf na told m kf n.toNat w q A))) := by
  obtain ⟨ha1, ha2, ha3⟩ := hp5
  have hp5 : mB E na A := ⟨ha1, ha2, ha3⟩
  refine cm_body (M := ai_m191) rfl rfl (fun kc ks => ?_)
  show cm_wp (ai_find ai_c191 sl) (ai_ev sl (d + 1)) x (kc + 0) (ks + 0) _ 0 [cr 81, ai_i n, ai_un, ai_un, ai_un] [] T E nx kc ks
  have hF : cm_fr (fun i k => (i = 81 ∧ (k = 32 ∨ k = 33)) ∨ (i = 98 ∧ n.toNat ≤ k) ∨ i = 99 ∨ i = 100) E E := fun _ _ _ => rfl
  obtain ⟨z1, hz1, hz1a, hz1b⟩ := hI.int 81 24 (lo := 0) (hi := 8) (by decide) (by decide) rfl
  have ghz1 := gv_eq hz1
  obtain ⟨z2, hz2, hz2a, hz2b⟩ := hI.int 81 33 (lo := (-2147483648)) (hi := 2147483647) (by decide) (by decide) rfl
  have ghz2 := gv_eq hz2
  obtain ⟨z3, hz3, hz3a, hz3b⟩ := hI.int 81 32 (lo := (-2147483648)) (hi := 2147483647) (by decide) (by decide) rfl
  have ghz3 := gv_eq hz3
  obtain ⟨z4, hz4, hz4a, hz4b⟩ := hI.int 81 23 (lo := 0) (hi := 12) (by decide) (by decide) rfl
  have ghz4 := gv_eq hz4
  refine w_aload (i := 0) (npc := 1) (v := cr 81) rfl rfl rfl ?_
  refine w_iload (i := 1) (npc := 2) rfl rfl ?_
  refine w_virt (ci := 8) (i := 81) (npc := 5) (a := [cr 81, ai_i n]) (rest := []) rfl rfl (hI.pl (by decide)) (hI.T (by decide) rfl) rfl rfl rfl rfl (ct_m_write2 (sl := sl) (x := x) (d := d + 0) (n) hI (by omega) (by omega) hp7) (Or.inl rfl) (fun k9 v9 T6 E6 nx6 kc6 ks6 hq5 hk6 hv6 => ?_)
  obtain ⟨rfl, rfl, rfl, hI8, hG9, z7, rfl, hz7⟩ := hq5
  obtain rfl : kc = kc6 := by omega
  obtain rfl : ks = ks6 := by omega
  have hF11 := cm_fr.trans hF hG9 (by intro i k h; (try simp only at h); (try simp only); omega)
  have hz12 : E6 81 24 = ai_i z1 := (hG9 81 24 (by first | omega | (simp; done) | (simp; omega) | (simp only; omega))).trans hz1
  have ghz12 := gv_eq hz12
  have hz13 : E6 81 33 = ai_i z2 := (hG9 81 33 (by first | omega | (simp; done) | (simp; omega) | (simp only; omega))).trans hz2
  have ghz13 := gv_eq hz13
  have hz14 : E6 81 32 = ai_i z3 := (hG9 81 32 (by first | omega | (simp; done) | (simp; omega) | (simp only; omega))).trans hz3
  have ghz14 := gv_eq hz14
  have hz15 : E6 81 23 = ai_i z4 := (hG9 81 23 (by first | omega | (simp; done) | (simp; omega) | (simp only; omega))).trans hz4
  have ghz15 := gv_eq hz15
  refine Or.inr (Or.inl ⟨rfl, ?_⟩)
  have hTXw : TX E n = txp pf lf sf na w n.toNat := by
    unfold TX; rw [hp4.1, hp4.2.1, hp4.2.2, show (gv E 81 24).toNat = na by omega]; exact txp_congr (fun k hk => hp2 k (by omega))
  have hwo := hz7.2.2
  unfold wout at hwo; rw [hTXw] at hwo
  refine w_istore (i := 2) (npc := 6) (loc' := [cr 81, ai_i n, ai_i z7, ai_un, ai_un]) rfl rfl ?_
  refine w_iload (i := 2) (npc := 7) rfl rfl ?_
  refine w_const (n := (-1)) (npc := 8) rfl ?_
  refine w_icmp (c := .ne) (npc := 11) (pt := 12) rfl (fun hc16 => ?_) (fun hc16 => ?_)
  · replace hc16 : z7 ≠ ((-1) : Int) := hc16
    obtain ⟨q, hq⟩ : ∃ q, txp pf lf sf na w n.toNat = some q := by
      cases htx : txp pf lf sf na w n.toNat with
      | none => have e9 := hwo.1 htx; omega
      | some q => exact ⟨q, rfl⟩
    obtain ⟨hq1, hq2, hq3⟩ := hwo.2 q hq
    refine w_aload (i := 0) (npc := 13) rfl rfl rfl ?_
    refine w_aload (i := 0) (npc := 14) (v := cr 81) rfl rfl rfl ?_
    refine w_getf (i := 81) (ci := 8) (k := 33) (npc := 17) rfl (hI8.pl (by decide)) (hI8.T (by decide) rfl) (by decide) hz13 ?_
    refine w_iload (i := 1) (npc := 18) rfl rfl ?_
    refine w_max (npc := 21) rfl rfl ?_
    obtain ⟨z17, hz17⟩ : ∃ z17 : Int, z17 = max z2 n := ⟨_, rfl⟩
    rw [← hz17]
    refine w_putf (i := 81) (ci := 8) (k := 33) (t := 0) (npc := 24) rfl (hI8.pl (by decide)) (hI8.T (by decide) rfl) (by decide) cm_fit0 ?_
    have hI19 := hI8.puti (i := 81) (k := 33) (z := z17) (lo := (-2147483648)) (hi := 2147483647) (by decide) rfl (by omega)
    have hF21 := cm_fr.up (i := 81) (k := 33) (v := ai_i z17) hF11 (by first | omega | (simp; done) | (simp; omega) | (simp only; omega))
    generalize hE20 : cm_up E6 81 33 (ai_i z17) = E18 at hI19 hF21 ⊢
    have hz22 : E18 81 24 = ai_i z1 := by rw [← hE20, cm_up_ne _ _ (by decide)]; exact hz12
    have ghz22 := gv_eq hz22
    have hz23 : E18 81 32 = ai_i z3 := by rw [← hE20, cm_up_ne _ _ (by decide)]; exact hz14
    have ghz23 := gv_eq hz23
    have hz24 : E18 81 23 = ai_i z4 := by rw [← hE20, cm_up_ne _ _ (by decide)]; exact hz15
    have ghz24 := gv_eq hz24
    have hz25 : E18 81 33 = ai_i z17 := by rw [← hE20, cm_up_eq]
    have ghz25 := gv_eq hz25
    refine w_iload (i := 1) (npc := 25) rfl rfl ?_
    refine w_aload (i := 0) (npc := 26) (v := cr 81) rfl rfl rfl ?_
    refine w_getf (i := 81) (ci := 8) (k := 24) (npc := 29) rfl (hI19.pl (by decide)) (hI19.T (by decide) rfl) (by decide) hz22 ?_
    refine w_icmp (c := .ne) (npc := 32) (pt := 143) rfl (fun hc26 => ?_) (fun hc26 => ?_)
    · replace hc26 : n ≠ z1 := hc26
      obtain ⟨k1, hk1⟩ : ∃ k1, kf = k1 + 1 := ⟨kf - 1, by omega⟩
      have hpw : pw kf = 3 * pw k1 := by rw [hk1]; rfl
      refine w_const (n := 0) (npc := 144) rfl ?_
      refine w_istore (i := 3) (npc := 145) (loc' := [cr 81, ai_i n, ai_i z7, ai_i 0, ai_un]) rfl rfl ?_
      have loop145 : ∀ (nf : Nat) (p : Int) (u145_4 : ai_V) (Eq145 : cm_E), ((3 - p).toNat) < nf → cs_I T Eq145 nx → cm_fr (fun i k => (i = 81 ∧ (k = 32 ∨ k = 33)) ∨ (i = 98 ∧ n.toNat ≤ k) ∨ i = 99 ∨ i = 100) E Eq145 → (0 ≤ p ∧ p ≤ 3 ∧ mB Eq145 na (sqp pf lf sf na told m k1 n.toNat w q (A.1, max A.2.1 (n.toNat : Int), A.2.2) p.toNat)) → cm_wp (ai_find ai_c191 sl) (ai_ev sl (d + 1)) x (kc + 0) (ks + 0) (fun rk rv T' E' nx' => rk = 0 ∧ T = T' ∧ nx = nx' ∧ cs_I T E' nx ∧ cm_fr (fun i k => (i = 81 ∧ (k = 32 ∨ k = 33)) ∨ (i = 98 ∧ n.toNat ≤ k) ∨ i = 99 ∨ i = 100) E E' ∧ ((txp pf lf sf na w n.toNat = none → mB E' na A) ∧ ∀ q : Int × (Nat → Int), txp pf lf sf na w n.toNat = some q → mB E' na (sq pf lf sf na told m kf n.toNat w q A))) 145 [cr 81, ai_i n, ai_i z7, ai_i p, u145_4] [] T Eq145 nx kc ks := by
        intro nf
        induction nf with
        | zero => intro p u145_4 Eq145 hm; exact absurd hm (Nat.not_lt_zero _)
        | succ nf145 ih =>
          intro p u145_4 Eq145 hm145 hI145 hF145 hv145
          obtain ⟨z27, hz27, hz27a, hz27b⟩ := hI145.int 81 24 (lo := 0) (hi := 8) (by decide) (by decide) rfl
          have ghz27 := gv_eq hz27
          have ih145 := ih; clear ih
          refine w_iload (i := 3) (npc := 146) rfl rfl ?_
          refine w_const (n := 3) (npc := 147) rfl ?_
          refine w_icmp (c := .ge) (npc := 150) (pt := 187) rfl (fun hc28 => ?_) (fun hc28 => ?_)
          · replace hc28 : (3 : Int) ≤ p := hc28
            exact w_vret rfl (⟨rfl, rfl, rfl, hI145, hF145, ⟨(fun h9 => by rw [hq] at h9; cases h9), fun q9 h9 => by
      rw [hq] at h9
      cases h9
      have h8 : p = 3 := (by omega); rw [h8] at hv145; rw [hk1]; exact hv145.2.2⟩⟩) (by omega) (by omega)
          · replace hc28 : ¬ ((3 : Int) ≤ p) := hc28
            have hoo : oo Eq145 n := hp7.fr hF145 (by intro i k h; (try simp only at h); omega)
            have h24 : gv Eq145 81 24 = (na : Int) ∧ gv Eq145 81 23 = m := ⟨(by rw [← gv_fr hF145 (by omega)]; exact hp1.1), (by rw [← gv_fr hF145 (by omega)]; exact hp1.2)⟩
            have hord : ∀ k : Nat, (k : Int) < n → gv Eq145 98 k = w k := fun k hk => (by rw [← gv_fr hF145 (by omega)]; exact hp2 k hk)
            have htold : ∀ j : Nat, (j : Int) < m → gv Eq145 94 j = told j := fun j hj => (by rw [← gv_fr hF145 (by omega)]; exact hp3 j hj)
            have hf95 : f95 Eq145 = pf := (funext fun k => (gv_fr hF145 (i := 95) (k := k) (by omega)).symm).trans hp4.1
            have hf96 : f96 Eq145 = lf := (funext fun k => (gv_fr hF145 (i := 96) (k := k) (by omega)).symm).trans hp4.2.1
            have hf97 : f97 Eq145 = sf := (funext fun k => (gv_fr hF145 (i := 97) (k := k) (by omega)).symm).trans hp4.2.2
            refine w_aload (i := 0) (npc := 151) rfl rfl rfl ?_
            refine w_iload (i := 3) (npc := 152) rfl rfl ?_
            refine w_iload (i := 1) (npc := 153) rfl rfl ?_
            refine w_virt (ci := 8) (i := 81) (npc := 156) (a := [cr 81, ai_i p, ai_i n]) (rest := []) rfl rfl (hI145.pl (by decide)) (hI145.T (by decide) rfl) rfl rfl rfl rfl (ct_m_inOrder2 (sl := sl) (x := x) (d := d + 0) (p) (n) hI145 (by omega)) (Or.inl rfl) (fun k9 v9 T30 E30 nx30 kc30 ks30 hq29 hk30 hv30 => ?_)
            obtain ⟨rfl, rfl, rfl, rfl, z31, rfl, hz31⟩ := hq29
            obtain rfl : kc = kc30 := by omega
            obtain rfl : ks = ks30 := by omega
            refine Or.inr (Or.inl ⟨rfl, ?_⟩)
            refine w_aload (i := 0) (npc := 157) (v := cr 81) rfl rfl rfl ?_
            refine w_iload (i := 3) (npc := 158) rfl rfl ?_
            refine w_virt (ci := 8) (i := 81) (npc := 161) (a := [cr 81, ai_i p]) (rest := [ai_i z31]) rfl rfl (hI145.pl (by decide)) (hI145.T (by decide) rfl) rfl rfl rfl rfl (ct_m_actsOf2 (sl := sl) (x := x) (d := d + 0) (p) hI145) (Or.inl rfl) (fun k9 v9 T36 E36 nx36 kc36 ks36 hq35 hk36 hv36 => ?_)
            obtain ⟨rfl, rfl, rfl, rfl, z37, rfl, hz37⟩ := hq35
            obtain rfl : kc = kc36 := by omega
            obtain rfl : ks = ks36 := by omega
            refine Or.inr (Or.inl ⟨rfl, ?_⟩)
            refine w_icmp (c := .ne) (npc := 164) (pt := 167) rfl (fun hc41 => ?_) (fun hc41 => ?_)
            · replace hc41 : z31 ≠ z37 := hc41
              refine w_aload (i := 0) (npc := 168) (v := cr 81) rfl rfl rfl ?_
              refine w_getf (i := 81) (ci := 8) (k := 29) (npc := 171) rfl (hI145.pl (by decide)) (hI145.T (by decide) rfl) (by decide) (hI145.ref 81 29 (p := 98) (by decide) (by decide) rfl) ?_
              refine w_iload (i := 1) (npc := 172) rfl rfl ?_
              refine w_iload (i := 3) (npc := 173) rfl rfl ?_
              refine w_ast (i := 98) (k := 1) (n := 8) (npc := 174) rfl (hI145.pl (by decide)) (hI145.T (by decide) rfl) (by decide) (by omega) cm_af1 ?_
              have hI43 := hI145.puti (i := 98) (k := (n : Int).toNat) (z := p) (lo := 0) (hi := 2) (by decide) rfl (by omega)
              have hF45 := cm_fr.up (i := 98) (k := (n : Int).toNat) (v := ai_i p) hF145 (by first | omega | (simp; done) | (simp; omega) | (simp only; omega))
              generalize hE44 : cm_up Eq145 98 ((n : Int).toNat) (ai_i p) = E42 at hI43 hF45 ⊢
              have hz46 : E42 81 24 = ai_i z27 := by rw [← hE44, cm_up_nei _ _ (by decide)]; exact hz27
              have ghz46 := gv_eq hz46
              have hz47 : E42 98 ((n : Int).toNat) = ai_i p := by rw [← hE44, cm_up_eq]
              have ghz47 := gv_eq hz47
              refine w_aload (i := 0) (npc := 175) (v := cr 81) rfl rfl rfl ?_
              refine w_iload (i := 1) (npc := 176) rfl rfl ?_
              refine w_const (n := 1) (npc := 177) rfl ?_
              refine w_iadd (npc := 178) rfl (by omega) ?_
              refine w_virt (ci := 8) (i := 81) (npc := 181) (a := [cr 81, ai_i (n + 1)]) (rest := []) rfl rfl (hI43.pl (by decide)) (hI43.T (by decide) rfl) rfl rfl rfl rfl (hrec k1 (updp w n.toNat p) (sqp pf lf sf na told m k1 n.toNat w q (A.1, max A.2.1 (n.toNat : Int), A.2.2) p.toNat) E42 hk1 hI43 (by omega) ⟨(by rw [← hE44, gv_ne _ _ (by omega)]; exact h24.1), (by rw [← hE44, gv_ne _ _ (by omega)]; exact h24.2)⟩ (fun k hk => by
      rw [← hE44]; unfold updp
      by_cases hkt : k = n.toNat
      · rw [if_pos hkt, hkt, gv_up]
      · rw [if_neg hkt, gv_ne _ _ (by omega)]; exact hord k (by omega)) (fun j hj => (by rw [← hE44, gv_ne _ _ (by omega)]; exact htold j hj)) ⟨(funext fun k => (by show gv E42 95 k = _; rw [← hE44, gv_ne _ _ (by omega)]; exact congrFun hf95 k)), (funext fun k => (by show gv E42 96 k = _; rw [← hE44, gv_ne _ _ (by omega)]; exact congrFun hf96 k)), (funext fun k => (by show gv E42 97 k = _; rw [← hE44, gv_ne _ _ (by omega)]; exact congrFun hf97 k))⟩ (by rw [← hE44]; exact (hv145.2.2).wr (by omega)) (by have b1 := sqp_o pf lf sf na told m k1 n.toNat w q (A.1, max A.2.1 (n.toNat : Int), A.2.2) p.toNat; have b3 : (p.toNat : Int) * (pw k1 : Int) ≤ 2 * (pw k1 : Int) := Int.mul_le_mul_of_nonneg_right (by omega) (by omega); simp only at b1; omega) (oo_next hoo (by omega) (by have h7 := hoo p; omega) hE44)) (Or.inl rfl) (fun k9 v9 T50 E50 nx50 kc50 ks50 hq49 hk50 hv50 => ?_)
              obtain ⟨rfl, rfl, rfl, hI52, hG53, hz51⟩ := hq49
              obtain rfl : kc = kc50 := by omega
              obtain rfl : ks = ks50 := by omega
              have hF55 := cm_fr.trans hF45 hG53 (by intro i k h; (try simp only at h); (try simp only); omega)
              have hz56 : E50 81 24 = ai_i z27 := (hG53 81 24 (by first | omega | (simp; done) | (simp; omega) | (simp only; omega))).trans hz46
              have ghz56 := gv_eq hz56
              refine Or.inl ⟨rfl, ?_⟩
              refine w_iinc (i := 3) (n := 1) (npc := 184) (loc' := [cr 81, ai_i n, ai_i z7, ai_i (p + 1), u145_4]) rfl rfl (by omega) rfl ?_
              refine w_goto (pt := 145) rfl ?_
              exact ih145 (p + 1) (u145_4) E50 (by omega) hI52 hF55 (⟨by omega, by omega, by
      rw [sqp_s p (by omega), sqc_tx hq]
      cases htx : txp pf lf sf na (updp w n.toNat p) (n.toNat + 1) with
      | none => exact hz51.1 (by rw [show (n + 1).toNat = n.toNat + 1 by omega]; exact htx)
      | some q' => exact (show n.toNat + 1 = (n + 1).toNat by omega) ▸ hz51.2 q' (by rw [show (n + 1).toNat = n.toNat + 1 by omega]; exact htx)⟩)
            · replace hc41 : ¬ (z31 ≠ z37) := hc41
              refine w_goto (pt := 181) rfl ?_
              refine w_iinc (i := 3) (n := 1) (npc := 184) (loc' := [cr 81, ai_i n, ai_i z7, ai_i (p + 1), u145_4]) rfl rfl (by omega) rfl ?_
              refine w_goto (pt := 145) rfl ?_
              exact ih145 (p + 1) (u145_4) Eq145 (by omega) hI145 hF145 (⟨by omega, by omega, by
      have c1 : cn Eq145 98 p n.toNat = cnf w p n.toNat := (cn_cnf Eq145 98 p n.toNat).trans (cnf_congr (fun k hk => hord k (by omega))); have c2 : cn Eq145 95 p (gv Eq145 81 24).toNat = cnf pf p na := by rw [cn_cnf, show (fun k => gv Eq145 95 k) = pf from hf95, show (gv Eq145 81 24).toNat = na by omega]
      rw [sqp_s p (by omega), sqc_n (nxa_none _ _ _ _ _ (by show cnf pf p (0 + na) ≤ 0 + _; rw [Nat.zero_add]; omega))]; exact hv145.2.2⟩)
      exact loop145 _ (0) (ai_un) E18 (Nat.lt_succ_self _) hI19 hF21 (⟨by omega, by omega, ⟨by rw [← hE20, gv_ne _ _ (by decide), ← gv_fr hG9 (by decide)]; exact ha1, by rw [← hE20, gv_up]; show _ = max A.2.1 (n.toNat : Int); omega, fun j hj => by rw [← hE20, gv_ne _ _ (by omega), ← gv_fr hG9 (by omega)]; exact ha3 j hj⟩⟩)
    · replace hc26 : ¬ (n ≠ z1) := hc26
      refine w_iload (i := 2) (npc := 33) rfl rfl ?_
      refine w_aload (i := 0) (npc := 34) (v := cr 81) rfl rfl rfl ?_
      refine w_getf (i := 81) (ci := 8) (k := 23) (npc := 37) rfl (hI19.pl (by decide)) (hI19.T (by decide) rfl) (by decide) hz24 ?_
      refine w_icmp (c := .ne) (npc := 40) (pt := 44) rfl (fun hc59 => ?_) (fun hc59 => ?_)
      · replace hc59 : z7 ≠ z4 := hc59
        refine w_const (n := 0) (npc := 45) rfl ?_
        refine w_istore (i := 3) (npc := 46) (loc' := [cr 81, ai_i n, ai_i z7, ai_i 0, ai_un]) rfl rfl ?_
        have hmB : mB E18 na (A.1, max A.2.1 (n.toNat : Int), A.2.2) := ⟨by rw [← hE20, gv_ne _ _ (by decide), ← gv_fr hG9 (by decide)]; exact ha1, by rw [← hE20, gv_up]; show _ = max A.2.1 (n.toNat : Int); omega, fun j hj => by rw [← hE20, gv_ne _ _ (by omega), ← gv_fr hG9 (by omega)]; exact ha3 j hj⟩
        refine w_const (n := 0) (npc := 47) rfl ?_
        refine w_istore (i := 4) (npc := 49) (loc' := [cr 81, ai_i n, ai_i z7, ai_i 0, ai_i 0]) rfl rfl ?_
        have loop49 : ∀ (nf : Nat) (c : Int) (k : Int), ((12 - k).toNat) < nf → (0 ≤ k ∧ k ≤ 12 ∧ 0 ≤ c ∧ c ≤ 1 ∧ (c = 1 → gv E18 81 23 = (z7) ∧ ∀ j : Nat, (j : Int) < k → q.2 j = told j) ∧ (c = 0 → ¬ tq told m q)) → cm_wp (ai_find ai_c191 sl) (ai_ev sl (d + 1)) x (kc + 0) (ks + 0) (fun rk rv T' E' nx' => rk = 0 ∧ T = T' ∧ nx = nx' ∧ cs_I T E' nx ∧ cm_fr (fun i k => (i = 81 ∧ (k = 32 ∨ k = 33)) ∨ (i = 98 ∧ n.toNat ≤ k) ∨ i = 99 ∨ i = 100) E E' ∧ ((txp pf lf sf na w n.toNat = none → mB E' na A) ∧ ∀ q : Int × (Nat → Int), txp pf lf sf na w n.toNat = some q → mB E' na (sq pf lf sf na told m kf n.toNat w q A))) 49 [cr 81, ai_i n, ai_i z7, ai_i c, ai_i k] [] T E18 nx kc ks := by
          intro nf
          induction nf with
          | zero => intro c k hm; exact absurd hm (Nat.not_lt_zero _)
          | succ nf49 ih =>
            intro c k hm49 hv49
            have ih49 := ih; clear ih
            refine w_iload (i := 4) (npc := 51) rfl rfl ?_
            refine w_aload (i := 0) (npc := 52) (v := cr 81) rfl rfl rfl ?_
            refine w_getf (i := 81) (ci := 8) (k := 23) (npc := 55) rfl (hI19.pl (by decide)) (hI19.T (by decide) rfl) (by decide) hz24 ?_
            refine w_icmp (c := .ge) (npc := 58) (pt := 91) rfl (fun hc60 => ?_) (fun hc60 => ?_)
            · replace hc60 : z4 ≤ k := hc60
              refine w_iload (i := 3) (npc := 92) rfl rfl ?_
              refine w_if (c := .ne) (npc := 95) (pt := 96) rfl (fun hc61 => ?_) (fun hc61 => ?_)
              · replace hc61 : c ≠ (0 : Int) := hc61
                have htq : tq told m q := ⟨by have e9 := (hv49.2.2.2.2.1 (by omega)).1; omega, fun j hj => (hv49.2.2.2.2.1 (by omega)).2 j (by omega)⟩
                refine w_const (n := 0) (npc := 97) rfl ?_
                refine w_istore (i := 4) (npc := 99) (loc' := [cr 81, ai_i n, ai_i z7, ai_i c, ai_i 0]) rfl rfl ?_
                have loop99 : ∀ (nf : Nat) (k : Int) (Eq99 : cm_E), ((n - k).toNat) < nf → cs_I T Eq99 nx → cm_fr (fun i k => (i = 81 ∧ (k = 32 ∨ k = 33)) ∨ (i = 98 ∧ n.toNat ≤ k) ∨ i = 99 ∨ i = 100) E Eq99 → (0 ≤ k ∧ k ≤ n ∧ gv Eq99 81 32 = A.1 ∧ gv Eq99 81 33 = max A.2.1 (n.toNat : Int) ∧ ∀ j : Nat, j < na → gv Eq99 99 j = if A.1 = 0 ∧ (j : Int) < k then w j else A.2.2 j) → cm_wp (ai_find ai_c191 sl) (ai_ev sl (d + 1)) x (kc + 0) (ks + 0) (fun rk rv T' E' nx' => rk = 0 ∧ T = T' ∧ nx = nx' ∧ cs_I T E' nx ∧ cm_fr (fun i k => (i = 81 ∧ (k = 32 ∨ k = 33)) ∨ (i = 98 ∧ n.toNat ≤ k) ∨ i = 99 ∨ i = 100) E E' ∧ ((txp pf lf sf na w n.toNat = none → mB E' na A) ∧ ∀ q : Int × (Nat → Int), txp pf lf sf na w n.toNat = some q → mB E' na (sq pf lf sf na told m kf n.toNat w q A))) 99 [cr 81, ai_i n, ai_i z7, ai_i c, ai_i k] [] T Eq99 nx kc ks := by
                  intro nf
                  induction nf with
                  | zero => intro k Eq99 hm; exact absurd hm (Nat.not_lt_zero _)
                  | succ nf99 ih =>
                    intro k Eq99 hm99 hI99 hF99 hv99
                    obtain ⟨z62, hz62, hz62a, hz62b⟩ := hI99.int 81 32 (lo := (-2147483648)) (hi := 2147483647) (by decide) (by decide) rfl
                    have ghz62 := gv_eq hz62
                    have ih99 := ih; clear ih
                    refine w_iload (i := 4) (npc := 101) rfl rfl ?_
                    refine w_iload (i := 1) (npc := 102) rfl rfl ?_
                    refine w_icmp (c := .ge) (npc := 105) (pt := 132) rfl (fun hc63 => ?_) (fun hc63 => ?_)
                    · replace hc63 : n ≤ k := hc63
                      refine w_aload (i := 0) (npc := 133) (v := cr 81) rfl rfl rfl ?_
                      refine w_dup (npc := 134) rfl rfl ?_
                      refine w_getf (i := 81) (ci := 8) (k := 32) (npc := 137) rfl (hI99.pl (by decide)) (hI99.T (by decide) rfl) (by decide) hz62 ?_
                      refine w_const (n := 1) (npc := 138) rfl ?_
                      refine w_iadd (npc := 139) rfl (by omega) ?_
                      refine w_putf (i := 81) (ci := 8) (k := 32) (t := 0) (npc := 142) rfl (hI99.pl (by decide)) (hI99.T (by decide) rfl) (by decide) cm_fit0 ?_
                      have hI66 := hI99.puti (i := 81) (k := 32) (z := z62 + 1) (lo := (-2147483648)) (hi := 2147483647) (by decide) rfl (by omega)
                      have hF68 := cm_fr.up (i := 81) (k := 32) (v := ai_i (z62 + 1)) hF99 (by first | omega | (simp; done) | (simp; omega) | (simp only; omega))
                      generalize hE67 : cm_up Eq99 81 32 (ai_i (z62 + 1)) = E65 at hI66 hF68 ⊢
                      have hz69 : E65 81 32 = ai_i (z62 + 1) := by rw [← hE67, cm_up_eq]
                      have ghz69 := gv_eq hz69
                      exact w_vret rfl (⟨rfl, rfl, rfl, hI66, hF68, ⟨(fun h9 => by rw [hq] at h9; cases h9), fun q9 h9 => by
      rw [hq] at h9
      cases h9
      have h8 : kf = 0 := (by omega)
      subst h8
      show mB _ na (lfA told m w q (A.1, max A.2.1 (n.toNat : Int), A.2.2))
      rw [lfA_y htq]
      refine ⟨by rw [← hE67, gv_up]; show _ = A.1 + 1; omega, by rw [← hE67, gv_ne _ _ (by decide)]; exact hv99.2.2.2.1, fun j hj => ?_⟩
      rw [← hE67, gv_ne _ _ (by omega), hv99.2.2.2.2 j hj]
      show _ = pif (A.1 = 0) w A.2.2 j
      by_cases hz0 : A.1 = 0
      · rw [if_pos (by omega), pif_pos hz0]
      · rw [if_neg (fun h => hz0 h.1), pif_neg hz0]⟩⟩) (by omega) (by omega)
                    · replace hc63 : ¬ (n ≤ k) := hc63
                      refine w_aload (i := 0) (npc := 106) (v := cr 81) rfl rfl rfl ?_
                      refine w_getf (i := 81) (ci := 8) (k := 32) (npc := 109) rfl (hI99.pl (by decide)) (hI99.T (by decide) rfl) (by decide) hz62 ?_
                      refine w_if (c := .ne) (npc := 112) (pt := 132) rfl (fun hc70 => ?_) (fun hc70 => ?_)
                      · replace hc70 : z62 ≠ (0 : Int) := hc70
                        refine w_aload (i := 0) (npc := 133) (v := cr 81) rfl rfl rfl ?_
                        refine w_dup (npc := 134) rfl rfl ?_
                        refine w_getf (i := 81) (ci := 8) (k := 32) (npc := 137) rfl (hI99.pl (by decide)) (hI99.T (by decide) rfl) (by decide) hz62 ?_
                        refine w_const (n := 1) (npc := 138) rfl ?_
                        refine w_iadd (npc := 139) rfl (by omega) ?_
                        refine w_putf (i := 81) (ci := 8) (k := 32) (t := 0) (npc := 142) rfl (hI99.pl (by decide)) (hI99.T (by decide) rfl) (by decide) cm_fit0 ?_
                        have hI73 := hI99.puti (i := 81) (k := 32) (z := z62 + 1) (lo := (-2147483648)) (hi := 2147483647) (by decide) rfl (by omega)
                        have hF75 := cm_fr.up (i := 81) (k := 32) (v := ai_i (z62 + 1)) hF99 (by first | omega | (simp; done) | (simp; omega) | (simp only; omega))
                        generalize hE74 : cm_up Eq99 81 32 (ai_i (z62 + 1)) = E72 at hI73 hF75 ⊢
                        have hz76 : E72 81 32 = ai_i (z62 + 1) := by rw [← hE74, cm_up_eq]
                        have ghz76 := gv_eq hz76
                        exact w_vret rfl (⟨rfl, rfl, rfl, hI73, hF75, ⟨(fun h9 => by rw [hq] at h9; cases h9), fun q9 h9 => by
      rw [hq] at h9
      cases h9
      have h8 : kf = 0 := (by omega)
      subst h8
      show mB _ na (lfA told m w q (A.1, max A.2.1 (n.toNat : Int), A.2.2))
      rw [lfA_y htq]
      refine ⟨by rw [← hE74, gv_up]; show _ = A.1 + 1; omega, by rw [← hE74, gv_ne _ _ (by decide)]; exact hv99.2.2.2.1, fun j hj => ?_⟩
      rw [← hE74, gv_ne _ _ (by omega), hv99.2.2.2.2 j hj]
      show _ = pif (A.1 = 0) w A.2.2 j
      by_cases hz0 : A.1 = 0
      · rw [if_pos (by omega), pif_pos hz0]
      · rw [if_neg (fun h => hz0 h.1), pif_neg hz0]⟩⟩) (by omega) (by omega)
                      · replace hc70 : ¬ (z62 ≠ (0 : Int)) := hc70
                        refine w_aload (i := 0) (npc := 113) (v := cr 81) rfl rfl rfl ?_
                        refine w_getf (i := 81) (ci := 8) (k := 30) (npc := 116) rfl (hI99.pl (by decide)) (hI99.T (by decide) rfl) (by decide) (hI99.ref 81 30 (p := 99) (by decide) (by decide) rfl) ?_
                        refine w_iload (i := 4) (npc := 118) rfl rfl ?_
                        refine w_aload (i := 0) (npc := 119) (v := cr 81) rfl rfl rfl ?_
                        refine w_getf (i := 81) (ci := 8) (k := 29) (npc := 122) rfl (hI99.pl (by decide)) (hI99.T (by decide) rfl) (by decide) (hI99.ref 81 29 (p := 98) (by decide) (by decide) rfl) ?_
                        refine w_iload (i := 4) (npc := 124) rfl rfl ?_
                        obtain ⟨z77, hz77, hz77a, hz77b⟩ := hI99.int 98 (k : Int).toNat (lo := 0) (hi := 2) (by decide) (show (k : Int).toNat < 8 by omega) rfl
                        have ghz77 := gv_eq hz77
                        refine w_ald (i := 98) (t := 1) (n := 8) (npc := 125) rfl (hI99.pl (by decide)) (hI99.T (by decide) rfl) (by decide) rfl (by omega) hz77 ?_
                        refine w_ast (i := 99) (k := 1) (n := 8) (npc := 126) rfl (hI99.pl (by decide)) (hI99.T (by decide) rfl) (by decide) (by omega) cm_af1 ?_
                        have hI79 := hI99.puti (i := 99) (k := (k : Int).toNat) (z := z77) (lo := 0) (hi := 2) (by decide) rfl (by omega)
                        have hF81 := cm_fr.up (i := 99) (k := (k : Int).toNat) (v := ai_i z77) hF99 (by first | omega | (simp; done) | (simp; omega) | (simp only; omega))
                        generalize hE80 : cm_up Eq99 99 ((k : Int).toNat) (ai_i z77) = E78 at hI79 hF81 ⊢
                        have hz82 : E78 81 32 = ai_i z62 := by rw [← hE80, cm_up_nei _ _ (by decide)]; exact hz62
                        have ghz82 := gv_eq hz82
                        have hz83 : E78 98 ((k : Int).toNat) = ai_i z77 := by rw [← hE80, cm_up_nei _ _ (by decide)]; exact hz77
                        have ghz83 := gv_eq hz83
                        have hz84 : E78 99 ((k : Int).toNat) = ai_i z77 := by rw [← hE80, cm_up_eq]
                        have ghz84 := gv_eq hz84
                        refine w_iinc (i := 4) (n := 1) (npc := 129) (loc' := [cr 81, ai_i n, ai_i z7, ai_i c, ai_i (k + 1)]) rfl rfl (by omega) rfl ?_
                        refine w_goto (pt := 99) rfl ?_
                        exact ih99 (k + 1) E78 (by omega) hI79 hF81 (⟨by omega, by omega, by rw [← hE80, gv_ne _ _ (by omega)]; exact hv99.2.2.1, by rw [← hE80, gv_ne _ _ (by omega)]; exact hv99.2.2.2.1, fun j hj => by
      rw [← hE80]
      by_cases hjk : (j : Int) = k
      · rw [if_pos (by omega), show j = (k : Int).toNat by omega, gv_up]
        have e9 := hp2 (k : Int).toNat (by omega)
        have e8 := gv_fr hF99 (i := 98) (k := (k : Int).toNat) (by omega)
        omega
      · rw [gv_ne _ _ (by omega), hv99.2.2.2.2 j hj]
        by_cases hc9 : A.1 = 0 ∧ (j : Int) < k
        · rw [if_pos hc9, if_pos (by omega)]
        · rw [if_neg hc9, if_neg (by omega)]⟩)
                exact loop99 _ (0) E18 (Nat.lt_succ_self _) hI19 hF21 (⟨by omega, by omega, hmB.1, hmB.2.1, fun j hj => by rw [if_neg (by omega)]; exact hmB.2.2 j hj⟩)
              · replace hc61 : ¬ (c ≠ (0 : Int)) := hc61
                exact w_vret rfl (⟨rfl, rfl, rfl, hI19, hF21, ⟨(fun h9 => by rw [hq] at h9; cases h9), fun q9 h9 => by
      rw [hq] at h9
      cases h9
      have h8 : kf = 0 := (by omega)
      subst h8
      show mB _ na (lfA told m w q (A.1, max A.2.1 (n.toNat : Int), A.2.2))
      rw [lfA_n (hv49.2.2.2.2.2 (by omega))]
      exact hmB⟩⟩) (by omega) (by omega)
            · replace hc60 : ¬ (z4 ≤ k) := hc60
              refine w_iload (i := 3) (npc := 59) rfl rfl ?_
              refine w_if (c := .eq) (npc := 62) (pt := 91) rfl (fun hc86 => ?_) (fun hc86 => ?_)
              · replace hc86 : c = (0 : Int) := hc86
                refine w_iload (i := 3) (npc := 92) rfl rfl ?_
                refine w_if (c := .ne) (npc := 95) (pt := 96) rfl (fun hc87 => ?_) (fun hc87 => ?_)
                · replace hc87 : c ≠ (0 : Int) := hc87
                  have htq : tq told m q := ⟨by have e9 := (hv49.2.2.2.2.1 (by omega)).1; omega, fun j hj => (hv49.2.2.2.2.1 (by omega)).2 j (by omega)⟩
                  refine w_const (n := 0) (npc := 97) rfl ?_
                  refine w_istore (i := 4) (npc := 99) (loc' := [cr 81, ai_i n, ai_i z7, ai_i c, ai_i 0]) rfl rfl ?_
                  have loop99 : ∀ (nf : Nat) (k : Int) (Eq99 : cm_E), ((n - k).toNat) < nf → cs_I T Eq99 nx → cm_fr (fun i k => (i = 81 ∧ (k = 32 ∨ k = 33)) ∨ (i = 98 ∧ n.toNat ≤ k) ∨ i = 99 ∨ i = 100) E Eq99 → (0 ≤ k ∧ k ≤ n ∧ gv Eq99 81 32 = A.1 ∧ gv Eq99 81 33 = max A.2.1 (n.toNat : Int) ∧ ∀ j : Nat, j < na → gv Eq99 99 j = if A.1 = 0 ∧ (j : Int) < k then w j else A.2.2 j) → cm_wp (ai_find ai_c191 sl) (ai_ev sl (d + 1)) x (kc + 0) (ks + 0) (fun rk rv T' E' nx' => rk = 0 ∧ T = T' ∧ nx = nx' ∧ cs_I T E' nx ∧ cm_fr (fun i k => (i = 81 ∧ (k = 32 ∨ k = 33)) ∨ (i = 98 ∧ n.toNat ≤ k) ∨ i = 99 ∨ i = 100) E E' ∧ ((txp pf lf sf na w n.toNat = none → mB E' na A) ∧ ∀ q : Int × (Nat → Int), txp pf lf sf na w n.toNat = some q → mB E' na (sq pf lf sf na told m kf n.toNat w q A))) 99 [cr 81, ai_i n, ai_i z7, ai_i c, ai_i k] [] T Eq99 nx kc ks := by
                    intro nf
                    induction nf with
                    | zero => intro k Eq99 hm; exact absurd hm (Nat.not_lt_zero _)
                    | succ nf99 ih =>
                      intro k Eq99 hm99 hI99 hF99 hv99
                      obtain ⟨z88, hz88, hz88a, hz88b⟩ := hI99.int 81 32 (lo := (-2147483648)) (hi := 2147483647) (by decide) (by decide) rfl
                      have ghz88 := gv_eq hz88
                      have ih99 := ih; clear ih
                      refine w_iload (i := 4) (npc := 101) rfl rfl ?_
                      refine w_iload (i := 1) (npc := 102) rfl rfl ?_
                      refine w_icmp (c := .ge) (npc := 105) (pt := 132) rfl (fun hc89 => ?_) (fun hc89 => ?_)
                      · replace hc89 : n ≤ k := hc89
                        refine w_aload (i := 0) (npc := 133) (v := cr 81) rfl rfl rfl ?_
                        refine w_dup (npc := 134) rfl rfl ?_
                        refine w_getf (i := 81) (ci := 8) (k := 32) (npc := 137) rfl (hI99.pl (by decide)) (hI99.T (by decide) rfl) (by decide) hz88 ?_
                        refine w_const (n := 1) (npc := 138) rfl ?_
                        refine w_iadd (npc := 139) rfl (by omega) ?_
                        refine w_putf (i := 81) (ci := 8) (k := 32) (t := 0) (npc := 142) rfl (hI99.pl (by decide)) (hI99.T (by decide) rfl) (by decide) cm_fit0 ?_
                        have hI92 := hI99.puti (i := 81) (k := 32) (z := z88 + 1) (lo := (-2147483648)) (hi := 2147483647) (by decide) rfl (by omega)
                        have hF94 := cm_fr.up (i := 81) (k := 32) (v := ai_i (z88 + 1)) hF99 (by first | omega | (simp; done) | (simp; omega) | (simp only; omega))
                        generalize hE93 : cm_up Eq99 81 32 (ai_i (z88 + 1)) = E91 at hI92 hF94 ⊢
                        have hz95 : E91 81 32 = ai_i (z88 + 1) := by rw [← hE93, cm_up_eq]
                        have ghz95 := gv_eq hz95
                        exact w_vret rfl (⟨rfl, rfl, rfl, hI92, hF94, ⟨(fun h9 => by rw [hq] at h9; cases h9), fun q9 h9 => by
      rw [hq] at h9
      cases h9
      have h8 : kf = 0 := (by omega)
      subst h8
      show mB _ na (lfA told m w q (A.1, max A.2.1 (n.toNat : Int), A.2.2))
      rw [lfA_y htq]
      refine ⟨by rw [← hE93, gv_up]; show _ = A.1 + 1; omega, by rw [← hE93, gv_ne _ _ (by decide)]; exact hv99.2.2.2.1, fun j hj => ?_⟩
      rw [← hE93, gv_ne _ _ (by omega), hv99.2.2.2.2 j hj]
      show _ = pif (A.1 = 0) w A.2.2 j
      by_cases hz0 : A.1 = 0
      · rw [if_pos (by omega), pif_pos hz0]
      · rw [if_neg (fun h => hz0 h.1), pif_neg hz0]⟩⟩) (by omega) (by omega)
                      · replace hc89 : ¬ (n ≤ k) := hc89
                        refine w_aload (i := 0) (npc := 106) (v := cr 81) rfl rfl rfl ?_
                        refine w_getf (i := 81) (ci := 8) (k := 32) (npc := 109) rfl (hI99.pl (by decide)) (hI99.T (by decide) rfl) (by decide) hz88 ?_
                        refine w_if (c := .ne) (npc := 112) (pt := 132) rfl (fun hc96 => ?_) (fun hc96 => ?_)
                        · replace hc96 : z88 ≠ (0 : Int) := hc96
                          refine w_aload (i := 0) (npc := 133) (v := cr 81) rfl rfl rfl ?_
                          refine w_dup (npc := 134) rfl rfl ?_
                          refine w_getf (i := 81) (ci := 8) (k := 32) (npc := 137) rfl (hI99.pl (by decide)) (hI99.T (by decide) rfl) (by decide) hz88 ?_
                          refine w_const (n := 1) (npc := 138) rfl ?_
                          refine w_iadd (npc := 139) rfl (by omega) ?_
                          refine w_putf (i := 81) (ci := 8) (k := 32) (t := 0) (npc := 142) rfl (hI99.pl (by decide)) (hI99.T (by decide) rfl) (by decide) cm_fit0 ?_
                          have hI99 := hI99.puti (i := 81) (k := 32) (z := z88 + 1) (lo := (-2147483648)) (hi := 2147483647) (by decide) rfl (by omega)
                          have hF101 := cm_fr.up (i := 81) (k := 32) (v := ai_i (z88 + 1)) hF99 (by first | omega | (simp; done) | (simp; omega) | (simp only; omega))
                          generalize hE100 : cm_up Eq99 81 32 (ai_i (z88 + 1)) = E98 at hI99 hF101 ⊢
                          have hz102 : E98 81 32 = ai_i (z88 + 1) := by rw [← hE100, cm_up_eq]
                          have ghz102 := gv_eq hz102
                          exact w_vret rfl (⟨rfl, rfl, rfl, hI99, hF101, ⟨(fun h9 => by rw [hq] at h9; cases h9), fun q9 h9 => by
      rw [hq] at h9
      cases h9
      have h8 : kf = 0 := (by omega)
      subst h8
      show mB _ na (lfA told m w q (A.1, max A.2.1 (n.toNat : Int), A.2.2))
      rw [lfA_y htq]
      refine ⟨by rw [← hE100, gv_up]; show _ = A.1 + 1; omega, by rw [← hE100, gv_ne _ _ (by decide)]; exact hv99.2.2.2.1, fun j hj => ?_⟩
      rw [← hE100, gv_ne _ _ (by omega), hv99.2.2.2.2 j hj]
      show _ = pif (A.1 = 0) w A.2.2 j
      by_cases hz0 : A.1 = 0
      · rw [if_pos (by omega), pif_pos hz0]
      · rw [if_neg (fun h => hz0 h.1), pif_neg hz0]⟩⟩) (by omega) (by omega)
                        · replace hc96 : ¬ (z88 ≠ (0 : Int)) := hc96
                          refine w_aload (i := 0) (npc := 113) (v := cr 81) rfl rfl rfl ?_
                          refine w_getf (i := 81) (ci := 8) (k := 30) (npc := 116) rfl (hI99.pl (by decide)) (hI99.T (by decide) rfl) (by decide) (hI99.ref 81 30 (p := 99) (by decide) (by decide) rfl) ?_
                          refine w_iload (i := 4) (npc := 118) rfl rfl ?_
                          refine w_aload (i := 0) (npc := 119) (v := cr 81) rfl rfl rfl ?_
                          refine w_getf (i := 81) (ci := 8) (k := 29) (npc := 122) rfl (hI99.pl (by decide)) (hI99.T (by decide) rfl) (by decide) (hI99.ref 81 29 (p := 98) (by decide) (by decide) rfl) ?_
                          refine w_iload (i := 4) (npc := 124) rfl rfl ?_
                          obtain ⟨z103, hz103, hz103a, hz103b⟩ := hI99.int 98 (k : Int).toNat (lo := 0) (hi := 2) (by decide) (show (k : Int).toNat < 8 by omega) rfl
                          have ghz103 := gv_eq hz103
                          refine w_ald (i := 98) (t := 1) (n := 8) (npc := 125) rfl (hI99.pl (by decide)) (hI99.T (by decide) rfl) (by decide) rfl (by omega) hz103 ?_
                          refine w_ast (i := 99) (k := 1) (n := 8) (npc := 126) rfl (hI99.pl (by decide)) (hI99.T (by decide) rfl) (by decide) (by omega) cm_af1 ?_
                          have hI105 := hI99.puti (i := 99) (k := (k : Int).toNat) (z := z103) (lo := 0) (hi := 2) (by decide) rfl (by omega)
                          have hF107 := cm_fr.up (i := 99) (k := (k : Int).toNat) (v := ai_i z103) hF99 (by first | omega | (simp; done) | (simp; omega) | (simp only; omega))
                          generalize hE106 : cm_up Eq99 99 ((k : Int).toNat) (ai_i z103) = E104 at hI105 hF107 ⊢
                          have hz108 : E104 81 32 = ai_i z88 := by rw [← hE106, cm_up_nei _ _ (by decide)]; exact hz88
                          have ghz108 := gv_eq hz108
                          have hz109 : E104 98 ((k : Int).toNat) = ai_i z103 := by rw [← hE106, cm_up_nei _ _ (by decide)]; exact hz103
                          have ghz109 := gv_eq hz109
                          have hz110 : E104 99 ((k : Int).toNat) = ai_i z103 := by rw [← hE106, cm_up_eq]
                          have ghz110 := gv_eq hz110
                          refine w_iinc (i := 4) (n := 1) (npc := 129) (loc' := [cr 81, ai_i n, ai_i z7, ai_i c, ai_i (k + 1)]) rfl rfl (by omega) rfl ?_
                          refine w_goto (pt := 99) rfl ?_
                          exact ih99 (k + 1) E104 (by omega) hI105 hF107 (⟨by omega, by omega, by rw [← hE106, gv_ne _ _ (by omega)]; exact hv99.2.2.1, by rw [← hE106, gv_ne _ _ (by omega)]; exact hv99.2.2.2.1, fun j hj => by
      rw [← hE106]
      by_cases hjk : (j : Int) = k
      · rw [if_pos (by omega), show j = (k : Int).toNat by omega, gv_up]
        have e9 := hp2 (k : Int).toNat (by omega)
        have e8 := gv_fr hF99 (i := 98) (k := (k : Int).toNat) (by omega)
        omega
      · rw [gv_ne _ _ (by omega), hv99.2.2.2.2 j hj]
        by_cases hc9 : A.1 = 0 ∧ (j : Int) < k
        · rw [if_pos hc9, if_pos (by omega)]
        · rw [if_neg hc9, if_neg (by omega)]⟩)
                  exact loop99 _ (0) E18 (Nat.lt_succ_self _) hI19 hF21 (⟨by omega, by omega, hmB.1, hmB.2.1, fun j hj => by rw [if_neg (by omega)]; exact hmB.2.2 j hj⟩)
                · replace hc87 : ¬ (c ≠ (0 : Int)) := hc87
                  exact w_vret rfl (⟨rfl, rfl, rfl, hI19, hF21, ⟨(fun h9 => by rw [hq] at h9; cases h9), fun q9 h9 => by
      rw [hq] at h9
      cases h9
      have h8 : kf = 0 := (by omega)
      subst h8
      show mB _ na (lfA told m w q (A.1, max A.2.1 (n.toNat : Int), A.2.2))
      rw [lfA_n (hv49.2.2.2.2.2 (by omega))]
      exact hmB⟩⟩) (by omega) (by omega)
              · replace hc86 : ¬ (c = (0 : Int)) := hc86
                refine w_aload (i := 0) (npc := 63) (v := cr 81) rfl rfl rfl ?_
                refine w_getf (i := 81) (ci := 8) (k := 31) (npc := 66) rfl (hI19.pl (by decide)) (hI19.T (by decide) rfl) (by decide) (hI19.ref 81 31 (p := 100) (by decide) (by decide) rfl) ?_
                refine w_iload (i := 4) (npc := 68) rfl rfl ?_
                obtain ⟨z112, hz112, hz112a, hz112b⟩ := hI19.int 100 (k : Int).toNat (lo := (-1)) (hi := 126) (by decide) (show (k : Int).toNat < 8 by omega) rfl
                have ghz112 := gv_eq hz112
                refine w_ald (i := 100) (t := 1) (n := 8) (npc := 69) rfl (hI19.pl (by decide)) (hI19.T (by decide) rfl) (by decide) rfl (by omega) hz112 ?_
                refine w_aload (i := 0) (npc := 70) (v := cr 81) rfl rfl rfl ?_
                refine w_getf (i := 81) (ci := 8) (k := 25) (npc := 73) rfl (hI19.pl (by decide)) (hI19.T (by decide) rfl) (by decide) (hI19.ref 81 25 (p := 94) (by decide) (by decide) rfl) ?_
                refine w_iload (i := 4) (npc := 75) rfl rfl ?_
                obtain ⟨z113, hz113, hz113a, hz113b⟩ := hI19.int 94 (k : Int).toNat (lo := 0) (hi := 126) (by decide) (show (k : Int).toNat < 12 by omega) rfl
                have ghz113 := gv_eq hz113
                refine w_ald (i := 94) (t := 1) (n := 12) (npc := 76) rfl (hI19.pl (by decide)) (hI19.T (by decide) rfl) (by decide) rfl (by omega) hz113 ?_
                refine w_icmp (c := .ne) (npc := 79) (pt := 83) rfl (fun hc114 => ?_) (fun hc114 => ?_)
                · replace hc114 : z112 ≠ z113 := hc114
                  refine w_const (n := 0) (npc := 84) rfl ?_
                  refine w_istore (i := 3) (npc := 85) (loc' := [cr 81, ai_i n, ai_i z7, ai_i 0, ai_i k]) rfl rfl ?_
                  refine w_iinc (i := 4) (n := 1) (npc := 88) (loc' := [cr 81, ai_i n, ai_i z7, ai_i 0, ai_i (k + 1)]) rfl rfl (by omega) rfl ?_
                  refine w_goto (pt := 49) rfl ?_
                  exact ih49 (0) (k + 1) (by omega) (⟨by omega, by omega, by omega, by omega, fun h => absurd h (by omega), fun _ h9 => by
      have e5 := h9.2 (k : Int).toNat (by omega)
      have e9 := hq3 (k : Int).toNat (by have e5 := (hv49.2.2.2.2.1 (by omega)).1; omega); have e8 := hp3 (k : Int).toNat (by omega); have e7 := gv_fr hF21 (i := 94) (k := (k : Int).toNat) (by omega); have e6 := gv_ne E6 (i := 81) (k := 33) (i' := 100) (k' := (k : Int).toNat) (ai_i z17) (by omega); rw [hE20] at e6
      omega⟩)
                · replace hc114 : ¬ (z112 ≠ z113) := hc114
                  refine w_const (n := 1) (npc := 80) rfl ?_
                  refine w_goto (pt := 84) rfl ?_
                  refine w_istore (i := 3) (npc := 85) (loc' := [cr 81, ai_i n, ai_i z7, ai_i 1, ai_i k]) rfl rfl ?_
                  refine w_iinc (i := 4) (n := 1) (npc := 88) (loc' := [cr 81, ai_i n, ai_i z7, ai_i 1, ai_i (k + 1)]) rfl rfl (by omega) rfl ?_
                  refine w_goto (pt := 49) rfl ?_
                  exact ih49 (1) (k + 1) (by omega) (⟨by omega, by omega, by omega, by omega, fun _ => ⟨(hv49.2.2.2.2.1 (by omega)).1, fun j hj => by
      by_cases hjk : (j : Int) = k
      · have e9 := hq3 (k : Int).toNat (by have e5 := (hv49.2.2.2.2.1 (by omega)).1; omega); have e8 := hp3 (k : Int).toNat (by omega); have e7 := gv_fr hF21 (i := 94) (k := (k : Int).toNat) (by omega); have e6 := gv_ne E6 (i := 81) (k := 33) (i' := 100) (k' := (k : Int).toNat) (ai_i z17) (by omega); rw [hE20] at e6; rw [show j = (k : Int).toNat by omega]; omega
      · exact (hv49.2.2.2.2.1 (by omega)).2 j (by omega)⟩, fun h => absurd h (by omega)⟩)
        exact loop49 _ (0) (0) (Nat.lt_succ_self _) (⟨by omega, by omega, by omega, by omega, fun h => absurd h (by omega), fun _ h9 => by have e9 := h9.1; omega⟩)
      · replace hc59 : ¬ (z7 ≠ z4) := hc59
        refine w_const (n := 1) (npc := 41) rfl ?_
        refine w_goto (pt := 45) rfl ?_
        refine w_istore (i := 3) (npc := 46) (loc' := [cr 81, ai_i n, ai_i z7, ai_i 1, ai_un]) rfl rfl ?_
        have hmB : mB E18 na (A.1, max A.2.1 (n.toNat : Int), A.2.2) := ⟨by rw [← hE20, gv_ne _ _ (by decide), ← gv_fr hG9 (by decide)]; exact ha1, by rw [← hE20, gv_up]; show _ = max A.2.1 (n.toNat : Int); omega, fun j hj => by rw [← hE20, gv_ne _ _ (by omega), ← gv_fr hG9 (by omega)]; exact ha3 j hj⟩
        refine w_const (n := 0) (npc := 47) rfl ?_
        refine w_istore (i := 4) (npc := 49) (loc' := [cr 81, ai_i n, ai_i z7, ai_i 1, ai_i 0]) rfl rfl ?_
        have loop49 : ∀ (nf : Nat) (c : Int) (k : Int), ((12 - k).toNat) < nf → (0 ≤ k ∧ k ≤ 12 ∧ 0 ≤ c ∧ c ≤ 1 ∧ (c = 1 → gv E18 81 23 = (z7) ∧ ∀ j : Nat, (j : Int) < k → q.2 j = told j) ∧ (c = 0 → ¬ tq told m q)) → cm_wp (ai_find ai_c191 sl) (ai_ev sl (d + 1)) x (kc + 0) (ks + 0) (fun rk rv T' E' nx' => rk = 0 ∧ T = T' ∧ nx = nx' ∧ cs_I T E' nx ∧ cm_fr (fun i k => (i = 81 ∧ (k = 32 ∨ k = 33)) ∨ (i = 98 ∧ n.toNat ≤ k) ∨ i = 99 ∨ i = 100) E E' ∧ ((txp pf lf sf na w n.toNat = none → mB E' na A) ∧ ∀ q : Int × (Nat → Int), txp pf lf sf na w n.toNat = some q → mB E' na (sq pf lf sf na told m kf n.toNat w q A))) 49 [cr 81, ai_i n, ai_i z7, ai_i c, ai_i k] [] T E18 nx kc ks := by
          intro nf
          induction nf with
          | zero => intro c k hm; exact absurd hm (Nat.not_lt_zero _)
          | succ nf49 ih =>
            intro c k hm49 hv49
            have ih49 := ih; clear ih
            refine w_iload (i := 4) (npc := 51) rfl rfl ?_
            refine w_aload (i := 0) (npc := 52) (v := cr 81) rfl rfl rfl ?_
            refine w_getf (i := 81) (ci := 8) (k := 23) (npc := 55) rfl (hI19.pl (by decide)) (hI19.T (by decide) rfl) (by decide) hz24 ?_
            refine w_icmp (c := .ge) (npc := 58) (pt := 91) rfl (fun hc117 => ?_) (fun hc117 => ?_)
            · replace hc117 : z4 ≤ k := hc117
              refine w_iload (i := 3) (npc := 92) rfl rfl ?_
              refine w_if (c := .ne) (npc := 95) (pt := 96) rfl (fun hc118 => ?_) (fun hc118 => ?_)
              · replace hc118 : c ≠ (0 : Int) := hc118
                have htq : tq told m q := ⟨by have e9 := (hv49.2.2.2.2.1 (by omega)).1; omega, fun j hj => (hv49.2.2.2.2.1 (by omega)).2 j (by omega)⟩
                refine w_const (n := 0) (npc := 97) rfl ?_
                refine w_istore (i := 4) (npc := 99) (loc' := [cr 81, ai_i n, ai_i z7, ai_i c, ai_i 0]) rfl rfl ?_
                have loop99 : ∀ (nf : Nat) (k : Int) (Eq99 : cm_E), ((n - k).toNat) < nf → cs_I T Eq99 nx → cm_fr (fun i k => (i = 81 ∧ (k = 32 ∨ k = 33)) ∨ (i = 98 ∧ n.toNat ≤ k) ∨ i = 99 ∨ i = 100) E Eq99 → (0 ≤ k ∧ k ≤ n ∧ gv Eq99 81 32 = A.1 ∧ gv Eq99 81 33 = max A.2.1 (n.toNat : Int) ∧ ∀ j : Nat, j < na → gv Eq99 99 j = if A.1 = 0 ∧ (j : Int) < k then w j else A.2.2 j) → cm_wp (ai_find ai_c191 sl) (ai_ev sl (d + 1)) x (kc + 0) (ks + 0) (fun rk rv T' E' nx' => rk = 0 ∧ T = T' ∧ nx = nx' ∧ cs_I T E' nx ∧ cm_fr (fun i k => (i = 81 ∧ (k = 32 ∨ k = 33)) ∨ (i = 98 ∧ n.toNat ≤ k) ∨ i = 99 ∨ i = 100) E E' ∧ ((txp pf lf sf na w n.toNat = none → mB E' na A) ∧ ∀ q : Int × (Nat → Int), txp pf lf sf na w n.toNat = some q → mB E' na (sq pf lf sf na told m kf n.toNat w q A))) 99 [cr 81, ai_i n, ai_i z7, ai_i c, ai_i k] [] T Eq99 nx kc ks := by
                  intro nf
                  induction nf with
                  | zero => intro k Eq99 hm; exact absurd hm (Nat.not_lt_zero _)
                  | succ nf99 ih =>
                    intro k Eq99 hm99 hI99 hF99 hv99
                    obtain ⟨z119, hz119, hz119a, hz119b⟩ := hI99.int 81 32 (lo := (-2147483648)) (hi := 2147483647) (by decide) (by decide) rfl
                    have ghz119 := gv_eq hz119
                    have ih99 := ih; clear ih
                    refine w_iload (i := 4) (npc := 101) rfl rfl ?_
                    refine w_iload (i := 1) (npc := 102) rfl rfl ?_
                    refine w_icmp (c := .ge) (npc := 105) (pt := 132) rfl (fun hc120 => ?_) (fun hc120 => ?_)
                    · replace hc120 : n ≤ k := hc120
                      refine w_aload (i := 0) (npc := 133) (v := cr 81) rfl rfl rfl ?_
                      refine w_dup (npc := 134) rfl rfl ?_
                      refine w_getf (i := 81) (ci := 8) (k := 32) (npc := 137) rfl (hI99.pl (by decide)) (hI99.T (by decide) rfl) (by decide) hz119 ?_
                      refine w_const (n := 1) (npc := 138) rfl ?_
                      refine w_iadd (npc := 139) rfl (by omega) ?_
                      refine w_putf (i := 81) (ci := 8) (k := 32) (t := 0) (npc := 142) rfl (hI99.pl (by decide)) (hI99.T (by decide) rfl) (by decide) cm_fit0 ?_
                      have hI123 := hI99.puti (i := 81) (k := 32) (z := z119 + 1) (lo := (-2147483648)) (hi := 2147483647) (by decide) rfl (by omega)
                      have hF125 := cm_fr.up (i := 81) (k := 32) (v := ai_i (z119 + 1)) hF99 (by first | omega | (simp; done) | (simp; omega) | (simp only; omega))
                      generalize hE124 : cm_up Eq99 81 32 (ai_i (z119 + 1)) = E122 at hI123 hF125 ⊢
                      have hz126 : E122 81 32 = ai_i (z119 + 1) := by rw [← hE124, cm_up_eq]
                      have ghz126 := gv_eq hz126
                      exact w_vret rfl (⟨rfl, rfl, rfl, hI123, hF125, ⟨(fun h9 => by rw [hq] at h9; cases h9), fun q9 h9 => by
      rw [hq] at h9
      cases h9
      have h8 : kf = 0 := (by omega)
      subst h8
      show mB _ na (lfA told m w q (A.1, max A.2.1 (n.toNat : Int), A.2.2))
      rw [lfA_y htq]
      refine ⟨by rw [← hE124, gv_up]; show _ = A.1 + 1; omega, by rw [← hE124, gv_ne _ _ (by decide)]; exact hv99.2.2.2.1, fun j hj => ?_⟩
      rw [← hE124, gv_ne _ _ (by omega), hv99.2.2.2.2 j hj]
      show _ = pif (A.1 = 0) w A.2.2 j
      by_cases hz0 : A.1 = 0
      · rw [if_pos (by omega), pif_pos hz0]
      · rw [if_neg (fun h => hz0 h.1), pif_neg hz0]⟩⟩) (by omega) (by omega)
                    · replace hc120 : ¬ (n ≤ k) := hc120
                      refine w_aload (i := 0) (npc := 106) (v := cr 81) rfl rfl rfl ?_
                      refine w_getf (i := 81) (ci := 8) (k := 32) (npc := 109) rfl (hI99.pl (by decide)) (hI99.T (by decide) rfl) (by decide) hz119 ?_
                      refine w_if (c := .ne) (npc := 112) (pt := 132) rfl (fun hc127 => ?_) (fun hc127 => ?_)
                      · replace hc127 : z119 ≠ (0 : Int) := hc127
                        refine w_aload (i := 0) (npc := 133) (v := cr 81) rfl rfl rfl ?_
                        refine w_dup (npc := 134) rfl rfl ?_
                        refine w_getf (i := 81) (ci := 8) (k := 32) (npc := 137) rfl (hI99.pl (by decide)) (hI99.T (by decide) rfl) (by decide) hz119 ?_
                        refine w_const (n := 1) (npc := 138) rfl ?_
                        refine w_iadd (npc := 139) rfl (by omega) ?_
                        refine w_putf (i := 81) (ci := 8) (k := 32) (t := 0) (npc := 142) rfl (hI99.pl (by decide)) (hI99.T (by decide) rfl) (by decide) cm_fit0 ?_
                        have hI130 := hI99.puti (i := 81) (k := 32) (z := z119 + 1) (lo := (-2147483648)) (hi := 2147483647) (by decide) rfl (by omega)
                        have hF132 := cm_fr.up (i := 81) (k := 32) (v := ai_i (z119 + 1)) hF99 (by first | omega | (simp; done) | (simp; omega) | (simp only; omega))
                        generalize hE131 : cm_up Eq99 81 32 (ai_i (z119 + 1)) = E129 at hI130 hF132 ⊢
                        have hz133 : E129 81 32 = ai_i (z119 + 1) := by rw [← hE131, cm_up_eq]
                        have ghz133 := gv_eq hz133
                        exact w_vret rfl (⟨rfl, rfl, rfl, hI130, hF132, ⟨(fun h9 => by rw [hq] at h9; cases h9), fun q9 h9 => by
      rw [hq] at h9
      cases h9
      have h8 : kf = 0 := (by omega)
      subst h8
      show mB _ na (lfA told m w q (A.1, max A.2.1 (n.toNat : Int), A.2.2))
      rw [lfA_y htq]
      refine ⟨by rw [← hE131, gv_up]; show _ = A.1 + 1; omega, by rw [← hE131, gv_ne _ _ (by decide)]; exact hv99.2.2.2.1, fun j hj => ?_⟩
      rw [← hE131, gv_ne _ _ (by omega), hv99.2.2.2.2 j hj]
      show _ = pif (A.1 = 0) w A.2.2 j
      by_cases hz0 : A.1 = 0
      · rw [if_pos (by omega), pif_pos hz0]
      · rw [if_neg (fun h => hz0 h.1), pif_neg hz0]⟩⟩) (by omega) (by omega)
                      · replace hc127 : ¬ (z119 ≠ (0 : Int)) := hc127
                        refine w_aload (i := 0) (npc := 113) (v := cr 81) rfl rfl rfl ?_
                        refine w_getf (i := 81) (ci := 8) (k := 30) (npc := 116) rfl (hI99.pl (by decide)) (hI99.T (by decide) rfl) (by decide) (hI99.ref 81 30 (p := 99) (by decide) (by decide) rfl) ?_
                        refine w_iload (i := 4) (npc := 118) rfl rfl ?_
                        refine w_aload (i := 0) (npc := 119) (v := cr 81) rfl rfl rfl ?_
                        refine w_getf (i := 81) (ci := 8) (k := 29) (npc := 122) rfl (hI99.pl (by decide)) (hI99.T (by decide) rfl) (by decide) (hI99.ref 81 29 (p := 98) (by decide) (by decide) rfl) ?_
                        refine w_iload (i := 4) (npc := 124) rfl rfl ?_
                        obtain ⟨z134, hz134, hz134a, hz134b⟩ := hI99.int 98 (k : Int).toNat (lo := 0) (hi := 2) (by decide) (show (k : Int).toNat < 8 by omega) rfl
                        have ghz134 := gv_eq hz134
                        refine w_ald (i := 98) (t := 1) (n := 8) (npc := 125) rfl (hI99.pl (by decide)) (hI99.T (by decide) rfl) (by decide) rfl (by omega) hz134 ?_
                        refine w_ast (i := 99) (k := 1) (n := 8) (npc := 126) rfl (hI99.pl (by decide)) (hI99.T (by decide) rfl) (by decide) (by omega) cm_af1 ?_
                        have hI136 := hI99.puti (i := 99) (k := (k : Int).toNat) (z := z134) (lo := 0) (hi := 2) (by decide) rfl (by omega)
                        have hF138 := cm_fr.up (i := 99) (k := (k : Int).toNat) (v := ai_i z134) hF99 (by first | omega | (simp; done) | (simp; omega) | (simp only; omega))
                        generalize hE137 : cm_up Eq99 99 ((k : Int).toNat) (ai_i z134) = E135 at hI136 hF138 ⊢
                        have hz139 : E135 81 32 = ai_i z119 := by rw [← hE137, cm_up_nei _ _ (by decide)]; exact hz119
                        have ghz139 := gv_eq hz139
                        have hz140 : E135 98 ((k : Int).toNat) = ai_i z134 := by rw [← hE137, cm_up_nei _ _ (by decide)]; exact hz134
                        have ghz140 := gv_eq hz140
                        have hz141 : E135 99 ((k : Int).toNat) = ai_i z134 := by rw [← hE137, cm_up_eq]
                        have ghz141 := gv_eq hz141
                        refine w_iinc (i := 4) (n := 1) (npc := 129) (loc' := [cr 81, ai_i n, ai_i z7, ai_i c, ai_i (k + 1)]) rfl rfl (by omega) rfl ?_
                        refine w_goto (pt := 99) rfl ?_
                        exact ih99 (k + 1) E135 (by omega) hI136 hF138 (⟨by omega, by omega, by rw [← hE137, gv_ne _ _ (by omega)]; exact hv99.2.2.1, by rw [← hE137, gv_ne _ _ (by omega)]; exact hv99.2.2.2.1, fun j hj => by
      rw [← hE137]
      by_cases hjk : (j : Int) = k
      · rw [if_pos (by omega), show j = (k : Int).toNat by omega, gv_up]
        have e9 := hp2 (k : Int).toNat (by omega)
        have e8 := gv_fr hF99 (i := 98) (k := (k : Int).toNat) (by omega)
        omega
      · rw [gv_ne _ _ (by omega), hv99.2.2.2.2 j hj]
        by_cases hc9 : A.1 = 0 ∧ (j : Int) < k
        · rw [if_pos hc9, if_pos (by omega)]
        · rw [if_neg hc9, if_neg (by omega)]⟩)
                exact loop99 _ (0) E18 (Nat.lt_succ_self _) hI19 hF21 (⟨by omega, by omega, hmB.1, hmB.2.1, fun j hj => by rw [if_neg (by omega)]; exact hmB.2.2 j hj⟩)
              · replace hc118 : ¬ (c ≠ (0 : Int)) := hc118
                exact w_vret rfl (⟨rfl, rfl, rfl, hI19, hF21, ⟨(fun h9 => by rw [hq] at h9; cases h9), fun q9 h9 => by
      rw [hq] at h9
      cases h9
      have h8 : kf = 0 := (by omega)
      subst h8
      show mB _ na (lfA told m w q (A.1, max A.2.1 (n.toNat : Int), A.2.2))
      rw [lfA_n (hv49.2.2.2.2.2 (by omega))]
      exact hmB⟩⟩) (by omega) (by omega)
            · replace hc117 : ¬ (z4 ≤ k) := hc117
              refine w_iload (i := 3) (npc := 59) rfl rfl ?_
              refine w_if (c := .eq) (npc := 62) (pt := 91) rfl (fun hc143 => ?_) (fun hc143 => ?_)
              · replace hc143 : c = (0 : Int) := hc143
                refine w_iload (i := 3) (npc := 92) rfl rfl ?_
                refine w_if (c := .ne) (npc := 95) (pt := 96) rfl (fun hc144 => ?_) (fun hc144 => ?_)
                · replace hc144 : c ≠ (0 : Int) := hc144
                  have htq : tq told m q := ⟨by have e9 := (hv49.2.2.2.2.1 (by omega)).1; omega, fun j hj => (hv49.2.2.2.2.1 (by omega)).2 j (by omega)⟩
                  refine w_const (n := 0) (npc := 97) rfl ?_
                  refine w_istore (i := 4) (npc := 99) (loc' := [cr 81, ai_i n, ai_i z7, ai_i c, ai_i 0]) rfl rfl ?_
                  have loop99 : ∀ (nf : Nat) (k : Int) (Eq99 : cm_E), ((n - k).toNat) < nf → cs_I T Eq99 nx → cm_fr (fun i k => (i = 81 ∧ (k = 32 ∨ k = 33)) ∨ (i = 98 ∧ n.toNat ≤ k) ∨ i = 99 ∨ i = 100) E Eq99 → (0 ≤ k ∧ k ≤ n ∧ gv Eq99 81 32 = A.1 ∧ gv Eq99 81 33 = max A.2.1 (n.toNat : Int) ∧ ∀ j : Nat, j < na → gv Eq99 99 j = if A.1 = 0 ∧ (j : Int) < k then w j else A.2.2 j) → cm_wp (ai_find ai_c191 sl) (ai_ev sl (d + 1)) x (kc + 0) (ks + 0) (fun rk rv T' E' nx' => rk = 0 ∧ T = T' ∧ nx = nx' ∧ cs_I T E' nx ∧ cm_fr (fun i k => (i = 81 ∧ (k = 32 ∨ k = 33)) ∨ (i = 98 ∧ n.toNat ≤ k) ∨ i = 99 ∨ i = 100) E E' ∧ ((txp pf lf sf na w n.toNat = none → mB E' na A) ∧ ∀ q : Int × (Nat → Int), txp pf lf sf na w n.toNat = some q → mB E' na (sq pf lf sf na told m kf n.toNat w q A))) 99 [cr 81, ai_i n, ai_i z7, ai_i c, ai_i k] [] T Eq99 nx kc ks := by
                    intro nf
                    induction nf with
                    | zero => intro k Eq99 hm; exact absurd hm (Nat.not_lt_zero _)
                    | succ nf99 ih =>
                      intro k Eq99 hm99 hI99 hF99 hv99
                      obtain ⟨z145, hz145, hz145a, hz145b⟩ := hI99.int 81 32 (lo := (-2147483648)) (hi := 2147483647) (by decide) (by decide) rfl
                      have ghz145 := gv_eq hz145
                      have ih99 := ih; clear ih
                      refine w_iload (i := 4) (npc := 101) rfl rfl ?_
                      refine w_iload (i := 1) (npc := 102) rfl rfl ?_
                      refine w_icmp (c := .ge) (npc := 105) (pt := 132) rfl (fun hc146 => ?_) (fun hc146 => ?_)
                      · replace hc146 : n ≤ k := hc146
                        refine w_aload (i := 0) (npc := 133) (v := cr 81) rfl rfl rfl ?_
                        refine w_dup (npc := 134) rfl rfl ?_
                        refine w_getf (i := 81) (ci := 8) (k := 32) (npc := 137) rfl (hI99.pl (by decide)) (hI99.T (by decide) rfl) (by decide) hz145 ?_
                        refine w_const (n := 1) (npc := 138) rfl ?_
                        refine w_iadd (npc := 139) rfl (by omega) ?_
                        refine w_putf (i := 81) (ci := 8) (k := 32) (t := 0) (npc := 142) rfl (hI99.pl (by decide)) (hI99.T (by decide) rfl) (by decide) cm_fit0 ?_
                        have hI149 := hI99.puti (i := 81) (k := 32) (z := z145 + 1) (lo := (-2147483648)) (hi := 2147483647) (by decide) rfl (by omega)
                        have hF151 := cm_fr.up (i := 81) (k := 32) (v := ai_i (z145 + 1)) hF99 (by first | omega | (simp; done) | (simp; omega) | (simp only; omega))
                        generalize hE150 : cm_up Eq99 81 32 (ai_i (z145 + 1)) = E148 at hI149 hF151 ⊢
                        have hz152 : E148 81 32 = ai_i (z145 + 1) := by rw [← hE150, cm_up_eq]
                        have ghz152 := gv_eq hz152
                        exact w_vret rfl (⟨rfl, rfl, rfl, hI149, hF151, ⟨(fun h9 => by rw [hq] at h9; cases h9), fun q9 h9 => by
      rw [hq] at h9
      cases h9
      have h8 : kf = 0 := (by omega)
      subst h8
      show mB _ na (lfA told m w q (A.1, max A.2.1 (n.toNat : Int), A.2.2))
      rw [lfA_y htq]
      refine ⟨by rw [← hE150, gv_up]; show _ = A.1 + 1; omega, by rw [← hE150, gv_ne _ _ (by decide)]; exact hv99.2.2.2.1, fun j hj => ?_⟩
      rw [← hE150, gv_ne _ _ (by omega), hv99.2.2.2.2 j hj]
      show _ = pif (A.1 = 0) w A.2.2 j
      by_cases hz0 : A.1 = 0
      · rw [if_pos (by omega), pif_pos hz0]
      · rw [if_neg (fun h => hz0 h.1), pif_neg hz0]⟩⟩) (by omega) (by omega)
                      · replace hc146 : ¬ (n ≤ k) := hc146
                        refine w_aload (i := 0) (npc := 106) (v := cr 81) rfl rfl rfl ?_
                        refine w_getf (i := 81) (ci := 8) (k := 32) (npc := 109) rfl (hI99.pl (by decide)) (hI99.T (by decide) rfl) (by decide) hz145 ?_
                        refine w_if (c := .ne) (npc := 112) (pt := 132) rfl (fun hc153 => ?_) (fun hc153 => ?_)
                        · replace hc153 : z145 ≠ (0 : Int) := hc153
                          refine w_aload (i := 0) (npc := 133) (v := cr 81) rfl rfl rfl ?_
                          refine w_dup (npc := 134) rfl rfl ?_
                          refine w_getf (i := 81) (ci := 8) (k := 32) (npc := 137) rfl (hI99.pl (by decide)) (hI99.T (by decide) rfl) (by decide) hz145 ?_
                          refine w_const (n := 1) (npc := 138) rfl ?_
                          refine w_iadd (npc := 139) rfl (by omega) ?_
                          refine w_putf (i := 81) (ci := 8) (k := 32) (t := 0) (npc := 142) rfl (hI99.pl (by decide)) (hI99.T (by decide) rfl) (by decide) cm_fit0 ?_
                          have hI156 := hI99.puti (i := 81) (k := 32) (z := z145 + 1) (lo := (-2147483648)) (hi := 2147483647) (by decide) rfl (by omega)
                          have hF158 := cm_fr.up (i := 81) (k := 32) (v := ai_i (z145 + 1)) hF99 (by first | omega | (simp; done) | (simp; omega) | (simp only; omega))
                          generalize hE157 : cm_up Eq99 81 32 (ai_i (z145 + 1)) = E155 at hI156 hF158 ⊢
                          have hz159 : E155 81 32 = ai_i (z145 + 1) := by rw [← hE157, cm_up_eq]
                          have ghz159 := gv_eq hz159
                          exact w_vret rfl (⟨rfl, rfl, rfl, hI156, hF158, ⟨(fun h9 => by rw [hq] at h9; cases h9), fun q9 h9 => by
      rw [hq] at h9
      cases h9
      have h8 : kf = 0 := (by omega)
      subst h8
      show mB _ na (lfA told m w q (A.1, max A.2.1 (n.toNat : Int), A.2.2))
      rw [lfA_y htq]
      refine ⟨by rw [← hE157, gv_up]; show _ = A.1 + 1; omega, by rw [← hE157, gv_ne _ _ (by decide)]; exact hv99.2.2.2.1, fun j hj => ?_⟩
      rw [← hE157, gv_ne _ _ (by omega), hv99.2.2.2.2 j hj]
      show _ = pif (A.1 = 0) w A.2.2 j
      by_cases hz0 : A.1 = 0
      · rw [if_pos (by omega), pif_pos hz0]
      · rw [if_neg (fun h => hz0 h.1), pif_neg hz0]⟩⟩) (by omega) (by omega)
                        · replace hc153 : ¬ (z145 ≠ (0 : Int)) := hc153
                          refine w_aload (i := 0) (npc := 113) (v := cr 81) rfl rfl rfl ?_
                          refine w_getf (i := 81) (ci := 8) (k := 30) (npc := 116) rfl (hI99.pl (by decide)) (hI99.T (by decide) rfl) (by decide) (hI99.ref 81 30 (p := 99) (by decide) (by decide) rfl) ?_
                          refine w_iload (i := 4) (npc := 118) rfl rfl ?_
                          refine w_aload (i := 0) (npc := 119) (v := cr 81) rfl rfl rfl ?_
                          refine w_getf (i := 81) (ci := 8) (k := 29) (npc := 122) rfl (hI99.pl (by decide)) (hI99.T (by decide) rfl) (by decide) (hI99.ref 81 29 (p := 98) (by decide) (by decide) rfl) ?_
                          refine w_iload (i := 4) (npc := 124) rfl rfl ?_
                          obtain ⟨z160, hz160, hz160a, hz160b⟩ := hI99.int 98 (k : Int).toNat (lo := 0) (hi := 2) (by decide) (show (k : Int).toNat < 8 by omega) rfl
                          have ghz160 := gv_eq hz160
                          refine w_ald (i := 98) (t := 1) (n := 8) (npc := 125) rfl (hI99.pl (by decide)) (hI99.T (by decide) rfl) (by decide) rfl (by omega) hz160 ?_
                          refine w_ast (i := 99) (k := 1) (n := 8) (npc := 126) rfl (hI99.pl (by decide)) (hI99.T (by decide) rfl) (by decide) (by omega) cm_af1 ?_
                          have hI162 := hI99.puti (i := 99) (k := (k : Int).toNat) (z := z160) (lo := 0) (hi := 2) (by decide) rfl (by omega)
                          have hF164 := cm_fr.up (i := 99) (k := (k : Int).toNat) (v := ai_i z160) hF99 (by first | omega | (simp; done) | (simp; omega) | (simp only; omega))
                          generalize hE163 : cm_up Eq99 99 ((k : Int).toNat) (ai_i z160) = E161 at hI162 hF164 ⊢
                          have hz165 : E161 81 32 = ai_i z145 := by rw [← hE163, cm_up_nei _ _ (by decide)]; exact hz145
                          have ghz165 := gv_eq hz165
                          have hz166 : E161 98 ((k : Int).toNat) = ai_i z160 := by rw [← hE163, cm_up_nei _ _ (by decide)]; exact hz160
                          have ghz166 := gv_eq hz166
                          have hz167 : E161 99 ((k : Int).toNat) = ai_i z160 := by rw [← hE163, cm_up_eq]
                          have ghz167 := gv_eq hz167
                          refine w_iinc (i := 4) (n := 1) (npc := 129) (loc' := [cr 81, ai_i n, ai_i z7, ai_i c, ai_i (k + 1)]) rfl rfl (by omega) rfl ?_
                          refine w_goto (pt := 99) rfl ?_
                          exact ih99 (k + 1) E161 (by omega) hI162 hF164 (⟨by omega, by omega, by rw [← hE163, gv_ne _ _ (by omega)]; exact hv99.2.2.1, by rw [← hE163, gv_ne _ _ (by omega)]; exact hv99.2.2.2.1, fun j hj => by
      rw [← hE163]
      by_cases hjk : (j : Int) = k
      · rw [if_pos (by omega), show j = (k : Int).toNat by omega, gv_up]
        have e9 := hp2 (k : Int).toNat (by omega)
        have e8 := gv_fr hF99 (i := 98) (k := (k : Int).toNat) (by omega)
        omega
      · rw [gv_ne _ _ (by omega), hv99.2.2.2.2 j hj]
        by_cases hc9 : A.1 = 0 ∧ (j : Int) < k
        · rw [if_pos hc9, if_pos (by omega)]
        · rw [if_neg hc9, if_neg (by omega)]⟩)
                  exact loop99 _ (0) E18 (Nat.lt_succ_self _) hI19 hF21 (⟨by omega, by omega, hmB.1, hmB.2.1, fun j hj => by rw [if_neg (by omega)]; exact hmB.2.2 j hj⟩)
                · replace hc144 : ¬ (c ≠ (0 : Int)) := hc144
                  exact w_vret rfl (⟨rfl, rfl, rfl, hI19, hF21, ⟨(fun h9 => by rw [hq] at h9; cases h9), fun q9 h9 => by
      rw [hq] at h9
      cases h9
      have h8 : kf = 0 := (by omega)
      subst h8
      show mB _ na (lfA told m w q (A.1, max A.2.1 (n.toNat : Int), A.2.2))
      rw [lfA_n (hv49.2.2.2.2.2 (by omega))]
      exact hmB⟩⟩) (by omega) (by omega)
              · replace hc143 : ¬ (c = (0 : Int)) := hc143
                refine w_aload (i := 0) (npc := 63) (v := cr 81) rfl rfl rfl ?_
                refine w_getf (i := 81) (ci := 8) (k := 31) (npc := 66) rfl (hI19.pl (by decide)) (hI19.T (by decide) rfl) (by decide) (hI19.ref 81 31 (p := 100) (by decide) (by decide) rfl) ?_
                refine w_iload (i := 4) (npc := 68) rfl rfl ?_
                obtain ⟨z169, hz169, hz169a, hz169b⟩ := hI19.int 100 (k : Int).toNat (lo := (-1)) (hi := 126) (by decide) (show (k : Int).toNat < 8 by omega) rfl
                have ghz169 := gv_eq hz169
                refine w_ald (i := 100) (t := 1) (n := 8) (npc := 69) rfl (hI19.pl (by decide)) (hI19.T (by decide) rfl) (by decide) rfl (by omega) hz169 ?_
                refine w_aload (i := 0) (npc := 70) (v := cr 81) rfl rfl rfl ?_
                refine w_getf (i := 81) (ci := 8) (k := 25) (npc := 73) rfl (hI19.pl (by decide)) (hI19.T (by decide) rfl) (by decide) (hI19.ref 81 25 (p := 94) (by decide) (by decide) rfl) ?_
                refine w_iload (i := 4) (npc := 75) rfl rfl ?_
                obtain ⟨z170, hz170, hz170a, hz170b⟩ := hI19.int 94 (k : Int).toNat (lo := 0) (hi := 126) (by decide) (show (k : Int).toNat < 12 by omega) rfl
                have ghz170 := gv_eq hz170
                refine w_ald (i := 94) (t := 1) (n := 12) (npc := 76) rfl (hI19.pl (by decide)) (hI19.T (by decide) rfl) (by decide) rfl (by omega) hz170 ?_
                refine w_icmp (c := .ne) (npc := 79) (pt := 83) rfl (fun hc171 => ?_) (fun hc171 => ?_)
                · replace hc171 : z169 ≠ z170 := hc171
                  refine w_const (n := 0) (npc := 84) rfl ?_
                  refine w_istore (i := 3) (npc := 85) (loc' := [cr 81, ai_i n, ai_i z7, ai_i 0, ai_i k]) rfl rfl ?_
                  refine w_iinc (i := 4) (n := 1) (npc := 88) (loc' := [cr 81, ai_i n, ai_i z7, ai_i 0, ai_i (k + 1)]) rfl rfl (by omega) rfl ?_
                  refine w_goto (pt := 49) rfl ?_
                  exact ih49 (0) (k + 1) (by omega) (⟨by omega, by omega, by omega, by omega, fun h => absurd h (by omega), fun _ h9 => by
      have e5 := h9.2 (k : Int).toNat (by omega)
      have e9 := hq3 (k : Int).toNat (by have e5 := (hv49.2.2.2.2.1 (by omega)).1; omega); have e8 := hp3 (k : Int).toNat (by omega); have e7 := gv_fr hF21 (i := 94) (k := (k : Int).toNat) (by omega); have e6 := gv_ne E6 (i := 81) (k := 33) (i' := 100) (k' := (k : Int).toNat) (ai_i z17) (by omega); rw [hE20] at e6
      omega⟩)
                · replace hc171 : ¬ (z169 ≠ z170) := hc171
                  refine w_const (n := 1) (npc := 80) rfl ?_
                  refine w_goto (pt := 84) rfl ?_
                  refine w_istore (i := 3) (npc := 85) (loc' := [cr 81, ai_i n, ai_i z7, ai_i 1, ai_i k]) rfl rfl ?_
                  refine w_iinc (i := 4) (n := 1) (npc := 88) (loc' := [cr 81, ai_i n, ai_i z7, ai_i 1, ai_i (k + 1)]) rfl rfl (by omega) rfl ?_
                  refine w_goto (pt := 49) rfl ?_
                  exact ih49 (1) (k + 1) (by omega) (⟨by omega, by omega, by omega, by omega, fun _ => ⟨(hv49.2.2.2.2.1 (by omega)).1, fun j hj => by
      by_cases hjk : (j : Int) = k
      · have e9 := hq3 (k : Int).toNat (by have e5 := (hv49.2.2.2.2.1 (by omega)).1; omega); have e8 := hp3 (k : Int).toNat (by omega); have e7 := gv_fr hF21 (i := 94) (k := (k : Int).toNat) (by omega); have e6 := gv_ne E6 (i := 81) (k := 33) (i' := 100) (k' := (k : Int).toNat) (ai_i z17) (by omega); rw [hE20] at e6; rw [show j = (k : Int).toNat by omega]; omega
      · exact (hv49.2.2.2.2.1 (by omega)).2 j (by omega)⟩, fun h => absurd h (by omega)⟩)
        exact loop49 _ (1) (0) (Nat.lt_succ_self _) (⟨by omega, by omega, by omega, by omega, fun _ => ⟨by omega, fun j hj => by omega⟩, fun h => absurd h (by omega)⟩)
  · replace hc16 : ¬ (z7 ≠ ((-1) : Int)) := hc16
    exact w_vret rfl (⟨rfl, rfl, rfl, hI8, hF11, ⟨fun _ => hp5.fr hG9 (by intro i k h; (try simp only at h); omega), fun q hq => by have e9 := (hwo.2 q hq).1; have e8 := (hwo.2 q hq).2.1; omega⟩⟩) (by omega) (by omega)
