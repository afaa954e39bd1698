set_option maxRecDepth 16384 in
theorem ct_ty_walk2_s {sl : Int × Int} {x : ai_E} {d : Nat} {T : cm_T} {E : cm_E} {nx : Nat} (pf lf sf told : Nat → Int) (n : Nat) (m : Int) (kf : Nat) (w : Nat → Int) (q : Int × (Nat → Int)) (A : sA) (t : Int)  (hI : cs_I T E nx) (hp0 : 0 ≤ t ∧ t ≤ 8 ∧ t + (kf : Int) = (n : Int) ∧ n ≤ 8) (hp1 : gv E 40 t.toNat = q.1 ∧ ∀ j : Nat, (j : Int) < q.1 → gv E (31 + t.toNat) j = q.2 j) (hp2 : ∀ k : Nat, (k : Int) < t → gv E 28 k = w k) (hp3 : gv E 23 8 = m ∧ gv E 23 9 = (n : Int)) (hp4 : ∀ j : Nat, (j : Int) < m → gv E 24 j = told j) (hp5 : ∀ a : Nat, a < n → gv E 25 a = pf a ∧ gv E 26 a = lf a ∧ gv E 27 a = sf a) (hp6 : mA E n A) (hp7 : 0 ≤ A.1 ∧ A.1 + (pw kf : Int) ≤ 200000) (hrec : ∀ (k1 : Nat) (w : Nat → Int) (q : Int × (Nat → Int)) (A : sA) (E : cm_E), kf = k1 + 1 → cs_I T E nx → (0 ≤ t + 1 ∧ t + 1 ≤ 8 ∧ t + 1 + (k1 : Int) = (n : Int) ∧ n ≤ 8) → (gv E 40 (t + 1).toNat = q.1 ∧ ∀ j : Nat, (j : Int) < q.1 → gv E (31 + (t + 1).toNat) j = q.2 j) → (∀ k : Nat, (k : Int) < t + 1 → gv E 28 k = w k) → (gv E 23 8 = m ∧ gv E 23 9 = (n : Int)) → (∀ j : Nat, (j : Int) < m → gv E 24 j = told j) → (∀ a : Nat, a < n → gv E 25 a = pf a ∧ gv E 26 a = lf a ∧ gv E 27 a = sf a) → (mA E n A) → (0 ≤ A.1 ∧ A.1 + (pw k1 : Int) ≤ 200000) → cm_ct (ai_ev sl (d + 1)) x 102 [cr 23, ai_i (t + 1)] T E nx 0 0 (fun rk rv T' E' nx' => rk = 0 ∧ T = T' ∧ nx = nx' ∧ cs_I T E' nx ∧ cm_fr (fun i k => (i = 28 ∧ (t + 1).toNat ≤ k) ∨ i = 29 ∨ (32 + (t + 1).toNat ≤ i ∧ i ≤ 39) ∨ (i = 40 ∧ (t + 1).toNat < k) ∨ (i = 23 ∧ (k = 10 ∨ k = 11))) E E' ∧ (mA E' n (sq pf lf sf n told m k1 (t + 1).toNat w q A)))) : cm_ct (ai_ev sl (d + 2)) x 102 [cr 23, ai_i t] T E nx 0 0 (fun rk rv T' E' nx' => rk = 0 ∧ T = T' ∧ nx = nx' ∧ cs_I T E' nx ∧ cm_fr (fun i k => (i = 28 ∧ t.toNat ≤ k) ∨ i = 29 ∨ (32 + t.toNat ≤ i ∧ i ≤ 39) ∨ (i = 40 ∧ t.toNat < k) ∨ (i = 23 ∧ (k = 10 ∨ k = 11))) E E' ∧ (mA E' n (sq pf lf sf n told m kf t.toNat w q A))) := by
  obtain ⟨ha1, ha2, ha3⟩ := hp6
  refine cm_body (M := ai_m102) rfl rfl (fun kc ks => ?_)
  show cm_wp (ai_find ai_c102 sl) (ai_ev sl (d + 1)) x (kc + 0) (ks + 0) _ 0 [cr 23, ai_i t, ai_un, ai_un] [] T E nx kc ks
  have hF : cm_fr (fun i k => (i = 28 ∧ t.toNat ≤ k) ∨ i = 29 ∨ (32 + t.toNat ≤ i ∧ i ≤ 39) ∨ (i = 40 ∧ t.toNat < k) ∨ (i = 23 ∧ (k = 10 ∨ k = 11))) E E := fun _ _ _ => rfl
  obtain ⟨z1, hz1, hz1a, hz1b⟩ := hI.int 23 9 (lo := 0) (hi := 8) (by decide) (by decide) rfl
  have ghz1 := gv_eq hz1
  obtain ⟨z2, hz2, hz2a, hz2b⟩ := hI.int 23 11 (lo := (-2147483648)) (hi := 2147483647) (by decide) (by decide) rfl
  have ghz2 := gv_eq hz2
  refine w_aload (i := 0) (npc := 1) (v := cr 23) rfl rfl rfl ?_
  refine w_aload (i := 0) (npc := 2) (v := cr 23) rfl rfl rfl ?_
  refine w_getf (i := 23) (ci := 5) (k := 11) (npc := 5) rfl (hI.pl (by decide)) (hI.T (by decide) rfl) (by decide) hz2 ?_
  refine w_iload (i := 1) (npc := 6) rfl rfl ?_
  refine w_max (npc := 9) rfl rfl ?_
  obtain ⟨z3, hz3⟩ : ∃ z3 : Int, z3 = max z2 t := ⟨_, rfl⟩
  rw [← hz3]
  refine w_putf (i := 23) (ci := 5) (k := 11) (t := 0) (npc := 12) rfl (hI.pl (by decide)) (hI.T (by decide) rfl) (by decide) cm_fit0 ?_
  have hI5 := hI.puti (i := 23) (k := 11) (z := z3) (lo := (-2147483648)) (hi := 2147483647) (by decide) rfl (by omega)
  have hF7 := cm_fr.up (i := 23) (k := 11) (v := ai_i z3) hF (by first | omega | (simp; done) | (simp; omega) | (simp only; omega))
  generalize hE6 : cm_up E 23 11 (ai_i z3) = E4 at hI5 hF7 ⊢
  have hz8 : E4 23 9 = ai_i z1 := by rw [← hE6, cm_up_ne _ _ (by decide)]; exact hz1
  have ghz8 := gv_eq hz8
  have hz9 : E4 23 11 = ai_i z3 := by rw [← hE6, cm_up_eq]
  have ghz9 := gv_eq hz9
  refine w_iload (i := 1) (npc := 13) rfl rfl ?_
  refine w_aload (i := 0) (npc := 14) (v := cr 23) rfl rfl rfl ?_
  refine w_getf (i := 23) (ci := 5) (k := 9) (npc := 17) rfl (hI5.pl (by decide)) (hI5.T (by decide) rfl) (by decide) hz8 ?_
  refine w_icmp (c := .ge) (npc := 20) (pt := 26) rfl (fun hc10 => ?_) (fun hc10 => ?_)
  · replace hc10 : z1 ≤ t := hc10
    refine w_aload (i := 0) (npc := 27) (v := cr 23) rfl rfl rfl ?_
    refine w_iload (i := 1) (npc := 28) rfl rfl ?_
    refine w_virt (ci := 5) (i := 23) (npc := 31) (a := [cr 23, ai_i t]) (rest := []) rfl rfl (hI5.pl (by decide)) (hI5.T (by decide) rfl) rfl rfl rfl rfl (ct_ty_finishOrder2 (sl := sl) (x := x) (d := d + 0) told w n m q (A.1, max A.2.1 (t.toNat : Int), A.2.2) (t) hI5 (by omega) ⟨(by rw [← hE6, gv_ne _ _ (by omega)]; exact hp1.1), fun j hj => (by rw [← hE6, gv_ne _ _ (by omega)]; exact hp1.2 j hj)⟩ (fun k hk => (by rw [← hE6, gv_ne _ _ (by omega)]; exact hp2 k hk)) (by rw [← hE6, gv_ne _ _ (by omega)]; exact hp3.1) (fun j hj => (by rw [← hE6, gv_ne _ _ (by omega)]; exact hp4 j hj)) ⟨by rw [← hE6, gv_ne _ _ (by decide)]; exact ha1, by rw [← hE6, gv_up]; show _ = max A.2.1 (t.toNat : Int); omega, fun j hj => by rw [← hE6, gv_ne _ _ (by omega)]; exact ha3 j hj⟩ (by show 0 ≤ A.1 ∧ A.1 ≤ 200000; omega)) (Or.inl rfl) (fun k9 v9 T12 E12 nx12 kc12 ks12 hq11 hk12 hv12 => ?_)
    obtain ⟨rfl, rfl, rfl, hI14, hG15, hz13⟩ := hq11
    obtain rfl : kc = kc12 := by omega
    obtain rfl : ks = ks12 := by omega
    have hF17 := cm_fr.trans hF7 hG15 (by intro i k h; (try simp only at h); (try simp only); omega)
    refine Or.inl ⟨rfl, ?_⟩
    exact w_vret rfl (⟨rfl, rfl, rfl, hI14, hF17, by have h9 : kf = 0 := (by omega); subst h9; exact hz13⟩) (by omega) (by omega)
  · replace hc10 : ¬ (z1 ≤ t) := hc10
    refine w_iload (i := 1) (npc := 21) rfl rfl ?_
    refine w_const (n := 8) (npc := 23) rfl ?_
    refine w_icmp (c := .lt) (npc := 26) (pt := 32) rfl (fun hc18 => ?_) (fun hc18 => ?_)
    · replace hc18 : t < (8 : Int) := hc18
      obtain ⟨k1, hk1⟩ : ∃ k1, kf = k1 + 1 := ⟨kf - 1, by omega⟩
      have hpw : pw kf = 3 * pw k1 := by rw [hk1]; rfl
      refine w_const (n := 0) (npc := 33) rfl ?_
      refine w_istore (i := 2) (npc := 34) (loc' := [cr 23, ai_i t, ai_i 0, ai_un]) rfl rfl ?_
      have loop34 : ∀ (nf : Nat) (p : Int) (u34_3 : ai_V) (Eq34 : cm_E), ((3 - p).toNat) < nf → cs_I T Eq34 nx → cm_fr (fun i k => (i = 28 ∧ t.toNat ≤ k) ∨ i = 29 ∨ (32 + t.toNat ≤ i ∧ i ≤ 39) ∨ (i = 40 ∧ t.toNat < k) ∨ (i = 23 ∧ (k = 10 ∨ k = 11))) E Eq34 → (0 ≤ p ∧ p ≤ 3 ∧ mA Eq34 n (sqp pf lf sf n told m k1 t.toNat w q (A.1, max A.2.1 (t.toNat : Int), A.2.2) p.toNat)) → cm_wp (ai_find ai_c102 sl) (ai_ev sl (d + 1)) x (kc + 0) (ks + 0) (fun rk rv T' E' nx' => rk = 0 ∧ T = T' ∧ nx = nx' ∧ cs_I T E' nx ∧ cm_fr (fun i k => (i = 28 ∧ t.toNat ≤ k) ∨ i = 29 ∨ (32 + t.toNat ≤ i ∧ i ≤ 39) ∨ (i = 40 ∧ t.toNat < k) ∨ (i = 23 ∧ (k = 10 ∨ k = 11))) E E' ∧ (mA E' n (sq pf lf sf n told m kf t.toNat w q A))) 34 [cr 23, ai_i t, ai_i p, u34_3] [] T Eq34 nx kc ks := by
        intro nf
        induction nf with
        | zero => intro p u34_3 Eq34 hm; exact absurd hm (Nat.not_lt_zero _)
        | succ nf34 ih =>
          intro p u34_3 Eq34 hm34 hI34 hF34 hv34
          have ih34 := ih; clear ih
          refine w_iload (i := 2) (npc := 35) rfl rfl ?_
          refine w_const (n := 3) (npc := 36) rfl ?_
          refine w_icmp (c := .ge) (npc := 39) (pt := 80) rfl (fun hc19 => ?_) (fun hc19 => ?_)
          · replace hc19 : (3 : Int) ≤ p := hc19
            exact w_vret rfl (⟨rfl, rfl, rfl, hI34, hF34, by have h9 : p = 3 := (by omega); rw [h9] at hv34; rw [hk1]; exact hv34.2.2⟩) (by omega) (by omega)
          · replace hc19 : ¬ ((3 : Int) ≤ p) := hc19
            have hpath : ∀ k : Nat, (k : Int) < t → gv Eq34 28 k = w k := fun k hk => (by rw [← gv_fr hF34 (by omega)]; exact hp2 k hk)
            have htxt : gv Eq34 40 t.toNat = q.1 ∧ ∀ j : Nat, (j : Int) < q.1 → gv Eq34 (31 + t.toNat) j = q.2 j := ⟨(by rw [← gv_fr hF34 (by omega)]; exact hp1.1), fun j hj => (by rw [← gv_fr hF34 (by omega)]; exact hp1.2 j hj)⟩
            have h238 : gv Eq34 23 8 = m ∧ gv Eq34 23 9 = (n : Int) := ⟨(by rw [← gv_fr hF34 (by omega)]; exact hp3.1), (by rw [← gv_fr hF34 (by omega)]; exact hp3.2)⟩
            have htold : ∀ j : Nat, (j : Int) < m → gv Eq34 24 j = told j := fun j hj => (by rw [← gv_fr hF34 (by omega)]; exact hp4 j hj)
            have hacts : ∀ a : Nat, a < n → gv Eq34 25 a = pf a ∧ gv Eq34 26 a = lf a ∧ gv Eq34 27 a = sf a := fun a ha => ⟨(by rw [← gv_fr hF34 (by omega)]; exact (hp5 a ha).1), (by rw [← gv_fr hF34 (by omega)]; exact (hp5 a ha).2.1), (by rw [← gv_fr hF34 (by omega)]; exact (hp5 a ha).2.2)⟩
            refine w_aload (i := 0) (npc := 40) rfl rfl rfl ?_
            refine w_iload (i := 2) (npc := 41) rfl rfl ?_
            refine w_iload (i := 1) (npc := 42) rfl rfl ?_
            refine w_virt (ci := 5) (i := 23) (npc := 45) (a := [cr 23, ai_i p, ai_i t]) (rest := []) rfl rfl (hI34.pl (by decide)) (hI34.T (by decide) rfl) rfl rfl rfl rfl (ct_ty_nextAct2 (sl := sl) (x := x) (d := d + 0) w pf n (p) (t) hI34 (by omega) hpath h238.2 (fun a ha => (hacts a ha).1)) (Or.inl rfl) (fun k9 v9 T21 E21 nx21 kc21 ks21 hq20 hk21 hv21 => ?_)
            obtain ⟨rfl, rfl, rfl, rfl, z22, rfl, hz22⟩ := hq20
            obtain rfl : kc = kc21 := by omega
            obtain rfl : ks = ks21 := by omega
            refine Or.inr (Or.inl ⟨rfl, ?_⟩)
            refine w_istore (i := 3) (npc := 46) (loc' := [cr 23, ai_i t, ai_i p, ai_i z22]) rfl rfl ?_
            refine w_iload (i := 3) (npc := 47) rfl rfl ?_
            refine w_const (n := (-1)) (npc := 48) rfl ?_
            refine w_icmp (c := .eq) (npc := 51) (pt := 74) rfl (fun hc26 => ?_) (fun hc26 => ?_)
            · replace hc26 : z22 = ((-1) : Int) := hc26
              refine w_iinc (i := 2) (n := 1) (npc := 77) (loc' := [cr 23, ai_i t, ai_i (p + 1), ai_i z22]) rfl rfl (by omega) rfl ?_
              refine w_goto (pt := 34) rfl ?_
              exact ih34 (p + 1) (ai_i z22) Eq34 (by omega) hI34 hF34 (⟨by omega, by omega, by rw [sqp_s p (by omega), sqc_n (na_none (by omega))]; exact hv34.2.2⟩)
            · replace hc26 : ¬ (z22 = ((-1) : Int)) := hc26
              have hnx : nxa pf p n (cnf w p t.toNat) 0 = some (z22 : Int).toNat := na_some hz22.1 (by omega)
              have hlt := nxa_lt _ _ _ _ _ _ hnx
              have hac := hacts (z22 : Int).toNat (by omega)
              refine w_aload (i := 0) (npc := 52) rfl rfl rfl ?_
              refine w_iload (i := 3) (npc := 53) rfl rfl ?_
              refine w_iload (i := 1) (npc := 54) rfl rfl ?_
              refine w_virt (ci := 5) (i := 23) (npc := 57) (a := [cr 23, ai_i z22, ai_i t]) (rest := []) rfl rfl (hI34.pl (by decide)) (hI34.T (by decide) rfl) rfl rfl rfl rfl (ct_ty_perform2 (sl := sl) (x := x) (d := d + 0) lf sf q (z22) (t) hI34 (by omega) (by omega) htxt hac.2.1 hac.2.2) (Or.inl rfl) (fun k9 v9 T29 E29 nx29 kc29 ks29 hq28 hk29 hv29 => ?_)
              obtain ⟨rfl, rfl, rfl, hI31, hG32, z30, rfl, hz30⟩ := hq28
              obtain rfl : kc = kc29 := by omega
              obtain rfl : ks = ks29 := by omega
              have hF34 := cm_fr.trans hF34 hG32 (by intro i k h; (try simp only at h); (try simp only); omega)
              refine Or.inr (Or.inl ⟨rfl, ?_⟩)
              refine w_if (c := .eq) (npc := 60) (pt := 74) rfl (fun hc35 => ?_) (fun hc35 => ?_)
              · replace hc35 : z30 = (0 : Int) := hc35
                refine w_iinc (i := 2) (n := 1) (npc := 77) (loc' := [cr 23, ai_i t, ai_i (p + 1), ai_i z22]) rfl rfl (by omega) rfl ?_
                refine w_goto (pt := 34) rfl ?_
                exact ih34 (p + 1) (ai_i z22) E29 (by omega) hI31 hF34 (⟨by omega, by omega, by
      rw [sqp_s p (by omega), sqc_sn hnx (show stp lf sf (z22 : Int).toNat q = none from by
        cases hst : stp lf sf (z22 : Int).toNat q with
        | none => rfl
        | some q1 => have e9 := (hz30.2 q1 hst).1; omega)]
      exact (hv34.2.2).fr hG32 (by intro i k h; (try simp only at h); omega)⟩)
              · replace hc35 : ¬ (z30 = (0 : Int)) := hc35
                obtain ⟨q1, hst⟩ : ∃ q1, stp lf sf (z22 : Int).toNat q = some q1 := by
                  cases hst : stp lf sf (z22 : Int).toNat q with
                  | none => have e9 := hz30.1 hst; omega
                  | some q1 => exact ⟨q1, rfl⟩
                have hpf := hz30.2 q1 hst
                refine w_aload (i := 0) (npc := 61) rfl rfl rfl ?_
                refine w_getf (i := 23) (ci := 5) (k := 4) (npc := 64) rfl (hI31.pl (by decide)) (hI31.T (by decide) rfl) (by decide) (hI31.ref 23 4 (p := 28) (by decide) (by decide) rfl) ?_
                refine w_iload (i := 1) (npc := 65) rfl rfl ?_
                refine w_iload (i := 2) (npc := 66) rfl rfl ?_
                refine w_ast (i := 28) (k := 1) (n := 8) (npc := 67) rfl (hI31.pl (by decide)) (hI31.T (by decide) rfl) (by decide) (by omega) cm_af1 ?_
                have hI38 := hI31.puti (i := 28) (k := (t : Int).toNat) (z := p) (lo := 0) (hi := 2) (by decide) rfl (by omega)
                have hF40 := cm_fr.up (i := 28) (k := (t : Int).toNat) (v := ai_i p) hF34 (by first | omega | (simp; done) | (simp; omega) | (simp only; omega))
                generalize hE39 : cm_up E29 28 ((t : Int).toNat) (ai_i p) = E37 at hI38 hF40 ⊢
                have hz41 : E37 28 ((t : Int).toNat) = ai_i p := by rw [← hE39, cm_up_eq]
                have ghz41 := gv_eq hz41
                refine w_aload (i := 0) (npc := 68) (v := cr 23) rfl rfl rfl ?_
                refine w_iload (i := 1) (npc := 69) rfl rfl ?_
                refine w_const (n := 1) (npc := 70) rfl ?_
                refine w_iadd (npc := 71) rfl (by omega) ?_
                refine w_virt (ci := 5) (i := 23) (npc := 74) (a := [cr 23, ai_i (t + 1)]) (rest := []) rfl rfl (hI38.pl (by decide)) (hI38.T (by decide) rfl) rfl rfl rfl rfl (hrec k1 (updp w t.toNat p) q1 (sqp pf lf sf n told m k1 t.toNat w q (A.1, max A.2.1 (t.toNat : Int), A.2.2) p.toNat) E37 hk1 hI38 (by omega) ⟨(by rw [← hE39, gv_ne _ _ (by omega)]; exact hpf.2.1), fun j hj => (by rw [← hE39, gv_ne _ _ (by omega)]; exact hpf.2.2 j hj)⟩ (fun k hk => by
      rw [← hE39]; unfold updp
      by_cases hkt : k = t.toNat
      · rw [if_pos hkt, hkt, gv_up]
      · rw [if_neg hkt, gv_ne _ _ (by omega), ← gv_fr hG32 (by omega)]; exact hpath k (by omega)) ⟨(by rw [← hE39, gv_ne _ _ (by omega), ← gv_fr hG32 (by omega)]; exact h238.1), (by rw [← hE39, gv_ne _ _ (by omega), ← gv_fr hG32 (by omega)]; exact h238.2)⟩ (fun j hj => (by rw [← hE39, gv_ne _ _ (by omega), ← gv_fr hG32 (by omega)]; exact htold j hj)) (fun a ha => ⟨(by rw [← hE39, gv_ne _ _ (by omega), ← gv_fr hG32 (by omega)]; exact (hacts a ha).1), (by rw [← hE39, gv_ne _ _ (by omega), ← gv_fr hG32 (by omega)]; exact (hacts a ha).2.1), (by rw [← hE39, gv_ne _ _ (by omega), ← gv_fr hG32 (by omega)]; exact (hacts a ha).2.2)⟩) (by rw [← hE39]; exact ((hv34.2.2).fr hG32 (by intro i k h; (try simp only at h); omega)).wr (by omega)) (by have b1 := sqp_o pf lf sf n told m k1 t.toNat w q (A.1, max A.2.1 (t.toNat : Int), A.2.2) p.toNat; have b3 : (p.toNat : Int) * (pw k1 : Int) ≤ 2 * (pw k1 : Int) := Int.mul_le_mul_of_nonneg_right (by omega) (by omega); simp only at b1; omega)) (Or.inl rfl) (fun k9 v9 T44 E44 nx44 kc44 ks44 hq43 hk44 hv44 => ?_)
                obtain ⟨rfl, rfl, rfl, hI46, hG47, hz45⟩ := hq43
                obtain rfl : kc = kc44 := by omega
                obtain rfl : ks = ks44 := by omega
                have hF49 := cm_fr.trans hF40 hG47 (by intro i k h; (try simp only at h); (try simp only); omega)
                refine Or.inl ⟨rfl, ?_⟩
                refine w_iinc (i := 2) (n := 1) (npc := 77) (loc' := [cr 23, ai_i t, ai_i (p + 1), ai_i z22]) rfl rfl (by omega) rfl ?_
                refine w_goto (pt := 34) rfl ?_
                exact ih34 (p + 1) (ai_i z22) E44 (by omega) hI46 hF49 (⟨by omega, by omega, by rw [sqp_s p (by omega), sqc_ss hnx hst, show t.toNat + 1 = (t + 1).toNat by omega]; exact hz45⟩)
      exact loop34 _ (0) (ai_un) E4 (Nat.lt_succ_self _) hI5 hF7 (⟨by omega, by omega, ⟨by rw [← hE6, gv_ne _ _ (by decide)]; exact ha1, by rw [← hE6, gv_up]; show _ = max A.2.1 (t.toNat : Int); omega, fun j hj => by rw [← hE6, gv_ne _ _ (by omega)]; exact ha3 j hj⟩⟩)
    · replace hc18 : ¬ (t < (8 : Int)) := hc18
      refine w_aload (i := 0) (npc := 27) (v := cr 23) rfl rfl rfl ?_
      refine w_iload (i := 1) (npc := 28) rfl rfl ?_
      refine w_virt (ci := 5) (i := 23) (npc := 31) (a := [cr 23, ai_i t]) (rest := []) rfl rfl (hI5.pl (by decide)) (hI5.T (by decide) rfl) rfl rfl rfl rfl (ct_ty_finishOrder2 (sl := sl) (x := x) (d := d + 0) told w n m q (A.1, max A.2.1 (t.toNat : Int), A.2.2) (t) hI5 (by omega) ⟨(by rw [← hE6, gv_ne _ _ (by omega)]; exact hp1.1), fun j hj => (by rw [← hE6, gv_ne _ _ (by omega)]; exact hp1.2 j hj)⟩ (fun k hk => (by rw [← hE6, gv_ne _ _ (by omega)]; exact hp2 k hk)) (by rw [← hE6, gv_ne _ _ (by omega)]; exact hp3.1) (fun j hj => (by rw [← hE6, gv_ne _ _ (by omega)]; exact hp4 j hj)) ⟨by rw [← hE6, gv_ne _ _ (by decide)]; exact ha1, by rw [← hE6, gv_up]; show _ = max A.2.1 (t.toNat : Int); omega, fun j hj => by rw [← hE6, gv_ne _ _ (by omega)]; exact ha3 j hj⟩ (by show 0 ≤ A.1 ∧ A.1 ≤ 200000; omega)) (Or.inl rfl) (fun k9 v9 T52 E52 nx52 kc52 ks52 hq51 hk52 hv52 => ?_)
      obtain ⟨rfl, rfl, rfl, hI54, hG55, hz53⟩ := hq51
      obtain rfl : kc = kc52 := by omega
      obtain rfl : ks = ks52 := by omega
      have hF57 := cm_fr.trans hF7 hG55 (by intro i k h; (try simp only at h); (try simp only); omega)
      refine Or.inl ⟨rfl, ?_⟩
      exact w_vret rfl (⟨rfl, rfl, rfl, hI54, hF57, by have h9 : kf = 0 := (by omega); subst h9; exact hz53⟩) (by omega) (by omega)
