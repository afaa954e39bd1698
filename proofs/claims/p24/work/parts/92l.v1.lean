set_option maxRecDepth 16384 in
theorem ct_ty_nextAct2 {sl : Int × Int} {x : ai_E} {d : Nat} {T : cm_T} {E : cm_E} {nx : Nat} (w pf : Nat → Int) (n : Nat) (p t : Int)  (hI : cs_I T E nx) (hp0 : 0 ≤ t ∧ t ≤ 8) (hp1 : ∀ k : Nat, (k : Int) < t → gv E 28 k = w k) (hp2 : gv E 23 9 = (n : Int)) (hp3 : ∀ a : Nat, a < n → gv E 25 a = pf a) : cm_ct (ai_ev sl (d + 1)) x 99 [cr 23, ai_i p, ai_i t] T E nx 0 0 (fun rk rv T' E' nx' => rk = 1 ∧ T = T' ∧ E = E' ∧ nx = nx' ∧ ∃ z : Int, rv = ai_i z ∧ (z = na (nxa pf p n (cnf w p t.toNat) 0) ∧ -1 ≤ z ∧ z ≤ 7)) := by
  refine cm_body (M := ai_m99) rfl rfl (fun kc ks => ?_)
  show cm_wp (ai_find ai_c99 sl) (ai_ev sl (d + 0)) x (kc + 0) (ks + 0) _ 0 [cr 23, ai_i p, ai_i t, ai_un, ai_un] [] T E nx kc ks
  obtain ⟨z1, hz1, hz1a, hz1b⟩ := hI.int 23 9 (lo := 0) (hi := 8) (by decide) (by decide) rfl
  have ghz1 := gv_eq hz1
  refine w_const (n := 0) (npc := 1) rfl ?_
  refine w_istore (i := 3) (npc := 2) (loc' := [cr 23, ai_i p, ai_i t, ai_i 0, ai_un]) rfl rfl ?_
  refine w_const (n := 0) (npc := 3) rfl ?_
  refine w_istore (i := 4) (npc := 5) (loc' := [cr 23, ai_i p, ai_i t, ai_i 0, ai_i 0]) rfl rfl ?_
  have loop5 : ∀ (nf : Nat) (c : Int) (i : Int), ((t - i).toNat) < nf → (0 ≤ i ∧ i ≤ t ∧ 0 ≤ c ∧ c ≤ i ∧ c = (cnf w p i.toNat : Int)) → cm_wp (ai_find ai_c99 sl) (ai_ev sl (d + 0)) x (kc + 0) (ks + 0) (fun rk rv T' E' nx' => rk = 1 ∧ T = T' ∧ E = E' ∧ nx = nx' ∧ ∃ z : Int, rv = ai_i z ∧ (z = na (nxa pf p n (cnf w p t.toNat) 0) ∧ -1 ≤ z ∧ z ≤ 7)) 5 [cr 23, ai_i p, ai_i t, ai_i c, ai_i i] [] T E nx kc ks := by
    intro nf
    induction nf with
    | zero => intro c i hm; exact absurd hm (Nat.not_lt_zero _)
    | succ nf5 ih =>
      intro c i hm5 hv5
      have ih5 := ih; clear ih
      refine w_iload (i := 4) (npc := 7) rfl rfl ?_
      refine w_iload (i := 2) (npc := 8) rfl rfl ?_
      refine w_icmp (c := .ge) (npc := 11) (pt := 31) rfl (fun hc2 => ?_) (fun hc2 => ?_)
      · replace hc2 : t ≤ i := hc2
        refine w_const (n := 0) (npc := 32) rfl ?_
        refine w_istore (i := 4) (npc := 34) (loc' := [cr 23, ai_i p, ai_i t, ai_i c, ai_i 0]) rfl rfl ?_
        have loop34 : ∀ (nf : Nat) (e : Int) (a : Int), ((8 - a).toNat) < nf → (0 ≤ e ∧ e ≤ 8 ∧ 0 ≤ a ∧ a ≤ 8 ∧ a ≤ (n : Int) ∧ nxe pf p n (cnf w p t.toNat) e a) → cm_wp (ai_find ai_c99 sl) (ai_ev sl (d + 0)) x (kc + 0) (ks + 0) (fun rk rv T' E' nx' => rk = 1 ∧ T = T' ∧ E = E' ∧ nx = nx' ∧ ∃ z : Int, rv = ai_i z ∧ (z = na (nxa pf p n (cnf w p t.toNat) 0) ∧ -1 ≤ z ∧ z ≤ 7)) 34 [cr 23, ai_i p, ai_i t, ai_i e, ai_i a] [] T E nx kc ks := by
          intro nf
          induction nf with
          | zero => intro e a hm; exact absurd hm (Nat.not_lt_zero _)
          | succ nf34 ih =>
            intro e a hm34 hv34
            have ih34 := ih; clear ih
            refine w_iload (i := 4) (npc := 36) rfl rfl ?_
            refine w_aload (i := 0) (npc := 37) (v := cr 23) rfl rfl rfl ?_
            refine w_getf (i := 23) (ci := 5) (k := 9) (npc := 40) rfl (hI.pl (by decide)) (hI.T (by decide) rfl) (by decide) hz1 ?_
            refine w_icmp (c := .ge) (npc := 43) (pt := 70) rfl (fun hc3 => ?_) (fun hc3 => ?_)
            · replace hc3 : z1 ≤ a := hc3
              refine w_const (n := (-1)) (npc := 71) rfl ?_
              exact w_iret rfl (⟨rfl, rfl, rfl, rfl, (-1), rfl, ⟨nxe_end hv34.2.2.2.2.2 (by omega), by omega, by omega⟩⟩) (by omega) (by omega)
            · replace hc3 : ¬ (z1 ≤ a) := hc3
              refine w_aload (i := 0) (npc := 44) (v := cr 23) rfl rfl rfl ?_
              refine w_getf (i := 23) (ci := 5) (k := 1) (npc := 47) rfl (hI.pl (by decide)) (hI.T (by decide) rfl) (by decide) (hI.ref 23 1 (p := 25) (by decide) (by decide) rfl) ?_
              refine w_iload (i := 4) (npc := 49) rfl rfl ?_
              obtain ⟨z4, hz4, hz4a, hz4b⟩ := hI.int 25 (a : Int).toNat (lo := 0) (hi := 2) (by decide) (show (a : Int).toNat < 8 by omega) rfl
              have ghz4 := gv_eq hz4
              refine w_ald (i := 25) (t := 1) (n := 8) (npc := 50) rfl (hI.pl (by decide)) (hI.T (by decide) rfl) (by decide) rfl (by omega) hz4 ?_
              refine w_iload (i := 1) (npc := 51) rfl rfl ?_
              refine w_icmp (c := .ne) (npc := 54) (pt := 64) rfl (fun hc5 => ?_) (fun hc5 => ?_)
              · replace hc5 : z4 ≠ p := hc5
                refine w_iinc (i := 4) (n := 1) (npc := 67) (loc' := [cr 23, ai_i p, ai_i t, ai_i e, ai_i (a + 1)]) rfl rfl (by omega) rfl ?_
                refine w_goto (pt := 34) rfl ?_
                exact ih34 (e) (a + 1) (by omega) (⟨by omega, by omega, by omega, by omega, by omega, nxe_by hv34.2.2.2.2.2 (by omega) (by omega) (by have h9 := hp3 a.toNat (by omega); omega)⟩)
              · replace hc5 : ¬ (z4 ≠ p) := hc5
                refine w_iload (i := 3) (npc := 55) rfl rfl ?_
                refine w_if (c := .ne) (npc := 58) (pt := 61) rfl (fun hc7 => ?_) (fun hc7 => ?_)
                · replace hc7 : e ≠ (0 : Int) := hc7
                  refine w_iinc (i := 3) (n := (-1)) (npc := 64) (loc' := [cr 23, ai_i p, ai_i t, ai_i (e + (-1)), ai_i a]) rfl rfl (by omega) rfl ?_
                  refine w_iinc (i := 4) (n := 1) (npc := 67) (loc' := [cr 23, ai_i p, ai_i t, ai_i (e + (-1)), ai_i (a + 1)]) rfl rfl (by omega) rfl ?_
                  refine w_goto (pt := 34) rfl ?_
                  exact ih34 (e + (-1)) (a + 1) (by omega) (⟨by omega, by omega, by omega, by omega, by omega, nxe_on hv34.2.2.2.2.2 (by omega) (by omega) (by have h9 := hp3 a.toNat (by omega); omega) (by omega)⟩)
                · replace hc7 : ¬ (e ≠ (0 : Int)) := hc7
                  refine w_iload (i := 4) (npc := 60) rfl rfl ?_
                  exact w_iret rfl (⟨rfl, rfl, rfl, rfl, a, rfl, ⟨nxe_hit hv34.2.2.2.2.2 (by omega) (by omega) (by have h9 := hp3 a.toNat (by omega); omega) (by omega), by omega, by omega⟩⟩) (by omega) (by omega)
        exact loop34 _ (c) (0) (Nat.lt_succ_self _) (⟨by omega, by omega, by omega, by omega, by omega, nxe_0 (by have h9 : i = t := (by omega); rw [← h9]; omega)⟩)
      · replace hc2 : ¬ (t ≤ i) := hc2
        refine w_aload (i := 0) (npc := 12) (v := cr 23) rfl rfl rfl ?_
        refine w_getf (i := 23) (ci := 5) (k := 4) (npc := 15) rfl (hI.pl (by decide)) (hI.T (by decide) rfl) (by decide) (hI.ref 23 4 (p := 28) (by decide) (by decide) rfl) ?_
        refine w_iload (i := 4) (npc := 17) rfl rfl ?_
        obtain ⟨z10, hz10, hz10a, hz10b⟩ := hI.int 28 (i : Int).toNat (lo := 0) (hi := 2) (by decide) (show (i : Int).toNat < 8 by omega) rfl
        have ghz10 := gv_eq hz10
        refine w_ald (i := 28) (t := 1) (n := 8) (npc := 18) rfl (hI.pl (by decide)) (hI.T (by decide) rfl) (by decide) rfl (by omega) hz10 ?_
        refine w_iload (i := 1) (npc := 19) rfl rfl ?_
        refine w_icmp (c := .ne) (npc := 22) (pt := 25) rfl (fun hc11 => ?_) (fun hc11 => ?_)
        · replace hc11 : z10 ≠ p := hc11
          refine w_iinc (i := 4) (n := 1) (npc := 28) (loc' := [cr 23, ai_i p, ai_i t, ai_i c, ai_i (i + 1)]) rfl rfl (by omega) rfl ?_
          refine w_goto (pt := 5) rfl ?_
          exact ih5 (c) (i + 1) (by omega) (by have h9 := cnf_s w p (i := i) (by omega); have h8 := hp1 i.toNat (by omega); split at h9 <;> omega)
        · replace hc11 : ¬ (z10 ≠ p) := hc11
          refine w_iinc (i := 3) (n := 1) (npc := 25) (loc' := [cr 23, ai_i p, ai_i t, ai_i (c + 1), ai_i i]) rfl rfl (by omega) rfl ?_
          refine w_iinc (i := 4) (n := 1) (npc := 28) (loc' := [cr 23, ai_i p, ai_i t, ai_i (c + 1), ai_i (i + 1)]) rfl rfl (by omega) rfl ?_
          refine w_goto (pt := 5) rfl ?_
          exact ih5 (c + 1) (i + 1) (by omega) (by have h9 := cnf_s w p (i := i) (by omega); have h8 := hp1 i.toNat (by omega); split at h9 <;> omega)
  exact loop5 _ (0) (0) (Nat.lt_succ_self _) (⟨by omega, by omega, by omega, by omega, rfl⟩)
set_option maxRecDepth 16384 in
theorem ct_ty_perform2 {sl : Int × Int} {x : ai_E} {d : Nat} {T : cm_T} {E : cm_E} {nx : Nat} (lf sf : Nat → Int) (q : Int × (Nat → Int)) (a t : Int)  (hI : cs_I T E nx) (hp0 : 0 ≤ a ∧ a ≤ 7) (hp1 : 0 ≤ t ∧ t ≤ 7) (hp2 : gv E 40 t.toNat = q.1 ∧ ∀ j : Nat, (j : Int) < q.1 → gv E (31 + t.toNat) j = q.2 j) (hp3 : gv E 26 a.toNat = lf a.toNat) (hp4 : gv E 27 a.toNat = sf a.toNat) : cm_ct (ai_ev sl (d + 1)) x 100 [cr 23, ai_i a, ai_i t] T E nx 0 0 (fun rk rv T' E' nx' => rk = 1 ∧ T = T' ∧ nx = nx' ∧ cs_I T E' nx ∧ cm_fr (fun i k => i = 31 + (t + 1).toNat ∨ (i = 40 ∧ k = (t + 1).toNat)) E E' ∧ ∃ z : Int, rv = ai_i z ∧ ((stp lf sf a.toNat q = none → z = 0) ∧ ∀ q' : Int × (Nat → Int), stp lf sf a.toNat q = some q' → z = 1 ∧ gv E' 40 (t + 1).toNat = q'.1 ∧ ∀ j : Nat, (j : Int) < q'.1 → gv E' (31 + (t + 1).toNat) j = q'.2 j)) := by
  refine cm_body (M := ai_m100) rfl rfl (fun kc ks => ?_)
  show cm_wp (ai_find ai_c100 sl) (ai_ev sl (d + 0)) x (kc + 0) (ks + 0) _ 0 [cr 23, ai_i a, ai_i t, ai_un, ai_un, ai_un, ai_un] [] T E nx kc ks
  have hF : cm_fr (fun i k => i = 31 + (t + 1).toNat ∨ (i = 40 ∧ k = (t + 1).toNat)) E E := fun _ _ _ => rfl
  refine w_aload (i := 0) (npc := 1) (v := cr 23) rfl rfl rfl ?_
  refine w_getf (i := 23) (ci := 5) (k := 7) (npc := 4) rfl (hI.pl (by decide)) (hI.T (by decide) rfl) (by decide) (hI.ref 23 7 (p := 40) (by decide) (by decide) rfl) ?_
  refine w_iload (i := 2) (npc := 5) rfl rfl ?_
  obtain ⟨z1, hz1, hz1a, hz1b⟩ := hI.int 40 (t : Int).toNat (lo := 0) (hi := 8) (by decide) (show (t : Int).toNat < 9 by omega) rfl
  have ghz1 := gv_eq hz1
  refine w_ald (i := 40) (t := 1) (n := 9) (npc := 6) rfl (hI.pl (by decide)) (hI.T (by decide) rfl) (by decide) rfl (by omega) hz1 ?_
  refine w_istore (i := 3) (npc := 7) (loc' := [cr 23, ai_i a, ai_i t, ai_i z1, ai_un, ai_un, ai_un]) rfl rfl ?_
  refine w_aload (i := 0) (npc := 8) (v := cr 23) rfl rfl rfl ?_
  refine w_getf (i := 23) (ci := 5) (k := 2) (npc := 11) rfl (hI.pl (by decide)) (hI.T (by decide) rfl) (by decide) (hI.ref 23 2 (p := 26) (by decide) (by decide) rfl) ?_
  refine w_iload (i := 1) (npc := 12) rfl rfl ?_
  obtain ⟨z2, hz2, hz2a, hz2b⟩ := hI.int 26 (a : Int).toNat (lo := 0) (hi := 7) (by decide) (show (a : Int).toNat < 8 by omega) rfl
  have ghz2 := gv_eq hz2
  refine w_ald (i := 26) (t := 1) (n := 8) (npc := 13) rfl (hI.pl (by decide)) (hI.T (by decide) rfl) (by decide) rfl (by omega) hz2 ?_
  refine w_istore (i := 4) (npc := 15) (loc' := [cr 23, ai_i a, ai_i t, ai_i z1, ai_i z2, ai_un, ai_un]) rfl rfl ?_
  refine w_aload (i := 0) (npc := 16) (v := cr 23) rfl rfl rfl ?_
  refine w_getf (i := 23) (ci := 5) (k := 6) (npc := 19) rfl (hI.pl (by decide)) (hI.T (by decide) rfl) (by decide) (hI.ref 23 6 (p := 30) (by decide) (by decide) rfl) ?_
  refine w_iload (i := 2) (npc := 20) rfl rfl ?_
  obtain ⟨c3, hb4e⟩ : ∃ c3 : Nat, c3 = 31 + (t : Int).toNat := ⟨_, rfl⟩
  have hb4 : 31 ≤ c3 ∧ c3 ≤ 39 := by omega
  refine w_ald (i := 30) (t := 6) (n := 9) (npc := 21) rfl (hI.pl (by decide)) (hI.T (by decide) rfl) (by decide) rfl (by omega) (v := cr c3) (by rw [hb4e]; exact hI.texts (by omega)) ?_
  refine w_astore (i := 5) (npc := 23) (loc' := [cr 23, ai_i a, ai_i t, ai_i z1, ai_i z2, cr c3, ai_un]) rfl rfl rfl ?_
  refine w_aload (i := 0) (npc := 24) (v := cr 23) rfl rfl rfl ?_
  refine w_getf (i := 23) (ci := 5) (k := 6) (npc := 27) rfl (hI.pl (by decide)) (hI.T (by decide) rfl) (by decide) (hI.ref 23 6 (p := 30) (by decide) (by decide) rfl) ?_
  refine w_iload (i := 2) (npc := 28) rfl rfl ?_
  refine w_const (n := 1) (npc := 29) rfl ?_
  refine w_iadd (npc := 30) rfl (by omega) ?_
  obtain ⟨c6, hb7e⟩ : ∃ c6 : Nat, c6 = 31 + (t + 1 : Int).toNat := ⟨_, rfl⟩
  have hb7 : 31 ≤ c6 ∧ c6 ≤ 39 := by omega
  refine w_ald (i := 30) (t := 6) (n := 9) (npc := 31) rfl (hI.pl (by decide)) (hI.T (by decide) rfl) (by decide) rfl (by omega) (v := cr c6) (by rw [hb7e]; exact hI.texts (by omega)) ?_
  refine w_astore (i := 6) (npc := 33) (loc' := [cr 23, ai_i a, ai_i t, ai_i z1, ai_i z2, cr c3, cr c6]) rfl rfl rfl ?_
  refine w_aload (i := 0) (npc := 34) (v := cr 23) rfl rfl rfl ?_
  refine w_getf (i := 23) (ci := 5) (k := 3) (npc := 37) rfl (hI.pl (by decide)) (hI.T (by decide) rfl) (by decide) (hI.ref 23 3 (p := 27) (by decide) (by decide) rfl) ?_
  refine w_iload (i := 1) (npc := 38) rfl rfl ?_
  obtain ⟨z8, hz8, hz8a, hz8b⟩ := hI.int 27 (a : Int).toNat (lo := (-1)) (hi := 126) (by decide) (show (a : Int).toNat < 8 by omega) rfl
  have ghz8 := gv_eq hz8
  refine w_ald (i := 27) (t := 1) (n := 8) (npc := 39) rfl (hI.pl (by decide)) (hI.T (by decide) rfl) (by decide) rfl (by omega) hz8 ?_
  refine w_const (n := (-1)) (npc := 40) rfl ?_
  refine w_icmp (c := .ne) (npc := 43) (pt := 94) rfl (fun hc9 => ?_) (fun hc9 => ?_)
  · replace hc9 : z8 ≠ ((-1) : Int) := hc9
    refine w_iload (i := 4) (npc := 96) rfl rfl ?_
    refine w_iload (i := 3) (npc := 97) rfl rfl ?_
    refine w_icmp (c := .gt) (npc := 100) (pt := 106) rfl (fun hc10 => ?_) (fun hc10 => ?_)
    · replace hc10 : z1 < z2 := hc10
      refine w_const (n := 0) (npc := 107) rfl ?_
      exact w_zret rfl (by omega) (⟨rfl, rfl, rfl, hI, hF, 0, rfl, ⟨fun _ => rfl, fun q9 h9 => absurd h9 (by have hl9 := hp3; have hs9 := hp4; have hn9 := hp2.1; unfold stp; first | (rw [if_pos (by omega), if_neg (by omega)]; simp) | (rw [if_neg (by omega), if_neg (by omega)]; simp))⟩⟩) (by omega) (by omega)
    · replace hc10 : ¬ (z1 < z2) := hc10
      refine w_iload (i := 3) (npc := 101) rfl rfl ?_
      refine w_const (n := 8) (npc := 103) rfl ?_
      refine w_icmp (c := .lt) (npc := 106) (pt := 108) rfl (fun hc11 => ?_) (fun hc11 => ?_)
      · replace hc11 : z1 < (8 : Int) := hc11
        refine w_aload (i := 5) (npc := 110) (v := cr c3) rfl rfl rfl ?_
        refine w_const (n := 0) (npc := 111) rfl ?_
        refine w_aload (i := 6) (npc := 113) (v := cr c6) rfl rfl rfl ?_
        refine w_const (n := 0) (npc := 114) rfl ?_
        refine w_iload (i := 4) (npc := 116) rfl rfl ?_
        refine w_copy (i := c3) (j := c6) (ni := 8) (nj := 8) (npc := 119) rfl (hI.pl (by omega)) (hI.pl (by omega)) (hI.T (by omega) (tx_c hb4).1) (hI.T (by omega) (tx_c hb7).1) (by omega) (by omega) (by omega) (by omega) (by omega) (by omega) ?_
        have hI13 := hI.cp (i := c3) (j := c6) (sp := (0 : Int).toNat) (dp := (0 : Int).toNat) (n := (z2 : Int).toNat) (lo := (-1)) (hi := 126) (by omega) (by omega) (tx_c hb4).1 (tx_c hb4).2 (tx_c hb7).2 (by omega)
        have hF15 := cm_cp_fr (i := c3) (j := c6) (sp := (0 : Int).toNat) (dp := (0 : Int).toNat) (n := (z2 : Int).toNat) hF (fun k => by first | omega | (simp; done) | (simp; omega) | (simp only; omega))
        generalize hE14 : cm_cp E c3 c6 (0 : Int).toNat (0 : Int).toNat (z2 : Int).toNat = E12 at hI13 hF15 ⊢
        have hz16 : E12 40 ((t : Int).toNat) = ai_i z1 := by rw [← hE14, cm_cp_ne (by omega)]; exact hz1
        have ghz16 := gv_eq hz16
        have hz17 : E12 26 ((a : Int).toNat) = ai_i z2 := by rw [← hE14, cm_cp_ne (by omega)]; exact hz2
        have ghz17 := gv_eq hz17
        have hz18 : E12 27 ((a : Int).toNat) = ai_i z8 := by rw [← hE14, cm_cp_ne (by omega)]; exact hz8
        have ghz18 := gv_eq hz18
        refine w_aload (i := 6) (npc := 121) (v := cr c6) rfl rfl rfl ?_
        refine w_iload (i := 4) (npc := 123) rfl rfl ?_
        refine w_aload (i := 0) (npc := 124) (v := cr 23) rfl rfl rfl ?_
        refine w_getf (i := 23) (ci := 5) (k := 3) (npc := 127) rfl (hI13.pl (by decide)) (hI13.T (by decide) rfl) (by decide) (hI13.ref 23 3 (p := 27) (by decide) (by decide) rfl) ?_
        refine w_iload (i := 1) (npc := 128) rfl rfl ?_
        refine w_ald (i := 27) (t := 1) (n := 8) (npc := 129) rfl (hI13.pl (by decide)) (hI13.T (by decide) rfl) (by decide) rfl (by omega) hz18 ?_
        refine w_ast (i := c6) (k := 1) (n := 8) (npc := 130) rfl (hI13.pl (by omega)) (hI13.T (by omega) (tx_c hb7).1) (by decide) (by omega) cm_af1 ?_
        have hI20 := hI13.txw hb7 (k := (z2 : Int).toNat) (z := z8) (by omega)
        have hF22 := cm_fr.up (i := c6) (k := (z2 : Int).toNat) (v := ai_i z8) hF15 (by first | omega | (simp; done) | (simp; omega) | (simp only; omega))
        generalize hE21 : cm_up E12 c6 ((z2 : Int).toNat) (ai_i z8) = E19 at hI20 hF22 ⊢
        have hz23 : E19 40 ((t : Int).toNat) = ai_i z1 := by rw [← hE21, cm_up_nei _ _ (by omega)]; exact hz16
        have ghz23 := gv_eq hz23
        have hz24 : E19 26 ((a : Int).toNat) = ai_i z2 := by rw [← hE21, cm_up_nei _ _ (by omega)]; exact hz17
        have ghz24 := gv_eq hz24
        have hz25 : E19 27 ((a : Int).toNat) = ai_i z8 := by rw [← hE21, cm_up_nei _ _ (by omega)]; exact hz18
        have ghz25 := gv_eq hz25
        have hz26 : E19 c6 ((z2 : Int).toNat) = ai_i z8 := by rw [← hE21, cm_up_eq]
        have ghz26 := gv_eq hz26
        refine w_aload (i := 5) (npc := 132) (v := cr c3) rfl rfl rfl ?_
        refine w_iload (i := 4) (npc := 134) rfl rfl ?_
        refine w_aload (i := 6) (npc := 136) (v := cr c6) rfl rfl rfl ?_
        refine w_iload (i := 4) (npc := 138) rfl rfl ?_
        refine w_const (n := 1) (npc := 139) rfl ?_
        refine w_iadd (npc := 140) rfl (by omega) ?_
        refine w_iload (i := 3) (npc := 141) rfl rfl ?_
        refine w_iload (i := 4) (npc := 143) rfl rfl ?_
        refine w_isub (npc := 144) rfl (by omega) ?_
        refine w_copy (i := c3) (j := c6) (ni := 8) (nj := 8) (npc := 147) rfl (hI20.pl (by omega)) (hI20.pl (by omega)) (hI20.T (by omega) (tx_c hb4).1) (hI20.T (by omega) (tx_c hb7).1) (by omega) (by omega) (by omega) (by omega) (by omega) (by omega) ?_
        have hI30 := hI20.cp (i := c3) (j := c6) (sp := (z2 : Int).toNat) (dp := (z2 + 1 : Int).toNat) (n := (z1 - z2 : Int).toNat) (lo := (-1)) (hi := 126) (by omega) (by omega) (tx_c hb4).1 (tx_c hb4).2 (tx_c hb7).2 (by omega)
        have hF32 := cm_cp_fr (i := c3) (j := c6) (sp := (z2 : Int).toNat) (dp := (z2 + 1 : Int).toNat) (n := (z1 - z2 : Int).toNat) hF22 (fun k => by first | omega | (simp; done) | (simp; omega) | (simp only; omega))
        generalize hE31 : cm_cp E19 c3 c6 (z2 : Int).toNat (z2 + 1 : Int).toNat (z1 - z2 : Int).toNat = E29 at hI30 hF32 ⊢
        have hz33 : E29 40 ((t : Int).toNat) = ai_i z1 := by rw [← hE31, cm_cp_ne (by omega)]; exact hz23
        have ghz33 := gv_eq hz33
        have hz34 : E29 26 ((a : Int).toNat) = ai_i z2 := by rw [← hE31, cm_cp_ne (by omega)]; exact hz24
        have ghz34 := gv_eq hz34
        have hz35 : E29 27 ((a : Int).toNat) = ai_i z8 := by rw [← hE31, cm_cp_ne (by omega)]; exact hz25
        have ghz35 := gv_eq hz35
        refine w_aload (i := 0) (npc := 148) (v := cr 23) rfl rfl rfl ?_
        refine w_getf (i := 23) (ci := 5) (k := 7) (npc := 151) rfl (hI30.pl (by decide)) (hI30.T (by decide) rfl) (by decide) (hI30.ref 23 7 (p := 40) (by decide) (by decide) rfl) ?_
        refine w_iload (i := 2) (npc := 152) rfl rfl ?_
        refine w_const (n := 1) (npc := 153) rfl ?_
        refine w_iadd (npc := 154) rfl (by omega) ?_
        refine w_iload (i := 3) (npc := 155) rfl rfl ?_
        refine w_const (n := 1) (npc := 156) rfl ?_
        refine w_iadd (npc := 157) rfl (by omega) ?_
        refine w_ast (i := 40) (k := 1) (n := 9) (npc := 158) rfl (hI30.pl (by decide)) (hI30.T (by decide) rfl) (by decide) (by omega) cm_af1 ?_
        have hI39 := hI30.puti (i := 40) (k := (t + 1 : Int).toNat) (z := z1 + 1) (lo := 0) (hi := 8) (by decide) rfl (by omega)
        have hF41 := cm_fr.up (i := 40) (k := (t + 1 : Int).toNat) (v := ai_i (z1 + 1)) hF32 (by first | omega | (simp; done) | (simp; omega) | (simp only; omega))
        generalize hE40 : cm_up E29 40 ((t + 1 : Int).toNat) (ai_i (z1 + 1)) = E38 at hI39 hF41 ⊢
        have hz42 : E38 26 ((a : Int).toNat) = ai_i z2 := by rw [← hE40, cm_up_nei _ _ (by decide)]; exact hz34
        have ghz42 := gv_eq hz42
        have hz43 : E38 27 ((a : Int).toNat) = ai_i z8 := by rw [← hE40, cm_up_nei _ _ (by decide)]; exact hz35
        have ghz43 := gv_eq hz43
        have hz44 : E38 40 ((t + 1 : Int).toNat) = ai_i (z1 + 1) := by rw [← hE40, cm_up_eq]
        have ghz44 := gv_eq hz44
        refine w_const (n := 1) (npc := 159) rfl ?_
        exact w_zret rfl (by omega) (⟨rfl, rfl, rfl, hI39, hF41, 1, rfl, ⟨fun h9 => absurd h9 (by have hl9 := hp3; have hs9 := hp4; have hn9 := hp2.1; unfold stp; first | (rw [if_pos (by omega), if_pos (by omega)]; simp) | (rw [if_neg (by omega), if_pos (by omega)]; simp)), fun q9 h9 => by
      have hl9 := hp3; have hs9 := hp4; have hn9 := hp2.1
      have cp9 := cp_ins (pl := z2) (len := z1) (g := z8) (f := q.2) hE14 hE21 hE31 (by omega) (by omega) (by omega) (by omega) (by omega) (by omega) (by omega) (by omega) (by omega) (fun j hj => by rw [hb4e]; exact hp2.2 j (by omega))
      unfold stp at h9
      rw [if_neg (by omega), if_pos (by omega)] at h9
      cases h9
      refine ⟨rfl, by rw [← hE40, gv_up]; show _ = q.1 + 1; omega, fun j hj => ?_⟩
      replace hj : (j : Int) < q.1 + 1 := hj
      have hpl : lf a.toNat = z2 := by omega
      have hsg : sf a.toNat = z8 := by omega
      rw [← hb7e, ← hE40, gv_ne _ _ (by omega), cp9 j (by omega)]
      show _ = if (j : Int) < lf a.toNat then q.2 j else if (j : Int) = lf a.toNat then sf a.toNat else q.2 (j - 1)
      rw [hpl, hsg]⟩⟩) (by omega) (by omega)
      · replace hc11 : ¬ (z1 < (8 : Int)) := hc11
        refine w_const (n := 0) (npc := 107) rfl ?_
        exact w_zret rfl (by omega) (⟨rfl, rfl, rfl, hI, hF, 0, rfl, ⟨fun _ => rfl, fun q9 h9 => absurd h9 (by have hl9 := hp3; have hs9 := hp4; have hn9 := hp2.1; unfold stp; first | (rw [if_pos (by omega), if_neg (by omega)]; simp) | (rw [if_neg (by omega), if_neg (by omega)]; simp))⟩⟩) (by omega) (by omega)
  · replace hc9 : ¬ (z8 ≠ ((-1) : Int)) := hc9
    refine w_iload (i := 4) (npc := 45) rfl rfl ?_
    refine w_iload (i := 3) (npc := 46) rfl rfl ?_
    refine w_icmp (c := .lt) (npc := 49) (pt := 51) rfl (fun hc45 => ?_) (fun hc45 => ?_)
    · replace hc45 : z2 < z1 := hc45
      refine w_aload (i := 5) (npc := 53) (v := cr c3) rfl rfl rfl ?_
      refine w_const (n := 0) (npc := 54) rfl ?_
      refine w_aload (i := 6) (npc := 56) (v := cr c6) rfl rfl rfl ?_
      refine w_const (n := 0) (npc := 57) rfl ?_
      refine w_iload (i := 4) (npc := 59) rfl rfl ?_
      refine w_copy (i := c3) (j := c6) (ni := 8) (nj := 8) (npc := 62) rfl (hI.pl (by omega)) (hI.pl (by omega)) (hI.T (by omega) (tx_c hb4).1) (hI.T (by omega) (tx_c hb7).1) (by omega) (by omega) (by omega) (by omega) (by omega) (by omega) ?_
      have hI47 := hI.cp (i := c3) (j := c6) (sp := (0 : Int).toNat) (dp := (0 : Int).toNat) (n := (z2 : Int).toNat) (lo := (-1)) (hi := 126) (by omega) (by omega) (tx_c hb4).1 (tx_c hb4).2 (tx_c hb7).2 (by omega)
      have hF49 := cm_cp_fr (i := c3) (j := c6) (sp := (0 : Int).toNat) (dp := (0 : Int).toNat) (n := (z2 : Int).toNat) hF (fun k => by first | omega | (simp; done) | (simp; omega) | (simp only; omega))
      generalize hE48 : cm_cp E c3 c6 (0 : Int).toNat (0 : Int).toNat (z2 : Int).toNat = E46 at hI47 hF49 ⊢
      have hz50 : E46 40 ((t : Int).toNat) = ai_i z1 := by rw [← hE48, cm_cp_ne (by omega)]; exact hz1
      have ghz50 := gv_eq hz50
      have hz51 : E46 26 ((a : Int).toNat) = ai_i z2 := by rw [← hE48, cm_cp_ne (by omega)]; exact hz2
      have ghz51 := gv_eq hz51
      have hz52 : E46 27 ((a : Int).toNat) = ai_i z8 := by rw [← hE48, cm_cp_ne (by omega)]; exact hz8
      have ghz52 := gv_eq hz52
      refine w_aload (i := 5) (npc := 64) (v := cr c3) rfl rfl rfl ?_
      refine w_iload (i := 4) (npc := 66) rfl rfl ?_
      refine w_const (n := 1) (npc := 67) rfl ?_
      refine w_iadd (npc := 68) rfl (by omega) ?_
      refine w_aload (i := 6) (npc := 70) (v := cr c6) rfl rfl rfl ?_
      refine w_iload (i := 4) (npc := 72) rfl rfl ?_
      refine w_iload (i := 3) (npc := 73) rfl rfl ?_
      refine w_iload (i := 4) (npc := 75) rfl rfl ?_
      refine w_isub (npc := 76) rfl (by omega) ?_
      refine w_const (n := 1) (npc := 77) rfl ?_
      refine w_isub (npc := 78) rfl (by omega) ?_
      refine w_copy (i := c3) (j := c6) (ni := 8) (nj := 8) (npc := 81) rfl (hI47.pl (by omega)) (hI47.pl (by omega)) (hI47.T (by omega) (tx_c hb4).1) (hI47.T (by omega) (tx_c hb7).1) (by omega) (by omega) (by omega) (by omega) (by omega) (by omega) ?_
      have hI57 := hI47.cp (i := c3) (j := c6) (sp := (z2 + 1 : Int).toNat) (dp := (z2 : Int).toNat) (n := (z1 - z2 - 1 : Int).toNat) (lo := (-1)) (hi := 126) (by omega) (by omega) (tx_c hb4).1 (tx_c hb4).2 (tx_c hb7).2 (by omega)
      have hF59 := cm_cp_fr (i := c3) (j := c6) (sp := (z2 + 1 : Int).toNat) (dp := (z2 : Int).toNat) (n := (z1 - z2 - 1 : Int).toNat) hF49 (fun k => by first | omega | (simp; done) | (simp; omega) | (simp only; omega))
      generalize hE58 : cm_cp E46 c3 c6 (z2 + 1 : Int).toNat (z2 : Int).toNat (z1 - z2 - 1 : Int).toNat = E56 at hI57 hF59 ⊢
      have hz60 : E56 40 ((t : Int).toNat) = ai_i z1 := by rw [← hE58, cm_cp_ne (by omega)]; exact hz50
      have ghz60 := gv_eq hz60
      have hz61 : E56 26 ((a : Int).toNat) = ai_i z2 := by rw [← hE58, cm_cp_ne (by omega)]; exact hz51
      have ghz61 := gv_eq hz61
      have hz62 : E56 27 ((a : Int).toNat) = ai_i z8 := by rw [← hE58, cm_cp_ne (by omega)]; exact hz52
      have ghz62 := gv_eq hz62
      refine w_aload (i := 0) (npc := 82) (v := cr 23) rfl rfl rfl ?_
      refine w_getf (i := 23) (ci := 5) (k := 7) (npc := 85) rfl (hI57.pl (by decide)) (hI57.T (by decide) rfl) (by decide) (hI57.ref 23 7 (p := 40) (by decide) (by decide) rfl) ?_
      refine w_iload (i := 2) (npc := 86) rfl rfl ?_
      refine w_const (n := 1) (npc := 87) rfl ?_
      refine w_iadd (npc := 88) rfl (by omega) ?_
      refine w_iload (i := 3) (npc := 89) rfl rfl ?_
      refine w_const (n := 1) (npc := 90) rfl ?_
      refine w_isub (npc := 91) rfl (by omega) ?_
      refine w_ast (i := 40) (k := 1) (n := 9) (npc := 92) rfl (hI57.pl (by decide)) (hI57.T (by decide) rfl) (by decide) (by omega) cm_af1 ?_
      have hI66 := hI57.puti (i := 40) (k := (t + 1 : Int).toNat) (z := z1 - 1) (lo := 0) (hi := 8) (by decide) rfl (by omega)
      have hF68 := cm_fr.up (i := 40) (k := (t + 1 : Int).toNat) (v := ai_i (z1 - 1)) hF59 (by first | omega | (simp; done) | (simp; omega) | (simp only; omega))
      generalize hE67 : cm_up E56 40 ((t + 1 : Int).toNat) (ai_i (z1 - 1)) = E65 at hI66 hF68 ⊢
      have hz69 : E65 26 ((a : Int).toNat) = ai_i z2 := by rw [← hE67, cm_up_nei _ _ (by decide)]; exact hz61
      have ghz69 := gv_eq hz69
      have hz70 : E65 27 ((a : Int).toNat) = ai_i z8 := by rw [← hE67, cm_up_nei _ _ (by decide)]; exact hz62
      have ghz70 := gv_eq hz70
      have hz71 : E65 40 ((t + 1 : Int).toNat) = ai_i (z1 - 1) := by rw [← hE67, cm_up_eq]
      have ghz71 := gv_eq hz71
      refine w_const (n := 1) (npc := 93) rfl ?_
      exact w_zret rfl (by omega) (⟨rfl, rfl, rfl, hI66, hF68, 1, rfl, ⟨fun h9 => absurd h9 (by have hl9 := hp3; have hs9 := hp4; have hn9 := hp2.1; unfold stp; first | (rw [if_pos (by omega), if_pos (by omega)]; simp) | (rw [if_neg (by omega), if_pos (by omega)]; simp)), fun q9 h9 => by
      have hl9 := hp3; have hs9 := hp4; have hn9 := hp2.1
      have cp9 := cp_del (pl := z2) (len := z1) (f := q.2) hE48 hE58 (by omega) (by omega) (by omega) (by omega) (by omega) (by omega) (by omega) (by omega) (fun j hj => by rw [hb4e]; exact hp2.2 j (by omega))
      unfold stp at h9
      rw [if_pos (by omega), if_pos (by omega)] at h9
      cases h9
      refine ⟨rfl, by rw [← hE67, gv_up]; show _ = q.1 - 1; omega, fun j hj => ?_⟩
      replace hj : (j : Int) < q.1 - 1 := hj
      have hpl : lf a.toNat = z2 := by omega
      have hsg : sf a.toNat = z8 := by omega
      rw [← hb7e, ← hE67, gv_ne _ _ (by omega), cp9 j (by omega)]
      show _ = if (j : Int) < lf a.toNat then q.2 j else q.2 (j + 1)
      rw [hpl]⟩⟩) (by omega) (by omega)
    · replace hc45 : ¬ (z2 < z1) := hc45
      refine w_const (n := 0) (npc := 50) rfl ?_
      exact w_zret rfl (by omega) (⟨rfl, rfl, rfl, hI, hF, 0, rfl, ⟨fun _ => rfl, fun q9 h9 => absurd h9 (by have hl9 := hp3; have hs9 := hp4; have hn9 := hp2.1; unfold stp; first | (rw [if_pos (by omega), if_neg (by omega)]; simp) | (rw [if_neg (by omega), if_neg (by omega)]; simp))⟩⟩) (by omega) (by omega)
