set_option maxRecDepth 16384 in
theorem ct_ty_finishOrder2 {sl : Int × Int} {x : ai_E} {d : Nat} {T : cm_T} {E : cm_E} {nx : Nat} (told w : Nat → Int) (n : Nat) (m : Int) (q : Int × (Nat → Int)) (A : sA) (t : Int)  (hI : cs_I T E nx) (hp0 : 0 ≤ t ∧ t ≤ 8 ∧ t = (n : Int)) (hp1 : gv E 40 t.toNat = q.1 ∧ ∀ j : Nat, (j : Int) < q.1 → gv E (31 + t.toNat) j = q.2 j) (hp2 : ∀ k : Nat, (k : Int) < t → gv E 28 k = w k) (hp3 : gv E 23 8 = m) (hp4 : ∀ j : Nat, (j : Int) < m → gv E 24 j = told j) (hp5 : mA E n A) (hp6 : 0 ≤ A.1 ∧ A.1 ≤ 200000) : cm_ct (ai_ev sl (d + 1)) x 98 [cr 23, ai_i t] T E nx 0 0 (fun rk rv T' E' nx' => rk = 0 ∧ T = T' ∧ nx = nx' ∧ cs_I T E' nx ∧ cm_fr (fun i k => i = 29 ∨ (i = 23 ∧ k = 10)) E E' ∧ (mA E' n (lfA told m w q A))) := by
  obtain ⟨ha1, ha2, ha3⟩ := hp5
  have hp5 : mA E n A := ⟨ha1, ha2, ha3⟩
  refine cm_body (M := ai_m98) rfl rfl (fun kc ks => ?_)
  show cm_wp (ai_find ai_c98 sl) (ai_ev sl (d + 0)) x (kc + 0) (ks + 0) _ 0 [cr 23, ai_i t, ai_un] [] T E nx kc ks
  have hF : cm_fr (fun i k => i = 29 ∨ (i = 23 ∧ k = 10)) E E := fun _ _ _ => rfl
  obtain ⟨z1, hz1, hz1a, hz1b⟩ := hI.int 23 8 (lo := 0) (hi := 12) (by decide) (by decide) rfl
  have ghz1 := gv_eq hz1
  obtain ⟨z2, hz2, hz2a, hz2b⟩ := hI.int 23 10 (lo := (-2147483648)) (hi := 2147483647) (by decide) (by decide) rfl
  have ghz2 := gv_eq hz2
  refine w_aload (i := 0) (npc := 1) (v := cr 23) rfl rfl rfl ?_
  refine w_getf (i := 23) (ci := 5) (k := 7) (npc := 4) rfl (hI.pl (by decide)) (hI.T (by decide) rfl) (by decide) (hI.ref 23 7 (p := 40) (by decide) (by decide) rfl) ?_
  refine w_iload (i := 1) (npc := 5) rfl rfl ?_
  obtain ⟨z3, hz3, hz3a, hz3b⟩ := hI.int 40 (t : Int).toNat (lo := 0) (hi := 8) (by decide) (show (t : Int).toNat < 9 by omega) rfl
  have ghz3 := gv_eq hz3
  refine w_ald (i := 40) (t := 1) (n := 9) (npc := 6) rfl (hI.pl (by decide)) (hI.T (by decide) rfl) (by decide) rfl (by omega) hz3 ?_
  refine w_aload (i := 0) (npc := 7) (v := cr 23) rfl rfl rfl ?_
  refine w_getf (i := 23) (ci := 5) (k := 8) (npc := 10) rfl (hI.pl (by decide)) (hI.T (by decide) rfl) (by decide) hz1 ?_
  refine w_icmp (c := .eq) (npc := 13) (pt := 14) rfl (fun hc4 => ?_) (fun hc4 => ?_)
  · replace hc4 : z3 = z1 := hc4
    refine w_const (n := 0) (npc := 15) rfl ?_
    refine w_istore (i := 2) (npc := 16) (loc' := [cr 23, ai_i t, ai_i 0]) rfl rfl ?_
    have loop16 : ∀ (nf : Nat) (i : Int), ((8 - i).toNat) < nf → (0 ≤ i ∧ i ≤ 8 ∧ ∀ j : Nat, (j : Int) < i → q.2 j = told j) → cm_wp (ai_find ai_c98 sl) (ai_ev sl (d + 0)) x (kc + 0) (ks + 0) (fun rk rv T' E' nx' => rk = 0 ∧ T = T' ∧ nx = nx' ∧ cs_I T E' nx ∧ cm_fr (fun i k => i = 29 ∨ (i = 23 ∧ k = 10)) E E' ∧ (mA E' n (lfA told m w q A))) 16 [cr 23, ai_i t, ai_i i] [] T E nx kc ks := by
      intro nf
      induction nf with
      | zero => intro i hm; exact absurd hm (Nat.not_lt_zero _)
      | succ nf16 ih =>
        intro i hm16 hv16
        have ih16 := ih; clear ih
        refine w_iload (i := 2) (npc := 17) rfl rfl ?_
        refine w_aload (i := 0) (npc := 18) (v := cr 23) rfl rfl rfl ?_
        refine w_getf (i := 23) (ci := 5) (k := 8) (npc := 21) rfl (hI.pl (by decide)) (hI.T (by decide) rfl) (by decide) hz1 ?_
        refine w_icmp (c := .ge) (npc := 24) (pt := 54) rfl (fun hc5 => ?_) (fun hc5 => ?_)
        · replace hc5 : z1 ≤ i := hc5
          refine w_aload (i := 0) (npc := 55) (v := cr 23) rfl rfl rfl ?_
          refine w_getf (i := 23) (ci := 5) (k := 10) (npc := 58) rfl (hI.pl (by decide)) (hI.T (by decide) rfl) (by decide) hz2 ?_
          refine w_if (c := .ne) (npc := 61) (pt := 76) rfl (fun hc6 => ?_) (fun hc6 => ?_)
          · replace hc6 : z2 ≠ (0 : Int) := hc6
            refine w_aload (i := 0) (npc := 77) (v := cr 23) rfl rfl rfl ?_
            refine w_dup (npc := 78) rfl rfl ?_
            refine w_getf (i := 23) (ci := 5) (k := 10) (npc := 81) rfl (hI.pl (by decide)) (hI.T (by decide) rfl) (by decide) hz2 ?_
            refine w_const (n := 1) (npc := 82) rfl ?_
            refine w_iadd (npc := 83) rfl (by omega) ?_
            refine w_putf (i := 23) (ci := 5) (k := 10) (t := 0) (npc := 86) rfl (hI.pl (by decide)) (hI.T (by decide) rfl) (by decide) cm_fit0 ?_
            have hI9 := hI.puti (i := 23) (k := 10) (z := z2 + 1) (lo := (-2147483648)) (hi := 2147483647) (by decide) rfl (by omega)
            have hF11 := cm_fr.up (i := 23) (k := 10) (v := ai_i (z2 + 1)) hF (by first | omega | (simp; done) | (simp; omega) | (simp only; omega))
            generalize hE10 : cm_up E 23 10 (ai_i (z2 + 1)) = E8 at hI9 hF11 ⊢
            have hz12 : E8 23 8 = ai_i z1 := by rw [← hE10, cm_up_ne _ _ (by decide)]; exact hz1
            have ghz12 := gv_eq hz12
            have hz13 : E8 40 ((t : Int).toNat) = ai_i z3 := by rw [← hE10, cm_up_nei _ _ (by decide)]; exact hz3
            have ghz13 := gv_eq hz13
            have hz14 : E8 23 10 = ai_i (z2 + 1) := by rw [← hE10, cm_up_eq]
            have ghz14 := gv_eq hz14
            exact w_vret rfl (⟨rfl, rfl, rfl, hI9, hF11, by rw [lfA_y ⟨by have e8 := hp1.1; omega, fun j hj => hv16.2.2 j (by have e8 := hp1.1; omega)⟩]; exact ⟨by rw [← hE10, gv_up]; show _ = A.1 + 1; omega, by rw [← hE10, gv_ne _ _ (by decide)]; exact ha2, fun j hj => by rw [← hE10, gv_ne _ _ (by omega)]; show _ = pif (A.1 = 0) w A.2.2 j; rw [pif_neg (by omega)]; exact ha3 j hj⟩⟩) (by omega) (by omega)
          · replace hc6 : ¬ (z2 ≠ (0 : Int)) := hc6
            refine w_aload (i := 0) (npc := 62) (v := cr 23) rfl rfl rfl ?_
            refine w_getf (i := 23) (ci := 5) (k := 4) (npc := 65) rfl (hI.pl (by decide)) (hI.T (by decide) rfl) (by decide) (hI.ref 23 4 (p := 28) (by decide) (by decide) rfl) ?_
            refine w_const (n := 0) (npc := 66) rfl ?_
            refine w_aload (i := 0) (npc := 67) (v := cr 23) rfl rfl rfl ?_
            refine w_getf (i := 23) (ci := 5) (k := 5) (npc := 70) rfl (hI.pl (by decide)) (hI.T (by decide) rfl) (by decide) (hI.ref 23 5 (p := 29) (by decide) (by decide) rfl) ?_
            refine w_const (n := 0) (npc := 71) rfl ?_
            refine w_const (n := 8) (npc := 73) rfl ?_
            refine w_copy (i := 28) (j := 29) (ni := 8) (nj := 8) (npc := 76) rfl (hI.pl (by decide)) (hI.pl (by decide)) (hI.T (by decide) rfl) (hI.T (by decide) rfl) (by omega) (by omega) (by omega) (by omega) (by omega) (by decide) ?_
            have hI16 := hI.cp (i := 28) (j := 29) (sp := (0 : Int).toNat) (dp := (0 : Int).toNat) (n := (8 : Int).toNat) (lo := 0) (hi := 2) (by decide) (by decide) rfl (fun _ => rfl) (fun _ => rfl) (by omega)
            have hF18 := cm_cp_fr (i := 28) (j := 29) (sp := (0 : Int).toNat) (dp := (0 : Int).toNat) (n := (8 : Int).toNat) hF (fun k => by first | omega | (simp; done) | (simp; omega) | (simp only; omega))
            generalize hE17 : cm_cp E 28 29 (0 : Int).toNat (0 : Int).toNat (8 : Int).toNat = E15 at hI16 hF18 ⊢
            have hz19 : E15 23 8 = ai_i z1 := by rw [← hE17, cm_cp_ne (by omega)]; exact hz1
            have ghz19 := gv_eq hz19
            have hz20 : E15 23 10 = ai_i z2 := by rw [← hE17, cm_cp_ne (by omega)]; exact hz2
            have ghz20 := gv_eq hz20
            have hz21 : E15 40 ((t : Int).toNat) = ai_i z3 := by rw [← hE17, cm_cp_ne (by omega)]; exact hz3
            have ghz21 := gv_eq hz21
            refine w_aload (i := 0) (npc := 77) (v := cr 23) rfl rfl rfl ?_
            refine w_dup (npc := 78) rfl rfl ?_
            refine w_getf (i := 23) (ci := 5) (k := 10) (npc := 81) rfl (hI16.pl (by decide)) (hI16.T (by decide) rfl) (by decide) hz20 ?_
            refine w_const (n := 1) (npc := 82) rfl ?_
            refine w_iadd (npc := 83) rfl (by omega) ?_
            refine w_putf (i := 23) (ci := 5) (k := 10) (t := 0) (npc := 86) rfl (hI16.pl (by decide)) (hI16.T (by decide) rfl) (by decide) cm_fit0 ?_
            have hI24 := hI16.puti (i := 23) (k := 10) (z := z2 + 1) (lo := (-2147483648)) (hi := 2147483647) (by decide) rfl (by omega)
            have hF26 := cm_fr.up (i := 23) (k := 10) (v := ai_i (z2 + 1)) hF18 (by first | omega | (simp; done) | (simp; omega) | (simp only; omega))
            generalize hE25 : cm_up E15 23 10 (ai_i (z2 + 1)) = E23 at hI24 hF26 ⊢
            have hz27 : E23 23 8 = ai_i z1 := by rw [← hE25, cm_up_ne _ _ (by decide)]; exact hz19
            have ghz27 := gv_eq hz27
            have hz28 : E23 40 ((t : Int).toNat) = ai_i z3 := by rw [← hE25, cm_up_nei _ _ (by decide)]; exact hz21
            have ghz28 := gv_eq hz28
            have hz29 : E23 23 10 = ai_i (z2 + 1) := by rw [← hE25, cm_up_eq]
            have ghz29 := gv_eq hz29
            exact w_vret rfl (⟨rfl, rfl, rfl, hI24, hF26, by rw [lfA_y ⟨by have e8 := hp1.1; omega, fun j hj => hv16.2.2 j (by have e8 := hp1.1; omega)⟩]; exact ⟨by rw [← hE25, gv_up]; show _ = A.1 + 1; omega, by rw [← hE25, gv_ne _ _ (by decide), ← hE17]; unfold gv; rw [cm_cp_ne (by omega)]; exact ha2, fun j hj => by rw [← hE25, gv_ne _ _ (by omega), ← hE17]; show _ = pif (A.1 = 0) w A.2.2 j; rw [pif_pos (by omega)]; have e6 := hp2 j (by omega); rw [← e6]; unfold gv; rw [cm_cp_eq (show (0 : Int).toNat ≤ j ∧ j < (0 : Int).toNat + (8 : Int).toNat by omega), show (0 : Int).toNat + (j - (0 : Int).toNat) = j by omega]⟩⟩) (by omega) (by omega)
        · replace hc5 : ¬ (z1 ≤ i) := hc5
          refine w_iload (i := 2) (npc := 25) rfl rfl ?_
          refine w_const (n := 8) (npc := 27) rfl ?_
          refine w_icmp (c := .ge) (npc := 30) (pt := 54) rfl (fun hc30 => ?_) (fun hc30 => ?_)
          · replace hc30 : (8 : Int) ≤ i := hc30
            refine w_aload (i := 0) (npc := 55) (v := cr 23) rfl rfl rfl ?_
            refine w_getf (i := 23) (ci := 5) (k := 10) (npc := 58) rfl (hI.pl (by decide)) (hI.T (by decide) rfl) (by decide) hz2 ?_
            refine w_if (c := .ne) (npc := 61) (pt := 76) rfl (fun hc31 => ?_) (fun hc31 => ?_)
            · replace hc31 : z2 ≠ (0 : Int) := hc31
              refine w_aload (i := 0) (npc := 77) (v := cr 23) rfl rfl rfl ?_
              refine w_dup (npc := 78) rfl rfl ?_
              refine w_getf (i := 23) (ci := 5) (k := 10) (npc := 81) rfl (hI.pl (by decide)) (hI.T (by decide) rfl) (by decide) hz2 ?_
              refine w_const (n := 1) (npc := 82) rfl ?_
              refine w_iadd (npc := 83) rfl (by omega) ?_
              refine w_putf (i := 23) (ci := 5) (k := 10) (t := 0) (npc := 86) rfl (hI.pl (by decide)) (hI.T (by decide) rfl) (by decide) cm_fit0 ?_
              have hI34 := hI.puti (i := 23) (k := 10) (z := z2 + 1) (lo := (-2147483648)) (hi := 2147483647) (by decide) rfl (by omega)
              have hF36 := cm_fr.up (i := 23) (k := 10) (v := ai_i (z2 + 1)) hF (by first | omega | (simp; done) | (simp; omega) | (simp only; omega))
              generalize hE35 : cm_up E 23 10 (ai_i (z2 + 1)) = E33 at hI34 hF36 ⊢
              have hz37 : E33 23 8 = ai_i z1 := by rw [← hE35, cm_up_ne _ _ (by decide)]; exact hz1
              have ghz37 := gv_eq hz37
              have hz38 : E33 40 ((t : Int).toNat) = ai_i z3 := by rw [← hE35, cm_up_nei _ _ (by decide)]; exact hz3
              have ghz38 := gv_eq hz38
              have hz39 : E33 23 10 = ai_i (z2 + 1) := by rw [← hE35, cm_up_eq]
              have ghz39 := gv_eq hz39
              exact w_vret rfl (⟨rfl, rfl, rfl, hI34, hF36, by rw [lfA_y ⟨by have e8 := hp1.1; omega, fun j hj => hv16.2.2 j (by have e8 := hp1.1; omega)⟩]; exact ⟨by rw [← hE35, gv_up]; show _ = A.1 + 1; omega, by rw [← hE35, gv_ne _ _ (by decide)]; exact ha2, fun j hj => by rw [← hE35, gv_ne _ _ (by omega)]; show _ = pif (A.1 = 0) w A.2.2 j; rw [pif_neg (by omega)]; exact ha3 j hj⟩⟩) (by omega) (by omega)
            · replace hc31 : ¬ (z2 ≠ (0 : Int)) := hc31
              refine w_aload (i := 0) (npc := 62) (v := cr 23) rfl rfl rfl ?_
              refine w_getf (i := 23) (ci := 5) (k := 4) (npc := 65) rfl (hI.pl (by decide)) (hI.T (by decide) rfl) (by decide) (hI.ref 23 4 (p := 28) (by decide) (by decide) rfl) ?_
              refine w_const (n := 0) (npc := 66) rfl ?_
              refine w_aload (i := 0) (npc := 67) (v := cr 23) rfl rfl rfl ?_
              refine w_getf (i := 23) (ci := 5) (k := 5) (npc := 70) rfl (hI.pl (by decide)) (hI.T (by decide) rfl) (by decide) (hI.ref 23 5 (p := 29) (by decide) (by decide) rfl) ?_
              refine w_const (n := 0) (npc := 71) rfl ?_
              refine w_const (n := 8) (npc := 73) rfl ?_
              refine w_copy (i := 28) (j := 29) (ni := 8) (nj := 8) (npc := 76) rfl (hI.pl (by decide)) (hI.pl (by decide)) (hI.T (by decide) rfl) (hI.T (by decide) rfl) (by omega) (by omega) (by omega) (by omega) (by omega) (by decide) ?_
              have hI41 := hI.cp (i := 28) (j := 29) (sp := (0 : Int).toNat) (dp := (0 : Int).toNat) (n := (8 : Int).toNat) (lo := 0) (hi := 2) (by decide) (by decide) rfl (fun _ => rfl) (fun _ => rfl) (by omega)
              have hF43 := cm_cp_fr (i := 28) (j := 29) (sp := (0 : Int).toNat) (dp := (0 : Int).toNat) (n := (8 : Int).toNat) hF (fun k => by first | omega | (simp; done) | (simp; omega) | (simp only; omega))
              generalize hE42 : cm_cp E 28 29 (0 : Int).toNat (0 : Int).toNat (8 : Int).toNat = E40 at hI41 hF43 ⊢
              have hz44 : E40 23 8 = ai_i z1 := by rw [← hE42, cm_cp_ne (by omega)]; exact hz1
              have ghz44 := gv_eq hz44
              have hz45 : E40 23 10 = ai_i z2 := by rw [← hE42, cm_cp_ne (by omega)]; exact hz2
              have ghz45 := gv_eq hz45
              have hz46 : E40 40 ((t : Int).toNat) = ai_i z3 := by rw [← hE42, cm_cp_ne (by omega)]; exact hz3
              have ghz46 := gv_eq hz46
              refine w_aload (i := 0) (npc := 77) (v := cr 23) rfl rfl rfl ?_
              refine w_dup (npc := 78) rfl rfl ?_
              refine w_getf (i := 23) (ci := 5) (k := 10) (npc := 81) rfl (hI41.pl (by decide)) (hI41.T (by decide) rfl) (by decide) hz45 ?_
              refine w_const (n := 1) (npc := 82) rfl ?_
              refine w_iadd (npc := 83) rfl (by omega) ?_
              refine w_putf (i := 23) (ci := 5) (k := 10) (t := 0) (npc := 86) rfl (hI41.pl (by decide)) (hI41.T (by decide) rfl) (by decide) cm_fit0 ?_
              have hI49 := hI41.puti (i := 23) (k := 10) (z := z2 + 1) (lo := (-2147483648)) (hi := 2147483647) (by decide) rfl (by omega)
              have hF51 := cm_fr.up (i := 23) (k := 10) (v := ai_i (z2 + 1)) hF43 (by first | omega | (simp; done) | (simp; omega) | (simp only; omega))
              generalize hE50 : cm_up E40 23 10 (ai_i (z2 + 1)) = E48 at hI49 hF51 ⊢
              have hz52 : E48 23 8 = ai_i z1 := by rw [← hE50, cm_up_ne _ _ (by decide)]; exact hz44
              have ghz52 := gv_eq hz52
              have hz53 : E48 40 ((t : Int).toNat) = ai_i z3 := by rw [← hE50, cm_up_nei _ _ (by decide)]; exact hz46
              have ghz53 := gv_eq hz53
              have hz54 : E48 23 10 = ai_i (z2 + 1) := by rw [← hE50, cm_up_eq]
              have ghz54 := gv_eq hz54
              exact w_vret rfl (⟨rfl, rfl, rfl, hI49, hF51, by rw [lfA_y ⟨by have e8 := hp1.1; omega, fun j hj => hv16.2.2 j (by have e8 := hp1.1; omega)⟩]; exact ⟨by rw [← hE50, gv_up]; show _ = A.1 + 1; omega, by rw [← hE50, gv_ne _ _ (by decide), ← hE42]; unfold gv; rw [cm_cp_ne (by omega)]; exact ha2, fun j hj => by rw [← hE50, gv_ne _ _ (by omega), ← hE42]; show _ = pif (A.1 = 0) w A.2.2 j; rw [pif_pos (by omega)]; have e6 := hp2 j (by omega); rw [← e6]; unfold gv; rw [cm_cp_eq (show (0 : Int).toNat ≤ j ∧ j < (0 : Int).toNat + (8 : Int).toNat by omega), show (0 : Int).toNat + (j - (0 : Int).toNat) = j by omega]⟩⟩) (by omega) (by omega)
          · replace hc30 : ¬ ((8 : Int) ≤ i) := hc30
            refine w_aload (i := 0) (npc := 31) (v := cr 23) rfl rfl rfl ?_
            refine w_getf (i := 23) (ci := 5) (k := 6) (npc := 34) rfl (hI.pl (by decide)) (hI.T (by decide) rfl) (by decide) (hI.ref 23 6 (p := 30) (by decide) (by decide) rfl) ?_
            refine w_iload (i := 1) (npc := 35) rfl rfl ?_
            obtain ⟨c55, hb56e⟩ : ∃ c55 : Nat, c55 = 31 + (t : Int).toNat := ⟨_, rfl⟩
            have hb56 : 31 ≤ c55 ∧ c55 ≤ 39 := by omega
            refine w_ald (i := 30) (t := 6) (n := 9) (npc := 36) rfl (hI.pl (by decide)) (hI.T (by decide) rfl) (by decide) rfl (by omega) (v := cr c55) (by rw [hb56e]; exact hI.texts (by omega)) ?_
            refine w_iload (i := 2) (npc := 37) rfl rfl ?_
            obtain ⟨z57, hz57, hz57a, hz57b⟩ := hI.txi hb56 (i : Int).toNat (by omega)
            have ghz57 := gv_eq hz57
            refine w_ald (i := c55) (t := 1) (n := 8) (npc := 38) rfl (hI.pl (by omega)) (hI.T (by omega) (tx_c hb56).1) (by decide) rfl (by omega) hz57 ?_
            refine w_aload (i := 0) (npc := 39) (v := cr 23) rfl rfl rfl ?_
            refine w_getf (i := 23) (ci := 5) (k := 0) (npc := 42) rfl (hI.pl (by decide)) (hI.T (by decide) rfl) (by decide) (hI.ref 23 0 (p := 24) (by decide) (by decide) rfl) ?_
            refine w_iload (i := 2) (npc := 43) rfl rfl ?_
            obtain ⟨z58, hz58, hz58a, hz58b⟩ := hI.int 24 (i : Int).toNat (lo := 0) (hi := 126) (by decide) (show (i : Int).toNat < 12 by omega) rfl
            have ghz58 := gv_eq hz58
            refine w_ald (i := 24) (t := 1) (n := 12) (npc := 44) rfl (hI.pl (by decide)) (hI.T (by decide) rfl) (by decide) rfl (by omega) hz58 ?_
            refine w_icmp (c := .eq) (npc := 47) (pt := 48) rfl (fun hc59 => ?_) (fun hc59 => ?_)
            · replace hc59 : z57 = z58 := hc59
              refine w_iinc (i := 2) (n := 1) (npc := 51) (loc' := [cr 23, ai_i t, ai_i (i + 1)]) rfl rfl (by omega) rfl ?_
              refine w_goto (pt := 16) rfl ?_
              exact ih16 (i + 1) (by omega) (⟨by omega, by omega, fun j hj => by
      by_cases hji : (j : Int) = i
      · have e8 := hp1.2 i.toNat (by have e7 := hp1.1; omega); rw [← hb56e] at e8; have e7 := hp4 i.toNat (by omega); rw [show j = i.toNat by omega]; omega
      · exact hv16.2.2 j (by omega)⟩)
            · replace hc59 : ¬ (z57 = z58) := hc59
              exact w_vret rfl (⟨rfl, rfl, rfl, hI, hF, by rw [lfA_n (fun h9 => by have e9 := h9.2 i.toNat (by omega); have e8 := hp1.2 i.toNat (by omega); rw [← hb56e] at e8; have e7 := hp4 i.toNat (by omega); omega)]; exact hp5⟩) (by omega) (by omega)
    exact loop16 _ (0) (Nat.lt_succ_self _) (⟨by omega, by omega, fun j hj => by omega⟩)
  · replace hc4 : ¬ (z3 = z1) := hc4
    exact w_vret rfl (⟨rfl, rfl, rfl, hI, hF, by rw [lfA_n (fun h9 => by have e9 := h9.1; have e8 := hp1.1; omega)]; exact hp5⟩) (by omega) (by omega)
