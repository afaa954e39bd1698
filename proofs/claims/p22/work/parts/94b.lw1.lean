set_option maxRecDepth 16384 in
theorem ct_lw_writers {sl : Int × Int} {x : ai_E} {d : Nat} {T : cm_T} {E : cm_E} {nx : Nat} (n : Int)  (hI : cs_I T E nx) (hN : hn E) (hp0 : nx ≤ 1000) : cm_ct (ai_ev sl (d + 4)) x 142 [cr 0, ai_i n] T E nx 6 440 (fun rk rv T' E' nx' => rk = 1 ∧ nx ≤ nx' ∧ nx' ≤ nx + 2 ∧ cs_I T' E' nx' ∧ cm_fr (fun i k => (i < 81 ∧ ¬ (i = 0 ∧ (k = 11)) ∧ ¬ (i = 23 ∧ (k = 8 ∨ k = 9))) ∨ 104 ≤ i) E E' ∧ hn E' ∧ ∃ z : Int, rv = ai_i z ∧ ((z = 1 ∧ ¬ (1 ≤ n ∧ n ≤ 5) ∧ gv E' 0 10 = gv E 0 10 ∧ gv E' 0 14 = gv E 0 14) ∨ (z = 0 ∧ (1 ≤ n ∧ n ≤ 5) ∧ gv E' 0 10 = n ∧ gv E' 0 14 = 0))) := by
  refine cm_body (M := ai_m142) rfl rfl (fun kc ks => ?_)
  show cm_wp (ai_find ai_c142 sl) (ai_ev sl (d + 3)) x (kc + 6) (ks + 440) _ 0 [cr 0, ai_i n, ai_un] [] T E nx kc ks
  have hF : cm_fr (fun i k => (i < 81 ∧ ¬ (i = 0 ∧ (k = 11)) ∧ ¬ (i = 23 ∧ (k = 8 ∨ k = 9))) ∨ 104 ≤ i) E E := fun _ _ _ => rfl
  refine w_aload (i := 0) (npc := 1) (v := cr 0) rfl rfl rfl ?_
  refine w_iload (i := 1) (npc := 2) rfl rfl ?_
  refine w_virt (ci := 7) (i := 0) (npc := 5) (a := [cr 0, ai_i n]) (rest := []) rfl rfl (hI.pl (by decide)) (hI.T (by decide) rfl) rfl rfl rfl rfl (ct_c_writers (sl := sl) (x := x) (d := d + 0) (n) hI hN) (Or.inl rfl) (fun k9 v9 T2 E2 nx2 kc2 ks2 hq1 hk2 hv2 => ?_)
  rcases hq1 with hq1 | hq1
  · obtain ⟨rfl, rfl, rfl, hI4, hG5, hN6, hz3⟩ := hq1
    have hF7 := cm_fr.trans hF hG5 (by intro i k h; (try simp only at h); (try simp only); omega)
    refine Or.inr (Or.inr (Or.inr (Or.inr (Or.inr ⟨rfl, by decide, ?_⟩))))
    refine w_astore (i := 2) (npc := 9) (loc' := [cr 0, ai_i n, (7, 0, 0)]) rfl rfl rfl ?_
    refine w_const (n := 1) (npc := 10) rfl ?_
    exact w_iret rfl (⟨rfl, by omega, by omega, hI4, hF7, hN6, 1, rfl, by omega⟩) (by omega) (by omega)
  obtain ⟨rfl, rfl, rfl, hI4, hG5, hN6, hz3⟩ := hq1
  have hF8 := cm_fr.trans hF hG5 (by intro i k h; (try simp only at h); (try simp only); omega)
  refine Or.inl ⟨rfl, ?_⟩
  refine w_goto (pt := 11) rfl ?_
  refine w_const (n := 0) (npc := 12) rfl ?_
  exact w_iret rfl (⟨rfl, by omega, by omega, hI4, hF8, hN6, 0, rfl, by omega⟩) (by omega) (by omega)
set_option maxRecDepth 16384 in
theorem ct_lw_count {sl : Int × Int} {x : ai_E} {d : Nat} {T : cm_T} {E : cm_E} {nx : Nat} (c : Int)  (hI : cs_I T E nx) (hN : hn E) (hp0 : nx ≤ 1000) : cm_ct (ai_ev sl (d + 2)) x 126 [cr 0, ai_i c, cr 104] T E nx 6 440 (fun rk rv T' E' nx' => rk = 1 ∧ nx ≤ nx' ∧ nx' ≤ nx + 2 ∧ cs_I T' E' nx' ∧ cm_fr (fun i k => (i < 81 ∧ ¬ (i = 0 ∧ (k = 10 ∨ k = 11 ∨ k = 14)) ∧ ¬ (i = 23 ∧ (k = 8 ∨ k = 9))) ∨ 104 ≤ i) E E' ∧ hn E' ∧ ∃ z : Int, rv = ai_i z ∧ (True)) := by
  refine cm_body (M := ai_m126) rfl rfl (fun kc ks => ?_)
  show cm_wp (ai_find ai_c126 sl) (ai_ev sl (d + 1)) x (kc + 6) (ks + 440) _ 0 [cr 0, ai_i c, cr 104, ai_un] [] T E nx kc ks
  have hF : cm_fr (fun i k => (i < 81 ∧ ¬ (i = 0 ∧ (k = 10 ∨ k = 11 ∨ k = 14)) ∧ ¬ (i = 23 ∧ (k = 8 ∨ k = 9))) ∨ 104 ≤ i) E E := fun _ _ _ => rfl
  refine w_aload (i := 2) (npc := 1) (v := cr 104) rfl rfl rfl ?_
  refine w_const (n := 0) (npc := 2) rfl ?_
  refine w_aload (i := 0) (npc := 3) (v := cr 0) rfl rfl rfl ?_
  refine w_iload (i := 1) (npc := 4) rfl rfl ?_
  refine w_virt (ci := 7) (i := 0) (npc := 7) (a := [cr 0, ai_i c]) (rest := [ai_i 0, cr 104]) rfl rfl (hI.pl (by decide)) (hI.T (by decide) rfl) rfl rfl rfl rfl (ct_c_count (sl := sl) (x := x) (d := d + 0) (c) hI hN) (Or.inl rfl) (fun k9 v9 T2 E2 nx2 kc2 ks2 hq1 hk2 hv2 => ?_)
  rcases hq1 with hq1 | hq1
  · obtain ⟨rfl, rfl, rfl, hI4, hG5, hN6, hz3⟩ := hq1
    have hF7 := cm_fr.trans hF hG5 (by intro i k h; (try simp only at h); (try simp only); omega)
    refine Or.inr (Or.inr (Or.inr (Or.inr (Or.inl ⟨rfl, by decide, ?_⟩))))
    refine w_astore (i := 3) (npc := 13) (loc' := [cr 0, ai_i c, cr 104, (7, 0, 0)]) rfl rfl rfl ?_
    refine w_const (n := 1) (npc := 14) rfl ?_
    exact w_iret rfl (⟨rfl, by omega, by omega, hI4, hF7, hN6, 1, rfl, trivial⟩) (by omega) (by omega)
  obtain ⟨rfl, rfl, rfl, hI4, hG5, hN6, z3, rfl, hz3⟩ := hq1
  have hF8 := cm_fr.trans hF hG5 (by intro i k h; (try simp only at h); (try simp only); omega)
  refine Or.inr (Or.inl ⟨rfl, ?_⟩)
  refine w_i2l (npc := 8) rfl ?_
  refine w_ast (i := 104) (k := 3) (n := 1) (npc := 9) rfl (hI4.pl (by decide)) (hI4.T (by decide) rfl) (by decide) (by decide) rfl ?_
  have hI10 := hI4.putl (k := (0 : Int).toNat) (z := z3)
  have hF12 := cm_fr.up (i := 104) (k := (0 : Int).toNat) (v := (4, z3, z3)) hF8 (by first | omega | (simp; done) | (simp; omega) | (simp only; omega))
  have hN13 := hn.wr (i := 104) (k := (0 : Int).toNat) (v := (4, z3, z3)) hN6 (by omega)
  generalize hE11 : cm_up E2 104 ((0 : Int).toNat) ((4, z3, z3)) = E9 at hI10 hF12 hN13 ⊢
  refine w_goto (pt := 15) rfl ?_
  refine w_const (n := 0) (npc := 16) rfl ?_
  exact w_iret rfl (⟨rfl, by omega, by omega, hI10, hF12, hN13, 0, rfl, trivial⟩) (by omega) (by omega)
set_option maxRecDepth 16384 in
theorem ct_lw_page {sl : Int × Int} {x : ai_E} {d : Nat} {T : cm_T} {E : cm_E} {nx : Nat} (p c : Int)  (hI : cs_I T E nx) (hN : hn E) (hp0 : nx ≤ 1000) (hp1 : -2147483648 ≤ c ∧ c ≤ 2147483647) : cm_ct (ai_ev sl (d + 9)) x 133 [cr 0, ai_i p, ai_i c, cr 104] T E nx 6 440 (fun rk rv T' E' nx' => rk = 1 ∧ nx ≤ nx' ∧ nx' ≤ nx + 2 ∧ cs_I T' E' nx' ∧ cm_fr (fun i k => (i < 81 ∧ ¬ (i = 0 ∧ (k = 10 ∨ k = 11 ∨ k = 14)) ∧ ¬ (i = 23 ∧ (k = 8 ∨ k = 9))) ∨ 104 ≤ i) E E' ∧ hn E' ∧ ∃ z : Int, rv = ai_i z ∧ (True)) := by
  refine cm_body (M := ai_m133) rfl rfl (fun kc ks => ?_)
  show cm_wp (ai_find ai_c133 sl) (ai_ev sl (d + 8)) x (kc + 6) (ks + 440) _ 0 [cr 0, ai_i p, ai_i c, cr 104, ai_un] [] T E nx kc ks
  have hF : cm_fr (fun i k => (i < 81 ∧ ¬ (i = 0 ∧ (k = 10 ∨ k = 11 ∨ k = 14)) ∧ ¬ (i = 23 ∧ (k = 8 ∨ k = 9))) ∨ 104 ≤ i) E E := fun _ _ _ => rfl
  refine w_aload (i := 3) (npc := 1) (v := cr 104) rfl rfl rfl ?_
  refine w_const (n := 0) (npc := 2) rfl ?_
  refine w_aload (i := 0) (npc := 3) (v := cr 0) rfl rfl rfl ?_
  refine w_iload (i := 1) (npc := 4) rfl rfl ?_
  refine w_iload (i := 2) (npc := 5) rfl rfl ?_
  refine w_virt (ci := 7) (i := 0) (npc := 8) (a := [cr 0, ai_i p, ai_i c]) (rest := [ai_i 0, cr 104]) rfl rfl (hI.pl (by decide)) (hI.T (by decide) rfl) rfl rfl rfl rfl (ct_c_page (sl := sl) (x := x) (d := d + 0) (p) (c) hI hN (by omega)) (Or.inl rfl) (fun k9 v9 T2 E2 nx2 kc2 ks2 hq1 hk2 hv2 => ?_)
  rcases hq1 with hq1 | hq1
  · obtain ⟨rfl, rfl, rfl, hI4, hG5, hN6, hz3⟩ := hq1
    have hF7 := cm_fr.trans hF hG5 (by intro i k h; (try simp only at h); (try simp only); omega)
    refine Or.inr (Or.inr (Or.inr (Or.inr (Or.inl ⟨rfl, by decide, ?_⟩))))
    refine w_astore (i := 4) (npc := 15) (loc' := [cr 0, ai_i p, ai_i c, cr 104, (7, 0, 0)]) rfl rfl rfl ?_
    refine w_const (n := 1) (npc := 16) rfl ?_
    exact w_iret rfl (⟨rfl, by omega, by omega, hI4, hF7, hN6, 1, rfl, trivial⟩) (by omega) (by omega)
  obtain ⟨rfl, rfl, rfl, hI4, hG5, hN6, z3, rfl, hz3⟩ := hq1
  have hF8 := cm_fr.trans hF hG5 (by intro i k h; (try simp only at h); (try simp only); omega)
  refine Or.inr (Or.inl ⟨rfl, ?_⟩)
  refine w_i2l (npc := 9) rfl ?_
  refine w_ast (i := 104) (k := 3) (n := 1) (npc := 10) rfl (hI4.pl (by decide)) (hI4.T (by decide) rfl) (by decide) (by decide) rfl ?_
  have hI10 := hI4.putl (k := (0 : Int).toNat) (z := z3)
  have hF12 := cm_fr.up (i := 104) (k := (0 : Int).toNat) (v := (4, z3, z3)) hF8 (by first | omega | (simp; done) | (simp; omega) | (simp only; omega))
  have hN13 := hn.wr (i := 104) (k := (0 : Int).toNat) (v := (4, z3, z3)) hN6 (by omega)
  generalize hE11 : cm_up E2 104 ((0 : Int).toNat) ((4, z3, z3)) = E9 at hI10 hF12 hN13 ⊢
  refine w_goto (pt := 17) rfl ?_
  refine w_const (n := 0) (npc := 18) rfl ?_
  exact w_iret rfl (⟨rfl, by omega, by omega, hI10, hF12, hN13, 0, rfl, trivial⟩) (by omega) (by omega)
set_option maxRecDepth 16384 in
theorem ct_lw_text {sl : Int × Int} {x : ai_E} {d : Nat} {T : cm_T} {E : cm_E} {nx : Nat} (p l c : Int)  (hI : cs_I T E nx) (hN : hn E) (hp0 : nx ≤ 1000) (hp1 : -2147483648 ≤ c ∧ c ≤ 2147483647) : cm_ct (ai_ev sl (d + 9)) x 139 [cr 0, ai_i p, ai_i l, ai_i c, cr 104] T E nx 6 440 (fun rk rv T' E' nx' => rk = 1 ∧ nx ≤ nx' ∧ nx' ≤ nx + 2 ∧ cs_I T' E' nx' ∧ cm_fr (fun i k => (i < 81 ∧ ¬ (i = 0 ∧ (k = 10 ∨ k = 11 ∨ k = 14)) ∧ ¬ (i = 23 ∧ (k = 8 ∨ k = 9))) ∨ 104 ≤ i) E E' ∧ hn E' ∧ ∃ z : Int, rv = ai_i z ∧ (True)) := by
  refine cm_body (M := ai_m139) rfl rfl (fun kc ks => ?_)
  show cm_wp (ai_find ai_c139 sl) (ai_ev sl (d + 8)) x (kc + 6) (ks + 440) _ 0 [cr 0, ai_i p, ai_i l, ai_i c, cr 104, ai_un] [] T E nx kc ks
  have hF : cm_fr (fun i k => (i < 81 ∧ ¬ (i = 0 ∧ (k = 10 ∨ k = 11 ∨ k = 14)) ∧ ¬ (i = 23 ∧ (k = 8 ∨ k = 9))) ∨ 104 ≤ i) E E := fun _ _ _ => rfl
  refine w_aload (i := 4) (npc := 2) (v := cr 104) rfl rfl rfl ?_
  refine w_const (n := 0) (npc := 3) rfl ?_
  refine w_aload (i := 0) (npc := 4) (v := cr 0) rfl rfl rfl ?_
  refine w_iload (i := 1) (npc := 5) rfl rfl ?_
  refine w_iload (i := 2) (npc := 6) rfl rfl ?_
  refine w_iload (i := 3) (npc := 7) rfl rfl ?_
  refine w_virt (ci := 7) (i := 0) (npc := 10) (a := [cr 0, ai_i p, ai_i l, ai_i c]) (rest := [ai_i 0, cr 104]) rfl rfl (hI.pl (by decide)) (hI.T (by decide) rfl) rfl rfl rfl rfl (ct_c_text (sl := sl) (x := x) (d := d + 0) (p) (l) (c) hI hN (by omega)) (Or.inl rfl) (fun k9 v9 T2 E2 nx2 kc2 ks2 hq1 hk2 hv2 => ?_)
  rcases hq1 with hq1 | hq1
  · obtain ⟨rfl, rfl, rfl, hI4, hG5, hN6, hz3⟩ := hq1
    have hF7 := cm_fr.trans hF hG5 (by intro i k h; (try simp only at h); (try simp only); omega)
    refine Or.inr (Or.inr (Or.inr (Or.inr (Or.inl ⟨rfl, by decide, ?_⟩))))
    refine w_astore (i := 5) (npc := 17) (loc' := [cr 0, ai_i p, ai_i l, ai_i c, cr 104, (7, 0, 0)]) rfl rfl rfl ?_
    refine w_const (n := 1) (npc := 18) rfl ?_
    exact w_iret rfl (⟨rfl, by omega, by omega, hI4, hF7, hN6, 1, rfl, trivial⟩) (by omega) (by omega)
  obtain ⟨rfl, rfl, rfl, hI4, hG5, hN6, z3, rfl, hz3⟩ := hq1
  have hF8 := cm_fr.trans hF hG5 (by intro i k h; (try simp only at h); (try simp only); omega)
  refine Or.inr (Or.inl ⟨rfl, ?_⟩)
  refine w_i2l (npc := 11) rfl ?_
  refine w_ast (i := 104) (k := 3) (n := 1) (npc := 12) rfl (hI4.pl (by decide)) (hI4.T (by decide) rfl) (by decide) (by decide) rfl ?_
  have hI10 := hI4.putl (k := (0 : Int).toNat) (z := z3)
  have hF12 := cm_fr.up (i := 104) (k := (0 : Int).toNat) (v := (4, z3, z3)) hF8 (by first | omega | (simp; done) | (simp; omega) | (simp only; omega))
  have hN13 := hn.wr (i := 104) (k := (0 : Int).toNat) (v := (4, z3, z3)) hN6 (by omega)
  generalize hE11 : cm_up E2 104 ((0 : Int).toNat) ((4, z3, z3)) = E9 at hI10 hF12 hN13 ⊢
  refine w_goto (pt := 19) rfl ?_
  refine w_const (n := 0) (npc := 20) rfl ?_
  exact w_iret rfl (⟨rfl, by omega, by omega, hI10, hF12, hN13, 0, rfl, trivial⟩) (by omega) (by omega)
set_option maxRecDepth 16384 in
theorem ct_lw_step {sl : Int × Int} {x : ai_E} {d : Nat} {T : cm_T} {E : cm_E} {nx : Nat} (p w n c : Int)  (hI : cs_I T E nx) (hN : hn E) (hp0 : nx ≤ 1000) : cm_ct (ai_ev sl (d + 9)) x 136 [cr 0, ai_i p, ai_i w, ai_i n, ai_i c, cr 104] T E nx 6 440 (fun rk rv T' E' nx' => rk = 1 ∧ nx ≤ nx' ∧ nx' ≤ nx + 2 ∧ cs_I T' E' nx' ∧ cm_fr (fun i k => (i < 81 ∧ ¬ (i = 0 ∧ (k = 10 ∨ k = 11 ∨ k = 14)) ∧ ¬ (i = 23 ∧ (k = 8 ∨ k = 9))) ∨ 104 ≤ i) E E' ∧ hn E' ∧ ∃ z : Int, rv = ai_i z ∧ (True)) := by
  refine cm_body (M := ai_m136) rfl rfl (fun kc ks => ?_)
  show cm_wp (ai_find ai_c136 sl) (ai_ev sl (d + 8)) x (kc + 6) (ks + 440) _ 0 [cr 0, ai_i p, ai_i w, ai_i n, ai_i c, cr 104, ai_un] [] T E nx kc ks
  have hF : cm_fr (fun i k => (i < 81 ∧ ¬ (i = 0 ∧ (k = 10 ∨ k = 11 ∨ k = 14)) ∧ ¬ (i = 23 ∧ (k = 8 ∨ k = 9))) ∨ 104 ≤ i) E E := fun _ _ _ => rfl
  refine w_aload (i := 5) (npc := 2) (v := cr 104) rfl rfl rfl ?_
  refine w_const (n := 0) (npc := 3) rfl ?_
  refine w_aload (i := 0) (npc := 4) (v := cr 0) rfl rfl rfl ?_
  refine w_iload (i := 1) (npc := 5) rfl rfl ?_
  refine w_iload (i := 2) (npc := 6) rfl rfl ?_
  refine w_iload (i := 3) (npc := 7) rfl rfl ?_
  refine w_iload (i := 4) (npc := 9) rfl rfl ?_
  refine w_virt (ci := 7) (i := 0) (npc := 12) (a := [cr 0, ai_i p, ai_i w, ai_i n, ai_i c]) (rest := [ai_i 0, cr 104]) rfl rfl (hI.pl (by decide)) (hI.T (by decide) rfl) rfl rfl rfl rfl (ct_c_step (sl := sl) (x := x) (d := d + 0) (p) (w) (n) (c) hI hN) (Or.inl rfl) (fun k9 v9 T2 E2 nx2 kc2 ks2 hq1 hk2 hv2 => ?_)
  rcases hq1 with hq1 | hq1
  · obtain ⟨rfl, rfl, rfl, hI4, hG5, hN6, hz3⟩ := hq1
    have hF7 := cm_fr.trans hF hG5 (by intro i k h; (try simp only at h); (try simp only); omega)
    refine Or.inr (Or.inr (Or.inr (Or.inr (Or.inl ⟨rfl, by decide, ?_⟩))))
    refine w_astore (i := 6) (npc := 19) (loc' := [cr 0, ai_i p, ai_i w, ai_i n, ai_i c, cr 104, (7, 0, 0)]) rfl rfl rfl ?_
    refine w_const (n := 1) (npc := 20) rfl ?_
    exact w_iret rfl (⟨rfl, by omega, by omega, hI4, hF7, hN6, 1, rfl, trivial⟩) (by omega) (by omega)
  obtain ⟨rfl, rfl, rfl, hI4, hG5, hN6, z3, rfl, hz3⟩ := hq1
  have hF8 := cm_fr.trans hF hG5 (by intro i k h; (try simp only at h); (try simp only); omega)
  refine Or.inr (Or.inl ⟨rfl, ?_⟩)
  refine w_i2l (npc := 13) rfl ?_
  refine w_ast (i := 104) (k := 3) (n := 1) (npc := 14) rfl (hI4.pl (by decide)) (hI4.T (by decide) rfl) (by decide) (by decide) rfl ?_
  have hI10 := hI4.putl (k := (0 : Int).toNat) (z := z3)
  have hF12 := cm_fr.up (i := 104) (k := (0 : Int).toNat) (v := (4, z3, z3)) hF8 (by first | omega | (simp; done) | (simp; omega) | (simp only; omega))
  have hN13 := hn.wr (i := 104) (k := (0 : Int).toNat) (v := (4, z3, z3)) hN6 (by omega)
  generalize hE11 : cm_up E2 104 ((0 : Int).toNat) ((4, z3, z3)) = E9 at hI10 hF12 hN13 ⊢
  refine w_goto (pt := 21) rfl ?_
  refine w_const (n := 0) (npc := 22) rfl ?_
  exact w_iret rfl (⟨rfl, by omega, by omega, hI10, hF12, hN13, 0, rfl, trivial⟩) (by omega) (by omega)
set_option maxRecDepth 16384 in
theorem ct_lw_set {sl : Int × Int} {x : ai_E} {d : Nat} {T : cm_T} {E : cm_E} {nx : Nat} (p l g : Int)  (hI : cs_I T E nx) (hN : hn E) (hp0 : nx ≤ 1000) : cm_ct (ai_ev sl (d + 9)) x 135 [cr 0, ai_i p, ai_i l, ai_i g, cr 104] T E nx 6 440 (fun rk rv T' E' nx' => rk = 1 ∧ nx ≤ nx' ∧ nx' ≤ nx + 2 ∧ cs_I T' E' nx' ∧ cm_fr (fun i k => (i < 81 ∧ ¬ (i = 0 ∧ (k = 10 ∨ k = 11 ∨ k = 14)) ∧ ¬ (i = 23 ∧ (k = 8 ∨ k = 9))) ∨ 104 ≤ i) E E' ∧ hn E' ∧ ∃ z : Int, rv = ai_i z ∧ (True)) := by
  refine cm_body (M := ai_m135) rfl rfl (fun kc ks => ?_)
  show cm_wp (ai_find ai_c135 sl) (ai_ev sl (d + 8)) x (kc + 6) (ks + 440) _ 0 [cr 0, ai_i p, ai_i l, ai_i g, cr 104, ai_un] [] T E nx kc ks
  have hF : cm_fr (fun i k => (i < 81 ∧ ¬ (i = 0 ∧ (k = 10 ∨ k = 11 ∨ k = 14)) ∧ ¬ (i = 23 ∧ (k = 8 ∨ k = 9))) ∨ 104 ≤ i) E E := fun _ _ _ => rfl
  refine w_aload (i := 4) (npc := 2) (v := cr 104) rfl rfl rfl ?_
  refine w_const (n := 0) (npc := 3) rfl ?_
  refine w_aload (i := 0) (npc := 4) (v := cr 0) rfl rfl rfl ?_
  refine w_iload (i := 1) (npc := 5) rfl rfl ?_
  refine w_iload (i := 2) (npc := 6) rfl rfl ?_
  refine w_iload (i := 3) (npc := 7) rfl rfl ?_
  refine w_virt (ci := 7) (i := 0) (npc := 10) (a := [cr 0, ai_i p, ai_i l, ai_i g]) (rest := [ai_i 0, cr 104]) rfl rfl (hI.pl (by decide)) (hI.T (by decide) rfl) rfl rfl rfl rfl (ct_c_set (sl := sl) (x := x) (d := d + 0) (p) (l) (g) hI hN (by omega)) (Or.inl rfl) (fun k9 v9 T2 E2 nx2 kc2 ks2 hq1 hk2 hv2 => ?_)
  rcases hq1 with hq1 | hq1
  · obtain ⟨rfl, hnxz3, hnyz3, hI4, hG5, hN6, hz3⟩ := hq1
    have hF7 := cm_fr.trans hF hG5 (by intro i k h; (try simp only at h); (try simp only); omega)
    refine Or.inr (Or.inr (Or.inr (Or.inr (Or.inl ⟨rfl, by decide, ?_⟩))))
    refine w_astore (i := 5) (npc := 17) (loc' := [cr 0, ai_i p, ai_i l, ai_i g, cr 104, (7, 0, 0)]) rfl rfl rfl ?_
    refine w_const (n := 1) (npc := 18) rfl ?_
    exact w_iret rfl (⟨rfl, by omega, by omega, hI4, hF7, hN6, 1, rfl, trivial⟩) (by omega) (by omega)
  obtain ⟨rfl, hnxz3, hnyz3, hI4, hG5, hN6, z3, rfl, hz3⟩ := hq1
  have hF8 := cm_fr.trans hF hG5 (by intro i k h; (try simp only at h); (try simp only); omega)
  refine Or.inr (Or.inl ⟨rfl, ?_⟩)
  refine w_i2l (npc := 11) rfl ?_
  refine w_ast (i := 104) (k := 3) (n := 1) (npc := 12) rfl (hI4.pl (by decide)) (hI4.T (by decide) rfl) (by decide) (by decide) rfl ?_
  have hI10 := hI4.putl (k := (0 : Int).toNat) (z := z3)
  have hF12 := cm_fr.up (i := 104) (k := (0 : Int).toNat) (v := (4, z3, z3)) hF8 (by first | omega | (simp; done) | (simp; omega) | (simp only; omega))
  have hN13 := hn.wr (i := 104) (k := (0 : Int).toNat) (v := (4, z3, z3)) hN6 (by omega)
  generalize hE11 : cm_up E2 104 ((0 : Int).toNat) ((4, z3, z3)) = E9 at hI10 hF12 hN13 ⊢
  refine w_goto (pt := 19) rfl ?_
  refine w_const (n := 0) (npc := 20) rfl ?_
  exact w_iret rfl (⟨rfl, by omega, by omega, hI10, hF12, hN13, 0, rfl, trivial⟩) (by omega) (by omega)
set_option maxRecDepth 16384 in
theorem ct_lw_strike {sl : Int × Int} {x : ai_E} {d : Nat} {T : cm_T} {E : cm_E} {nx : Nat} (p l : Int)  (hI : cs_I T E nx) (hN : hn E) (hp0 : nx ≤ 1000) : cm_ct (ai_ev sl (d + 9)) x 138 [cr 0, ai_i p, ai_i l, cr 104] T E nx 6 440 (fun rk rv T' E' nx' => rk = 1 ∧ nx ≤ nx' ∧ nx' ≤ nx + 2 ∧ cs_I T' E' nx' ∧ cm_fr (fun i k => (i < 81 ∧ ¬ (i = 0 ∧ (k = 10 ∨ k = 11 ∨ k = 14)) ∧ ¬ (i = 23 ∧ (k = 8 ∨ k = 9))) ∨ 104 ≤ i) E E' ∧ hn E' ∧ ∃ z : Int, rv = ai_i z ∧ (True)) := by
  refine cm_body (M := ai_m138) rfl rfl (fun kc ks => ?_)
  show cm_wp (ai_find ai_c138 sl) (ai_ev sl (d + 8)) x (kc + 6) (ks + 440) _ 0 [cr 0, ai_i p, ai_i l, cr 104, ai_un] [] T E nx kc ks
  have hF : cm_fr (fun i k => (i < 81 ∧ ¬ (i = 0 ∧ (k = 10 ∨ k = 11 ∨ k = 14)) ∧ ¬ (i = 23 ∧ (k = 8 ∨ k = 9))) ∨ 104 ≤ i) E E := fun _ _ _ => rfl
  refine w_aload (i := 3) (npc := 1) (v := cr 104) rfl rfl rfl ?_
  refine w_const (n := 0) (npc := 2) rfl ?_
  refine w_aload (i := 0) (npc := 3) (v := cr 0) rfl rfl rfl ?_
  refine w_iload (i := 1) (npc := 4) rfl rfl ?_
  refine w_iload (i := 2) (npc := 5) rfl rfl ?_
  refine w_virt (ci := 7) (i := 0) (npc := 8) (a := [cr 0, ai_i p, ai_i l]) (rest := [ai_i 0, cr 104]) rfl rfl (hI.pl (by decide)) (hI.T (by decide) rfl) rfl rfl rfl rfl (ct_c_strike (sl := sl) (x := x) (d := d + 0) (p) (l) hI hN (by omega)) (Or.inl rfl) (fun k9 v9 T2 E2 nx2 kc2 ks2 hq1 hk2 hv2 => ?_)
  rcases hq1 with hq1 | hq1
  · obtain ⟨rfl, hnxz3, hnyz3, hI4, hG5, hN6, hz3⟩ := hq1
    have hF7 := cm_fr.trans hF hG5 (by intro i k h; (try simp only at h); (try simp only); omega)
    refine Or.inr (Or.inr (Or.inr (Or.inr (Or.inl ⟨rfl, by decide, ?_⟩))))
    refine w_astore (i := 4) (npc := 15) (loc' := [cr 0, ai_i p, ai_i l, cr 104, (7, 0, 0)]) rfl rfl rfl ?_
    refine w_const (n := 1) (npc := 16) rfl ?_
    exact w_iret rfl (⟨rfl, by omega, by omega, hI4, hF7, hN6, 1, rfl, trivial⟩) (by omega) (by omega)
  obtain ⟨rfl, hnxz3, hnyz3, hI4, hG5, hN6, z3, rfl, hz3⟩ := hq1
  have hF8 := cm_fr.trans hF hG5 (by intro i k h; (try simp only at h); (try simp only); omega)
  refine Or.inr (Or.inl ⟨rfl, ?_⟩)
  refine w_i2l (npc := 9) rfl ?_
  refine w_ast (i := 104) (k := 3) (n := 1) (npc := 10) rfl (hI4.pl (by decide)) (hI4.T (by decide) rfl) (by decide) (by decide) rfl ?_
  have hI10 := hI4.putl (k := (0 : Int).toNat) (z := z3)
  have hF12 := cm_fr.up (i := 104) (k := (0 : Int).toNat) (v := (4, z3, z3)) hF8 (by first | omega | (simp; done) | (simp; omega) | (simp only; omega))
  have hN13 := hn.wr (i := 104) (k := (0 : Int).toNat) (v := (4, z3, z3)) hN6 (by omega)
  generalize hE11 : cm_up E2 104 ((0 : Int).toNat) ((4, z3, z3)) = E9 at hI10 hF12 hN13 ⊢
  refine w_goto (pt := 17) rfl ?_
  refine w_const (n := 0) (npc := 18) rfl ?_
  exact w_iret rfl (⟨rfl, by omega, by omega, hI10, hF12, hN13, 0, rfl, trivial⟩) (by omega) (by omega)
set_option maxRecDepth 16384 in
theorem ct_lw_undo {sl : Int × Int} {x : ai_E} {d : Nat} {T : cm_T} {E : cm_E} {nx : Nat} (p n : Int)  (hI : cs_I T E nx) (hN : hn E) (hp0 : nx ≤ 1000) : cm_ct (ai_ev sl (d + 9)) x 140 [cr 0, ai_i p, ai_i n, cr 104] T E nx 6 440 (fun rk rv T' E' nx' => rk = 1 ∧ nx ≤ nx' ∧ nx' ≤ nx + 2 ∧ cs_I T' E' nx' ∧ cm_fr (fun i k => (i < 81 ∧ ¬ (i = 0 ∧ (k = 10 ∨ k = 11 ∨ k = 14)) ∧ ¬ (i = 23 ∧ (k = 8 ∨ k = 9))) ∨ 104 ≤ i) E E' ∧ hn E' ∧ ∃ z : Int, rv = ai_i z ∧ (True)) := by
  refine cm_body (M := ai_m140) rfl rfl (fun kc ks => ?_)
  show cm_wp (ai_find ai_c140 sl) (ai_ev sl (d + 8)) x (kc + 6) (ks + 440) _ 0 [cr 0, ai_i p, ai_i n, cr 104, ai_un] [] T E nx kc ks
  have hF : cm_fr (fun i k => (i < 81 ∧ ¬ (i = 0 ∧ (k = 10 ∨ k = 11 ∨ k = 14)) ∧ ¬ (i = 23 ∧ (k = 8 ∨ k = 9))) ∨ 104 ≤ i) E E := fun _ _ _ => rfl
  refine w_aload (i := 3) (npc := 1) (v := cr 104) rfl rfl rfl ?_
  refine w_const (n := 0) (npc := 2) rfl ?_
  refine w_aload (i := 0) (npc := 3) (v := cr 0) rfl rfl rfl ?_
  refine w_iload (i := 1) (npc := 4) rfl rfl ?_
  refine w_iload (i := 2) (npc := 5) rfl rfl ?_
  refine w_virt (ci := 7) (i := 0) (npc := 8) (a := [cr 0, ai_i p, ai_i n]) (rest := [ai_i 0, cr 104]) rfl rfl (hI.pl (by decide)) (hI.T (by decide) rfl) rfl rfl rfl rfl (ct_c_undo (sl := sl) (x := x) (d := d + 0) (p) (n) hI hN (by omega)) (Or.inl rfl) (fun k9 v9 T2 E2 nx2 kc2 ks2 hq1 hk2 hv2 => ?_)
  rcases hq1 with hq1 | hq1
  · obtain ⟨rfl, hnxz3, hnyz3, hI4, hG5, hN6, hz3⟩ := hq1
    have hF7 := cm_fr.trans hF hG5 (by intro i k h; (try simp only at h); (try simp only); omega)
    refine Or.inr (Or.inr (Or.inr (Or.inr (Or.inl ⟨rfl, by decide, ?_⟩))))
    refine w_astore (i := 4) (npc := 15) (loc' := [cr 0, ai_i p, ai_i n, cr 104, (7, 0, 0)]) rfl rfl rfl ?_
    refine w_const (n := 1) (npc := 16) rfl ?_
    exact w_iret rfl (⟨rfl, by omega, by omega, hI4, hF7, hN6, 1, rfl, trivial⟩) (by omega) (by omega)
  obtain ⟨rfl, hnxz3, hnyz3, hI4, hG5, hN6, z3, rfl, hz3⟩ := hq1
  have hF8 := cm_fr.trans hF hG5 (by intro i k h; (try simp only at h); (try simp only); omega)
  refine Or.inr (Or.inl ⟨rfl, ?_⟩)
  refine w_i2l (npc := 9) rfl ?_
  refine w_ast (i := 104) (k := 3) (n := 1) (npc := 10) rfl (hI4.pl (by decide)) (hI4.T (by decide) rfl) (by decide) (by decide) rfl ?_
  have hI10 := hI4.putl (k := (0 : Int).toNat) (z := z3)
  have hF12 := cm_fr.up (i := 104) (k := (0 : Int).toNat) (v := (4, z3, z3)) hF8 (by first | omega | (simp; done) | (simp; omega) | (simp only; omega))
  have hN13 := hn.wr (i := 104) (k := (0 : Int).toNat) (v := (4, z3, z3)) hN6 (by omega)
  generalize hE11 : cm_up E2 104 ((0 : Int).toNat) ((4, z3, z3)) = E9 at hI10 hF12 hN13 ⊢
  refine w_goto (pt := 17) rfl ?_
  refine w_const (n := 0) (npc := 18) rfl ?_
  exact w_iret rfl (⟨rfl, by omega, by omega, hI10, hF12, hN13, 0, rfl, trivial⟩) (by omega) (by omega)
set_option maxRecDepth 16384 in
theorem ct_lw_move {sl : Int × Int} {x : ai_E} {d : Nat} {T : cm_T} {E : cm_E} {nx : Nat} (p f t a : Int)  (hI : cs_I T E nx) (hN : hn E) (hp0 : nx ≤ 1000) : cm_ct (ai_ev sl (d + 9)) x 131 [cr 0, ai_i p, ai_i f, ai_i t, ai_i a, cr 104] T E nx 6 440 (fun rk rv T' E' nx' => rk = 1 ∧ nx ≤ nx' ∧ nx' ≤ nx + 2 ∧ cs_I T' E' nx' ∧ cm_fr (fun i k => (i < 81 ∧ ¬ (i = 0 ∧ (k = 10 ∨ k = 11 ∨ k = 14)) ∧ ¬ (i = 23 ∧ (k = 8 ∨ k = 9))) ∨ 104 ≤ i) E E' ∧ hn E' ∧ ∃ z : Int, rv = ai_i z ∧ (True)) := by
  refine cm_body (M := ai_m131) rfl rfl (fun kc ks => ?_)
  show cm_wp (ai_find ai_c131 sl) (ai_ev sl (d + 8)) x (kc + 6) (ks + 440) _ 0 [cr 0, ai_i p, ai_i f, ai_i t, ai_i a, cr 104, ai_un] [] T E nx kc ks
  have hF : cm_fr (fun i k => (i < 81 ∧ ¬ (i = 0 ∧ (k = 10 ∨ k = 11 ∨ k = 14)) ∧ ¬ (i = 23 ∧ (k = 8 ∨ k = 9))) ∨ 104 ≤ i) E E := fun _ _ _ => rfl
  refine w_aload (i := 5) (npc := 2) (v := cr 104) rfl rfl rfl ?_
  refine w_const (n := 0) (npc := 3) rfl ?_
  refine w_aload (i := 0) (npc := 4) (v := cr 0) rfl rfl rfl ?_
  refine w_iload (i := 1) (npc := 5) rfl rfl ?_
  refine w_iload (i := 2) (npc := 6) rfl rfl ?_
  refine w_iload (i := 3) (npc := 7) rfl rfl ?_
  refine w_iload (i := 4) (npc := 9) rfl rfl ?_
  refine w_virt (ci := 7) (i := 0) (npc := 12) (a := [cr 0, ai_i p, ai_i f, ai_i t, ai_i a]) (rest := [ai_i 0, cr 104]) rfl rfl (hI.pl (by decide)) (hI.T (by decide) rfl) rfl rfl rfl rfl (ct_c_move (sl := sl) (x := x) (d := d + 0) (p) (f) (t) (a) hI hN (by omega)) (Or.inl rfl) (fun k9 v9 T2 E2 nx2 kc2 ks2 hq1 hk2 hv2 => ?_)
  rcases hq1 with hq1 | hq1
  · obtain ⟨rfl, hnxz3, hnyz3, hI4, hG5, hN6, hz3⟩ := hq1
    have hF7 := cm_fr.trans hF hG5 (by intro i k h; (try simp only at h); (try simp only); omega)
    refine Or.inr (Or.inr (Or.inr (Or.inr (Or.inl ⟨rfl, by decide, ?_⟩))))
    refine w_astore (i := 6) (npc := 19) (loc' := [cr 0, ai_i p, ai_i f, ai_i t, ai_i a, cr 104, (7, 0, 0)]) rfl rfl rfl ?_
    refine w_const (n := 1) (npc := 20) rfl ?_
    exact w_iret rfl (⟨rfl, by omega, by omega, hI4, hF7, hN6, 1, rfl, trivial⟩) (by omega) (by omega)
  obtain ⟨rfl, hnxz3, hnyz3, hI4, hG5, hN6, z3, rfl, hz3⟩ := hq1
  have hF8 := cm_fr.trans hF hG5 (by intro i k h; (try simp only at h); (try simp only); omega)
  refine Or.inr (Or.inl ⟨rfl, ?_⟩)
  refine w_i2l (npc := 13) rfl ?_
  refine w_ast (i := 104) (k := 3) (n := 1) (npc := 14) rfl (hI4.pl (by decide)) (hI4.T (by decide) rfl) (by decide) (by decide) rfl ?_
  have hI10 := hI4.putl (k := (0 : Int).toNat) (z := z3)
  have hF12 := cm_fr.up (i := 104) (k := (0 : Int).toNat) (v := (4, z3, z3)) hF8 (by first | omega | (simp; done) | (simp; omega) | (simp only; omega))
  have hN13 := hn.wr (i := 104) (k := (0 : Int).toNat) (v := (4, z3, z3)) hN6 (by omega)
  generalize hE11 : cm_up E2 104 ((0 : Int).toNat) ((4, z3, z3)) = E9 at hI10 hF12 hN13 ⊢
  refine w_goto (pt := 21) rfl ?_
  refine w_const (n := 0) (npc := 22) rfl ?_
  exact w_iret rfl (⟨rfl, by omega, by omega, hI10, hF12, hN13, 0, rfl, trivial⟩) (by omega) (by omega)
set_option maxRecDepth 16384 in
theorem ct_lw_packet {sl : Int × Int} {x : ai_E} {d : Nat} {T : cm_T} {E : cm_E} {nx : Nat} (p w n j : Int)  (hI : cs_I T E nx) (hN : hn E) (hp0 : nx ≤ 1000) : cm_ct (ai_ev sl (d + 5)) x 132 [cr 0, ai_i p, ai_i w, ai_i n, ai_i j, cr 104] T E nx 6 440 (fun rk rv T' E' nx' => rk = 1 ∧ nx ≤ nx' ∧ nx' ≤ nx + 2 ∧ cs_I T' E' nx' ∧ cm_fr (fun i k => (i < 81 ∧ ¬ (i = 0 ∧ (k = 10 ∨ k = 11 ∨ k = 14)) ∧ ¬ (i = 23 ∧ (k = 8 ∨ k = 9))) ∨ 104 ≤ i) E E' ∧ hn E' ∧ ∃ z : Int, rv = ai_i z ∧ (True)) := by
  refine cm_body (M := ai_m132) rfl rfl (fun kc ks => ?_)
  show cm_wp (ai_find ai_c132 sl) (ai_ev sl (d + 4)) x (kc + 6) (ks + 440) _ 0 [cr 0, ai_i p, ai_i w, ai_i n, ai_i j, cr 104, ai_un] [] T E nx kc ks
  have hF : cm_fr (fun i k => (i < 81 ∧ ¬ (i = 0 ∧ (k = 10 ∨ k = 11 ∨ k = 14)) ∧ ¬ (i = 23 ∧ (k = 8 ∨ k = 9))) ∨ 104 ≤ i) E E := fun _ _ _ => rfl
  refine w_aload (i := 5) (npc := 2) (v := cr 104) rfl rfl rfl ?_
  refine w_const (n := 0) (npc := 3) rfl ?_
  refine w_aload (i := 0) (npc := 4) (v := cr 0) rfl rfl rfl ?_
  refine w_iload (i := 1) (npc := 5) rfl rfl ?_
  refine w_iload (i := 2) (npc := 6) rfl rfl ?_
  refine w_iload (i := 3) (npc := 7) rfl rfl ?_
  refine w_iload (i := 4) (npc := 9) rfl rfl ?_
  refine w_virt (ci := 7) (i := 0) (npc := 12) (a := [cr 0, ai_i p, ai_i w, ai_i n, ai_i j]) (rest := [ai_i 0, cr 104]) rfl rfl (hI.pl (by decide)) (hI.T (by decide) rfl) rfl rfl rfl rfl (ct_c_packet (sl := sl) (x := x) (d := d + 0) (p) (w) (n) (j) hI hN) (Or.inl rfl) (fun k9 v9 T2 E2 nx2 kc2 ks2 hq1 hk2 hv2 => ?_)
  rcases hq1 with hq1 | hq1
  · obtain ⟨rfl, rfl, rfl, hI4, hG5, hN6, hz3⟩ := hq1
    have hF7 := cm_fr.trans hF hG5 (by intro i k h; (try simp only at h); (try simp only); omega)
    refine Or.inr (Or.inr (Or.inr (Or.inr (Or.inl ⟨rfl, by decide, ?_⟩))))
    refine w_astore (i := 6) (npc := 19) (loc' := [cr 0, ai_i p, ai_i w, ai_i n, ai_i j, cr 104, (7, 0, 0)]) rfl rfl rfl ?_
    refine w_const (n := 1) (npc := 20) rfl ?_
    exact w_iret rfl (⟨rfl, by omega, by omega, hI4, hF7, hN6, 1, rfl, trivial⟩) (by omega) (by omega)
  obtain ⟨rfl, rfl, rfl, hI4, hG5, hN6, z3, rfl, hz3⟩ := hq1
  have hF8 := cm_fr.trans hF hG5 (by intro i k h; (try simp only at h); (try simp only); omega)
  refine Or.inr (Or.inl ⟨rfl, ?_⟩)
  refine w_i2l (npc := 13) rfl ?_
  refine w_ast (i := 104) (k := 3) (n := 1) (npc := 14) rfl (hI4.pl (by decide)) (hI4.T (by decide) rfl) (by decide) (by decide) rfl ?_
  have hI10 := hI4.putl (k := (0 : Int).toNat) (z := z3)
  have hF12 := cm_fr.up (i := 104) (k := (0 : Int).toNat) (v := (4, z3, z3)) hF8 (by first | omega | (simp; done) | (simp; omega) | (simp only; omega))
  have hN13 := hn.wr (i := 104) (k := (0 : Int).toNat) (v := (4, z3, z3)) hN6 (by omega)
  generalize hE11 : cm_up E2 104 ((0 : Int).toNat) ((4, z3, z3)) = E9 at hI10 hF12 hN13 ⊢
  refine w_goto (pt := 21) rfl ?_
  refine w_const (n := 0) (npc := 22) rfl ?_
  exact w_iret rfl (⟨rfl, by omega, by omega, hI10, hF12, hN13, 0, rfl, trivial⟩) (by omega) (by omega)
set_option maxRecDepth 16384 in
theorem ct_lw_send {sl : Int × Int} {x : ai_E} {d : Nat} {T : cm_T} {E : cm_E} {nx : Nat} (p o w n : Int)  (hI : cs_I T E nx) (hN : hn E) (hp0 : nx ≤ 1000) : cm_ct (ai_ev sl (d + 8)) x 134 [cr 0, ai_i p, ai_i o, ai_i w, ai_i n, cr 104] T E nx 6 440 (fun rk rv T' E' nx' => rk = 1 ∧ nx ≤ nx' ∧ nx' ≤ nx + 2 ∧ cs_I T' E' nx' ∧ cm_fr (fun i k => (i < 81 ∧ ¬ (i = 0 ∧ (k = 10 ∨ k = 11 ∨ k = 14)) ∧ ¬ (i = 23 ∧ (k = 8 ∨ k = 9))) ∨ 104 ≤ i) E E' ∧ hn E' ∧ ∃ z : Int, rv = ai_i z ∧ (True)) := by
  refine cm_body (M := ai_m134) rfl rfl (fun kc ks => ?_)
  show cm_wp (ai_find ai_c134 sl) (ai_ev sl (d + 7)) x (kc + 6) (ks + 440) _ 0 [cr 0, ai_i p, ai_i o, ai_i w, ai_i n, cr 104, ai_un] [] T E nx kc ks
  have hF : cm_fr (fun i k => (i < 81 ∧ ¬ (i = 0 ∧ (k = 10 ∨ k = 11 ∨ k = 14)) ∧ ¬ (i = 23 ∧ (k = 8 ∨ k = 9))) ∨ 104 ≤ i) E E := fun _ _ _ => rfl
  refine w_aload (i := 5) (npc := 2) (v := cr 104) rfl rfl rfl ?_
  refine w_const (n := 0) (npc := 3) rfl ?_
  refine w_aload (i := 0) (npc := 4) (v := cr 0) rfl rfl rfl ?_
  refine w_iload (i := 1) (npc := 5) rfl rfl ?_
  refine w_iload (i := 2) (npc := 6) rfl rfl ?_
  refine w_iload (i := 3) (npc := 7) rfl rfl ?_
  refine w_iload (i := 4) (npc := 9) rfl rfl ?_
  refine w_virt (ci := 7) (i := 0) (npc := 12) (a := [cr 0, ai_i p, ai_i o, ai_i w, ai_i n]) (rest := [ai_i 0, cr 104]) rfl rfl (hI.pl (by decide)) (hI.T (by decide) rfl) rfl rfl rfl rfl (ct_c_send (sl := sl) (x := x) (d := d + 0) (p) (o) (w) (n) hI hN) (Or.inl rfl) (fun k9 v9 T2 E2 nx2 kc2 ks2 hq1 hk2 hv2 => ?_)
  rcases hq1 with hq1 | hq1
  · obtain ⟨rfl, rfl, rfl, hI4, hG5, hN6, hz3⟩ := hq1
    have hF7 := cm_fr.trans hF hG5 (by intro i k h; (try simp only at h); (try simp only); omega)
    refine Or.inr (Or.inr (Or.inr (Or.inr (Or.inl ⟨rfl, by decide, ?_⟩))))
    refine w_astore (i := 6) (npc := 19) (loc' := [cr 0, ai_i p, ai_i o, ai_i w, ai_i n, cr 104, (7, 0, 0)]) rfl rfl rfl ?_
    refine w_const (n := 1) (npc := 20) rfl ?_
    exact w_iret rfl (⟨rfl, by omega, by omega, hI4, hF7, hN6, 1, rfl, trivial⟩) (by omega) (by omega)
  obtain ⟨rfl, rfl, rfl, hI4, hG5, hN6, z3, rfl, hz3⟩ := hq1
  have hF8 := cm_fr.trans hF hG5 (by intro i k h; (try simp only at h); (try simp only); omega)
  refine Or.inr (Or.inl ⟨rfl, ?_⟩)
  refine w_i2l (npc := 13) rfl ?_
  refine w_ast (i := 104) (k := 3) (n := 1) (npc := 14) rfl (hI4.pl (by decide)) (hI4.T (by decide) rfl) (by decide) (by decide) rfl ?_
  have hI10 := hI4.putl (k := (0 : Int).toNat) (z := z3)
  have hF12 := cm_fr.up (i := 104) (k := (0 : Int).toNat) (v := (4, z3, z3)) hF8 (by first | omega | (simp; done) | (simp; omega) | (simp only; omega))
  have hN13 := hn.wr (i := 104) (k := (0 : Int).toNat) (v := (4, z3, z3)) hN6 (by omega)
  generalize hE11 : cm_up E2 104 ((0 : Int).toNat) ((4, z3, z3)) = E9 at hI10 hF12 hN13 ⊢
  refine w_goto (pt := 21) rfl ?_
  refine w_const (n := 0) (npc := 22) rfl ?_
  exact w_iret rfl (⟨rfl, by omega, by omega, hI10, hF12, hN13, 0, rfl, trivial⟩) (by omega) (by omega)
set_option maxRecDepth 16384 in
theorem ct_lw_lacks {sl : Int × Int} {x : ai_E} {d : Nat} {T : cm_T} {E : cm_E} {nx : Nat} (p o j : Int)  (hI : cs_I T E nx) (hN : hn E) (hp0 : nx ≤ 1000) : cm_ct (ai_ev sl (d + 5)) x 130 [cr 0, ai_i p, ai_i o, ai_i j, cr 104] T E nx 6 440 (fun rk rv T' E' nx' => rk = 1 ∧ nx ≤ nx' ∧ nx' ≤ nx + 2 ∧ cs_I T' E' nx' ∧ cm_fr (fun i k => (i < 81 ∧ ¬ (i = 0 ∧ (k = 10 ∨ k = 11 ∨ k = 14)) ∧ ¬ (i = 23 ∧ (k = 8 ∨ k = 9))) ∨ 104 ≤ i) E E' ∧ hn E' ∧ ∃ z : Int, rv = ai_i z ∧ (True)) := by
  refine cm_body (M := ai_m130) rfl rfl (fun kc ks => ?_)
  show cm_wp (ai_find ai_c130 sl) (ai_ev sl (d + 4)) x (kc + 6) (ks + 440) _ 0 [cr 0, ai_i p, ai_i o, ai_i j, cr 104, ai_un] [] T E nx kc ks
  have hF : cm_fr (fun i k => (i < 81 ∧ ¬ (i = 0 ∧ (k = 10 ∨ k = 11 ∨ k = 14)) ∧ ¬ (i = 23 ∧ (k = 8 ∨ k = 9))) ∨ 104 ≤ i) E E := fun _ _ _ => rfl
  refine w_aload (i := 4) (npc := 2) (v := cr 104) rfl rfl rfl ?_
  refine w_const (n := 0) (npc := 3) rfl ?_
  refine w_aload (i := 0) (npc := 4) (v := cr 0) rfl rfl rfl ?_
  refine w_iload (i := 1) (npc := 5) rfl rfl ?_
  refine w_iload (i := 2) (npc := 6) rfl rfl ?_
  refine w_iload (i := 3) (npc := 7) rfl rfl ?_
  refine w_virt (ci := 7) (i := 0) (npc := 10) (a := [cr 0, ai_i p, ai_i o, ai_i j]) (rest := [ai_i 0, cr 104]) rfl rfl (hI.pl (by decide)) (hI.T (by decide) rfl) rfl rfl rfl rfl (ct_c_lacks (sl := sl) (x := x) (d := d + 0) (p) (o) (j) hI hN) (Or.inl rfl) (fun k9 v9 T2 E2 nx2 kc2 ks2 hq1 hk2 hv2 => ?_)
  rcases hq1 with hq1 | hq1
  · obtain ⟨rfl, rfl, rfl, hI4, hG5, hN6, hz3⟩ := hq1
    have hF7 := cm_fr.trans hF hG5 (by intro i k h; (try simp only at h); (try simp only); omega)
    refine Or.inr (Or.inr (Or.inr (Or.inr (Or.inl ⟨rfl, by decide, ?_⟩))))
    refine w_astore (i := 5) (npc := 17) (loc' := [cr 0, ai_i p, ai_i o, ai_i j, cr 104, (7, 0, 0)]) rfl rfl rfl ?_
    refine w_const (n := 1) (npc := 18) rfl ?_
    exact w_iret rfl (⟨rfl, by omega, by omega, hI4, hF7, hN6, 1, rfl, trivial⟩) (by omega) (by omega)
  obtain ⟨rfl, rfl, rfl, hI4, hG5, hN6, z3, rfl, hz3⟩ := hq1
  have hF8 := cm_fr.trans hF hG5 (by intro i k h; (try simp only at h); (try simp only); omega)
  refine Or.inr (Or.inl ⟨rfl, ?_⟩)
  refine w_i2l (npc := 11) rfl ?_
  refine w_ast (i := 104) (k := 3) (n := 1) (npc := 12) rfl (hI4.pl (by decide)) (hI4.T (by decide) rfl) (by decide) (by decide) rfl ?_
  have hI10 := hI4.putl (k := (0 : Int).toNat) (z := z3)
  have hF12 := cm_fr.up (i := 104) (k := (0 : Int).toNat) (v := (4, z3, z3)) hF8 (by first | omega | (simp; done) | (simp; omega) | (simp only; omega))
  have hN13 := hn.wr (i := 104) (k := (0 : Int).toNat) (v := (4, z3, z3)) hN6 (by omega)
  generalize hE11 : cm_up E2 104 ((0 : Int).toNat) ((4, z3, z3)) = E9 at hI10 hF12 hN13 ⊢
  refine w_goto (pt := 19) rfl ?_
  refine w_const (n := 0) (npc := 20) rfl ?_
  exact w_iret rfl (⟨rfl, by omega, by omega, hI10, hF12, hN13, 0, rfl, trivial⟩) (by omega) (by omega)
set_option maxRecDepth 16384 in
theorem ct_lw_fewest {sl : Int × Int} {x : ai_E} {d : Nat} {T : cm_T} {E : cm_E} {nx : Nat} (p o : Int)  (hI : cs_I T E nx) (hN : hn E) (hp0 : nx ≤ 1000) : cm_ct (ai_ev sl (d + 5)) x 127 [cr 0, ai_i p, ai_i o, cr 104] T E nx 6 440 (fun rk rv T' E' nx' => rk = 1 ∧ nx ≤ nx' ∧ nx' ≤ nx + 2 ∧ cs_I T' E' nx' ∧ cm_fr (fun i k => (i < 81 ∧ ¬ (i = 0 ∧ (k = 10 ∨ k = 11 ∨ k = 14)) ∧ ¬ (i = 23 ∧ (k = 8 ∨ k = 9))) ∨ 104 ≤ i) E E' ∧ hn E' ∧ ∃ z : Int, rv = ai_i z ∧ (True)) := by
  refine cm_body (M := ai_m127) rfl rfl (fun kc ks => ?_)
  show cm_wp (ai_find ai_c127 sl) (ai_ev sl (d + 4)) x (kc + 6) (ks + 440) _ 0 [cr 0, ai_i p, ai_i o, cr 104, ai_un] [] T E nx kc ks
  have hF : cm_fr (fun i k => (i < 81 ∧ ¬ (i = 0 ∧ (k = 10 ∨ k = 11 ∨ k = 14)) ∧ ¬ (i = 23 ∧ (k = 8 ∨ k = 9))) ∨ 104 ≤ i) E E := fun _ _ _ => rfl
  refine w_aload (i := 3) (npc := 1) (v := cr 104) rfl rfl rfl ?_
  refine w_const (n := 0) (npc := 2) rfl ?_
  refine w_aload (i := 0) (npc := 3) (v := cr 0) rfl rfl rfl ?_
  refine w_iload (i := 1) (npc := 4) rfl rfl ?_
  refine w_iload (i := 2) (npc := 5) rfl rfl ?_
  refine w_virt (ci := 7) (i := 0) (npc := 8) (a := [cr 0, ai_i p, ai_i o]) (rest := [ai_i 0, cr 104]) rfl rfl (hI.pl (by decide)) (hI.T (by decide) rfl) rfl rfl rfl rfl (ct_c_fewest (sl := sl) (x := x) (d := d + 0) (p) (o) hI hN) (Or.inl rfl) (fun k9 v9 T2 E2 nx2 kc2 ks2 hq1 hk2 hv2 => ?_)
  rcases hq1 with hq1 | hq1
  · obtain ⟨rfl, rfl, rfl, hI4, hG5, hN6, hz3⟩ := hq1
    have hF7 := cm_fr.trans hF hG5 (by intro i k h; (try simp only at h); (try simp only); omega)
    refine Or.inr (Or.inr (Or.inr (Or.inr (Or.inl ⟨rfl, by decide, ?_⟩))))
    refine w_astore (i := 4) (npc := 15) (loc' := [cr 0, ai_i p, ai_i o, cr 104, (7, 0, 0)]) rfl rfl rfl ?_
    refine w_const (n := 1) (npc := 16) rfl ?_
    exact w_iret rfl (⟨rfl, by omega, by omega, hI4, hF7, hN6, 1, rfl, trivial⟩) (by omega) (by omega)
  obtain ⟨rfl, rfl, rfl, hI4, hG5, hN6, z3, rfl, hz3⟩ := hq1
  have hF8 := cm_fr.trans hF hG5 (by intro i k h; (try simp only at h); (try simp only); omega)
  refine Or.inr (Or.inl ⟨rfl, ?_⟩)
  refine w_i2l (npc := 9) rfl ?_
  refine w_ast (i := 104) (k := 3) (n := 1) (npc := 10) rfl (hI4.pl (by decide)) (hI4.T (by decide) rfl) (by decide) (by decide) rfl ?_
  have hI10 := hI4.putl (k := (0 : Int).toNat) (z := z3)
  have hF12 := cm_fr.up (i := 104) (k := (0 : Int).toNat) (v := (4, z3, z3)) hF8 (by first | omega | (simp; done) | (simp; omega) | (simp only; omega))
  have hN13 := hn.wr (i := 104) (k := (0 : Int).toNat) (v := (4, z3, z3)) hN6 (by omega)
  generalize hE11 : cm_up E2 104 ((0 : Int).toNat) ((4, z3, z3)) = E9 at hI10 hF12 hN13 ⊢
  refine w_goto (pt := 17) rfl ?_
  refine w_const (n := 0) (npc := 18) rfl ?_
  exact w_iret rfl (⟨rfl, by omega, by omega, hI10, hF12, hN13, 0, rfl, trivial⟩) (by omega) (by omega)
set_option maxRecDepth 16384 in
theorem ct_lw_alike {sl : Int × Int} {x : ai_E} {d : Nat} {T : cm_T} {E : cm_E} {nx : Nat} (p o : Int)  (hI : cs_I T E nx) (hN : hn E) (hp0 : nx ≤ 1000) : cm_ct (ai_ev sl (d + 5)) x 125 [cr 0, ai_i p, ai_i o, cr 104] T E nx 6 440 (fun rk rv T' E' nx' => rk = 1 ∧ nx ≤ nx' ∧ nx' ≤ nx + 2 ∧ cs_I T' E' nx' ∧ cm_fr (fun i k => (i < 81 ∧ ¬ (i = 0 ∧ (k = 10 ∨ k = 11 ∨ k = 14)) ∧ ¬ (i = 23 ∧ (k = 8 ∨ k = 9))) ∨ 104 ≤ i) E E' ∧ hn E' ∧ ∃ z : Int, rv = ai_i z ∧ (True)) := by
  refine cm_body (M := ai_m125) rfl rfl (fun kc ks => ?_)
  show cm_wp (ai_find ai_c125 sl) (ai_ev sl (d + 4)) x (kc + 6) (ks + 440) _ 0 [cr 0, ai_i p, ai_i o, cr 104, ai_un] [] T E nx kc ks
  have hF : cm_fr (fun i k => (i < 81 ∧ ¬ (i = 0 ∧ (k = 10 ∨ k = 11 ∨ k = 14)) ∧ ¬ (i = 23 ∧ (k = 8 ∨ k = 9))) ∨ 104 ≤ i) E E := fun _ _ _ => rfl
  refine w_aload (i := 3) (npc := 1) (v := cr 104) rfl rfl rfl ?_
  refine w_const (n := 0) (npc := 2) rfl ?_
  refine w_aload (i := 0) (npc := 3) (v := cr 0) rfl rfl rfl ?_
  refine w_iload (i := 1) (npc := 4) rfl rfl ?_
  refine w_iload (i := 2) (npc := 5) rfl rfl ?_
  refine w_virt (ci := 7) (i := 0) (npc := 8) (a := [cr 0, ai_i p, ai_i o]) (rest := [ai_i 0, cr 104]) rfl rfl (hI.pl (by decide)) (hI.T (by decide) rfl) rfl rfl rfl rfl (ct_c_alike (sl := sl) (x := x) (d := d + 0) (p) (o) hI hN) (Or.inl rfl) (fun k9 v9 T2 E2 nx2 kc2 ks2 hq1 hk2 hv2 => ?_)
  rcases hq1 with hq1 | hq1
  · obtain ⟨rfl, rfl, rfl, hI4, hG5, hN6, hz3⟩ := hq1
    have hF7 := cm_fr.trans hF hG5 (by intro i k h; (try simp only at h); (try simp only); omega)
    refine Or.inr (Or.inr (Or.inr (Or.inr (Or.inl ⟨rfl, by decide, ?_⟩))))
    refine w_astore (i := 4) (npc := 22) (loc' := [cr 0, ai_i p, ai_i o, cr 104, (7, 0, 0)]) rfl rfl rfl ?_
    refine w_const (n := 1) (npc := 23) rfl ?_
    exact w_iret rfl (⟨rfl, by omega, by omega, hI4, hF7, hN6, 1, rfl, trivial⟩) (by omega) (by omega)
  obtain ⟨rfl, rfl, rfl, hI4, hG5, hN6, z3, rfl, hz3⟩ := hq1
  have hF8 := cm_fr.trans hF hG5 (by intro i k h; (try simp only at h); (try simp only); omega)
  refine Or.inr (Or.inl ⟨rfl, ?_⟩)
  refine w_if (c := .eq) (npc := 11) (pt := 15) rfl (fun hc9 => ?_) (fun hc9 => ?_)
  · replace hc9 : z3 = (0 : Int) := hc9
    refine w_lconst (n := 0) (npc := 16) rfl ?_
    refine w_ast (i := 104) (k := 3) (n := 1) (npc := 17) rfl (hI4.pl (by decide)) (hI4.T (by decide) rfl) (by decide) (by decide) rfl ?_
    have hI11 := hI4.putl (k := (0 : Int).toNat) (z := 0)
    have hF13 := cm_fr.up (i := 104) (k := (0 : Int).toNat) (v := (4, 0, 0)) hF8 (by first | omega | (simp; done) | (simp; omega) | (simp only; omega))
    have hN14 := hn.wr (i := 104) (k := (0 : Int).toNat) (v := (4, 0, 0)) hN6 (by omega)
    generalize hE12 : cm_up E2 104 ((0 : Int).toNat) ((4, 0, 0)) = E10 at hI11 hF13 hN14 ⊢
    refine w_goto (pt := 24) rfl ?_
    refine w_const (n := 0) (npc := 25) rfl ?_
    exact w_iret rfl (⟨rfl, by omega, by omega, hI11, hF13, hN14, 0, rfl, trivial⟩) (by omega) (by omega)
  · replace hc9 : ¬ (z3 = (0 : Int)) := hc9
    refine w_lconst (n := 1) (npc := 12) rfl ?_
    refine w_goto (pt := 16) rfl ?_
    refine w_ast (i := 104) (k := 3) (n := 1) (npc := 17) rfl (hI4.pl (by decide)) (hI4.T (by decide) rfl) (by decide) (by decide) rfl ?_
    have hI16 := hI4.putl (k := (0 : Int).toNat) (z := 1)
    have hF18 := cm_fr.up (i := 104) (k := (0 : Int).toNat) (v := (4, 1, 1)) hF8 (by first | omega | (simp; done) | (simp; omega) | (simp only; omega))
    have hN19 := hn.wr (i := 104) (k := (0 : Int).toNat) (v := (4, 1, 1)) hN6 (by omega)
    generalize hE17 : cm_up E2 104 ((0 : Int).toNat) ((4, 1, 1)) = E15 at hI16 hF18 hN19 ⊢
    refine w_goto (pt := 24) rfl ?_
    refine w_const (n := 0) (npc := 25) rfl ?_
    exact w_iret rfl (⟨rfl, by omega, by omega, hI16, hF18, hN19, 0, rfl, trivial⟩) (by omega) (by omega)
set_option maxRecDepth 16384 in
theorem ct_lw_whose {sl : Int × Int} {x : ai_E} {d : Nat} {T : cm_T} {E : cm_E} {nx : Nat} (p w : Int)  (hI : cs_I T E nx) (hN : hn E) (hp0 : nx ≤ 1000) : cm_ct (ai_ev sl (d + 9)) x 141 [cr 0, ai_i p, ai_i w, cr 104] T E nx 6 440 (fun rk rv T' E' nx' => rk = 1 ∧ nx ≤ nx' ∧ nx' ≤ nx + 2 ∧ cs_I T' E' nx' ∧ cm_fr (fun i k => (i < 81 ∧ ¬ (i = 0 ∧ (k = 10 ∨ k = 11 ∨ k = 14)) ∧ ¬ (i = 23 ∧ (k = 8 ∨ k = 9))) ∨ 104 ≤ i) E E' ∧ hn E' ∧ ∃ z : Int, rv = ai_i z ∧ (True)) := by
  refine cm_body (M := ai_m141) rfl rfl (fun kc ks => ?_)
  show cm_wp (ai_find ai_c141 sl) (ai_ev sl (d + 8)) x (kc + 6) (ks + 440) _ 0 [cr 0, ai_i p, ai_i w, cr 104, ai_un] [] T E nx kc ks
  have hF : cm_fr (fun i k => (i < 81 ∧ ¬ (i = 0 ∧ (k = 10 ∨ k = 11 ∨ k = 14)) ∧ ¬ (i = 23 ∧ (k = 8 ∨ k = 9))) ∨ 104 ≤ i) E E := fun _ _ _ => rfl
  refine w_aload (i := 3) (npc := 1) (v := cr 104) rfl rfl rfl ?_
  refine w_const (n := 0) (npc := 2) rfl ?_
  refine w_aload (i := 0) (npc := 3) (v := cr 0) rfl rfl rfl ?_
  refine w_iload (i := 1) (npc := 4) rfl rfl ?_
  refine w_iload (i := 2) (npc := 5) rfl rfl ?_
  refine w_virt (ci := 7) (i := 0) (npc := 8) (a := [cr 0, ai_i p, ai_i w]) (rest := [ai_i 0, cr 104]) rfl rfl (hI.pl (by decide)) (hI.T (by decide) rfl) rfl rfl rfl rfl (ct_c_whose (sl := sl) (x := x) (d := d + 0) (p) (w) hI hN) (Or.inl rfl) (fun k9 v9 T2 E2 nx2 kc2 ks2 hq1 hk2 hv2 => ?_)
  rcases hq1 with hq1 | hq1
  · obtain ⟨rfl, rfl, rfl, hI4, hG5, hN6, hz3⟩ := hq1
    have hF7 := cm_fr.trans hF hG5 (by intro i k h; (try simp only at h); (try simp only); omega)
    refine Or.inr (Or.inr (Or.inr (Or.inr (Or.inl ⟨rfl, by decide, ?_⟩))))
    refine w_astore (i := 4) (npc := 15) (loc' := [cr 0, ai_i p, ai_i w, cr 104, (7, 0, 0)]) rfl rfl rfl ?_
    refine w_const (n := 1) (npc := 16) rfl ?_
    exact w_iret rfl (⟨rfl, by omega, by omega, hI4, hF7, hN6, 1, rfl, trivial⟩) (by omega) (by omega)
  obtain ⟨rfl, rfl, rfl, hI4, hG5, hN6, z3, rfl, hz3⟩ := hq1
  have hF8 := cm_fr.trans hF hG5 (by intro i k h; (try simp only at h); (try simp only); omega)
  refine Or.inr (Or.inl ⟨rfl, ?_⟩)
  refine w_i2l (npc := 9) rfl ?_
  refine w_ast (i := 104) (k := 3) (n := 1) (npc := 10) rfl (hI4.pl (by decide)) (hI4.T (by decide) rfl) (by decide) (by decide) rfl ?_
  have hI10 := hI4.putl (k := (0 : Int).toNat) (z := z3)
  have hF12 := cm_fr.up (i := 104) (k := (0 : Int).toNat) (v := (4, z3, z3)) hF8 (by first | omega | (simp; done) | (simp; omega) | (simp only; omega))
  have hN13 := hn.wr (i := 104) (k := (0 : Int).toNat) (v := (4, z3, z3)) hN6 (by omega)
  generalize hE11 : cm_up E2 104 ((0 : Int).toNat) ((4, z3, z3)) = E9 at hI10 hF12 hN13 ⊢
  refine w_goto (pt := 17) rfl ?_
  refine w_const (n := 0) (npc := 18) rfl ?_
  exact w_iret rfl (⟨rfl, by omega, by omega, hI10, hF12, hN13, 0, rfl, trivial⟩) (by omega) (by omega)
set_option maxRecDepth 16384 in
theorem ct_lw_gone {sl : Int × Int} {x : ai_E} {d : Nat} {T : cm_T} {E : cm_E} {nx : Nat} (p m : Int)  (hI : cs_I T E nx) (hN : hn E) (hp0 : nx ≤ 1000) (hp1 : -2147483648 ≤ m ∧ m ≤ 2147483647) : cm_ct (ai_ev sl (d + 9)) x 128 [cr 0, ai_i p, ai_i m, cr 104] T E nx 6 440 (fun rk rv T' E' nx' => rk = 1 ∧ nx ≤ nx' ∧ nx' ≤ nx + 2 ∧ cs_I T' E' nx' ∧ cm_fr (fun i k => (i < 81 ∧ ¬ (i = 0 ∧ (k = 10 ∨ k = 11 ∨ k = 14)) ∧ ¬ (i = 23 ∧ (k = 8 ∨ k = 9))) ∨ 104 ≤ i) E E' ∧ hn E' ∧ ∃ z : Int, rv = ai_i z ∧ (True)) := by
  refine cm_body (M := ai_m128) rfl rfl (fun kc ks => ?_)
  show cm_wp (ai_find ai_c128 sl) (ai_ev sl (d + 8)) x (kc + 6) (ks + 440) _ 0 [cr 0, ai_i p, ai_i m, cr 104, ai_un] [] T E nx kc ks
  have hF : cm_fr (fun i k => (i < 81 ∧ ¬ (i = 0 ∧ (k = 10 ∨ k = 11 ∨ k = 14)) ∧ ¬ (i = 23 ∧ (k = 8 ∨ k = 9))) ∨ 104 ≤ i) E E := fun _ _ _ => rfl
  refine w_aload (i := 3) (npc := 1) (v := cr 104) rfl rfl rfl ?_
  refine w_const (n := 0) (npc := 2) rfl ?_
  refine w_aload (i := 0) (npc := 3) (v := cr 0) rfl rfl rfl ?_
  refine w_iload (i := 1) (npc := 4) rfl rfl ?_
  refine w_iload (i := 2) (npc := 5) rfl rfl ?_
  refine w_virt (ci := 7) (i := 0) (npc := 8) (a := [cr 0, ai_i p, ai_i m]) (rest := [ai_i 0, cr 104]) rfl rfl (hI.pl (by decide)) (hI.T (by decide) rfl) rfl rfl rfl rfl (ct_c_gone (sl := sl) (x := x) (d := d + 0) (p) (m) hI hN (by omega)) (Or.inl rfl) (fun k9 v9 T2 E2 nx2 kc2 ks2 hq1 hk2 hv2 => ?_)
  rcases hq1 with hq1 | hq1
  · obtain ⟨rfl, rfl, rfl, hI4, hG5, hN6, hz3⟩ := hq1
    have hF7 := cm_fr.trans hF hG5 (by intro i k h; (try simp only at h); (try simp only); omega)
    refine Or.inr (Or.inr (Or.inr (Or.inr (Or.inl ⟨rfl, by decide, ?_⟩))))
    refine w_astore (i := 4) (npc := 22) (loc' := [cr 0, ai_i p, ai_i m, cr 104, (7, 0, 0)]) rfl rfl rfl ?_
    refine w_const (n := 1) (npc := 23) rfl ?_
    exact w_iret rfl (⟨rfl, by omega, by omega, hI4, hF7, hN6, 1, rfl, trivial⟩) (by omega) (by omega)
  obtain ⟨rfl, rfl, rfl, hI4, hG5, hN6, z3, rfl, hz3⟩ := hq1
  have hF8 := cm_fr.trans hF hG5 (by intro i k h; (try simp only at h); (try simp only); omega)
  refine Or.inr (Or.inl ⟨rfl, ?_⟩)
  refine w_if (c := .eq) (npc := 11) (pt := 15) rfl (fun hc9 => ?_) (fun hc9 => ?_)
  · replace hc9 : z3 = (0 : Int) := hc9
    refine w_lconst (n := 0) (npc := 16) rfl ?_
    refine w_ast (i := 104) (k := 3) (n := 1) (npc := 17) rfl (hI4.pl (by decide)) (hI4.T (by decide) rfl) (by decide) (by decide) rfl ?_
    have hI11 := hI4.putl (k := (0 : Int).toNat) (z := 0)
    have hF13 := cm_fr.up (i := 104) (k := (0 : Int).toNat) (v := (4, 0, 0)) hF8 (by first | omega | (simp; done) | (simp; omega) | (simp only; omega))
    have hN14 := hn.wr (i := 104) (k := (0 : Int).toNat) (v := (4, 0, 0)) hN6 (by omega)
    generalize hE12 : cm_up E2 104 ((0 : Int).toNat) ((4, 0, 0)) = E10 at hI11 hF13 hN14 ⊢
    refine w_goto (pt := 24) rfl ?_
    refine w_const (n := 0) (npc := 25) rfl ?_
    exact w_iret rfl (⟨rfl, by omega, by omega, hI11, hF13, hN14, 0, rfl, trivial⟩) (by omega) (by omega)
  · replace hc9 : ¬ (z3 = (0 : Int)) := hc9
    refine w_lconst (n := 1) (npc := 12) rfl ?_
    refine w_goto (pt := 16) rfl ?_
    refine w_ast (i := 104) (k := 3) (n := 1) (npc := 17) rfl (hI4.pl (by decide)) (hI4.T (by decide) rfl) (by decide) (by decide) rfl ?_
    have hI16 := hI4.putl (k := (0 : Int).toNat) (z := 1)
    have hF18 := cm_fr.up (i := 104) (k := (0 : Int).toNat) (v := (4, 1, 1)) hF8 (by first | omega | (simp; done) | (simp; omega) | (simp only; omega))
    have hN19 := hn.wr (i := 104) (k := (0 : Int).toNat) (v := (4, 1, 1)) hN6 (by omega)
    generalize hE17 : cm_up E2 104 ((0 : Int).toNat) ((4, 1, 1)) = E15 at hI16 hF18 hN19 ⊢
    refine w_goto (pt := 24) rfl ?_
    refine w_const (n := 0) (npc := 25) rfl ?_
    exact w_iret rfl (⟨rfl, by omega, by omega, hI16, hF18, hN19, 0, rfl, trivial⟩) (by omega) (by omega)
set_option maxRecDepth 16384 in
theorem ct_lw_story {sl : Int × Int} {x : ai_E} {d : Nat} {T : cm_T} {E : cm_E} {nx : Nat} (c : Int)  (hI : cs_I T E nx) (hN : hn E) (hp0 : nx ≤ 1000) (hp1 : -2147483648 ≤ c ∧ c ≤ 2147483647) : cm_ct (ai_ev sl (d + 13)) x 137 [cr 0, ai_i c, cr 104] T E nx 6 440 (fun rk rv T' E' nx' => rk = 1 ∧ nx ≤ nx' ∧ nx' ≤ nx + 2 ∧ cs_I T' E' nx' ∧ cm_fr (fun i k => (i < 81 ∧ ¬ (i = 0 ∧ (k = 10 ∨ k = 11 ∨ k = 14)) ∧ ¬ (i = 23 ∧ (k = 8 ∨ k = 9))) ∨ 104 ≤ i) E E' ∧ hn E' ∧ ∃ z : Int, rv = ai_i z ∧ (True)) := by
  refine cm_body (M := ai_m137) rfl rfl (fun kc ks => ?_)
  show cm_wp (ai_find ai_c137 sl) (ai_ev sl (d + 12)) x (kc + 6) (ks + 440) _ 0 [cr 0, ai_i c, cr 104, ai_un] [] T E nx kc ks
  have hF : cm_fr (fun i k => (i < 81 ∧ ¬ (i = 0 ∧ (k = 10 ∨ k = 11 ∨ k = 14)) ∧ ¬ (i = 23 ∧ (k = 8 ∨ k = 9))) ∨ 104 ≤ i) E E := fun _ _ _ => rfl
  refine w_aload (i := 2) (npc := 1) (v := cr 104) rfl rfl rfl ?_
  refine w_const (n := 0) (npc := 2) rfl ?_
  refine w_aload (i := 0) (npc := 3) (v := cr 0) rfl rfl rfl ?_
  refine w_iload (i := 1) (npc := 4) rfl rfl ?_
  refine w_virt (ci := 7) (i := 0) (npc := 7) (a := [cr 0, ai_i c]) (rest := [ai_i 0, cr 104]) rfl rfl (hI.pl (by decide)) (hI.T (by decide) rfl) rfl rfl rfl rfl (ct_c_story (sl := sl) (x := x) (d := d + 0) (c) hI hN (by omega)) (Or.inl rfl) (fun k9 v9 T2 E2 nx2 kc2 ks2 hq1 hk2 hv2 => ?_)
  rcases hq1 with hq1 | hq1
  · obtain ⟨rfl, rfl, rfl, hI4, hG5, hN6, hz3⟩ := hq1
    have hF7 := cm_fr.trans hF hG5 (by intro i k h; (try simp only at h); (try simp only); omega)
    refine Or.inr (Or.inr (Or.inr (Or.inr (Or.inl ⟨rfl, by decide, ?_⟩))))
    refine w_astore (i := 3) (npc := 13) (loc' := [cr 0, ai_i c, cr 104, (7, 0, 0)]) rfl rfl rfl ?_
    refine w_const (n := 1) (npc := 14) rfl ?_
    exact w_iret rfl (⟨rfl, by omega, by omega, hI4, hF7, hN6, 1, rfl, trivial⟩) (by omega) (by omega)
  obtain ⟨rfl, rfl, rfl, hI4, hG5, hN6, z3, rfl, hz3⟩ := hq1
  have hF8 := cm_fr.trans hF hG5 (by intro i k h; (try simp only at h); (try simp only); omega)
  refine Or.inr (Or.inl ⟨rfl, ?_⟩)
  refine w_i2l (npc := 8) rfl ?_
  refine w_ast (i := 104) (k := 3) (n := 1) (npc := 9) rfl (hI4.pl (by decide)) (hI4.T (by decide) rfl) (by decide) (by decide) rfl ?_
  have hI10 := hI4.putl (k := (0 : Int).toNat) (z := z3)
  have hF12 := cm_fr.up (i := 104) (k := (0 : Int).toNat) (v := (4, z3, z3)) hF8 (by first | omega | (simp; done) | (simp; omega) | (simp only; omega))
  have hN13 := hn.wr (i := 104) (k := (0 : Int).toNat) (v := (4, z3, z3)) hN6 (by omega)
  generalize hE11 : cm_up E2 104 ((0 : Int).toNat) ((4, z3, z3)) = E9 at hI10 hF12 hN13 ⊢
  refine w_goto (pt := 15) rfl ?_
  refine w_const (n := 0) (npc := 16) rfl ?_
  exact w_iret rfl (⟨rfl, by omega, by omega, hI10, hF12, hN13, 0, rfl, trivial⟩) (by omega) (by omega)
set_option maxRecDepth 16384 in
theorem ct_lw_hear {sl : Int × Int} {x : ai_E} {d : Nat} {T : cm_T} {E : cm_E} {nx : Nat} (p n : Int)  (hI : cs_I T E nx) (hN : hn E) (hp0 : nx ≤ 1000) : cm_ct (ai_ev sl (d + 9)) x 129 [cr 0, ai_i p, ai_i n, cr 104] T E nx 6 440 (fun rk rv T' E' nx' => rk = 1 ∧ nx ≤ nx' ∧ nx' ≤ nx + 2 ∧ cs_I T' E' nx' ∧ cm_fr (fun i k => (i < 81 ∧ ¬ (i = 0 ∧ (k = 10 ∨ k = 14)) ∧ ¬ (i = 23 ∧ (k = 8 ∨ k = 9))) ∨ 104 ≤ i) E E' ∧ hn E' ∧ ∃ z : Int, rv = ai_i z ∧ ((gv E' 0 11 = gv E 0 11 ∧ ¬ ((0 ≤ p ∧ p < gv E 0 10) ∧ 0 ≤ n ∧ n ≤ gv E 0 11)) ∨ (gv E' 0 11 = 0 ∧ (0 ≤ p ∧ p < gv E 0 10) ∧ 0 ≤ n ∧ n ≤ gv E 0 11))) := by
  refine cm_body (M := ai_m129) rfl rfl (fun kc ks => ?_)
  show cm_wp (ai_find ai_c129 sl) (ai_ev sl (d + 8)) x (kc + 6) (ks + 440) _ 0 [cr 0, ai_i p, ai_i n, cr 104, ai_un] [] T E nx kc ks
  have hF : cm_fr (fun i k => (i < 81 ∧ ¬ (i = 0 ∧ (k = 10 ∨ k = 14)) ∧ ¬ (i = 23 ∧ (k = 8 ∨ k = 9))) ∨ 104 ≤ i) E E := fun _ _ _ => rfl
  obtain ⟨z1, hz1, hz1a, hz1b⟩ := hI.int 0 10 (lo := 1) (hi := 5) (by decide) (by decide) rfl
  have ghz1 := gv_eq hz1
  obtain ⟨z2, hz2, hz2a, hz2b⟩ := hI.int 0 11 (lo := 0) (hi := 400) (by decide) (by decide) rfl
  have ghz2 := gv_eq hz2
  refine w_aload (i := 3) (npc := 1) (v := cr 104) rfl rfl rfl ?_
  refine w_const (n := 0) (npc := 2) rfl ?_
  refine w_aload (i := 0) (npc := 3) (v := cr 0) rfl rfl rfl ?_
  refine w_iload (i := 1) (npc := 4) rfl rfl ?_
  refine w_iload (i := 2) (npc := 5) rfl rfl ?_
  refine w_virt (ci := 7) (i := 0) (npc := 8) (a := [cr 0, ai_i p, ai_i n]) (rest := [ai_i 0, cr 104]) rfl rfl (hI.pl (by decide)) (hI.T (by decide) rfl) rfl rfl rfl rfl (ct_c_hear (sl := sl) (x := x) (d := d + 0) (p) (n) hI hN (by omega)) (Or.inl rfl) (fun k9 v9 T4 E4 nx4 kc4 ks4 hq3 hk4 hv4 => ?_)
  rcases hq3 with hq3 | hq3
  · obtain ⟨rfl, hnxz5, hnyz5, hI6, hG7, hN8, hz5⟩ := hq3
    have hF9 := cm_fr.trans hF hG7 (by intro i k h; (try simp only at h); (try simp only); omega)
    refine Or.inr (Or.inr (Or.inr (Or.inr (Or.inl ⟨rfl, by decide, ?_⟩))))
    refine w_astore (i := 4) (npc := 15) (loc' := [cr 0, ai_i p, ai_i n, cr 104, (7, 0, 0)]) rfl rfl rfl ?_
    refine w_const (n := 1) (npc := 16) rfl ?_
    exact w_iret rfl (⟨rfl, by omega, by omega, hI6, hF9, hN8, 1, rfl, by omega⟩) (by omega) (by omega)
  rcases hq3 with hq3 | hq3
  · obtain ⟨rfl, hnxz5, hnyz5, hI6, hG7, hN8, hz5⟩ := hq3
    have hF10 := cm_fr.trans hF hG7 (by intro i k h; (try simp only at h); (try simp only); omega)
    refine Or.inr (Or.inr (Or.inr (Or.inr (Or.inr ⟨rfl, by decide, ?_⟩))))
    refine w_astore (i := 4) (npc := 19) (loc' := [cr 0, ai_i p, ai_i n, cr 104, (7, 0, 0)]) rfl rfl rfl ?_
    refine w_const (n := 2) (npc := 20) rfl ?_
    exact w_iret rfl (⟨rfl, by omega, by omega, hI6, hF10, hN8, 2, rfl, by omega⟩) (by omega) (by omega)
  obtain ⟨rfl, hnxz5, hnyz5, hI6, hG7, hN8, z5, rfl, hz5⟩ := hq3
  have hF11 := cm_fr.trans hF hG7 (by intro i k h; (try simp only at h); (try simp only); omega)
  refine Or.inr (Or.inl ⟨rfl, ?_⟩)
  obtain ⟨z12, hz12, hz12a, hz12b⟩ := hI6.int 0 11 (lo := 0) (hi := 400) (by decide) (by decide) rfl
  have ghz12 := gv_eq hz12
  refine w_i2l (npc := 9) rfl ?_
  refine w_ast (i := 104) (k := 3) (n := 1) (npc := 10) rfl (hI6.pl (by decide)) (hI6.T (by decide) rfl) (by decide) (by decide) rfl ?_
  have hI14 := hI6.putl (k := (0 : Int).toNat) (z := z5)
  have hF16 := cm_fr.up (i := 104) (k := (0 : Int).toNat) (v := (4, z5, z5)) hF11 (by first | omega | (simp; done) | (simp; omega) | (simp only; omega))
  have hN17 := hn.wr (i := 104) (k := (0 : Int).toNat) (v := (4, z5, z5)) hN8 (by omega)
  generalize hE15 : cm_up E4 104 ((0 : Int).toNat) ((4, z5, z5)) = E13 at hI14 hF16 hN17 ⊢
  have hz18 : E13 0 11 = ai_i z12 := by rw [← hE15, cm_up_nei _ _ (by decide)]; exact hz12
  have ghz18 := gv_eq hz18
  refine w_goto (pt := 21) rfl ?_
  refine w_const (n := 0) (npc := 22) rfl ?_
  exact w_iret rfl (⟨rfl, by omega, by omega, hI14, hF16, hN17, 0, rfl, by omega⟩) (by omega) (by omega)
