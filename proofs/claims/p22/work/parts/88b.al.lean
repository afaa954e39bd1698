/-! ===== new steps; the story's recursion ===== -/
theorem ct_ar_copyOf {sl : Int × Int} {x : ai_E} {d : Nat} {T : cm_T} {E : cm_E} {nx : Nat} (n : Int) {c : Nat} (hc : c = 5 ∨ c = 18) (hI : cs_I T E nx) (hn : 3 ≤ n ∧ n ≤ 399) (hx : nx < 1024) : cm_ct (ai_ev sl (d + 1)) x 224 [cr c, ai_i n] T E nx 1 400 (fun rk rv T' E' nx' => rk = 1 ∧ rv = cr nx ∧ nx' = nx + 1 ∧ T' = (fun i => if i = nx then (1, n.toNat) else T i) ∧ (∀ i k, i < nx → E' i k = E i k) ∧ ∀ k, k < n.toNat → E' nx k = E c k) := by
  have h105 := hI.1
  have hTc : T c = (1, 400) := by
    rcases hc with rfl | rfl
    · exact hI.T (by decide) rfl
    · exact hI.T (by decide) rfl
  have hcn : c < nx := by omega
  refine cm_body (M := ai_m224) rfl rfl (fun kc ks => ?_)
  show cm_wp (ai_find ai_c224 sl) (ai_ev sl d) x (kc + 1) (ks + 400) _ 0 [cr c, ai_i n, ai_un] [] T E nx kc ks
  refine w_iload (i := 1) (npc := 1) rfl rfl ?_
  refine w_aload (i := 0) (npc := 2) (v := cr c) rfl rfl rfl ?_
  refine w_len (i := c) (t := 1) (n := 400) (npc := 3) rfl hcn hTc (by decide) ?_
  refine w_icmp (c := .ne) (npc := 6) (pt := 14) rfl (fun hq => ?_) (fun hq => ?_)
  · clear hq
    refine w_iload (i := 1) (npc := 15) rfl rfl ?_
    refine w_newa (t := 1) (dv := (0, 0, 0)) (npc := 17) rfl (by decide) (by omega) hx ?_
    obtain ⟨T1, hT1⟩ : ∃ t : cm_T, t = (fun i => if i = nx then (1, n.toNat) else T i) := ⟨_, rfl⟩
    rw [← hT1]
    obtain ⟨E1, hE1⟩ : ∃ t : cm_E, t = (fun i k => if i = nx then (0, 0, 0) else E i k) := ⟨_, rfl⟩
    rw [← hE1]
    have hT1c : T1 c = (1, 400) := by
      rw [hT1]; show (if c = nx then _ else _) = _; rw [if_neg (by omega)]; exact hTc
    have hT1n : T1 nx = (1, n.toNat) := by
      rw [hT1]; show (if nx = nx then _ else _) = _; rw [if_pos rfl]
    have hE1o : ∀ i k, i < nx → E1 i k = E i k := fun i k hi => by
      rw [hE1]; show (if i = nx then _ else _) = _; rw [if_neg (by omega)]
    refine w_astore (i := 2) (npc := 18) (loc' := [cr c, ai_i n, cr nx]) rfl rfl rfl ?_
    refine w_aload (i := 0) (npc := 19) (v := cr c) rfl rfl rfl ?_
    refine w_const (n := 0) (npc := 20) rfl ?_
    refine w_aload (i := 2) (npc := 21) (v := cr nx) rfl rfl rfl ?_
    refine w_const (n := 0) (npc := 22) rfl ?_
    refine w_aload (i := 0) (npc := 23) (v := cr c) rfl rfl rfl ?_
    refine w_len (i := c) (t := 1) (n := 400) (npc := 24) rfl (by omega) hT1c (by decide) ?_
    refine w_iload (i := 1) (npc := 25) rfl rfl ?_
    refine w_min (npc := 28) rfl rfl ?_
    rw [show min ((400 : Nat) : Int) n = n by omega]
    refine w_copy (i := c) (j := nx) (ni := 400) (nj := n.toNat) (npc := 31) rfl (by omega) (by omega) hT1c hT1n (by omega) (by omega) (by omega) (by omega) (by omega) (by omega) ?_
    refine w_aload (i := 2) (npc := 32) (v := cr nx) rfl rfl rfl ?_
    refine w_aret rfl (Or.inr ⟨_, rfl⟩) ⟨rfl, rfl, rfl, rfl, fun i k hi => ?_, fun k hk => ?_⟩ (Nat.le_refl _) (by omega)
    · rw [cm_cp_ne (by omega)]; exact hE1o i k hi
    · rw [cm_cp_eq (show (0 : Int).toNat ≤ k ∧ k < (0 : Int).toNat + n.toNat by omega), hE1o _ _ hcn]
      congr 1
      show (0 : Int).toNat + (k - (0 : Int).toNat) = k
      omega
  · exact absurd (show cm_cmp .ne n ((400 : Nat) : Int) from (show n ≠ ((400 : Nat) : Int) by omega)) hq
theorem ct_sp_init {sl : Int × Int} {x : ai_E} {d : Nat} {T : cm_T} {E : cm_E} {nx : Nat} (n : Int) {c q : Nat} (hc : c = 5 ∨ c = 18) (hI : cs_I T E nx) (hn : 3 ≤ n ∧ n ≤ 399) (hq : 105 ≤ q ∧ q < nx) (hTq : T q = (0, 4)) (hx : nx < 1024) : cm_ct (ai_ev sl (d + 2)) x 81 [cr q, cr c, ai_i n] T E nx 1 400 (fun rk rv T' E' nx' => rk = 0 ∧ nx' = nx + 1 ∧ T' = (fun i => if i = nx then (1, n.toNat) else T i) ∧ E' q 0 = cr nx ∧ (∀ i k, i < nx → ¬ (i = q ∧ k = 0) → E' i k = E i k) ∧ ∀ k, k < n.toNat → E' nx k = E c k) := by
  have h105 := hI.1
  have hTc : T c = (1, 400) := by
    rcases hc with rfl | rfl
    · exact hI.T (by decide) rfl
    · exact hI.T (by decide) rfl
  refine cm_body (M := ai_m81) rfl rfl (fun kc ks => ?_)
  show cm_wp (ai_find ai_c81 sl) (ai_ev sl (d + 1)) x (kc + 1) (ks + 400) _ 0 [cr q, cr c, ai_i n] [] T E nx kc ks
  refine w_aload (i := 0) (npc := 1) (v := cr q) rfl rfl rfl ?_
  refine w_oinit (npc := 4) rfl ?_
  refine w_aload (i := 0) (npc := 5) (v := cr q) rfl rfl rfl ?_
  refine w_aload (i := 1) (npc := 6) (v := cr c) rfl rfl rfl ?_
  refine w_const (n := 0) (npc := 7) rfl ?_
  refine w_iload (i := 2) (npc := 8) rfl rfl ?_
  refine w_aload (i := 1) (npc := 9) (v := cr c) rfl rfl rfl ?_
  refine w_len (i := c) (t := 1) (n := 400) (npc := 10) rfl (by omega) hTc (by decide) ?_
  refine w_min (npc := 13) rfl rfl ?_
  rw [show min n ((400 : Nat) : Int) = n by omega]
  refine w_max (npc := 16) rfl rfl ?_
  rw [show max 0 n = n by omega]
  refine w_call (npc := 19) (a := [cr c, ai_i n]) (rest := [cr q]) rfl rfl rfl rfl rfl (ct_ar_copyOf (sl := sl) (x := x) (d := d) n hc hI hn hx) (Or.inr (fun _ _ _ _ _ hq => by have h1 := hq.1; omega)) (fun k9 v9 T9 E9 nx9 kc9 ks9 hq9 hk9 hs9 => ?_)
  obtain ⟨rfl, rfl, rfl, hT9, hE9, hC9⟩ := hq9
  refine Or.inr (Or.inl ⟨rfl, ?_⟩)
  have hTq9 : T9 q = (0, 4) := by
    rw [hT9]; show (if q = nx then _ else _) = _; rw [if_neg (by omega)]; exact hTq
  refine w_putf (i := q) (ci := 4) (k := 0) (t := 2) (npc := 22) rfl (by omega) hTq9 (by decide) cm_fit2 ?_
  refine w_vret rfl ⟨rfl, rfl, hT9, cm_up_eq _ _ _ _, fun i k hi hne => ?_, fun k hk => ?_⟩ (by omega) (by omega)
  · rw [cm_up_ne _ _ hne]; exact hE9 i k hi
  · rw [cm_up_nei _ _ (by omega)]; exact hC9 k hk
theorem st_new {T T1 T3 : cm_T} {E E3 : cm_E} {nx nx3 c : Nat} {n : Int} (hI : cs_I T E nx) (hc : c = 5 ∨ c = 18) (hn : 3 ≤ n ∧ n ≤ 399) (hn3 : nx3 = nx + 1 + 1) (hT1 : T1 = fun i => if i = nx then (0, 4) else T i) (hT3 : T3 = fun i => if i = nx + 1 then (1, n.toNat) else T1 i) (hr : E3 nx 0 = cr (nx + 1)) (he : ∀ i k, i < nx → E3 i k = E i k) (hk : ∀ k, k < n.toNat → E3 (nx + 1) k = E c k) (hw : gv E c 1 ≤ 4 ∧ 1 ≤ gv E c 2 ∧ gv E c 2 ≤ 60) : cs_I T3 E3 nx3 ∧ cs_st T3 E3 nx3 nx := by
  have h105 := hI.1
  have hTo : ∀ i, i < nx → T3 i = T i := fun i hi => by
    rw [hT3]; show (if i = nx + 1 then _ else _) = _
    rw [if_neg (by omega), hT1]; show (if i = nx then _ else _) = _
    rw [if_neg (by omega)]
  refine ⟨hI.mv (by omega) hTo he, h105, by omega, ?_, hr, n.toNat, by omega, ?_, ?_, fun k hk9 => ?_⟩
  · rw [hT3]; show (if nx = nx + 1 then _ else _) = _
    rw [if_neg (by omega), hT1]; show (if nx = nx then _ else _) = _
    rw [if_pos rfl]
  · rw [hT3]; show (if nx + 1 = nx + 1 then _ else _) = _
    rw [if_pos rfl]
  · rw [hk 1 (by omega), hk 2 (by omega)]; exact hw
  · rw [hk k hk9]
    rcases hc with rfl | rfl
    · exact hI.int 5 k (lo := 0) (hi := 255) (by decide) (show k < 400 by omega) rfl
    · exact hI.int 18 k (lo := 0) (hi := 255) (by decide) (show k < 400 by omega) rfl

theorem ct_ty_walk {sl : Int × Int} {x : ai_E} {d : Nat} {T : cm_T} {E : cm_E} {nx : Nat} (t : Int) (hI : cs_I T E nx) (hp0 : 0 ≤ t ∧ t ≤ 8) : cm_ct (ai_ev sl (d + 10)) x 102 [cr 23, ai_i t] T E nx 0 0 (fun rk rv T' E' nx' => rk = 0 ∧ T = T' ∧ nx = nx' ∧ cs_I T E' nx ∧ cm_fr (fun i k => (28 ≤ i ∧ i ≤ 40) ∨ (i = 23 ∧ (k = 10 ∨ k = 11))) E E' ∧ (True)) := by
  have key : ∀ (k : Nat) (t : Int) (E : cm_E), cs_I T E nx → 0 ≤ t ∧ t ≤ 8 → (8 - t).toNat ≤ k → cm_ct (ai_ev sl (d + k + 2)) x 102 [cr 23, ai_i t] T E nx 0 0 (fun rk rv T' E' nx' => rk = 0 ∧ T = T' ∧ nx = nx' ∧ cs_I T E' nx ∧ cm_fr (fun i k => (28 ≤ i ∧ i ≤ 40) ∨ (i = 23 ∧ (k = 10 ∨ k = 11))) E E' ∧ (True)) := by
    intro k
    induction k with
    | zero => exact fun t E hI ht hk => ct_ty_walk_s (d := d) t hI ht (fun h => absurd h (by omega))
    | succ k ih => exact fun t E hI ht hk => ct_ty_walk_s (d := d + k + 1) t hI ht (fun h E1 hI1 => ih (t + 1) E1 hI1 (by omega) (by omega))
  exact key 8 t E hI hp0 (by omega)
