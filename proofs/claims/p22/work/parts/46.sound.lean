/-! ===== every instruction's row is sound ===== -/
theorem ai_vwlt {ci : Nat} {q : vw_C} (h : vwCl[ci]? = some q) : ci < 9 := (List.getElem?_eq_some_iff.mp h).1
theorem ai_uw {s : State} {args : Array Value} (hA : ai_AW s) {ci N : Nat} {C : String} {T : u_T} (hcl : vwCl[ci]? = some (C, T, N)) : ∀ w ∈ u_ws C T N, w.before args s = true := by
  intro w hw
  have hb := List.all_eq_true.mp ai_bU_ok ci (List.mem_range.mpr (ai_vwlt hcl))
  unfold ai_bU at hb
  rw [hcl] at hb
  cases hu : ai_up[ci]? with
  | none => rw [hu] at hb; cases hb
  | some ps =>
    rw [hu] at hb
    obtain ⟨k, hk, rfl⟩ := List.mem_map.mp hw
    have h1 := List.all_eq_true.mp hb k hk
    cases hp : ps[k]? with
    | none => simp only [hp] at h1; cases h1
    | some i =>
      simp only [hp, Bool.and_eq_true] at h1
      exact hA.use (ai_tw_in h1.1) h1.2 args
theorem ai_ty_ok {ci N : Nat} {C : String} {T : u_T} (hcl : vwCl[ci]? = some (C, T, N)) : ∀ k, k < N → parseFieldDescriptor (T k).2.2.1 = some (ai_ty0 T k) := by
  intro k hk
  have hb := List.all_eq_true.mp ai_bT_ok ci (List.mem_range.mpr (ai_vwlt hcl))
  unfold ai_bT at hb
  rw [hcl] at hb
  have h1 := List.all_eq_true.mp hb k (List.mem_range.mpr hk)
  unfold ai_ty0
  cases hp : parseFieldDescriptor (T k).2.2.1 with
  | none => rw [hp] at h1; cases h1
  | some t => rfl
theorem ai_nm_ok : ∀ {ci N : Nat} {C : String} {T : u_T}, vwCl[ci]? = some (C, T, N) → ∀ a, a < N → ∀ b, b < N → a ≠ b → (T a).2.1 ≠ (T b).2.1
  | 0, _, _, _, hcl => by
    have hcl : some (RX0, TX0, 8) = some (_, _, _) := hcl
    cases hcl
    exact nmX0
  | 1, _, _, _, hcl => by
    have hcl : some (RX1, TX1, 4) = some (_, _, _) := hcl
    cases hcl
    exact nmX1
  | 2, _, _, _, hcl => by
    have hcl : some (RX2, TX2, 2) = some (_, _, _) := hcl
    cases hcl
    exact nmX2
  | 3, _, _, _, hcl => by
    have hcl : some (RX3, TX3, 6) = some (_, _, _) := hcl
    cases hcl
    exact nmX3
  | 4, _, _, _, hcl => by
    have hcl : some (RX4, TX4, 1) = some (_, _, _) := hcl
    cases hcl
    exact nmX4
  | 5, _, _, _, hcl => by
    have hcl : some (RX5, TX5, 13) = some (_, _, _) := hcl
    cases hcl
    exact nmX5
  | 6, _, _, _, hcl => by
    have hcl : some (RX6, TX6, 9) = some (_, _, _) := hcl
    cases hcl
    exact nmX6
  | 7, _, _, _, hcl => by
    have hcl : some (RX7, TX7, 15) = some (_, _, _) := hcl
    cases hcl
    exact nmX7
  | 8, _, _, _, hcl => by
    have hcl : some (RX8, TX8, 38) = some (_, _, _) := hcl
    cases hcl
    exact nmX8
  | ci + 9, _, _, _, hcl => absurd (ai_vwlt hcl) (by omega)
theorem ai_any_in {α : Type} {l1 : List α} {f : α → Bool} (h : l1.any f = true) : ∃ q ∈ l1, f q = true := List.any_eq_true.mp h
section SND
variable {p : Program} {l : Launch} {e : Env} {R : Room} {s : State} {m : MethodId} {args : Array Value} {below : List Frame} {meth : Method} {c : Code} {nL b0 : Nat} {rho : Nat → Int32} {tc dC : Nat → ClassId} {dI : Nat → Nat → Nat} {base : Nat} {ws0 : va_W} {kE sE mk0 ms0 : Nat} {os0 : List ai_O} {Q : State → Prop}
variable {M : ai_M} {L : Nat} {sa : Nat → Nat} {sl : Int × Int} {d : Nat} {call : ai_K} {K : ai_K4} {pc npc : Nat} {loc st : List ai_V} {g : ai_G} {r : ai_R}
theorem ai_ct_of (hCx : ai_Cx p l e R s m args below meth c nL b0 rho tc dC dI base ws0 kE sE mk0 ms0 os0 Q M L sa sl d) {k h : Nat} (hk : k = 2 ∨ k = 3) (hc : ai_ctok M.2.2.2.2.1 M.2.2.2.2.2.1 pc k h = true) : ai_Ct p l e R s m args below meth c Q pc k h := by
  obtain ⟨⟨hx, hb, hml, hMl, hown, hlocks, hret, hname, htab⟩, hst, hSF, hD, hL, ⟨hRc, hRs⟩, hQ, hfr, hlo⟩ := hCx
  unfold ai_ctok at hc
  cases h0 : Nat.beq h 0 with
  | true =>
    rw [h0] at hc
    exact Or.inl ⟨Nat.eq_of_beq_eq_true h0, by rw [htab]; exact ai_nocov_ok hc⟩
  | false =>
    rw [h0] at hc
    simp only [cond_false, Bool.or_eq_true, Bool.and_eq_true] at hc
    rcases hc with hc | ⟨hoc, hc⟩
    · exact Or.inr (Or.inr (Nat.eq_of_beq_eq_true hc))
    · have hoc : M.2.2.2.2.1 = 9 := Nat.eq_of_beq_eq_true hoc
      rw [hoc] at hown
      obtain ⟨pre, x, suf, e1, e2, e3, e4, e5⟩ := ai_ctk_ok hc
      have hh0 : h ≠ 0 := fun q => by rw [q] at h0; cases h0
      have hbH := ai_bH
      simp only [Bool.and_eq_true] at hbH
      obtain ⟨⟨⟨w1, w2⟩, w3⟩, w4⟩ := hbH
      have l19 : (Cond.classLink (ai_cn 9) 19 (ai_exc 2)).before args s = true := hSF.1.use (ai_tw_in w3) rfl args
      have l13 : (Cond.classLink (ai_cn 9) 13 (ai_exc 3)).before args s = true := hSF.1.use (ai_tw_in w4) rfl args
      have hlk : (Cond.classLink (ai_cn 9) x.catchType (ai_exc k)).before args s = true := by
        rw [e5]
        rcases hk with rfl | rfl
        · exact l19
        · exact l13
      have hcast : (Cond.castable (ai_exc k) (ai_exc k)).before args s = true := by
        rcases hk with rfl | rfl
        · exact hSF.1.use (ai_tw_in w1) rfl args
        · exact hSF.1.use (ai_tw_in w2) rfl args
      refine Or.inr (Or.inl ⟨hh0, fun {H locs cells slots ls rest q ce} hq hv hcl kk => ?_⟩)
      refine vx_catch (own := ai_cn 9) (name := ai_exc k) hown pre x suf (by rw [htab]; exact e1) (fun z hz => ?_) e3 (fun q => ?_) hlk hcast hq hv hcl (by rw [e4]; exact kk)
      · rcases e2 z hz with hz1 | ⟨hz1, hz2⟩
        · exact Or.inl hz1
        · refine Or.inr ⟨by rw [hz2]; decide, ai_exc 2, by rw [hz2]; exact l19, ?_⟩
          rw [hz1]
          exact hSF.2.2.2.2.2.2.2.2.2.2.2.1
      · rw [e5] at q
        rcases hk with rfl | rfl <;> exact absurd q (by decide)
theorem ai_ct0 (hCx : ai_Cx p l e R s m args below meth c nL b0 rho tc dC dI base ws0 kE sE mk0 ms0 os0 Q M L sa sl d) {k : Nat} (hc : ai_nocov M.2.2.2.2.2.1 pc = true) : ai_Ct p l e R s m args below meth c Q pc k 0 := Or.inl ⟨rfl, by rw [hCx.1.2.2.2.2.2.2.2.2]; exact ai_nocov_ok hc⟩
theorem ai_dvSR : ∀ {fs : List ai_V}, fs.all (fun v => decide (v = ai_i 0 ∨ v = ai_nul)) = true → ∀ (ws : va_W), ai_SR b0 rho ws fs (fs.map ai_dv)
  | [], _, _ => trivial
  | v :: t, h, ws => by
    rw [List.all_cons, Bool.and_eq_true] at h
    refine ⟨?_, ai_dvSR h.2 ws⟩
    rcases of_decide_eq_true h.1 with rfl | rfl
    · exact ai_Rv.mkI (ai_num_i rfl)
    · exact ai_Rv.mkN
theorem op_new (hCx : ai_Cx p l e R s m args below meth c nL b0 rho tc dC dI base ws0 kE sE mk0 ms0 os0 Q M L sa sl d) (hK : ai_KS p l e R s m args below meth c nL b0 rho tc dC dI base ws0 kE sE mk0 ms0 os0 Q K) {idx k0 k1 k2 : Nat} {ks : List Nat} {op : ai_Op} (hck : ai_ck M pc (.new idx, npc, k0, k1, k2, ks) = true) (hop : ai_sem sl (.new idx, npc, k0, k1, k2, ks) = some op) (h : op call K loc st g = some r) : ai_At p l e R s m args below meth c nL b0 rho tc dC dI base ws0 kE sE mk0 ms0 os0 Q pc loc st g r := by
  obtain ⟨⟨hx, hb, hml, hMl, hown, hlocks, hret, hname, htab⟩, hst, hSF, hD, ⟨hL1, hL2, hL3⟩, ⟨hRc, hRs⟩, hQ, hfr, hlo⟩ := hCx
  match k2, hck, hop with
  | 0, hck, hop =>
    have hck : (ai_dec M.2.1 pc (.new idx) 3 && Nat.beq npc (pc + 3) && ai_ln.any (fun q => Nat.beq q.1 M.2.2.2.2.1 && Nat.beq q.2.1 idx && Nat.beq q.2.2.1 k0)) = true := hck
    have hop : some (ai_o_new k0 (ai_fld k0) npc) = some op := hop
    cases hop
    simp only [Bool.and_eq_true] at hck
    obtain ⟨⟨c1, c2⟩, c3⟩ := hck
    obtain ⟨⟨oc, ix, ci, p1, p2, p3⟩, hq, hqq⟩ := ai_any_in c3
    simp only [Bool.and_eq_true] at hqq
    obtain ⟨⟨e1, e2⟩, e3⟩ := hqq
    have e1 : oc = M.2.2.2.2.1 := Nat.eq_of_beq_eq_true e1
    have e2 : ix = idx := Nat.eq_of_beq_eq_true e2
    have e3 : ci = k0 := Nat.eq_of_beq_eq_true e3
    subst e1 e2 e3
    have hb9 := List.all_eq_true.mp ai_bN_ok _ hq
    unfold ai_bN at hb9
    simp only at hb9
    cases hcl : vwCl[ci]? with
    | none => rw [hcl] at hb9; cases hb9
    | some q0 =>
      obtain ⟨C, T, N⟩ := q0
      rw [hcl] at hb9
      simp only [Bool.and_eq_true] at hb9
      obtain ⟨⟨⟨⟨⟨g1, g2⟩, g3⟩, g4⟩, g5⟩, g6⟩ := hb9
      exact so_new (Ts := u_ws C T N) (ty0 := ai_ty0 T) (fv := (ai_fld ci).map ai_dv) hx hb (ai_uw hSF.1 hcl) hown hSF.2.1 hSF.2.2.2.2.2.2.2.2.2.1 hRc hRs hcl (fun w hw => hw) (ai_ty_ok hcl) (hSF.1.use (ai_tw_in g1) rfl args) (hSF.1.use (ai_tw_in g2) rfl args) (hSF.1.use (ai_tw_in g3) rfl args)
        (fun j hj => of_decide_eq_true (List.all_eq_true.mp g6 j (List.mem_range.mpr hj))) (ai_dvSR g5) (of_decide_eq_true g4) (ai_dec_ok c1) (Nat.eq_of_beq_eq_true c2) hK h
  | k2 + 1, hck, hop =>
    have hck : (ai_dec M.2.1 pc (.new idx) 3 && Nat.beq npc (pc + 3) && (ai_lth.any (fun q => Nat.beq q.1 M.2.2.2.2.1 && Nat.beq q.2.1 idx && Nat.beq q.2.2.1 k0 && Nat.beq q.2.2.2.1 k1 && Nat.beq q.2.2.2.2.1 (ai_nth 0 ks 0) && Nat.beq q.2.2.2.2.2.1 (ai_nth 0 ks 1)) && ai_dec M.2.1 (pc + 3) .dup 1 &&
        (match (generalizing := false) ai_nth 0 ks 2 with
        | 0 => ai_dec M.2.1 (pc + 4) (.ldc (ai_nth 0 ks 0)) 2 && ai_dec M.2.1 (pc + 4 + 2) (.invokespecial (ai_nth 0 ks 1)) 3 && ai_dec M.2.1 (pc + 4 + 2 + 3) .athrow 1 && ai_nocov M.2.2.2.2.2.1 (pc + 4 + 2 + 3)
        | _ => ai_dec M.2.1 (pc + 4) (.ldc_w (ai_nth 0 ks 0)) 3 && ai_dec M.2.1 (pc + 4 + 3) (.invokespecial (ai_nth 0 ks 1)) 3 && ai_dec M.2.1 (pc + 4 + 3 + 3) .athrow 1 && ai_nocov M.2.2.2.2.2.1 (pc + 4 + 3 + 3)))) = true := hck
    have hop : some (ai_o_throw k0) = some op := hop
    cases hop
    simp only [Bool.and_eq_true] at hck
    obtain ⟨⟨c1, c2⟩, ⟨c3, c4⟩, c5⟩ := hck
    obtain ⟨⟨oc, ik, k, k9, is, ic, pos⟩, hq, hqq⟩ := ai_any_in c3
    simp only [Bool.and_eq_true] at hqq
    obtain ⟨⟨⟨⟨⟨e1, e2⟩, e3⟩, e4⟩, e5⟩, e6⟩ := hqq
    have e1 : oc = M.2.2.2.2.1 := Nat.eq_of_beq_eq_true e1
    have e2 : ik = idx := Nat.eq_of_beq_eq_true e2
    have e3 : k = k0 := Nat.eq_of_beq_eq_true e3
    have e4 : k9 = k1 := Nat.eq_of_beq_eq_true e4
    have e5 : is = ai_nth 0 ks 0 := Nat.eq_of_beq_eq_true e5
    have e6 : ic = ai_nth 0 ks 1 := Nat.eq_of_beq_eq_true e6
    rw [← e5, ← e6] at c5
    subst e1 e2 e3 e4
    have hb9 := List.all_eq_true.mp ai_bTh_ok _ hq
    simp only [Bool.and_eq_true] at hb9
    obtain ⟨⟨⟨g1, g2⟩, g3⟩, g4⟩ := hb9
    have hk : k = 2 ∨ k = 3 := by
      rcases Bool.or_eq_true_iff.mp g2 with g2 | g2
      · exact Or.inl (Nat.eq_of_beq_eq_true g2)
      · exact Or.inr (Nat.eq_of_beq_eq_true g2)
    obtain ⟨⟨z1, z2, z3⟩, hz, hzz⟩ := ai_any_in g4
    simp only [Bool.and_eq_true] at hzz
    have y1 : z1 = M.2.2.2.2.1 := Nat.eq_of_beq_eq_true hzz.1.1
    have y2 : z2 = ic := Nat.eq_of_beq_eq_true hzz.1.2
    have y3 : z3 = k := Nat.eq_of_beq_eq_true hzz.2
    subst y1 y2 y3
    have hw9 := List.all_eq_true.mp ai_bTw_ok _ hz
    unfold ai_bTw at hw9
    simp only at hw9
    have hwat : ∀ w ∈ ai_atX (ai_cn M.2.2.2.2.1) z2 (ai_exc z3) (ai_ix z3) (ai_rx z3) ai_thn, w.before args s = true ∧ vx_ot w = true := fun w hw => by
      have q9 := List.all_eq_true.mp hw9 w hw
      simp only [Bool.and_eq_true] at q9
      exact ⟨hSF.1.use (of_decide_eq_true q9.1.1) q9.1.2 args, q9.2⟩
    cases hs9 : ai_strs[k9]? with
    | none => rw [hs9] at g3; cases g3
    | some qs =>
      obtain ⟨so, si, text⟩ := qs
      rw [hs9] at g3
      simp only [Bool.and_eq_true] at g3
      have y4 : so = ai_cn M.2.2.2.2.1 := of_decide_eq_true g3.1
      have y5 : si = is := Nat.eq_of_beq_eq_true g3.2
      subst y4 y5
      have hstr : vk_R (ai_cn M.2.2.2.2.1) si text (sa k9) s := hSF.2.2.2.2.2.1 k9 (ai_cn M.2.2.2.2.1, si, text) hs9
      obtain ⟨x0, x1, x2, x5⟩ := ai_rx_ok hk
      have hTi := ai_bTi
      have hTf := ai_bTf
      simp only [Bool.and_eq_true] at hTi hTf
      have hini : (Cond.initialized (ai_exc z3)).before args s = true := by
        rcases hk with rfl | rfl
        · exact hSF.1.use (ai_tw_in hTi.1) rfl args
        · exact hSF.1.use (ai_tw_in hTi.2) rfl args
      have hfit : Bundle.fit (ai_exc z3) = true := by
        rcases hk with rfl | rfl
        · exact hTf.1.1
        · exact hTf.1.2
      have hkk : (Cond.classLink (ai_cn M.2.2.2.2.1) ik (ai_exc z3)).before args s = true := hSF.1.use (ai_tw_in g1) rfl args
      have d4 : ∃ n4, ((decode M.2.1 (pc + 4) = .ok (.ldc si, 2) ∧ n4 = 2) ∨ (decode M.2.1 (pc + 4) = .ok (.ldc_w si, 3) ∧ n4 = 3)) ∧ decode M.2.1 (pc + 4 + n4) = .ok (.invokespecial z2, 3) ∧ decode M.2.1 (pc + 4 + n4 + 3) = .ok (.athrow, 1) ∧ ai_nocov M.2.2.2.2.2.1 (pc + 4 + n4 + 3) = true := by
        split at c5
        · simp only [Bool.and_eq_true] at c5
          exact ⟨2, Or.inl ⟨ai_dec_ok c5.1.1.1, rfl⟩, ai_dec_ok c5.1.1.2, ai_dec_ok c5.1.2, c5.2⟩
        · simp only [Bool.and_eq_true] at c5
          exact ⟨3, Or.inr ⟨ai_dec_ok c5.1.1.1, rfl⟩, ai_dec_ok c5.1.1.2, ai_dec_ok c5.1.2, c5.2⟩
      obtain ⟨n4, d4, d6, d9, hnc⟩ := d4
      refine so_throw hk hRc hRs hQ (fun {H locs cells slots ls} hS hsz hc1 hc2 hXC hlocs hc3 hc4 => ?_) h
      exact ai_throwX hx hb hst x0 x1 x2 x5 hown hfit (fun n hn => List.all_eq_true.mp hTf.2 n hn) hkk hini hstr (fun w hw => (hwat w hw).1)
        (fun w hw => by
          rcases List.mem_cons.mp hw with rfl | hw
          · exact (ai_bTo _ _ _).1
          · rcases List.mem_cons.mp hw with rfl | hw
            · exact (ai_bTo "" 0 _).2
            · exact (hwat w hw).2)
        hSF.2.2.2.2.2.2.1 hSF.2.2.2.2.2.2.2.1 hS (hsz.trans hml.symm) (ai_dec_ok c1) (ai_dec_ok c4) d4 d6 d9 (by rw [htab]; exact ai_nocov_ok hnc) (by show 2 + 3 < R.frames; omega) (Nat.le_trans (by show 13 * (2 + 1) + 43 ≤ 360; decide) (Nat.le_trans (Nat.le_add_left _ _) hlo)) hc1 hc2 hlocks hXC hlocs hc3 hc4
theorem op_special (hCx : ai_Cx p l e R s m args below meth c nL b0 rho tc dC dI base ws0 kE sE mk0 ms0 os0 Q M L sa sl d) (hCS : ai_CS l b0 L base rho tc dC dI sa call d) (hK5 : ∀ loc st g, K 65535 loc st g = none) (hK : ai_KS p l e R s m args below meth c nL b0 rho tc dC dI base ws0 kE sE mk0 ms0 os0 Q K) {idx k0 k1 k2 : Nat} {ks : List Nat} {op : ai_Op} (hck : ai_ck M pc (.invokespecial idx, npc, k0, k1, k2, ks) = true) (hop : ai_sem sl (.invokespecial idx, npc, k0, k1, k2, ks) = some op) (h : op call K loc st g = some r) : ai_At p l e R s m args below meth c nL b0 rho tc dC dI base ws0 kE sE mk0 ms0 os0 Q pc loc st g r := by
  have hCx0 := hCx
  obtain ⟨⟨hx, hb, hml, hMl, hown, hlocks, hret, hname, htab⟩, hst, hSF, hD, ⟨hL1, hL2, hL3⟩, ⟨hRc, hRs⟩, hQ, hfr, hlo⟩ := hCx
  have hck : (ai_dec M.2.1 pc (.invokespecial idx) 3 && Nat.beq npc (pc + 3) && (match (generalizing := false) k2 with
      | 5 => ai_loi.any (fun q => Nat.beq q.1 M.2.2.2.2.1 && Nat.beq q.2.1 idx)
      | _ => ai_lc.any (fun q => Nat.beq q.1 M.2.2.2.2.1 && Nat.beq q.2.1 idx && Nat.beq q.2.2.1 k0 && Nat.beq q.2.2.2.1 k1 && (Nat.beq q.2.2.2.2.1 1 || Nat.beq q.2.2.2.2.1 2)) && ai_nocov M.2.2.2.2.2.1 pc)) = true := hck
  have hop : (match (generalizing := false) k2 with
      | 5 => some (ai_o_oinit npc)
      | _ => some (ai_o_virt false (ai_nth 0 ks 0) k0 k1 0 0 npc)) = some op := hop
  rw [Bool.and_eq_true, Bool.and_eq_true] at hck
  obtain ⟨⟨c1, c2⟩, c3⟩ := hck
  have c1 := ai_dec_ok c1
  have c2 : npc = pc + 3 := Nat.eq_of_beq_eq_true c2
  by_cases hk : k2 = 5
  · subst hk
    cases hop
    obtain ⟨⟨oc, ix, pos⟩, hq, hqq⟩ := ai_any_in c3
    simp only [Bool.and_eq_true] at hqq
    have e1 : oc = M.2.2.2.2.1 := Nat.eq_of_beq_eq_true hqq.1
    have e2 : ix = idx := Nat.eq_of_beq_eq_true hqq.2
    subst e1 e2 c2
    have hb9 := List.all_eq_true.mp ai_bO_ok _ hq
    refine so_oinit (fun {H locs cells slots ls a} hsz k => ?_) hK h
    exact W.objInit hx hb hown (hSF.1.use (ai_tw_in hb9) rfl args) (hSF.1.use (ai_tw_in ai_bO1) rfl args) (hSF.1.use (ai_tm ai_bO2) rfl args) (g := F0 m pc ls [.ref a]) rfl (hsz.trans hml.symm) (rest := []) rfl c1 (by omega) (show 2 * 0 + 0 + 12 ≤ R.locals from Nat.le_trans (by decide) (Nat.le_trans (Nat.le_add_left _ _) hlo)) k
  · have c3 : (ai_lc.any (fun q => Nat.beq q.1 M.2.2.2.2.1 && Nat.beq q.2.1 idx && Nat.beq q.2.2.1 k0 && Nat.beq q.2.2.2.1 k1 && (Nat.beq q.2.2.2.2.1 1 || Nat.beq q.2.2.2.2.1 2)) && ai_nocov M.2.2.2.2.2.1 pc) = true := by
      split at c3
      · exact absurd rfl hk
      · exact c3
    have hop : some (ai_o_virt false (ai_nth 0 ks 0) k0 k1 0 0 npc) = some op := by
      split at hop
      · exact absurd rfl hk
      · exact hop
    cases hop
    rw [Bool.and_eq_true] at c3
    obtain ⟨⟨oc, ix, j, n, kind, ci, pos⟩, hq, hqq⟩ := ai_any_in c3.1
    simp only [Bool.and_eq_true] at hqq
    obtain ⟨⟨⟨⟨e1, e2⟩, e3⟩, e4⟩, e5⟩ := hqq
    have e1 : oc = M.2.2.2.2.1 := Nat.eq_of_beq_eq_true e1
    have e2 : ix = idx := Nat.eq_of_beq_eq_true e2
    have e3 : j = k0 := Nat.eq_of_beq_eq_true e3
    have e4 : n = k1 := Nat.eq_of_beq_eq_true e4
    have e5 : kind = 1 ∨ kind = 2 := (Bool.or_eq_true_iff.mp e5).imp (fun q => Nat.eq_of_beq_eq_true q) (fun q => Nat.eq_of_beq_eq_true q)
    subst e2 e3 e4
    exact op_spec hCx0 hCS e1 e5 hq c1 c2 (ai_ct0 hCx0 c3.2) (ai_ct0 hCx0 c3.2) hK5 hK h
theorem op_static (hCx : ai_Cx p l e R s m args below meth c nL b0 rho tc dC dI base ws0 kE sE mk0 ms0 os0 Q M L sa sl d) (hCS : ai_CS l b0 L base rho tc dC dI sa call d) (hK5 : ∀ loc st g, K 65535 loc st g = none) (hK : ai_KS p l e R s m args below meth c nL b0 rho tc dC dI base ws0 kE sE mk0 ms0 os0 Q K) {idx k0 k1 k2 : Nat} {ks : List Nat} {op : ai_Op} (hck : ai_ck M pc (.invokestatic idx, npc, k0, k1, k2, ks) = true) (hop : ai_sem sl (.invokestatic idx, npc, k0, k1, k2, ks) = some op) (h : op call K loc st g = some r) : ai_At p l e R s m args below meth c nL b0 rho tc dC dI base ws0 kE sE mk0 ms0 os0 Q pc loc st g r := by
  have hCx0 := hCx
  obtain ⟨⟨hx, hb, hml, hMl, hown, hlocks, hret, hname, htab⟩, hst, hSF, hD, ⟨hL1, hL2, hL3⟩, ⟨hRc, hRs⟩, hQ, hfr, hlo⟩ := hCx
  have hck : (ai_dec M.2.1 pc (.invokestatic idx) 3 && Nat.beq npc (pc + 3) && (match (generalizing := false) k2 with
      | 6 => ai_lcp.any (fun q => Nat.beq q.1 M.2.2.2.2.1 && Nat.beq q.2.1 idx)
      | 8 => ai_lmm.any (fun q => Nat.beq q.1 M.2.2.2.2.1 && Nat.beq q.2.1 idx && Nat.beq q.2.2.1 8)
      | 9 => ai_lmm.any (fun q => Nat.beq q.1 M.2.2.2.2.1 && Nat.beq q.2.1 idx && Nat.beq q.2.2.1 9)
      | _ => ai_lc.any (fun q => Nat.beq q.1 M.2.2.2.2.1 && Nat.beq q.2.1 idx && Nat.beq q.2.2.1 k0 && Nat.beq q.2.2.2.1 k1 && (Nat.beq q.2.2.2.2.1 3 || Nat.beq q.2.2.2.2.1 4 || Nat.beq q.2.2.2.2.1 6)) && ai_nocov M.2.2.2.2.2.1 pc)) = true := hck
  have hop : (match (generalizing := false) k2 with
      | 6 => some (ai_o_copy npc)
      | 8 => some (ai_o_mm true npc)
      | 9 => some (ai_o_mm false npc)
      | _ => some (ai_o_call false k0 k1 0 0 npc)) = some op := hop
  rw [Bool.and_eq_true, Bool.and_eq_true] at hck
  obtain ⟨⟨c1, c2⟩, c3⟩ := hck
  have c1 := ai_dec_ok c1
  have c2 : npc = pc + 3 := Nat.eq_of_beq_eq_true c2
  have hmm := ai_bMM1
  simp only [Bool.and_eq_true] at hmm
  obtain ⟨⟨⟨⟨w1, w2⟩, w3⟩, w4⟩, w5⟩ := hmm
  have h360 : 60 * d + 360 ≥ 360 := Nat.le_add_left _ _
  by_cases hk6 : k2 = 6
  · subst hk6
    cases hop
    obtain ⟨⟨oc, ix, pos⟩, hq, hqq⟩ := ai_any_in c3
    simp only [Bool.and_eq_true] at hqq
    have e1 : oc = M.2.2.2.2.1 := Nat.eq_of_beq_eq_true hqq.1
    have e2 : ix = idx := Nat.eq_of_beq_eq_true hqq.2
    subst e1 e2
    have hb9 := List.all_eq_true.mp ai_bC_ok _ hq
    have hc1 := ai_bC1
    simp only [Bool.and_eq_true] at hc1
    exact so_copy hx hb hml hown hSF.2.1 (hSF.1.use (ai_tw_in hb9) rfl args) (hSF.1.use (ai_tw_in hc1.1.1) rfl args) (hSF.1.use (ai_tw_in hc1.1.2) rfl args) (hSF.1.use (ai_tw_in hc1.2) rfl args) (by omega) (Nat.le_trans (by decide +kernel) (Nat.le_trans h360 hlo)) c1 c2 hK h
  · by_cases hk8 : k2 = 8
    · subst hk8
      cases hop
      obtain ⟨⟨oc, ix, kk, pos⟩, hq, hqq⟩ := ai_any_in c3
      simp only [Bool.and_eq_true] at hqq
      have e1 : oc = M.2.2.2.2.1 := Nat.eq_of_beq_eq_true hqq.1.1
      have e2 : ix = idx := Nat.eq_of_beq_eq_true hqq.1.2
      have e3 : kk = 8 := Nat.eq_of_beq_eq_true hqq.2
      subst e1 e2 e3 c2
      have hb9 := List.all_eq_true.mp ai_bMM_ok _ hq
      refine so_mm (mx := true) hRc hRs (fun {H locs cells slots ls rest y z} hsz h4 hc1 hc2 k => ?_) hK h
      have h8 := ai_cat4 h4
      exact va_mmax hx hb (hml.trans hsz.symm) hown (hSF.1.use (ai_tw_in hb9) rfl args) (hSF.1.use (ai_tw_in w1) rfl args) (hSF.1.use (ai_tw_in w5) rfl args) (hSF.1.use (ai_tw_in w2) rfl args) (by omega) (Nat.le_trans (Nat.add_le_add_right h8 13) (Nat.le_trans (by decide) (Nat.le_trans h360 hlo))) hc1 hc2 c1 k
    · by_cases hk9 : k2 = 9
      · subst hk9
        cases hop
        obtain ⟨⟨oc, ix, kk, pos⟩, hq, hqq⟩ := ai_any_in c3
        simp only [Bool.and_eq_true] at hqq
        have e1 : oc = M.2.2.2.2.1 := Nat.eq_of_beq_eq_true hqq.1.1
        have e2 : ix = idx := Nat.eq_of_beq_eq_true hqq.1.2
        have e3 : kk = 9 := Nat.eq_of_beq_eq_true hqq.2
        subst e1 e2 e3 c2
        have hb9 := List.all_eq_true.mp ai_bMM_ok _ hq
        have hb9 : (Nat.beq 9 9 && ai_tw pos (.methodLink (ai_cn M.2.2.2.2.1) ix Lib.Math.min.name)) = true := hb9
        refine so_mm (mx := false) hRc hRs (fun {H locs cells slots ls rest y z} hsz h4 hc1 hc2 k => ?_) hK h
        have h8 := ai_cat4 h4
        exact va_mmin hx hb (hml.trans hsz.symm) hown (hSF.1.use (ai_tw_in (Bool.and_eq_true_iff.mp hb9).2) rfl args) (hSF.1.use (ai_tw_in w3) rfl args) (hSF.1.use (ai_tw_in w5) rfl args) (hSF.1.use (ai_tw_in w4) rfl args) (by omega) (Nat.le_trans (Nat.add_le_add_right h8 13) (Nat.le_trans (by decide) (Nat.le_trans h360 hlo))) hc1 hc2 c1 k
      · have c3 : (ai_lc.any (fun q => Nat.beq q.1 M.2.2.2.2.1 && Nat.beq q.2.1 idx && Nat.beq q.2.2.1 k0 && Nat.beq q.2.2.2.1 k1 && (Nat.beq q.2.2.2.2.1 3 || Nat.beq q.2.2.2.2.1 4 || Nat.beq q.2.2.2.2.1 6)) && ai_nocov M.2.2.2.2.2.1 pc) = true := by
          split at c3
          · exact absurd rfl hk6
          · exact absurd rfl hk8
          · exact absurd rfl hk9
          · exact c3
        have hop : some (ai_o_call false k0 k1 0 0 npc) = some op := by
          split at hop
          · exact absurd rfl hk6
          · exact absurd rfl hk8
          · exact absurd rfl hk9
          · exact hop
        cases hop
        rw [Bool.and_eq_true] at c3
        obtain ⟨⟨oc, ix, j, n, kind, ci, pos⟩, hq, hqq⟩ := ai_any_in c3.1
        simp only [Bool.and_eq_true] at hqq
        obtain ⟨⟨⟨⟨e1, e2⟩, e3⟩, e4⟩, e5⟩ := hqq
        have e1 : oc = M.2.2.2.2.1 := Nat.eq_of_beq_eq_true e1
        have e2 : ix = idx := Nat.eq_of_beq_eq_true e2
        have e3 : j = k0 := Nat.eq_of_beq_eq_true e3
        have e4 : n = k1 := Nat.eq_of_beq_eq_true e4
        have e5 : kind = 3 ∨ kind = 4 ∨ kind = 6 := by
          simp only [Bool.or_eq_true] at e5
          rcases e5 with (q | q) | q
          · exact Or.inl (Nat.eq_of_beq_eq_true q)
          · exact Or.inr (Or.inl (Nat.eq_of_beq_eq_true q))
          · exact Or.inr (Or.inr (Nat.eq_of_beq_eq_true q))
        subst e2 e3 e4
        exact op_stat hCx0 hCS e1 e5 hq c1 c2 (ai_ct0 hCx0 c3.2) (ai_ct0 hCx0 c3.2) hK5 hK h
set_option maxHeartbeats 4000000 in
theorem op_sound (hCx : ai_Cx p l e R s m args below meth c nL b0 rho tc dC dI base ws0 kE sE mk0 ms0 os0 Q M L sa sl d) (hCS : ai_CS l b0 L base rho tc dC dI sa call d) (hK5 : ∀ loc st g, K 65535 loc st g = none) (hK : ai_KS p l e R s m args below meth c nL b0 rho tc dC dI base ws0 kE sE mk0 ms0 os0 Q K) {ei : ai_I} {op : ai_Op} (hck : ai_ck M pc ei = true) (hop : ai_sem sl ei = some op) (h : op call K loc st g = some r) : ai_At p l e R s m args below meth c nL b0 rho tc dC dI base ws0 kE sE mk0 ms0 os0 Q pc loc st g r := by
  have hCx0 := hCx
  obtain ⟨⟨hx, hb, hml, hMl, hown, hlocks, hret, hname, htab⟩, hst, hSF, hD, ⟨hL1, hL2, hL3⟩, ⟨hRc, hRs⟩, hQ, hfr, hlo⟩ := hCx
  have hV := hSF.2.1
  have hXs := hSF.2.2.2.2.2.2.2.2.1
  have hbs := hSF.2.2.2.2.2.2.2.2.2.1
  have hb0 := hSF.2.2.2.2.2.2.2.2.2.2.1
  have hbl : b0 < s.heap.size := Nat.lt_of_lt_of_le hb0 hbs
  have hbA : ¬ ai_A base b0 := Nat.not_le.mpr hb0
  obtain ⟨i, npc, k0, k1, k2, ks⟩ := ei
  cases i with
  | iconst n =>
    have hck : (ai_dec M.2.1 pc (.iconst n) 1 && Nat.beq npc (pc + 1) && ai_ieq (Int32.ofInt n).toInt n) = true := hck
    simp only [Bool.and_eq_true] at hck
    obtain ⟨⟨c1, c2⟩, c3⟩ := hck
    have c1 := ai_dec_ok c1
    have hop : some (ai_o_const n npc) = some op := hop
    cases hop
    have c2 : npc = pc + 1 := Nat.eq_of_beq_eq_true c2
    subst c2
    exact so_const (v := Int32.ofInt n) ((ai_ieq_iff _ _).mp c3) (fun k => lv_iconst hx hb c1 rfl k) hK h
  | bipush n =>
    have hck : (ai_dec M.2.1 pc (.bipush n) 2 && Nat.beq npc (pc + 2) && ai_ieq ((Int8.ofInt n).toInt32).toInt n) = true := hck
    simp only [Bool.and_eq_true] at hck
    obtain ⟨⟨c1, c2⟩, c3⟩ := hck
    have c1 := ai_dec_ok c1
    have hop : some (ai_o_const n npc) = some op := hop
    cases hop
    have c2 : npc = pc + 2 := Nat.eq_of_beq_eq_true c2
    subst c2
    exact so_const (v := (Int8.ofInt n).toInt32) ((ai_ieq_iff _ _).mp c3) (fun k => lv_bipush hx hb c1 rfl k) hK h
  | sipush n =>
    have hck : (ai_dec M.2.1 pc (.sipush n) 3 && Nat.beq npc (pc + 3) && ai_ieq ((Int16.ofInt n).toInt32).toInt n) = true := hck
    simp only [Bool.and_eq_true] at hck
    obtain ⟨⟨c1, c2⟩, c3⟩ := hck
    have c1 := ai_dec_ok c1
    have hop : some (ai_o_const n npc) = some op := hop
    cases hop
    have c2 : npc = pc + 3 := Nat.eq_of_beq_eq_true c2
    subst c2
    exact so_const (v := (Int16.ofInt n).toInt32) ((ai_ieq_iff _ _).mp c3) (fun k => lv_sipush hx hb c1 rfl k) hK h
  | ldc idx =>
    have hck : (ai_dec M.2.1 pc (.ldc idx) 2 && Nat.beq npc (pc + 2) && ai_lcon.any (fun q => Nat.beq q.1 M.2.2.2.2.1 && Nat.beq q.2.1 idx && Nat.beq q.2.2.1 k0)) = true := hck
    simp only [Bool.and_eq_true] at hck
    obtain ⟨⟨c1, c2⟩, c3⟩ := hck
    have c1 := ai_dec_ok c1
    have hop : some (ai_o_const (.ofNat k0) npc) = some op := hop
    cases hop
    have c2 : npc = pc + 2 := Nat.eq_of_beq_eq_true c2
    subst c2
    obtain ⟨⟨oc, ix, v, pos⟩, hq, hqq⟩ := ai_any_in c3
    simp only [Bool.and_eq_true] at hqq
    obtain ⟨⟨e1, e2⟩, e3⟩ := hqq
    have e1 : oc = M.2.2.2.2.1 := Nat.eq_of_beq_eq_true e1
    have e2 : ix = idx := Nat.eq_of_beq_eq_true e2
    have e3 : v = k0 := Nat.eq_of_beq_eq_true e3
    subst e1 e2 e3
    have hb9 := List.all_eq_true.mp ai_bK_ok _ hq
    unfold ai_bK at hb9
    simp only [Bool.and_eq_true] at hb9
    exact so_const (v := Int32.ofNat v) (of_decide_eq_true hb9.2) (fun k => lv_ldc hx hb hown (hSF.1.use (ai_tw_in hb9.1) rfl args) c1 k) hK h
  | lconst n =>
    have hck : (ai_dec M.2.1 pc (.lconst n) 1 && Nat.beq npc (pc + 1) && Nat.beq k0 n.val) = true := hck
    simp only [Bool.and_eq_true] at hck
    obtain ⟨⟨c1, c2⟩, c3⟩ := hck
    have c1 := ai_dec_ok c1
    have hop : some (ai_o_lconst (.ofNat k0) npc) = some op := hop
    cases hop
    have c2 : npc = pc + 1 := Nat.eq_of_beq_eq_true c2
    subst c2
    have c3 : k0 = n.val := Nat.eq_of_beq_eq_true c3
    subst c3
    exact so_lconst (v := Int64.ofNat n.val) (z := Int32.ofNat n.val) (by match n with | 0 => rfl | 1 => rfl) (by match n with | 0 => rfl | 1 => rfl) (fun k => lv_lconst hx hb c1 rfl k) hK h
  | aconst_null =>
    have hck : (ai_dec M.2.1 pc (.aconst_null) 1 && Nat.beq npc (pc + 1)) = true := hck
    simp only [Bool.and_eq_true] at hck
    obtain ⟨c1, c2⟩ := hck
    have c1 := ai_dec_ok c1
    have hop : some (ai_o_null npc) = some op := hop
    cases hop
    have c2 : npc = pc + 1 := Nat.eq_of_beq_eq_true c2
    subst c2
    exact so_null (fun k => lv_null hx hb c1 k) hK h
  | iload k =>
    have hck : (ai_dec M.2.1 pc (.iload k) 2 && Nat.beq npc (pc + 2) && Nat.beq k0 k) = true := hck
    simp only [Bool.and_eq_true] at hck
    obtain ⟨⟨c1, c2⟩, c3⟩ := hck
    have c1 := ai_dec_ok c1
    have hop : some (ai_o_iload k0 npc) = some op := hop
    cases hop
    have c2 : npc = pc + 2 := Nat.eq_of_beq_eq_true c2
    subst c2
    have c3 : k0 = k := Nat.eq_of_beq_eq_true c3
    subst c3
    exact so_iload (fun hl k => lv_iload hx hb c1 hl k) hK h
  | iload_n k =>
    have hck : (ai_dec M.2.1 pc (.iload_n k) 1 && Nat.beq npc (pc + 1) && Nat.beq k0 k.val) = true := hck
    simp only [Bool.and_eq_true] at hck
    obtain ⟨⟨c1, c2⟩, c3⟩ := hck
    have c1 := ai_dec_ok c1
    have hop : some (ai_o_iload k0 npc) = some op := hop
    cases hop
    have c2 : npc = pc + 1 := Nat.eq_of_beq_eq_true c2
    subst c2
    have c3 : k0 = k.val := Nat.eq_of_beq_eq_true c3
    subst c3
    exact so_iload (fun hl k => lv_iload_n hx hb c1 rfl hl k) hK h
  | aload k =>
    have hck : (ai_dec M.2.1 pc (.aload k) 2 && Nat.beq npc (pc + 2) && Nat.beq k0 k) = true := hck
    simp only [Bool.and_eq_true] at hck
    obtain ⟨⟨c1, c2⟩, c3⟩ := hck
    have c1 := ai_dec_ok c1
    have hop : some (ai_o_aload k0 npc) = some op := hop
    cases hop
    have c2 : npc = pc + 2 := Nat.eq_of_beq_eq_true c2
    subst c2
    have c3 : k0 = k := Nat.eq_of_beq_eq_true c3
    subst c3
    exact so_aload (fun hl k => lv_aload hx hb c1 hl k) (fun hl k => lv_aloadN hx hb c1 hl k) hK h
  | aload_n k =>
    have hck : (ai_dec M.2.1 pc (.aload_n k) 1 && Nat.beq npc (pc + 1) && Nat.beq k0 k.val) = true := hck
    simp only [Bool.and_eq_true] at hck
    obtain ⟨⟨c1, c2⟩, c3⟩ := hck
    have c1 := ai_dec_ok c1
    have hop : some (ai_o_aload k0 npc) = some op := hop
    cases hop
    have c2 : npc = pc + 1 := Nat.eq_of_beq_eq_true c2
    subst c2
    have c3 : k0 = k.val := Nat.eq_of_beq_eq_true c3
    subst c3
    exact so_aload (fun hl k => lv_aload_n hx hb c1 rfl hl k) (fun hl k => lv_aload_nN hx hb c1 rfl hl k) hK h
  | istore k =>
    have hck : (ai_dec M.2.1 pc (.istore k) 2 && Nat.beq npc (pc + 2) && Nat.beq k0 k && Nat.blt k0 M.2.2.1) = true := hck
    simp only [Bool.and_eq_true] at hck
    obtain ⟨⟨⟨c1, c2⟩, c3⟩, c4⟩ := hck
    have c1 := ai_dec_ok c1
    have hop : some (ai_o_istore k0 npc) = some op := hop
    cases hop
    have c2 : npc = pc + 2 := Nat.eq_of_beq_eq_true c2
    subst c2
    have c3 : k0 = k := Nat.eq_of_beq_eq_true c3
    subst c3
    have c4 : k0 < nL := by rw [← hMl]; exact Nat.le_of_ble_eq_true c4
    exact so_istore c4 (fun hl k => lv_istore hx hb c1 hl c4 rfl k) hK h
  | istore_n k =>
    have hck : (ai_dec M.2.1 pc (.istore_n k) 1 && Nat.beq npc (pc + 1) && Nat.beq k0 k.val && Nat.blt k0 M.2.2.1) = true := hck
    simp only [Bool.and_eq_true] at hck
    obtain ⟨⟨⟨c1, c2⟩, c3⟩, c4⟩ := hck
    have c1 := ai_dec_ok c1
    have hop : some (ai_o_istore k0 npc) = some op := hop
    cases hop
    have c2 : npc = pc + 1 := Nat.eq_of_beq_eq_true c2
    subst c2
    have c3 : k0 = k.val := Nat.eq_of_beq_eq_true c3
    subst c3
    have c4 : k.val < nL := by rw [← hMl]; exact Nat.le_of_ble_eq_true c4
    exact so_istore c4 (fun hl k => lv_istore_n hx hb c1 rfl hl c4 rfl k) hK h
  | astore k =>
    have hck : (ai_dec M.2.1 pc (.astore k) 2 && Nat.beq npc (pc + 2) && Nat.beq k0 k && Nat.blt k0 M.2.2.1) = true := hck
    simp only [Bool.and_eq_true] at hck
    obtain ⟨⟨⟨c1, c2⟩, c3⟩, c4⟩ := hck
    have c1 := ai_dec_ok c1
    have hop : some (ai_o_astore k0 npc) = some op := hop
    cases hop
    have c2 : npc = pc + 2 := Nat.eq_of_beq_eq_true c2
    subst c2
    have c3 : k0 = k := Nat.eq_of_beq_eq_true c3
    subst c3
    have c4 : k0 < nL := by rw [← hMl]; exact Nat.le_of_ble_eq_true c4
    exact so_astore c4 (fun hl k => lv_astore hx hb c1 hl c4 rfl k) (fun hl k => lv_astoreN hx hb c1 hl c4 rfl k) hK h
  | astore_n k =>
    have hck : (ai_dec M.2.1 pc (.astore_n k) 1 && Nat.beq npc (pc + 1) && Nat.beq k0 k.val && Nat.blt k0 M.2.2.1) = true := hck
    simp only [Bool.and_eq_true] at hck
    obtain ⟨⟨⟨c1, c2⟩, c3⟩, c4⟩ := hck
    have c1 := ai_dec_ok c1
    have hop : some (ai_o_astore k0 npc) = some op := hop
    cases hop
    have c2 : npc = pc + 1 := Nat.eq_of_beq_eq_true c2
    subst c2
    have c3 : k0 = k.val := Nat.eq_of_beq_eq_true c3
    subst c3
    have c4 : k.val < nL := by rw [← hMl]; exact Nat.le_of_ble_eq_true c4
    exact so_astore c4 (fun hl k => lv_astore_n hx hb c1 rfl hl c4 rfl k) (fun hl k => lv_astore_nN hx hb c1 rfl hl c4 rfl k) hK h
  | iinc k n =>
    have hck : (ai_dec M.2.1 pc (.iinc k n) 3 && Nat.beq npc (pc + 3) && Nat.beq k0 k && Nat.blt k0 M.2.2.1 && ai_ieq (Int32.ofInt n).toInt n) = true := hck
    simp only [Bool.and_eq_true] at hck
    obtain ⟨⟨⟨⟨c1, c2⟩, c3⟩, c4⟩, c5⟩ := hck
    have c1 := ai_dec_ok c1
    have hop : some (ai_o_inc k0 n npc) = some op := hop
    cases hop
    have c2 : npc = pc + 3 := Nat.eq_of_beq_eq_true c2
    subst c2
    have c3 : k0 = k := Nat.eq_of_beq_eq_true c3
    subst c3
    have c4 : k0 < nL := by rw [← hMl]; exact Nat.le_of_ble_eq_true c4
    exact so_inc (x2 := Int32.ofInt n) ((ai_ieq_iff _ _).mp c5) c4 (fun hl hk k => lv_iinc hx hb c1 hl hk rfl c4 rfl k) hK h
  | iadd =>
    have hck : (ai_dec M.2.1 pc (.iadd) 1 && Nat.beq npc (pc + 1)) = true := hck
    simp only [Bool.and_eq_true] at hck
    obtain ⟨c1, c2⟩ := hck
    have c1 := ai_dec_ok c1
    have hop : some (ai_o_bin (fun _ => ai_add) npc) = some op := hop
    cases hop
    have c2 : npc = pc + 1 := Nat.eq_of_beq_eq_true c2
    subst c2
    exact so_bin (f := fun _ => ai_add) (op := fun a b => a + b) (ok := fun _ => True) (fun h => ai_add_tags h) (fun _ hu hv h => ai_add_ok hu hv h) (fun _ _ _ => trivial) (fun _ k => lv_iadd hx hb c1 k) hK h
  | isub =>
    have hck : (ai_dec M.2.1 pc (.isub) 1 && Nat.beq npc (pc + 1)) = true := hck
    simp only [Bool.and_eq_true] at hck
    obtain ⟨c1, c2⟩ := hck
    have c1 := ai_dec_ok c1
    have hop : some (ai_o_bin (fun _ => ai_sub) npc) = some op := hop
    cases hop
    have c2 : npc = pc + 1 := Nat.eq_of_beq_eq_true c2
    subst c2
    exact so_bin (f := fun _ => ai_sub) (op := fun a b => a - b) (ok := fun _ => True) (fun h => ai_sub_tags h) (fun _ hu hv h => ai_sub_ok hu hv h) (fun _ _ _ => trivial) (fun _ k => lv_isub hx hb c1 k) hK h
  | imul =>
    have hck : (ai_dec M.2.1 pc (.imul) 1 && Nat.beq npc (pc + 1)) = true := hck
    simp only [Bool.and_eq_true] at hck
    obtain ⟨c1, c2⟩ := hck
    have c1 := ai_dec_ok c1
    have hop : some (ai_o_bin ai_mul npc) = some op := hop
    cases hop
    have c2 : npc = pc + 1 := Nat.eq_of_beq_eq_true c2
    subst c2
    exact so_bin (f := ai_mul) (op := fun a b => a * b) (ok := fun _ => True) (fun h => ai_mul_tags h) (fun hE hu hv h => ai_mul_ok hE hu hv h) (fun _ _ _ => trivial) (fun _ k => lv_imul hx hb c1 k) hK h
  | iand =>
    have hck : (ai_dec M.2.1 pc (.iand) 1 && Nat.beq npc (pc + 1)) = true := hck
    simp only [Bool.and_eq_true] at hck
    obtain ⟨c1, c2⟩ := hck
    have c1 := ai_dec_ok c1
    have hop : some (ai_o_bin ai_and npc) = some op := hop
    cases hop
    have c2 : npc = pc + 1 := Nat.eq_of_beq_eq_true c2
    subst c2
    exact so_bin (f := ai_and) (op := fun a b => a &&& b) (ok := fun _ => True) (fun h => ai_and_tags h) (fun hE hu hv h => ai_and_ok hD hE hu hv h) (fun _ _ _ => trivial) (fun _ k => lv_iand hx hb c1 k) hK h
  | idiv =>
    have hck : (ai_dec M.2.1 pc (.idiv) 1 && Nat.beq npc (pc + 1)) = true := hck
    simp only [Bool.and_eq_true] at hck
    obtain ⟨c1, c2⟩ := hck
    have c1 := ai_dec_ok c1
    have hop : some (ai_o_bin ai_div npc) = some op := hop
    cases hop
    have c2 : npc = pc + 1 := Nat.eq_of_beq_eq_true c2
    subst c2
    exact so_bin (f := ai_div) (op := fun a b => a / b) (ok := fun z => ¬ z = 0) (fun h => ai_div_tags h) (fun hE hu hv h => ai_div_ok hD hE hu hv h) (fun hE hv h => ai_div_ne hE hv h) (fun hz k => lv_idiv hx hb c1 hz k) hK h
  | irem =>
    have hck : (ai_dec M.2.1 pc (.irem) 1 && Nat.beq npc (pc + 1)) = true := hck
    simp only [Bool.and_eq_true] at hck
    obtain ⟨c1, c2⟩ := hck
    have c1 := ai_dec_ok c1
    have hop : some (ai_o_bin ai_rem npc) = some op := hop
    cases hop
    have c2 : npc = pc + 1 := Nat.eq_of_beq_eq_true c2
    subst c2
    exact so_bin (f := ai_rem) (op := fun a b => a - a / b * b) (ok := fun z => ¬ z = 0) (fun h => ai_rem_tags h) (fun hE hu hv h => ai_rem_ok hD hE hu hv h) (fun hE hv h => ai_rem_ne hE hv h) (fun hz k => lv_irem hx hb c1 hz k) hK h
  | ior =>
    have hck : (ai_dec M.2.1 pc (.ior) 1 && Nat.beq npc (pc + 1)) = true := hck
    simp only [Bool.and_eq_true] at hck
    obtain ⟨c1, c2⟩ := hck
    have c1 := ai_dec_ok c1
    have hop : some (ai_o_bin ai_or npc) = some op := hop
    cases hop
    have c2 : npc = pc + 1 := Nat.eq_of_beq_eq_true c2
    subst c2
    exact so_bin (f := ai_or) (op := fun a b => a ||| b) (ok := fun _ => True) (fun h => ai_con_tags h) (fun hE hu hv h => ai_con_ok (f := fun a b => a ||| b) hE hu hv h) (fun _ _ _ => trivial) (fun _ k => lv_ior hx hb c1 k) hK h
  | ishl =>
    have hck : (ai_dec M.2.1 pc (.ishl) 1 && Nat.beq npc (pc + 1)) = true := hck
    simp only [Bool.and_eq_true] at hck
    obtain ⟨c1, c2⟩ := hck
    have c1 := ai_dec_ok c1
    have hop : some (ai_o_bin ai_shl npc) = some op := hop
    cases hop
    have c2 : npc = pc + 1 := Nat.eq_of_beq_eq_true c2
    subst c2
    exact so_bin (f := ai_shl) (op := fun a b => a <<< (b &&& 31)) (ok := fun _ => True) (fun h => ai_con_tags h) (fun hE hu hv h => ai_con_ok (f := fun a b => a <<< (b &&& 31)) hE hu hv h) (fun _ _ _ => trivial) (fun _ k => lv_ishl hx hb c1 k) hK h
  | ishr =>
    have hck : (ai_dec M.2.1 pc (.ishr) 1 && Nat.beq npc (pc + 1)) = true := hck
    simp only [Bool.and_eq_true] at hck
    obtain ⟨c1, c2⟩ := hck
    have c1 := ai_dec_ok c1
    have hop : some (ai_o_bin ai_shr npc) = some op := hop
    cases hop
    have c2 : npc = pc + 1 := Nat.eq_of_beq_eq_true c2
    subst c2
    exact so_bin (f := ai_shr) (op := fun a b => a >>> (b &&& 31)) (ok := fun _ => True) (fun h => ai_con_tags h) (fun hE hu hv h => ai_con_ok (f := fun a b => a >>> (b &&& 31)) hE hu hv h) (fun _ _ _ => trivial) (fun _ k => lv_ishr hx hb c1 k) hK h
  | iushr =>
    have hck : (ai_dec M.2.1 pc (.iushr) 1 && Nat.beq npc (pc + 1)) = true := hck
    simp only [Bool.and_eq_true] at hck
    obtain ⟨c1, c2⟩ := hck
    have c1 := ai_dec_ok c1
    have hop : some (ai_o_bin ai_ushr npc) = some op := hop
    cases hop
    have c2 : npc = pc + 1 := Nat.eq_of_beq_eq_true c2
    subst c2
    exact so_bin (f := ai_ushr) (op := fun a b => (a.toUInt32 >>> (b.toUInt32 &&& Int32.toUInt32 31)).toInt32) (ok := fun _ => True) (fun h => ai_con_tags h) (fun hE hu hv h => ai_con_ok (f := fun a b => (a.toUInt32 >>> (b.toUInt32 &&& Int32.toUInt32 31)).toInt32) hE hu hv h) (fun _ _ _ => trivial) (fun _ k => lv_iushr hx hb c1 rfl k) hK h
  | i2l =>
    have hck : (ai_dec M.2.1 pc (.i2l) 1 && Nat.beq npc (pc + 1)) = true := hck
    simp only [Bool.and_eq_true] at hck
    obtain ⟨c1, c2⟩ := hck
    have c1 := ai_dec_ok c1
    have hop : some (ai_o_i2l npc) = some op := hop
    cases hop
    have c2 : npc = pc + 1 := Nat.eq_of_beq_eq_true c2
    subst c2
    exact so_i2l (fun k => lv_i2l hx hb c1 rfl k) hK h
  | lcmp =>
    have hck : (ai_dec M.2.1 pc (.lcmp) 1 && Nat.beq npc (pc + 1)) = true := hck
    simp only [Bool.and_eq_true] at hck
    obtain ⟨c1, c2⟩ := hck
    have c1 := ai_dec_ok c1
    have hop : some (ai_o_lcmp npc) = some op := hop
    cases hop
    have c2 : npc = pc + 1 := Nat.eq_of_beq_eq_true c2
    subst c2
    exact so_lcmp hx hb c1 rfl hK h
  | dup =>
    have hck : (ai_dec M.2.1 pc (.dup) 1 && Nat.beq npc (pc + 1)) = true := hck
    simp only [Bool.and_eq_true] at hck
    obtain ⟨c1, c2⟩ := hck
    have c1 := ai_dec_ok c1
    have hop : some (ai_o_dup npc) = some op := hop
    cases hop
    have c2 : npc = pc + 1 := Nat.eq_of_beq_eq_true c2
    subst c2
    exact so_dup (fun hw k => lv_dup hx hb c1 hw k) hK h
  | dup2 =>
    have hck : (ai_dec M.2.1 pc (.dup2) 1 && Nat.beq npc (pc + 1)) = true := hck
    simp only [Bool.and_eq_true] at hck
    obtain ⟨c1, c2⟩ := hck
    have c1 := ai_dec_ok c1
    have hop : some (ai_o_dup2 npc) = some op := hop
    cases hop
    have c2 : npc = pc + 1 := Nat.eq_of_beq_eq_true c2
    subst c2
    exact so_dup2 (fun hw hu k => lv_dup2_11 hx hb c1 hw hu k) hK h
  | pop =>
    have hck : (ai_dec M.2.1 pc (.pop) 1 && Nat.beq npc (pc + 1)) = true := hck
    simp only [Bool.and_eq_true] at hck
    obtain ⟨c1, c2⟩ := hck
    have c1 := ai_dec_ok c1
    have hop : some (ai_o_pop npc) = some op := hop
    cases hop
    have c2 : npc = pc + 1 := Nat.eq_of_beq_eq_true c2
    subst c2
    exact so_pop (fun hw k => lv_pop hx hb c1 hw k) hK h
  | goto off =>
    have hck : (ai_dec M.2.1 pc (.goto off) 3 && ai_ieq ((pc : Int) + off) (k0 : Int)) = true := hck
    simp only [Bool.and_eq_true] at hck
    obtain ⟨c1, c2⟩ := hck
    have c1 := ai_dec_ok c1
    have hop : some (ai_o_goto k0) = some op := hop
    cases hop
    exact so_goto (fun k => lv_goto hx hb c1 ((ai_ieq_iff _ _).mp c2) k) hK h
  | ifCond cd off =>
    have hck : (ai_dec M.2.1 pc (.ifCond cd off) 3 && Nat.beq npc (pc + 3) && ai_ieq ((pc : Int) + off) (k0 : Int)) = true := hck
    simp only [Bool.and_eq_true] at hck
    obtain ⟨⟨c1, c2⟩, c3⟩ := hck
    have c1 := ai_dec_ok c1
    have hop : some (ai_o_if cd npc k0) = some op := hop
    cases hop
    have c2 : npc = pc + 3 := Nat.eq_of_beq_eq_true c2
    subst c2
    have c3 := (ai_ieq_iff _ _).mp c3
    cases cd with
    | eq => exact so_if (k := .eq) (fun a b => lv_if_eq hx hb c1 c3 a b) hK h
    | lt => exact so_if (k := .lt) (fun a b => lv_if_lt hx hb c1 c3 a b) hK h
    | le => exact so_if (k := .le) (fun a b => lv_if_le hx hb c1 c3 a b) hK h
    | ge => exact so_if (k := .ge) (fun a b => lv_if_ge hx hb c1 c3 (fun q => a (Int32.not_lt.mpr q)) (fun q => b (fun z => q (Int32.not_lt.mp z)))) hK h
    | gt => exact so_if (k := .gt) (fun a b => lv_if_gt hx hb c1 c3 (fun q => a (Int32.not_le.mpr q)) (fun q => b (fun z => q (Int32.not_le.mp z)))) hK h
    | ne => exact so_if (k := .ne) (fun a b => lv_if_ne hx hb c1 c3 a (fun q => b (fun z => z q))) hK h
  | if_icmp cd off =>
    have hck : (ai_dec M.2.1 pc (.if_icmp cd off) 3 && Nat.beq npc (pc + 3) && ai_ieq ((pc : Int) + off) (k0 : Int)) = true := hck
    simp only [Bool.and_eq_true] at hck
    obtain ⟨⟨c1, c2⟩, c3⟩ := hck
    have c1 := ai_dec_ok c1
    have hop : some (ai_o_icmp cd npc k0) = some op := hop
    cases hop
    have c2 : npc = pc + 3 := Nat.eq_of_beq_eq_true c2
    subst c2
    have c3 := (ai_ieq_iff _ _).mp c3
    cases cd with
    | eq => exact so_icmp (k := .eq) (fun a b => lv_icmp_eq hx hb c1 c3 a b) hK h
    | lt => exact so_icmp (k := .lt) (fun a b => lv_icmp_lt hx hb c1 c3 a b) hK h
    | le => exact so_icmp (k := .le) (fun a b => lv_icmp_le hx hb c1 c3 a b) hK h
    | ge => exact so_icmp (k := .ge) (fun a b => lv_icmp_ge hx hb c1 c3 (fun q => a (Int32.not_lt.mpr q)) (fun q => b (fun z => q (Int32.not_lt.mp z)))) hK h
    | gt => exact so_icmp (k := .gt) (fun a b => lv_icmp_gt hx hb c1 c3 (fun q => a (Int32.not_le.mpr q)) (fun q => b (fun z => q (Int32.not_le.mp z)))) hK h
    | ne => exact so_icmp (k := .ne) (fun a b => lv_icmp_ne hx hb c1 c3 a (fun q => b (fun z => z q))) hK h
  | if_acmp cd off =>
    have hck : (ai_dec M.2.1 pc (.if_acmp cd off) 3 && Nat.beq npc (pc + 3) && ai_ieq ((pc : Int) + off) (k0 : Int)) = true := hck
    simp only [Bool.and_eq_true] at hck
    obtain ⟨⟨c1, c2⟩, c3⟩ := hck
    have c1 := ai_dec_ok c1
    have hop : some (ai_o_acmp npc k0) = some op := hop
    cases hop
    have hn : npc = pc + 3 := Nat.eq_of_beq_eq_true c2
    subst hn
    have c3 := (ai_ieq_iff _ _).mp c3
    cases cd with
    | eq => exact so_acmp (fun a b => lv_acmp_eq hx hb c1 c3 (fun _ => a) (fun _ => b)) hK h
    | ne => exact so_acmp (fun a b => lv_acmp_ne hx hb c1 c3 (fun _ => a) (fun _ => b)) hK h
  | ifnull off =>
    have hck : (ai_dec M.2.1 pc (.ifnull off) 3 && Nat.beq npc (pc + 3) && ai_ieq ((pc : Int) + off) (k0 : Int)) = true := hck
    simp only [Bool.and_eq_true] at hck
    obtain ⟨⟨c1, c2⟩, c3⟩ := hck
    have c1 := ai_dec_ok c1
    have hop : some (ai_o_isnull k0 npc) = some op := hop
    cases hop
    have c2 : npc = pc + 3 := Nat.eq_of_beq_eq_true c2
    subst c2
    exact so_isnull (fun k => lv_ifnullN hx hb c1 ((ai_ieq_iff _ _).mp c3) k) (fun k => lv_ifnull hx hb c1 k) hK h
  | ifnonnull off =>
    have hck : (ai_dec M.2.1 pc (.ifnonnull off) 3 && Nat.beq npc (pc + 3) && ai_ieq ((pc : Int) + off) (k0 : Int)) = true := hck
    simp only [Bool.and_eq_true] at hck
    obtain ⟨⟨c1, c2⟩, c3⟩ := hck
    have c1 := ai_dec_ok c1
    have hop : some (ai_o_isnull npc k0) = some op := hop
    cases hop
    have c2 : npc = pc + 3 := Nat.eq_of_beq_eq_true c2
    subst c2
    exact so_isnull (fun k => lv_ifnonnullN hx hb c1 k) (fun k => lv_ifnonnull hx hb c1 ((ai_ieq_iff _ _).mp c3) k) hK h
  | tableswitch dflt lo hi offs =>
    have hck : (ai_dec M.2.1 pc (.tableswitch dflt lo hi offs) (npc - pc) && ai_ieq ((pc : Int) + dflt) (k0 : Int) && ai_ieq hi (lo + (ks.length : Int) - 1) && (List.range ks.length).all (fun i => match offs[i]? with
      | some off => ai_ieq ((pc : Int) + off) ((ai_nth k0 ks i : Nat) : Int)
      | none => false)) = true := hck
    simp only [Bool.and_eq_true] at hck
    obtain ⟨⟨⟨c1, c2⟩, c3⟩, c4⟩ := hck
    have c1 := ai_dec_ok c1
    have hop : some (ai_o_sw lo hi k0 ks) = some op := hop
    cases hop
    refine so_sw hx hb c1 ((ai_ieq_iff _ _).mp c2) ((ai_ieq_iff _ _).mp c3) (fun i hi9 => ?_) hK h
    have q1 := List.all_eq_true.mp c4 i (List.mem_range.mpr hi9)
    cases ho : offs[i]? with
    | none => simp only [ho] at q1; cases q1
    | some off =>
      simp only [ho] at q1
      exact ⟨off, rfl, (ai_ieq_iff _ _).mp q1⟩
  | getfield idx =>
    have hck : (ai_dec M.2.1 pc (.getfield idx) 3 && Nat.beq npc (pc + 3) && ai_lg.any (fun q => Nat.beq q.1 M.2.2.2.2.1 && Nat.beq q.2.1 idx && Nat.beq q.2.2.1 k0 && Nat.beq q.2.2.2.1 k1)) = true := hck
    simp only [Bool.and_eq_true] at hck
    obtain ⟨⟨c1, c2⟩, c3⟩ := hck
    have c1 := ai_dec_ok c1
    have hop : some (ai_o_getf k0 k1 npc) = some op := hop
    cases hop
    have c2 : npc = pc + 3 := Nat.eq_of_beq_eq_true c2
    subst c2
    obtain ⟨⟨oc, ix, ci, k, pos, nest⟩, hq, hqq⟩ := ai_any_in c3
    simp only [Bool.and_eq_true] at hqq
    obtain ⟨⟨⟨e1, e2⟩, e3⟩, e4⟩ := hqq
    have e1 : oc = M.2.2.2.2.1 := Nat.eq_of_beq_eq_true e1
    have e2 : ix = idx := Nat.eq_of_beq_eq_true e2
    have e3 : ci = k0 := Nat.eq_of_beq_eq_true e3
    have e4 : k = k1 := Nat.eq_of_beq_eq_true e4
    subst e1 e2 e3 e4
    have hb9 := List.all_eq_true.mp ai_bG_ok _ hq
    unfold ai_bG at hb9
    simp only at hb9
    cases hcl : vwCl[ci]? with
    | none => rw [hcl] at hb9; cases hb9
    | some q0 =>
      obtain ⟨C, T, N⟩ := q0
      rw [hcl] at hb9
      simp only [Bool.and_eq_true] at hb9
      obtain ⟨g1, g2⟩ := hb9
      refine so_getf (Ts := u_ws C T N) hx hb (ai_uw hSF.1 hcl) hown hV hcl (of_decide_eq_true g1) (fun w hw => hw) ?_ c1 rfl hK h
      cases hn : Nat.beq nest 0 with
      | true => rw [hn] at g2; exact Or.inl (hSF.1.use (ai_tw_in g2) rfl args)
      | false => rw [hn] at g2; exact Or.inr ⟨"PenPage", hSF.1.use (ai_tw_in g2) rfl args⟩
  | putfield idx =>
    have hck : (ai_dec M.2.1 pc (.putfield idx) 3 && Nat.beq npc (pc + 3) && ai_lp.any (fun q => Nat.beq q.1 M.2.2.2.2.1 && Nat.beq q.2.1 idx && Nat.beq q.2.2.1 k0 && Nat.beq q.2.2.2.1 k1 && Nat.beq q.2.2.2.2.1 k2 && (Nat.beq q.2.2.2.2.2.2 0 || decide (M.1.name = "<init>")))) = true := hck
    simp only [Bool.and_eq_true] at hck
    obtain ⟨⟨c1, c2⟩, c3⟩ := hck
    have c1 := ai_dec_ok c1
    have hop : some (ai_o_putf k0 k1 k2 npc) = some op := hop
    cases hop
    have c2 : npc = pc + 3 := Nat.eq_of_beq_eq_true c2
    subst c2
    obtain ⟨⟨oc, ix, ci, k, t, pos, fin⟩, hq, hqq⟩ := ai_any_in c3
    simp only [Bool.and_eq_true] at hqq
    obtain ⟨⟨⟨⟨⟨e1, e2⟩, e3⟩, e4⟩, e5⟩, e6⟩ := hqq
    have e1 : oc = M.2.2.2.2.1 := Nat.eq_of_beq_eq_true e1
    have e2 : ix = idx := Nat.eq_of_beq_eq_true e2
    have e3 : ci = k0 := Nat.eq_of_beq_eq_true e3
    have e4 : k = k1 := Nat.eq_of_beq_eq_true e4
    have e5 : t = k2 := Nat.eq_of_beq_eq_true e5
    subst e1 e2 e3 e4 e5
    have hb9 := List.all_eq_true.mp ai_bP_ok _ hq
    unfold ai_bP at hb9
    simp only at hb9
    cases hcl : vwCl[ci]? with
    | none => rw [hcl] at hb9; cases hb9
    | some q0 =>
      obtain ⟨C, T, N⟩ := q0
      rw [hcl] at hb9
      simp only [Bool.and_eq_true] at hb9
      obtain ⟨⟨⟨g1, g2⟩, g3⟩, g4⟩ := hb9
      have g1 : k < N := of_decide_eq_true g1
      refine so_putf (Ts := u_ws C T N) (ty0 := ai_ty0 T) hx hb (ai_uw hSF.1 hcl) hown hV hcl g1 (fun w hw => hw) (ai_ty_ok hcl) (ai_nm_ok hcl) ?_ (hSF.1.use (ai_tw_in g2) rfl args) ?_ c1 rfl hK h
      · unfold ai_btyOK at g3
        split at g3 <;> first | exact Or.inl ⟨rfl, by assumption⟩ | exact Or.inr (Or.inl ⟨rfl, by assumption⟩) | exact Or.inr (Or.inr ⟨rfl, Or.inl ⟨_, by assumption⟩⟩) | exact Or.inr (Or.inr ⟨rfl, Or.inr ⟨_, by assumption⟩⟩) | cases g3
      · cases hfin : (T k).2.2.2 with
        | false => exact Or.inl rfl
        | true =>
          rw [hfin] at g4
          simp only [Bool.not_true, Bool.false_or, Bool.and_eq_true] at g4
          have g4a : fin = 1 := Nat.eq_of_beq_eq_true g4.1
          refine Or.inr ⟨rfl, ?_, of_decide_eq_true g4.2⟩
          rw [hname]
          rcases Bool.or_eq_true_iff.mp e6 with e6 | e6
          · have e6 : fin = 0 := Nat.eq_of_beq_eq_true e6
            omega
          · exact of_decide_eq_true e6
  | arraylength =>
    have hck : (ai_dec M.2.1 pc (.arraylength) 1 && Nat.beq npc (pc + 1)) = true := hck
    simp only [Bool.and_eq_true] at hck
    obtain ⟨c1, c2⟩ := hck
    have c1 := ai_dec_ok c1
    have hop : some (ai_o_len sl npc) = some op := hop
    cases hop
    have c2 : npc = pc + 1 := Nat.eq_of_beq_eq_true c2
    subst c2
    exact so_len hx hb hV hXs hbl hbA hL1 ⟨hL2, hL3⟩ c1 rfl hK h
  | iaload =>
    have hck : (ai_dec M.2.1 pc (.iaload) 1 && Nat.beq npc (pc + 1)) = true := hck
    simp only [Bool.and_eq_true] at hck
    obtain ⟨c1, c2⟩ := hck
    have c1 := ai_dec_ok c1
    have hop : some (ai_o_ald sl ai_is1 npc) = some op := hop
    cases hop
    have c2 : npc = pc + 1 := Nat.eq_of_beq_eq_true c2
    subst c2
    exact so_iald hx hb hV hXs hbl hbA hL2 c1 rfl hK h
  | baload =>
    have hck : (ai_dec M.2.1 pc (.baload) 1 && Nat.beq npc (pc + 1)) = true := hck
    simp only [Bool.and_eq_true] at hck
    obtain ⟨c1, c2⟩ := hck
    have c1 := ai_dec_ok c1
    have hop : some (ai_o_ald sl ai_is2 npc) = some op := hop
    cases hop
    have c2 : npc = pc + 1 := Nat.eq_of_beq_eq_true c2
    subst c2
    exact so_bald hx hb hV c1 rfl hK h
  | laload =>
    have hck : (ai_dec M.2.1 pc (.laload) 1 && Nat.beq npc (pc + 1)) = true := hck
    simp only [Bool.and_eq_true] at hck
    obtain ⟨c1, c2⟩ := hck
    have c1 := ai_dec_ok c1
    have hop : some (ai_o_ald sl ai_is3 npc) = some op := hop
    cases hop
    have c2 : npc = pc + 1 := Nat.eq_of_beq_eq_true c2
    subst c2
    exact so_lald hx hb hV c1 rfl hK h
  | aaload =>
    have hck : (ai_dec M.2.1 pc (.aaload) 1 && Nat.beq npc (pc + 1)) = true := hck
    simp only [Bool.and_eq_true] at hck
    obtain ⟨c1, c2⟩ := hck
    have c1 := ai_dec_ok c1
    have hop : some (ai_o_ald sl ai_is4 npc) = some op := hop
    cases hop
    have c2 : npc = pc + 1 := Nat.eq_of_beq_eq_true c2
    subst c2
    exact so_aald hx hb hV c1 rfl hK h
  | iastore =>
    have hck : (ai_dec M.2.1 pc (.iastore) 1 && Nat.beq npc (pc + 1)) = true := hck
    simp only [Bool.and_eq_true] at hck
    obtain ⟨c1, c2⟩ := hck
    have c1 := ai_dec_ok c1
    have hop : some (ai_o_ast 1 npc) = some op := hop
    cases hop
    have c2 : npc = pc + 1 := Nat.eq_of_beq_eq_true c2
    subst c2
    exact so_iast hx hb hV c1 rfl hK h
  | bastore =>
    have hck : (ai_dec M.2.1 pc (.bastore) 1 && Nat.beq npc (pc + 1)) = true := hck
    simp only [Bool.and_eq_true] at hck
    obtain ⟨c1, c2⟩ := hck
    have c1 := ai_dec_ok c1
    have hop : some (ai_o_ast 2 npc) = some op := hop
    cases hop
    have c2 : npc = pc + 1 := Nat.eq_of_beq_eq_true c2
    subst c2
    exact so_bast hx hb hV c1 rfl hK h
  | lastore =>
    have hck : (ai_dec M.2.1 pc (.lastore) 1 && Nat.beq npc (pc + 1)) = true := hck
    simp only [Bool.and_eq_true] at hck
    obtain ⟨c1, c2⟩ := hck
    have c1 := ai_dec_ok c1
    have hop : some (ai_o_ast 3 npc) = some op := hop
    cases hop
    have c2 : npc = pc + 1 := Nat.eq_of_beq_eq_true c2
    subst c2
    exact so_last hx hb hV c1 rfl hK h
  | aastore =>
    have hck : (ai_dec M.2.1 pc (.aastore) 1 && Nat.beq npc (pc + 1)) = true := hck
    simp only [Bool.and_eq_true] at hck
    obtain ⟨c1, c2⟩ := hck
    have c1 := ai_dec_ok c1
    have hop : some (ai_o_aast npc) = some op := hop
    cases hop
    have c2 : npc = pc + 1 := Nat.eq_of_beq_eq_true c2
    subst c2
    exact so_aast hx hb hV c1 rfl hK h
  | newarray t =>
    have hck : (ai_dec M.2.1 pc (.newarray t) 2 && Nat.beq npc (pc + 2) && (match (generalizing := false) t with
      | .int => Nat.beq k0 1 && Nat.beq k1 0
      | .boolean => Nat.beq k0 2 && Nat.beq k1 0
      | .long => Nat.beq k0 3 && Nat.beq k1 4
      | _ => false)) = true := hck
    simp only [Bool.and_eq_true] at hck
    obtain ⟨⟨c1, c2⟩, c3⟩ := hck
    have c1 := ai_dec_ok c1
    have hop : some (ai_o_newa k0 (k1, 0, 0) npc) = some op := hop
    cases hop
    have c2 : npc = pc + 2 := Nat.eq_of_beq_eq_true c2
    subst c2
    have hbA9 := ai_bArr
    simp only [Bool.and_eq_true] at hbA9
    have har : ∀ ty, Cond.arrayClass ty ∈ lw_tbl → (Cond.arrayClass ty).before args s = true := fun ty hty => word_at (State.WarmedH.refl s) (Or.inr ⟨ty, rfl⟩) (hSF.2.2.2.2.2.2.2.2.2.2.2.2 ty hty)
    cases t with
    | int =>
      simp only [Bool.and_eq_true] at c3
      have e1 : k0 = 1 := Nat.eq_of_beq_eq_true c3.1
      have e2 : k1 = 0 := Nat.eq_of_beq_eq_true c3.2
      subst e1 e2
      exact so_newa (ty := .int) (a0 := fun n => (n, .inl (fun _ => 0))) hx hb hV hbs hRc hRs rfl (fun n cA => rfl) (by decide) (fun ws n hn => Or.inr (Or.inl ⟨Or.inl rfl, hn, _, rfl, fun j _ => ai_Rv.mkI (ai_num_i rfl)⟩)) rfl (har _ (ai_tw_in hbA9.1.1)) c1 rfl hK h
    | boolean =>
      simp only [Bool.and_eq_true] at c3
      have e1 : k0 = 2 := Nat.eq_of_beq_eq_true c3.1
      have e2 : k1 = 0 := Nat.eq_of_beq_eq_true c3.2
      subst e1 e2
      exact so_newa (ty := .boolean) (a0 := fun n => (n, .inl (fun _ => 0))) hx hb hV hbs hRc hRs rfl (fun n cA => rfl) (by decide) (fun ws n hn => Or.inr (Or.inl ⟨Or.inr rfl, hn, _, rfl, fun j _ => ai_Rv.mkI (ai_num_i rfl)⟩)) rfl (har _ (ai_tw_in hbA9.1.2)) c1 rfl hK h
    | long =>
      simp only [Bool.and_eq_true] at c3
      have e1 : k0 = 3 := Nat.eq_of_beq_eq_true c3.1
      have e2 : k1 = 4 := Nat.eq_of_beq_eq_true c3.2
      subst e1 e2
      exact so_newa (ty := .long) (a0 := fun n => (n, .inr (.inl (fun _ => 0)))) hx hb hV hbs hRc hRs rfl (fun n cA => rfl) (by decide) (fun ws n hn => Or.inr (Or.inr (Or.inl ⟨rfl, hn, _, rfl, fun j _ => Or.inr (Or.inr (Or.inr (Or.inl ⟨Or.inl rfl, 0, rfl, ai_num_i rfl⟩)))⟩))) rfl (har _ (ai_tw_in hbA9.2)) c1 rfl hK h
    | _ => cases c3
  | anewarray idx =>
    have hck : (ai_dec M.2.1 pc (.anewarray idx) 3 && Nat.beq npc (pc + 3) && ai_la.any (fun q => Nat.beq q.1 M.2.2.2.2.1 && Nat.beq q.2.1 idx && Nat.beq q.2.2.1 k0)) = true := hck
    simp only [Bool.and_eq_true] at hck
    obtain ⟨⟨c1, c2⟩, c3⟩ := hck
    have c1 := ai_dec_ok c1
    have hop : some (ai_o_newa k0 ai_nul npc) = some op := hop
    cases hop
    have c2 : npc = pc + 3 := Nat.eq_of_beq_eq_true c2
    subst c2
    obtain ⟨⟨oc, ix, t, pos⟩, hq, hqq⟩ := ai_any_in c3
    simp only [Bool.and_eq_true] at hqq
    obtain ⟨⟨e1, e2⟩, e3⟩ := hqq
    have e1 : oc = M.2.2.2.2.1 := Nat.eq_of_beq_eq_true e1
    have e2 : ix = idx := Nat.eq_of_beq_eq_true e2
    have e3 : t = k0 := Nat.eq_of_beq_eq_true e3
    subst e1 e2 e3
    have hb9 := List.all_eq_true.mp ai_bA_ok _ hq
    unfold ai_bA at hb9
    simp only at hb9
    cases ht : Nat.beq t 4 with
    | true =>
      rw [ht] at hb9
      have ht : t = 4 := Nat.eq_of_beq_eq_true ht
      subst ht
      exact so_anew (C := "PenPage$Page") hx hb hown hV hbs hRc hRs (Or.inl rfl) rfl (hSF.1.use (ai_tw_in hb9) rfl args) hSF.2.2.1 c1 rfl hK h
    | false =>
      rw [ht] at hb9
      simp only [cond_false, Bool.and_eq_true] at hb9
      have ht : t = 5 := Nat.eq_of_beq_eq_true hb9.1
      subst ht
      exact so_anew (C := "PenPage$Step") hx hb hown hV hbs hRc hRs (Or.inr rfl) rfl (hSF.1.use (ai_tw_in hb9.2) rfl args) hSF.2.2.2.1 c1 rfl hK h
  | multianewarray idx dm =>
    have hck : (ai_dec M.2.1 pc (.multianewarray idx 2) 4 && Nat.beq npc (pc + 4) && ai_lm.any (fun q => Nat.beq q.1 M.2.2.2.2.1 && Nat.beq q.2.1 idx)) = true := hck
    simp only [Bool.and_eq_true] at hck
    obtain ⟨⟨c1, c2⟩, c3⟩ := hck
    have c1 := ai_dec_ok c1
    have hop : some (ai_o_mna npc) = some op := hop
    cases hop
    have c2 : npc = pc + 4 := Nat.eq_of_beq_eq_true c2
    subst c2
    obtain ⟨⟨oc, ix, pos⟩, hq, hqq⟩ := ai_any_in c3
    simp only [Bool.and_eq_true] at hqq
    have e1 : oc = M.2.2.2.2.1 := Nat.eq_of_beq_eq_true hqq.1
    have e2 : ix = idx := Nat.eq_of_beq_eq_true hqq.2
    subst e1 e2
    have hb9 := List.all_eq_true.mp ai_bMn_ok _ hq
    have hbA9 := ai_bArr
    simp only [Bool.and_eq_true] at hbA9
    exact so_mna hx hb hown hV hbs hRc hRs (hSF.1.use (ai_tw_in hb9) rfl args) hSF.2.2.2.2.1 (word_at (State.WarmedH.refl s) (Or.inr ⟨_, rfl⟩) (hSF.2.2.2.2.2.2.2.2.2.2.2.2 _ (ai_tw_in hbA9.1.1))) c1 rfl hK h
  | new idx => exact op_new hCx0 hK hck hop h
  | invokevirtual idx =>
    have hck : (ai_dec M.2.1 pc (.invokevirtual idx) 3 && Nat.beq npc (pc + 3) && ai_lc.any (fun q => Nat.beq q.1 M.2.2.2.2.1 && Nat.beq q.2.1 idx && Nat.beq q.2.2.1 k0 && Nat.beq q.2.2.2.1 k1 && Nat.beq q.2.2.2.2.1 0 && Nat.beq q.2.2.2.2.2.1 (ai_nth 0 ks 0)) && ai_ctok M.2.2.2.2.1 M.2.2.2.2.2.1 pc 2 (ai_nth 0 ks 1) && ai_ctok M.2.2.2.2.1 M.2.2.2.2.2.1 pc 3 (ai_nth 0 ks 2)) = true := hck
    simp only [Bool.and_eq_true] at hck
    obtain ⟨⟨⟨⟨c1, c2⟩, c3⟩, c4⟩, c5⟩ := hck
    have hop : some (ai_o_virt true (ai_nth 0 ks 0) k0 k1 (ai_nth 0 ks 1) (ai_nth 0 ks 2) npc) = some op := hop
    cases hop
    obtain ⟨⟨oc, ix, j, n, kind, ci, pos⟩, hq, hqq⟩ := ai_any_in c3
    simp only [Bool.and_eq_true] at hqq
    obtain ⟨⟨⟨⟨⟨e1, e2⟩, e3⟩, e4⟩, e5⟩, e6⟩ := hqq
    have e1 : oc = M.2.2.2.2.1 := Nat.eq_of_beq_eq_true e1
    have e2 : ix = idx := Nat.eq_of_beq_eq_true e2
    have e3 : j = k0 := Nat.eq_of_beq_eq_true e3
    have e4 : n = k1 := Nat.eq_of_beq_eq_true e4
    have e5 : kind = 0 := Nat.eq_of_beq_eq_true e5
    have e6 : ci = ai_nth 0 ks 0 := Nat.eq_of_beq_eq_true e6
    rw [← e6] at h
    subst e2 e3 e4 e5
    exact op_virt hCx0 hCS e1 hq (ai_dec_ok c1) (Nat.eq_of_beq_eq_true c2) (ai_ct_of hCx0 (Or.inl rfl) c4) (ai_ct_of hCx0 (Or.inr rfl) c5) hK5 hK h
  | invokespecial idx => exact op_special hCx0 hCS hK5 hK hck hop h
  | invokestatic idx => exact op_static hCx0 hCS hK5 hK hck hop h
  | ireturn =>
    have hck : (ai_dec M.2.1 pc .ireturn 1 && (match (generalizing := false) k0 with
      | 0 => decide (M.2.2.2.1 = some .int)
      | _ => decide (M.2.2.2.1 = some .boolean))) = true := hck
    rw [Bool.and_eq_true] at hck
    obtain ⟨c1, c2⟩ := hck
    match k0, c2, hop with
    | 0, c2, hop =>
      have hop : some ai_o_iret = some op := hop
      cases hop
      exact so_iret hx hb hlocks (hret.trans (of_decide_eq_true c2)) hQ (ai_dec_ok c1) h
    | k0 + 1, c2, hop =>
      have hop : some ai_o_zret = some op := hop
      cases hop
      exact so_zret hx hb hlocks (hret.trans (of_decide_eq_true c2)) hQ (ai_dec_ok c1) h
  | areturn =>
    have hck : (ai_dec M.2.1 pc .areturn 1 && (match (generalizing := false) M.2.2.2.1 with
      | some (.object _) => true
      | some (.array _) => true
      | _ => false)) = true := hck
    rw [Bool.and_eq_true] at hck
    obtain ⟨c1, c2⟩ := hck
    have hop : some ai_o_aret = some op := hop
    cases hop
    have hrt : ∃ rt : FieldType, M.2.2.2.1 = some rt ∧ ((∃ n, rt = .object n) ∨ ∃ t, rt = .array t) := by
      split at c2
      · next n hn => exact ⟨_, hn, Or.inl ⟨_, rfl⟩⟩
      · next n hn => exact ⟨_, hn, Or.inr ⟨_, rfl⟩⟩
      · cases c2
    obtain ⟨rt, h1, h2⟩ := hrt
    exact so_aret hx hb hlocks (hret.trans h1) h2 hQ (ai_dec_ok c1) h
  | return_ =>
    have hck : (ai_dec M.2.1 pc .return_ 1 && decide (M.2.2.2.1 = none)) = true := hck
    rw [Bool.and_eq_true] at hck
    have hop : some ai_o_vret = some op := hop
    cases hop
    exact so_vret hx hb hlocks (hret.trans (of_decide_eq_true hck.2)) hQ (ai_dec_ok hck.1) h
  | ldc_w idx =>
    have hck : false = true := hck
    cases hck
  | _ => cases hop
end SND
