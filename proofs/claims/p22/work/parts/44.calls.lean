section OPC
variable {p : Program} {l : Launch} {e : Env} {R : Room} {s : State} {m : MethodId} {args : Array Value} {below : List Frame} {meth : Method} {c : Code} {nL b0 : Nat} {rho : Nat → Int32} {tc dC : Nat → ClassId} {dI : Nat → Nat → Nat} {base : Nat} {ws0 : va_W} {kE sE mk0 ms0 : Nat} {os0 : List ai_O} {Q : State → Prop}
variable {M : ai_M} {L : Nat} {sa : Nat → Nat} {sl : Int × Int} {d : Nat} {call : ai_K} {K : ai_K4} {pc npc : Nat} {loc st : List ai_V} {g : ai_G} {r : ai_R}
theorem ai_loc_le {a d0 r0 : Nat} (h : a ≤ 10) (h2 : 60 * d0 + 360 ≤ r0) : 8 + (a + 11) + (60 * d0 + 300) ≤ r0 := by
  have h3 : 8 + (a + 11) ≤ 60 := Nat.le_trans (Nat.add_le_add_left (Nat.add_le_add_right h 11) 8) (by decide)
  refine Nat.le_trans (Nat.add_le_add_right h3 _) (Nat.le_trans (Nat.le_of_eq ?_) h2)
  rw [Nat.add_comm 60, Nat.add_assoc]
theorem ai_take_recv {vs : List Value} {n : Nat} {w : Value} (hn : 1 ≤ n) (hw : vs[n - 1]? = some w) : (vs.take n).reverse = w :: (vs.take (n - 1)).reverse ∧ vs = (vs.take (n - 1)).reverse.reverse ++ w :: vs.drop n := by
  have hlt : n - 1 < vs.length := (List.getElem?_eq_some_iff.mp hw).1
  have e1 : vs.take n = vs.take (n - 1) ++ [w] := by
    have h0 := List.take_succ (l := vs) (i := n - 1)
    rw [show n - 1 + 1 = n by omega, hw] at h0
    exact h0
  refine ⟨by rw [e1, List.reverse_append]; rfl, ?_⟩
  rw [List.reverse_reverse]
  conv => lhs; rw [← List.take_append_drop n vs, e1, List.append_assoc]
  rfl
/-- the receiver: an object of the class ci -/
theorem ai_recv {H : Heap} {locs : List Loc} {cells slots : Nat} {ls : Array Slot} {vs : List Value} {ws : va_W} {n ci i : Nat} {cl : ai_C} (hV : va_K (dC, dI) vwCl (ai_tys tc) s) (hF : ai_Fr s nL b0 rho tc dC dI base ws0 kE sE loc st g H locs cells slots ls vs ws) (hn : 1 ≤ n) (hnl : n ≤ st.length) (hcell : ai_cell g (ai_nth ai_un st (n - 1)) = some (i, cl)) (h0 : cl.1 = 0) (hci : cl.2.1 = ci) :
    ∃ (b : Nat) (C : String) (T : u_T) (N : Nat), vwCl[ci]? = some (C, T, N) ∧ vs[n - 1]? = some (.ref b) ∧ ∃ cellB : Cell, H[b]? = some cellB ∧ cellB.vm.isStatics = false ∧ s.vm.findClass C = some cellB.cls := by
  obtain ⟨f0, f1, f2, f3, f4, f5, f6, f7, f8⟩ := hF
  have hlt : n - 1 < st.length := by omega
  have hst : st[n - 1]? = some st[n - 1] := List.getElem?_eq_getElem hlt
  obtain ⟨w, q1, q2⟩ := f2.at hst
  have e9 : ai_nth ai_un st (n - 1) = st[n - 1] := by rw [ai_nth_eq, hst]; rfl
  rw [e9] at hcell
  obtain ⟨gh, gx⟩ := g
  obtain ⟨gn, gy⟩ := gx
  obtain ⟨b, e1, rfl, k1, -, -, k2⟩ := ai_cell_ok (x := gy) f3 hcell q2
  rcases k2 with ⟨-, us, rfl, -⟩ | ⟨k2, -⟩ | ⟨k2, -⟩ | ⟨k2, -⟩
  · obtain ⟨⟨C, T, N⟩, hr, cellB, hB, hc1, hc2, -⟩ := f4 i _ k1
    have hr : vwCl[cl.2.1]? = some (C, T, N) := hr
    rw [hci] at hr
    have hB : H[b]? = some cellB := hB
    refine ⟨b, C, T, N, hr, q1, cellB, hB, by rw [hc2]; rfl, ?_⟩
    have hc1 : cellB.cls = dC cl.2.1 := hc1
    rw [hc1, hci]
    exact (hV.1 ci _ hr).2.1
  · exfalso; omega
  · exfalso; omega
  · exfalso; omega
theorem ai_noX {os : List ai_O} {ws : va_W} (h : ∀ q ∈ os, q.1 ≤ 1) : ∀ E st t, ¬ ai_XC b0 rho tc dC dI base ws os E st t := by
  rintro E st t ⟨q, hq, w1, -, h23, -⟩
  have := h q hq
  omega
theorem ai_any3 {α : Type} {p1 : α → Bool} {l1 : List α} (h : l1.any p1 = true) : ∃ q ∈ l1, p1 q = true := List.any_eq_true.mp h
/-- a call by invokevirtual -/
theorem op_virt (hCx : ai_Cx p l e R s m args below meth c nL b0 rho tc dC dI base ws0 kE sE mk0 ms0 os0 Q M L sa sl d) (hCS : ai_CS l b0 L base rho tc dC dI sa call d) {oc idx j n ci pos h2 h3 : Nat} (hoc : oc = M.2.2.2.2.1) (hlc : (oc, idx, j, n, 0, ci, pos) ∈ ai_lc) (hdg : decode M.2.1 pc = .ok (.invokevirtual idx, 3)) (hnpc : npc = pc + 3)
    (hc2 : ai_Ct p l e R s m args below meth c Q pc 2 h2) (hc3 : ai_Ct p l e R s m args below meth c Q pc 3 h3) (hK5 : ∀ loc st g, K 65535 loc st g = none) (hK : ai_KS p l e R s m args below meth c nL b0 rho tc dC dI base ws0 kE sE mk0 ms0 os0 Q K) (h : ai_o_virt true ci j n h2 h3 npc call K loc st g = some r) : ai_At p l e R s m args below meth c nL b0 rho tc dC dI base ws0 kE sE mk0 ms0 os0 Q pc loc st g r := by
  obtain ⟨⟨hx, hb, hml, hMl, hown, hlocks, hret, hname, htab⟩, hst, hSF, hD, hL, ⟨hRc, hRs⟩, hQ, hfr, hlo⟩ := hCx
  have hbl := List.all_eq_true.mp ai_bCl_ok _ hlc
  unfold ai_bCl at hbl
  simp only at hbl
  cases hM : ai_meths[j]? with
  | none => rw [hM] at hbl; cases hbl
  | some M2 =>
    cases hq : ai_mw[j]? with
    | none => rw [hM, hq] at hbl; cases hbl
    | some qq =>
      obtain ⟨p1, p2, p3, p4, ar, kd⟩ := qq
      rw [hM, hq] at hbl
      simp only [Bool.and_eq_true] at hbl
      obtain ⟨hj, ⟨⟨b1, b2⟩, b3⟩, b4⟩ := hbl
      have hj : j ≠ 0 := of_decide_eq_true hj
      have b2 : kd = 0 := Nat.eq_of_beq_eq_true b2
      have b3 : n = ar + 1 := Nat.eq_of_beq_eq_true b3
      obtain ⟨m1, m2, m3, m4, m5, m6, -, -, m9, -, -, -⟩ := ai_mfacts hSF.1 (args := args) hj hM hq
      obtain ⟨m9a, m9b, m9c⟩ := m9 b2
      unfold ai_o_virt at h
      have hn1 : Nat.pred n = n - 1 := rfl
      rw [hn1] at h
      cases hcell : ai_cell g (ai_nth ai_un st (n - 1)) with
      | none => rw [hcell] at h; cases h
      | some q0 =>
        obtain ⟨i, t0, c0, z1, z2⟩ := q0
        rw [hcell] at h
        simp only at h
        cases hcc : (Nat.beq t0 0 && Nat.beq c0 ci) with
        | false => rw [hcc] at h; cases h
        | true =>
          rw [hcc] at h
          rw [Bool.and_eq_true] at hcc
          have h0 : t0 = 0 := Nat.eq_of_beq_eq_true hcc.1
          have hci : c0 = ci := Nat.eq_of_beq_eq_true hcc.2
          refine so_call hlocks hnpc hRc hRs hQ (fun {H locs cells slots ls vs ws os x1 x2} hF hcl hnl hd4 _ hmc hms => ?_) hc2 hc3 hK5 hK h
          obtain ⟨bA, C, T, N, hcl9, hrv, cellB, hB, hBs, hBc⟩ := ai_recv hSF.2.1 hF (by omega) hnl hcell h0 hci
          obtain ⟨e1, e2⟩ := ai_take_recv (by omega) hrv
          obtain ⟨f0, f1, f2, f3, f4, f5, f6, f7, f8⟩ := hF
          have hmet := (hCS j _ g os x1 x2 hcl) M2 hM hj ws ((vs.take n).reverse) f3 f5 f7 ((f2.take n).rev)
          rw [ai_code_nil m9c] at hmet m1 m2
          rw [hcl9] at b4
          have b4 : M2.1.cls = C := of_decide_eq_true b4
          refine ⟨(Value.ref bA :: (vs.take (n - 1)).reverse).toArray, vx_runV (cc := M.2.1) (nL := nL) (own := ai_cn M.2.2.2.2.1) (C := C) (index := idx) (n := ar) (b := bA) (As := (vs.take (n - 1)).reverse) (Ts := []) ⟨hx, hb, hml, hown, fun w hw => nomatch hw⟩ hmet
            ⟨⟨rfl, rfl, ?_, ?_, m1, List.mem_singleton.mpr rfl, m2, m3, m4, m5, ?_⟩, m9a, ?_⟩ ⟨ai_Pc.blind, ⟨cellB, hB, hBs, hBc⟩, fun U hU hW => ⟨by rw [e1], by rw [hU]; exact f4, ai_SF.moved hSF hW (by rw [hU]; exact f6)⟩⟩ rfl ?_ ?_ ?_ ?_ ?_ ⟨hmc, hms⟩⟩
          · show d + 8 + 1 ≤ R.frames; omega
          · exact ai_loc_le m6 hlo
          · rw [← hoc]; exact hSF.1.use (ai_tw_in b1) rfl args
          · rw [← b4]; exact m9b
          · have := f2.len
            rw [List.length_reverse, List.length_take]; omega
          · exact f1.sz
          · exact e2
          · exact lv_room hd4
          · exact hdg
theorem ai_lc_ok {oc idx j n kind ci pos : Nat} (hlc : (oc, idx, j, n, kind, ci, pos) ∈ ai_lc) : ∃ (M2 : ai_M) (p1 p2 p3 p4 ar kd : Nat), ai_meths[j]? = some M2 ∧ ai_mw[j]? = some (p1, p2, p3, p4, ar, kd) ∧ j ≠ 0 ∧
    (kind = 1 → Cond.methodLink (ai_cn oc) idx M2.1 ∈ lw_tbl ∧ kd = 3 ∧ n = ar + 1) ∧ (kind = 2 → Cond.methodLinkNest (ai_cn oc) idx M2.1 "PenPage" ∈ lw_tbl ∧ kd = 3 ∧ n = ar + 1) ∧ (kind = 3 → Cond.methodLink (ai_cn oc) idx M2.1 ∈ lw_tbl ∧ kd = 1 ∧ n = ar) ∧
    (kind = 4 → Cond.methodLink (ai_cn oc) idx M2.1 ∈ lw_tbl ∧ kd = 2 ∧ n = ar) ∧ (kind = 6 → Cond.methodLinkNest (ai_cn oc) idx M2.1 "PenPage" ∈ lw_tbl ∧ kd = 1 ∧ n = ar) := by
  have hbl := List.all_eq_true.mp ai_bCl_ok _ hlc
  unfold ai_bCl at hbl
  simp only at hbl
  cases hM : ai_meths[j]? with
  | none => rw [hM] at hbl; cases hbl
  | some M2 =>
    cases hq : ai_mw[j]? with
    | none => rw [hM, hq] at hbl; cases hbl
    | some qq =>
      obtain ⟨p1, p2, p3, p4, ar, kd⟩ := qq
      rw [hM, hq] at hbl
      rw [Bool.and_eq_true] at hbl
      obtain ⟨hj, hk⟩ := hbl
      refine ⟨M2, p1, p2, p3, p4, ar, kd, rfl, rfl, of_decide_eq_true hj, fun e => ?_, fun e => ?_, fun e => ?_, fun e => ?_, fun e => ?_⟩ <;>
      · subst e
        simp only [Bool.and_eq_true] at hk
        exact ⟨ai_tw_in hk.1.1, Nat.eq_of_beq_eq_true hk.1.2, Nat.eq_of_beq_eq_true hk.2⟩
/-- a constructor's call by invokespecial -/
theorem op_spec (hCx : ai_Cx p l e R s m args below meth c nL b0 rho tc dC dI base ws0 kE sE mk0 ms0 os0 Q M L sa sl d) (hCS : ai_CS l b0 L base rho tc dC dI sa call d) {oc idx j n ci pos kind cj : Nat} (hoc : oc = M.2.2.2.2.1) (hkd : kind = 1 ∨ kind = 2) (hlc : (oc, idx, j, n, kind, cj, pos) ∈ ai_lc) (hdg : decode M.2.1 pc = .ok (.invokespecial idx, 3)) (hnpc : npc = pc + 3)
    (hc2 : ai_Ct p l e R s m args below meth c Q pc 2 0) (hc3 : ai_Ct p l e R s m args below meth c Q pc 3 0) (hK5 : ∀ loc st g, K 65535 loc st g = none) (hK : ai_KS p l e R s m args below meth c nL b0 rho tc dC dI base ws0 kE sE mk0 ms0 os0 Q K) (h : ai_o_virt false ci j n 0 0 npc call K loc st g = some r) : ai_At p l e R s m args below meth c nL b0 rho tc dC dI base ws0 kE sE mk0 ms0 os0 Q pc loc st g r := by
  obtain ⟨⟨hx, hb, hml, hMl, hown, hlocks, hret, hname, htab⟩, hst, hSF, hD, hL, ⟨hRc, hRs⟩, hQ, hfr, hlo⟩ := hCx
  obtain ⟨M2, p1, p2, p3, p4, ar, kd, hM, hq, hj, b1, b2, -, -, -⟩ := ai_lc_ok hlc
  have hnk : n = ar + 1 ∧ kd = 3 := by
    rcases hkd with hk | hk
    · exact ⟨(b1 hk).2.2, (b1 hk).2.1⟩
    · exact ⟨(b2 hk).2.2, (b2 hk).2.1⟩
  obtain ⟨m1, m2, m3, m4, m5, m6, -, -, -, -, -, m9⟩ := ai_mfacts hSF.1 (args := args) hj hM hq
  obtain ⟨m9a, m9c, m9d, m9e⟩ := m9 hnk.2
  unfold ai_o_virt at h
  have hn1 : Nat.pred n = n - 1 := rfl
  rw [hn1] at h
  cases hcell : ai_cell g (ai_nth ai_un st (n - 1)) with
  | none => rw [hcell] at h; cases h
  | some q0 =>
    obtain ⟨i, t0, c0, z1, z2⟩ := q0
    rw [hcell] at h
    simp only at h
    cases hcc : (Nat.beq t0 0 && Nat.beq c0 ci) with
    | false => rw [hcc] at h; cases h
    | true =>
      rw [hcc] at h
      rw [Bool.and_eq_true] at hcc
      have h0 : t0 = 0 := Nat.eq_of_beq_eq_true hcc.1
      have hci : c0 = ci := Nat.eq_of_beq_eq_true hcc.2
      refine so_call hlocks hnpc hRc hRs hQ (fun {H locs cells slots ls vs ws os x1 x2} hF hcl hnl hd4 hvk hmc hms => ?_) hc2 hc3 hK5 hK h
      have hvk : ∀ q ∈ os, q.1 ≤ 1 := by
        rcases hvk with hv | hv
        · cases hv
        · exact hv
      obtain ⟨bA, C, T, N, hcl9, hrv, cellB, hB, hBs, hBc⟩ := ai_recv hSF.2.1 hF (by omega) hnl hcell h0 hci
      obtain ⟨e1, e2⟩ := ai_take_recv (by omega) hrv
      obtain ⟨f0, f1, f2, f3, f4, f5, f6, f7, f8⟩ := hF
      have hmet := (hCS j _ g os x1 x2 hcl) M2 hM hj ws ((vs.take n).reverse) f3 f5 f7 ((f2.take n).rev)
      rw [ai_code_nil m9c, m9e] at hmet m1 m2
      have hmet := ai_met hmet (ai_noX hvk)
      have hlen : (vs.take (n - 1)).reverse.length = ar := by
        have := f2.len
        rw [List.length_reverse, List.length_take]; omega
      have hPre : PreS s H (ai_Pc b0 L base rho tc dC dI sa ws ((vs.take n).reverse)) (.ref bA :: (vs.take (n - 1)).reverse) := ⟨ai_Pc.blind, fun U hU hW => ⟨by rw [e1], by rw [hU]; exact f4, ai_SF.moved hSF hW (by rw [hU]; exact f6)⟩⟩
      have hfr9 : d + 8 + 1 ≤ R.frames := by omega
      refine ⟨(Value.ref bA :: (vs.take (n - 1)).reverse).toArray, ?_⟩
      rcases hkd with hk | hk
      · have hl1 : (Cond.methodLink (ai_cn M.2.2.2.2.1) idx M2.1).before args s = true := by rw [← hoc]; exact hSF.1.use (b1 hk).1 rfl args
        exact ai_run_x (va_runI (cc := M.2.1) (nL := nL) (own := ai_cn M.2.2.2.2.1) (index := idx) (n := ar) (b := bA) (As := (vs.take (n - 1)).reverse) (Ts := []) ⟨hx, hb, hml, hown, fun w hw => nomatch hw⟩ hmet
          ⟨⟨rfl, rfl, hfr9, ai_loc_le m6 hlo, m1, List.mem_singleton.mpr rfl, m2, m3, m4, m5, hl1⟩, m9d, m9a⟩ hPre rfl hlen f1.sz e2 (lv_room hd4) hdg ⟨hmc, hms⟩)
      · have hl1 : (Cond.methodLinkNest (ai_cn M.2.2.2.2.1) idx M2.1 "PenPage").before args s = true := by rw [← hoc]; exact hSF.1.use (b2 hk).1 rfl args
        exact ai_run_x (va_runIN (cc := M.2.1) (nL := nL) (own := ai_cn M.2.2.2.2.1) (index := idx) (n := ar) (b := bA) (As := (vs.take (n - 1)).reverse) (Ts := []) ⟨hx, hb, hml, hown, fun w hw => nomatch hw⟩ hmet
          ⟨⟨⟨rfl, rfl, hfr9, ai_loc_le m6 hlo, m1, List.mem_singleton.mpr rfl⟩, m2, m3, m4, m5, hl1⟩, m9d, m9a⟩ hPre rfl hlen f1.sz e2 (lv_room hd4) hdg ⟨hmc, hms⟩)
/-- a static call -/
theorem op_stat (hCx : ai_Cx p l e R s m args below meth c nL b0 rho tc dC dI base ws0 kE sE mk0 ms0 os0 Q M L sa sl d) (hCS : ai_CS l b0 L base rho tc dC dI sa call d) {oc idx j n pos kind cj : Nat} (hoc : oc = M.2.2.2.2.1) (hkd : kind = 3 ∨ kind = 4 ∨ kind = 6) (hlc : (oc, idx, j, n, kind, cj, pos) ∈ ai_lc) (hdg : decode M.2.1 pc = .ok (.invokestatic idx, 3)) (hnpc : npc = pc + 3)
    (hc2 : ai_Ct p l e R s m args below meth c Q pc 2 0) (hc3 : ai_Ct p l e R s m args below meth c Q pc 3 0) (hK5 : ∀ loc st g, K 65535 loc st g = none) (hK : ai_KS p l e R s m args below meth c nL b0 rho tc dC dI base ws0 kE sE mk0 ms0 os0 Q K) (h : ai_o_call false j n 0 0 npc call K loc st g = some r) : ai_At p l e R s m args below meth c nL b0 rho tc dC dI base ws0 kE sE mk0 ms0 os0 Q pc loc st g r := by
  obtain ⟨⟨hx, hb, hml, hMl, hown, hlocks, hret, hname, htab⟩, hst, hSF, hD, hL, ⟨hRc, hRs⟩, hQ, hfr, hlo⟩ := hCx
  obtain ⟨M2, p1, p2, p3, p4, ar, kd, hM, hq, hj, -, -, b3, b4, b6⟩ := ai_lc_ok hlc
  have hnk : n = ar := by
    rcases hkd with hk | hk | hk
    · exact (b3 hk).2.2
    · exact (b4 hk).2.2
    · exact (b6 hk).2.2
  obtain ⟨m1, m2, m3, m4, m5, m6, -, -, -, q1, q2, -⟩ := ai_mfacts hSF.1 (args := args) hj hM hq
  refine so_call hlocks hnpc hRc hRs hQ (fun {H locs cells slots ls vs ws os x1 x2} hF hcl hnl hd4 hvk hmc hms => ?_) hc2 hc3 hK5 hK h
  have hvk : ∀ q ∈ os, q.1 ≤ 1 := by
    rcases hvk with hv | hv
    · cases hv
    · exact hv
  obtain ⟨f0, f1, f2, f3, f4, f5, f6, f7, f8⟩ := hF
  have hmet := (hCS j _ g os x1 x2 hcl) M2 hM hj ws ((vs.take n).reverse) f3 f5 f7 ((f2.take n).rev)
  have hlen : (vs.take n).reverse.length = ar := by
    have := f2.len
    rw [List.length_reverse, List.length_take]; omega
  have hstk : vs = (vs.take n).reverse.reverse ++ vs.drop n := by rw [List.reverse_reverse, List.take_append_drop]
  have hPre : PreS s H (ai_Pc b0 L base rho tc dC dI sa ws ((vs.take n).reverse)) ((vs.take n).reverse) := ⟨ai_Pc.blind, fun U hU hW => ⟨rfl, by rw [hU]; exact f4, ai_SF.moved hSF hW (by rw [hU]; exact f6)⟩⟩
  have hfr9 : d + 8 + 1 ≤ R.frames := by omega
  refine ⟨((vs.take n).reverse).toArray, ?_⟩
  rcases hkd with hk | hk | hk
  · obtain ⟨q1a, q1b⟩ := q1 (b3 hk).2.1
    rw [ai_code_nil q1b] at hmet m1 m2
    have hl1 : (Cond.methodLink (ai_cn M.2.2.2.2.1) idx M2.1).before args s = true := by rw [← hoc]; exact hSF.1.use (b3 hk).1 rfl args
    exact vx_runS (cc := M.2.1) (nL := nL) (own := ai_cn M.2.2.2.2.1) (index := idx) (n := ar) (As := (vs.take n).reverse) (Ts := []) ⟨hx, hb, hml, hown, fun w hw => nomatch hw⟩ hmet
      ⟨⟨rfl, rfl, hfr9, ai_loc_le m6 hlo, m1, List.mem_singleton.mpr rfl, m2, m3, m4, m5, hl1⟩, q1a⟩ hPre rfl hlen f1.sz hstk (lv_room hd4) hdg ⟨hmc, hms⟩
  · obtain ⟨q1a, q1b⟩ := q2 (b4 hk).2.1
    rw [ai_code_cons q1b] at hmet m1 m2
    have hl1 : (Cond.methodLink (ai_cn M.2.2.2.2.1) idx M2.1).before args s = true := by rw [← hoc]; exact hSF.1.use (b4 hk).1 rfl args
    exact vx_runSX (cc := M.2.1) (nL := nL) (own := ai_cn M.2.2.2.2.1) (index := idx) (n := ar) (As := (vs.take n).reverse) (Ts := []) ⟨hx, hb, hml, hown, fun w hw => nomatch hw⟩ hmet
      ⟨⟨rfl, rfl, hfr9, ai_loc_le m6 hlo, m1, List.mem_singleton.mpr rfl⟩, m2, m3, m4, m5, hl1, q1a⟩ hPre rfl hlen f1.sz hstk (lv_room hd4) hdg ⟨hmc, hms⟩
  · obtain ⟨q1a, q1b⟩ := q1 (b6 hk).2.1
    rw [ai_code_nil q1b] at hmet m1 m2
    have hl1 : (Cond.methodLinkNest (ai_cn M.2.2.2.2.1) idx M2.1 "PenPage").before args s = true := by rw [← hoc]; exact hSF.1.use (b6 hk).1 rfl args
    exact ai_run_x (va_runSN (cc := M.2.1) (nL := nL) (own := ai_cn M.2.2.2.2.1) (index := idx) (n := ar) (As := (vs.take n).reverse) (Ts := []) ⟨hx, hb, hml, hown, fun w hw => nomatch hw⟩ (ai_met hmet (ai_noX hvk))
      ⟨⟨⟨rfl, rfl, hfr9, ai_loc_le m6 hlo, m1, List.mem_singleton.mpr rfl⟩, m2, m3, m4, m5, hl1⟩, q1a, trivial⟩ hPre rfl hlen f1.sz hstk (lv_room hd4) hdg ⟨hmc, hms⟩)
end OPC
