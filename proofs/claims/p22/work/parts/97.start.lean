/-! ===== the law's start ===== -/
theorem ai_arrI {s : State} {args : Array Value} {ty : FieldType} (h : (Cond.arrayClass ty).before args s = true) : ∃ cA, ArrOfT s cA ty ∧ s.vm.findClass ("[" ++ ty.toString) = some cA := by
  obtain ⟨c, k, comp, h1, h2, h3⟩ := Cond.arrayClass_spec h
  exact ⟨c, fun n z => ⟨(fun q hq => by cases hq), k, h2, comp, h3⟩, h1⟩
theorem ai_arrO {s : State} {args : Array Value} {C : String} (h : (Cond.arrayOver (.object C)).before args s = true) : ∃ cA, ArrOfT s cA (.object C) ∧ va_RA s cA (.object C) := by
  obtain ⟨comp, c, k, h1, -, h3, h4, h5⟩ := Cond.arrayOver_spec h
  exact ⟨c, fun n z => ⟨(fun q hq => by cases hq), k, h3, comp, h4⟩, k, comp, h3, h4, h1, h5⟩
theorem ai_arrA {s : State} {args : Array Value} {ty : FieldType} (h : (Cond.arrayOver (.array ty)).before args s = true) : ∃ cA, ArrOfT s cA (.array ty) ∧ va_RA s cA (.array ty) := by
  simp only [Cond.before, Cond.holds, Cond.value, beq_iff_eq] at h
  cases hc : s.vm.findClass (FieldType.array ty).toString with
  | none => simp [hc] at h
  | some comp =>
    simp only [hc, Option.bind_some, Option.bind_eq_some_iff, Option.map_eq_some_iff] at h
    obtain ⟨c, hi, k, hk, hb⟩ := h
    cases hkind : k.kind with
    | array component t9 =>
      rw [hkind] at hb
      simp at hb
      refine ⟨c, fun n z => ⟨(fun q hq => by cases hq), k, hk, component, by rw [hkind, hb.1]⟩, ?_⟩
      exact hb.2
    | _ => rw [hkind] at hb; simp at hb
theorem ai_bI : (List.range 9).all (fun ci => ai_ln.any (fun q => Nat.beq q.2.2.1 ci)) = true := by decide +kernel
theorem ai_bS : ai_strs.all (fun q => decide (q.1 = "PenPage") && decide (Cond.stringRef q.1 q.2.1 q.2.2 ∈ tables_1)) = true := by decide +kernel
theorem ai_bX : (ai_tw 27 (.arrayOver (.object "PenPage$Page")) && ai_tw 35 (.arrayOver (.object "PenPage$Step")) && ai_tw 145 (.arrayOver (.array .int)) && decide (Cond.laysStatic Bundle.tN "UNASSIGNED_STACK" Bundle.steD ∈ tables_1) && decide (Cond.laysStatic Bundle.tN "SUPPRESSED_SENTINEL" Bundle.listD ∈ tables_1) && decide (Cond.initialized Bundle.tN ∈ tables_1)) = true := by decide +kernel
def ai_tcs (c1 c2 c3 c4 c5 c6 : ClassId) : Nat → ClassId
  | 1 => c1
  | 2 => c2
  | 3 => c3
  | 4 => c4
  | 5 => c5
  | _ => c6
theorem ai_start {s : State} {b L : Nat} {rho : Nat → Int32} (hts : ∀ w ∈ lw_tbl, w.before #[Value.ref b] s = true) (hX : va_X b L rho s s.heap) (hbl : b < s.heap.size) (hgv : (Jvm.Cond.and given_1 narrow_1).before #[Value.ref b] s = true) :
    ∃ (tc dC : Nat → ClassId) (dI : Nat → Nat → Nat) (sa : Nat → Nat), ai_SF b L s.heap.size rho tc dC dI sa s := by
  have hAW : ai_AW s := fun w hw ho => va_any ho (hts w hw)
  have hcl : ∀ ci : Nat, ∃ (cC : ClassId) (iS : Nat → Nat), ∀ q : vw_C, vwCl[ci]? = some q → u_Kn s q.1 q.2.1 q.2.2 cC iS := by
    intro ci
    cases hq : vwCl[ci]? with
    | none => exact ⟨0, fun _ => 0, fun q hq2 => by cases hq2⟩
    | some q =>
      obtain ⟨C, T, N⟩ := q
      obtain ⟨⟨oc, idx, ci2, p1, p2, p3⟩, h1, h2⟩ := ai_any_in (List.all_eq_true.mp ai_bI ci (List.mem_range.mpr (ai_vwlt hq)))
      have h2 : ci2 = ci := Nat.eq_of_beq_eq_true h2
      subst h2
      have hb9 := List.all_eq_true.mp ai_bN_ok _ h1
      unfold ai_bN at hb9
      simp only [hq, Bool.and_eq_true] at hb9
      obtain ⟨cC, iS, hk⟩ := u_known (ws := u_ws C T N) (args := #[Value.ref b]) (ai_uw hAW hq) (fun w hw => hw) (hts _ (ai_tw_in hb9.1.1.1.1.2))
      exact ⟨cC, iS, fun q2 hq2 => by cases hq2; exact hk⟩
  obtain ⟨dC, hdC⟩ := Classical.axiomOfChoice hcl
  obtain ⟨dI, hdI⟩ := Classical.axiomOfChoice hdC
  have hbX := ai_bX
  have hbA := ai_bArr
  simp only [Bool.and_eq_true] at hbX hbA
  obtain ⟨⟨⟨⟨⟨x1, x2⟩, x3⟩, x4⟩, x5⟩, x6⟩ := hbX
  have tin : ∀ {w : Cond}, decide (w ∈ tables_1) = true → w ∈ lw_tbl := fun h => List.mem_append_right _ (of_decide_eq_true h)
  obtain ⟨c1, a1, r1⟩ := ai_arrI (hts _ (ai_tw_in hbA.1.1))
  obtain ⟨c2, a2, r2⟩ := ai_arrI (hts _ (ai_tw_in hbA.1.2))
  obtain ⟨c3, a3, r3⟩ := ai_arrI (hts _ (ai_tw_in hbA.2))
  obtain ⟨c4, a4, r4⟩ := ai_arrO (hts _ (ai_tw_in x1))
  obtain ⟨c5, a5, r5⟩ := ai_arrO (hts _ (ai_tw_in x2))
  obtain ⟨c6, a6, r6⟩ := ai_arrA (hts _ (ai_tw_in x3))
  have hPP : s.vm.findClass "PenPage" = some (dC 7) := (hdI 7 (RX7, TX7, 15) rfl).2.1
  have hst : ∀ k : Nat, ∃ a : Nat, ∀ q : String × Nat × String, ai_strs[k]? = some q → vk_R q.1 q.2.1 q.2.2 a s := by
    intro k
    cases hq : ai_strs[k]? with
    | none => exact ⟨0, fun q hq2 => by cases hq2⟩
    | some q =>
      obtain ⟨o, i, tx⟩ := q
      have h1 := List.all_eq_true.mp ai_bS _ (List.mem_of_getElem? hq)
      simp only [Bool.and_eq_true] at h1
      have h2 : o = "PenPage" := of_decide_eq_true h1.1
      subst h2
      have hw := hts _ (tin h1.2)
      obtain ⟨k9, cf, i9, a, -, -, -, -, -, hev⟩ := Cond.stringRef_spec (first := s) (o := none) (idx := []) hPP hw
      exact ⟨a, fun q2 hq2 => by cases hq2; exact vk_R.of hw hev⟩
  obtain ⟨sa, hsa⟩ := Classical.axiomOfChoice hst
  have hfl := flat_of_before _ hgv
  refine ⟨ai_tcs c1 c2 c3 c4 c5 c6, dC, dI, sa, hAW, ⟨fun c q hq => hdI c q hq, ?_⟩, va_AO.of (hts _ (ai_tw_in x1)), va_AO.of (hts _ (ai_tw_in x2)), va_AOA.of (hts _ (ai_tw_in x3)), fun k q hq => hsa k q hq,
    vx_Zqof (hts _ (tin x4)) (hts _ (tin x6)) (hfl _ (by decide +kernel)) (fun a ha => Nat.not_le.mpr ha), vx_Zqof (hts _ (tin x5)) (hts _ (tin x6)) (hfl _ (by decide +kernel)) (fun a ha => Nat.not_le.mpr ha), hX, Nat.le_refl _, hbl, va_Nc.of (hfl _ (by decide +kernel)), fun ty hty => word_at (State.WarmedH.refl s) (Or.inr ⟨ty, rfl⟩) (hts _ hty)⟩
  intro k q hq
  match k, hq with
  | 0, hq => cases hq; exact ⟨a1, r1⟩
  | 1, hq => cases hq; exact ⟨a2, r2⟩
  | 2, hq => cases hq; exact ⟨a3, r3⟩
  | 3, hq => cases hq; exact ⟨a4, r4⟩
  | 4, hq => cases hq; exact ⟨a5, r5⟩
  | 5, hq => cases hq; exact ⟨a6, r6⟩
  | k + 6, hq => cases hq
def ai_rho (xs : Nat → Int32) : Nat → Int32 := fun k => if k = 1006 then xs 2 / 100 else if k = 1007 then xs 2 - xs 2 / 100 * 100 else if k = 1008 then xs 0 &&& 31 else xs k
theorem ai_rho_D (xs : Nat → Int32) : ai_D (ai_rho xs) := ⟨rfl, rfl, rfl⟩
theorem ai_rho_lt {xs : Nat → Int32} {k : Nat} (h : k < 1006) : ai_rho xs k = xs k := by
  unfold ai_rho
  rw [if_neg (by omega), if_neg (by omega), if_neg (by omega)]
noncomputable def ai_scr (xs : Nat → Int32) (L : Nat) : ai_E := (List.range L).map (fun k => ((xs k).toInt, (xs k).toInt))
theorem ai_scr_lt {xs : Nat → Int32} {L k : Nat} (h : k < L) : ai_env (ai_scr xs L) k = ((xs k).toInt, (xs k).toInt) := by
  unfold ai_env ai_scr
  rw [ai_nth_eq]
  simp [h]
theorem ai_scr_ge {xs : Nat → Int32} {L k : Nat} (h : ¬ k < L) : ai_env (ai_scr xs L) k = (ai_lo, ai_hi) := by
  unfold ai_env ai_scr
  rw [ai_nth_eq]
  simp [h]
theorem ai_scr_EV {xs : Nat → Int32} {L : Nat} (hL : L ≤ 1000) : ai_EV (ai_rho xs) (ai_scr xs L) := fun k => by
  by_cases h : k < L
  · rw [ai_scr_lt h, ai_rho_lt (by omega)]
    exact ⟨Int.le_refl _, Int.le_refl _⟩
  · rw [ai_scr_ge h]
    have h9 := ai_le32 (ai_rho xs k)
    exact ⟨by show ai_lo ≤ _; rw [ai_lo_eq]; exact h9.1, by show _ ≤ ai_hi; rw [ai_hi_eq]; exact h9.2⟩
theorem ai_scr_sv {xs : Nat → Int32} {L k : Nat} (h : k < L) : ai_sv (ai_scr xs L) k = ai_i (xs k).toInt := by
  unfold ai_sv
  rw [ai_scr_lt h]
  show cond (ai_ieq (xs k).toInt (xs k).toInt) _ _ = _
  rw [cm_ieq]; rfl
theorem whole_start (l : Launch) (hst : l.stackTraces = false) {p : Program} {e : Env} {s : State} {m : MethodId} {below : List Frame} {meth : Method} {c : Code} {b L : Nat} {xs : Nat → Int32} (hnm : meth.name = "law") (htab : c.exceptionTable.toList = []) (hL6 : L ≤ 384) (hA : lw_At p s m meth c b L xs) :
    W p l e room_1 s m #[Value.ref b] below meth c s.heap [] 0 0 (lw_Z below #[Value.ref b] s) (entryFrame m ([Value.ref b] : List Value).toArray 7) := by
  obtain ⟨hx, hb, hret, hml, hown, hts, hX, hbl, hlk, hgv⟩ := hA
  have hX2 : va_X b L (ai_rho xs) s s.heap := by
    obtain ⟨scr, h1, h2, h3, h4, h5⟩ := hX
    exact ⟨scr, h1, h2, h3, h4, fun j hj => by rw [ai_rho_lt (by omega)]; exact h5 j hj⟩
  obtain ⟨tc, dC, dI, sa, hSF⟩ := ai_start hts hX2 hbl hgv
  have hwp := law_run (sl := ((L : Int), (L : Int))) (x := ai_scr xs L) (d := 0) (L := (L : Int)) (sv := fun k => (xs k).toInt) rfl (fun k hk => ⟨ai_scr_sv (by omega), ai_le32 (xs k)⟩) (by omega)
  obtain ⟨⟨os, x1, x2⟩, nst, hr, hne, ⟨-, hx1, -, hx2⟩, hos0⟩ := hwp (ai_rep 10 (99, 0, [], [])) ⟨by decide, fun i hi => absurd hi (Nat.not_lt_zero _)⟩
  have hr := hr nst (Nat.le_refl _)
  have hos : ∀ q ∈ os, q.1 = 1 ∧ q.2.1.1 = 0 ∧ q.2.1.2.1 = 1 ∧ q.2.1.2.2 = 1 := fun q hq => by
    obtain ⟨h', nx', a', b', T', E', -, -, k1, k2⟩ := hos0 q hq
    rw [k2]
    exact ⟨k1, rfl, rfl, rfl⟩
  have hE : ai_EV (ai_rho xs) (ai_scr xs L) := ai_scr_EV (by omega)
  generalize hxe : ai_scr xs L = x at hr hE
  generalize hsle : ((L : Int), (L : Int)) = sl at hr
  have hLr : L < 2 ^ 31 ∧ sl.1 ≤ (L : Int) ∧ (L : Int) ≤ sl.2 := by
    rw [← hsle]
    exact ⟨by omega, Int.le_refl _, Int.le_refl _⟩
  have hCS := ai_ev_ok (l := l) (b0 := b) (L := L) (base := s.heap.size) (rho := ai_rho xs) (tc := tc) (dC := dC) (dI := dI) (sa := sa) (sl := sl) hst (ai_rho_D xs) hLr ai_ck_all 20
  have hCx : ai_Cx p l e room_1 s m #[Value.ref b] below meth c 7 b (ai_rho xs) tc dC dI s.heap.size [] 0 0 x1 x2 os (vx_MQ below (ai_Qc b (ai_rho xs) tc dC dI s.heap.size [] os) (ai_XC b (ai_rho xs) tc dC dI s.heap.size [] os) #[Value.ref b] s (x1 - 0) (x2 - 0) (ai_A s.heap.size)) ai_m0 L sa sl 20 := by
    refine ⟨⟨hx, hb, hml, rfl, hown, hlk, hret, hnm, htab⟩, hst, hSF, ai_rho_D xs, hLr, ⟨?_, ?_⟩, rfl, ?_, ?_⟩
    · show x1 ≤ 0 + 600128; exact Nat.le_trans hx1 (by decide)
    · show x2 ≤ 0 + 7301098; exact Nat.le_trans hx2 (by decide)
    · show 20 + 9 ≤ 2048; decide
    · show 60 * 20 + 360 ≤ 84000; decide
  have hrun := ai_run_ok hCx hCS ai_ckm0 nst 0 (ai_pad 7 [(6, 0, 0)]) [] (ai_g0 x) (os, x1, x2) hr
  have hSR : ai_SR b (ai_rho xs) [] [(6, 0, 0)] [Value.ref b] := ⟨Or.inr (Or.inr (Or.inr (Or.inr (Or.inl ⟨rfl, rfl⟩)))), trivial⟩
  have hW := hrun.2 (fun o ho => ho) (Nat.le_refl _) (Nat.le_refl _) s.heap [] 0 0 _ [] [] ⟨ai_AD.rf, ai_entry hSR (by rfl), trivial, ⟨rfl, Nat.zero_le _, fun i hi => absurd hi (Nat.not_lt_zero _)⟩, fun k q hq => (by simp at hq), ⟨fun i j p q hp => (by simp at hp), fun k q hq => (by simp at hq)⟩, va_S.rf, hE, rfl, rfl⟩
  rw [lg_entry_eq]
  intro T hT X
  obtain ⟨t, a1, o, b1, b2, b3⟩ := hW T hT X
  refine ⟨t, a1, o, b1, b2, ?_⟩
  rcases b3 with ⟨⟨q, hq, ws, -, hout⟩, L9, hfe, hL9⟩ | ⟨q, -, E, ce, L9, ⟨q9, hq9, -, -, h23, -⟩, -⟩
  · obtain ⟨k1, k2, k3, k4⟩ := hos q hq
    rcases hout with ⟨z, -⟩ | ⟨-, w, ho, hw⟩
    · omega
    · obtain ⟨z, rfl, nz⟩ := hw.int (by omega)
      have hz : z = 1 := by
        rcases nz with ⟨-, q1, q2⟩ | ⟨q1, -⟩
        · apply Int32.toInt_inj.mp
          show z.toInt = 1
          omega
        · omega
      subst hz
      subst ho
      refine ⟨rfl, ?_⟩
      obtain ⟨h1, h2, h3⟩ := hfe
      exact ⟨h1, h2, h3.weaken (fun y hy hlt => absurd hlt (Nat.not_lt.mpr (hL9 y hy))) (by omega) (by omega)⟩
  · have := (hos q9 hq9).1
    omega
