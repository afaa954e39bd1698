/-! ===== new cells ===== -/
section NEW
variable {p : Program} {l : Launch} {e : Env} {R : Room} {s : State} {m : MethodId} {args : Array Value} {below : List Frame} {meth : Method} {c : Code} {nL b0 : Nat} {rho : Nat → Int32} {tc dC : Nat → ClassId} {dI : Nat → Nat → Nat} {base : Nat} {ws0 : va_W} {kE sE mk0 ms0 : Nat} {os0 : List ai_O} {Q : State → Prop}
variable {cc : ByteArray} {own : String} {Ts : List Cond} {call : ai_K} {K : ai_K4} {pc npc : Nat} {loc st : List ai_V} {g : ai_G} {r : ai_R}
/-- a new cell: what the row must give -/
theorem so_mk {c1 : ai_C} {sz : Nat} {st1 : List ai_V} (hRc : mk0 ≤ kE + R.cells) (hRs : ms0 ≤ sE + R.slots)
    (hrow : ∀ {H : Heap} {locs : List Loc} {cells slots : Nat} {ls : Array Slot} {vs : List Value} {ws : va_W}, va_P (dC, dI) vwCl ws H → va_D (ai_A base) ws → va_S (ai_A base) s.heap H locs → ai_EV rho (ai_x g) → ai_SR b0 rho ws st vs → cells + 1 ≤ R.cells → slots + sz ≤ R.slots →
      ∃ (e' : va_E) (rest : List Value), ai_SR b0 rho ws st1 rest ∧ (∀ ws', ai_AD ws ws' → ai_RC b0 rho tc ws' c1 e') ∧
        ((∀ (q : Nat) (H1 : Heap), va_P (dC, dI) vwCl (ws ++ [(q, e')]) H1 → va_D (ai_A base) (ws ++ [(q, e')]) → va_S (ai_A base) s.heap H1 locs → W p l e R s m args below meth c H1 locs (cells + 1) (slots + sz) Q (F0 m npc ls (.ref q :: rest))) → W p l e R s m args below meth c H locs cells slots Q (F0 m pc ls vs)))
    (hK : ai_KS p l e R s m args below meth c nL b0 rho tc dC dI base ws0 kE sE mk0 ms0 os0 Q K) (h : ai_mk c1 sz npc K loc st1 g = some r) : ai_At p l e R s m args below meth c nL b0 rho tc dC dI base ws0 kE sE mk0 ms0 os0 Q pc loc st g r := by
  unfold ai_mk at h
  cases hcd : Nat.blt (ai_nx g) 1024 with
  | false => rw [hcd] at h; cases h
  | true =>
    rw [hcd] at h
    simp only [cond_true] at h
    have h1024 : ai_nx g < 1024 := Nat.le_of_ble_eq_true hcd
    have hA := hK _ _ _ _ _ h
    have m1 : ai_kc g + 1 ≤ r.2.1 := hA.1.1
    have m2 : ai_ks g + sz ≤ r.2.2 := hA.1.2
    refine ai_At.step hA ⟨Nat.le_succ _, Nat.le_add_right _ _⟩ fun H locs cells slots ls vs ws ⟨f0, f1, f2, f3, f4, f5, f6, f7, f8, f9⟩ hr1 hr2 kk => ?_
    obtain ⟨e', rest, q2, hRC, hgo⟩ := hrow (locs := locs) (cells := cells) (slots := slots) (ls := ls) f4 f5 f6 f7 f2 (by omega) (by omega)
    refine hgo fun q H1 hP1 hD1 hS1 => ?_
    have hAD : ai_AD ws (ws ++ [(q, e')]) := ai_AD.app
    have hwl : ws.length = ai_nx g := f3.1
    refine kk H1 locs (cells + 1) (slots + sz) ls (.ref q :: rest) (ws ++ [(q, e')]) ⟨f0.tr hAD, f1.mono hAD, ⟨Or.inr (Or.inr (Or.inl ⟨rfl, q, e', ?_, rfl⟩)), q2.mono hAD⟩, f3.push h1024 (hRC _ hAD), hP1, hD1, hS1, f7, ?_, ?_⟩
    · show (ws ++ [(q, e')])[ai_nx g]? = _
      rw [← hwl, List.getElem?_append_right (Nat.le_refl _), Nat.sub_self]
      rfl
    · show kE + (cells + 1) = ai_kc g + 1; omega
    · show sE + (slots + sz) = ai_ks g + sz; omega
theorem so_new (hx : p.tables.exec = Jvm.exec) (hb : c.code = cc) (hts : ∀ w ∈ Ts, w.before args s = true) (hown : s.vm.findClass own = some m.cls) (hV : va_K (dC, dI) vwCl (ai_tys tc) s) (hbs : base ≤ s.heap.size) (hRc : mk0 ≤ kE + R.cells) (hRs : ms0 ≤ sE + R.slots)
    {ci idx N : Nat} {C : String} {T : u_T} {ty0 : Nat → FieldType} {fs : List ai_V} {fv : List Value} (hcl : vwCl[ci]? = some (C, T, N)) (hin : ∀ w ∈ u_ws C T N, w ∈ Ts) (hty : ∀ k, k < N → parseFieldDescriptor (T k).2.2.1 = some (ty0 k))
    (hcw : (Cond.classLink own idx C).before args s = true) (hinst : (Cond.instantiable C N).before args s = true) (hini : (Cond.initialized C).before args s = true) (hfs : ∀ j, j < N → defaultValue (ty0 j) = vp_V fv j) (hSR : ∀ ws, ai_SR b0 rho ws fs fv) (hN : fs.length = N)
    (hdg : decode cc pc = .ok (.new idx, 3)) (hn : npc = pc + 3) (hK : ai_KS p l e R s m args below meth c nL b0 rho tc dC dI base ws0 kE sE mk0 ms0 os0 Q K) (h : ai_o_new ci fs npc call K loc st g = some r) : ai_At p l e R s m args below meth c nL b0 rho tc dC dI base ws0 kE sE mk0 ms0 os0 Q pc loc st g r := by
  subst hn
  subst hN
  refine so_mk hRc hRs (fun {H locs cells slots ls vs ws} hP hD hS hE f2 hc1 hc2 => ⟨.inr (ci, fv), vs, f2, fun ws' _ => Or.inl ⟨rfl, fv, rfl, hSR ws'⟩, fun k => ?_⟩) hK h
  exact va_new (T := T) (ci := ci) (fs := fv) hx hb hts hin ty0 hty hown hcw hinst hini hV hP hD hS (fun q hq => Nat.le_trans hbs hq) hcl hfs hc1 hc2 hdg k
theorem so_newa (hx : p.tables.exec = Jvm.exec) (hb : c.code = cc) (hV : va_K (dC, dI) vwCl (ai_tys tc) s) (hbs : base ≤ s.heap.size) (hRc : mk0 ≤ kE + R.cells) (hRs : ms0 ≤ sE + R.slots)
    {t : Nat} {dv : ai_V} {ty : FieldType} {a0 : Nat → vp_A} (hty : (ai_tys tc)[t - 1]? = some (tc t, ty)) (ha : ∀ (n : Nat) (cA : ClassId), vp_cell cA (a0 n) = arrV cA n (fun _ => defaultValue ty)) (hcb : componentBytes ty ≤ 8)
    (hRC : ∀ (ws : va_W) (n : Nat), n < 2 ^ 31 → ai_RC b0 rho tc ws (t, n, [dv], []) (.inl (tc t, a0 n)))
    {atype : ArrayType} (hat : newarray.typeOf atype = ty) (harr : (Cond.arrayClass ty).before args s = true)
    (hdg : decode cc pc = .ok (.newarray atype, 2)) (hn : npc = pc + 2) (hK : ai_KS p l e R s m args below meth c nL b0 rho tc dC dI base ws0 kE sE mk0 ms0 os0 Q K) (h : ai_o_newa t dv npc call K loc st g = some r) : ai_At p l e R s m args below meth c nL b0 rho tc dC dI base ws0 kE sE mk0 ms0 os0 Q pc loc st g r := by
  subst hn
  unfold ai_o_newa at h
  cases st with
  | nil => cases h
  | cons n st =>
    simp only at h
    cases ho : ai_one (ai_x g) n with
    | none => rw [ho] at h; cases h
    | some a =>
      rw [ho] at h
      simp only at h
      cases hcd : (ai_ile 0 a && ai_ile a 1000000) with
      | false => rw [hcd] at h; cases h
      | true =>
        rw [hcd] at h
        simp only [cond_true] at h
        rw [Bool.and_eq_true, ai_ile_iff, ai_ile_iff] at hcd
        refine so_mk hRc hRs (fun {H locs cells slots ls vs ws} hP hD hS hE f2 hc1 hc2 => ?_) hK h
        obtain ⟨w1, rest, rfl, q1, q2⟩ := f2.cons
        obtain ⟨z, rfl, nz⟩ := q1.int (ai_one_none (rho := rho) ho)
        obtain ⟨ez, -⟩ := ai_one_ok hE nz ho
        have hz0 : ¬ z < 0 := by
          rw [Int32.lt_iff_toInt_lt]
          show ¬ z.toInt < 0
          omega
        have hzn : z.toNatClampNeg = a.toNat := by show z.toInt.toNat = _; rw [ez]
        refine ⟨.inl (tc t, a0 a.toNat), rest, q2, fun ws' _ => hRC ws' _ (by omega), fun k => ?_⟩
        have hmul : a.toNat * componentBytes ty ≤ a.toNat * 8 := Nat.mul_le_mul_left _ hcb
        refine va_newa (a0 := a0 a.toNat) hx hb (by rw [hat]; exact harr) hat hV hP hD hS (fun q hq => Nat.le_trans hbs hq) (ha a.toNat) hz0 hzn (by omega) hc1 hc2 hdg fun q cA H1 hV1 hP1 hD1 hS1 => ?_
        have e1 : va_RA s cA ty := (hV1.2 (ai_tys tc).length (cA, ty) (by rw [List.getElem?_append_right (Nat.le_refl _), Nat.sub_self]; rfl)).2
        have e2 : va_RA s (tc t) ty := (hV.2 (t - 1) _ hty).2
        have e3 := ai_RA1 e1 e2
        subst e3
        exact k q H1 hP1 hD1 hS1
theorem so_anew (hx : p.tables.exec = Jvm.exec) (hb : c.code = cc) (hown : s.vm.findClass own = some m.cls) (hV : va_K (dC, dI) vwCl (ai_tys tc) s) (hbs : base ≤ s.heap.size) (hRc : mk0 ≤ kE + R.cells) (hRs : ms0 ≤ sE + R.slots)
    {t idx : Nat} {C : String} (ht : t = 4 ∨ t = 5) (hty : (ai_tys tc)[t - 1]? = some (tc t, .object C)) (hcw : (Cond.classLink own idx C).before args s = true) (hover : va_AO C s)
    (hdg : decode cc pc = .ok (.anewarray idx, 3)) (hn : npc = pc + 3) (hK : ai_KS p l e R s m args below meth c nL b0 rho tc dC dI base ws0 kE sE mk0 ms0 os0 Q K) (h : ai_o_newa t ai_nul npc call K loc st g = some r) : ai_At p l e R s m args below meth c nL b0 rho tc dC dI base ws0 kE sE mk0 ms0 os0 Q pc loc st g r := by
  subst hn
  unfold ai_o_newa at h
  cases st with
  | nil => cases h
  | cons n st =>
    simp only at h
    cases ho : ai_one (ai_x g) n with
    | none => rw [ho] at h; cases h
    | some a =>
      rw [ho] at h
      simp only at h
      cases hcd : (ai_ile 0 a && ai_ile a 1000000) with
      | false => rw [hcd] at h; cases h
      | true =>
        rw [hcd] at h
        simp only [cond_true] at h
        rw [Bool.and_eq_true, ai_ile_iff, ai_ile_iff] at hcd
        refine so_mk hRc hRs (fun {H locs cells slots ls vs ws} hP hD hS hE f2 hc1 hc2 => ?_) hK h
        obtain ⟨w1, rest, rfl, q1, q2⟩ := f2.cons
        obtain ⟨z, rfl, nz⟩ := q1.int (ai_one_none (rho := rho) ho)
        obtain ⟨ez, -⟩ := ai_one_ok hE nz ho
        have hz0 : ¬ z < 0 := by
          rw [Int32.lt_iff_toInt_lt]
          show ¬ z.toInt < 0
          omega
        have hzn : z.toNatClampNeg = a.toNat := by show z.toInt.toNat = _; rw [ez]
        refine ⟨.inl (tc t, a.toNat, .inr (.inr (.inr (.inr (fun _ => none))))), rest, q2, fun ws' _ => Or.inr (Or.inr (Or.inr ⟨by show t = 4 ∨ t = 5 ∨ t = 6; omega, by show a.toNat < 2 ^ 31; omega, _, rfl, fun j _ => Or.inr (Or.inl ⟨rfl, rfl⟩)⟩)), fun k => ?_⟩
        refine va_newq hx hb hown hcw hover hV hP hD hS (fun q hq => Nat.le_trans hbs hq) hz0 hzn (by omega) hc1 hc2 hdg fun q cA H1 hV1 hP1 hD1 hS1 => ?_
        have e1 : va_RA s cA (.object C) := (hV1.2 (ai_tys tc).length (cA, .object C) (by rw [List.getElem?_append_right (Nat.le_refl _), Nat.sub_self]; rfl)).2
        have e2 : va_RA s (tc t) (.object C) := (hV.2 (t - 1) _ hty).2
        have e3 := ai_RA1 e1 e2
        subst e3
        exact k q H1 hP1 hD1 hS1
theorem so_copy (hx : p.tables.exec = Jvm.exec) (hb : c.code = cc) (hml : c.maxLocals = nL) (hown : s.vm.findClass own = some m.cls) (hV : va_K (dC, dI) vwCl (ai_tys tc) s)
    {idx : Nat} (hlink : (Cond.methodLink own idx arraycopyName).before args s = true) (hnat : (Cond.native arraycopyName).before args s = true) (hstat : (Cond.static arraycopyName).before args s = true) (hini : (Cond.initialized "java/lang/System").before args s = true)
    (hfr : 1 ≤ R.frames) (hlo : nativeFrameWords "java/lang/System" "arraycopy" 5 + 11 ≤ R.locals)
    (hdg : decode cc pc = .ok (.invokestatic idx, 3)) (hn : npc = pc + 3) (hK : ai_KS p l e R s m args below meth c nL b0 rho tc dC dI base ws0 kE sE mk0 ms0 os0 Q K) (h : ai_o_copy npc call K loc st g = some r) : ai_At p l e R s m args below meth c nL b0 rho tc dC dI base ws0 kE sE mk0 ms0 os0 Q pc loc st g r := by
  subst hn
  unfold ai_o_copy at h
  match st, h with
  | [], h => cases h
  | [_], h => cases h
  | [_, _], h => cases h
  | [_, _, _], h => cases h
  | [_, _, _, _], h => cases h
  | _ :: _ :: _ :: _ :: _ :: _ :: _, h => cases h
  | [n, dp, d, sp, s0], h =>
    simp only at h
    cases hc1 : ai_cell g s0 with
    | none => rw [hc1] at h; cases h
    | some q =>
      obtain ⟨i, t1, ns, ds, us⟩ := q
      rw [hc1] at h
      simp only at h
      cases hc2 : ai_cell g d with
      | none => rw [hc2] at h; cases h
      | some q =>
        obtain ⟨j, t2, nd, dd, vs⟩ := q
        rw [hc2] at h
        simp only at h
        cases h1 : ai_one (ai_x g) n with
        | none => rw [h1] at h; cases h
        | some n' =>
          rw [h1] at h
          simp only at h
          cases h2 : ai_one (ai_x g) dp with
          | none => rw [h2] at h; cases h
          | some dp' =>
            rw [h2] at h
            simp only at h
            cases h3 : ai_one (ai_x g) sp with
            | none => rw [h3] at h; cases h
            | some sp' =>
              rw [h3] at h
              simp only at h
              cases hcd : (Nat.beq t1 1 && Nat.beq t2 1 && ai_ile 0 n' && ai_ile 0 dp' && ai_ile 0 sp' && Nat.ble (Nat.add sp'.toNat n'.toNat) ns && Nat.ble (Nat.add dp'.toNat n'.toNat) nd && !(Nat.beq i j)) with
              | false => rw [hcd] at h; cases h
              | true =>
                rw [hcd] at h
                simp only [cond_true] at h
                simp only [Bool.and_eq_true, ai_ile_iff] at hcd
                obtain ⟨⟨⟨⟨⟨⟨⟨b1, b2⟩, b3⟩, b4⟩, b5⟩, b6⟩, b7⟩, -⟩ := hcd
                have e1 : t1 = 1 := Nat.eq_of_beq_eq_true b1
                have e2 : t2 = 1 := Nat.eq_of_beq_eq_true b2
                have b6 : sp'.toNat + n'.toNat ≤ ns := Nat.le_of_ble_eq_true b6
                have b7 : dp'.toNat + n'.toNat ≤ nd := Nat.le_of_ble_eq_true b7
                subst e1; subst e2
                refine ai_At.step (hK _ _ _ _ _ h) ⟨Nat.le_refl _, Nat.le_refl _⟩ fun H locs cells slots ls vs0 ws ⟨f0, f1, f2, f3, f4, f5, f6, f7, f8⟩ _ _ kk => ?_
                obtain ⟨w1, rest, rfl, q1, p1⟩ := f2.cons
                obtain ⟨w2, rest, rfl, q2, p2⟩ := p1.cons
                obtain ⟨w3, rest, rfl, q3, p3⟩ := p2.cons
                obtain ⟨w4, rest, rfl, q4, p4⟩ := p3.cons
                obtain ⟨w5, rest, rfl, q5, p5⟩ := p4.cons
                obtain ⟨zn, rfl, nn⟩ := q1.int (ai_one_none (rho := rho) h1)
                obtain ⟨zd, rfl, nd2⟩ := q2.int (ai_one_none (rho := rho) h2)
                obtain ⟨zs, rfl, ns2⟩ := q4.int (ai_one_none (rho := rho) h3)
                obtain ⟨en, -⟩ := ai_one_ok f7 nn h1
                obtain ⟨ed, -⟩ := ai_one_ok f7 nd2 h2
                obtain ⟨es, -⟩ := ai_one_ok f7 ns2 h3
                obtain ⟨a, e0, rfl, hwi, -, -, hRC1⟩ := ai_cell_ok f3 hc1 q5
                obtain ⟨a2, e3, rfl, hwj, -, -, hRC2⟩ := ai_cell_ok f3 hc2 q3
                obtain ⟨hl1, f, rfl, hf⟩ := hRC1.ints (Or.inl rfl)
                obtain ⟨hl2, f', rfl, hf'⟩ := hRC2.ints (Or.inl rfl)
                have cn : zn.toNatClampNeg = n'.toNat := by show zn.toInt.toNat = _; rw [en]
                have cd : zd.toNatClampNeg = dp'.toNat := by show zd.toInt.toNat = _; rw [ed]
                have cs : zs.toNatClampNeg = sp'.toNat := by show zs.toInt.toNat = _; rw [es]
                have z0 : ∀ {z : Int32} {k : Int}, z.toInt = k → 0 ≤ k → ¬ z < 0 := fun {z k} h1 h2 => by
                  rw [Int32.lt_iff_toInt_lt]
                  show ¬ z.toInt < 0
                  omega
                refine va_copyi (f := f) (g := f') hx hb (by rw [hml, f1.sz]) hown hlink hnat hstat hini hV f4 f5 f6 i j 0 0 hwi hwj rfl rfl rfl (z0 es b5) (z0 ed b4) (z0 en b3) (by rw [cs, cn]; exact b6) (by rw [cd, cn]; exact b7) (fun _ _ => rfl) hfr (by rw [p5.nil]; simpa using hlo) hdg fun H1 locs1 hP1 hD1 hS1 => ?_
                rw [cs, cd, cn] at hP1 hD1
                have hA := ai_AD.set (e := .inl (tc 1, nd, .inl (va_cpy f f' sp'.toNat dp'.toNat n'.toNat))) hwj
                refine kk H1 locs1 cells slots ls rest _ ⟨f0.tr hA, f1.mono hA, p5.mono hA, f3.put hwj (Or.inr (Or.inl ⟨Or.inl rfl, hl2, _, rfl, fun k hk => ?_⟩)), hP1, hD1, hS1, f7, f8⟩
                show ai_Rv b0 rho _ (ai_lk (ai_cp us vs (ai_nth ai_un ds 0) sp'.toNat dp'.toNat n'.toNat) (ai_nth ai_un dd 0) k) _
                have key : ∀ (mm : Nat), ai_lk ((List.range' 0 mm).map (fun i => (Nat.add dp'.toNat i, ai_lk us (ai_nth ai_un ds 0) (Nat.add sp'.toNat i))) ++ vs) (ai_nth ai_un dd 0) k = if dp'.toNat ≤ k ∧ k < dp'.toNat + mm then ai_lk us (ai_nth ai_un ds 0) (sp'.toNat + (k - dp'.toNat)) else ai_lk vs (ai_nth ai_un dd 0) k := by
                  have gen : ∀ (mm b1 : Nat), ai_lk ((List.range' b1 mm).map (fun i => (Nat.add dp'.toNat i, ai_lk us (ai_nth ai_un ds 0) (Nat.add sp'.toNat i))) ++ vs) (ai_nth ai_un dd 0) k = if dp'.toNat + b1 ≤ k ∧ k < dp'.toNat + b1 + mm then ai_lk us (ai_nth ai_un ds 0) (sp'.toNat + (k - dp'.toNat)) else ai_lk vs (ai_nth ai_un dd 0) k := by
                    intro mm
                    induction mm with
                    | zero =>
                      intro b1
                      rw [if_neg (by omega)]
                      rfl
                    | succ mm ih =>
                      intro b1
                      rw [List.range'_succ, List.map_cons, List.cons_append, ai_lk_cons]
                      by_cases hk1 : dp'.toNat + b1 = k
                      · rw [if_pos (show (Nat.add dp'.toNat b1, _).1 = k from hk1), if_pos (by omega)]
                        show ai_lk us _ (sp'.toNat + b1) = _
                        rw [show sp'.toNat + b1 = sp'.toNat + (k - dp'.toNat) by omega]
                      · rw [if_neg (show ¬ (Nat.add dp'.toNat b1, _).1 = k from hk1), ih (b1 + 1)]
                        by_cases hk2 : dp'.toNat + (b1 + 1) ≤ k ∧ k < dp'.toNat + (b1 + 1) + mm
                        · rw [if_pos hk2, if_pos (by omega)]
                        · rw [if_neg hk2, if_neg (by omega)]
                  intro mm
                  have := gen mm 0
                  simpa using this
                unfold ai_cp
                rw [List.range_eq_range', key]
                by_cases hin : dp'.toNat ≤ k ∧ k < dp'.toNat + n'.toNat
                · rw [if_pos hin, pk_cpy_in hin.1 hin.2]
                  exact (hf _ (by show _ < ns; omega)).mono hA
                · rw [if_neg hin, pk_cpy_out (by omega)]
                  exact (hf' k hk).mono hA
theorem ai_rows_get (k b : Nat) (h : ai_H) : ∀ (n : Nat), b + n ≤ 1024 → ∀ j, j < 1024 → ai_get 10 (ai_rows n k h b) j = if b ≤ j ∧ j < b + n then (1, k, [ai_i 0], []) else ai_get 10 h j
  | 0, _, j, _ => by rw [if_neg (by omega)]; rfl
  | n + 1, hb, j, hj => by
    show ai_get 10 (ai_set 10 (ai_rows n k h b) (b + n) (1, k, [ai_i 0], [])) j = _
    rw [ai_get_set 10 _ _ _ _ (by show _ < 1024; omega) (by show _ < 1024; omega), ai_rows_get k b h n (by omega) j hj]
    by_cases h1 : j = b + n
    · rw [if_pos h1, if_pos (by omega)]
    · rw [if_neg h1]
      by_cases h2 : b ≤ j ∧ j < b + n
      · rw [if_pos h2, if_pos (by omega)]
      · rw [if_neg h2, if_neg (by omega)]
theorem ai_lk_rng (f : Nat → ai_V) (dv : ai_V) (j : Nat) : ∀ (n b : Nat), ai_lk ((List.range' b n).map (fun i => (i, f i))) dv j = if b ≤ j ∧ j < b + n then f j else dv
  | 0, b => by rw [if_neg (by omega)]; rfl
  | n + 1, b => by
    rw [List.range'_succ, List.map_cons, ai_lk_cons, ai_lk_rng f dv j n (b + 1)]
    by_cases h1 : b = j
    · subst h1; rw [if_pos rfl, if_pos (by omega)]
    · rw [if_neg h1]
      by_cases h2 : b + 1 ≤ j ∧ j < b + 1 + n
      · rw [if_pos h2, if_pos (by omega)]
      · rw [if_neg h2, if_neg (by omega)]
theorem so_mna (hx : p.tables.exec = Jvm.exec) (hb : c.code = cc) (hown : s.vm.findClass own = some m.cls) (hV : va_K (dC, dI) vwCl (ai_tys tc) s) (hbs : base ≤ s.heap.size) (hRc : mk0 ≤ kE + R.cells) (hRs : ms0 ≤ sE + R.slots)
    {idx : Nat} (hcw : (Cond.classLink own idx ("[" ++ (FieldType.array .int).toString)).before args s = true) (hover : va_AOA .int s) (harr : (Cond.arrayClass .int).before args s = true)
    (hdg : decode cc pc = .ok (.multianewarray idx 2, 4)) (hn : npc = pc + 4) (hK : ai_KS p l e R s m args below meth c nL b0 rho tc dC dI base ws0 kE sE mk0 ms0 os0 Q K) (h : ai_o_mna npc call K loc st g = some r) : ai_At p l e R s m args below meth c nL b0 rho tc dC dI base ws0 kE sE mk0 ms0 os0 Q pc loc st g r := by
  subst hn
  unfold ai_o_mna at h
  cases st with
  | nil => cases h
  | cons k st =>
    cases st with
    | nil => cases h
    | cons n st =>
      simp only at h
      cases h1 : ai_one (ai_x g) n with
      | none => rw [h1] at h; cases h
      | some a =>
        rw [h1] at h
        simp only at h
        cases h2 : ai_one (ai_x g) k with
        | none => rw [h2] at h; cases h
        | some b =>
          rw [h2] at h
          simp only at h
          cases hcd : (ai_ile 0 a && ai_ile a 100 && ai_ile 0 b && ai_ile b 100 && Nat.ble (Nat.add (Nat.succ (ai_nx g)) a.toNat) 1024) with
          | false => rw [hcd] at h; cases h
          | true =>
            rw [hcd] at h
            simp only [cond_true] at h
            simp only [Bool.and_eq_true, ai_ile_iff] at hcd
            obtain ⟨⟨⟨⟨b1, b2⟩, b3⟩, b4⟩, b5⟩ := hcd
            have b5 : ai_nx g + 1 + a.toNat ≤ 1024 := Nat.le_of_ble_eq_true b5
            have hA := hK _ _ _ _ _ h
            have m1 : ai_kc g + 1 + a.toNat ≤ r.2.1 := hA.1.1
            have m2 : ai_ks g + a.toNat + a.toNat * b.toNat ≤ r.2.2 := hA.1.2
            refine ai_At.step hA ⟨by show ai_kc g ≤ ai_kc g + 1 + a.toNat; omega, by show ai_ks g ≤ ai_ks g + a.toNat + a.toNat * b.toNat; omega⟩ fun H locs cells slots ls vs ws ⟨f0, f1, f2, f3, f4, f5, f6, f7, f8, f9⟩ hr1 hr2 kk => ?_
            obtain ⟨w1, rest, rfl, q1, q2⟩ := f2.cons
            obtain ⟨w2, rest, rfl, q3, q4⟩ := q2.cons
            obtain ⟨zk, rfl, nk⟩ := q1.int (ai_one_none (rho := rho) h2)
            obtain ⟨zn, rfl, nn⟩ := q3.int (ai_one_none (rho := rho) h1)
            obtain ⟨en, -⟩ := ai_one_ok f7 nn h1
            obtain ⟨ek, -⟩ := ai_one_ok f7 nk h2
            have cn : zn.toNatClampNeg = a.toNat := by show zn.toInt.toNat = _; rw [en]
            have ck : zk.toNatClampNeg = b.toNat := by show zk.toInt.toNat = _; rw [ek]
            have z0 : ∀ {z : Int32} {k : Int}, z.toInt = k → 0 ≤ k → ¬ z < 0 := fun {z k} h1 h2 => by
              rw [Int32.lt_iff_toInt_lt]
              show ¬ z.toInt < 0
              omega
            have hcy : s.vm.findClass (FieldType.array .int).toString = some (tc 1) := (hV.2 0 _ rfl).2
            refine va_mna (X := ws) (L := []) (f := fun _ => .inr (0, [])) (z := (b.toNat, .inl (fun _ => 0))) hx hb hown hcw hover harr hcy hV (by simpa [va_pl] using f4) (by simpa [va_pl] using f5) f6 (fun q hq => Nat.le_trans hbs hq) (z0 en b1) (z0 ek b3) cn ck (by omega) (by show b.toNat * 4 ≤ _; omega) (by omega) rfl rfl (by omega) (by omega)
              (fun c9 => by show ({ cls := c9, slots := Array.replicate b.toNat (.int 0), vm := .none } : Cell) = _; rw [arrV_new]; rfl) hdg ?_
            intro q rr cA H1 hinj hnl hV1 hP1 hD1 hS1
            have e1 : va_RA s cA (.array .int) := (hV1.2 (ai_tys tc).length (cA, .array .int) (by rw [List.getElem?_append_right (Nat.le_refl _), Nat.sub_self]; rfl)).2
            have e2 : va_RA s (tc 6) (.array .int) := (hV.2 5 _ rfl).2
            have e3 := ai_RA1 e1 e2
            subst e3
            have epl : va_pl ([] ++ (List.range a.toNat).map rr) (vr_up (fun _ => .inr (0, [])) ((List.range a.toNat).map rr) (.inl (tc 1, b.toNat, .inl (fun _ => 0)))) = (List.range a.toNat).map (fun i => ((rr i, .inl (tc 1, b.toNat, .inl (fun _ => 0))) : Nat × va_E)) := by
              unfold va_pl
              rw [List.nil_append, List.map_map]
              apply List.map_congr_left
              intro i hi
              show (rr i, vr_up _ _ _ (rr i)) = _
              rw [vr_up_in (List.mem_map.mpr ⟨i, hi, rfl⟩)]
            rw [epl] at hP1 hD1
            generalize hW2 : (ws ++ [(q, .inl (tc 6, a.toNat, .inr (.inr (.inr (.inr (fun i => if i < a.toNat then some (rr i) else none))))))]) ++ (List.range a.toNat).map (fun i => ((rr i, .inl (tc 1, b.toNat, .inl (fun _ => 0))) : Nat × va_E)) = ws2 at hP1 hD1
            have hwl : ws.length = ai_nx g := f3.1
            have g0 : ∀ i, i < ai_nx g → ws2[i]? = ws[i]? := fun i hi => by
              rw [← hW2, List.append_assoc, List.getElem?_append_left (by omega)]
            have g1 : ws2[ai_nx g]? = some (q, .inl (tc 6, a.toNat, .inr (.inr (.inr (.inr (fun i => if i < a.toNat then some (rr i) else none)))))) := by
              rw [← hW2, List.append_assoc, List.getElem?_append_right (by omega), hwl, Nat.sub_self]
              rfl
            have g2 : ∀ i, i < a.toNat → ws2[ai_nx g + 1 + i]? = some (rr i, .inl (tc 1, b.toNat, .inl (fun _ => 0))) := fun i hi => by
              rw [← hW2, List.getElem?_append_right (by rw [List.length_append, hwl]; show ai_nx g + 1 ≤ _; omega), List.length_append, hwl]
              rw [show ai_nx g + 1 + i - (ai_nx g + [((q, .inl (tc 6, a.toNat, .inr (.inr (.inr (.inr (fun i => if i < a.toNat then some (rr i) else none)))))) : Nat × va_E)].length) = i by show ai_nx g + 1 + i - (ai_nx g + 1) = i; omega]
              rw [List.getElem?_map, List.getElem?_range hi]
              rfl
            have gl : ws2.length = ai_nx g + 1 + a.toNat := by
              rw [← hW2, List.length_append, List.length_append, List.length_map, List.length_range, hwl]
              rfl
            have hAD : ai_AD ws ws2 := fun i x e hi => ⟨e, by rw [g0 i (by rw [← hwl]; exact (List.getElem?_eq_some_iff.mp hi).1)]; exact hi⟩
            refine kk H1 locs (cells + 1 + a.toNat) (slots + a.toNat + a.toNat * b.toNat) ls (.ref q :: rest) ws2 ⟨f0.tr hAD, f1.mono hAD, ⟨Or.inr (Or.inr (Or.inl ⟨rfl, q, _, g1, rfl⟩)), q4.mono hAD⟩, ⟨gl, b5, fun i hi => ?_⟩, hP1, hD1, hS1, f7, ?_, ?_⟩
            · show ∃ a1 e1, ws2[i]? = some (a1, e1) ∧ ai_RC b0 rho tc ws2 (ai_get 10 (ai_rows a.toNat b.toNat (ai_set 10 g.1 (ai_nx g) _) (ai_nx g + 1)) i) e1
              have hi : i < ai_nx g + 1 + a.toNat := hi
              rw [ai_rows_get _ _ _ _ (by omega) i (by omega)]
              by_cases h3 : ai_nx g + 1 ≤ i ∧ i < ai_nx g + 1 + a.toNat
              · rw [if_pos h3]
                refine ⟨rr (i - (ai_nx g + 1)), .inl (tc 1, b.toNat, .inl (fun _ => 0)), ?_, Or.inr (Or.inl ⟨Or.inl rfl, by show b.toNat < 2 ^ 31; omega, (fun _ => 0), rfl, fun j _ => ai_Rv.mkI (ai_num_i (z := 0) (by decide))⟩)⟩
                have := g2 (i - (ai_nx g + 1)) (by omega)
                rw [show ai_nx g + 1 + (i - (ai_nx g + 1)) = i by omega] at this
                exact this
              · rw [if_neg h3, ai_get_set 10 _ _ _ _ (by show _ < 1024; omega) (by show _ < 1024; omega)]
                by_cases h4 : i = ai_nx g
                · rw [if_pos h4, h4]
                  refine ⟨q, _, g1, Or.inr (Or.inr (Or.inr ⟨Or.inr (Or.inr rfl), by show a.toNat < 2 ^ 31; omega, _, rfl, fun j hj => ?_⟩))⟩
                  have hj : j < a.toNat := hj
                  show ai_Rv b0 rho ws2 (ai_lk ((List.range a.toNat).map (fun i => (i, (3, .ofNat (Nat.add (Nat.succ (ai_nx g)) i), 0)))) _ j) _
                  rw [List.range_eq_range', ai_lk_rng (fun i => (3, .ofNat (Nat.add (Nat.succ (ai_nx g)) i), 0)) _ j, if_pos (by omega), if_pos hj]
                  exact Or.inr (Or.inr (Or.inl ⟨rfl, rr j, _, g2 j hj, rfl⟩))
                · rw [if_neg h4]
                  obtain ⟨a1, e1, k1, k2⟩ := f3.2.2 i (by omega)
                  exact ⟨a1, e1, by rw [g0 i (by omega)]; exact k1, k2.mono hAD⟩
            · show kE + (cells + 1 + a.toNat) = ai_kc g + 1 + a.toNat; omega
            · show sE + (slots + a.toNat + a.toNat * b.toNat) = ai_ks g + a.toNat + a.toNat * b.toNat; omega
end NEW
