/-! ===== the rows of arrays, new cells, copies, long compares, switches ===== -/
theorem ai_vpin {z : Int32} {n : Nat} (h0 : ¬ z < 0) (h : z.toNatClampNeg < n) : vp_in z n := fun q => q.elim h0 (fun h1 => absurd h (Nat.not_lt.mpr h1))
theorem ai_RC.upI {b0 : Nat} {rho : Nat → Int32} {tc : Nat → ClassId} {ws ws' : va_W} {c1 : ai_C} {f : Nat → Int32} {k : Nat} {v : ai_V} {x : Int32} (ht : c1.1 = 1 ∨ c1.1 = 2) (hl : c1.2.1 < 2 ^ 31) (hf : ∀ j, j < c1.2.1 → ai_Rv b0 rho ws (ai_el c1 j) (.int (f j))) (hv : ai_Rv b0 rho ws v (.int x)) (hA : ai_AD ws ws') :
    ai_RC b0 rho tc ws' (c1.1, c1.2.1, c1.2.2.1, (k, v) :: c1.2.2.2) (.inl (tc c1.1, c1.2.1, .inl (upd f k x))) := by
  refine Or.inr (Or.inl ⟨ht, hl, _, rfl, fun j hj => ?_⟩)
  rw [ai_el_cons]
  by_cases hkj : k = j
  · subst hkj
    rw [if_pos rfl, show upd f k x k = x from pk_us]
    exact hv.mono hA
  · rw [if_neg hkj, show upd f k x j = f j from pk_un (fun q => hkj q.symm)]
    exact (hf j hj).mono hA
theorem ai_RC.upL {b0 : Nat} {rho : Nat → Int32} {tc : Nat → ClassId} {ws ws' : va_W} {c1 : ai_C} {f : Nat → Int64} {k : Nat} {v : ai_V} {x : Int64} (ht : c1.1 = 3) (hl : c1.2.1 < 2 ^ 31) (hf : ∀ j, j < c1.2.1 → ai_Rv b0 rho ws (ai_el c1 j) (.long (f j))) (hv : ai_Rv b0 rho ws v (.long x)) (hA : ai_AD ws ws') :
    ai_RC b0 rho tc ws' (c1.1, c1.2.1, c1.2.2.1, (k, v) :: c1.2.2.2) (.inl (tc c1.1, c1.2.1, .inr (.inl (vp_updL f k x)))) := by
  refine Or.inr (Or.inr (Or.inl ⟨ht, hl, _, rfl, fun j hj => ?_⟩))
  rw [ai_el_cons]
  by_cases hkj : k = j
  · subst hkj
    rw [if_pos rfl, show vp_updL f k x k = x from pk_uLs]
    exact hv.mono hA
  · rw [if_neg hkj, show vp_updL f k x j = f j from pk_uLn (fun q => hkj q.symm)]
    exact (hf j hj).mono hA
theorem ai_RC.upR {b0 : Nat} {rho : Nat → Int32} {tc : Nat → ClassId} {ws ws' : va_W} {c1 : ai_C} {f : Nat → Option Nat} {k : Nat} {v : ai_V} {x : Option Nat} (ht : c1.1 = 4 ∨ c1.1 = 5 ∨ c1.1 = 6) (hl : c1.2.1 < 2 ^ 31) (hf : ∀ j, j < c1.2.1 → ai_Rv b0 rho ws (ai_el c1 j) (va_rf (f j))) (hv : ai_Rv b0 rho ws v (va_rf x)) (hA : ai_AD ws ws') :
    ai_RC b0 rho tc ws' (c1.1, c1.2.1, c1.2.2.1, (k, v) :: c1.2.2.2) (.inl (tc c1.1, c1.2.1, .inr (.inr (.inr (.inr (va_up f k x)))))) := by
  refine Or.inr (Or.inr (Or.inr ⟨ht, hl, _, rfl, fun j hj => ?_⟩))
  rw [ai_el_cons]
  by_cases hkj : k = j
  · subst hkj
    rw [if_pos rfl, va_up_self]
    exact hv.mono hA
  · rw [if_neg hkj, va_up_ne f x (fun q => hkj q.symm)]
    exact (hf j hj).mono hA
theorem ai_RA1 {U : State} {c1 c2 : ClassId} {ty : FieldType} (h1 : va_RA U c1 ty) (h2 : va_RA U c2 ty) : c1 = c2 := by
  cases ty with
  | object C =>
    obtain ⟨-, -, -, -, -, q1⟩ := h1
    obtain ⟨-, -, -, -, -, q2⟩ := h2
    exact Option.some.inj (q1.symm.trans q2)
  | _ => exact Option.some.inj (h1.symm.trans h2)
section ARR
variable {p : Program} {l : Launch} {e : Env} {R : Room} {s : State} {m : MethodId} {args : Array Value} {below : List Frame} {meth : Method} {c : Code} {nL b0 : Nat} {rho : Nat → Int32} {tc dC : Nat → ClassId} {dI : Nat → Nat → Nat} {base : Nat} {ws0 : va_W} {kE sE mk0 ms0 : Nat} {os0 : List ai_O} {Q : State → Prop}
variable {cc : ByteArray} {own : String} {Ts : List Cond} {call : ai_K} {K : ai_K4} {pc npc : Nat} {loc st : List ai_V} {g : ai_G} {r : ai_R}
theorem so_iald (hx : p.tables.exec = Jvm.exec) (hb : c.code = cc) (hV : va_K (dC, dI) vwCl (ai_tys tc) s) {sl : Int × Int} {L : Nat} (hX : va_X b0 L rho s s.heap) (hbl : b0 < s.heap.size) (hbA : ¬ ai_A base b0) (hsl : sl.1 ≤ (L : Int))
    (hdg : decode cc pc = .ok (.iaload, 1)) (hn : npc = pc + 1) (hK : ai_KS p l e R s m args below meth c nL b0 rho tc dC dI base ws0 kE sE mk0 ms0 os0 Q K) (h : ai_o_ald sl ai_is1 npc call K loc st g = some r) : ai_At p l e R s m args below meth c nL b0 rho tc dC dI base ws0 kE sE mk0 ms0 os0 Q pc loc st g r := by
  subst hn
  refine so_ald (fun _ H locs cells slots ls rest z hS hlt h0 k => ?_) (fun {H locs cells slots ls rest z ws i a e0 c1} hp hP hwi hRC h0 hlt => ?_) hK h
  · refine va_sld hx hb hX hbl hbA hS (ai_vpin h0 ?_) hdg k
    have h1 : (0 : Int) ≤ z.toInt := by
      have := Int32.not_lt.mp h0
      rw [Int32.le_iff_toInt_le] at this
      exact this
    show z.toInt.toNat < L
    omega
  · have ht : c1.1 = 1 := Nat.eq_of_beq_eq_true hp
    obtain ⟨hl, f, rfl, hf⟩ := hRC.ints (Or.inl ht)
    exact ⟨_, hf _ hlt, fun k => va_iald hx hb hV hP i 0 hwi (by rw [ht]; rfl) (ai_vpin h0 hlt) hdg k⟩
theorem so_bald (hx : p.tables.exec = Jvm.exec) (hb : c.code = cc) (hV : va_K (dC, dI) vwCl (ai_tys tc) s) {sl : Int × Int}
    (hdg : decode cc pc = .ok (.baload, 1)) (hn : npc = pc + 1) (hK : ai_KS p l e R s m args below meth c nL b0 rho tc dC dI base ws0 kE sE mk0 ms0 os0 Q K) (h : ai_o_ald sl ai_is2 npc call K loc st g = some r) : ai_At p l e R s m args below meth c nL b0 rho tc dC dI base ws0 kE sE mk0 ms0 os0 Q pc loc st g r := by
  subst hn
  refine so_ald (fun hp => by cases hp) (fun {H locs cells slots ls rest z ws i a e0 c1} hp hP hwi hRC h0 hlt => ?_) hK h
  have ht : c1.1 = 2 := Nat.eq_of_beq_eq_true hp
  obtain ⟨hl, f, rfl, hf⟩ := hRC.ints (Or.inr ht)
  exact ⟨_, hf _ hlt, fun k => va_zald hx hb hV hP i 1 hwi (by rw [ht]; rfl) (ai_vpin h0 hlt) hdg k⟩
theorem so_lald (hx : p.tables.exec = Jvm.exec) (hb : c.code = cc) (hV : va_K (dC, dI) vwCl (ai_tys tc) s) {sl : Int × Int}
    (hdg : decode cc pc = .ok (.laload, 1)) (hn : npc = pc + 1) (hK : ai_KS p l e R s m args below meth c nL b0 rho tc dC dI base ws0 kE sE mk0 ms0 os0 Q K) (h : ai_o_ald sl ai_is3 npc call K loc st g = some r) : ai_At p l e R s m args below meth c nL b0 rho tc dC dI base ws0 kE sE mk0 ms0 os0 Q pc loc st g r := by
  subst hn
  refine so_ald (fun hp => by cases hp) (fun {H locs cells slots ls rest z ws i a e0 c1} hp hP hwi hRC h0 hlt => ?_) hK h
  have ht : c1.1 = 3 := Nat.eq_of_beq_eq_true hp
  obtain ⟨hl, f, rfl, hf⟩ := hRC.longs ht
  exact ⟨_, hf _ hlt, fun k => va_lald hx hb hV hP i 2 hwi (by rw [ht]; rfl) (ai_vpin h0 hlt) hdg k⟩
theorem ai_alda {H : Heap} {locs : List Loc} {cells slots : Nat} {ls : Array Slot} {rest : List Value} {a : Nat} {ws : va_W} {D : va_G} {cl : List vw_C} {tys : List (ClassId × FieldType)} (hexec : p.tables.exec = Jvm.exec) (hb : c.code = cc) (hK : va_K D cl tys s) (hP : va_P D cl ws H) (q0 t0 : Nat) {cA : ClassId} {ty : FieldType} {n : Nat} {f : Nat → Option Nat} (ha : ws[q0]? = some (a, .inl (cA, n, .inr (.inr (.inr (.inr f)))))) (ht : tys[t0]? = some (cA, .array ty)) {i : Int32} (hin : vp_in i n) (hdg : decode cc pc = .ok (.aaload, 1))
    (kk : W p l e R s m args below meth c H locs cells slots Q (F0 m (pc + 1) ls (va_rf (f i.toNatClampNeg) :: rest))) : W p l e R s m args below meth c H locs cells slots Q (F0 m pc ls (.int i :: .ref a :: rest)) := by
  have hlt : i.toNatClampNeg < n := Nat.not_le.mp fun q => hin (Or.inr q)
  exact W.aald (v := va_rf (f i.toNatClampNeg)) (ty := .array ty) hexec hb (hP q0 _ ha) ((hK.2 t0 _ ht).1 n (fun j => va_rf (f j))) rfl (fun q => by cases q) (by show ¬ (i < 0 ∨ (arrV _ _ _).slots.size ≤ _); rw [arrV_size]; exact hin) (by show (arrV _ _ _).slots[_]? = _; rw [arrV_read _ _ hlt]) rfl rfl hdg kk
theorem so_aald (hx : p.tables.exec = Jvm.exec) (hb : c.code = cc) (hV : va_K (dC, dI) vwCl (ai_tys tc) s) {sl : Int × Int}
    (hdg : decode cc pc = .ok (.aaload, 1)) (hn : npc = pc + 1) (hK : ai_KS p l e R s m args below meth c nL b0 rho tc dC dI base ws0 kE sE mk0 ms0 os0 Q K) (h : ai_o_ald sl ai_is4 npc call K loc st g = some r) : ai_At p l e R s m args below meth c nL b0 rho tc dC dI base ws0 kE sE mk0 ms0 os0 Q pc loc st g r := by
  subst hn
  refine so_ald (fun hp => by cases hp) (fun {H locs cells slots ls rest z ws i a e0 c1} hp hP hwi hRC h0 hlt => ?_) hK h
  have ht : c1.1 = 4 ∨ c1.1 = 5 ∨ c1.1 = 6 := by
    rcases Bool.or_eq_true_iff.mp hp with q | q
    · rcases Bool.or_eq_true_iff.mp q with q | q
      · exact Or.inl (Nat.eq_of_beq_eq_true q)
      · exact Or.inr (Or.inl (Nat.eq_of_beq_eq_true q))
    · exact Or.inr (Or.inr (Nat.eq_of_beq_eq_true q))
  obtain ⟨hl, f, rfl, hf⟩ := hRC.refs (by omega)
  rcases ht with ht | ht | ht
  · exact ⟨_, hf _ hlt, fun k => va_aldq hx hb hV hP i 3 hwi (by rw [ht]; rfl) (ai_vpin h0 hlt) hdg k⟩
  · exact ⟨_, hf _ hlt, fun k => va_aldq hx hb hV hP i 4 hwi (by rw [ht]; rfl) (ai_vpin h0 hlt) hdg k⟩
  · exact ⟨_, hf _ hlt, fun k => ai_alda hx hb hV hP i 5 hwi (by rw [ht]; rfl) (ai_vpin h0 hlt) hdg k⟩
theorem so_iast (hx : p.tables.exec = Jvm.exec) (hb : c.code = cc) (hV : va_K (dC, dI) vwCl (ai_tys tc) s)
    (hdg : decode cc pc = .ok (.iastore, 1)) (hn : npc = pc + 1) (hK : ai_KS p l e R s m args below meth c nL b0 rho tc dC dI base ws0 kE sE mk0 ms0 os0 Q K) (h : ai_o_ast 1 npc call K loc st g = some r) : ai_At p l e R s m args below meth c nL b0 rho tc dC dI base ws0 kE sE mk0 ms0 os0 Q pc loc st g r := by
  subst hn
  refine so_ast (by decide) (fun {H locs cells slots ls rest z ws ic a e0 c1 v w} ht hfit hE hP hD hS hwi hRC hv h0 hlt => ?_) hK h
  obtain ⟨hl, f, rfl, hf⟩ := hRC.ints (Or.inl ht)
  obtain ⟨x, rfl, nx⟩ := hv.int ((ai_isn_iff v).mp hfit)
  exact ⟨_, fun ws' hA => ai_RC.upI (Or.inl ht) hl hf hv hA, fun k => va_iast hx hb hV hP hD hS ic 0 hwi (by rw [ht]; rfl) (ai_vpin h0 hlt) hdg k⟩
theorem so_bast (hx : p.tables.exec = Jvm.exec) (hb : c.code = cc) (hV : va_K (dC, dI) vwCl (ai_tys tc) s)
    (hdg : decode cc pc = .ok (.bastore, 1)) (hn : npc = pc + 1) (hK : ai_KS p l e R s m args below meth c nL b0 rho tc dC dI base ws0 kE sE mk0 ms0 os0 Q K) (h : ai_o_ast 2 npc call K loc st g = some r) : ai_At p l e R s m args below meth c nL b0 rho tc dC dI base ws0 kE sE mk0 ms0 os0 Q pc loc st g r := by
  subst hn
  refine so_ast (by decide) (fun {H locs cells slots ls rest z ws ic a e0 c1 v w} ht hfit hE hP hD hS hwi hRC hv h0 hlt => ?_) hK h
  obtain ⟨hl, f, rfl, hf⟩ := hRC.ints (Or.inr ht)
  obtain ⟨h1, h2⟩ := ai_fits_bool hE hfit
  obtain ⟨x, rfl, nx⟩ := hv.int h1
  have hnar : vp_nar .boolean x = x := by rcases h2 x nx with rfl | rfl <;> rfl
  exact ⟨_, fun ws' hA => ai_RC.upI (Or.inr ht) hl hf hv hA, fun k => va_zast hx hb hV hP hD hS ic 1 hwi (by rw [ht]; rfl) (ai_vpin h0 hlt) hdg (by rw [hnar]; exact k)⟩
theorem so_last (hx : p.tables.exec = Jvm.exec) (hb : c.code = cc) (hV : va_K (dC, dI) vwCl (ai_tys tc) s)
    (hdg : decode cc pc = .ok (.lastore, 1)) (hn : npc = pc + 1) (hK : ai_KS p l e R s m args below meth c nL b0 rho tc dC dI base ws0 kE sE mk0 ms0 os0 Q K) (h : ai_o_ast 3 npc call K loc st g = some r) : ai_At p l e R s m args below meth c nL b0 rho tc dC dI base ws0 kE sE mk0 ms0 os0 Q pc loc st g r := by
  subst hn
  refine so_ast (by decide) (fun {H locs cells slots ls rest z ws ic a e0 c1 v w} ht hfit hE hP hD hS hwi hRC hv h0 hlt => ?_) hK h
  obtain ⟨hl, f, rfl, hf⟩ := hRC.longs ht
  have hv45 : v.1 = 4 ∨ v.1 = 5 := by
    rcases Bool.or_eq_true_iff.mp hfit with q | q
    · exact Or.inl (Nat.eq_of_beq_eq_true q)
    · exact Or.inr (Nat.eq_of_beq_eq_true q)
  obtain ⟨x, rfl, nx⟩ := hv.lng hv45
  exact ⟨_, fun ws' hA => ai_RC.upL ht hl hf hv hA, fun k => va_last hx hb hV hP hD hS ic 2 hwi (by rw [ht]; rfl) (ai_vpin h0 hlt) hdg k⟩
theorem ai_eta {g : ai_G} {v : ai_V} {q : Nat × ai_C} (h : ai_cell g v = some q) : ai_cell (g.1, ai_nx g, g.2.2) v = some q := h
theorem so_aast (hx : p.tables.exec = Jvm.exec) (hb : c.code = cc) (hV : va_K (dC, dI) vwCl (ai_tys tc) s)
    (hdg : decode cc pc = .ok (.aastore, 1)) (hn : npc = pc + 1) (hK : ai_KS p l e R s m args below meth c nL b0 rho tc dC dI base ws0 kE sE mk0 ms0 os0 Q K) (h : ai_o_aast npc call K loc st g = some r) : ai_At p l e R s m args below meth c nL b0 rho tc dC dI base ws0 kE sE mk0 ms0 os0 Q pc loc st g r := by
  subst hn
  unfold ai_o_aast at h
  cases st with
  | nil => cases h
  | cons v st =>
    cases st with
    | nil => cases h
    | cons i st =>
      cases st with
      | nil => cases h
      | cons u st =>
        simp only at h
        cases hc : ai_cell g u with
        | none => rw [hc] at h; cases h
        | some q =>
          obtain ⟨ic, t, n, d, us⟩ := q
          rw [hc] at h
          simp only at h
          cases hv : ai_vals (ai_x g) i with
          | none => rw [hv] at h; cases h
          | some l1 =>
            rw [hv] at h
            simp only at h
            cases hcd : ((Nat.beq t 4 || Nat.beq t 5) && l1.all (fun q => Nat.blt (Prod.fst q) n) && ai_rfit t g v) with
            | false => rw [hcd] at h; cases h
            | true =>
              rw [hcd] at h
              simp only [Bool.and_eq_true] at hcd
              have ht : t = 4 ∨ t = 5 := by
                rcases Bool.or_eq_true_iff.mp hcd.1.1 with q | q
                · exact Or.inl (Nat.eq_of_beq_eq_true q)
                · exact Or.inr (Nat.eq_of_beq_eq_true q)
              refine so_store (k := t) (ok := fun g v => ai_rfit t g v) rfl (fun {H locs cells slots ls rest z ws ic2 a e0 c1 w} h1 _ hok hE hWR hP hD hS hwi hRC hvw h0 hlt => ?_) hc hv (Or.inr rfl) (by omega) hcd.1.2 hcd.2 hK h
              have e1 : c1.1 = t := by omega
              obtain ⟨hl, f, rfl, hf⟩ := hRC.refs (by omega)
              have hok : ai_rfit t g v = true := hok
              unfold ai_rfit at hok
              cases h2 : Nat.beq (Prod.fst v) 2 with
              | true =>
                have e2 : v.1 = 2 := Nat.eq_of_beq_eq_true h2
                have ew := hvw.nul e2
                subst ew
                refine ⟨_, fun ws' hA => ai_RC.upR (x := none) (by omega) hl hf hvw hA, fun k => ?_⟩
                rcases ht with rfl | rfl
                · exact va_astqN (C := "PenPage$Page") hx hb hV hP hD hS ic2 3 hwi (by rw [e1]; rfl) (ai_vpin h0 hlt) hdg k
                · exact va_astqN (C := "PenPage$Step") hx hb hV hP hD hS ic2 4 hwi (by rw [e1]; rfl) (ai_vpin h0 hlt) hdg k
              | false =>
                rw [h2] at hok
                simp only [cond_false] at hok
                cases hc2 : ai_cell g v with
                | none => rw [hc2] at hok; cases hok
                | some q =>
                  obtain ⟨iv, tg, cv, fs, zz⟩ := q
                  rw [hc2] at hok
                  simp only [Bool.and_eq_true] at hok
                  have e3 : tg = 0 := Nat.eq_of_beq_eq_true hok.1
                  have e4 : cv = ai_ofk t := Nat.eq_of_beq_eq_true hok.2
                  subst e3
                  obtain ⟨av, ev, rfl, hwv, -, -, hRCv⟩ := ai_cell_ok hWR (ai_eta hc2) hvw
                  obtain ⟨us2, rfl, -⟩ := hRCv.obj rfl
                  refine ⟨_, fun ws' hA => ai_RC.upR (x := some av) (by omega) hl hf hvw hA, fun k => ?_⟩
                  have e4 : cv = ai_ofk t := e4
                  subst e4
                  rcases ht with rfl | rfl
                  · exact va_astq (r := (RX3, TX3, 6)) hx hb hV hP hD hS ic2 3 iv 3 hwi (by rw [e1]; rfl) hwv rfl (ai_vpin h0 hlt) hdg k
                  · exact va_astq (r := (RX4, TX4, 1)) hx hb hV hP hD hS ic2 4 iv 4 hwi (by rw [e1]; rfl) hwv rfl (ai_vpin h0 hlt) hdg k
theorem lgc_eq {y z : Int32} : (lg_cmp y.toInt64 z.toInt64 = 0 ↔ y = z) ∧ (lg_cmp y.toInt64 z.toInt64 = 0 ∨ lg_cmp y.toInt64 z.toInt64 = 1 ∨ lg_cmp y.toInt64 z.toInt64 = -1) := by
  have e : y.toInt64 = z.toInt64 ↔ y = z := by rw [← Int64.toInt_inj, ← Int32.toInt_inj, Int32.toInt_toInt64, Int32.toInt_toInt64]
  unfold lg_cmp
  by_cases h1 : y.toInt64 > z.toInt64
  · rw [if_pos h1]
    have hne : ¬ y = z := fun q => by
      rw [q] at h1
      rw [gt_iff_lt, Int64.lt_iff_toInt_lt] at h1
      omega
    exact ⟨⟨fun q => absurd q (by decide), fun q => absurd q hne⟩, Or.inr (Or.inl rfl)⟩
  · rw [if_neg h1]
    by_cases h2 : y.toInt64 = z.toInt64
    · rw [if_pos h2]
      exact ⟨⟨fun _ => e.mp h2, fun _ => rfl⟩, Or.inl rfl⟩
    · rw [if_neg h2]
      exact ⟨⟨fun q => absurd q (by decide), fun q => absurd (e.mpr q) h2⟩, Or.inr (Or.inr rfl)⟩
theorem so_lcmp (hx : p.tables.exec = Jvm.exec) (hb : c.code = cc) (hdg : decode cc pc = .ok (.lcmp, 1)) (hn : npc = pc + 1) (hK : ai_KS p l e R s m args below meth c nL b0 rho tc dC dI base ws0 kE sE mk0 ms0 os0 Q K) (h : ai_o_lcmp npc call K loc st g = some r) : ai_At p l e R s m args below meth c nL b0 rho tc dC dI base ws0 kE sE mk0 ms0 os0 Q pc loc st g r := by
  subst hn
  unfold ai_o_lcmp at h
  cases st with
  | nil => cases h
  | cons v st =>
    cases st with
    | nil => cases h
    | cons u st =>
      simp only at h
      cases hcd : (Nat.ble 4 (Prod.fst u) && Nat.ble 4 (Prod.fst v)) with
      | false => rw [hcd] at h; cases h
      | true =>
        rw [hcd] at h
        simp only [cond_true] at h
        rw [Bool.and_eq_true] at hcd
        have u4 : 4 ≤ u.1 := Nat.le_of_ble_eq_true hcd.1
        have v4 : 4 ≤ v.1 := Nat.le_of_ble_eq_true hcd.2
        cases he : ai_eq (ai_x g) (Nat.sub (Prod.fst u) 4, Prod.snd u) (Nat.sub (Prod.fst v) 4, Prod.snd v) with
        | none => rw [he] at h; cases h
        | some l1 =>
          rw [he] at h
          simp only at h
          have htg := ai_cmp_tags (k := .eq) he
          have hu5 : u.1 - 4 ≤ 1 := htg.1
          have hv5 : v.1 - 4 ≤ 1 := htg.2
          refine ai_At.all (k := fun q => K (pc + 1) loc ((cond (Prod.fst q) (ai_i 0) (0, -1, 1)) :: st) (ai_ge g (Prod.snd q))) h (fun _ => pc + 1) (fun _ => loc) (fun q => (cond (Prod.fst q) (ai_i 0) (0, -1, 1)) :: st) (fun q => ai_ge g (Prod.snd q)) (fun q _ rq hq => hK _ _ _ _ _ hq) (fun q => ⟨Nat.le_refl _, Nat.le_refl _⟩) ?_
          intro H locs cells slots ls vs ws ⟨f0, f1, f2, f3, f4, f5, f6, f7, f8⟩ kk
          obtain ⟨w1, rest, rfl, q1, q2⟩ := f2.cons
          obtain ⟨w2, rest, rfl, q3, q4⟩ := q2.cons
          obtain ⟨z, rfl, nz⟩ := q1.lng (by omega)
          obtain ⟨y, rfl, ny⟩ := q3.lng (by omega)
          refine W.lcmp hx hb hdg ?_
          obtain ⟨w1, w2⟩ := ai_eq_ok f7 (z := z) (y := y) ny nz he
          obtain ⟨c1, c2⟩ := lgc_eq (y := y) (z := z)
          by_cases hyz : y = z
          · obtain ⟨q, hq, e1, e2⟩ := w1 hyz
            refine kk q hq H locs cells slots ls _ ws (ai_ge_fr ⟨f0, f1, ⟨?_, q4⟩, f3, f4, f5, f6, f7, f8⟩ e2)
            rw [e1, c1.mpr hyz]
            exact ai_Rv.mkI (ai_num_i rfl)
          · obtain ⟨q, hq, e1, e2⟩ := w2 hyz
            refine kk q hq H locs cells slots ls _ ws (ai_ge_fr ⟨f0, f1, ⟨?_, q4⟩, f3, f4, f5, f6, f7, f8⟩ e2)
            rw [e1]
            refine ai_Rv.mkI (Or.inl ⟨rfl, ?_⟩)
            rcases c2 with c2 | c2 | c2 <;> rw [c2] <;> decide
theorem so_sw (hx : p.tables.exec = Jvm.exec) (hb : c.code = cc) {dflt lo hi : Int} {offs : Array Int} {len df : Nat} {ts : List Nat} (hdg : decode cc pc = .ok (.tableswitch dflt lo hi offs, len)) (hdf : (pc : Int) + dflt = (df : Int)) (hlen : hi = lo + (ts.length : Int) - 1) (hto : ∀ i, i < ts.length → ∃ off, offs[i]? = some off ∧ (pc : Int) + off = ((ai_nth df ts i : Nat) : Int))
    (hK : ai_KS p l e R s m args below meth c nL b0 rho tc dC dI base ws0 kE sE mk0 ms0 os0 Q K) (h : ai_o_sw lo hi df ts call K loc st g = some r) : ai_At p l e R s m args below meth c nL b0 rho tc dC dI base ws0 kE sE mk0 ms0 os0 Q pc loc st g r := by
  unfold ai_o_sw at h
  cases st with
  | nil => cases h
  | cons v st =>
    simp only at h
    cases hr : ai_rng (ai_x g) v with
    | none => rw [hr] at h; cases h
    | some q =>
      obtain ⟨a, b⟩ := q
      rw [hr] at h
      simp only at h
      refine ai_At.all h (fun q => q.1) (fun _ => loc) (fun _ => st) (fun q => ai_ge g (Prod.snd q)) (fun q _ rq hq => hK _ _ _ _ _ hq) (fun q => ⟨Nat.le_refl _, Nat.le_refl _⟩) ?_
      intro H locs cells slots ls vs ws ⟨f0, f1, f2, f3, f4, f5, f6, f7, f8⟩ kk
      obtain ⟨w1, rest, rfl, q1, q2⟩ := f2.cons
      obtain ⟨z, rfl, nz⟩ := q1.int (ai_rng_tag hr)
      obtain ⟨r1, r2⟩ := ai_rng_ok f7 nz hr
      have bz := ai_le32 z
      by_cases h1 : z.toInt < lo
      · refine lv_tableOut hx hb hdg (Or.inl h1) hdf ?_
        refine kk (df, ai_ref (ai_x g) v ai_lo (lo - 1)) (List.mem_append_left _ (List.mem_append_left _ ?_)) H locs cells slots ls rest ws (ai_ge_fr ⟨f0, f1, q2, f3, f4, f5, f6, f7, f8⟩ (ai_ref_ok f7 nz (by rw [ai_lo_eq]; omega) (by omega)))
        rw [(ai_ilt_iff a lo).mpr (by omega)]
        exact List.mem_singleton.mpr rfl
      · by_cases h2 : hi < z.toInt
        · refine lv_tableOut hx hb hdg (Or.inr h2) hdf ?_
          refine kk (df, ai_ref (ai_x g) v (hi + 1) ai_hi) (List.mem_append_left _ (List.mem_append_right _ ?_)) H locs cells slots ls rest ws (ai_ge_fr ⟨f0, f1, q2, f3, f4, f5, f6, f7, f8⟩ (ai_ref_ok f7 nz (by omega) (by rw [ai_hi_eq]; omega)))
          rw [(ai_ilt_iff hi b).mpr (by omega)]
          exact List.mem_singleton.mpr rfl
        · have hi2 : (z.toInt - lo).toNat < ts.length := by omega
          obtain ⟨off, ho1, ho2⟩ := hto _ hi2
          refine lv_tableIn hx hb hdg h1 h2 ho1 ho2 ?_
          have ez : lo + (((z.toInt - lo).toNat : Nat) : Int) = z.toInt := by omega
          refine kk (ai_nth df ts (z.toInt - lo).toNat, ai_ref (ai_x g) v (lo + (((z.toInt - lo).toNat : Nat) : Int)) (lo + (((z.toInt - lo).toNat : Nat) : Int))) (List.mem_append_right _ (List.mem_map.mpr ⟨(z.toInt - lo).toNat, List.mem_filter.mpr ⟨List.mem_range.mpr hi2, ?_⟩, rfl⟩)) H locs cells slots ls rest ws (ai_ge_fr ⟨f0, f1, q2, f3, f4, f5, f6, f7, f8⟩ (ai_ref_ok f7 nz (by omega) (by omega)))
          rw [Bool.and_eq_true, ai_ile_iff, ai_ile_iff]
          omega
end ARR
