/-! ===== fields, arrays, new cells ===== -/
def ai_tys (tc : Nat → ClassId) : List (ClassId × FieldType) := [(tc 1, .int), (tc 2, .boolean), (tc 3, .long), (tc 4, .object "PenPage$Page"), (tc 5, .object "PenPage$Step"), (tc 6, .array .int)]
/-- t: 0 a number, 1 a truth value, 2 a reference -/
def ai_tyOK (t : Nat) (ty : FieldType) : Prop := (t = 0 ∧ ty = .int) ∨ (t = 1 ∧ ty = .boolean) ∨ (t = 2 ∧ ((∃ n, ty = .object n) ∨ ∃ t', ty = .array t'))
theorem ai_bool {z : Int32} (h0 : 0 ≤ z.toInt) (h1 : z.toInt ≤ 1) : z = 0 ∨ z = 1 := by
  have h : z.toInt = 0 ∨ z.toInt = 1 := by omega
  rcases h with h | h
  · exact Or.inl (Int32.toInt_inj.mp h)
  · exact Or.inr (Int32.toInt_inj.mp h)
theorem ai_fits_bool {rho : Nat → Int32} {x : ai_E} {v : ai_V} (hE : ai_EV rho x) (h : ai_fits 1 x v = true) : v.1 ≤ 1 ∧ ∀ z : Int32, ai_num rho v z → z = 0 ∨ z = 1 := by
  simp only [ai_fits] at h
  cases hr : ai_rng x v with
  | none => rw [hr] at h; cases h
  | some q =>
    obtain ⟨a, b⟩ := q
    rw [hr] at h
    simp only [Bool.and_eq_true, ai_ile_iff] at h
    refine ⟨ai_rng_tag hr, fun z hz => ?_⟩
    obtain ⟨q1, q2⟩ := ai_rng_ok hE hz hr
    exact ai_bool (by omega) (by omega)
theorem ai_fits_ok {b0 : Nat} {rho : Nat → Int32} {ws : va_W} {x : ai_E} {t : Nat} {ty : FieldType} {v : ai_V} {w : Value} (hE : ai_EV rho x) (ht : ai_tyOK t ty) (h : ai_fits t x v = true) (hw : ai_Rv b0 rho ws v w) : narrow ty w = w ∧ fits ty w = true := by
  rcases ht with ⟨rfl, rfl⟩ | ⟨rfl, rfl⟩ | ⟨rfl, ht⟩
  · have h : ai_isn v = true := h
    obtain ⟨z, rfl, -⟩ := hw.int ((ai_isn_iff v).mp h)
    exact ⟨rfl, rfl⟩
  · obtain ⟨h1, h2⟩ := ai_fits_bool hE h
    obtain ⟨z, rfl, nz⟩ := hw.int h1
    rcases h2 z nz with rfl | rfl
    · exact ⟨rfl, rfl⟩
    · exact ⟨rfl, rfl⟩
  · have h : (Nat.beq (Prod.fst v) 2 || Nat.beq (Prod.fst v) 3) = true := h
    have h9 : v.1 = 2 ∨ v.1 = 3 := by
      rcases Bool.or_eq_true_iff.mp h with q | q
      · exact Or.inl (Nat.eq_of_beq_eq_true q)
      · exact Or.inr (Nat.eq_of_beq_eq_true q)
    rcases hw.rn h9 with rfl | ⟨a, rfl⟩ <;> rcases ht with ⟨n, rfl⟩ | ⟨t', rfl⟩ <;> exact ⟨rfl, rfl⟩
theorem ai_RC.obj {b0 : Nat} {rho : Nat → Int32} {tc : Nat → ClassId} {ws : va_W} {c : ai_C} {e : va_E} (h : ai_RC b0 rho tc ws c e) (hc : c.1 = 0) : ∃ vs, e = .inr (c.2.1, vs) ∧ ai_SR b0 rho ws c.2.2.1 vs := by
  rcases h with h | h | h | h
  · exact h.2
  all_goals (exfalso; omega)
theorem ai_RC.ints {b0 : Nat} {rho : Nat → Int32} {tc : Nat → ClassId} {ws : va_W} {c : ai_C} {e : va_E} (h : ai_RC b0 rho tc ws c e) (hc : c.1 = 1 ∨ c.1 = 2) : c.2.1 < 2 ^ 31 ∧ ∃ f : Nat → Int32, e = .inl (tc c.1, c.2.1, .inl f) ∧ ∀ j, j < c.2.1 → ai_Rv b0 rho ws (ai_el c j) (.int (f j)) := by
  rcases h with h | h | h | h
  · exfalso; omega
  · exact h.2
  all_goals (exfalso; omega)
theorem ai_RC.longs {b0 : Nat} {rho : Nat → Int32} {tc : Nat → ClassId} {ws : va_W} {c : ai_C} {e : va_E} (h : ai_RC b0 rho tc ws c e) (hc : c.1 = 3) : c.2.1 < 2 ^ 31 ∧ ∃ f : Nat → Int64, e = .inl (tc c.1, c.2.1, .inr (.inl f)) ∧ ∀ j, j < c.2.1 → ai_Rv b0 rho ws (ai_el c j) (.long (f j)) := by
  rcases h with h | h | h | h
  · exfalso; omega
  · exfalso; omega
  · exact h.2
  · exfalso; omega
theorem ai_RC.refs {b0 : Nat} {rho : Nat → Int32} {tc : Nat → ClassId} {ws : va_W} {c : ai_C} {e : va_E} (h : ai_RC b0 rho tc ws c e) (hc : c.1 = 4 ∨ c.1 = 5 ∨ c.1 = 6) : c.2.1 < 2 ^ 31 ∧ ∃ f : Nat → Option Nat, e = .inl (tc c.1, c.2.1, .inr (.inr (.inr (.inr f)))) ∧ ∀ j, j < c.2.1 → ai_Rv b0 rho ws (ai_el c j) (va_rf (f j)) := by
  rcases h with h | h | h | h
  · exfalso; omega
  · exfalso; omega
  · exfalso; omega
  · exact h.2
section HEAP
variable {p : Program} {l : Launch} {e : Env} {R : Room} {s : State} {m : MethodId} {args : Array Value} {below : List Frame} {meth : Method} {c : Code} {nL b0 : Nat} {rho : Nat → Int32} {tc dC : Nat → ClassId} {dI : Nat → Nat → Nat} {base : Nat} {ws0 : va_W} {kE sE mk0 ms0 : Nat} {os0 : List ai_O} {Q : State → Prop}
variable {cc : ByteArray} {own : String} {Ts : List Cond} {call : ai_K} {K : ai_K4} {pc npc : Nat} {loc st : List ai_V} {g : ai_G} {r : ai_R}
theorem so_getf (hx : p.tables.exec = Jvm.exec) (hb : c.code = cc) (hts : ∀ w ∈ Ts, w.before args s = true) (hown : s.vm.findClass own = some m.cls) (hV : va_K (dC, dI) vwCl (ai_tys tc) s)
    {ci k idx N : Nat} {C : String} {T : u_T} (hcl : vwCl[ci]? = some (C, T, N)) (hkN : k < N) (hin : ∀ w ∈ u_ws C T N, w ∈ Ts)
    (hlink : (Cond.fieldLink own idx (T k).1 (T k).2.1 (T k).2.2.1).before args s = true ∨ ∃ host, (Cond.fieldLinkNest own idx (T k).1 (T k).2.1 (T k).2.2.1 host).before args s = true)
    (hdg : decode cc pc = .ok (.getfield idx, 3)) (hn : npc = pc + 3) (hK : ai_KS p l e R s m args below meth c nL b0 rho tc dC dI base ws0 kE sE mk0 ms0 os0 Q K) (h : ai_o_getf ci k npc call K loc st g = some r) : ai_At p l e R s m args below meth c nL b0 rho tc dC dI base ws0 kE sE mk0 ms0 os0 Q pc loc st g r := by
  unfold ai_o_getf at h
  cases st with
  | nil => cases h
  | cons v st =>
    simp only at h
    cases hc : ai_cell g v with
    | none => rw [hc] at h; cases h
    | some q =>
      obtain ⟨i, t, c1, fs, z⟩ := q
      rw [hc] at h
      simp only at h
      cases hcd : (Nat.beq t 0 && Nat.beq c1 ci && Nat.blt k fs.length) with
      | false => rw [hcd] at h; cases h
      | true =>
        rw [hcd] at h
        simp only [Bool.and_eq_true] at hcd
        have e1 : t = 0 := Nat.eq_of_beq_eq_true hcd.1.1
        have e2 : c1 = ci := Nat.eq_of_beq_eq_true hcd.1.2
        have e3 : k < fs.length := Nat.le_of_ble_eq_true hcd.2
        subst e1; subst e2
        refine ai_At.step (hK _ _ _ _ _ h) ⟨Nat.le_refl _, Nat.le_refl _⟩ fun H locs cells slots ls vs ws ⟨f0, f1, f2, f3, f4, f5⟩ _ _ kk => ?_
        obtain ⟨w1, rest, rfl, q1, q2⟩ := f2.cons
        obtain ⟨a, e0, rfl, hwi, hil, hcg, hRC⟩ := ai_cell_ok f3 hc q1
        obtain ⟨us, rfl, hSR⟩ := hRC.obj rfl
        have hk2 : fs[k]? = some (ai_nth ai_un fs k) := by rw [ai_nth_eq, List.getElem?_eq_getElem e3]; rfl
        obtain ⟨w, hw1, hw2⟩ := hSR.at hk2
        have kk' := kk H locs cells slots ls (w :: rest) ws ⟨f0, f1, ⟨hw2, q2⟩, f3, f4, f5⟩
        rw [hn] at kk'
        rcases hlink with hlink | ⟨host, hlink⟩
        · exact va_get (T := T) hx hb hts hin hown hV f4 i hwi hcl k hkN hlink (fun _ h9 => h9) hw1 hdg kk'
        · exact va_getN (T := T) hx hb hts hin hown hV f4 i hwi hcl k hkN hlink (fun _ h9 => h9) hw1 hdg kk'
theorem so_putf (hx : p.tables.exec = Jvm.exec) (hb : c.code = cc) (hts : ∀ w ∈ Ts, w.before args s = true) (hown : s.vm.findClass own = some m.cls) (hV : va_K (dC, dI) vwCl (ai_tys tc) s)
    {ci k t idx N : Nat} {C : String} {T : u_T} {ty0 : Nat → FieldType} (hcl : vwCl[ci]? = some (C, T, N)) (hkN : k < N) (hin : ∀ w ∈ u_ws C T N, w ∈ Ts)
    (hty : ∀ k, k < N → parseFieldDescriptor (T k).2.2.1 = some (ty0 k)) (hnm : ∀ a, a < N → ∀ b, b < N → a ≠ b → (T a).2.1 ≠ (T b).2.1) (htk : ai_tyOK t (ty0 k))
    (hlink : (Cond.fieldLink own idx (T k).1 (T k).2.1 (T k).2.2.1).before args s = true) (hfin : (T k).2.2.2 = false ∨ ((T k).2.2.2 = true ∧ meth.name = "<init>" ∧ (T k).1 = own))
    (hdg : decode cc pc = .ok (.putfield idx, 3)) (hn : npc = pc + 3) (hK : ai_KS p l e R s m args below meth c nL b0 rho tc dC dI base ws0 kE sE mk0 ms0 os0 Q K) (h : ai_o_putf ci k t npc call K loc st g = some r) : ai_At p l e R s m args below meth c nL b0 rho tc dC dI base ws0 kE sE mk0 ms0 os0 Q pc loc st g r := by
  unfold ai_o_putf at h
  cases st with
  | nil => cases h
  | cons v st =>
    cases st with
    | nil => cases h
    | cons u st =>
      simp only at h
      cases hc : ai_cell g u with
      | none => rw [hc] at h; cases h
      | some q =>
        obtain ⟨i, tg, c1, fs, z⟩ := q
        rw [hc] at h
        simp only at h
        cases hcd : (Nat.beq tg 0 && Nat.beq c1 ci && Nat.blt k fs.length && ai_fits t (ai_x g) v) with
        | false => rw [hcd] at h; cases h
        | true =>
          rw [hcd] at h
          simp only [Bool.and_eq_true] at hcd
          have e1 : tg = 0 := Nat.eq_of_beq_eq_true hcd.1.1.1
          have e2 : c1 = ci := Nat.eq_of_beq_eq_true hcd.1.1.2
          have e3 : k < fs.length := Nat.le_of_ble_eq_true hcd.1.2
          have e4 := hcd.2
          subst e1; subst e2
          refine ai_At.step (hK _ _ _ _ _ h) ⟨Nat.le_refl _, Nat.le_refl _⟩ fun H locs cells slots ls vs ws ⟨f0, f1, f2, f3, f4, f5, f6, f7, f8⟩ _ _ kk => ?_
          obtain ⟨w1, rest, rfl, q1, q2⟩ := f2.cons
          obtain ⟨w2, rest, rfl, q3, q4⟩ := q2.cons
          obtain ⟨a, e0, rfl, hwi, hil, hcg, hRC⟩ := ai_cell_ok f3 hc q3
          obtain ⟨us, rfl, hSR⟩ := hRC.obj rfl
          obtain ⟨hn1, hf1⟩ := ai_fits_ok f7 htk e4 q1
          have hul : k < us.length := by rw [hSR.len]; exact e3
          have key : ∀ (H1 : Heap) (locs1 : List Loc), va_P (dC, dI) vwCl (ws.set i (a, .inr (c1, us.set k w1))) H1 → va_D (ai_A base) (ws.set i (a, .inr (c1, us.set k w1))) → va_S (ai_A base) s.heap H1 locs1 → W p l e R s m args below meth c H1 locs1 cells slots Q (F0 m (pc + 3) ls rest) := by
            intro H1 locs1 hP1 hD1 hS1
            have hA : ai_AD ws (ws.set i (a, .inr (c1, us.set k w1))) := ai_AD.set hwi
            have := kk H1 locs1 cells slots ls rest (ws.set i (a, .inr (c1, us.set k w1))) ⟨f0.tr hA, f1.mono hA, q4.mono hA, f3.put hwi (Or.inl ⟨rfl, us.set k w1, rfl, by
              show ai_SR _ _ _ (ai_upd fs k v) _
              rw [ai_upd_eq]
              exact (hSR.mono hA).set (q1.mono hA)⟩), hP1, hD1, hS1, f7, f8⟩
            rw [hn] at this
            exact this
          rcases hfin with hfin | ⟨hfin, hin2, hdecl⟩
          · exact va_put (T := T) hx hb hts hin ty0 hty hnm hown hV f4 f5 f6 i hwi hcl k hkN hlink (fun _ h9 => h9) hfin (hty k hkN) hn1 hf1 hul hdg key
          · exact va_putF (T := T) hx hb hts hin ty0 hty hnm hown hV f4 f5 f6 i hwi hcl k hkN hlink (fun _ h9 => h9) hfin hin2 hdecl (hty k hkN) hn1 hf1 hul hdg key
theorem so_len (hx : p.tables.exec = Jvm.exec) (hb : c.code = cc) (hV : va_K (dC, dI) vwCl (ai_tys tc) s) {sl : Int × Int} {L : Nat} {xs : Nat → Int32} (hX : va_X b0 L xs s s.heap) (hbl : b0 < s.heap.size) (hbA : ¬ ai_A base b0) (hL : L < 2 ^ 31) (hsl : sl.1 ≤ (L : Int) ∧ (L : Int) ≤ sl.2)
    (hdg : decode cc pc = .ok (.arraylength, 1)) (hn : npc = pc + 1) (hK : ai_KS p l e R s m args below meth c nL b0 rho tc dC dI base ws0 kE sE mk0 ms0 os0 Q K) (h : ai_o_len sl npc call K loc st g = some r) : ai_At p l e R s m args below meth c nL b0 rho tc dC dI base ws0 kE sE mk0 ms0 os0 Q pc loc st g r := by
  unfold ai_o_len at h
  cases st with
  | nil => cases h
  | cons v st =>
    simp only at h
    cases h6 : Nat.beq (Prod.fst v) 6 with
    | true =>
      rw [h6] at h
      have e6 : v.1 = 6 := Nat.eq_of_beq_eq_true h6
      refine ai_At.step (hK _ _ _ _ _ h) ⟨Nat.le_refl _, Nat.le_refl _⟩ fun H locs cells slots ls vs ws ⟨f0, f1, f2, f3, f4, f5, f6, f7⟩ _ _ kk => ?_
      obtain ⟨w1, rest, rfl, q1, q2⟩ := f2.cons
      rw [q1.scr e6]
      have e : (Int32.ofNat L).toInt = (L : Int) := nI_toInt hL
      have kk' := kk H locs cells slots ls (.int (Int32.ofNat L) :: rest) ws ⟨f0, f1, ⟨ai_Rv.mkI (Or.inl ⟨rfl, by show sl.1 ≤ _; rw [e]; exact hsl.1, by show _ ≤ sl.2; rw [e]; exact hsl.2⟩), q2⟩, f3, f4, f5, f6, f7⟩
      rw [hn] at kk'
      exact va_slen hx hb hX hbl hbA f6 hdg kk'
    | false =>
      rw [h6] at h
      simp only [cond_false] at h
      cases hc : ai_cell g v with
      | none => rw [hc] at h; cases h
      | some q =>
        obtain ⟨i, t, n, d, us⟩ := q
        rw [hc] at h
        simp only at h
        cases hcd : Nat.ble 1 t with
        | false => rw [hcd] at h; cases h
        | true =>
          rw [hcd] at h
          simp only [cond_true] at h
          have h1t : 1 ≤ t := Nat.le_of_ble_eq_true hcd
          refine ai_At.step (hK _ _ _ _ _ h) ⟨Nat.le_refl _, Nat.le_refl _⟩ fun H locs cells slots ls vs ws ⟨f0, f1, f2, f3, f4, f5⟩ _ _ kk => ?_
          obtain ⟨w1, rest, rfl, q1, q2⟩ := f2.cons
          obtain ⟨a, e0, rfl, hwi, hil, hcg, hRC⟩ := ai_cell_ok f3 hc q1
          obtain ⟨hl, h6t, y, rfl⟩ := hRC.arr h1t
          have kk' := kk H locs cells slots ls (.int (Int32.ofNat n) :: rest) ws ⟨f0, f1, ⟨ai_Rv.mkI (ai_num_i (nI_toInt hl)), q2⟩, f3, f4, f5⟩
          rw [hn] at kk'
          obtain ⟨ty, hty⟩ : ∃ ty, (ai_tys tc)[t - 1]? = some (tc t, ty) := by
            have h1t : 1 ≤ t := h1t
            have h6t : t ≤ 6 := h6t
            rcases (show t = 1 ∨ t = 2 ∨ t = 3 ∨ t = 4 ∨ t = 5 ∨ t = 6 by omega) with rfl | rfl | rfl | rfl | rfl | rfl <;> exact ⟨_, rfl⟩
          exact va_alen (x := (n, y)) hx hb hV f4 i (t - 1) hwi hty rfl hdg kk'
theorem ai_el_cons {t n : Nat} {d : List ai_V} {us : List (Nat × ai_V)} {k j : Nat} {v : ai_V} : ai_el (t, n, d, (k, v) :: us) j = if k = j then v else ai_el (t, n, d, us) j := ai_lk_cons _ _ _ _
theorem ai_sv_ok {rho : Nat → Int32} {x : ai_E} {k : Nat} (hE : ai_EV rho x) : ai_num rho (ai_sv x k) (rho k) := by
  unfold ai_sv
  cases hb : ai_ieq (ai_env x k).1 (ai_env x k).2 with
  | true =>
    have h := hE k
    exact Or.inl ⟨rfl, h⟩
  | false =>
    refine Or.inr ⟨rfl, ?_⟩
    show rho k = rho k + Int32.ofInt 0
    rw [ai_ofInt0]
theorem so_ald {sl : Int × Int} {pt : Nat → Bool} (hscr : pt 1 = true → ∀ {H : Heap} {locs : List Loc} {cells slots : Nat} {ls : Array Slot} {rest : List Value} {z : Int32}, va_S (ai_A base) s.heap H locs → z.toInt < sl.1 → ¬ z < 0 →
      W p l e R s m args below meth c H locs cells slots Q (F0 m npc ls (.int (rho z.toNatClampNeg) :: rest)) → W p l e R s m args below meth c H locs cells slots Q (F0 m pc ls (.int z :: .ref b0 :: rest)))
    (hrow : ∀ {H : Heap} {locs : List Loc} {cells slots : Nat} {ls : Array Slot} {rest : List Value} {z : Int32} {ws : va_W} {i a : Nat} {e0 : va_E} {c1 : ai_C}, pt c1.1 = true → va_P (dC, dI) vwCl ws H → ws[i]? = some (a, e0) → ai_RC b0 rho tc ws c1 e0 → ¬ z < 0 → z.toNatClampNeg < c1.2.1 →
      ∃ w, ai_Rv b0 rho ws (ai_el c1 z.toNatClampNeg) w ∧ (W p l e R s m args below meth c H locs cells slots Q (F0 m npc ls (w :: rest)) → W p l e R s m args below meth c H locs cells slots Q (F0 m pc ls (.int z :: .ref a :: rest))))
    (hK : ai_KS p l e R s m args below meth c nL b0 rho tc dC dI base ws0 kE sE mk0 ms0 os0 Q K) (h : ai_o_ald sl pt npc call K loc st g = some r) : ai_At p l e R s m args below meth c nL b0 rho tc dC dI base ws0 kE sE mk0 ms0 os0 Q pc loc st g r := by
  unfold ai_o_ald at h
  cases st with
  | nil => cases h
  | cons i st =>
    cases st with
    | nil => cases h
    | cons u st =>
      simp only at h
      cases hv : ai_vals (ai_x g) i with
      | none => rw [hv] at h; cases h
      | some l1 =>
        rw [hv] at h
        simp only at h
        have hit : i.1 ≤ 1 := by
          unfold ai_vals at hv
          cases h1 : ai_rng (ai_x g) i with
          | none => rw [h1] at hv; cases hv
          | some q => exact ai_rng_tag h1
        cases h6 : Nat.beq (Prod.fst u) 6 with
        | true =>
          rw [h6] at h
          simp only [cond_true] at h
          have e6 : u.1 = 6 := Nat.eq_of_beq_eq_true h6
          cases hcd : (pt 1 && l1.all (fun q => ai_ilt (.ofNat (Prod.fst q)) (Prod.fst sl))) with
          | false => rw [hcd] at h; cases h
          | true =>
            rw [hcd] at h
            simp only [cond_true] at h
            rw [Bool.and_eq_true, List.all_eq_true] at hcd
            refine ai_At.all (k := fun q => K npc loc (ai_sv (ai_x g) (Prod.fst q) :: st) (ai_ge g (Prod.snd q))) h (fun _ => npc) (fun _ => loc) (fun q => ai_sv (ai_x g) (Prod.fst q) :: st) (fun q => ai_ge g (Prod.snd q)) (fun q _ rq hq => hK _ _ _ _ _ hq) (fun q => ⟨Nat.le_refl _, Nat.le_refl _⟩) ?_
            intro H locs cells slots ls vs ws ⟨f0, f1, f2, f3, f4, f5, f6, f7, f8⟩ kk
            obtain ⟨w1, rest, rfl, q1, q2⟩ := f2.cons
            obtain ⟨w2, rest, rfl, q3, q4⟩ := q2.cons
            rw [q3.scr e6]
            obtain ⟨z, rfl, nz⟩ := q1.int hit
            obtain ⟨q, hq, z1, z2, z3, z4⟩ := ai_vals_ok f7 nz hv
            have z5 := (ai_ilt_iff _ _).mp (hcd.2 q hq)
            refine hscr hcd.1 f6 (by rw [z1]; exact z5) z3 (kk q hq H locs cells slots ls _ ws (ai_ge_fr ⟨f0, f1, ⟨ai_Rv.mkI (by rw [z2]; exact ai_sv_ok f7), q4⟩, f3, f4, f5, f6, f7, f8⟩ z4))
        | false =>
          rw [h6] at h
          simp only [cond_false] at h
          cases hc : ai_cell g u with
          | none => rw [hc] at h; cases h
          | some q =>
            obtain ⟨ic, t, n, d, us⟩ := q
            rw [hc] at h
            simp only at h
            cases hcd : (pt t && l1.all (fun q => Nat.blt (Prod.fst q) n)) with
            | false => rw [hcd] at h; cases h
            | true =>
              rw [hcd] at h
              simp only [cond_true] at h
              rw [Bool.and_eq_true, List.all_eq_true] at hcd
              refine ai_At.all (k := fun q => K npc loc (ai_lk us (ai_nth ai_un d 0) (Prod.fst q) :: st) (ai_ge g (Prod.snd q))) h (fun _ => npc) (fun _ => loc) (fun q => ai_lk us (ai_nth ai_un d 0) (Prod.fst q) :: st) (fun q => ai_ge g (Prod.snd q)) (fun q _ rq hq => hK _ _ _ _ _ hq) (fun q => ⟨Nat.le_refl _, Nat.le_refl _⟩) ?_
              intro H locs cells slots ls vs ws ⟨f0, f1, f2, f3, f4, f5, f6, f7, f8⟩ kk
              obtain ⟨w1, rest, rfl, q1, q2⟩ := f2.cons
              obtain ⟨w2, rest, rfl, q3, q4⟩ := q2.cons
              obtain ⟨a, e0, rfl, hwi, hil, hcg, hRC⟩ := ai_cell_ok f3 hc q3
              obtain ⟨z, rfl, nz⟩ := q1.int hit
              obtain ⟨q, hq, z1, z2, z3, z4⟩ := ai_vals_ok f7 nz hv
              have z5 : q.1 < n := Nat.le_of_ble_eq_true (hcd.2 q hq)
              obtain ⟨w, hw1, hw2⟩ := hrow (locs := locs) (cells := cells) (slots := slots) (ls := ls) (rest := rest) (z := z) hcd.1 f4 hwi hRC z3 (by rw [z2]; exact z5)
              refine hw2 (kk q hq H locs cells slots ls _ ws (ai_ge_fr ⟨f0, f1, ⟨?_, q4⟩, f3, f4, f5, f6, f7, f8⟩ z4))
              rw [z2] at hw1
              exact hw1
/-- a store into an array: what the row must give; ok: which values it takes -/
theorem so_store {k : Nat} {ok : ai_G → ai_V → Bool} {st1 : List ai_V} {v i u : ai_V} (hst : st = v :: i :: u :: st1)
    (hrow : ∀ {H : Heap} {locs : List Loc} {cells slots : Nat} {ls : Array Slot} {rest : List Value} {z : Int32} {ws : va_W} {ic a : Nat} {e0 : va_E} {c1 : ai_C} {w : Value}, (k = 0 ∨ c1.1 = k) → (c1.1 = 4 ∨ c1.1 = 5 ∨ k ≠ 0) → ok g v = true → ai_EV rho (ai_x g) → ai_WR b0 rho tc ws g.1 (ai_nx g) → va_P (dC, dI) vwCl ws H → va_D (ai_A base) ws → va_S (ai_A base) s.heap H locs → ws[ic]? = some (a, e0) → ai_RC b0 rho tc ws c1 e0 → ai_Rv b0 rho ws v w → ¬ z < 0 → z.toNatClampNeg < c1.2.1 →
      ∃ e', (∀ ws', ai_AD ws ws' → ai_RC b0 rho tc ws' (c1.1, c1.2.1, c1.2.2.1, (z.toNatClampNeg, v) :: c1.2.2.2) e') ∧ ((∀ (H1 : Heap) (locs1 : List Loc), va_P (dC, dI) vwCl (ws.set ic (a, e')) H1 → va_D (ai_A base) (ws.set ic (a, e')) → va_S (ai_A base) s.heap H1 locs1 → W p l e R s m args below meth c H1 locs1 cells slots Q (F0 m npc ls rest)) → W p l e R s m args below meth c H locs cells slots Q (F0 m pc ls (w :: .int z :: .ref a :: rest))))
    {ic t n : Nat} {d : List ai_V} {us : List (Nat × ai_V)} {l1 : List (Nat × ai_E)} (hc : ai_cell g u = some (ic, t, n, d, us)) (hv : ai_vals (ai_x g) i = some l1) (htk : k = 0 ∨ t = k) (htk2 : t = 4 ∨ t = 5 ∨ k ≠ 0) (hln : l1.all (fun q => Nat.blt (Prod.fst q) n) = true) (hok : ok g v = true)
    (hK : ai_KS p l e R s m args below meth c nL b0 rho tc dC dI base ws0 kE sE mk0 ms0 os0 Q K) (h : ai_all (fun q => K npc loc st1 (ai_ge (ai_gh g (ai_set 10 (Prod.fst g) ic (t, n, d, (Prod.fst q, v) :: us))) (Prod.snd q))) l1 = some r) : ai_At p l e R s m args below meth c nL b0 rho tc dC dI base ws0 kE sE mk0 ms0 os0 Q pc loc st g r := by
  have hit : i.1 ≤ 1 := by
    unfold ai_vals at hv
    cases h1 : ai_rng (ai_x g) i with
    | none => rw [h1] at hv; cases hv
    | some q => exact ai_rng_tag h1
  rw [List.all_eq_true] at hln
  subst hst
  refine ai_At.all (k := fun q => K npc loc st1 (ai_ge (ai_gh g (ai_set 10 (Prod.fst g) ic (t, n, d, (Prod.fst q, v) :: us))) (Prod.snd q))) h (fun _ => npc) (fun _ => loc) (fun _ => st1) (fun q => ai_ge (ai_gh g (ai_set 10 (Prod.fst g) ic (t, n, d, (Prod.fst q, v) :: us))) (Prod.snd q)) (fun q _ rq hq => hK _ _ _ _ _ hq) (fun q => ⟨Nat.le_refl _, Nat.le_refl _⟩) ?_
  intro H locs cells slots ls vs ws ⟨f0, f1, f2, f3, f4, f5, f6, f7, f8⟩ kk
  obtain ⟨w1, rest, rfl, q1, q2⟩ := f2.cons
  obtain ⟨w2, rest, rfl, q3, q4⟩ := q2.cons
  obtain ⟨w3, rest, rfl, q5, q6⟩ := q4.cons
  obtain ⟨a, e0, rfl, hwi, hil, hcg, hRC⟩ := ai_cell_ok f3 hc q5
  obtain ⟨z, rfl, nz⟩ := q3.int hit
  obtain ⟨q, hq, z1, z2, z3, z4⟩ := ai_vals_ok f7 nz hv
  have z5 : q.1 < n := Nat.le_of_ble_eq_true (hln q hq)
  obtain ⟨e', hr1, hr2⟩ := hrow (locs := locs) (cells := cells) (slots := slots) (ls := ls) (rest := rest) (z := z) (c1 := (t, n, d, us)) htk htk2 hok f7 f3 f4 f5 f6 hwi hRC q1 z3 (by rw [z2]; exact z5)
  refine hr2 fun H1 locs1 hP1 hD1 hS1 => ?_
  have hA : ai_AD ws (ws.set ic (a, e')) := ai_AD.set hwi
  refine kk q hq H1 locs1 cells slots ls rest (ws.set ic (a, e')) (ai_ge_fr (g := ai_gh g (ai_set 10 (Prod.fst g) ic (t, n, d, (Prod.fst q, v) :: us))) ⟨f0.tr hA, f1.mono hA, q6.mono hA, ?_, hP1, hD1, hS1, f7, f8⟩ z4)
  have h9 := hr1 _ hA
  rw [z2] at h9
  exact f3.put hwi h9
theorem so_ast {k : Nat} (hk : k ≠ 0)
    (hrow : ∀ {H : Heap} {locs : List Loc} {cells slots : Nat} {ls : Array Slot} {rest : List Value} {z : Int32} {ws : va_W} {ic a : Nat} {e0 : va_E} {c1 : ai_C} {v : ai_V} {w : Value}, c1.1 = k → ai_afit k (ai_x g) v = true → ai_EV rho (ai_x g) → va_P (dC, dI) vwCl ws H → va_D (ai_A base) ws → va_S (ai_A base) s.heap H locs → ws[ic]? = some (a, e0) → ai_RC b0 rho tc ws c1 e0 → ai_Rv b0 rho ws v w → ¬ z < 0 → z.toNatClampNeg < c1.2.1 →
      ∃ e', (∀ ws', ai_AD ws ws' → ai_RC b0 rho tc ws' (c1.1, c1.2.1, c1.2.2.1, (z.toNatClampNeg, v) :: c1.2.2.2) e') ∧ ((∀ (H1 : Heap) (locs1 : List Loc), va_P (dC, dI) vwCl (ws.set ic (a, e')) H1 → va_D (ai_A base) (ws.set ic (a, e')) → va_S (ai_A base) s.heap H1 locs1 → W p l e R s m args below meth c H1 locs1 cells slots Q (F0 m npc ls rest)) → W p l e R s m args below meth c H locs cells slots Q (F0 m pc ls (w :: .int z :: .ref a :: rest))))
    (hK : ai_KS p l e R s m args below meth c nL b0 rho tc dC dI base ws0 kE sE mk0 ms0 os0 Q K) (h : ai_o_ast k npc call K loc st g = some r) : ai_At p l e R s m args below meth c nL b0 rho tc dC dI base ws0 kE sE mk0 ms0 os0 Q pc loc st g r := by
  unfold ai_o_ast at h
  cases st with
  | nil => cases h
  | cons v st =>
    cases st with
    | nil => cases h
    | cons i st =>
      cases st with
      | nil => cases h
      | cons u st =>
        simp only at h
        cases hc : ai_cell g u with
        | none => rw [hc] at h; cases h
        | some q =>
          obtain ⟨ic, t, n, d, us⟩ := q
          rw [hc] at h
          simp only at h
          cases hv : ai_vals (ai_x g) i with
          | none => rw [hv] at h; cases h
          | some l1 =>
            rw [hv] at h
            simp only at h
            cases hcd : (Nat.beq t k && l1.all (fun q => Nat.blt (Prod.fst q) n) && ai_afit k (ai_x g) v) with
            | false => rw [hcd] at h; cases h
            | true =>
              rw [hcd] at h
              simp only [Bool.and_eq_true] at hcd
              exact so_store (k := k) (ok := fun g v => ai_afit k (ai_x g) v) rfl (fun h1 h2 h3 h4 h5 => hrow (h1.resolve_left hk) h3 h4) hc hv (Or.inr (Nat.eq_of_beq_eq_true hcd.1.1)) (Or.inr (Or.inr hk)) hcd.1.2 hcd.2 hK h
end HEAP
