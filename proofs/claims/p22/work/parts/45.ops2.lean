/-! ===== the other instructions ===== -/
theorem ai_con_tags {f : Int32 → Int32 → Int32} {x : ai_E} {u v w : ai_V} (h : ai_con f x u v = some w) : u.1 ≤ 1 ∧ v.1 ≤ 1 := by
  unfold ai_con at h
  cases h1 : ai_one x u with
  | none =>
    rw [h1] at h
    simp only at h
    cases hb : (ai_isn u && ai_isn v) with
    | false => rw [hb] at h; cases h
    | true => rw [Bool.and_eq_true, ai_isn_iff, ai_isn_iff] at hb; exact hb
  | some a =>
    cases h2 : ai_one x v with
    | none =>
      rw [h1, h2] at h
      simp only at h
      cases hb : (ai_isn u && ai_isn v) with
      | false => rw [hb] at h; cases h
      | true => rw [Bool.and_eq_true, ai_isn_iff, ai_isn_iff] at hb; exact hb
    | some b => exact ⟨ai_one_none (rho := fun _ => 0) h1, ai_one_none (rho := fun _ => 0) h2⟩
theorem ai_mul_tags {x : ai_E} {u v w : ai_V} (h : ai_mul x u v = some w) : u.1 ≤ 1 ∧ v.1 ≤ 1 := by
  unfold ai_mul at h
  cases h1 : ai_one x u with
  | none =>
    rw [h1] at h
    simp only at h
    cases hb : (ai_isn u && ai_isn v) with
    | false => rw [hb] at h; cases h
    | true => rw [Bool.and_eq_true, ai_isn_iff, ai_isn_iff] at hb; exact hb
  | some a =>
    cases h2 : ai_one x v with
    | none =>
      rw [h1, h2] at h
      simp only at h
      cases hb : (ai_isn u && ai_isn v) with
      | false => rw [hb] at h; cases h
      | true => rw [Bool.and_eq_true, ai_isn_iff, ai_isn_iff] at hb; exact hb
    | some b => exact ⟨ai_one_none (rho := fun _ => 0) h1, ai_one_none (rho := fun _ => 0) h2⟩
theorem ai_and_tags {x : ai_E} {u v w : ai_V} (h : ai_and x u v = some w) : u.1 ≤ 1 ∧ v.1 ≤ 1 := by
  unfold ai_and at h
  cases h2 : ai_one x v with
  | none =>
    cases h1 : ai_one x u <;>
    · rw [h1, h2] at h
      simp only at h
      cases hb : (ai_isn u && ai_isn v) with
      | false => rw [hb] at h; cases h
      | true => rw [Bool.and_eq_true, ai_isn_iff, ai_isn_iff] at hb; exact hb
  | some b =>
    refine ⟨?_, ai_one_none (rho := fun _ => 0) h2⟩
    cases h1 : ai_one x u with
    | some a => exact ai_one_none (rho := fun _ => 0) h1
    | none =>
      rw [h1, h2] at h
      simp only at h
      cases hv0 : (ai_v0 u && ai_ieq b 31) with
      | true =>
        unfold ai_v0 at hv0
        simp only [Bool.and_eq_true] at hv0
        exact Nat.le_of_eq (Nat.eq_of_beq_eq_true hv0.1.1.1)
      | false =>
        rw [hv0] at h
        simp only [cond_false] at h
        cases hb : ai_isn u with
        | true => exact (ai_isn_iff u).mp hb
        | false => rw [hb] at h; simp at h
theorem ai_div_tags {x : ai_E} {u v w : ai_V} (h : ai_div x u v = some w) : u.1 ≤ 1 ∧ v.1 ≤ 1 := by
  unfold ai_div at h
  cases h2 : ai_one x v with
  | none => rw [h2] at h; cases h
  | some b =>
    rw [h2] at h
    simp only at h
    refine ⟨?_, ai_one_none (rho := fun _ => 0) h2⟩
    cases hb : ai_ieq b 0 with
    | true => rw [hb] at h; cases h
    | false =>
      rw [hb] at h
      simp only [cond_false] at h
      split at h
      · exact Nat.le_refl _
      · cases h1 : ai_one x u with
        | some a => exact ai_one_none (rho := fun _ => 0) h1
        | none =>
          rw [h1] at h
          simp only at h
          cases hb : ai_isn u with
          | true => exact (ai_isn_iff u).mp hb
          | false => rw [hb] at h; cases h
theorem ai_rem_tags {x : ai_E} {u v w : ai_V} (h : ai_rem x u v = some w) : u.1 ≤ 1 ∧ v.1 ≤ 1 := by
  unfold ai_rem at h
  cases h2 : ai_one x v with
  | none => rw [h2] at h; cases h
  | some b =>
    rw [h2] at h
    simp only at h
    refine ⟨?_, ai_one_none (rho := fun _ => 0) h2⟩
    cases hb : ai_ieq b 0 with
    | true => rw [hb] at h; cases h
    | false =>
      rw [hb] at h
      simp only [cond_false] at h
      split at h
      · exact Nat.le_refl _
      · cases h1 : ai_one x u with
        | some a => exact ai_one_none (rho := fun _ => 0) h1
        | none =>
          rw [h1] at h
          simp only at h
          cases hb : ai_isn u with
          | true => exact (ai_isn_iff u).mp hb
          | false => rw [hb] at h; cases h
theorem ai_lt_tags {x : ai_E} {u v : ai_V} {l1 : ai_B} (h1 : ai_lt x u v = some l1) : u.1 ≤ 1 ∧ v.1 ≤ 1 := by
  unfold ai_lt at h1
  cases h2 : ai_rng x u with
  | none => simp only [h2] at h1; cases h1
  | some q1 =>
    cases h3 : ai_rng x v with
    | none => simp only [h2, h3] at h1; cases h1
    | some q2 => exact ⟨ai_rng_tag h2, ai_rng_tag h3⟩
section OPD
variable {p : Program} {l : Launch} {e : Env} {R : Room} {s : State} {m : MethodId} {args : Array Value} {below : List Frame} {meth : Method} {c : Code} {nL b0 : Nat} {rho : Nat → Int32} {tc dC : Nat → ClassId} {dI : Nat → Nat → Nat} {base : Nat} {ws0 : va_W} {kE sE mk0 ms0 : Nat} {os0 : List ai_O} {Q : State → Prop}
variable {call : ai_K} {K : ai_K4} {pc npc : Nat} {loc st : List ai_V} {g : ai_G} {r : ai_R}
theorem so_mm {mx : Bool} (hRc : mk0 ≤ kE + R.cells) (hRs : ms0 ≤ sE + R.slots) (row : ∀ {H : Heap} {locs : List Loc} {cells slots : Nat} {ls : Array Slot} {rest : List Value} {y z : Int32}, ls.size = nL → rest.length ≤ 4 → cells ≤ R.cells → slots ≤ R.slots →
      W p l e R s m args below meth c H locs cells slots Q (F0 m npc ls (.int (cond mx (if y < z then z else y) (if z < y then z else y)) :: rest)) → W p l e R s m args below meth c H locs cells slots Q (F0 m pc ls (.int z :: .int y :: rest)))
    (hK : ai_KS p l e R s m args below meth c nL b0 rho tc dC dI base ws0 kE sE mk0 ms0 os0 Q K) (h : ai_o_mm mx npc call K loc st g = some r) : ai_At p l e R s m args below meth c nL b0 rho tc dC dI base ws0 kE sE mk0 ms0 os0 Q pc loc st g r := by
  unfold ai_o_mm at h
  cases st with
  | nil => cases h
  | cons v st =>
    cases st with
    | nil => cases h
    | cons u st =>
      simp only at h
      cases h4 : Nat.ble st.length 4 with
      | false => rw [h4] at h; cases h
      | true =>
        rw [h4] at h
        simp only [cond_true] at h
        have h4 : st.length ≤ 4 := Nat.le_of_ble_eq_true h4
        cases hb : cond mx (ai_lt (ai_x g) u v) (ai_lt (ai_x g) v u) with
        | none => rw [hb] at h; cases h
        | some l1 =>
          rw [hb] at h
          simp only at h
          have htag : u.1 ≤ 1 ∧ v.1 ≤ 1 := by
            cases mx with
            | true => exact ai_lt_tags hb
            | false => exact (ai_lt_tags hb).symm
          have hmono : ai_kc g ≤ r.2.1 ∧ ai_ks g ≤ r.2.2 := by
            obtain ⟨hne, hall⟩ := ai_all_ok h
            cases l1 with
            | nil => exact absurd rfl hne
            | cons q l2 =>
              obtain ⟨rq, k1, -, k3, k4⟩ := hall q List.mem_cons_self
              have := (hK _ _ _ _ _ k1).1
              have e1 : ai_kc (ai_ge g q.2) = ai_kc g := rfl
              have e2 : ai_ks (ai_ge g q.2) = ai_ks g := rfl
              omega
          obtain ⟨hne, hall⟩ := ai_all_ok h
          refine ⟨hmono, fun g1 g2 g3 H locs cells slots ls vs ws hF => ?_⟩
          have hF2 := hF
          obtain ⟨f0, f1, f2, f3, f4, f5, f6, f7, f8, f9⟩ := hF
          obtain ⟨w1, rest, rfl, q1, q2⟩ := f2.cons
          obtain ⟨w2, rest, rfl, q3, q4⟩ := q2.cons
          obtain ⟨z, rfl, nz⟩ := q1.int htag.2
          obtain ⟨y, rfl, ny⟩ := q3.int htag.1
          have hw : ai_way rho l1 (cond mx (y < z) (z < y)) := by
            cases mx with
            | true => exact ai_lt_ok f7 ny nz hb
            | false => exact ai_lt_ok f7 nz ny hb
          refine row f1.sz (by rw [q4.len]; exact h4) (by omega) (by omega) ?_
          by_cases hcd : cond mx (y < z) (z < y)
          · obtain ⟨q, hq, e1, e2⟩ := hw.1 hcd
            obtain ⟨rq, k1, k2, k3, k4⟩ := hall q hq
            have ev : cond mx (if y < z then z else y) (if z < y then z else y) = z := by
              cases mx with
              | true => exact if_pos hcd
              | false => exact if_pos hcd
            rw [ev]
            refine (hK _ _ _ _ _ k1).2 (fun o ho => g1 o (k2 o ho)) (by omega) (by omega) _ _ _ _ _ _ ws (ai_ge_fr ⟨f0, f1, ⟨?_, q4⟩, f3, f4, f5, f6, f7, f8, f9⟩ e2)
            rw [e1]; exact q1
          · obtain ⟨q, hq, e1, e2⟩ := hw.2 hcd
            obtain ⟨rq, k1, k2, k3, k4⟩ := hall q hq
            have ev : cond mx (if y < z then z else y) (if z < y then z else y) = y := by
              cases mx with
              | true => exact if_neg hcd
              | false => exact if_neg hcd
            rw [ev]
            refine (hK _ _ _ _ _ k1).2 (fun o ho => g1 o (k2 o ho)) (by omega) (by omega) _ _ _ _ _ _ ws (ai_ge_fr ⟨f0, f1, ⟨?_, q4⟩, f3, f4, f5, f6, f7, f8, f9⟩ e2)
            rw [e1]; exact q3
theorem so_oinit (row : ∀ {H : Heap} {locs : List Loc} {cells slots : Nat} {ls : Array Slot} {a : Nat}, ls.size = nL → W p l e R s m args below meth c H locs cells slots Q (F0 m npc ls []) → W p l e R s m args below meth c H locs cells slots Q (F0 m pc ls [.ref a]))
    (hK : ai_KS p l e R s m args below meth c nL b0 rho tc dC dI base ws0 kE sE mk0 ms0 os0 Q K) (h : ai_o_oinit npc call K loc st g = some r) : ai_At p l e R s m args below meth c nL b0 rho tc dC dI base ws0 kE sE mk0 ms0 os0 Q pc loc st g r := by
  unfold ai_o_oinit at h
  match st, h with
  | [], h => cases h
  | _ :: _ :: _, h => cases h
  | [v], h =>
    simp only at h
    cases hb : Nat.beq (Prod.fst v) 3 with
    | false => rw [hb] at h; cases h
    | true =>
      rw [hb] at h
      have ht : v.1 = 3 := Nat.eq_of_beq_eq_true hb
      refine ai_At.step (hK _ _ _ _ _ h) ⟨Nat.le_refl _, Nat.le_refl _⟩ fun H locs cells slots ls vs ws ⟨f0, f1, f2, f3⟩ _ _ kk => ?_
      obtain ⟨w1, rest, rfl, q1, q2⟩ := f2.cons
      obtain ⟨a, e9, -, rfl⟩ := q1.rfr ht
      rw [q2.nil]
      exact row f1.sz (kk _ _ _ _ _ _ ws ⟨f0, f1, trivial, f3⟩)
end OPD
/-! ===== the check of an instruction's row ===== -/
def ai_dec (cc : ByteArray) (pc : Nat) (i : Instr) (n : Nat) : Bool := match decode cc pc with
  | .ok (j, k) => decide (j = i) && Nat.beq k n
  | .error _ => false
theorem ai_dec_ok {cc : ByteArray} {pc n : Nat} {i : Instr} (h : ai_dec cc pc i n = true) : decode cc pc = .ok (i, n) := by
  unfold ai_dec at h
  cases hd : decode cc pc with
  | error e => rw [hd] at h; cases h
  | ok q =>
    obtain ⟨j, k⟩ := q
    rw [hd] at h
    simp only [Bool.and_eq_true] at h
    rw [of_decide_eq_true h.1, Nat.eq_of_beq_eq_true h.2]
def ai_nocov (hs : List (Nat × Nat × Nat × Nat)) (pc : Nat) : Bool := hs.all (fun q => !(Nat.ble q.1 pc && Nat.blt pc q.2.1))
theorem ai_nocov_ok {hs : List (Nat × Nat × Nat × Nat)} {pc : Nat} (h : ai_nocov hs pc = true) : ∀ x ∈ tableOf hs, covers x pc = false := by
  intro x hx
  obtain ⟨q, hq, rfl⟩ := List.mem_map.mp hx
  have h1 := List.all_eq_true.mp h q hq
  rw [Bool.not_eq_true'] at h1
  show (decide (q.1 ≤ pc) && decide (pc < q.2.1)) = false
  by_cases c1 : q.1 ≤ pc
  · by_cases c2 : pc < q.2.1
    · have e1 : Nat.ble q.1 pc = true := Nat.ble_eq.mpr c1
      have e2 : Nat.blt pc q.2.1 = true := Nat.ble_eq.mpr c2
      rw [e1, e2] at h1; cases h1
    · simp [c2]
  · simp [c1]
def ai_ctn (k : Nat) : Nat := if k = 2 then 19 else 13
def ai_ctk (pc k h : Nat) : List (Nat × Nat × Nat × Nat) → Bool
  | [] => false
  | (a, b, hp, ct) :: t => cond (Nat.ble a pc && Nat.blt pc b) (cond (Nat.beq ct (ai_ctn k)) (Nat.beq hp h) (Nat.beq k 3 && Nat.beq ct 19 && ai_ctk pc k h t)) (ai_ctk pc k h t)
theorem ai_ctk_ok {pc k h : Nat} : ∀ {hs : List (Nat × Nat × Nat × Nat)}, ai_ctk pc k h hs = true → ∃ (pre : List ExceptionTableEntry) (x : ExceptionTableEntry) (suf : List ExceptionTableEntry), tableOf hs = pre ++ x :: suf ∧ (∀ z ∈ pre, covers z pc = false ∨ (k = 3 ∧ z.catchType = 19)) ∧ covers x pc = true ∧ x.handlerPc = h ∧ x.catchType = ai_ctn k
  | [], hh => by cases hh
  | (a, b, hp, ct) :: t, hh => by
    unfold ai_ctk at hh
    cases hc : (Nat.ble a pc && Nat.blt pc b) with
    | false =>
      rw [hc] at hh
      obtain ⟨pre, x, suf, e1, e2, e3⟩ := ai_ctk_ok (hs := t) hh
      refine ⟨⟨a, b, hp, ct⟩ :: pre, x, suf, by show _ :: tableOf t = _; rw [e1]; rfl, fun z hz => ?_, e3⟩
      rcases List.mem_cons.mp hz with rfl | hz
      · refine Or.inl ?_
        show (decide (a ≤ pc) && decide (pc < b)) = false
        by_cases c1 : a ≤ pc
        · by_cases c2 : pc < b
          · rw [Nat.ble_eq.mpr c1, show Nat.blt pc b = true from Nat.ble_eq.mpr c2] at hc; cases hc
          · simp [c2]
        · simp [c1]
      · exact e2 z hz
    | true =>
      rw [hc] at hh
      simp only [cond_true] at hh
      rw [Bool.and_eq_true] at hc
      have c1 : a ≤ pc := Nat.le_of_ble_eq_true hc.1
      have c2 : pc < b := Nat.le_of_ble_eq_true hc.2
      cases hk : Nat.beq ct (ai_ctn k) with
      | true =>
        rw [hk] at hh
        refine ⟨[], ⟨a, b, hp, ct⟩, tableOf t, rfl, (fun z hz => nomatch hz), ?_, Nat.eq_of_beq_eq_true hh, Nat.eq_of_beq_eq_true hk⟩
        show (decide (a ≤ pc) && decide (pc < b)) = true
        simp [c1, c2]
      | false =>
        rw [hk] at hh
        simp only [cond_false, Bool.and_eq_true] at hh
        obtain ⟨pre, x, suf, e1, e2, e3⟩ := ai_ctk_ok (hs := t) hh.2
        refine ⟨⟨a, b, hp, ct⟩ :: pre, x, suf, by show _ :: tableOf t = _; rw [e1]; rfl, fun z hz => ?_, e3⟩
        rcases List.mem_cons.mp hz with rfl | hz
        · exact Or.inr ⟨Nat.eq_of_beq_eq_true hh.1.1, Nat.eq_of_beq_eq_true hh.1.2⟩
        · exact e2 z hz
def ai_ctok (oc : Nat) (hs : List (Nat × Nat × Nat × Nat)) (pc k h : Nat) : Bool := cond (Nat.beq h 0) (ai_nocov hs pc) (Nat.beq h 65535 || (Nat.beq oc 9 && ai_ctk pc k h hs))
theorem ai_bH : (ai_tw 421 (.castable (ai_exc 2) (ai_exc 2)) && ai_tw 339 (.castable (ai_exc 3) (ai_exc 3)) && ai_tw 414 (.classLink (ai_cn 9) 19 (ai_exc 2)) && ai_tw 332 (.classLink (ai_cn 9) 13 (ai_exc 3))) = true := by decide +kernel
theorem ai_bArr : (ai_tw 70 (.arrayClass .int) && ai_tw 71 (.arrayClass .boolean) && ai_tw 1395 (.arrayClass .long)) = true := by decide +kernel
def ai_is (a b : Nat) : Bool := Nat.beq a b
noncomputable def ai_ck (M : ai_M) (pc : Nat) (e : ai_I) : Bool := match e with
  | (i, npc, k0, k1, k2, ks) => match i with
    | .iconst n => ai_dec M.2.1 pc i 1 && Nat.beq npc (pc + 1) && ai_ieq (Int32.ofInt n).toInt n
    | .bipush n => ai_dec M.2.1 pc i 2 && Nat.beq npc (pc + 2) && ai_ieq (Int8.ofInt n).toInt32.toInt n
    | .sipush n => ai_dec M.2.1 pc i 3 && Nat.beq npc (pc + 3) && ai_ieq (Int16.ofInt n).toInt32.toInt n
    | .ldc idx => ai_dec M.2.1 pc i 2 && Nat.beq npc (pc + 2) && ai_lcon.any (fun q => Nat.beq q.1 M.2.2.2.2.1 && Nat.beq q.2.1 idx && Nat.beq q.2.2.1 k0)
    | .lconst n => ai_dec M.2.1 pc i 1 && Nat.beq npc (pc + 1) && Nat.beq k0 n.val
    | .aconst_null => ai_dec M.2.1 pc i 1 && Nat.beq npc (pc + 1)
    | .iload k => ai_dec M.2.1 pc i 2 && Nat.beq npc (pc + 2) && Nat.beq k0 k
    | .iload_n k => ai_dec M.2.1 pc i 1 && Nat.beq npc (pc + 1) && Nat.beq k0 k.val
    | .aload k => ai_dec M.2.1 pc i 2 && Nat.beq npc (pc + 2) && Nat.beq k0 k
    | .aload_n k => ai_dec M.2.1 pc i 1 && Nat.beq npc (pc + 1) && Nat.beq k0 k.val
    | .istore k => ai_dec M.2.1 pc i 2 && Nat.beq npc (pc + 2) && Nat.beq k0 k && Nat.blt k0 M.2.2.1
    | .istore_n k => ai_dec M.2.1 pc i 1 && Nat.beq npc (pc + 1) && Nat.beq k0 k.val && Nat.blt k0 M.2.2.1
    | .astore k => ai_dec M.2.1 pc i 2 && Nat.beq npc (pc + 2) && Nat.beq k0 k && Nat.blt k0 M.2.2.1
    | .astore_n k => ai_dec M.2.1 pc i 1 && Nat.beq npc (pc + 1) && Nat.beq k0 k.val && Nat.blt k0 M.2.2.1
    | .iinc k n => ai_dec M.2.1 pc i 3 && Nat.beq npc (pc + 3) && Nat.beq k0 k && Nat.blt k0 M.2.2.1 && ai_ieq (Int32.ofInt n).toInt n
    | .goto off => ai_dec M.2.1 pc i 3 && ai_ieq ((pc : Int) + off) (k0 : Int)
    | .ifCond _ off => ai_dec M.2.1 pc i 3 && Nat.beq npc (pc + 3) && ai_ieq ((pc : Int) + off) (k0 : Int)
    | .if_icmp _ off => ai_dec M.2.1 pc i 3 && Nat.beq npc (pc + 3) && ai_ieq ((pc : Int) + off) (k0 : Int)
    | .if_acmp _ off => ai_dec M.2.1 pc i 3 && Nat.beq npc (pc + 3) && ai_ieq ((pc : Int) + off) (k0 : Int)
    | .ifnull off => ai_dec M.2.1 pc i 3 && Nat.beq npc (pc + 3) && ai_ieq ((pc : Int) + off) (k0 : Int)
    | .ifnonnull off => ai_dec M.2.1 pc i 3 && Nat.beq npc (pc + 3) && ai_ieq ((pc : Int) + off) (k0 : Int)
    | .tableswitch dflt lo hi offs => ai_dec M.2.1 pc i (npc - pc) && ai_ieq ((pc : Int) + dflt) (k0 : Int) && ai_ieq hi (lo + (ks.length : Int) - 1) && (List.range ks.length).all (fun i => match offs[i]? with
      | some off => ai_ieq ((pc : Int) + off) ((ai_nth k0 ks i : Nat) : Int)
      | none => false)
    | .getfield idx => ai_dec M.2.1 pc i 3 && Nat.beq npc (pc + 3) && ai_lg.any (fun q => Nat.beq q.1 M.2.2.2.2.1 && Nat.beq q.2.1 idx && Nat.beq q.2.2.1 k0 && Nat.beq q.2.2.2.1 k1)
    | .putfield idx => ai_dec M.2.1 pc i 3 && Nat.beq npc (pc + 3) && ai_lp.any (fun q => Nat.beq q.1 M.2.2.2.2.1 && Nat.beq q.2.1 idx && Nat.beq q.2.2.1 k0 && Nat.beq q.2.2.2.1 k1 && Nat.beq q.2.2.2.2.1 k2 && (Nat.beq q.2.2.2.2.2.2 0 || decide (M.1.name = "<init>")))
    | .newarray t => ai_dec M.2.1 pc i 2 && Nat.beq npc (pc + 2) && (match t with
      | .int => Nat.beq k0 1 && Nat.beq k1 0
      | .boolean => Nat.beq k0 2 && Nat.beq k1 0
      | .long => Nat.beq k0 3 && Nat.beq k1 4
      | _ => false)
    | .anewarray idx => ai_dec M.2.1 pc i 3 && Nat.beq npc (pc + 3) && ai_la.any (fun q => Nat.beq q.1 M.2.2.2.2.1 && Nat.beq q.2.1 idx && Nat.beq q.2.2.1 k0)
    | .multianewarray idx _ => ai_dec M.2.1 pc (.multianewarray idx 2) 4 && Nat.beq npc (pc + 4) && ai_lm.any (fun q => Nat.beq q.1 M.2.2.2.2.1 && Nat.beq q.2.1 idx)
    | .new idx => ai_dec M.2.1 pc i 3 && Nat.beq npc (pc + 3) && (match k2 with
      | 0 => ai_ln.any (fun q => Nat.beq q.1 M.2.2.2.2.1 && Nat.beq q.2.1 idx && Nat.beq q.2.2.1 k0)
      | _ => ai_lth.any (fun q => Nat.beq q.1 M.2.2.2.2.1 && Nat.beq q.2.1 idx && Nat.beq q.2.2.1 k0 && Nat.beq q.2.2.2.1 k1 && Nat.beq q.2.2.2.2.1 (ai_nth 0 ks 0) && Nat.beq q.2.2.2.2.2.1 (ai_nth 0 ks 1)) && ai_dec M.2.1 (pc + 3) .dup 1 &&
        (match ai_nth 0 ks 2 with
        | 0 => ai_dec M.2.1 (pc + 4) (.ldc (ai_nth 0 ks 0)) 2 && ai_dec M.2.1 (pc + 4 + 2) (.invokespecial (ai_nth 0 ks 1)) 3 && ai_dec M.2.1 (pc + 4 + 2 + 3) .athrow 1 && ai_nocov M.2.2.2.2.2.1 (pc + 4 + 2 + 3)
        | _ => ai_dec M.2.1 (pc + 4) (.ldc_w (ai_nth 0 ks 0)) 3 && ai_dec M.2.1 (pc + 4 + 3) (.invokespecial (ai_nth 0 ks 1)) 3 && ai_dec M.2.1 (pc + 4 + 3 + 3) .athrow 1 && ai_nocov M.2.2.2.2.2.1 (pc + 4 + 3 + 3)))
    | .invokevirtual idx => ai_dec M.2.1 pc i 3 && Nat.beq npc (pc + 3) && ai_lc.any (fun q => Nat.beq q.1 M.2.2.2.2.1 && Nat.beq q.2.1 idx && Nat.beq q.2.2.1 k0 && Nat.beq q.2.2.2.1 k1 && Nat.beq q.2.2.2.2.1 0 && Nat.beq q.2.2.2.2.2.1 (ai_nth 0 ks 0)) && ai_ctok M.2.2.2.2.1 M.2.2.2.2.2.1 pc 2 (ai_nth 0 ks 1) && ai_ctok M.2.2.2.2.1 M.2.2.2.2.2.1 pc 3 (ai_nth 0 ks 2)
    | .invokespecial idx => ai_dec M.2.1 pc i 3 && Nat.beq npc (pc + 3) && (match k2 with
      | 5 => ai_loi.any (fun q => Nat.beq q.1 M.2.2.2.2.1 && Nat.beq q.2.1 idx)
      | _ => ai_lc.any (fun q => Nat.beq q.1 M.2.2.2.2.1 && Nat.beq q.2.1 idx && Nat.beq q.2.2.1 k0 && Nat.beq q.2.2.2.1 k1 && (Nat.beq q.2.2.2.2.1 1 || Nat.beq q.2.2.2.2.1 2)) && ai_nocov M.2.2.2.2.2.1 pc)
    | .invokestatic idx => ai_dec M.2.1 pc i 3 && Nat.beq npc (pc + 3) && (match k2 with
      | 6 => ai_lcp.any (fun q => Nat.beq q.1 M.2.2.2.2.1 && Nat.beq q.2.1 idx)
      | 8 => ai_lmm.any (fun q => Nat.beq q.1 M.2.2.2.2.1 && Nat.beq q.2.1 idx && Nat.beq q.2.2.1 8)
      | 9 => ai_lmm.any (fun q => Nat.beq q.1 M.2.2.2.2.1 && Nat.beq q.2.1 idx && Nat.beq q.2.2.1 9)
      | _ => ai_lc.any (fun q => Nat.beq q.1 M.2.2.2.2.1 && Nat.beq q.2.1 idx && Nat.beq q.2.2.1 k0 && Nat.beq q.2.2.2.1 k1 && (Nat.beq q.2.2.2.2.1 3 || Nat.beq q.2.2.2.2.1 4 || Nat.beq q.2.2.2.2.1 6)) && ai_nocov M.2.2.2.2.2.1 pc)
    | .ireturn => ai_dec M.2.1 pc i 1 && (match k0 with
      | 0 => decide (M.2.2.2.1 = some .int)
      | _ => decide (M.2.2.2.1 = some .boolean))
    | .areturn => ai_dec M.2.1 pc i 1 && (match M.2.2.2.1 with
      | some (.object _) => true
      | some (.array _) => true
      | _ => false)
    | .return_ => ai_dec M.2.1 pc i 1 && decide (M.2.2.2.1 = none)
    | .ldc_w _ => false
    | _ => ai_dec M.2.1 pc i 1 && Nat.beq npc (pc + 1)
noncomputable def ai_ckM (M : ai_M) : Bool := M.2.2.2.2.2.2.all (fun q => ai_ck M q.1 q.2 && !(Nat.beq q.1 65535))
