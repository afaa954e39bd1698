/-! ===== a row of rows ===== -/
theorem w_mna {F : Nat → Option ai_Op} {call : ai_K} {x : ai_E} {A B : Nat} {Q : cm_Q} {pc npc : Nat} {loc st : List ai_V} {T : cm_T} {E : cm_E} {nx kc ks : Nat} {a b : Int} (hf : F pc = some (ai_o_mna npc)) (ha : 0 ≤ a ∧ a ≤ 100) (hb : 0 ≤ b ∧ b ≤ 100) (hn : nx + 1 + a.toNat ≤ 1024)
    (kk : cm_wp F call x A B Q npc loc (cr nx :: st) (fun i => if i = nx then (6, a.toNat) else if nx < i ∧ i < nx + 1 + a.toNat then (1, b.toNat) else T i) (fun i k => if i = nx then (if k < a.toNat then cr (nx + 1 + k) else ai_nul) else if nx < i ∧ i < nx + 1 + a.toNat then ai_i 0 else E i k) (nx + 1 + a.toNat) (kc + 1 + a.toNat) (ks + a.toNat + a.toNat * b.toNat)) : cm_wp F call x A B Q pc loc (ai_i b :: ai_i a :: st) T E nx kc ks := by
  refine cm_stepE hf (fun h hR => ⟨ai_rows a.toNat b.toNat (ai_set 10 h nx (6, a.toNat, [ai_nul], (List.range a.toNat).map (fun i => (i, (3, .ofNat (Nat.add (Nat.succ nx) i), 0))))) (nx + 1), ⟨hn, fun j hj => ?_⟩, fun K => ?_⟩) (by omega) (by omega) kk
  · rw [ai_rows_get _ _ _ _ hn j (by omega)]
    by_cases h1 : j = nx
    · subst h1
      rw [if_neg (by omega), ai_get_set 10 h j j _ (by show j < 1024; omega) (by show j < 1024; omega), if_pos rfl]
      simp only [if_true]
      refine ⟨trivial, trivial, fun q => absurd q (by decide), fun k hk => ?_⟩
      have hk : k < a.toNat := hk
      show ai_lk ((List.range a.toNat).map (fun i => (i, (3, .ofNat (Nat.add (Nat.succ j) i), 0)))) ai_nul k = _
      rw [List.range_eq_range', ai_lk_rng (fun i => (3, .ofNat (Nat.add (Nat.succ j) i), 0)) _ k, if_pos (by omega), if_pos hk]
      rfl
    · by_cases h2 : nx < j ∧ j < nx + 1 + a.toNat
      · rw [if_pos (by omega)]
        simp only [if_neg h1, if_pos h2]
        exact ⟨trivial, trivial, fun q => absurd q (by decide), fun k hk => rfl⟩
      · rw [if_neg (by omega), ai_get_set 10 h nx j _ (by show nx < 1024; omega) (by show j < 1024; omega), if_neg h1]
        simp only [if_neg h1, if_neg h2]
        exact hR.2 j (by omega)
  · show (match ai_one x (ai_i a) with
      | some a => match ai_one x (ai_i b) with
        | some b => cond (ai_ile 0 a && ai_ile a 100 && ai_ile 0 b && ai_ile b 100 && Nat.ble (Nat.add (Nat.succ nx) a.toNat) (nat_lit 1024))
          (K npc loc ((nat_lit 3, .ofNat nx, 0) :: st) (ai_rows a.toNat b.toNat (ai_set (nat_lit 10) h nx (nat_lit 6, a.toNat, [ai_nul], (List.range a.toNat).map (fun i => (i, (nat_lit 3, .ofNat (Nat.add (Nat.succ nx) i), 0))))) (Nat.succ nx),
            Nat.add (Nat.succ nx) a.toNat, Nat.add (Nat.succ kc) a.toNat, Nat.add (Nat.add ks a.toNat) (Nat.mul a.toNat b.toNat), x)) none
        | none => none
      | none => none) = _
    rw [cm_one, cm_one]
    have e1 : Nat.ble (Nat.add (Nat.succ nx) a.toNat) 1024 = true := Nat.ble_eq_true_of_le hn
    simp only [(ai_ile_iff _ _).mpr ha.1, (ai_ile_iff _ _).mpr ha.2, (ai_ile_iff _ _).mpr hb.1, (ai_ile_iff _ _).mpr hb.2, e1, Bool.and_self, cond_true]
    rfl
