/-! ===== the two stories are one ===== -/
def f94 (E : cm_E) : Nat → Int := fun k => gv E 94 k
def ST (E : cm_E) : Prop := (∀ j : Nat, (j : Int) < gv E 23 8 → gv E 24 j = gv E 94 j) ∧ (∀ a : Nat, (a : Int) < gv E 23 9 → gv E 25 a = gv E 95 a ∧ gv E 26 a = gv E 96 a ∧ gv E 27 a = gv E 97 a) ∧ (gv E 23 12 = 1 → sol E (f95 E) (f96 E) (f97 E) (gv E 23 9).toNat (f94 E) (gv E 23 8))
def st_at (i k : Nat) : Prop := (i = 23 ∧ 8 ≤ k) ∨ (24 ≤ i ∧ i ≤ 27) ∨ i = 29 ∨ (94 ≤ i ∧ i ≤ 97)
theorem ST.eq {E E' : cm_E} (h : ST E) (e : ∀ i k, ((i = 23 ∧ 8 ≤ k) ∨ (24 ≤ i ∧ i ≤ 27) ∨ i = 29 ∨ (94 ≤ i ∧ i ≤ 97)) → gv E' i k = gv E i k) : ST E' := by
  obtain ⟨h1, h2, h3⟩ := h
  have e8 := e 23 8 (by omega)
  have e9 := e 23 9 (by omega)
  have e12 := e 23 12 (by omega)
  have c94 : f94 E' = f94 E := funext fun k => e 94 k (by omega)
  have c95 : f95 E' = f95 E := funext fun k => e 95 k (by omega)
  have c96 : f96 E' = f96 E := funext fun k => e 96 k (by omega)
  have c97 : f97 E' = f97 E := funext fun k => e 97 k (by omega)
  refine ⟨fun j hj => ?_, fun a ha => ?_, fun hs => ?_⟩
  · rw [e 24 j (by omega), e 94 j (by omega)]; exact h1 j (by omega)
  · rw [e 25 a (by omega), e 26 a (by omega), e 27 a (by omega), e 95 a (by omega), e 96 a (by omega), e 97 a (by omega)]; exact h2 a (by omega)
  · obtain ⟨fi, m1, m2, m3⟩ := h3 (by omega)
    rw [c94, c95, c96, c97, e8, e9]
    exact ⟨fi, by rw [e 23 10 (by omega)]; exact m1, by rw [e 23 11 (by omega)]; exact m2, fun j hj => by rw [e 29 j (by omega)]; exact m3 j hj⟩
theorem ST.fr {P : Nat → Nat → Prop} {E E' : cm_E} (h : ST E) (hf : cm_fr P E E') (hp : ∀ i k, P i k → ¬ ((i = 23 ∧ 8 ≤ k) ∨ (24 ≤ i ∧ i ≤ 27) ∨ i = 29 ∨ (94 ≤ i ∧ i ≤ 97))) : ST E' :=
  h.eq (fun i k hk => (gv_fr hf (fun q => hp i k q hk)).symm)
theorem ST.wr {E : cm_E} {i k : Nat} {v : ai_V} (h : ST E) (hp : ¬ ((i = 23 ∧ 8 ≤ k) ∨ (24 ≤ i ∧ i ≤ 27) ∨ i = 29 ∨ (94 ≤ i ∧ i ≤ 97))) : ST (cm_up E i k v) :=
  h.fr (P := fun i' k' => i' = i ∧ k' = k) (fun i' k' hn => cm_up_ne E v hn) (fun i' k' q => by rw [q.1, q.2]; exact hp)
/-- a sign is told to both -/
theorem ST_say {E E1 E2 : cm_E} {g z1 z2 : Int} (h : ST E) (hJ : gv E 23 8 = gv E 81 23) (h0 : 0 ≤ gv E 23 8)
    (f1 : cm_fr (fun i k => i = 3 ∨ (i = 23 ∧ (k = 8 ∨ k = 12)) ∨ (i = 24 ∧ k = (gv E 23 8).toNat)) E E1)
    (P1 : (z1 = -1 ∧ (gv E 23 8 = 12 ∨ ¬ (32 ≤ g ∧ g ≤ 126)) ∧ gv E1 23 8 = gv E 23 8 ∧ gv E1 23 12 = gv E 23 12 ∧ ∀ k : Nat, gv E1 24 k = gv E 24 k) ∨ (z1 = gv E 23 8 + 1 ∧ gv E 23 8 ≤ 11 ∧ (32 ≤ g ∧ g ≤ 126) ∧ gv E1 23 8 = gv E 23 8 + 1 ∧ gv E1 23 12 = 0 ∧ gv E1 24 (gv E 23 8).toNat = g))
    (f2 : cm_fr (fun i k => (i = 81 ∧ (k = 0 ∨ k = 23)) ∨ i = 85 ∨ (i = 94 ∧ k = (gv E1 81 23).toNat)) E1 E2)
    (P2 : (z2 = -1 ∧ (gv E1 81 23 = 12 ∨ ¬ (32 ≤ g ∧ g ≤ 126)) ∧ gv E2 81 23 = gv E1 81 23 ∧ ∀ k : Nat, gv E2 94 k = gv E1 94 k) ∨ (z2 = gv E1 81 23 + 1 ∧ gv E1 81 23 ≤ 11 ∧ (32 ≤ g ∧ g ≤ 126) ∧ gv E2 81 23 = gv E1 81 23 + 1 ∧ gv E2 94 (gv E1 81 23).toNat = g)) : ST E2 := by
  have e1 := gv_fr f1 (i := 81) (k := 23) (by omega)
  have o1 : ∀ i k, ¬ (i = 3 ∨ (i = 23 ∧ (k = 8 ∨ k = 12)) ∨ (i = 24 ∧ k = (gv E 23 8).toNat)) → gv E1 i k = gv E i k := fun i k hk => (gv_fr f1 hk).symm
  have o2 : ∀ i k, ¬ ((i = 81 ∧ (k = 0 ∨ k = 23)) ∨ i = 85 ∨ (i = 94 ∧ k = (gv E1 81 23).toNat)) → gv E2 i k = gv E1 i k := fun i k hk => (gv_fr f2 hk).symm
  rcases P1 with ⟨a1, a2, a3, a4, a5⟩ | ⟨a1, a2, a3, a4, a5, a6⟩
  · rcases P2 with ⟨b1, b2, b3, b4⟩ | ⟨b1, b2, b3, b4, b5⟩
    · refine h.eq (fun i k hk => ?_)
      by_cases h94 : i = 94
      · subst h94; rw [b4 k, o1 94 k (by omega)]
      · rw [o2 i k (by omega)]
        by_cases h24 : i = 24
        · subst h24; exact a5 k
        · by_cases h8 : i = 23 ∧ k = 8
          · rw [h8.1, h8.2]; exact a3
          · by_cases h12 : i = 23 ∧ k = 12
            · rw [h12.1, h12.2]; exact a4
            · exact o1 i k (by omega)
    · omega
  · rcases P2 with ⟨b1, b2, b3, b4⟩ | ⟨b1, b2, b3, b4, b5⟩
    · omega
    · obtain ⟨h1, h2, h3⟩ := h
      have n8 : gv E2 23 8 = gv E 23 8 + 1 := by rw [o2 23 8 (by omega)]; exact a4
      have n9 : gv E2 23 9 = gv E 23 9 := by rw [o2 23 9 (by omega), o1 23 9 (by omega)]
      have n12 : gv E2 23 12 = 0 := by rw [o2 23 12 (by omega)]; exact a5
      refine ⟨fun j hj => ?_, fun a ha => ?_, fun hs => by omega⟩
      · by_cases hjn : j = (gv E 23 8).toNat
        · rw [o2 24 j (by omega), hjn, a6, show (gv E 23 8).toNat = (gv E1 81 23).toNat by omega]; exact b5.symm
        · rw [o2 24 j (by omega), o1 24 j (by omega), o2 94 j (by omega), o1 94 j (by omega)]; exact h1 j (by omega)
      · have q := h2 a (by omega)
        rw [o2 25 a (by omega), o1 25 a (by omega), o2 26 a (by omega), o1 26 a (by omega), o2 27 a (by omega), o1 27 a (by omega), o2 95 a (by omega), o1 95 a (by omega), o2 96 a (by omega), o1 96 a (by omega), o2 97 a (by omega), o1 97 a (by omega)]
        exact q
theorem ST_act {E E1 E2 : cm_E} {p l g z1 z2 : Int} (h : ST E) (hJ : gv E 23 9 = gv E 81 24) (h0 : 0 ≤ gv E 23 9)
    (f1 : cm_fr (fun i k => i = 3 ∨ (i = 23 ∧ (k = 9 ∨ k = 12)) ∨ ((i = 25 ∨ i = 26 ∨ i = 27) ∧ k = (gv E 23 9).toNat)) E E1)
    (P1 : (z1 = -1 ∧ (gv E 23 9 = 8 ∨ ¬ (0 ≤ p ∧ p ≤ 2 ∧ 0 ≤ l ∧ l ≤ 7 ∧ (g = -1 ∨ (32 ≤ g ∧ g ≤ 126)))) ∧ gv E1 23 9 = gv E 23 9 ∧ gv E1 23 12 = gv E 23 12 ∧ ∀ k : Nat, gv E1 25 k = gv E 25 k ∧ gv E1 26 k = gv E 26 k ∧ gv E1 27 k = gv E 27 k) ∨ (z1 = gv E 23 9 + 1 ∧ gv E 23 9 ≤ 7 ∧ (0 ≤ p ∧ p ≤ 2 ∧ 0 ≤ l ∧ l ≤ 7 ∧ (g = -1 ∨ (32 ≤ g ∧ g ≤ 126))) ∧ gv E1 23 9 = gv E 23 9 + 1 ∧ gv E1 23 12 = 0 ∧ gv E1 25 (gv E 23 9).toNat = p ∧ gv E1 26 (gv E 23 9).toNat = l ∧ gv E1 27 (gv E 23 9).toNat = g))
    (f2 : cm_fr (fun i k => (i = 81 ∧ (k = 0 ∨ k = 24)) ∨ i = 85 ∨ ((i = 95 ∨ i = 96 ∨ i = 97) ∧ k = (gv E1 81 24).toNat)) E1 E2)
    (P2 : (z2 = -1 ∧ (gv E1 81 24 = 8 ∨ ¬ (0 ≤ p ∧ p ≤ 2 ∧ 0 ≤ l ∧ l ≤ 7 ∧ (g = -1 ∨ (32 ≤ g ∧ g ≤ 126)))) ∧ gv E2 81 24 = gv E1 81 24 ∧ ∀ k : Nat, gv E2 95 k = gv E1 95 k ∧ gv E2 96 k = gv E1 96 k ∧ gv E2 97 k = gv E1 97 k) ∨ (z2 = gv E1 81 24 + 1 ∧ gv E1 81 24 ≤ 7 ∧ (0 ≤ p ∧ p ≤ 2 ∧ 0 ≤ l ∧ l ≤ 7 ∧ (g = -1 ∨ (32 ≤ g ∧ g ≤ 126))) ∧ gv E2 81 24 = gv E1 81 24 + 1 ∧ gv E2 95 (gv E1 81 24).toNat = p ∧ gv E2 96 (gv E1 81 24).toNat = l ∧ gv E2 97 (gv E1 81 24).toNat = g)) : ST E2 := by
  have e1 := gv_fr f1 (i := 81) (k := 24) (by omega)
  have o1 : ∀ i k, ¬ (i = 3 ∨ (i = 23 ∧ (k = 9 ∨ k = 12)) ∨ ((i = 25 ∨ i = 26 ∨ i = 27) ∧ k = (gv E 23 9).toNat)) → gv E1 i k = gv E i k := fun i k hk => (gv_fr f1 hk).symm
  have o2 : ∀ i k, ¬ ((i = 81 ∧ (k = 0 ∨ k = 24)) ∨ i = 85 ∨ ((i = 95 ∨ i = 96 ∨ i = 97) ∧ k = (gv E1 81 24).toNat)) → gv E2 i k = gv E1 i k := fun i k hk => (gv_fr f2 hk).symm
  rcases P1 with ⟨a1, a2, a3, a4, a5⟩ | ⟨a1, a2, a3, a4, a5, a6, a7, a8⟩
  · rcases P2 with ⟨b1, b2, b3, b4⟩ | ⟨b1, b2, b3, b4, b5⟩
    · refine h.eq (fun i k hk => ?_)
      by_cases h95 : i = 95
      · subst h95; rw [(b4 k).1, o1 95 k (by omega)]
      · by_cases h96 : i = 96
        · subst h96; rw [(b4 k).2.1, o1 96 k (by omega)]
        · by_cases h97 : i = 97
          · subst h97; rw [(b4 k).2.2, o1 97 k (by omega)]
          · rw [o2 i k (by omega)]
            by_cases h25 : i = 25
            · subst h25; exact (a5 k).1
            · by_cases h26 : i = 26
              · subst h26; exact (a5 k).2.1
              · by_cases h27 : i = 27
                · subst h27; exact (a5 k).2.2
                · by_cases h8 : i = 23 ∧ k = 9
                  · rw [h8.1, h8.2]; exact a3
                  · by_cases h12 : i = 23 ∧ k = 12
                    · rw [h12.1, h12.2]; exact a4
                    · exact o1 i k (by omega)
    · omega
  · rcases P2 with ⟨b1, b2, b3, b4⟩ | ⟨b1, b2, b3, b4, b5, b6, b7⟩
    · omega
    · obtain ⟨h1, h2, h3⟩ := h
      have n8 : gv E2 23 8 = gv E 23 8 := by rw [o2 23 8 (by omega), o1 23 8 (by omega)]
      have n9 : gv E2 23 9 = gv E 23 9 + 1 := by rw [o2 23 9 (by omega)]; exact a4
      have n12 : gv E2 23 12 = 0 := by rw [o2 23 12 (by omega)]; exact a5
      refine ⟨fun j hj => ?_, fun a ha => ?_, fun hs => by omega⟩
      · rw [o2 24 j (by omega), o1 24 j (by omega), o2 94 j (by omega), o1 94 j (by omega)]; exact h1 j (by omega)
      · by_cases hjn : a = (gv E 23 9).toNat
        · have e9 : (gv E 23 9).toNat = (gv E1 81 24).toNat := by omega
          rw [o2 25 a (by omega), o2 26 a (by omega), o2 27 a (by omega), hjn, a6, a7, a8, e9, b5, b6, b7]
          exact ⟨rfl, rfl, rfl⟩
        · have q := h2 a (by omega)
          rw [o2 25 a (by omega), o1 25 a (by omega), o2 26 a (by omega), o1 26 a (by omega), o2 27 a (by omega), o1 27 a (by omega), o2 95 a (by omega), o1 95 a (by omega), o2 96 a (by omega), o1 96 a (by omega), o2 97 a (by omega), o1 97 a (by omega)]
          exact q
theorem ST_clear {E2 : cm_E} (h8 : gv E2 23 8 = 0) (h9 : gv E2 23 9 = 0) (h12 : gv E2 23 12 = 0) : ST E2 :=
  ⟨fun j hj => by omega, fun a ha => by omega, fun hs => by omega⟩
/-- both answer alike -/
theorem st_same {pf lf sf told : Nat → Int} {n : Nat} {m c : Int} {fi fj : Nat → Int} : stv (sq pf lf sf n told m n 0 (fun _ => 0) (0, fun _ => 0) (0, 0, fi)) n c = stv (sq pf lf sf n told m n 0 (fun _ => 0) (0, fun _ => 0) (0, 0, fj)) n c :=
  stv_R (sq_R pf lf sf n told m n 0 _ _ _ _ ⟨Int.le_refl _, rfl, rfl, Or.inl rfl⟩)
theorem cs_I.lng {T : cm_T} {E : cm_E} {nx : Nat} (h : cs_I T E nx) (k : Nat) (hk : k < 1) : ∃ z : Int, E 104 k = (4, z, z) := by
  have h0 := h.2.2 104 (by decide) k hk
  rw [show cs_ty 104 k = (4, 0, 0) from rfl] at h0
  rcases h0 with ⟨h1, -⟩ | ⟨h1, -⟩ | ⟨h1, -⟩ | ⟨-, h1⟩ | ⟨h1, -⟩
  · exact absurd h1 (by simp)
  · exact absurd h1 (by simp)
  · exact absurd h1 (by simp)
  · exact h1
  · exact absurd h1 (by simp)
theorem w_lcmpe {F : Nat → Option ai_Op} {call : ai_K} {x : ai_E} {A B : Nat} {Q : cm_Q} {pc npc : Nat} {loc st : List ai_V} {T : cm_T} {E : cm_E} {nx kc ks : Nat} {a b : Int} (hf : F pc = some (ai_o_lcmp npc)) (hab : a = b) (k : cm_wp F call x A B Q npc loc (ai_i 0 :: st) T E nx kc ks) : cm_wp F call x A B Q pc loc ((4, b, b) :: (4, a, a) :: st) T E nx kc ks := by
  refine cm_step hf (fun h _ K => ?_) k
  subst hab
  show (match ai_eq x (ai_i a) (ai_i a) with
    | some l => ai_all (fun q => K npc loc ((cond (Prod.fst q) (ai_i 0) (0, -1, 1)) :: st) (ai_ge (h, nx, kc, ks, x) (Prod.snd q))) l
    | none => none) = _
  rw [cm_equ]
  show K npc loc ((cond (decide (a = a)) (ai_i 0) (0, -1, 1)) :: st) (h, nx, kc, ks, x) = _
  rw [decide_eq_true (rfl : a = a)]; rfl
theorem ST_story {E E1 : cm_E} (h : ST E) (f1 : cm_fr (fun i k => (28 ≤ i ∧ i ≤ 40) ∨ (i = 23 ∧ (k = 10 ∨ k = 11 ∨ k = 12)) ∨ 104 ≤ i) E E1) (hs : sol E1 (f95 E) (f96 E) (f97 E) (gv E 23 9).toNat (f94 E) (gv E 23 8)) : ST E1 := by
  obtain ⟨h1, h2, h3⟩ := h
  have o1 : ∀ i k, ¬ ((28 ≤ i ∧ i ≤ 40) ∨ (i = 23 ∧ (k = 10 ∨ k = 11 ∨ k = 12)) ∨ 104 ≤ i) → gv E1 i k = gv E i k := fun i k hk => (gv_fr f1 hk).symm
  have e8 := o1 23 8 (by omega)
  have e9 := o1 23 9 (by omega)
  have c94 : f94 E1 = f94 E := funext fun k => o1 94 k (by omega)
  have c95 : f95 E1 = f95 E := funext fun k => o1 95 k (by omega)
  have c96 : f96 E1 = f96 E := funext fun k => o1 96 k (by omega)
  have c97 : f97 E1 = f97 E := funext fun k => o1 97 k (by omega)
  refine ⟨fun j hj => ?_, fun a ha => ?_, fun _ => ?_⟩
  · rw [o1 24 j (by omega), o1 94 j (by omega)]; exact h1 j (by omega)
  · rw [o1 25 a (by omega), o1 26 a (by omega), o1 27 a (by omega), o1 95 a (by omega), o1 96 a (by omega), o1 97 a (by omega)]; exact h2 a (by omega)
  · rw [c94, c95, c96, c97, e8, e9]; exact hs
/-- class and reference throw alike, and answer alike -/
theorem st_cmp {pf lf sf told : Nat → Int} {n : Nat} {m c z1 z2 o : Int} {E1 : cm_E} {code : Int}
    (h1 : (z1 = 1 ∧ (gv E1 23 12 = 1 ∧ sol E1 pf lf sf n told m) ∧ ∃ fi : Nat → Int, stv (sq pf lf sf n told m n 0 (fun _ => 0) (0, fun _ => 0) (0, 0, fi)) n c = none) ∨ (z1 = 0 ∧ (gv E1 23 12 = 1 ∧ sol E1 pf lf sf n told m) ∧ ∃ fi : Nat → Int, stv (sq pf lf sf n told m n 0 (fun _ => 0) (0, fun _ => 0) (0, 0, fi)) n c = some o))
    (h2 : ∃ fi : Nat → Int, (stv (sq pf lf sf n told m n 0 (fun _ => 0) (0, fun _ => 0) (0, 0, fi)) n c = none ∧ code = 1) ∨ (stv (sq pf lf sf n told m n 0 (fun _ => 0) (0, fun _ => 0) (0, 0, fi)) n c = some z2 ∧ code = 0)) : code = z1 ∧ (z1 = 0 → o = z2) ∧ sol E1 pf lf sf n told m := by
  obtain ⟨fj, h2⟩ := h2
  rcases h1 with ⟨a1, a2, fi, a3⟩ | ⟨a1, a2, fi, a3⟩
  · rcases h2 with ⟨b1, b2⟩ | ⟨b1, b2⟩
    · exact ⟨by omega, fun q => by omega, a2.2⟩
    · rw [st_same (fj := fj)] at a3
      rw [a3] at b1; cases b1
  · rcases h2 with ⟨b1, b2⟩ | ⟨b1, b2⟩
    · rw [st_same (fj := fj)] at a3
      rw [a3] at b1; cases b1
    · rw [st_same (fj := fj)] at a3
      rw [a3] at b1
      exact ⟨by omega, fun _ => Option.some.inj b1, a2.2⟩
