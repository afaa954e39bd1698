/-! ===== a frame of the interpreter and the machine's frame; what a way on owes ===== -/
theorem ai_all_ok {α : Type} {k : α → Option ai_R} : ∀ {l : List α} {r : ai_R}, ai_all k l = some r → l ≠ [] ∧ ∀ q ∈ l, ∃ rq, k q = some rq ∧ (∀ o ∈ rq.1, o ∈ r.1) ∧ rq.2.1 ≤ r.2.1 ∧ rq.2.2 ≤ r.2.2
  | [], _, h => by cases h
  | [q], r, h => ⟨by simp, fun q' hq => by
      rw [List.mem_singleton.mp hq]
      exact ⟨r, h, fun o ho => ho, Nat.le_refl _, Nat.le_refl _⟩⟩
  | q :: q2 :: l, r, h => by
    have h : ai_join (k q) (ai_all k (q2 :: l)) = some r := h
    cases h1 : k q with
    | none => rw [h1] at h; cases h
    | some r1 =>
      obtain ⟨o1, a1, b1⟩ := r1
      cases h2 : ai_all k (q2 :: l) with
      | none => rw [h1, h2] at h; cases h
      | some r2 =>
        obtain ⟨o2, a2, b2⟩ := r2
        rw [h1, h2] at h
        simp only [ai_join, Option.some.injEq] at h
        subst h
        obtain ⟨-, ih⟩ := ai_all_ok h2
        refine ⟨by simp, fun q' hq => ?_⟩
        rcases List.mem_cons.mp hq with rfl | hq
        · exact ⟨_, h1, fun o ho => List.mem_append_left _ ho, Nat.le_max_left _ _, Nat.le_max_left _ _⟩
        · obtain ⟨rq, k1, k2, k3, k4⟩ := ih q' hq
          exact ⟨rq, k1, fun o ho => List.mem_append_right _ (k2 o ho), Nat.le_trans k3 (Nat.le_max_right _ _), Nat.le_trans k4 (Nat.le_max_right _ _)⟩
def ai_A (base : Nat) : Nat → Prop := fun q => base ≤ q
/-- the interpreter's frame loc, st, g stands for the machine's: heap H, locals ls, stack vs; ws: the cells -/
def ai_Fr (s : State) (nL b0 : Nat) (rho : Nat → Int32) (tc dC : Nat → ClassId) (dI : Nat → Nat → Nat) (base : Nat) (ws0 : va_W) (kE sE : Nat) (loc st : List ai_V) (g : ai_G)
    (H : Heap) (locs : List Loc) (cells slots : Nat) (ls : Array Slot) (vs : List Value) (ws : va_W) : Prop :=
  ai_AD ws0 ws ∧ ai_LR b0 rho ws loc ls nL ∧ ai_SR b0 rho ws st vs ∧ ai_WR b0 rho tc ws g.1 (ai_nx g) ∧ va_P (dC, dI) vwCl ws H ∧ va_D (ai_A base) ws ∧ va_S (ai_A base) s.heap H locs ∧ ai_EV rho (ai_x g) ∧ kE + cells = ai_kc g ∧ sE + slots = ai_ks g
/-- from this frame the method comes to its end as r says -/
def ai_At (p : Program) (l : Launch) (e : Env) (R : Room) (s : State) (m : MethodId) (args : Array Value) (below : List Frame) (meth : Method) (c : Code) (nL b0 : Nat) (rho : Nat → Int32) (tc dC : Nat → ClassId) (dI : Nat → Nat → Nat) (base : Nat) (ws0 : va_W) (kE sE mk0 ms0 : Nat) (os0 : List ai_O) (Q : State → Prop)
    (pc : Nat) (loc st : List ai_V) (g : ai_G) (r : ai_R) : Prop :=
  (ai_kc g ≤ r.2.1 ∧ ai_ks g ≤ r.2.2) ∧ ((∀ o ∈ r.1, o ∈ os0) → r.2.1 ≤ mk0 → r.2.2 ≤ ms0 → ∀ (H : Heap) (locs : List Loc) (cells slots : Nat) (ls : Array Slot) (vs : List Value) (ws : va_W),
    ai_Fr s nL b0 rho tc dC dI base ws0 kE sE loc st g H locs cells slots ls vs ws → W p l e R s m args below meth c H locs cells slots Q (F0 m pc ls vs))
def ai_KS (p : Program) (l : Launch) (e : Env) (R : Room) (s : State) (m : MethodId) (args : Array Value) (below : List Frame) (meth : Method) (c : Code) (nL b0 : Nat) (rho : Nat → Int32) (tc dC : Nat → ClassId) (dI : Nat → Nat → Nat) (base : Nat) (ws0 : va_W) (kE sE mk0 ms0 : Nat) (os0 : List ai_O) (Q : State → Prop) (K : ai_K4) : Prop :=
  ∀ (pc : Nat) (loc st : List ai_V) (g : ai_G) (r : ai_R), K pc loc st g = some r → ai_At p l e R s m args below meth c nL b0 rho tc dC dI base ws0 kE sE mk0 ms0 os0 Q pc loc st g r
section FRM
variable {p : Program} {l : Launch} {e : Env} {R : Room} {s : State} {m : MethodId} {args : Array Value} {below : List Frame} {meth : Method} {c : Code} {nL b0 : Nat} {rho : Nat → Int32} {tc dC : Nat → ClassId} {dI : Nat → Nat → Nat} {base : Nat} {ws0 : va_W} {kE sE mk0 ms0 : Nat} {os0 : List ai_O} {Q : State → Prop}
theorem ai_At.step {pc pc' : Nat} {loc loc' st st' : List ai_V} {g g' : ai_G} {r : ai_R} (hK : ai_At p l e R s m args below meth c nL b0 rho tc dC dI base ws0 kE sE mk0 ms0 os0 Q pc' loc' st' g' r) (hm : ai_kc g ≤ ai_kc g' ∧ ai_ks g ≤ ai_ks g')
    (hw : ∀ (H : Heap) (locs : List Loc) (cells slots : Nat) (ls : Array Slot) (vs : List Value) (ws : va_W), ai_Fr s nL b0 rho tc dC dI base ws0 kE sE loc st g H locs cells slots ls vs ws → r.2.1 ≤ mk0 → r.2.2 ≤ ms0 →
      (∀ (H1 : Heap) (locs1 : List Loc) (cells1 slots1 : Nat) (ls1 : Array Slot) (vs1 : List Value) (ws1 : va_W), ai_Fr s nL b0 rho tc dC dI base ws0 kE sE loc' st' g' H1 locs1 cells1 slots1 ls1 vs1 ws1 → W p l e R s m args below meth c H1 locs1 cells1 slots1 Q (F0 m pc' ls1 vs1)) →
      W p l e R s m args below meth c H locs cells slots Q (F0 m pc ls vs)) : ai_At p l e R s m args below meth c nL b0 rho tc dC dI base ws0 kE sE mk0 ms0 os0 Q pc loc st g r :=
  ⟨⟨Nat.le_trans hm.1 hK.1.1, Nat.le_trans hm.2 hK.1.2⟩, fun h1 h2 h3 H locs cells slots ls vs ws hF => hw H locs cells slots ls vs ws hF h2 h3 (hK.2 h1 h2 h3)⟩
theorem ai_At.all {α : Type} {k : α → Option ai_R} {l0 : List α} {pc : Nat} {loc st : List ai_V} {g : ai_G} {r : ai_R} (h : ai_all k l0 = some r) (pcq : α → Nat) (lq sq : α → List ai_V) (gq : α → ai_G)
    (hk : ∀ q ∈ l0, ∀ rq, k q = some rq → ai_At p l e R s m args below meth c nL b0 rho tc dC dI base ws0 kE sE mk0 ms0 os0 Q (pcq q) (lq q) (sq q) (gq q) rq) (hm : ∀ q, ai_kc g ≤ ai_kc (gq q) ∧ ai_ks g ≤ ai_ks (gq q))
    (hw : ∀ (H : Heap) (locs : List Loc) (cells slots : Nat) (ls : Array Slot) (vs : List Value) (ws : va_W), ai_Fr s nL b0 rho tc dC dI base ws0 kE sE loc st g H locs cells slots ls vs ws →
      (∀ q ∈ l0, ∀ (H1 : Heap) (locs1 : List Loc) (cells1 slots1 : Nat) (ls1 : Array Slot) (vs1 : List Value) (ws1 : va_W), ai_Fr s nL b0 rho tc dC dI base ws0 kE sE (lq q) (sq q) (gq q) H1 locs1 cells1 slots1 ls1 vs1 ws1 → W p l e R s m args below meth c H1 locs1 cells1 slots1 Q (F0 m (pcq q) ls1 vs1)) →
      W p l e R s m args below meth c H locs cells slots Q (F0 m pc ls vs)) : ai_At p l e R s m args below meth c nL b0 rho tc dC dI base ws0 kE sE mk0 ms0 os0 Q pc loc st g r := by
  obtain ⟨hne, hall⟩ := ai_all_ok h
  refine ⟨?_, fun h1 h2 h3 H locs cells slots ls vs ws hF => hw H locs cells slots ls vs ws hF fun q hq => ?_⟩
  · cases l0 with
    | nil => exact absurd rfl hne
    | cons q l1 =>
      obtain ⟨rq, k1, -, k3, k4⟩ := hall q List.mem_cons_self
      have := (hk q List.mem_cons_self rq k1).1
      have := hm q
      omega
  · obtain ⟨rq, k1, k2, k3, k4⟩ := hall q hq
    exact (hk q hq rq k1).2 (fun o ho => h1 o (k2 o ho)) (Nat.le_trans k3 h2) (Nat.le_trans k4 h3)
end FRM
