/-! ===== what every method may lean on at its start ===== -/
def ai_strs : List (String × Nat × String) := [("PenPage", 85, "writers are 1 to 5"), ("PenPage", 101, "no such count"), ("PenPage", 315, "no such page"), ("PenPage", 132, "no such thing of a page"), ("PenPage", 137, "no such place in the text"), ("PenPage", 322, "no such thing of a mark"), ("PenPage", 317, "the page has no such step"), ("PenPage", 176, "no such thing of a step"), ("PenPage", 229, "no such byte"), ("PenPage", 237, "the tape has not so many bytes"), ("PenPage", 264, "it lacks no such step"), ("PenPage", 266, "no such writer"), ("PenPage", 271, "no such mark"), ("PenPage", 300, "no such thing of the story")]
def ai_AW (U : State) : Prop := ∀ w ∈ lw_tbl, w.onTables = true → w.before #[] U = true
theorem ai_AW.use {U : State} (h : ai_AW U) {w : Cond} (hw : w ∈ lw_tbl) (ho : w.onTables = true) (args : Array Value) : w.before args U = true := va_any ho (h w hw ho)
def ai_isif (w : Cond) : Bool := match w with
  | .interfaceMethod .. => true
  | _ => false
theorem ai_noif : lw_tbl.all (fun w => !ai_isif w) = true := by decide +kernel
theorem ai_AW.warm {s U : State} (hW : s.WarmedH U.vm) (h : ai_AW s) : ai_AW U := by
  intro w hw ho
  have h0 := h w hw ho
  by_cases hk : w.keeps = true
  · exact word_at hW (Or.inl (by rw [ho, hk]; rfl)) h0
  · cases w with
    | fieldLinkNest a i b n d hst => exact va_Nw.warmF hW h0
    | methodLinkNest a i x hst => exact va_Nw.warmM hW h0
    | declares x => exact (Cond.before_shiftedFace (State.Shifted.of_warmed hW) _ rfl h0 : (Cond.declares x).before #[] (s.setVm U.vm) = true)
    | publicMethod x => exact (Cond.before_shiftedFace (State.Shifted.of_warmed hW) _ rfl h0 : (Cond.publicMethod x).before #[] (s.setVm U.vm) = true)
    | privateMethod x => exact (Cond.before_shiftedFace (State.Shifted.of_warmed hW) _ rfl h0 : (Cond.privateMethod x).before #[] (s.setVm U.vm) = true)
    | unhidden a b d => exact (Cond.before_shiftedFace (State.Shifted.of_warmed hW) _ rfl h0 : (Cond.unhidden a b d).before #[] (s.setVm U.vm) = true)
    | castable a b => exact (Cond.before_shiftedFace (State.Shifted.of_warmed hW) _ rfl h0 : (Cond.castable a b).before #[] (s.setVm U.vm) = true)
    | interfaceMethod a b n d => exact absurd (List.all_eq_true.mp ai_noif _ hw) (by simp [ai_isif])
    | _ => first | exact absurd rfl hk | cases ho
/-- the exceptions' classes that are no kin -/
def ai_SF (b0 L base : Nat) (rho : Nat → Int32) (tc dC : Nat → ClassId) (dI : Nat → Nat → Nat) (sa : Nat → Nat) (U : State) : Prop :=
  ai_AW U ∧ va_K (dC, dI) vwCl (ai_tys tc) U ∧ va_AO "PenPage$Page" U ∧ va_AO "PenPage$Step" U ∧ va_AOA .int U ∧ (∀ (k : Nat) (q : String × Nat × String), ai_strs[k]? = some q → vk_R q.1 q.2.1 q.2.2 (sa k) U) ∧
  vx_Zq Bundle.tN "UNASSIGNED_STACK" Bundle.steD (ai_A base) U U.heap ∧ vx_Zq Bundle.tN "SUPPRESSED_SENTINEL" Bundle.listD (ai_A base) U U.heap ∧ va_X b0 L rho U U.heap ∧ base ≤ U.heap.size ∧ b0 < base ∧ va_Nc "java/lang/IllegalArgumentException" "java/util/NoSuchElementException" U ∧ (∀ ty, Cond.arrayClass ty ∈ lw_tbl → (Cond.arrayClass ty).before #[] U = true)
theorem ai_SF.moved {b0 L base : Nat} {rho : Nat → Int32} {tc dC : Nat → ClassId} {dI : Nat → Nat → Nat} {sa : Nat → Nat} {s U : State} {locs : List Loc} (h : ai_SF b0 L base rho tc dC dI sa s) (hW : s.WarmedH U.vm) (hS : va_S (ai_A base) s.heap U.heap locs) : ai_SF b0 L base rho tc dC dI sa U := by
  obtain ⟨h1, h2, h3, h4, h5, h6, h7, h8, h9, h10, h11, h12, h13⟩ := h
  refine ⟨h1.warm hW, va_K.moved hW.alike h2, va_AO.moved hW.alike h3, va_AO.moved hW.alike h4, va_AOA.moved hW.alike h5, fun k q hk => (h6 k q hk).warm hW, vx_Zq.moved hW.alike (h7.kept hS.2.1), vx_Zq.moved hW.alike (h8.kept hS.2.1), va_X.moved hW.alike (h9.kept (hS.2.1 b0 (Nat.lt_of_lt_of_le h11 h10) (Nat.not_le.mpr h11))), Nat.le_trans h10 hS.1, h11, h12.moved hW.alike, fun ty hty => word_at hW (Or.inr ⟨ty, rfl⟩) (h13 ty hty)⟩
theorem ai_SF.calling {b0 L base : Nat} {rho : Nat → Int32} {tc dC : Nat → ClassId} {dI : Nat → Nat → Nat} {sa : Nat → Nat} {U : State} (h : ai_SF b0 L base rho tc dC dI sa U) (g : JFrame) (mk : MethodId) (a : Array Value) : ai_SF b0 L base rho tc dC dI sa (U.calling g mk a) :=
  ai_SF.moved (U := U.calling g mk a) (locs := []) h (State.WarmedH.refl U) va_S.rf
