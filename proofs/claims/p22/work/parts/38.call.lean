/-! ===== ends, throws, calls ===== -/
def ai_exc (k : Nat) : String := if k = 2 then "java/util/NoSuchElementException" else "java/lang/IllegalArgumentException"
/-- the world behind an outcome q of a method that began with the cells ws0 -/
def ai_Ed (b0 : Nat) (rho : Nat → Int32) (tc dC : Nat → ClassId) (dI : Nat → Nat → Nat) (base : Nat) (ws0 : va_W) (q : ai_O) (st t : State) (ws : va_W) : Prop :=
  ai_AD ws0 ws ∧ ai_WR b0 rho tc ws q.2.2.1 (ai_nx q.2.2) ∧ va_P (dC, dI) vwCl ws t.heap ∧ va_D (ai_A base) ws ∧ ai_EV rho (ai_x q.2.2) ∧ va_F (ai_A base) st t
def ai_Qc (b0 : Nat) (rho : Nat → Int32) (tc dC : Nat → ClassId) (dI : Nat → Nat → Nat) (base : Nat) (ws0 : va_W) (os0 : List ai_O) : Array Value → State → Outcome → State → Prop := fun _ st o t =>
  ∃ q ∈ os0, ∃ ws, ai_Ed b0 rho tc dC dI base ws0 q st t ws ∧ ((q.1 = 0 ∧ o = .returned none) ∨ (q.1 = 1 ∧ ∃ w, o = .returned (some w) ∧ ai_Rv b0 rho ws q.2.1 w))
def ai_XC (b0 : Nat) (rho : Nat → Int32) (tc dC : Nat → ClassId) (dI : Nat → Nat → Nat) (base : Nat) (ws0 : va_W) (os0 : List ai_O) : String → State → State → Prop := fun E st t =>
  ∃ q ∈ os0, ∃ ws, ai_Ed b0 rho tc dC dI base ws0 q st t ws ∧ (q.1 = 2 ∨ q.1 = 3) ∧ E = ai_exc q.1
theorem ai_met {l : Launch} {y : MethodName} {ws : List Cond} {rm : Room} {Pc : Array Value → State → Prop} {Qc : Array Value → State → Outcome → State → Prop} {XC : String → State → State → Prop} {mc ms : Nat} {free : Addr → Prop} (h : vx_Met l y ws rm Pc Qc XC mc ms free) (hX : ∀ E st t, ¬ XC E st t) : Met l y ws rm Pc Qc mc ms free := by
  intro p e ha hc hk s m args below hf happ hP hK
  obtain ⟨n, o, h1, h2, h3, hQ⟩ := h p e ha hc hk s m args below hf happ hP hK
  refine ⟨n, o, h1, h2, h3, ?_⟩
  rcases hQ with hQ | ⟨q, -, E, ce, L, hx, -⟩
  · exact hQ
  · exact absurd hx (hX _ _ _)
theorem ai_run_x {p : Program} {l : Launch} {e : Env} {R : Room} {s : State} {m : MethodId} {args : Array Value} {below : List Frame} {meth : Method} {c : Code} {H : Heap} {locs : List Loc} {cells slots mc ms : Nat} {g : JFrame} {rest : List Value} {Qa : State → Outcome → State → Prop} {XC : String → State → State → Prop} {free : Addr → Prop}
    (h : va_Run p l e R s m args below meth c H locs cells slots mc ms g rest Qa free) : vx_Run p l e R s m args below meth c H locs cells slots mc ms g rest Qa XC free := fun T hT X => Or.inl (h T hT X)
section CALL
variable {p : Program} {l : Launch} {e : Env} {R : Room} {s : State} {m : MethodId} {args : Array Value} {below : List Frame} {meth : Method} {c : Code} {nL b0 : Nat} {rho : Nat → Int32} {tc dC : Nat → ClassId} {dI : Nat → Nat → Nat} {base : Nat} {ws0 : va_W} {kE sE mk0 ms0 : Nat} {os0 : List ai_O} {Q : State → Prop}
variable {cc : ByteArray} {own : String} {Ts : List Cond} {call : ai_K} {K : ai_K4} {pc npc : Nat} {loc st : List ai_V} {g : ai_G} {r : ai_R}
/-- what is owed at the end -/
theorem ai_fin {k : Nat} {v : ai_V} {H : Heap} {locs : List Loc} {cells slots : Nat} {ls : Array Slot} {vs : List Value} {ws : va_W} (hin : (k, v, g) ∈ os0) (hF : ai_Fr s nL b0 rho tc dC dI base ws0 kE sE loc st g H locs cells slots ls vs ws) {t : State} (ht : t.heap = H) :
    ai_Ed b0 rho tc dC dI base ws0 (k, v, g) s t ws := by
  obtain ⟨f0, f1, f2, f3, f4, f5, f6, f7, f8⟩ := hF
  exact ⟨f0, f3, by rw [ht]; exact f4, f5, f7, f6.F ht⟩
theorem so_ret {k : Nat} {v : ai_V} {vs1 : List Value} (hmk : mk0 ≤ kE + (mk0 - kE)) (hQ : Q = vx_MQ below (ai_Qc b0 rho tc dC dI base ws0 os0) (ai_XC b0 rho tc dC dI base ws0 os0) args s (mk0 - kE) (ms0 - sE) (ai_A base))
    (hrow : ∀ {H : Heap} {locs : List Loc} {cells slots : Nat} {ls : Array Slot} {vs : List Value} {ws : va_W}, ai_Fr s nL b0 rho tc dC dI base ws0 kE sE loc st g H locs cells slots ls vs ws →
      ∃ o : Outcome, ((k = 0 ∧ o = .returned none) ∨ (k = 1 ∧ ∃ w, o = .returned (some w) ∧ ai_Rv b0 rho ws v w)) ∧ ∀ {Qc : Array Value → State → Outcome → State → Prop} {cells2 slots2 : Nat}, (∀ t : State, t.heap = H → s.WarmedH t.vm → Qc args s o t) → (∀ q ∈ locs, (ai_A base) q.base) → W p l e R s m args below meth c H locs cells2 slots2 (MQ below Qc args s cells2 slots2 (ai_A base)) (F0 m pc ls vs))
    (h : ai_end k v g = some r) : ai_At p l e R s m args below meth c nL b0 rho tc dC dI base ws0 kE sE mk0 ms0 os0 Q pc loc st g r := by
  cases h
  refine ⟨⟨Nat.le_refl _, Nat.le_refl _⟩, fun h1 h2 h3 H locs cells slots ls vs ws hF => ?_⟩
  obtain ⟨o, ho, hgo⟩ := hrow hF
  have hF2 := hF
  obtain ⟨f0, f1, f2, f3, f4, f5, f6, f7, f8, f9⟩ := hF
  have h2 : ai_kc g ≤ mk0 := h2
  have h3 : ai_ks g ≤ ms0 := h3
  rw [hQ]
  refine W.widen (k := mk0 - kE) (n := ms0 - sE) (by omega) (by omega) (vx_ret (hgo (fun t ht hW => ?_) f6.2.2))
  exact ⟨(k, v, g), h1 _ (List.mem_singleton.mpr rfl), ws, ai_fin (h1 _ (List.mem_singleton.mpr rfl)) hF2 ht, ho⟩
theorem so_vret (hx : p.tables.exec = Jvm.exec) (hb : c.code = cc) (hlocks : meth.locks = false) (hr : meth.sig.returnType = none) (hQ : Q = vx_MQ below (ai_Qc b0 rho tc dC dI base ws0 os0) (ai_XC b0 rho tc dC dI base ws0 os0) args s (mk0 - kE) (ms0 - sE) (ai_A base))
    (hdg : decode cc pc = .ok (.return_, 1)) (h : ai_o_vret call K loc st g = some r) : ai_At p l e R s m args below meth c nL b0 rho tc dC dI base ws0 kE sE mk0 ms0 os0 Q pc loc st g r := by
  unfold ai_o_vret at h
  cases st with
  | cons v st => cases h
  | nil =>
    refine so_ret (vs1 := []) (by omega) hQ (fun {H locs cells slots ls vs ws} hF => ⟨.returned none, Or.inl ⟨rfl, rfl⟩, fun {Qc c2 s2} hq hf => ?_⟩) h
    rw [hF.2.2.1.nil]
    exact W.vret hx hb hr hq hf hdg hlocks
theorem so_iret (hx : p.tables.exec = Jvm.exec) (hb : c.code = cc) (hlocks : meth.locks = false) (hr : meth.sig.returnType = some .int) (hQ : Q = vx_MQ below (ai_Qc b0 rho tc dC dI base ws0 os0) (ai_XC b0 rho tc dC dI base ws0 os0) args s (mk0 - kE) (ms0 - sE) (ai_A base))
    (hdg : decode cc pc = .ok (.ireturn, 1)) (h : ai_o_iret call K loc st g = some r) : ai_At p l e R s m args below meth c nL b0 rho tc dC dI base ws0 kE sE mk0 ms0 os0 Q pc loc st g r := by
  unfold ai_o_iret at h
  match st, h with
  | [], h => cases h
  | _ :: _ :: _, h => cases h
  | [v], h =>
    simp only at h
    cases hb2 : ai_isn v with
    | false => rw [hb2] at h; cases h
    | true =>
      rw [hb2] at h
      refine so_ret (vs1 := []) (by omega) hQ (fun {H locs cells slots ls vs ws} hF => ?_) h
      obtain ⟨w1, rest, rfl, q1, q2⟩ := hF.2.2.1.cons
      obtain ⟨z, rfl, nz⟩ := q1.int ((ai_isn_iff v).mp hb2)
      refine ⟨.returned (some (.int z)), Or.inr ⟨rfl, _, rfl, q1⟩, fun {Qc c2 s2} hq hf => ?_⟩
      rw [q2.nil]
      exact W.iret hx hb hr hq hf hdg hlocks
theorem so_zret (hx : p.tables.exec = Jvm.exec) (hb : c.code = cc) (hlocks : meth.locks = false) (hr : meth.sig.returnType = some .boolean) (hQ : Q = vx_MQ below (ai_Qc b0 rho tc dC dI base ws0 os0) (ai_XC b0 rho tc dC dI base ws0 os0) args s (mk0 - kE) (ms0 - sE) (ai_A base))
    (hdg : decode cc pc = .ok (.ireturn, 1)) (h : ai_o_zret call K loc st g = some r) : ai_At p l e R s m args below meth c nL b0 rho tc dC dI base ws0 kE sE mk0 ms0 os0 Q pc loc st g r := by
  unfold ai_o_zret at h
  match st, h with
  | [], h => cases h
  | _ :: _ :: _, h => cases h
  | [v], h =>
    simp only at h
    cases hb2 : ai_fits 1 (ai_x g) v with
    | false => rw [hb2] at h; cases h
    | true =>
      rw [hb2] at h
      refine so_ret (vs1 := []) (by omega) hQ (fun {H locs cells slots ls vs ws} hF => ?_) h
      obtain ⟨w1, rest, rfl, q1, q2⟩ := hF.2.2.1.cons
      obtain ⟨t1, t2⟩ := ai_fits_bool hF.2.2.2.2.2.2.2.1 hb2
      obtain ⟨z, rfl, nz⟩ := q1.int t1
      refine ⟨.returned (some (.int z)), Or.inr ⟨rfl, _, rfl, q1⟩, fun {Qc c2 s2} hq hf => ?_⟩
      rw [q2.nil]
      exact W.zret (ty := .boolean) hx hb hr (by rcases t2 z nz with rfl | rfl <;> rfl) hq hf hdg hlocks
theorem so_aret (hx : p.tables.exec = Jvm.exec) (hb : c.code = cc) (hlocks : meth.locks = false) {rt : FieldType} (hr : meth.sig.returnType = some rt) (hrt : (∃ n, rt = .object n) ∨ ∃ t, rt = .array t) (hQ : Q = vx_MQ below (ai_Qc b0 rho tc dC dI base ws0 os0) (ai_XC b0 rho tc dC dI base ws0 os0) args s (mk0 - kE) (ms0 - sE) (ai_A base))
    (hdg : decode cc pc = .ok (.areturn, 1)) (h : ai_o_aret call K loc st g = some r) : ai_At p l e R s m args below meth c nL b0 rho tc dC dI base ws0 kE sE mk0 ms0 os0 Q pc loc st g r := by
  unfold ai_o_aret at h
  match st, h with
  | [], h => cases h
  | _ :: _ :: _, h => cases h
  | [v], h =>
    simp only at h
    cases hb2 : (Nat.beq (Prod.fst v) 2 || Nat.beq (Prod.fst v) 3) with
    | false => rw [hb2] at h; cases h
    | true =>
      rw [hb2] at h
      have h9 : v.1 = 2 ∨ v.1 = 3 := by
        rcases Bool.or_eq_true_iff.mp hb2 with q | q
        · exact Or.inl (Nat.eq_of_beq_eq_true q)
        · exact Or.inr (Nat.eq_of_beq_eq_true q)
      refine so_ret (vs1 := []) (by omega) hQ (fun {H locs cells slots ls vs ws} hF => ?_) h
      obtain ⟨w1, rest, rfl, q1, q2⟩ := hF.2.2.1.cons
      refine ⟨.returned (some w1), Or.inr ⟨rfl, _, rfl, q1⟩, fun {Qc c2 s2} hq hf => ?_⟩
      rw [q2.nil]
      exact W.aret hx hb hr hrt (q1.rn h9) hq hf hdg hlocks
/-- a throw of its own: what the row must give -/
theorem so_throw {k : Nat} (hk : k = 2 ∨ k = 3) (hRc : mk0 ≤ kE + R.cells) (hRs : ms0 ≤ sE + R.slots) (hQ : Q = vx_MQ below (ai_Qc b0 rho tc dC dI base ws0 os0) (ai_XC b0 rho tc dC dI base ws0 os0) args s (mk0 - kE) (ms0 - sE) (ai_A base))
    (hrow : ∀ {H : Heap} {locs : List Loc} {cells slots : Nat} {ls : Array Slot}, va_S (ai_A base) s.heap H locs → ls.size = nL → cells + 1 ≤ R.cells → slots + 6 ≤ R.slots →
      (∀ t : State, s.vm.Alike t.vm → H.size ≤ t.heap.size → (∀ q : Nat, q < H.size → t.heap[q]? = H[q]?) → ai_XC b0 rho tc dC dI base ws0 os0 (ai_exc k) s t) → (∀ z ∈ locs, (ai_A base) z.base) → cells + 1 ≤ mk0 - kE → slots + 6 ≤ ms0 - sE →
      W p l e R s m args below meth c H locs cells slots (vx_MQ below (ai_Qc b0 rho tc dC dI base ws0 os0) (ai_XC b0 rho tc dC dI base ws0 os0) args s (mk0 - kE) (ms0 - sE) (ai_A base)) (F0 m pc ls []))
    (h : ai_o_throw k call K loc st g = some r) : ai_At p l e R s m args below meth c nL b0 rho tc dC dI base ws0 kE sE mk0 ms0 os0 Q pc loc st g r := by
  unfold ai_o_throw at h
  cases st with
  | cons v st => cases h
  | nil =>
    cases h
    refine ⟨⟨Nat.le_succ _, Nat.le_add_right _ _⟩, fun h1 h2 h3 H locs cells slots ls vs ws hF => ?_⟩
    obtain ⟨f0, f1, f2, f3, f4, f5, f6, f7, f8, f9⟩ := hF
    have h2 : ai_kc g + 1 ≤ mk0 := h2
    have h3 : ai_ks g + 6 ≤ ms0 := h3
    rw [hQ, f2.nil]
    refine hrow f6 f1.sz (by omega) (by omega) (fun t hal hsz hkeep => ?_) f6.2.2 (by omega) (by omega)
    refine ⟨_, h1 _ (List.mem_singleton.mpr rfl), ws, ⟨f0, f3, f4.kept (fun i q hi => hkeep q.1 ((f4 i q hi).lt)), f5, f7, ?_⟩, hk, rfl⟩
    exact ⟨Nat.le_trans f6.1 hsz, fun q hq hA => by rw [hkeep q (Nat.lt_of_lt_of_le hq f6.1)]; exact f6.2.1 q hq hA⟩
/-- how this method meets a throw of kind k at pc: it leaves (h = 0), or goes on at h -/
theorem ai_cat1 {b0 : Nat} {rho : Nat → Int32} {ws : va_W} : ∀ {st : List ai_V} {vs : List Value}, ai_SR b0 rho ws st vs → st.all ai_w1 = true → (vs.map fun v => v.category).sum = st.length
  | [], [], _, _ => rfl
  | [], _ :: _, h, _ => by cases h
  | _ :: _, [], h, _ => by cases h
  | v :: st, w :: vs, h, hb => by
    rw [List.all_cons, Bool.and_eq_true] at hb
    have h1 : v.1 ≤ 3 := Nat.le_of_ble_eq_true hb.1
    have ih := ai_cat1 h.2 hb.2
    have hc := h.1.cat (by omega)
    simp only [List.map_cons, List.sum_cons, List.length_cons]
    omega
def ai_Ct (p : Program) (l : Launch) (e : Env) (R : Room) (s : State) (m : MethodId) (args : Array Value) (below : List Frame) (meth : Method) (c : Code) (Q : State → Prop) (pc k h : Nat) : Prop :=
  (h = 0 ∧ ∀ x ∈ c.exceptionTable.toList, covers x pc = false) ∨ (h ≠ 0 ∧ ∀ {H : Heap} {locs : List Loc} {cells slots : Nat} {ls : Array Slot} {rest : List Value} {q : Addr} {ce : Cell}, H[q]? = some ce → ce.vm = .none → s.vm.findClass (ai_exc k) = some ce.cls → W p l e R s m args below meth c H locs cells slots Q (F0 m h ls [.ref q]) → vx_W p l e R s m args below meth c H locs cells slots Q (F0 m pc ls rest) q) ∨ h = 65535
theorem so_call (hlocks : meth.locks = false) {vk : Bool} {j n h2 h3 : Nat} (hn : npc = pc + 3) (hRc : mk0 ≤ kE + R.cells) (hRs : ms0 ≤ sE + R.slots) (hQ : Q = vx_MQ below (ai_Qc b0 rho tc dC dI base ws0 os0) (ai_XC b0 rho tc dC dI base ws0 os0) args s (mk0 - kE) (ms0 - sE) (ai_A base))
    (hrun : ∀ {H : Heap} {locs : List Loc} {cells slots : Nat} {ls : Array Slot} {vs : List Value} {ws : va_W} {os : List ai_O} {x1 x2 : Nat}, ai_Fr s nL b0 rho tc dC dI base ws0 kE sE loc st g H locs cells slots ls vs ws → call j (st.take n).reverse g = some (os, x1, x2) → n ≤ st.length → ((vs.drop n).map fun v => v.category).sum ≤ 8 → (vk = true ∨ ∀ q ∈ os, q.1 ≤ 1) → cells + (x1 - ai_kc g) ≤ R.cells → slots + (x2 - ai_ks g) ≤ R.slots →
      ∃ a : Array Value, vx_Run p l e R s m args below meth c H locs cells slots (x1 - ai_kc g) (x2 - ai_ks g) (F0 m pc ls vs) (vs.drop n) (ai_Qc b0 rho tc dC dI base ws os a) (ai_XC b0 rho tc dC dI base ws os) (ai_A base))
    (hc2 : ai_Ct p l e R s m args below meth c Q pc 2 h2) (hc3 : ai_Ct p l e R s m args below meth c Q pc 3 h3)
    (hK5 : ∀ loc st g, K 65535 loc st g = none) (hK : ai_KS p l e R s m args below meth c nL b0 rho tc dC dI base ws0 kE sE mk0 ms0 os0 Q K) (h : ai_o_call vk j n h2 h3 npc call K loc st g = some r) : ai_At p l e R s m args below meth c nL b0 rho tc dC dI base ws0 kE sE mk0 ms0 os0 Q pc loc st g r := by
  unfold ai_o_call at h
  cases hcd : (Nat.ble n st.length && (Nat.ble (st.drop n).length 5 && (st.drop n).all ai_w1)) with
  | false => rw [hcd] at h; cases h
  | true =>
    rw [hcd] at h
    simp only [cond_true] at h
    rw [Bool.and_eq_true] at hcd
    have hnl : n ≤ st.length := Nat.le_of_ble_eq_true hcd.1
    have hd4 : ∀ {ws : va_W} {vs : List Value}, ai_SR b0 rho ws st vs → ((vs.drop n).map fun v => v.category).sum ≤ 8 := fun f2 => by
      have h5 := hcd.2
      rw [Bool.and_eq_true] at h5
      have := ai_cat1 (f2.drop n) h5.2
      have : (st.drop n).length ≤ 5 := Nat.le_of_ble_eq_true h5.1
      omega
    cases hcl : call j (st.take n).reverse g with
    | none => rw [hcl] at h; cases h
    | some q0 =>
      obtain ⟨os, x1, x2⟩ := q0
      rw [hcl] at h
      simp only at h
      cases hvk : ((vk || os.all (fun q => Nat.ble (Prod.fst q) 1)) && (Nat.ble (ai_kc g) x1 && Nat.ble (ai_ks g) x2)) with
      | false => rw [hvk] at h; cases h
      | true =>
        rw [hvk] at h
        simp only [cond_true] at h
        rw [Bool.and_eq_true, Bool.and_eq_true] at hvk
        obtain ⟨hvk, hm1, hm2⟩ := hvk
        have hm1 : ai_kc g ≤ x1 := Nat.le_of_ble_eq_true hm1
        have hm2 : ai_ks g ≤ x2 := Nat.le_of_ble_eq_true hm2
        have hvk2 : vk = true ∨ ∀ q ∈ os, q.1 ≤ 1 := by
          rcases Bool.or_eq_true_iff.mp hvk with q | q
          · exact Or.inl q
          · exact Or.inr (fun z hz => Nat.le_of_ble_eq_true (List.all_eq_true.mp q z hz))
        obtain ⟨hne, hall⟩ := ai_all_ok h
        -- every way on says how many cells there may be
        have hmono : ∀ q ∈ os, ∀ rq, ai_cont npc K loc (st.drop n) h2 h3 x1 x2 q = some rq → x1 ≤ rq.2.1 ∧ x2 ≤ rq.2.2 := by
          intro q hq rq hrq
          unfold ai_cont at hrq
          cases b0' : Nat.beq (Prod.fst q) 0 with
          | true => rw [b0'] at hrq; exact (hK _ _ _ _ _ hrq).1
          | false =>
            rw [b0'] at hrq
            simp only [cond_false] at hrq
            cases b1 : Nat.beq (Prod.fst q) 1 with
            | true => rw [b1] at hrq; exact (hK _ _ _ _ _ hrq).1
            | false =>
              rw [b1] at hrq
              simp only [cond_false] at hrq
              cases b2 : Nat.beq (Prod.fst q) 2 with
              | true =>
                rw [b2] at hrq
                simp only [cond_true] at hrq
                cases b4 : Nat.beq h2 0 with
                | true => rw [b4] at hrq; cases hrq; exact ⟨Nat.le_refl _, Nat.le_refl _⟩
                | false => rw [b4] at hrq; exact (hK _ _ _ _ _ hrq).1
              | false =>
                rw [b2] at hrq
                simp only [cond_false] at hrq
                cases b3 : Nat.beq (Prod.fst q) 3 with
                | true =>
                  rw [b3] at hrq
                  simp only [cond_true] at hrq
                  cases b4 : Nat.beq h3 0 with
                  | true => rw [b4] at hrq; cases hrq; exact ⟨Nat.le_refl _, Nat.le_refl _⟩
                  | false => rw [b4] at hrq; exact (hK _ _ _ _ _ hrq).1
                | false => rw [b3] at hrq; cases hrq
        have hx12 : x1 ≤ r.2.1 ∧ x2 ≤ r.2.2 := by
          cases os with
          | nil => exact absurd rfl hne
          | cons q l1 =>
            obtain ⟨rq, k1, -, k3, k4⟩ := hall q List.mem_cons_self
            have := hmono q List.mem_cons_self rq k1
            omega
        refine ⟨⟨by omega, by omega⟩, fun g1 g2 g3 H locs cells slots ls vs ws hF => ?_⟩
        have hF2 := hF
        obtain ⟨f0, f1, f2, f3, f4, f5, f6, f7, f8, f9⟩ := hF
        obtain ⟨av, hr⟩ := hrun hF2 hcl hnl (hd4 f2) hvk2 (by omega) (by omega)
        have hkeep := fun {st₀ t T' : State} {L : List Loc} (h0 : st₀.heap = H) (e1 : T'.heap = t.heap) (hL : ∀ z ∈ L, ai_A base z.base) (hF : va_F (ai_A base) st₀ t) => vx_keep (A1 := ai_A base) (free := ai_A base) h0 e1 f6 (fun q _ h => h) (fun q h => h) hL hF
        intro T hT X
        rcases hr T hT X with ⟨v, st₀, t, T', L, h0, X', hL, e1, e2, ⟨q, hq, ws1, ⟨d0, d1, d2, d3, d4, d5⟩, hout⟩, sto⟩ | ⟨qa, st₀, t, T', L, E, ce, h0, X', hL, e1, e2, ⟨q, hq, ws1, ⟨d0, d1, d2, d3, d4, d5⟩, hq23, hE⟩, hce, hcv, hcls, sto⟩
        · obtain ⟨rq, k1, k2, k3, k4⟩ := hall q hq
          obtain ⟨-, -, hS1⟩ := hkeep h0 e1 hL d5
          have kk : ∀ st1 vs1, K npc loc st1 (ai_gk (Prod.snd (Prod.snd q)) x1 x2) = some rq → ai_SR b0 rho ws1 st1 vs1 → W p l e R s m args below meth c T'.heap (locs ++ L) (cells + (x1 - ai_kc g)) (slots + (x2 - ai_ks g)) Q (F0 m npc ls vs1) := fun st1 vs1 hkq hsr =>
            (hK _ _ _ _ _ hkq).2 (fun o ho => g1 o (k2 o ho)) (by omega) (by omega) _ _ _ _ _ _ ws1 ⟨f0.tr d0, f1.mono d0, hsr, d1, by rw [e1]; exact d2, d3, hS1, d4, by show kE + (cells + (x1 - ai_kc g)) = x1; omega, by show sE + (slots + (x2 - ai_ks g)) = x2; omega⟩
          unfold ai_cont at k1
          rcases hout with ⟨hq0, hv⟩ | ⟨hq1, w, hv, hw⟩
          · cases hv
            have b1 : Nat.beq (Prod.fst q) 0 = true := by rw [show Prod.fst q = 0 from hq0]; rfl
            rw [b1] at k1
            obtain ⟨t2, a1, b1⟩ := kk _ _ k1 ((f2.drop n).mono d0) T' rfl X'
            subst hn
            exact ⟨t2, sto t2 a1, b1⟩
          · cases hv
            have b1 : Nat.beq (Prod.fst q) 0 = false := by rw [show Prod.fst q = 1 from hq1]; rfl
            have b2 : Nat.beq (Prod.fst q) 1 = true := by rw [show Prod.fst q = 1 from hq1]; rfl
            rw [b1, b2] at k1
            obtain ⟨t2, a1, b1⟩ := kk _ (w :: vs.drop n) k1 ⟨hw, (f2.drop n).mono d0⟩ T' rfl X'
            subst hn
            exact ⟨t2, sto t2 a1, b1⟩
        · obtain ⟨rq, k1, k2, k3, k4⟩ := hall q hq
          obtain ⟨-, -, hS1⟩ := hkeep h0 e1 hL d5
          unfold ai_cont at k1
          have hce1 : T'.heap[qa]? = some ce := by rw [e1]; exact hce
          have key : ∀ (kq hq9 : Nat), q.1 = kq → (kq = 2 ∨ kq = 3) → ai_Ct p l e R s m args below meth c Q pc kq hq9 → (cond (Nat.beq hq9 0) (some ([(kq, Prod.fst (Prod.snd q), ai_gk (Prod.snd (Prod.snd q)) x1 x2)], x1, x2)) (K hq9 loc [(7, 0, 0)] (ai_gk (Prod.snd (Prod.snd q)) x1 x2)) = some rq) →
              vx_W p l e R s m args below meth c T'.heap (locs ++ L) (cells + (x1 - ai_kc g)) (slots + (x2 - ai_ks g)) Q (F0 m pc ls (vs.drop n)) qa := by
            intro kq hq9 ekq hk23 hCt hk1
            rw [ekq] at hE
            rcases hCt with ⟨hz, hout⟩ | ⟨hz, hcat⟩ | hz
            · rw [hz] at hk1
              cases hk1
              rw [hQ]
              refine vx_out hout hlocks hce1 hcv hcls (fun t9 ht9 hal => ?_) hS1.2.2 (by omega) (by omega)
              refine ⟨_, g1 _ (k2 _ (List.mem_singleton.mpr rfl)), ws1, ⟨f0.tr d0, d1, by rw [ht9, e1]; exact d2, d3, d4, hS1.F ht9⟩, hk23, hE⟩
            · have b1 : Nat.beq hq9 0 = false := by
                cases b9 : Nat.beq hq9 0 with
                | false => rfl
                | true => exact absurd (Nat.eq_of_beq_eq_true b9) hz
              rw [b1] at hk1
              refine hcat hce1 hcv (by rw [← hE]; exact hcls) ?_
              exact (hK _ _ _ _ _ hk1).2 (fun o ho => g1 o (k2 o ho)) (by omega) (by omega) _ _ _ _ _ _ ws1 ⟨f0.tr d0, f1.mono d0, ⟨Or.inr (Or.inr (Or.inr (Or.inr (Or.inr ⟨rfl, qa, rfl⟩)))), trivial⟩, d1, by rw [e1]; exact d2, d3, hS1, d4, by show kE + (cells + (x1 - ai_kc g)) = x1; omega, by show sE + (slots + (x2 - ai_ks g)) = x2; omega⟩
            · rw [hz] at hk1
              have hk1 : K 65535 loc [(7, 0, 0)] (ai_gk (Prod.snd (Prod.snd q)) x1 x2) = some rq := hk1
              rw [hK5] at hk1
              cases hk1
          have hvW : vx_W p l e R s m args below meth c T'.heap (locs ++ L) (cells + (x1 - ai_kc g)) (slots + (x2 - ai_ks g)) Q (F0 m pc ls (vs.drop n)) qa := by
            rcases hq23 with h9 | h9
            · have b1 : Nat.beq (Prod.fst q) 0 = false := by rw [show Prod.fst q = 2 from h9]; rfl
              have b2 : Nat.beq (Prod.fst q) 1 = false := by rw [show Prod.fst q = 2 from h9]; rfl
              have b3 : Nat.beq (Prod.fst q) 2 = true := by rw [show Prod.fst q = 2 from h9]; rfl
              rw [b1, b2, b3] at k1
              exact key 2 h2 h9 (Or.inl rfl) hc2 k1
            · have b1 : Nat.beq (Prod.fst q) 0 = false := by rw [show Prod.fst q = 3 from h9]; rfl
              have b2 : Nat.beq (Prod.fst q) 1 = false := by rw [show Prod.fst q = 3 from h9]; rfl
              have b3 : Nat.beq (Prod.fst q) 2 = false := by rw [show Prod.fst q = 3 from h9]; rfl
              have b4 : Nat.beq (Prod.fst q) 3 = true := by rw [show Prod.fst q = 3 from h9]; rfl
              rw [b1, b2, b3, b4] at k1
              exact key 3 h3 h9 (Or.inr rfl) hc3 k1
          obtain ⟨t2, a1, b1⟩ := hvW T' rfl X'
          exact ⟨t2, sto.trans a1, b1⟩
end CALL
