/-! ===== runs and calls of the interpreter are the machine's ===== -/
theorem ai_find_cons (q : Nat × ai_I) (t : List (Nat × ai_I)) (sl : Int × Int) (pc : Nat) : ai_find (q :: t) sl pc = cond (Nat.beq (Prod.fst q) pc) (ai_sem sl (Prod.snd q)) (ai_find t sl pc) := rfl
theorem ai_find_ok {sl : Int × Int} {pc : Nat} {op : ai_Op} : ∀ {l1 : List (Nat × ai_I)}, ai_find l1 sl pc = some op → ∃ q ∈ l1, q.1 = pc ∧ ai_sem sl q.2 = some op
  | [], h => by cases h
  | q :: t, h => by
    rw [ai_find_cons] at h
    cases hb : Nat.beq (Prod.fst q) pc with
    | true => rw [hb] at h; exact ⟨q, List.mem_cons_self, Nat.eq_of_beq_eq_true hb, h⟩
    | false =>
      rw [hb] at h
      obtain ⟨q', h1, h2⟩ := ai_find_ok (l1 := t) h
      exact ⟨q', List.mem_cons_of_mem _ h1, h2⟩
theorem ai_find_no {sl : Int × Int} {pc : Nat} : ∀ {l1 : List (Nat × ai_I)}, (∀ q ∈ l1, Nat.beq q.1 pc = false) → ai_find l1 sl pc = none
  | [], _ => rfl
  | q :: t, h => by
    rw [ai_find_cons, show Nat.beq (Prod.fst q) pc = false from h q List.mem_cons_self]
    exact ai_find_no (fun q' hq => h q' (List.mem_cons_of_mem _ hq))
theorem ai_run_s (code : Nat → Option ai_Op) (call : ai_K) (n : Nat) (pc : Nat) (loc st : List ai_V) (g : ai_G) : ai_run code call (n + 1) pc loc st g = (match code pc with
    | none => none
    | some o => o call (ai_run code call n) loc st g) := rfl
section RUN
variable {p : Program} {l : Launch} {e : Env} {R : Room} {s : State} {m : MethodId} {args : Array Value} {below : List Frame} {meth : Method} {c : Code} {nL b0 : Nat} {rho : Nat → Int32} {tc dC : Nat → ClassId} {dI : Nat → Nat → Nat} {base : Nat} {ws0 : va_W} {kE sE mk0 ms0 : Nat} {os0 : List ai_O} {Q : State → Prop}
variable {M : ai_M} {L : Nat} {sa : Nat → Nat} {sl : Int × Int} {d : Nat} {call : ai_K}
theorem ai_run_ok (hCx : ai_Cx p l e R s m args below meth c nL b0 rho tc dC dI base ws0 kE sE mk0 ms0 os0 Q M L sa sl d) (hCS : ai_CS l b0 L base rho tc dC dI sa call d) (hck : ai_ckM M = true) : ∀ n, ai_KS p l e R s m args below meth c nL b0 rho tc dC dI base ws0 kE sE mk0 ms0 os0 Q (ai_run (ai_find M.2.2.2.2.2.2 sl) call n) := by
  have hall : ∀ q ∈ M.2.2.2.2.2.2, ai_ck M q.1 q.2 = true ∧ Nat.beq q.1 65535 = false := fun q hq => by
    have h1 := List.all_eq_true.mp hck q hq
    rw [Bool.and_eq_true] at h1
    exact ⟨h1.1, by rw [← Bool.not_eq_true']; exact h1.2⟩
  have h5 : ∀ n, ∀ loc st g, ai_run (ai_find M.2.2.2.2.2.2 sl) call n 65535 loc st g = none := by
    intro n loc st g
    cases n with
    | zero => rfl
    | succ n => rw [ai_run_s, ai_find_no (fun q hq => (hall q hq).2)]
  intro n
  induction n with
  | zero => intro pc loc st g r h; cases h
  | succ n ih =>
    intro pc loc st g r h
    rw [ai_run_s] at h
    cases hf : ai_find M.2.2.2.2.2.2 sl pc with
    | none => rw [hf] at h; cases h
    | some op =>
      rw [hf] at h
      obtain ⟨q, hq, e1, e2⟩ := ai_find_ok hf
      subst e1
      exact op_sound hCx hCS (h5 n) ih (hall q hq).1 e2 h
end RUN
theorem ai_at_eq {α : Type} : ∀ (l1 : List α) (j : Nat), ai_at l1 j = l1[j]?
  | [], _ => rfl
  | _ :: _, 0 => rfl
  | _ :: t, j + 1 => by
    rw [List.getElem?_cons_succ, ← ai_at_eq t j]
    rfl
/-- all arguments are of one word -/
theorem ai_arg_cat {b0 : Nat} {rho : Nat → Int32} {ws : va_W} : ∀ {a : List ai_V} {as : List Value}, ai_SR b0 rho ws a as → a.all (fun v => ai_isr v.1 || Nat.ble v.1 1) = true → ∀ w ∈ as, w.category = 1
  | [], [], _, _ => fun w hw => nomatch hw
  | [], _ :: _, h, _ => by cases h
  | _ :: _, [], h, _ => by cases h
  | v :: a, w :: as, h, hb => by
    rw [List.all_cons, Bool.and_eq_true] at hb
    intro x hx
    rcases List.mem_cons.mp hx with rfl | hx
    · refine h.1.cat ?_
      rcases Bool.or_eq_true_iff.mp hb.1 with q | q
      · intro q2
        rcases q2 with q2 | q2 <;> (rw [q2] at q; cases q)
      · have q : v.1 ≤ 1 := Nat.le_of_ble_eq_true q
        omega
    · exact ai_arg_cat h.2 hb.2 x hx
theorem ai_sl_len : ∀ {as : List Value}, (∀ w ∈ as, w.category = 1) → (lg_sl as).length = as.length
  | [], _ => rfl
  | w :: t, h => by
    have h1 : ¬ w.category = 2 := by rw [h w List.mem_cons_self]; decide
    have ih := ai_sl_len (as := t) (fun x hx => h x (List.mem_cons_of_mem _ hx))
    unfold lg_sl at ih ⊢
    rw [List.flatMap_cons, if_neg h1, List.length_append, ih]
    simp
    omega
theorem ai_lv_args : ∀ {as : List Value} {i k : Nat} {w : Value}, (∀ w ∈ as, w.category = 1) → as[i]? = some w → (k + i, w) ∈ lv_args k as
  | [], i, k, w, _, h => by simp at h
  | v :: t, i, k, w, hc, h => by
    have h1 : ¬ v.category = 2 := by rw [hc v List.mem_cons_self]; decide
    unfold lv_args
    rw [if_neg h1]
    cases i with
    | zero =>
      simp only [List.getElem?_cons_zero, Option.some.injEq] at h
      rw [h]; exact List.mem_cons_self
    | succ i =>
      rw [List.getElem?_cons_succ] at h
      have ih := ai_lv_args (k := k + 1) (fun x hx => hc x (List.mem_cons_of_mem _ hx)) h
      rw [show k + (i + 1) = k + 1 + i by omega]
      exact List.mem_cons_of_mem _ ih
/-- the locals at a method's start -/
theorem ai_entry {b0 : Nat} {rho : Nat → Int32} {ws : va_W} {a : List ai_V} {as : List Value} {n : Nat} (h : ai_SR b0 rho ws a as) (hok : ai_argok a n = true) :
    ai_LR b0 rho ws (ai_pad n a) ((lg_sl as ++ List.replicate (n - (lg_sl as).length) Slot.unset).toArray) n := by
  unfold ai_argok at hok
  rw [Bool.and_eq_true] at hok
  have hn : a.length ≤ n := Nat.le_of_ble_eq_true hok.1
  have hc := ai_arg_cat h hok.2
  have hl := h.len
  have hsl := ai_sl_len hc
  refine ⟨?_, lv_args 0 as, lv_entry as (by omega), fun i v hv h9 => ?_⟩
  · unfold ai_pad
    rw [List.length_append, List.length_replicate]
    omega
  · unfold ai_pad at hv
    by_cases hi : i < a.length
    · rw [List.getElem?_append_left hi] at hv
      obtain ⟨w, q1, q2⟩ := h.at hv
      have hm := ai_lv_args (k := 0) hc q1
      rw [Nat.zero_add] at hm
      exact ⟨w, q2, hc w (List.mem_of_getElem? q1), hm⟩
    · rw [List.getElem?_append_right (by omega)] at hv
      have hm := List.mem_of_getElem? hv
      rw [List.eq_of_mem_replicate hm] at h9
      exact absurd rfl h9
theorem ai_ev_s (sl : Int × Int) (d j : Nat) (a : List ai_V) (g : ai_G) : ai_ev sl (d + 1) j a g = (match ai_at ai_meths j with
    | none => none
    | some M => cond (ai_argok a M.2.2.1) (cm_lim (fun n => ai_run (ai_find M.2.2.2.2.2.2 sl) (ai_ev sl d) n 0 (ai_pad M.2.2.1 a) [] g)) none) := rfl
theorem cm_lim_ok {f : Nat → Option ai_R} {r : ai_R} (h : cm_lim f = some r) : ∃ n, f n = some r := by
  unfold cm_lim at h
  split at h
  · rename_i hex
    cases h
    obtain ⟨n, hn⟩ := Classical.choose_spec hex
    exact ⟨n, hn n (Nat.le_refl _)⟩
  · cases h
theorem ai_name_of {p : Program} {l : Launch} {x : MethodName} {S : Spec} {code9 : ByteArray} {mL : Nat} {ret9 : Option FieldType} {e : Env} {s : State} {m : MethodId} {args : Array Value} {below : List Frame} {meth : Method} {c : Code} {s₁ : State}
    (B : BodyLoose p l x S code9 mL ret9 e s m args below meth c s₁) : meth.name = x.name := by
  exact (name_of_methodNamed B.named B.method).1
section EV
variable {l : Launch} {b0 L base : Nat} {rho : Nat → Int32} {tc dC : Nat → ClassId} {dI : Nat → Nat → Nat} {sa : Nat → Nat} {sl : Int × Int}
theorem ai_ev_ok (hst : l.stackTraces = false) (hD : ai_D rho) (hL : L < 2 ^ 31 ∧ sl.1 ≤ (L : Int) ∧ (L : Int) ≤ sl.2) (hck : ∀ M ∈ ai_meths, ai_ckM M = true) : ∀ d, ai_CS l b0 L base rho tc dC dI sa (ai_ev sl d) d := by
  intro d
  induction d with
  | zero => intro j a g os x1 x2 h; cases h
  | succ d ih =>
    intro j a g os x1 x2 h M hM hj ws as hWR hDw hE hSR
    rw [ai_ev_s, ai_at_eq, hM] at h
    simp only at h
    · cases hok : ai_argok a M.2.2.1 with
      | false => rw [hok] at h; cases h
      | true =>
        rw [hok] at h
        simp only [cond_true] at h
        obtain ⟨nst, h⟩ := cm_lim_ok h
        have hckM := hck M (List.mem_of_getElem? hM)
        have hqe : ∃ qq, ai_mw[j]? = some qq := by
          have hlt : j < ai_meths.length := (List.getElem?_eq_some_iff.mp hM).1
          have hlen : ai_mw.length = ai_meths.length := by decide +kernel
          exact ⟨_, List.getElem?_eq_getElem (by rw [hlen]; exact hlt)⟩
        obtain ⟨qq, hq⟩ := hqe
        have hb := ai_mw_ok hj hM hq
        unfold ai_bWd at hb
        simp only [Bool.and_eq_true] at hb
        have hpl : plainName M.1.cls = true := hb.1.1.1.1.1.2
        have hcn : M.1.cls = ai_cn M.2.2.2.2.1 := of_decide_eq_true hb.1.1.1.1.2
        have key : ∀ (p : Program) (e : Env) (s : State) (m : MethodId) (args : Array Value) (below : List Frame) (meth : Method) (c : Code), p.tables.exec = Jvm.exec → c.code = M.2.1 → c.maxLocals = M.2.2.1 → s.vm.findClass M.1.cls = some m.cls → meth.locks = false → meth.sig.returnType = M.2.2.2.1 → meth.name = M.1.name → c.exceptionTable.toList = tableOf M.2.2.2.2.2.1 → ai_Pc b0 L base rho tc dC dI sa ws as args s →
            W p l e (ai_rm (d + 1) (x1 - ai_kc g) (x2 - ai_ks g)) s m args below meth c s.heap [] 0 0 (vx_MQ below (ai_Qc b0 rho tc dC dI base ws os) (ai_XC b0 rho tc dC dI base ws os) args s (x1 - ai_kc g) (x2 - ai_ks g) (ai_A base)) (entryFrame m args M.2.2.1) := by
          intro p e s m args below meth c hx hbc hml hown hlk hret hname htab hP
          obtain ⟨ha, hPs, hSF⟩ := hP
          have hCx : ai_Cx p l e (ai_rm (d + 1) (x1 - ai_kc g) (x2 - ai_ks g)) s m args below meth c M.2.2.1 b0 rho tc dC dI base ws (ai_kc g) (ai_ks g) x1 x2 os (vx_MQ below (ai_Qc b0 rho tc dC dI base ws os) (ai_XC b0 rho tc dC dI base ws os) args s (x1 - ai_kc g) (x2 - ai_ks g) (ai_A base)) M L sa sl d := by
            refine ⟨⟨hx, hbc, hml, rfl, by rw [← hcn]; exact hown, hlk, hret, hname, htab⟩, hst, hSF, hD, hL, ⟨?_, ?_⟩, rfl, ?_, ?_⟩
            · show x1 ≤ ai_kc g + (x1 - ai_kc g); omega
            · show x2 ≤ ai_ks g + (x2 - ai_ks g); omega
            · show d + 9 ≤ d + 1 + 8; omega
            · show 60 * d + 360 ≤ 60 * (d + 1) + 300
              rw [Nat.mul_add, Nat.add_assoc]
              exact Nat.le_refl _
          have hrun := ai_run_ok hCx ih hckM nst 0 (ai_pad M.2.2.1 a) [] g (os, x1, x2) h
          rw [ha, lg_entry_eq]
          rw [ha] at hrun
          exact hrun.2 (fun o ho => ho) (Nat.le_refl _) (Nat.le_refl _) s.heap [] 0 0 _ [] ws ⟨ai_AD.rf, ai_entry hSR hok, trivial, hWR, hPs, hDw, va_S.rf, hE, rfl, rfl⟩
        cases hhs : M.2.2.2.2.2.1 with
        | nil =>
          rw [ai_code_nil hhs]
          refine vx_ofW (cc := M.2.1) (maxL := M.2.2.1) (ret := M.2.2.2.1) hpl rfl fun p e s m args below meth c s₁ B hml ht hP => ?_
          refine key p e s m args below meth c B.exec B.bytes hml (findClass_of_methodNamed B.named) B.notSynchronized B.returns (ai_name_of B) ?_ hP
          rw [hhs]
          cases hl9 : c.exceptionTable.toList with
          | nil => rfl
          | cons x t => exact absurd (ht x (by rw [hl9]; exact List.mem_cons_self)) id
        | cons q t =>
          have hne : M.2.2.2.2.2.1 ≠ [] := by rw [hhs]; exact List.cons_ne_nil _ _
          rw [ai_code_cons hne]
          refine vx_ofWH (cc := M.2.1) (maxL := M.2.2.1) (ret := M.2.2.2.1) (hh := M.2.2.2.2.2.1) hpl rfl fun p e s m args below meth c s₁ B hml hP => ?_
          exact key p e s m args below meth c B.exec B.bytes hml (findClass_of_methodNamed B.named) B.notSynchronized B.returns (ai_name_of B) (vx_table (x := M.1) B (atoms_spec (ws := [Cond.codeWith M.1 M.2.1 M.2.2.1 M.2.2.2.1 M.2.2.2.2.2.1]) B.pre _ (List.mem_singleton.mpr rfl))) hP
end EV
