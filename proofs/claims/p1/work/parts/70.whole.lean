/-! ===== the whole law ===== -/
theorem ai_flb (z : Int32) : ai_fl.1 ≤ z.toInt ∧ z.toInt ≤ ai_fl.2 := by
  have h := ai_le32 z
  exact ⟨by show ai_lo ≤ _; rw [ai_lo_eq]; exact h.1, by show _ ≤ ai_hi; rw [ai_hi_eq]; exact h.2⟩
theorem ai_EV8 {rho : Nat → Int32} : ai_EV rho ai_full8 := fun k => match k with
  | 0 => ai_flb _
  | 1 => ai_flb _
  | 2 => ai_flb _
  | 3 => ai_flb _
  | 4 => ai_flb _
  | 5 => ai_flb _
  | 6 => ai_flb _
  | 7 => ai_flb _
  | _ + 8 => ai_flb _
theorem ai_EV9 {rho : Nat → Int32} {e1 e2 e8 : Int × Int} (h1 : e1.1 ≤ (rho 1).toInt ∧ (rho 1).toInt ≤ e1.2) (h2 : e2.1 ≤ (rho 2).toInt ∧ (rho 2).toInt ≤ e2.2) (h8 : e8.1 ≤ (rho 8).toInt ∧ (rho 8).toInt ≤ e8.2) : ai_EV rho [ai_fl, e1, e2, ai_fl, ai_fl, ai_fl, ai_fl, ai_fl, e8] := fun k => match k with
  | 0 => ai_flb _
  | 1 => h1
  | 2 => h2
  | 3 => ai_flb _
  | 4 => ai_flb _
  | 5 => ai_flb _
  | 6 => ai_flb _
  | 7 => ai_flb _
  | 8 => h8
  | _ + 9 => ai_flb _
theorem whole_start (l : Launch) (hst : l.stackTraces = false) {p : Program} {e : Env} {s : State} {m : MethodId} {below : List Frame} {meth : Method} {c : Code} {b L : Nat} {xs : Nat → Int32} (hnm : meth.name = "law") (htab : c.exceptionTable.toList = []) (hL6 : L ≤ 6) (hA : lw_At p s m meth c b L xs) :
    W p l e room_1 s m #[Value.ref b] below meth c s.heap [] 0 0 (lw_Z below #[Value.ref b] s) (entryFrame m ([Value.ref b] : List Value).toArray 7) := by
  by_cases hl : L < 6
  · exact ai_law_start l hst hnm htab hL6 hA (sl := (0, 5)) (x := ai_full8) ⟨by show (0 : Int) ≤ _; omega, by show _ ≤ (5 : Int); omega⟩ ai_EV8 ev_short
  · have go : ∀ (e1 e2 : Int × Int) (k : Int), (e1.1 ≤ (ai_rho xs 1).toInt ∧ (ai_rho xs 1).toInt ≤ e1.2) → (e2.1 ≤ (ai_rho xs 2).toInt ∧ (ai_rho xs 2).toInt ≤ e2.2) → (ai_rho xs 8).toInt = k → ai_yes (ai_law (6, 6) [ai_fl, e1, e2, ai_fl, ai_fl, ai_fl, ai_fl, ai_fl, (k, k)]) = true →
        W p l e room_1 s m #[Value.ref b] below meth c s.heap [] 0 0 (lw_Z below #[Value.ref b] s) (entryFrame m ([Value.ref b] : List Value).toArray 7) := fun e1 e2 k h1 h2 h8 hy =>
      ai_law_start l hst hnm htab hL6 hA (sl := (6, 6)) ⟨by show (6 : Int) ≤ _; omega, by show _ ≤ (6 : Int); omega⟩ (ai_EV9 h1 h2 ⟨by show k ≤ _; omega, by show _ ≤ k; omega⟩) hy
    have hm := ai_and_mask (xs 0) (b := 31) (by decide) (by decide)
    have h8 : ai_rho xs 8 = xs 0 &&& Int32.ofInt 31 := rfl
    rw [← h8] at hm
    obtain ⟨n, hn⟩ : ∃ n : Nat, (ai_rho xs 8).toInt = (n : Int) := ⟨(ai_rho xs 8).toInt.toNat, by omega⟩
    have hn32 : n < 32 := by omega
    have f1 := ai_flb (ai_rho xs 1)
    have f2 := ai_flb (ai_rho xs 2)
    have b2 := ai_le32 (ai_rho xs 2)
    have b1 := ai_le32 (ai_rho xs 1)
    match n, hn, hn32 with
    | 0, hn, _ => exact go ai_fl ai_fl 0 f1 f2 hn ev_0
    | 1, hn, _ => exact go ai_fl ai_fl 1 f1 f2 hn ev_1
    | 2, hn, _ =>
      by_cases q0 : (ai_rho xs 1).toInt < 0
      · exact go (ai_lo, -1) ai_fl 2 ⟨f1.1, by show _ ≤ (-1 : Int); omega⟩ f2 hn ev_2a
      · skip
        by_cases q1 : (ai_rho xs 1).toInt = 0
        · by_cases w0 : (ai_rho xs 2).toInt < 0
          · exact go (0, 0) (ai_lo, -1) 2 ⟨by show (0 : Int) ≤ _; omega, by show _ ≤ (0 : Int); omega⟩ ⟨f2.1, by show _ ≤ (-1 : Int); omega⟩ hn ev_2bp
          · skip
            by_cases w1 : (ai_rho xs 2).toInt = 0
            · exact go (0, 0) (0, 0) 2 ⟨by show (0 : Int) ≤ _; omega, by show _ ≤ (0 : Int); omega⟩ ⟨by show (0 : Int) ≤ _; omega, by show _ ≤ (0 : Int); omega⟩ hn ev_2bq
            · skip
              by_cases w2 : (ai_rho xs 2).toInt = 1
              · exact go (0, 0) (1, 1) 2 ⟨by show (0 : Int) ≤ _; omega, by show _ ≤ (0 : Int); omega⟩ ⟨by show (1 : Int) ≤ _; omega, by show _ ≤ (1 : Int); omega⟩ hn ev_2br
              · skip
                by_cases w3 : (ai_rho xs 2).toInt = 2
                · exact go (0, 0) (2, 2) 2 ⟨by show (0 : Int) ≤ _; omega, by show _ ≤ (0 : Int); omega⟩ ⟨by show (2 : Int) ≤ _; omega, by show _ ≤ (2 : Int); omega⟩ hn ev_2bs
                · skip
                  exact go (0, 0) (3, ai_hi) 2 ⟨by show (0 : Int) ≤ _; omega, by show _ ≤ (0 : Int); omega⟩ ⟨by show (3 : Int) ≤ _; omega, f2.2⟩ hn ev_2bt
        · skip
          by_cases q2 : (ai_rho xs 1).toInt = 1
          · by_cases w0 : (ai_rho xs 2).toInt < 0
            · exact go (1, 1) (ai_lo, -1) 2 ⟨by show (1 : Int) ≤ _; omega, by show _ ≤ (1 : Int); omega⟩ ⟨f2.1, by show _ ≤ (-1 : Int); omega⟩ hn ev_2cp
            · skip
              by_cases w1 : (ai_rho xs 2).toInt = 0
              · exact go (1, 1) (0, 0) 2 ⟨by show (1 : Int) ≤ _; omega, by show _ ≤ (1 : Int); omega⟩ ⟨by show (0 : Int) ≤ _; omega, by show _ ≤ (0 : Int); omega⟩ hn ev_2cq
              · skip
                by_cases w2 : (ai_rho xs 2).toInt = 1
                · exact go (1, 1) (1, 1) 2 ⟨by show (1 : Int) ≤ _; omega, by show _ ≤ (1 : Int); omega⟩ ⟨by show (1 : Int) ≤ _; omega, by show _ ≤ (1 : Int); omega⟩ hn ev_2cr
                · skip
                  by_cases w3 : (ai_rho xs 2).toInt = 2
                  · exact go (1, 1) (2, 2) 2 ⟨by show (1 : Int) ≤ _; omega, by show _ ≤ (1 : Int); omega⟩ ⟨by show (2 : Int) ≤ _; omega, by show _ ≤ (2 : Int); omega⟩ hn ev_2cs
                  · skip
                    exact go (1, 1) (3, ai_hi) 2 ⟨by show (1 : Int) ≤ _; omega, by show _ ≤ (1 : Int); omega⟩ ⟨by show (3 : Int) ≤ _; omega, f2.2⟩ hn ev_2ct
          · skip
            exact go (2, ai_hi) ai_fl 2 ⟨by show (2 : Int) ≤ _; omega, f1.2⟩ f2 hn ev_2d
    | 3, hn, _ => exact go ai_fl ai_fl 3 f1 f2 hn ev_3
    | 4, hn, _ => exact go ai_fl ai_fl 4 f1 f2 hn ev_4
    | 5, hn, _ =>
      by_cases q0 : (ai_rho xs 1).toInt < 0
      · exact go (ai_lo, -1) ai_fl 5 ⟨f1.1, by show _ ≤ (-1 : Int); omega⟩ f2 hn ev_5a
      · skip
        by_cases q1 : (ai_rho xs 1).toInt = 0
        · exact go (0, 0) ai_fl 5 ⟨by show (0 : Int) ≤ _; omega, by show _ ≤ (0 : Int); omega⟩ f2 hn ev_5b
        · skip
          by_cases q2 : (ai_rho xs 1).toInt = 1
          · exact go (1, 1) ai_fl 5 ⟨by show (1 : Int) ≤ _; omega, by show _ ≤ (1 : Int); omega⟩ f2 hn ev_5c
          · skip
            exact go (2, ai_hi) ai_fl 5 ⟨by show (2 : Int) ≤ _; omega, f1.2⟩ f2 hn ev_5d
    | 6, hn, _ => exact go ai_fl ai_fl 6 f1 f2 hn ev_6
    | 7, hn, _ => exact go ai_fl ai_fl 7 f1 f2 hn ev_7
    | 8, hn, _ => exact go ai_fl ai_fl 8 f1 f2 hn ev_8
    | 9, hn, _ => exact go ai_fl ai_fl 9 f1 f2 hn ev_9
    | 10, hn, _ => exact go ai_fl ai_fl 10 f1 f2 hn ev_10
    | 11, hn, _ => exact go ai_fl ai_fl 11 f1 f2 hn ev_11
    | 12, hn, _ => exact go ai_fl ai_fl 12 f1 f2 hn ev_12
    | 13, hn, _ => exact go ai_fl ai_fl 13 f1 f2 hn ev_13
    | 14, hn, _ => exact go ai_fl ai_fl 14 f1 f2 hn ev_14
    | 15, hn, _ => exact go ai_fl ai_fl 15 f1 f2 hn ev_15
    | 16, hn, _ => exact go ai_fl ai_fl 16 f1 f2 hn ev_16
    | 17, hn, _ => exact go ai_fl ai_fl 17 f1 f2 hn ev_17
    | 18, hn, _ => exact go ai_fl ai_fl 18 f1 f2 hn ev_18
    | 19, hn, _ => exact go ai_fl ai_fl 19 f1 f2 hn ev_19
    | 20, hn, _ => exact go ai_fl ai_fl 20 f1 f2 hn ev_20
    | 21, hn, _ => exact go ai_fl ai_fl 21 f1 f2 hn ev_21
    | 22, hn, _ => exact go ai_fl ai_fl 22 f1 f2 hn ev_22
    | 23, hn, _ => exact go ai_fl ai_fl 23 f1 f2 hn ev_23
    | 24, hn, _ => exact go ai_fl ai_fl 24 f1 f2 hn ev_24
    | 25, hn, _ => exact go ai_fl ai_fl 25 f1 f2 hn ev_25
    | 26, hn, _ => exact go ai_fl ai_fl 26 f1 f2 hn ev_26
    | 27, hn, _ => exact go ai_fl ai_fl 27 f1 f2 hn ev_27
    | 28, hn, _ => exact go ai_fl ai_fl 28 f1 f2 hn ev_28
    | 29, hn, _ => exact go ai_fl ai_fl 29 f1 f2 hn ev_29
    | 30, hn, _ => exact go ai_fl ai_fl 30 f1 f2 hn ev_30
    | 31, hn, _ => exact go ai_fl ai_fl 31 f1 f2 hn ev_31
    | n + 32, _, h => omega
