/-! ===== the words of the throws ===== -/
def ai_thn : List String := ["java/lang/RuntimeException", "java/lang/Exception"]
def ai_ix (k : Nat) : Nat := if k = 2 then 13 else 7
def ai_rx (k : Nat) : ByteArray := if k = 2 then ⟨#[0x2a, 0x2b, 0xb7, 0x00, 0x0d, 0xb1]⟩ else ⟨#[0x2a, 0x2b, 0xb7, 0x00, 0x07, 0xb1]⟩
theorem ai_rx_ok {k : Nat} (h : k = 2 ∨ k = 3) : decode (ai_rx k) 0 = .ok (.aload_n 0, 1) ∧ decode (ai_rx k) 1 = .ok (.aload_n 1, 1) ∧ decode (ai_rx k) 2 = .ok (.invokespecial (ai_ix k), 3) ∧ decode (ai_rx k) 5 = .ok (.return_, 1) := by
  rcases h with rfl | rfl
  · exact ⟨by decide +kernel, by decide +kernel, by decide +kernel, by decide +kernel⟩
  · exact ⟨by decide +kernel, by decide +kernel, by decide +kernel, by decide +kernel⟩
def ai_bTw (q : Nat × Nat × Nat) : Bool := match q with
  | (oc, ic, k) => (ai_atX (ai_cn oc) ic (ai_exc k) (ai_ix k) (ai_rx k) ai_thn).all (fun w => decide (w ∈ lw_tbl) && w.onTables && vx_ot w)
theorem ai_bTw_ok : ai_ltw.all ai_bTw = true := by decide +kernel
def ai_bTh (q : Nat × Nat × Nat × Nat × Nat × Nat × Nat) : Bool := match q with
  | (oc, ik, k, k1, is, ic, pos) => ai_tw pos (.classLink (ai_cn oc) ik (ai_exc k)) && (Nat.beq k 2 || Nat.beq k 3) && (match ai_strs[k1]? with
    | some (o, i, _) => decide (o = ai_cn oc) && Nat.beq i is
    | none => false) && ai_bTw (oc, ic, k)
theorem ai_bTh_ok : ai_lth.all (fun q => match q with
  | (oc, ik, k, k1, is, ic, pos) => ai_tw pos (.classLink (ai_cn oc) ik (ai_exc k)) && (Nat.beq k 2 || Nat.beq k 3) && (match ai_strs[k1]? with
    | some (o, i, _) => decide (o = ai_cn oc) && Nat.beq i is
    | none => false) && ai_ltw.any (fun z => Nat.beq z.1 oc && Nat.beq z.2.1 ic && Nat.beq z.2.2 k)) = true := by decide +kernel
theorem ai_bTi : (ai_tw 14 (.initialized (ai_exc 2)) && ai_tw 12 (.initialized (ai_exc 3))) = true := by decide +kernel
theorem ai_bTf : (Bundle.fit (ai_exc 2) && Bundle.fit (ai_exc 3) && ai_thn.all Bundle.fit) = true := by decide +kernel
theorem ai_bTo : ∀ (o : String) (i : Nat) (k : Nat), vx_ot (Cond.classLink o i (ai_exc k)) = true ∧ vx_ot (Cond.initialized (ai_exc k)) = true := fun _ _ _ => ⟨rfl, rfl⟩
