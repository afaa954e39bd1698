/-! ===== PenPageModel.copy over a row of zeros ===== -/
theorem ai_jca_at : ai_meths[ai_jca]? = some ai_m115 := rfl
theorem ai_idx {y : Int32} {cy : Int} {i : Nat} (hy : y.toInt = cy) (h0 : 0 ≤ cy) (h1 : cy ≤ 3199) (hi : i < 166) : (166 * y + Int32.ofNat i).toInt = 166 * cy + (i : Int) := by
  have e1 : y = Int32.ofInt cy := by rw [← hy, Int32.ofInt_toInt]
  have e2 : (166 : Int32) = Int32.ofInt 166 := rfl
  have e3 : Int32.ofNat i = Int32.ofInt (i : Int) := by
    apply Int32.toInt_inj.mp
    rw [ai_of_lt (by omega) (by omega), Int32.toInt_ofNat_of_lt (by omega)]
  rw [e1, e2, e3, ← Int32.ofInt_mul, ← Int32.ofInt_add, ai_of_lt (by omega) (by omega)]
theorem ai_vin {z : Int32} {v : Int} {n : Nat} (h : z.toInt = v) (h0 : 0 ≤ v) (h1 : v < (n : Int)) : vp_in z n := by
  unfold vp_in
  rintro (q | q)
  · rw [Int32.lt_iff_toInt_lt] at q
    have q : z.toInt < 0 := q
    omega
  · have q : n ≤ z.toInt.toNat := q
    omega
section CPY
variable {p : Program} {l : Launch} {e : Env} {R : Room} {s : State} {m : MethodId} {args : Array Value} {below : List Frame} {meth : Method} {c : Code} {Q : State → Prop} {tc dC : Nat → ClassId} {dI : Nat → Nat → Nat} {base : Nat} {ws : va_W}
theorem ai_copy_loop (hx : p.tables.exec = Jvm.exec) (hb : c.code = prog_10_method_9_code) (hown : s.vm.findClass (ai_cn 8) = some m.cls) (hA : ai_AW s) (hV : va_K (dC, dI) vwCl (ai_tys tc) s) {b a2 i0 i2 n : Nat} {us : List Value} {f : Nat → Int32} {x y : Int32} {cx cy : Int}
    (hw0 : ws[i0]? = some (b, .inr (8, us))) (hu2 : us[2]? = some (.ref a2)) (hw2 : ws[i2]? = some (a2, .inl (tc 1, n, .inl f))) (hf : ∀ j, j < n → f j = 0) (hn : 531200 ≤ n) (hxc : x.toInt = cx) (hyc : y.toInt = cy) (hx0 : 0 ≤ cx) (hx1 : cx ≤ 3199) (hy0 : 0 ≤ cy) (hy1 : cy ≤ 3199)
    (hend : ∀ {H : Heap} {locs : List Loc} {ls : Array Slot}, va_P (dC, dI) vwCl ws H → va_S (ai_A base) s.heap H locs → W p l e R s m args below meth c H locs 0 0 Q (F0 m 39 ls [])) :
    ∀ (k i : Nat), i + k = 166 → ∀ (H : Heap) (locs : List Loc) (ls : Array Slot), va_P (dC, dI) vwCl ws H → va_D (ai_A base) ws → va_S (ai_A base) s.heap H locs → lv_has ls 4 [(3, .int (Int32.ofNat i)), (0, .ref b), (1, .int x), (2, .int y)] → W p l e R s m args below meth c H locs 0 0 Q (F0 m 2 ls []) := by
  intro k
  have hlink : (Cond.fieldLink (ai_cn 8) 14 (TX8 2).1 (TX8 2).2.1 (TX8 2).2.2.1).before args s = true := hA.use (ai_tw_in (i := 958) (by decide +kernel)) rfl args
  have hcl : vwCl[8]? = some (RX8, TX8, 38) := rfl
  induction k with
  | zero =>
    intro i hi H locs ls hP hD hS hl
    refine lv_iload_n hx hb (k := 3) (i := 3) (by decide +kernel) rfl (lv_at hl 0 rfl) ?_
    refine lv_sipush hx hb (n := 166) (v := 166) (by decide +kernel) rfl ?_
    refine lv_icmp_ge hx hb (off := 33) (tgt := 39) (by decide +kernel) rfl (fun _ => hend hP hS) (fun q => ?_)
    exfalso
    apply q
    have e1 : i = 166 := by omega
    subst e1
    decide
  | succ k ih =>
    intro i hi H locs ls hP hD hS hl
    refine lv_iload_n hx hb (k := 3) (i := 3) (by decide +kernel) rfl (lv_at hl 0 rfl) ?_
    refine lv_sipush hx hb (n := 166) (v := 166) (by decide +kernel) rfl ?_
    refine lv_icmp_ge hx hb (off := 33) (tgt := 39) (by decide +kernel) rfl (fun _ => hend hP hS) (fun q => ?_)
    have hi6 : i < 166 := by omega
    have ex := ai_idx hxc hx0 hx1 hi6
    have ey := ai_idx hyc hy0 hy1 hi6
    have vx : vp_in (166 * x + Int32.ofNat i) n := ai_vin ex (by omega) (by omega)
    have vy : vp_in (166 * y + Int32.ofNat i) n := ai_vin ey (by omega) (by omega)
    have lx : (166 * x + Int32.ofNat i).toNatClampNeg < n := Nat.not_le.mp fun z => vx (Or.inr z)
    have ly : (166 * y + Int32.ofNat i).toNatClampNeg < n := Nat.not_le.mp fun z => vy (Or.inr z)
    refine lv_aload_n hx hb (k := 0) (i := 0) (by decide +kernel) rfl (lv_at hl 1 rfl) ?_
    refine va_get (T := TX8) (Ts := u_ws RX8 TX8 38) hx hb (ai_uw hA hcl) (fun w hw => hw) hown hV hP i0 hw0 hcl 2 (by decide) hlink (fun _ h9 => h9) hu2 (by decide +kernel) ?_
    refine lv_sipush hx hb (n := 166) (v := 166) (by decide +kernel) rfl ?_
    refine lv_iload_n hx hb (k := 2) (i := 2) (by decide +kernel) rfl (lv_at hl 3 rfl) ?_
    refine lv_imul hx hb (by decide +kernel) ?_
    refine lv_iload_n hx hb (k := 3) (i := 3) (by decide +kernel) rfl (lv_at hl 0 rfl) ?_
    refine lv_iadd hx hb (by decide +kernel) ?_
    refine lv_aload_n hx hb (k := 0) (i := 0) (by decide +kernel) rfl (lv_at hl 1 rfl) ?_
    refine va_get (T := TX8) (Ts := u_ws RX8 TX8 38) hx hb (ai_uw hA hcl) (fun w hw => hw) hown hV hP i0 hw0 hcl 2 (by decide) hlink (fun _ h9 => h9) hu2 (by decide +kernel) ?_
    refine lv_sipush hx hb (n := 166) (v := 166) (by decide +kernel) rfl ?_
    refine lv_iload_n hx hb (k := 1) (i := 1) (by decide +kernel) rfl (lv_at hl 2 rfl) ?_
    refine lv_imul hx hb (by decide +kernel) ?_
    refine lv_iload_n hx hb (k := 3) (i := 3) (by decide +kernel) rfl (lv_at hl 0 rfl) ?_
    refine lv_iadd hx hb (by decide +kernel) ?_
    refine va_iald hx hb hV hP i2 0 hw2 rfl vx (by decide +kernel) ?_
    refine va_iast hx hb hV hP hD hS i2 0 hw2 rfl vy (by decide +kernel) fun H1 locs1 hP1 hD1 hS1 => ?_
    have eu : upd f (166 * y + Int32.ofNat i).toNatClampNeg (f (166 * x + Int32.ofNat i).toNatClampNeg) = f := by
      funext j
      unfold upd
      by_cases hj : j = (166 * y + Int32.ofNat i).toNatClampNeg
      · rw [if_pos hj, hf _ lx, hj, hf _ ly]
      · rw [if_neg hj]
    have ew : ws.set i2 (a2, .inl (tc 1, n, .inl (upd f (166 * y + Int32.ofNat i).toNatClampNeg (f (166 * x + Int32.ofNat i).toNatClampNeg)))) = ws := by
      rw [eu]
      apply List.ext_getElem?
      intro j
      by_cases hj : j = i2
      · rw [hj, hw2, List.getElem?_set_self (List.getElem?_eq_some_iff.mp hw2).1]
      · rw [List.getElem?_set_ne (fun z => hj z.symm)]
    rw [ew] at hP1 hD1
    refine lv_iinc hx hb (i := 3) (n := 1) (k := 0) (nL := 4) (by decide +kernel) hl rfl rfl (by decide) rfl fun ls' hl' => ?_
    refine lv_goto hx hb (off := -34) (tgt := 2) (by decide +kernel) rfl ?_
    refine ih (i + 1) (by omega) H1 locs1 ls' hP1 hD1 hS1 ?_
    have e1 : Int32.ofNat i + Int32.ofInt 1 = Int32.ofNat (i + 1) := by
      rw [Int32.ofNat_add]
      rfl
    rw [e1] at hl'
    exact hl'
end CPY
