theorem ai_copy_ok {l : Launch} {b0 L base : Nat} {rho : Nat → Int32} {tc dC : Nat → ClassId} {dI : Nat → Nat → Nat} {sa : Nat → Nat} : ai_CA l b0 L base rho tc dC dI sa := by
  intro d a g os x1 x2 h M hM ws as hWR hDw hE hSR
  rw [ai_jca_at] at hM
  cases hM
  unfold ai_sum at h
  match a, h, hSR with
  | [], h, _ => cases h
  | [_], h, _ => cases h
  | [_, _], h, _ => cases h
  | _ :: _ :: _ :: _ :: _, h, _ => cases h
  | [r, x, y], h, hSR =>
    simp only at h
    obtain ⟨gh, gx⟩ := g
    obtain ⟨gn, gy⟩ := gx
    cases hc0 : ai_cell (gh, gn, gy) r with
    | none => rw [hc0] at h; cases h
    | some q0 =>
      obtain ⟨i0, t, c0, fs, z0⟩ := q0
      rw [hc0] at h
      simp only at h
      cases hcd : (Nat.beq t 0 && Nat.beq c0 8 && Nat.blt 2 fs.length) with
      | false => rw [hcd] at h; cases h
      | true =>
        rw [hcd] at h
        simp only [cond_true] at h
        simp only [Bool.and_eq_true] at hcd
        have e1 : t = 0 := Nat.eq_of_beq_eq_true hcd.1.1
        have e2 : c0 = 8 := Nat.eq_of_beq_eq_true hcd.1.2
        have e3 : 2 < fs.length := Nat.le_of_ble_eq_true hcd.2
        subst e1 e2
        cases hc2 : ai_cell (gh, gn, gy) (ai_nth ai_un fs 2) with
        | none => rw [hc2] at h; cases h
        | some q2 =>
          obtain ⟨i2, t2, n, dd, us9⟩ := q2
          rw [hc2] at h
          simp only at h
          cases hcd2 : (Nat.beq t2 1 && us9.isEmpty && ai_z0 (ai_nth ai_un dd 0) && Nat.ble 531200 n) with
          | false => rw [hcd2] at h; cases h
          | true =>
            rw [hcd2] at h
            simp only [cond_true] at h
            simp only [Bool.and_eq_true] at hcd2
            obtain ⟨⟨⟨k1, k2⟩, k3⟩, k4⟩ := hcd2
            have k1 : t2 = 1 := Nat.eq_of_beq_eq_true k1
            have k2 : us9 = [] := List.isEmpty_iff.mp k2
            have k4 : 531200 ≤ n := Nat.le_of_ble_eq_true k4
            subst k1 k2
            cases ho1 : ai_one (ai_x (gh, gn, gy)) x with
            | none => rw [ho1] at h; cases h
            | some cx =>
              cases ho2 : ai_one (ai_x (gh, gn, gy)) y with
              | none => rw [ho1, ho2] at h; cases h
              | some cy =>
                rw [ho1, ho2] at h
                simp only at h
                cases hcd3 : (ai_ile 0 cx && ai_ile cx 3199 && ai_ile 0 cy && ai_ile cy 3199) with
                | false => rw [hcd3] at h; cases h
                | true =>
                  rw [hcd3] at h
                  simp only [Bool.and_eq_true, ai_ile_iff] at hcd3
                  obtain ⟨⟨⟨m1, m2⟩, m3⟩, m4⟩ := hcd3
                  have h : some ([(0, ai_nul, (gh, gn, gy))], ai_kc (gh, gn, gy), ai_ks (gh, gn, gy)) = some (os, x1, x2) := h
                  cases h
                  obtain ⟨w0, r1, rfl, p0, hSR⟩ := hSR.cons
                  obtain ⟨w1, r2, rfl, p1, hSR⟩ := hSR.cons
                  obtain ⟨w2, r3, rfl, p2, hSR⟩ := hSR.cons
                  rw [hSR.nil]
                  obtain ⟨b, e0, rfl, hw0, -, -, hRC0⟩ := ai_cell_ok (x := gy) hWR hc0 p0
                  obtain ⟨us, rfl, hSRf⟩ := hRC0.obj rfl
                  have hk2 : fs[2]? = some (ai_nth ai_un fs 2) := by rw [ai_nth_eq, List.getElem?_eq_getElem e3]; rfl
                  obtain ⟨wd, hu2, pd⟩ := hSRf.at hk2
                  obtain ⟨a2, e9, rfl, hw2, -, -, hRC2⟩ := ai_cell_ok (x := gy) hWR hc2 pd
                  obtain ⟨xv, rfl, nx⟩ := p1.int (ai_one_none (rho := rho) ho1)
                  obtain ⟨yv, rfl, ny⟩ := p2.int (ai_one_none (rho := rho) ho2)
                  have hxc := (ai_one_ok hE nx ho1).1
                  have hyc := (ai_one_ok hE ny ho2).1
                  rcases hRC2 with ⟨q, -⟩ | ⟨-, -, f, rfl, hf⟩ | ⟨q, -⟩ | ⟨q, -⟩
                  · cases q
                  · have hf0 : ∀ j, j < n → f j = 0 := by
                      intro j hj
                      have h1 := hf j hj
                      have e5 : ai_el (1, n, dd, []) j = ai_nth ai_un dd 0 := rfl
                      rw [e5] at h1
                      unfold ai_z0 at k3
                      simp only [Bool.and_eq_true, ai_ieq_iff] at k3
                      have k5 : (ai_nth ai_un dd 0).1 = 0 := Nat.eq_of_beq_eq_true k3.1.1
                      obtain ⟨z, hz, nz⟩ := h1.int (by omega)
                      cases hz
                      rcases nz with ⟨-, q1, q2⟩ | ⟨q1, -⟩
                      · apply Int32.toInt_inj.mp
                        have e6 : (ai_nth ai_un dd 0).2.1 = 0 := k3.1.2
                        have e7 : (ai_nth ai_un dd 0).2.2 = 0 := k3.2
                        show (f j).toInt = 0
                        omega
                      · omega
                    show vx_Met l _ [Cond.code _ _ _ _] _ _ _ _ _ _ _
                    refine vx_ofW (cc := ai_m115.2.1) (maxL := 4) (ret := none) (by decide +kernel) rfl fun p e s m args below meth c s₁ B hml ht hP => ?_
                    obtain ⟨ha, hPs, hSF⟩ := hP
                    have hown : s.vm.findClass (ai_cn 8) = some m.cls := findClass_of_methodNamed B.named
                    rw [ha, lg_entry_eq]
                    have hl0 := lv_entry [Value.ref b, .int xv, .int yv] (n := 4) (show 3 ≤ 4 by decide)
                    refine lv_iconst B.exec B.bytes (n := 0) (v := 0) (by decide +kernel) rfl ?_
                    refine lv_istore_n B.exec B.bytes (k := 3) (i := 3) (nL := 4) (by decide +kernel) rfl hl0 (by decide) rfl fun ls' hl' => ?_
                    rw [← ha]
                    refine ai_copy_loop (l := l) B.exec B.bytes hown hSF.1 hSF.2.1 hw0 hu2 hw2 hf0 k4 hxc hyc m1 m2 m3 m4 (fun {H locs ls} hPe hSe => ?_) 166 0 rfl s.heap [] ls' hPs hDw va_S.rf hl'
                    refine W.widen (k := ai_kc (gh, gn, gy) - ai_kc (gh, gn, gy)) (n := ai_ks (gh, gn, gy) - ai_ks (gh, gn, gy)) (Nat.zero_le _) (Nat.zero_le _) (vx_ret (W.vret B.exec B.bytes B.returns (fun t ht9 hW => ?_) hSe.2.2 (by decide +kernel) B.notSynchronized))
                    exact ⟨_, List.mem_singleton.mpr rfl, ws, ⟨ai_AD.rf, hWR, by rw [ht9]; exact hPe, hDw, hE, hSe.F ht9⟩, Or.inl ⟨rfl, rfl⟩⟩
                  · cases q
                  · rcases q with q | q | q <;> cases q
