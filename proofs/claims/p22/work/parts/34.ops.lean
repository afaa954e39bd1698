/-! ===== the simple instructions ===== -/
section OPS
variable {p : Program} {l : Launch} {e : Env} {R : Room} {s : State} {m : MethodId} {args : Array Value} {below : List Frame} {meth : Method} {c : Code} {nL b0 : Nat} {rho : Nat → Int32} {tc dC : Nat → ClassId} {dI : Nat → Nat → Nat} {base : Nat} {ws0 : va_W} {kE sE mk0 ms0 : Nat} {os0 : List ai_O} {Q : State → Prop}
variable {cc : ByteArray} {call : ai_K} {K : ai_K4} {pc npc : Nat} {loc st : List ai_V} {g : ai_G} {r : ai_R}
theorem so_const {n : Int} {v : Int32} (hv : v.toInt = n) (row : ∀ {H : Heap} {locs : List Loc} {cells slots : Nat} {ls : Array Slot} {rest : List Value}, W p l e R s m args below meth c H locs cells slots Q (F0 m npc ls (.int v :: rest)) → W p l e R s m args below meth c H locs cells slots Q (F0 m pc ls rest))
    (hK : ai_KS p l e R s m args below meth c nL b0 rho tc dC dI base ws0 kE sE mk0 ms0 os0 Q K) (h : ai_o_const n npc call K loc st g = some r) : ai_At p l e R s m args below meth c nL b0 rho tc dC dI base ws0 kE sE mk0 ms0 os0 Q pc loc st g r :=
  ai_At.step (hK _ _ _ _ _ h) ⟨Nat.le_refl _, Nat.le_refl _⟩ fun H locs cells slots ls vs ws ⟨f0, f1, f2, f3⟩ _ _ kk => row (kk _ _ _ _ _ _ ws ⟨f0, f1, ⟨ai_Rv.mkI (ai_num_i hv), f2⟩, f3⟩)
theorem so_lconst {n : Int} {v : Int64} {z : Int32} (hv : z.toInt = n) (hz : z.toInt64 = v) (row : ∀ {H : Heap} {locs : List Loc} {cells slots : Nat} {ls : Array Slot} {rest : List Value}, W p l e R s m args below meth c H locs cells slots Q (F0 m npc ls (.long v :: rest)) → W p l e R s m args below meth c H locs cells slots Q (F0 m pc ls rest))
    (hK : ai_KS p l e R s m args below meth c nL b0 rho tc dC dI base ws0 kE sE mk0 ms0 os0 Q K) (h : ai_o_lconst n npc call K loc st g = some r) : ai_At p l e R s m args below meth c nL b0 rho tc dC dI base ws0 kE sE mk0 ms0 os0 Q pc loc st g r :=
  ai_At.step (hK _ _ _ _ _ h) ⟨Nat.le_refl _, Nat.le_refl _⟩ fun H locs cells slots ls vs ws ⟨f0, f1, f2, f3⟩ _ _ kk => row (kk _ _ _ _ _ _ ws ⟨f0, f1, ⟨Or.inr (Or.inr (Or.inr (Or.inl ⟨Or.inl rfl, z, by rw [hz], ai_num_i hv⟩))), f2⟩, f3⟩)
theorem so_null (row : ∀ {H : Heap} {locs : List Loc} {cells slots : Nat} {ls : Array Slot} {rest : List Value}, W p l e R s m args below meth c H locs cells slots Q (F0 m npc ls (.null :: rest)) → W p l e R s m args below meth c H locs cells slots Q (F0 m pc ls rest))
    (hK : ai_KS p l e R s m args below meth c nL b0 rho tc dC dI base ws0 kE sE mk0 ms0 os0 Q K) (h : ai_o_null npc call K loc st g = some r) : ai_At p l e R s m args below meth c nL b0 rho tc dC dI base ws0 kE sE mk0 ms0 os0 Q pc loc st g r :=
  ai_At.step (hK _ _ _ _ _ h) ⟨Nat.le_refl _, Nat.le_refl _⟩ fun H locs cells slots ls vs ws ⟨f0, f1, f2, f3⟩ _ _ kk => row (kk _ _ _ _ _ _ ws ⟨f0, f1, ⟨ai_Rv.mkN, f2⟩, f3⟩)
theorem so_iload {k : Nat} (row : ∀ {H : Heap} {locs : List Loc} {cells slots : Nat} {ls : Array Slot} {rest : List Value} {z : Int32}, ls[k]? = some (.val (.int z)) → W p l e R s m args below meth c H locs cells slots Q (F0 m npc ls (.int z :: rest)) → W p l e R s m args below meth c H locs cells slots Q (F0 m pc ls rest))
    (hK : ai_KS p l e R s m args below meth c nL b0 rho tc dC dI base ws0 kE sE mk0 ms0 os0 Q K) (h : ai_o_iload k npc call K loc st g = some r) : ai_At p l e R s m args below meth c nL b0 rho tc dC dI base ws0 kE sE mk0 ms0 os0 Q pc loc st g r := by
  unfold ai_o_iload at h
  cases hb : Nat.ble (Prod.fst (ai_nth ai_un loc k)) 1 with
  | false => rw [hb] at h; cases h
  | true =>
    rw [hb] at h
    have ht : (ai_nth ai_un loc k).1 ≤ 1 := Nat.le_of_ble_eq_true hb
    refine ai_At.step (hK _ _ _ _ _ h) ⟨Nat.le_refl _, Nat.le_refl _⟩ fun H locs cells slots ls vs ws ⟨f0, f1, f2, f3⟩ _ _ kk => ?_
    obtain ⟨w, q1, -, q3⟩ := f1.at (k := k) (by omega)
    obtain ⟨z, rfl, -⟩ := q1.int ht
    exact row q3 (kk _ _ _ _ _ _ ws ⟨f0, f1, ⟨q1, f2⟩, f3⟩)
theorem ai_isr_ok {b0 : Nat} {rho : Nat → Int32} {ws : va_W} {v : ai_V} {w : Value} (hb : ai_isr v.1 = true) (h : ai_Rv b0 rho ws v w) : (w = .null ∨ ∃ a : Nat, w = .ref a) ∧ w.category = 1 := by
  unfold ai_isr at hb
  have hv : v.1 = 2 ∨ v.1 = 3 ∨ v.1 = 6 ∨ v.1 = 7 := by
    cases h1 : Nat.ble v.1 3 with
    | true =>
      rw [h1] at hb
      have q1 : v.1 ≤ 3 := Nat.le_of_ble_eq_true h1
      have q2 : 2 ≤ v.1 := Nat.le_of_ble_eq_true hb
      omega
    | false =>
      rw [h1] at hb
      simp only [cond_false, Bool.or_eq_true, Nat.beq_eq] at hb
      omega
  rcases h with ⟨h1, -⟩ | ⟨-, rfl⟩ | ⟨-, a, e, -, rfl⟩ | ⟨h1, -⟩ | ⟨-, rfl⟩ | ⟨-, a, rfl⟩
  · exfalso; omega
  · exact ⟨Or.inl rfl, rfl⟩
  · exact ⟨Or.inr ⟨_, rfl⟩, rfl⟩
  · exfalso; omega
  · exact ⟨Or.inr ⟨_, rfl⟩, rfl⟩
  · exact ⟨Or.inr ⟨_, rfl⟩, rfl⟩
theorem so_aload {k : Nat} (row : ∀ {H : Heap} {locs : List Loc} {cells slots : Nat} {ls : Array Slot} {rest : List Value} {a : Nat}, ls[k]? = some (.val (.ref a)) → W p l e R s m args below meth c H locs cells slots Q (F0 m npc ls (.ref a :: rest)) → W p l e R s m args below meth c H locs cells slots Q (F0 m pc ls rest))
    (rowN : ∀ {H : Heap} {locs : List Loc} {cells slots : Nat} {ls : Array Slot} {rest : List Value}, ls[k]? = some (.val .null) → W p l e R s m args below meth c H locs cells slots Q (F0 m npc ls (.null :: rest)) → W p l e R s m args below meth c H locs cells slots Q (F0 m pc ls rest))
    (hK : ai_KS p l e R s m args below meth c nL b0 rho tc dC dI base ws0 kE sE mk0 ms0 os0 Q K) (h : ai_o_aload k npc call K loc st g = some r) : ai_At p l e R s m args below meth c nL b0 rho tc dC dI base ws0 kE sE mk0 ms0 os0 Q pc loc st g r := by
  unfold ai_o_aload at h
  cases hb : ai_isr (Prod.fst (ai_nth ai_un loc k)) with
  | false => rw [hb] at h; cases h
  | true =>
    rw [hb] at h
    have h9 : (ai_nth ai_un loc k).1 ≠ 9 := fun q => by rw [q] at hb; cases hb
    refine ai_At.step (hK _ _ _ _ _ h) ⟨Nat.le_refl _, Nat.le_refl _⟩ fun H locs cells slots ls vs ws ⟨f0, f1, f2, f3⟩ _ _ kk => ?_
    obtain ⟨w, q1, -, q3⟩ := f1.at (k := k) h9
    rcases (ai_isr_ok hb q1).1 with rfl | ⟨a, rfl⟩
    · exact rowN q3 (kk _ _ _ _ _ _ ws ⟨f0, f1, ⟨q1, f2⟩, f3⟩)
    · exact row q3 (kk _ _ _ _ _ _ ws ⟨f0, f1, ⟨q1, f2⟩, f3⟩)
theorem so_istore {k : Nat} (hk : k < nL) (row : ∀ {H : Heap} {locs : List Loc} {cells slots : Nat} {ls : Array Slot} {rest : List Value} {z : Int32} {lv : List (Nat × Value)}, lv_has ls nL lv →
      (∀ ls' : Array Slot, lv_has ls' nL ((k, Value.int z) :: lv.filter (fun q => !(q.1 == k) && !(q.1 + 1 == k && q.2.category == 2))) → W p l e R s m args below meth c H locs cells slots Q (F0 m npc ls' rest)) → W p l e R s m args below meth c H locs cells slots Q (F0 m pc ls (.int z :: rest)))
    (hK : ai_KS p l e R s m args below meth c nL b0 rho tc dC dI base ws0 kE sE mk0 ms0 os0 Q K) (h : ai_o_istore k npc call K loc st g = some r) : ai_At p l e R s m args below meth c nL b0 rho tc dC dI base ws0 kE sE mk0 ms0 os0 Q pc loc st g r := by
  unfold ai_o_istore at h
  cases st with
  | nil => cases h
  | cons v st =>
    simp only at h
    cases hb : Nat.ble (Prod.fst v) 1 with
    | false => rw [hb] at h; cases h
    | true =>
      rw [hb] at h
      have ht : v.1 ≤ 1 := Nat.le_of_ble_eq_true hb
      refine ai_At.step (hK _ _ _ _ _ h) ⟨Nat.le_refl _, Nat.le_refl _⟩ fun H locs cells slots ls vs ws ⟨f0, f1, f2, f3⟩ _ _ kk => ?_
      obtain ⟨w, rest, rfl, q1, q2⟩ := f2.cons
      obtain ⟨z, rfl, q3⟩ := q1.int ht
      obtain ⟨hl, lv, h2, h3⟩ := f1
      exact row h2 (fun ls' h' => kk _ _ _ _ _ _ ws ⟨f0, ai_LR.upd hl h3 h' q1 rfl, q2, f3⟩)
theorem so_astore {k : Nat} (hk : k < nL) (row : ∀ {H : Heap} {locs : List Loc} {cells slots : Nat} {ls : Array Slot} {rest : List Value} {z : Nat} {lv : List (Nat × Value)}, lv_has ls nL lv →
      (∀ ls' : Array Slot, lv_has ls' nL ((k, Value.ref z) :: lv.filter (fun q => !(q.1 == k) && !(q.1 + 1 == k && q.2.category == 2))) → W p l e R s m args below meth c H locs cells slots Q (F0 m npc ls' rest)) → W p l e R s m args below meth c H locs cells slots Q (F0 m pc ls (.ref z :: rest)))
    (rowN : ∀ {H : Heap} {locs : List Loc} {cells slots : Nat} {ls : Array Slot} {rest : List Value} {lv : List (Nat × Value)}, lv_has ls nL lv →
      (∀ ls' : Array Slot, lv_has ls' nL ((k, Value.null) :: lv.filter (fun q => !(q.1 == k) && !(q.1 + 1 == k && q.2.category == 2))) → W p l e R s m args below meth c H locs cells slots Q (F0 m npc ls' rest)) → W p l e R s m args below meth c H locs cells slots Q (F0 m pc ls (.null :: rest)))
    (hK : ai_KS p l e R s m args below meth c nL b0 rho tc dC dI base ws0 kE sE mk0 ms0 os0 Q K) (h : ai_o_astore k npc call K loc st g = some r) : ai_At p l e R s m args below meth c nL b0 rho tc dC dI base ws0 kE sE mk0 ms0 os0 Q pc loc st g r := by
  unfold ai_o_astore at h
  cases st with
  | nil => cases h
  | cons v st =>
    simp only at h
    cases hb : ai_isr (Prod.fst v) with
    | false => rw [hb] at h; cases h
    | true =>
      rw [hb] at h
      refine ai_At.step (hK _ _ _ _ _ h) ⟨Nat.le_refl _, Nat.le_refl _⟩ fun H locs cells slots ls vs ws ⟨f0, f1, f2, f3⟩ _ _ kk => ?_
      obtain ⟨w, rest, rfl, q1, q2⟩ := f2.cons
      obtain ⟨hl, lv, h2, h3⟩ := f1
      rcases ai_isr_ok hb q1 with ⟨rfl | ⟨a, rfl⟩, hc⟩
      · exact rowN h2 (fun ls' h' => kk _ _ _ _ _ _ ws ⟨f0, ai_LR.upd hl h3 h' q1 hc, q2, f3⟩)
      · exact row h2 (fun ls' h' => kk _ _ _ _ _ _ ws ⟨f0, ai_LR.upd hl h3 h' q1 hc, q2, f3⟩)
theorem ai_add_tags {u v w : ai_V} (h : ai_add u v = some w) : u.1 ≤ 1 ∧ v.1 ≤ 1 := by
  unfold ai_add at h
  split at h <;> first | exact ⟨Nat.le_of_ble_eq_true rfl, Nat.le_of_ble_eq_true rfl⟩ | cases h
theorem ai_sub_tags {u v w : ai_V} (h : ai_sub u v = some w) : u.1 ≤ 1 ∧ v.1 ≤ 1 := by
  unfold ai_sub at h
  split at h <;> first | exact ⟨Nat.le_of_ble_eq_true rfl, Nat.le_of_ble_eq_true rfl⟩ | cases h
theorem so_inc {k : Nat} {n : Int} {x2 : Int32} (hn : x2.toInt = n) (hk : k < nL) (row : ∀ {H : Heap} {locs : List Loc} {cells slots : Nat} {ls : Array Slot} {rest : List Value} {z : Int32} {lv : List (Nat × Value)} {kk : Nat}, lv_has ls nL lv → lv[kk]? = some (k, .int z) →
      (∀ ls' : Array Slot, lv_has ls' nL ((k, Value.int (z + x2)) :: lv.filter (fun q => !(q.1 == k) && !(q.1 + 1 == k && q.2.category == 2))) → W p l e R s m args below meth c H locs cells slots Q (F0 m npc ls' rest)) → W p l e R s m args below meth c H locs cells slots Q (F0 m pc ls rest))
    (hK : ai_KS p l e R s m args below meth c nL b0 rho tc dC dI base ws0 kE sE mk0 ms0 os0 Q K) (h : ai_o_inc k n npc call K loc st g = some r) : ai_At p l e R s m args below meth c nL b0 rho tc dC dI base ws0 kE sE mk0 ms0 os0 Q pc loc st g r := by
  unfold ai_o_inc at h
  cases ha : ai_add (ai_nth ai_un loc k) (ai_i n) with
  | none => rw [ha] at h; cases h
  | some v =>
    rw [ha] at h
    have ht := (ai_add_tags ha).1
    refine ai_At.step (hK _ _ _ _ _ h) ⟨Nat.le_refl _, Nat.le_refl _⟩ fun H locs cells slots ls vs ws ⟨f0, f1, f2, f3⟩ _ _ kk => ?_
    obtain ⟨hl, lv, h2, h3⟩ := f1
    have e := ai_nth_eq ai_un loc k
    cases hlk : loc[k]? with
    | none => rw [hlk] at e; rw [e] at ht; exact absurd ht (by decide)
    | some u =>
      rw [hlk] at e
      have e : ai_nth ai_un loc k = u := e
      rw [e] at ht ha
      obtain ⟨w, q1, q2, q3⟩ := h3 k u hlk (by omega)
      obtain ⟨z, rfl, q4⟩ := q1.int ht
      obtain ⟨kk2, hkk⟩ := List.getElem?_of_mem q3
      exact row h2 hkk (fun ls' h' => kk _ _ _ _ _ _ ws ⟨f0, ai_LR.upd hl h3 h' (ai_Rv.mkI (ai_add_ok q4 (ai_num_i hn) ha)) rfl, f2, f3⟩)
theorem so_bin {f : ai_E → ai_V → ai_V → Option ai_V} {op : Int32 → Int32 → Int32} {ok : Int32 → Prop} (ht : ∀ {x : ai_E} {u v w : ai_V}, f x u v = some w → u.1 ≤ 1 ∧ v.1 ≤ 1)
    (hf : ∀ {x : ai_E} {u v w : ai_V} {y z : Int32}, ai_EV rho x → ai_num rho u y → ai_num rho v z → f x u v = some w → ai_num rho w (op y z))
    (ho : ∀ {x : ai_E} {u v w : ai_V} {z : Int32}, ai_EV rho x → ai_num rho v z → f x u v = some w → ok z)
    (row : ∀ {H : Heap} {locs : List Loc} {cells slots : Nat} {ls : Array Slot} {rest : List Value} {y z : Int32}, ok z → W p l e R s m args below meth c H locs cells slots Q (F0 m npc ls (.int (op y z) :: rest)) → W p l e R s m args below meth c H locs cells slots Q (F0 m pc ls (.int z :: .int y :: rest)))
    (hK : ai_KS p l e R s m args below meth c nL b0 rho tc dC dI base ws0 kE sE mk0 ms0 os0 Q K) (h : ai_o_bin f npc call K loc st g = some r) : ai_At p l e R s m args below meth c nL b0 rho tc dC dI base ws0 kE sE mk0 ms0 os0 Q pc loc st g r := by
  unfold ai_o_bin at h
  cases st with
  | nil => cases h
  | cons v st =>
    cases st with
    | nil => cases h
    | cons u st =>
      simp only at h
      cases ha : f (ai_x g) u v with
      | none => rw [ha] at h; cases h
      | some w =>
        rw [ha] at h
        obtain ⟨t1, t2⟩ := ht ha
        refine ai_At.step (hK _ _ _ _ _ h) ⟨Nat.le_refl _, Nat.le_refl _⟩ fun H locs cells slots ls vs ws ⟨f0, f1, f2, f3, f4, f5, f6, f7, f8⟩ _ _ kk => ?_
        obtain ⟨w1, rest, rfl, q1, q2⟩ := f2.cons
        obtain ⟨w2, rest, rfl, q3, q4⟩ := q2.cons
        obtain ⟨z, rfl, nz⟩ := q1.int t2
        obtain ⟨y, rfl, ny⟩ := q3.int t1
        exact row (ho f7 nz ha) (kk _ _ _ _ _ _ ws ⟨f0, f1, ⟨ai_Rv.mkI (hf f7 ny nz ha), q4⟩, f3, f4, f5, f6, f7, f8⟩)
theorem so_i2l (row : ∀ {H : Heap} {locs : List Loc} {cells slots : Nat} {ls : Array Slot} {rest : List Value} {z : Int32}, W p l e R s m args below meth c H locs cells slots Q (F0 m npc ls (.long z.toInt64 :: rest)) → W p l e R s m args below meth c H locs cells slots Q (F0 m pc ls (.int z :: rest)))
    (hK : ai_KS p l e R s m args below meth c nL b0 rho tc dC dI base ws0 kE sE mk0 ms0 os0 Q K) (h : ai_o_i2l npc call K loc st g = some r) : ai_At p l e R s m args below meth c nL b0 rho tc dC dI base ws0 kE sE mk0 ms0 os0 Q pc loc st g r := by
  unfold ai_o_i2l at h
  cases st with
  | nil => cases h
  | cons v st =>
    simp only at h
    cases hb : ai_isn v with
    | false => rw [hb] at h; cases h
    | true =>
      rw [hb] at h
      have ht := (ai_isn_iff v).mp hb
      refine ai_At.step (hK _ _ _ _ _ h) ⟨Nat.le_refl _, Nat.le_refl _⟩ fun H locs cells slots ls vs ws ⟨f0, f1, f2, f3⟩ _ _ kk => ?_
      obtain ⟨w1, rest, rfl, q1, q2⟩ := f2.cons
      obtain ⟨z, rfl, nz⟩ := q1.int ht
      refine row (kk _ _ _ _ _ _ ws ⟨f0, f1, ⟨Or.inr (Or.inr (Or.inr (Or.inl ⟨?_, z, rfl, ?_⟩))), q2⟩, f3⟩)
      · show v.1 + 4 = 4 ∨ v.1 + 4 = 5; omega
      · show ai_num rho (v.1 + 4 - 4, v.2) z
        rw [Nat.add_sub_cancel]; exact nz
theorem so_dup (row : ∀ {H : Heap} {locs : List Loc} {cells slots : Nat} {ls : Array Slot} {rest : List Value} {w : Value}, w.category = 1 → W p l e R s m args below meth c H locs cells slots Q (F0 m npc ls (w :: w :: rest)) → W p l e R s m args below meth c H locs cells slots Q (F0 m pc ls (w :: rest)))
    (hK : ai_KS p l e R s m args below meth c nL b0 rho tc dC dI base ws0 kE sE mk0 ms0 os0 Q K) (h : ai_o_dup npc call K loc st g = some r) : ai_At p l e R s m args below meth c nL b0 rho tc dC dI base ws0 kE sE mk0 ms0 os0 Q pc loc st g r := by
  unfold ai_o_dup at h
  cases st with
  | nil => cases h
  | cons v st =>
    simp only at h
    cases hb : Nat.ble (Prod.fst v) 3 with
    | false => rw [hb] at h; cases h
    | true =>
      rw [hb] at h
      have ht : v.1 ≤ 3 := Nat.le_of_ble_eq_true hb
      refine ai_At.step (hK _ _ _ _ _ h) ⟨Nat.le_refl _, Nat.le_refl _⟩ fun H locs cells slots ls vs ws ⟨f0, f1, f2, f3⟩ _ _ kk => ?_
      obtain ⟨w1, rest, rfl, q1, q2⟩ := f2.cons
      exact row (q1.cat (by omega)) (kk _ _ _ _ _ _ ws ⟨f0, f1, ⟨q1, q1, q2⟩, f3⟩)
theorem so_dup2 (row : ∀ {H : Heap} {locs : List Loc} {cells slots : Nat} {ls : Array Slot} {rest : List Value} {w u : Value}, w.category = 1 → u.category = 1 → W p l e R s m args below meth c H locs cells slots Q (F0 m npc ls (w :: u :: w :: u :: rest)) → W p l e R s m args below meth c H locs cells slots Q (F0 m pc ls (w :: u :: rest)))
    (hK : ai_KS p l e R s m args below meth c nL b0 rho tc dC dI base ws0 kE sE mk0 ms0 os0 Q K) (h : ai_o_dup2 npc call K loc st g = some r) : ai_At p l e R s m args below meth c nL b0 rho tc dC dI base ws0 kE sE mk0 ms0 os0 Q pc loc st g r := by
  unfold ai_o_dup2 at h
  cases st with
  | nil => cases h
  | cons v st =>
    cases st with
    | nil => cases h
    | cons u st =>
      simp only at h
      cases hb : (Nat.ble (Prod.fst v) 3 && Nat.ble (Prod.fst u) 3) with
      | false => rw [hb] at h; cases h
      | true =>
        rw [hb] at h
        rw [Bool.and_eq_true] at hb
        have ht : v.1 ≤ 3 := Nat.le_of_ble_eq_true hb.1
        have hu : u.1 ≤ 3 := Nat.le_of_ble_eq_true hb.2
        refine ai_At.step (hK _ _ _ _ _ h) ⟨Nat.le_refl _, Nat.le_refl _⟩ fun H locs cells slots ls vs ws ⟨f0, f1, f2, f3⟩ _ _ kk => ?_
        obtain ⟨w1, rest, rfl, q1, q2⟩ := f2.cons
        obtain ⟨w2, rest, rfl, q3, q4⟩ := q2.cons
        exact row (q1.cat (by omega)) (q3.cat (by omega)) (kk _ _ _ _ _ _ ws ⟨f0, f1, ⟨q1, q3, q1, q3, q4⟩, f3⟩)
theorem so_pop (row : ∀ {H : Heap} {locs : List Loc} {cells slots : Nat} {ls : Array Slot} {rest : List Value} {w : Value}, w.category = 1 → W p l e R s m args below meth c H locs cells slots Q (F0 m npc ls rest) → W p l e R s m args below meth c H locs cells slots Q (F0 m pc ls (w :: rest)))
    (hK : ai_KS p l e R s m args below meth c nL b0 rho tc dC dI base ws0 kE sE mk0 ms0 os0 Q K) (h : ai_o_pop npc call K loc st g = some r) : ai_At p l e R s m args below meth c nL b0 rho tc dC dI base ws0 kE sE mk0 ms0 os0 Q pc loc st g r := by
  unfold ai_o_pop at h
  cases st with
  | nil => cases h
  | cons v st =>
    simp only at h
    cases hb : Nat.ble (Prod.fst v) 3 with
    | false => rw [hb] at h; cases h
    | true =>
      rw [hb] at h
      have ht : v.1 ≤ 3 := Nat.le_of_ble_eq_true hb
      refine ai_At.step (hK _ _ _ _ _ h) ⟨Nat.le_refl _, Nat.le_refl _⟩ fun H locs cells slots ls vs ws ⟨f0, f1, f2, f3⟩ _ _ kk => ?_
      obtain ⟨w1, rest, rfl, q1, q2⟩ := f2.cons
      exact row (q1.cat (by omega)) (kk _ _ _ _ _ _ ws ⟨f0, f1, q2, f3⟩)
theorem so_goto {pt : Nat} (row : ∀ {H : Heap} {locs : List Loc} {cells slots : Nat} {ls : Array Slot} {rest : List Value}, W p l e R s m args below meth c H locs cells slots Q (F0 m pt ls rest) → W p l e R s m args below meth c H locs cells slots Q (F0 m pc ls rest))
    (hK : ai_KS p l e R s m args below meth c nL b0 rho tc dC dI base ws0 kE sE mk0 ms0 os0 Q K) (h : ai_o_goto pt call K loc st g = some r) : ai_At p l e R s m args below meth c nL b0 rho tc dC dI base ws0 kE sE mk0 ms0 os0 Q pc loc st g r :=
  ai_At.step (hK _ _ _ _ _ h) ⟨Nat.le_refl _, Nat.le_refl _⟩ fun H locs cells slots ls vs ws hF _ _ kk => row (kk _ _ _ _ _ _ ws hF)
theorem so_acmp {pt pf : Nat} (row : ∀ {H : Heap} {locs : List Loc} {cells slots : Nat} {ls : Array Slot} {rest : List Value} {ry rx : Option Nat}, W p l e R s m args below meth c H locs cells slots Q (F0 m pt ls rest) → W p l e R s m args below meth c H locs cells slots Q (F0 m pf ls rest) → W p l e R s m args below meth c H locs cells slots Q (F0 m pc ls (va_rf ry :: va_rf rx :: rest)))
    (hK : ai_KS p l e R s m args below meth c nL b0 rho tc dC dI base ws0 kE sE mk0 ms0 os0 Q K) (h : ai_o_acmp pf pt call K loc st g = some r) : ai_At p l e R s m args below meth c nL b0 rho tc dC dI base ws0 kE sE mk0 ms0 os0 Q pc loc st g r := by
  unfold ai_o_acmp at h
  match st, h with
  | [], h => cases h
  | [_], h => cases h
  | v :: u :: st, h =>
    simp only at h
    cases hb : (ai_isr (Prod.fst v) && ai_isr (Prod.fst u)) with
    | false => rw [hb] at h; cases h
    | true =>
      rw [hb] at h
      rw [Bool.and_eq_true] at hb
      have h : ai_all (fun q : Bool => K (cond q pt pf) loc st g) [true, false] = some r := h
      refine ai_At.all h (fun q => cond q pt pf) (fun _ => loc) (fun _ => st) (fun _ => g) (fun q _ rq hq => hK _ _ _ _ _ hq) (fun q => ⟨Nat.le_refl _, Nat.le_refl _⟩) ?_
      intro H locs cells slots ls vs ws ⟨f0, f1, f2, f3⟩ kk
      obtain ⟨w1, rest, rfl, q1, q2⟩ := f2.cons
      obtain ⟨w2, rest, rfl, q3, q4⟩ := q2.cons
      have rr : ∀ {w : Value}, (w = .null ∨ ∃ a : Nat, w = .ref a) → ∃ o : Option Nat, w = va_rf o := by
        rintro w (rfl | ⟨a, rfl⟩)
        · exact ⟨none, rfl⟩
        · exact ⟨some a, rfl⟩
      obtain ⟨o1, rfl⟩ := rr (ai_isr_ok hb.1 q1).1
      obtain ⟨o2, rfl⟩ := rr (ai_isr_ok hb.2 q3).1
      exact row (kk true (by simp) _ _ _ _ _ _ ws ⟨f0, f1, q4, f3⟩) (kk false (by simp) _ _ _ _ _ _ ws ⟨f0, f1, q4, f3⟩)
theorem so_isnull {pt pf : Nat} (rowN : ∀ {H : Heap} {locs : List Loc} {cells slots : Nat} {ls : Array Slot} {rest : List Value}, W p l e R s m args below meth c H locs cells slots Q (F0 m pt ls rest) → W p l e R s m args below meth c H locs cells slots Q (F0 m pc ls (.null :: rest)))
    (row : ∀ {H : Heap} {locs : List Loc} {cells slots : Nat} {ls : Array Slot} {rest : List Value} {a : Nat}, W p l e R s m args below meth c H locs cells slots Q (F0 m pf ls rest) → W p l e R s m args below meth c H locs cells slots Q (F0 m pc ls (.ref a :: rest)))
    (hK : ai_KS p l e R s m args below meth c nL b0 rho tc dC dI base ws0 kE sE mk0 ms0 os0 Q K) (h : ai_o_isnull pt pf call K loc st g = some r) : ai_At p l e R s m args below meth c nL b0 rho tc dC dI base ws0 kE sE mk0 ms0 os0 Q pc loc st g r := by
  unfold ai_o_isnull at h
  cases st with
  | nil => cases h
  | cons v st =>
    simp only at h
    cases hb : Nat.beq (Prod.fst v) 2 with
    | true =>
      rw [hb] at h
      have ht : v.1 = 2 := Nat.eq_of_beq_eq_true hb
      refine ai_At.step (hK _ _ _ _ _ h) ⟨Nat.le_refl _, Nat.le_refl _⟩ fun H locs cells slots ls vs ws ⟨f0, f1, f2, f3⟩ _ _ kk => ?_
      obtain ⟨w1, rest, rfl, q1, q2⟩ := f2.cons
      rw [q1.nul ht]
      exact rowN (kk _ _ _ _ _ _ ws ⟨f0, f1, q2, f3⟩)
    | false =>
      rw [hb] at h
      simp only [cond_false] at h
      cases hc : Nat.beq (Prod.fst v) 3 with
      | false => rw [hc] at h; cases h
      | true =>
        rw [hc] at h
        have ht : v.1 = 3 := Nat.eq_of_beq_eq_true hc
        refine ai_At.step (hK _ _ _ _ _ h) ⟨Nat.le_refl _, Nat.le_refl _⟩ fun H locs cells slots ls vs ws ⟨f0, f1, f2, f3⟩ _ _ kk => ?_
        obtain ⟨w1, rest, rfl, q1, q2⟩ := f2.cons
        obtain ⟨a, e9, -, rfl⟩ := q1.rfr ht
        exact row (kk _ _ _ _ _ _ ws ⟨f0, f1, q2, f3⟩)
theorem ai_ge_fr {x : ai_E} {H : Heap} {locs : List Loc} {cells slots : Nat} {ls : Array Slot} {vs : List Value} {ws : va_W} (hF : ai_Fr s nL b0 rho tc dC dI base ws0 kE sE loc st g H locs cells slots ls vs ws) (hE : ai_EV rho x) : ai_Fr s nL b0 rho tc dC dI base ws0 kE sE loc st (ai_ge g x) H locs cells slots ls vs ws := by
  obtain ⟨f0, f1, f2, f3, f4, f5, f6, f7, f8⟩ := hF
  exact ⟨f0, f1, f2, f3, f4, f5, f6, hE, f8⟩
theorem so_br {pf pt : Nat} {b : Option ai_B} {st1 : List ai_V} {cond1 : Prop} (hh : ∀ (H : Heap) (locs : List Loc) (cells slots : Nat) (ls : Array Slot) (vs : List Value) (ws : va_W), ai_Fr s nL b0 rho tc dC dI base ws0 kE sE loc st1 g H locs cells slots ls vs ws → ∃ (cd : Prop) (rest : List Value), ai_SR b0 rho ws st rest ∧ (∀ l1, b = some l1 → ai_way rho l1 cd) ∧
      ((cd → W p l e R s m args below meth c H locs cells slots Q (F0 m pt ls rest)) → (¬ cd → W p l e R s m args below meth c H locs cells slots Q (F0 m pf ls rest)) → W p l e R s m args below meth c H locs cells slots Q (F0 m pc ls vs)))
    (hK : ai_KS p l e R s m args below meth c nL b0 rho tc dC dI base ws0 kE sE mk0 ms0 os0 Q K) (h : ai_br pf pt K loc st g b = some r) : ai_At p l e R s m args below meth c nL b0 rho tc dC dI base ws0 kE sE mk0 ms0 os0 Q pc loc st1 g r := by
  cases b with
  | none => cases h
  | some l1 =>
    refine ai_At.all (k := fun q => K (cond (Prod.fst q) pt pf) loc st (ai_ge g (Prod.snd q))) h (fun q => cond (Prod.fst q) pt pf) (fun _ => loc) (fun _ => st) (fun q => ai_ge g (Prod.snd q)) (fun q _ rq hq => hK _ _ _ _ _ hq) (fun q => ⟨Nat.le_refl _, Nat.le_refl _⟩) ?_
    intro H locs cells slots ls vs ws hF kk
    obtain ⟨cd, rest, q2, hway, fin⟩ := hh H locs cells slots ls vs ws hF
    obtain ⟨f0, f1, f2, f3⟩ := hF
    obtain ⟨w1, w2⟩ := hway l1 rfl
    refine fin (fun hc => ?_) (fun hc => ?_)
    · obtain ⟨q, hq, e1, e2⟩ := w1 hc
      have := kk q hq H locs cells slots ls rest ws (ai_ge_fr ⟨f0, f1, q2, f3⟩ e2)
      rw [e1] at this
      exact this
    · obtain ⟨q, hq, e1, e2⟩ := w2 hc
      have := kk q hq H locs cells slots ls rest ws (ai_ge_fr ⟨f0, f1, q2, f3⟩ e2)
      rw [e1] at this
      exact this
theorem ai_rng_tag {x : ai_E} {v : ai_V} {q : Int × Int} (h : ai_rng x v = some q) : v.1 ≤ 1 := by
  obtain ⟨t, c, d⟩ := v
  match t with
  | 0 => exact Nat.zero_le _
  | 1 => exact Nat.le_refl _
  | t + 2 => simp [ai_rng] at h
theorem ai_cmp_tags {k : ClassFile.Cond} {x : ai_E} {u v : ai_V} {l1 : ai_B} (h : ai_cmp k x u v = some l1) : u.1 ≤ 1 ∧ v.1 ≤ 1 := by
  have key : ∀ o : Option ai_B, (∀ l1, o = some l1 → u.1 ≤ 1 ∧ v.1 ≤ 1) → ∀ l1, ai_neg o = some l1 → u.1 ≤ 1 ∧ v.1 ≤ 1 := fun o ho l1 h1 => by
    cases o with
    | none => cases h1
    | some l2 => exact ho l2 rfl
  have e1 : ∀ l1, ai_eq x u v = some l1 → u.1 ≤ 1 ∧ v.1 ≤ 1 := fun l1 h1 => by
    unfold ai_eq at h1
    cases h2 : ai_rng x u with
    | none => simp only [h2] at h1; cases h1
    | some q1 =>
      cases h3 : ai_rng x v with
      | none => simp only [h2, h3] at h1; cases h1
      | some q2 => exact ⟨ai_rng_tag h2, ai_rng_tag h3⟩
  have e2 : ∀ l1, ai_lt x u v = some l1 → u.1 ≤ 1 ∧ v.1 ≤ 1 := fun l1 h1 => by
    unfold ai_lt at h1
    cases h2 : ai_rng x u with
    | none => simp only [h2] at h1; cases h1
    | some q1 =>
      cases h3 : ai_rng x v with
      | none => simp only [h2, h3] at h1; cases h1
      | some q2 => exact ⟨ai_rng_tag h2, ai_rng_tag h3⟩
  have e3 : ∀ l1, ai_le x u v = some l1 → u.1 ≤ 1 ∧ v.1 ≤ 1 := fun l1 h1 => by
    unfold ai_le at h1
    cases h2 : ai_rng x u with
    | none => simp only [h2] at h1; cases h1
    | some q1 =>
      cases h3 : ai_rng x v with
      | none => simp only [h2, h3] at h1; cases h1
      | some q2 => exact ⟨ai_rng_tag h2, ai_rng_tag h3⟩
  cases k with
  | eq => exact e1 _ h
  | ne => exact key _ e1 _ h
  | lt => exact e2 _ h
  | ge => exact key _ e2 _ h
  | gt => exact key _ e3 _ h
  | le => exact e3 _ h
theorem so_if {k : ClassFile.Cond} {pf pt : Nat} (row : ∀ {H : Heap} {locs : List Loc} {cells slots : Nat} {ls : Array Slot} {rest : List Value} {y : Int32}, (ai_cd k y 0 → W p l e R s m args below meth c H locs cells slots Q (F0 m pt ls rest)) → (¬ ai_cd k y 0 → W p l e R s m args below meth c H locs cells slots Q (F0 m pf ls rest)) → W p l e R s m args below meth c H locs cells slots Q (F0 m pc ls (.int y :: rest)))
    (hK : ai_KS p l e R s m args below meth c nL b0 rho tc dC dI base ws0 kE sE mk0 ms0 os0 Q K) (h : ai_o_if k pf pt call K loc st g = some r) : ai_At p l e R s m args below meth c nL b0 rho tc dC dI base ws0 kE sE mk0 ms0 os0 Q pc loc st g r := by
  unfold ai_o_if at h
  cases st with
  | nil => cases h
  | cons u st =>
    refine so_br (cond1 := True) (fun H locs cells slots ls vs ws hF => ?_) hK h
    obtain ⟨f0, f1, f2, f3, f4, f5, f6, f7, f8⟩ := hF
    obtain ⟨w1, rest, rfl, q1, q2⟩ := f2.cons
    cases hb : ai_cmp k (ai_x g) u (ai_i (.ofNat 0)) with
    | none => simp only [hb] at h; cases h
    | some l1 =>
      obtain ⟨z, rfl, nz⟩ := q1.int (ai_cmp_tags hb).1
      exact ⟨ai_cd k z 0, rest, q2, fun l2 h2 => by cases h2; exact ai_cmp_ok f7 nz (ai_num_i rfl) hb, fun a b => row a b⟩
theorem so_icmp {k : ClassFile.Cond} {pf pt : Nat} (row : ∀ {H : Heap} {locs : List Loc} {cells slots : Nat} {ls : Array Slot} {rest : List Value} {y z : Int32}, (ai_cd k y z → W p l e R s m args below meth c H locs cells slots Q (F0 m pt ls rest)) → (¬ ai_cd k y z → W p l e R s m args below meth c H locs cells slots Q (F0 m pf ls rest)) → W p l e R s m args below meth c H locs cells slots Q (F0 m pc ls (.int z :: .int y :: rest)))
    (hK : ai_KS p l e R s m args below meth c nL b0 rho tc dC dI base ws0 kE sE mk0 ms0 os0 Q K) (h : ai_o_icmp k pf pt call K loc st g = some r) : ai_At p l e R s m args below meth c nL b0 rho tc dC dI base ws0 kE sE mk0 ms0 os0 Q pc loc st g r := by
  unfold ai_o_icmp at h
  cases st with
  | nil => cases h
  | cons v st =>
    cases st with
    | nil => cases h
    | cons u st =>
      refine so_br (cond1 := True) (fun H locs cells slots ls vs ws hF => ?_) hK h
      obtain ⟨f0, f1, f2, f3, f4, f5, f6, f7, f8⟩ := hF
      obtain ⟨w1, rest, rfl, q1, q2⟩ := f2.cons
      obtain ⟨w2, rest, rfl, q3, q4⟩ := q2.cons
      cases hb : ai_cmp k (ai_x g) u v with
      | none => simp only [hb] at h; cases h
      | some l1 =>
        obtain ⟨y, rfl, ny⟩ := q3.int (ai_cmp_tags hb).1
        obtain ⟨z, rfl, nz⟩ := q1.int (ai_cmp_tags hb).2
        exact ⟨ai_cd k y z, rest, q4, fun l2 h2 => by cases h2; exact ai_cmp_ok f7 ny nz hb, fun a b => row a b⟩
end OPS
