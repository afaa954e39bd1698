/-! ===== the reference's story: counts of pens, bits of acts done ===== -/
def cn (E : cm_E) (c : Nat) (v : Int) : Nat → Nat
  | 0 => 0
  | m + 1 => cn E c v m + (if gv E c m = v then 1 else 0)
def bt (D a : Int) : Int := (Int32.ofInt ((Int32.ofInt D >>> (Int32.ofInt a &&& 31)).toInt) &&& Int32.ofInt 1).toInt
def sb (D a : Int) : Int := (Int32.ofInt D ||| Int32.ofInt ((Int32.ofInt 1 <<< (Int32.ofInt a &&& 31)).toInt)).toInt
def sb_ck (D a : Nat) : Bool := decide (0 ≤ sb D a) && decide (sb D a < 256) && (List.range 8).all (fun c => decide (bt (sb D a) c = if c = a then 1 else bt D c))
theorem sb_all : (List.range 256).all (fun D => (List.range 8).all (fun a => sb_ck D a)) = true := by decide +kernel
theorem bt_0 : (List.range 8).all (fun c => decide (bt 0 c = 0)) = true := by decide +kernel
theorem sb_ok {D a : Int} (hD : 0 ≤ D ∧ D < 256) (ha : 0 ≤ a ∧ a ≤ 7) : (0 ≤ sb D a ∧ sb D a < 256) ∧ ∀ c : Nat, c < 8 → bt (sb D a) c = if (c : Int) = a then 1 else bt D c := by
  obtain ⟨d, rfl⟩ : ∃ d : Nat, D = d := ⟨D.toNat, by omega⟩
  obtain ⟨e, rfl⟩ : ∃ e : Nat, a = e := ⟨a.toNat, by omega⟩
  have h1 := List.all_eq_true.mp (List.all_eq_true.mp sb_all d (List.mem_range.mpr (by omega))) e (List.mem_range.mpr (by omega))
  unfold sb_ck at h1
  simp only [Bool.and_eq_true, decide_eq_true_eq, List.all_eq_true] at h1
  refine ⟨h1.1, fun c hc => ?_⟩
  rw [h1.2 c (List.mem_range.mpr hc)]
  by_cases hce : c = e
  · rw [if_pos hce, if_pos (by omega)]
  · rw [if_neg hce, if_neg (by omega)]
/-- how many acts of a pen are done -/
def cd (E : cm_E) (D v : Int) : Nat → Nat
  | 0 => 0
  | m + 1 => cd E D v m + (if gv E 95 m = v ∧ bt D m = 1 then 1 else 0)
def wr_ok (E : cm_E) (n : Int) : Prop := ∀ v : Int, cn E 98 v n.toNat ≤ cn E 95 v 8
def wd (E : cm_E) (D i : Int) : Prop := ∀ v : Int, cd E D v 8 = cn E 98 v i.toNat
def oo (E : cm_E) (n : Int) : Prop := ∀ v : Int, cn E 98 v n.toNat ≤ cn E 95 v (gv E 81 24).toNat
theorem cn_mono (E : cm_E) (c : Nat) (v : Int) {m n : Nat} (h : m ≤ n) : cn E c v m ≤ cn E c v n := by
  induction h with
  | refl => exact Nat.le_refl _
  | step _ ih => exact Nat.le_trans ih (Nat.le_add_right _ _)
theorem cd_lt {E : cm_E} {D v : Int} : ∀ m : Nat, cd E D v m < cn E 95 v m → ∃ a : Nat, a < m ∧ bt D a ≠ 1 ∧ gv E 95 a = v
  | 0, h => by unfold cd cn at h; omega
  | m + 1, h => by
    unfold cd cn at h
    by_cases h1 : gv E 95 m = v
    · by_cases h2 : bt D m = 1
      · rw [if_pos ⟨h1, h2⟩, if_pos h1] at h
        obtain ⟨a, a1, a2, a3⟩ := cd_lt (E := E) (D := D) (v := v) m (by omega)
        exact ⟨a, by omega, a2, a3⟩
      · exact ⟨m, by omega, h2, h1⟩
    · rw [if_neg (fun q => h1 q.1), if_neg h1] at h
      obtain ⟨a, a1, a2, a3⟩ := cd_lt (E := E) (D := D) (v := v) m (by omega)
      exact ⟨a, by omega, a2, a3⟩
theorem bt01 (D a : Int) : 0 ≤ bt D a ∧ bt D a ≤ 1 := ai_and_mask _ (by decide) (by decide)
theorem wr_ex {E : cm_E} {n D i : Int} (h : wr_ok E n) (hw : wd E D i) (hi : 0 ≤ i ∧ i < n) : ∃ a0 : Int, (0 ≤ a0 ∧ a0 ≤ 7) ∧ bt D a0 = 0 ∧ gv E 95 a0.toNat = gv E 98 i.toNat := by
  have h1 := h (gv E 98 i.toNat)
  have h2 := hw (gv E 98 i.toNat)
  have h3 := cn_mono E 98 (gv E 98 i.toNat) (show i.toNat + 1 ≤ n.toNat by omega)
  have h4 : cn E 98 (gv E 98 i.toNat) (i.toNat + 1) = cn E 98 (gv E 98 i.toNat) i.toNat + 1 := by
    show cn E 98 (gv E 98 i.toNat) i.toNat + (if gv E 98 i.toNat = gv E 98 i.toNat then 1 else 0) = _
    rw [if_pos rfl]
  obtain ⟨a, a1, a2, a3⟩ := cd_lt (E := E) (D := D) (v := gv E 98 i.toNat) 8 (by omega)
  refine ⟨a, by omega, ?_, a3⟩
  have := bt01 D a
  omega
theorem cd_set {E : cm_E} {D a v : Int} (hD : 0 ≤ D ∧ D < 256) (ha : 0 ≤ a ∧ a ≤ 7) (hb : bt D a = 0) : ∀ m : Nat, m ≤ 8 → cd E (sb D a) v m = cd E D v m + (if a < m ∧ gv E 95 a.toNat = v then 1 else 0)
  | 0, _ => by rw [if_neg (by omega)]; rfl
  | m + 1, hm => by
    have h1 := (sb_ok hD ha).2 m (by omega)
    have ih := cd_set (E := E) (v := v) hD ha hb m (by omega)
    unfold cd
    rw [ih, h1]
    by_cases hma : (m : Int) = a
    · have e1 : a.toNat = m := by omega
      have hb' : bt D (m : Int) = 0 := by rw [hma]; exact hb
      rw [if_pos hma, e1, if_neg (show ¬ (a < (m : Int) ∧ gv E 95 m = v) by omega), if_neg (show ¬ (gv E 95 m = v ∧ bt D (m : Int) = 1) by omega)]
      by_cases hv : gv E 95 m = v
      · rw [if_pos ⟨hv, rfl⟩, if_pos ⟨by omega, hv⟩]
      · rw [if_neg (fun q => hv q.1), if_neg (fun q => hv q.2)]
    · rw [if_neg hma]
      have e9 : (if a < (m : Int) ∧ gv E 95 a.toNat = v then 1 else 0) = (if a < ((m + 1 : Nat) : Int) ∧ gv E 95 a.toNat = v then 1 else 0) := by
        by_cases hq : a < (m : Int) ∧ gv E 95 a.toNat = v
        · rw [if_pos hq, if_pos ⟨by omega, hq.2⟩]
        · rw [if_neg hq, if_neg (fun q => hq ⟨by omega, q.2⟩)]
      rw [e9]; omega
theorem wd_next {E : cm_E} {D i a D' : Int} (h : wd E D i) (hD : 0 ≤ D ∧ D < 256) (ha : 0 ≤ a ∧ a ≤ 7) (hi : 0 ≤ i) (hb : bt D a = 0) (hv : gv E 95 a.toNat = gv E 98 i.toNat) (hs : D' = sb D a) : wd E D' (i + 1) ∧ 0 ≤ D' ∧ D' < 256 := by
  subst hs
  refine ⟨fun v => ?_, (sb_ok hD ha).1⟩
  rw [cd_set hD ha hb 8 (by omega), h v, show (i + 1).toNat = i.toNat + 1 by omega]
  show _ = cn E 98 v i.toNat + (if gv E 98 i.toNat = v then 1 else 0)
  rw [hv]
  by_cases hq : gv E 98 i.toNat = v
  · rw [if_pos ⟨by omega, hq⟩, if_pos hq]
  · rw [if_neg (fun q => hq q.2), if_neg hq]
theorem cd_0 {E : cm_E} {v : Int} : ∀ m : Nat, m ≤ 8 → cd E 0 v m = 0
  | 0, _ => rfl
  | m + 1, hm => by
    unfold cd
    have h1 := of_decide_eq_true (List.all_eq_true.mp bt_0 m (List.mem_range.mpr (by omega)))
    rw [cd_0 m (by omega), if_neg (fun q => by have := q.2; omega)]
theorem wd_0 (E : cm_E) : wd E 0 0 := fun v => by rw [cd_0 8 (by omega)]; rfl
theorem cn_fr {E E' : cm_E} {c : Nat} {v : Int} : ∀ {m : Nat}, (∀ k, k < m → gv E' c k = gv E c k) → cn E' c v m = cn E c v m
  | 0, _ => rfl
  | m + 1, h => by
    unfold cn
    rw [cn_fr (fun k hk => h k (by omega)), h m (by omega)]
theorem cn_fr' {P : Nat → Nat → Prop} {E E' : cm_E} {c : Nat} {v : Int} {m : Nat} (hf : cm_fr P E E') (hp : ∀ k, k < m → ¬ P c k) : cn E' c v m = cn E c v m := cn_fr (fun k hk => (gv_fr hf (hp k hk)).symm)
theorem oo.wr {E : cm_E} {n : Int} (h : oo E n) (hn : n ≤ gv E 81 24) (h8 : gv E 81 24 ≤ 8) : wr_ok E n := fun v => Nat.le_trans (h v) (cn_mono E 95 v (by omega))
theorem oo.fr {P : Nat → Nat → Prop} {E E' : cm_E} {n : Int} (h : oo E n) (hf : cm_fr P E E') (hp : ∀ i k, P i k → i ≠ 95 ∧ ¬ (i = 81 ∧ k = 24) ∧ (i = 98 → n.toNat ≤ k)) : oo E' n := fun v => by
  have e1 : gv E' 81 24 = gv E 81 24 := (gv_fr hf (fun q => (hp _ _ q).2.1 ⟨rfl, rfl⟩)).symm
  rw [cn_fr' hf (fun k hk q => by have := (hp _ _ q).2.2 rfl; omega), e1, cn_fr' hf (fun k hk q => (hp _ _ q).1 rfl)]
  exact h v
theorem oo_next {E E' : cm_E} {n p : Int} (h : oo E n) (hn : 0 ≤ n) (hlt : cn E 98 p n.toNat < cn E 95 p (gv E 81 24).toNat) (he : cm_up E 98 n.toNat (ai_i p) = E') : oo E' (n + 1) := fun v => by
  have e1 : gv E' 81 24 = gv E 81 24 := by rw [← he, gv_ne _ _ (by omega)]
  have e2 : ∀ m, cn E' 95 v m = cn E 95 v m := fun m => cn_fr (fun k hk => by rw [← he, gv_ne _ _ (by omega)])
  have e3 : cn E' 98 v n.toNat = cn E 98 v n.toNat := cn_fr (fun k hk => by rw [← he, gv_ne _ _ (by omega)])
  rw [e1, e2, show (n + 1).toNat = n.toNat + 1 by omega]
  show cn E' 98 v n.toNat + (if gv E' 98 n.toNat = v then 1 else 0) ≤ _
  rw [e3, ← he, gv_up]
  have h1 := h v
  by_cases hv : p = v
  · subst hv; rw [if_pos rfl]; omega
  · rw [if_neg hv]; exact h1
theorem oo_0 (E : cm_E) : oo E 0 := fun v => Nat.zero_le _
theorem cn_s (E : cm_E) (c : Nat) (v : Int) {i : Int} (hi : 0 ≤ i) : cn E c v (i + 1).toNat = cn E c v i.toNat + (if gv E c i.toNat = v then 1 else 0) := by
  rw [show (i + 1).toNat = i.toNat + 1 by omega]; rfl
