/-! ===== an abstract interpreter of the methods: values are intervals, script variables with an offset, null, references by place ===== -/
abbrev ai_V : Type := Nat × Int × Int
abbrev ai_C : Type := Nat × Nat × List ai_V × List (Nat × ai_V)
def ai_T (α : Type) : Nat → Type := fun d => Nat.rec α (fun _ t => t × t) d
abbrev ai_H : Type := ai_T ai_C 10
abbrev ai_E : Type := List (Int × Int)
abbrev ai_G : Type := ai_H × Nat × Nat × Nat × ai_E
abbrev ai_O : Type := Nat × ai_V × ai_G
abbrev ai_R : Type := List ai_O × Nat × Nat
abbrev ai_I : Type := Instr × Nat × Nat × Nat × Nat × List Nat
-- trees
noncomputable def ai_get {α : Type} (d : Nat) : ai_T α d → Nat → α :=
  Nat.rec (motive := fun d => ai_T α d → Nat → α) (fun t _ => t) (fun d ih t i => cond (Nat.ble (Nat.pow (nat_lit 2) d) i) (ih (Prod.snd t) (Nat.sub i (Nat.pow (nat_lit 2) d))) (ih (Prod.fst t) i)) d
noncomputable def ai_set {α : Type} (d : Nat) : ai_T α d → Nat → α → ai_T α d :=
  Nat.rec (motive := fun d => ai_T α d → Nat → α → ai_T α d) (fun _ _ c => c) (fun d ih t i c => cond (Nat.ble (Nat.pow (nat_lit 2) d) i) (Prod.mk (Prod.fst t) (ih (Prod.snd t) (Nat.sub i (Nat.pow (nat_lit 2) d)) c)) (Prod.mk (ih (Prod.fst t) i c) (Prod.snd t))) d
noncomputable def ai_rep {α : Type} (d : Nat) (c : α) : ai_T α d := Nat.rec (motive := ai_T α) c (fun _ t => (t, t)) d
-- lists
noncomputable def ai_nth {α : Type} (a0 : α) (l : List α) : Nat → α :=
  List.rec (motive := fun _ => Nat → α) (fun _ => a0) (fun a _ ih n => Nat.casesOn n a ih) l
noncomputable def ai_upd {α : Type} (l : List α) : Nat → α → List α :=
  List.rec (motive := fun _ => Nat → α → List α) (fun _ _ => []) (fun a t ih n v => Nat.casesOn n (v :: t) (fun n => a :: ih n v)) l
noncomputable def ai_lk (l : List (Nat × ai_V)) (dv : ai_V) (j : Nat) : ai_V :=
  List.rec (motive := fun _ => ai_V) dv (fun q _ ih => cond (Nat.beq q.1 j) q.2 ih) l
-- numbers
def ai_ile (a b : Int) : Bool := match a, b with
  | .ofNat a, .ofNat b => Nat.ble a b
  | .negSucc a, .negSucc b => Nat.ble b a
  | .ofNat _, .negSucc _ => false
  | .negSucc _, .ofNat _ => true
def ai_ieq (a b : Int) : Bool := match a, b with
  | .ofNat a, .ofNat b => Nat.beq a b
  | .negSucc a, .negSucc b => Nat.beq a b
  | _, _ => false
def ai_ilt (a b : Int) : Bool := !(ai_ile b a)
def ai_lo : Int := .negSucc (nat_lit 2147483647)
def ai_hi : Int := .ofNat (nat_lit 2147483647)
def ai_un : ai_V := (9, 0, 0)
def ai_i (c : Int) : ai_V := (0, c, c)
def ai_full : ai_V := (0, ai_lo, ai_hi)
def ai_nul : ai_V := (2, 0, 0)
noncomputable def ai_env (x : ai_E) (k : Nat) : Int × Int := ai_nth (ai_lo, ai_hi) x k
def ai_ok (lo hi : Int) : Bool := ai_ile ai_lo lo && ai_ile hi ai_hi
noncomputable def ai_rng (x : ai_E) (v : ai_V) : Option (Int × Int) :=
  match v with
  | (0, a, b) => some (a, b)
  | (1, a, b) => some (cond (ai_ok ((ai_env x a.toNat).1 + b) ((ai_env x a.toNat).2 + b)) ((ai_env x a.toNat).1 + b, (ai_env x a.toNat).2 + b) (ai_lo, ai_hi))
  | _ => none
/-- what is known of v besides: it lies in [lo, hi] -/
noncomputable def ai_ref (x : ai_E) (v : ai_V) (lo hi : Int) : ai_E :=
  match v with
  | (1, a, b) => cond (ai_ok ((ai_env x a.toNat).1 + b) ((ai_env x a.toNat).2 + b)) (ai_upd x a.toNat (max (ai_env x a.toNat).1 (lo - b), min (ai_env x a.toNat).2 (hi - b))) x
  | _ => x
def ai_norm (lo hi : Int) : ai_V := cond (ai_ok lo hi) (0, lo, hi) (cond (ai_ieq lo hi) (ai_i (Int32.ofInt lo).toInt) ai_full)
noncomputable def ai_add (u v : ai_V) : Option ai_V :=
  match u, v with
  | (0, a, b), (0, c, d) => some (ai_norm (a + c) (b + d))
  | (1, k, o), (0, c, d) => some (cond (ai_ieq c d) (1, k, o + c) ai_full)
  | (0, c, d), (1, k, o) => some (cond (ai_ieq c d) (1, k, o + c) ai_full)
  | (1, _, _), (1, _, _) => some ai_full
  | _, _ => none
noncomputable def ai_sub (u v : ai_V) : Option ai_V :=
  match u, v with
  | (0, a, b), (0, c, d) => some (ai_norm (a - d) (b - c))
  | (1, k, o), (0, c, d) => some (cond (ai_ieq c d) (1, k, o - c) ai_full)
  | (0, _, _), (1, _, _) => some ai_full
  | (1, _, _), (1, _, _) => some ai_full
  | _, _ => none
/-- a number's one value -/
noncomputable def ai_one (x : ai_E) (v : ai_V) : Option Int :=
  match ai_rng x v with
  | some (a, b) => cond (ai_ieq a b) (some a) none
  | none => none
noncomputable def ai_isn (v : ai_V) : Bool := Nat.ble v.1 1
/-- an operation that is done on known numbers alone -/
noncomputable def ai_con (f : Int32 → Int32 → Int32) (x : ai_E) (u v : ai_V) : Option ai_V :=
  match ai_one x u, ai_one x v with
  | some a, some b => some (ai_i (f (Int32.ofInt a) (Int32.ofInt b)).toInt)
  | _, _ => cond (ai_isn u && ai_isn v) (some ai_full) none
noncomputable def ai_mul (x : ai_E) (u v : ai_V) : Option ai_V :=
  match ai_one x u, ai_one x v with
  | some a, some b => some (ai_norm (a * b) (a * b))
  | _, _ => cond (ai_isn u && ai_isn v) (some ai_full) none
/-- the script's first number -/
def ai_v0 (u : ai_V) : Bool := Nat.beq u.1 (nat_lit 1) && ai_ieq u.2.1 0 && ai_ieq u.2.2 0
noncomputable def ai_and (x : ai_E) (u v : ai_V) : Option ai_V :=
  match ai_one x u, ai_one x v with
  | some a, some b => some (ai_i (Int32.ofInt a &&& Int32.ofInt b).toInt)
  | none, some b => cond (ai_v0 u && ai_ieq b 31) (some (1, 1008, 0)) (cond (ai_isn u && ai_ile (0) (b)) (some (0, 0, b)) (cond (ai_isn u) (some ai_full) none))
  | _, _ => cond (ai_isn u && ai_isn v) (some ai_full) none
noncomputable def ai_div (x : ai_E) (u v : ai_V) : Option ai_V :=
  match ai_one x v with
  | some b => cond (ai_ieq b 0) none (match u with
    | (1, 2, 0) => cond (ai_ieq b 100) (some (1, 1006, 0)) (some ai_full)
    | _ => match ai_one x u with
      | some a => some (ai_i (Int32.ofInt a / Int32.ofInt b).toInt)
      | none => cond (ai_isn u) (some ai_full) none)
  | none => none
noncomputable def ai_rem (x : ai_E) (u v : ai_V) : Option ai_V :=
  match ai_one x v with
  | some b => cond (ai_ieq b 0) none (match u with
    | (1, 2, 0) => cond (ai_ieq b 100) (some (1, 1007, 0)) (some ai_full)
    | _ => match ai_one x u with
      | some a => some (ai_i (Int32.ofInt a - Int32.ofInt a / Int32.ofInt b * Int32.ofInt b).toInt)
      | none => cond (ai_isn u) (some ai_full) none)
  | none => none
-- comparisons: the ways that they may go, each with what is known then
abbrev ai_B : Type := List (Bool × ai_E)
noncomputable def ai_lt (x : ai_E) (u v : ai_V) : Option ai_B :=
  match ai_rng x u, ai_rng x v with
  | some (a, b), some (c, d) => some ((cond (ai_ilt (a) (d)) [(true, ai_ref (ai_ref x u ai_lo (d - 1)) v (a + 1) ai_hi)] []) ++ (cond (ai_ile (c) (b)) [(false, ai_ref (ai_ref x u c ai_hi) v ai_lo b)] []))
  | _, _ => none
noncomputable def ai_le (x : ai_E) (u v : ai_V) : Option ai_B :=
  match ai_rng x u, ai_rng x v with
  | some (a, b), some (c, d) => some ((cond (ai_ile (a) (d)) [(true, ai_ref (ai_ref x u ai_lo d) v a ai_hi)] []) ++ (cond (ai_ilt (c) (b)) [(false, ai_ref (ai_ref x u (c + 1) ai_hi) v ai_lo (b - 1))] []))
  | _, _ => none
noncomputable def ai_eq (x : ai_E) (u v : ai_V) : Option ai_B :=
  match ai_rng x u, ai_rng x v with
  | some (a, b), some (c, d) => some ((cond (ai_ile (a) (d) && ai_ile (c) (b)) [(true, ai_ref (ai_ref x u c d) v a b)] []) ++
      (cond (Nat.beq u.1 1 && Nat.beq v.1 1 && ai_ieq u.2.1 v.2.1 && ai_ieq u.2.2 v.2.2) [] (cond (ai_ieq c d) ((cond (ai_ilt (a) (c)) [(false, ai_ref x u ai_lo (c - 1))] []) ++ (cond (ai_ilt (c) (b)) [(false, ai_ref x u (c + 1) ai_hi)] [])) [(false, x)])))
  | _, _ => none
def ai_neg (l : Option ai_B) : Option ai_B := match l with
  | some l => some (l.map (fun q => (!q.1, q.2)))
  | none => none
noncomputable def ai_cmp (k : ClassFile.Cond) (x : ai_E) (u v : ai_V) : Option ai_B :=
  match k with
  | .eq => ai_eq x u v
  | .ne => ai_neg (ai_eq x u v)
  | .lt => ai_lt x u v
  | .ge => ai_neg (ai_lt x u v)
  | .gt => ai_neg (ai_le x u v)
  | .le => ai_le x u v
/-- a number's values, one by one -/
noncomputable def ai_vals (x : ai_E) (v : ai_V) : Option (List (Nat × ai_E)) :=
  match ai_rng x v with
  | some (a, b) => cond (ai_ile (0) (a) && ai_ile (b) (a + 12)) (some ((List.range (b + 1 - a).toNat).map (fun i => (a.toNat + i, ai_ref x v (a + i) (a + i))))) none
  | none => none
-- what goes on behind an instruction: K pc locals stack state
abbrev ai_K4 : Type := Nat → List ai_V → List ai_V → ai_G → Option ai_R
abbrev ai_K : Type := Nat → List ai_V → ai_G → Option ai_R
abbrev ai_Op : Type := ai_K → ai_K4 → List ai_V → List ai_V → ai_G → Option ai_R
def ai_x (g : ai_G) : ai_E := Prod.snd (Prod.snd (Prod.snd (Prod.snd g)))
def ai_nx (g : ai_G) : Nat := Prod.fst (Prod.snd g)
def ai_kc (g : ai_G) : Nat := Prod.fst (Prod.snd (Prod.snd g))
def ai_ks (g : ai_G) : Nat := Prod.fst (Prod.snd (Prod.snd (Prod.snd g)))
def ai_ge (g : ai_G) (x : ai_E) : ai_G := (Prod.fst g, ai_nx g, ai_kc g, ai_ks g, x)
def ai_gh (g : ai_G) (h : ai_H) : ai_G := (h, Prod.snd g)
def ai_gk (g : ai_G) (a b : Nat) : ai_G := (Prod.fst g, ai_nx g, a, b, ai_x g)
def ai_join (r q : Option ai_R) : Option ai_R := match r with
  | none => none
  | some (o1, a1, b1) => match q with
    | none => none
    | some (o2, a2, b2) => some (o1 ++ o2, max a1 a2, max b1 b2)
/-- all of some ways on -/
def ai_all {α : Type} (k : α → Option ai_R) : List α → Option ai_R
  | [] => none
  | [q] => k q
  | q :: l => ai_join (k q) (ai_all k l)
def ai_br (pf pt : Nat) (K : ai_K4) (loc st : List ai_V) (g : ai_G) (b : Option ai_B) : Option ai_R := match b with
  | some l => ai_all (fun q => K (cond (Prod.fst q) pt pf) loc st (ai_ge g (Prod.snd q))) l
  | none => none
def ai_o_const (n : Int) (pc : Nat) : ai_Op := fun _ K loc st g => K pc loc (ai_i n :: st) g
def ai_o_lconst (n : Int) (pc : Nat) : ai_Op := fun _ K loc st g => K pc loc ((nat_lit 4, n, n) :: st) g
def ai_o_null (pc : Nat) : ai_Op := fun _ K loc st g => K pc loc (ai_nul :: st) g
/-- null or a reference -/
def ai_isr (t : Nat) : Bool := cond (Nat.ble t (nat_lit 3)) (Nat.ble (nat_lit 2) t) (Nat.beq t (nat_lit 6) || Nat.beq t (nat_lit 7))
noncomputable def ai_o_iload (k pc : Nat) : ai_Op := fun _ K loc st g => cond (Nat.ble (Prod.fst (ai_nth ai_un loc k)) (nat_lit 1)) (K pc loc (ai_nth ai_un loc k :: st) g) none
noncomputable def ai_o_aload (k pc : Nat) : ai_Op := fun _ K loc st g => cond (ai_isr (Prod.fst (ai_nth ai_un loc k))) (K pc loc (ai_nth ai_un loc k :: st) g) none
noncomputable def ai_o_istore (k pc : Nat) : ai_Op := fun _ K loc st g => match st with
  | v :: r => cond (Nat.ble (Prod.fst v) (nat_lit 1)) (K pc (ai_upd loc k v) r g) none
  | [] => none
noncomputable def ai_o_astore (k pc : Nat) : ai_Op := fun _ K loc st g => match st with
  | v :: r => cond (ai_isr (Prod.fst v)) (K pc (ai_upd loc k v) r g) none
  | [] => none
noncomputable def ai_o_inc (k : Nat) (n : Int) (pc : Nat) : ai_Op := fun _ K loc st g => match ai_add (ai_nth ai_un loc k) (ai_i n) with
  | some v => K pc (ai_upd loc k v) st g
  | none => none
noncomputable def ai_o_bin (f : ai_E → ai_V → ai_V → Option ai_V) (pc : Nat) : ai_Op := fun _ K loc st g => match st with
  | v :: t => match t with
    | u :: r => match f (ai_x g) u v with
      | some w => K pc loc (w :: r) g
      | none => none
    | [] => none
  | [] => none
noncomputable def ai_or : ai_E → ai_V → ai_V → Option ai_V := ai_con (fun a b => a ||| b)
noncomputable def ai_shl : ai_E → ai_V → ai_V → Option ai_V := ai_con (fun a b => a <<< (b &&& 31))
noncomputable def ai_shr : ai_E → ai_V → ai_V → Option ai_V := ai_con (fun a b => a >>> (b &&& 31))
noncomputable def ai_ushr : ai_E → ai_V → ai_V → Option ai_V := ai_con (fun a b => (a.toUInt32 >>> (b.toUInt32 &&& Int32.toUInt32 31)).toInt32)
noncomputable def ai_o_i2l (pc : Nat) : ai_Op := fun _ K loc st g => match st with
  | v :: r => cond (ai_isn v) (K pc loc ((Nat.add (Prod.fst v) (nat_lit 4), Prod.snd v) :: r) g) none
  | [] => none
noncomputable def ai_o_lcmp (pc : Nat) : ai_Op := fun _ K loc st g => match st with
  | v :: u :: r => cond (Nat.ble (nat_lit 4) (Prod.fst u) && Nat.ble (nat_lit 4) (Prod.fst v)) (match ai_eq (ai_x g) (Nat.sub (Prod.fst u) (nat_lit 4), Prod.snd u) (Nat.sub (Prod.fst v) (nat_lit 4), Prod.snd v) with
    | some l => ai_all (fun q => K pc loc ((cond (Prod.fst q) (ai_i 0) (0, -1, 1)) :: r) (ai_ge g (Prod.snd q))) l
    | none => none) none
  | _ => none
def ai_o_dup (pc : Nat) : ai_Op := fun _ K loc st g => match st with
  | v :: r => cond (Nat.ble (Prod.fst v) (nat_lit 3)) (K pc loc (v :: v :: r) g) none
  | [] => none
def ai_o_dup2 (pc : Nat) : ai_Op := fun _ K loc st g => match st with
  | v :: u :: r => cond (Nat.ble (Prod.fst v) (nat_lit 3) && Nat.ble (Prod.fst u) (nat_lit 3)) (K pc loc (v :: u :: v :: u :: r) g) none
  | _ => none
def ai_o_pop (pc : Nat) : ai_Op := fun _ K loc st g => match st with
  | v :: r => cond (Nat.ble (Prod.fst v) (nat_lit 3)) (K pc loc r g) none
  | [] => none
def ai_o_goto (pt : Nat) : ai_Op := fun _ K loc st g => K pt loc st g
noncomputable def ai_o_if (c : ClassFile.Cond) (pf pt : Nat) : ai_Op := fun _ K loc st g => match st with
  | u :: r => ai_br pf pt K loc r g (ai_cmp c (ai_x g) u (ai_i (.ofNat (nat_lit 0))))
  | [] => none
noncomputable def ai_o_icmp (c : ClassFile.Cond) (pf pt : Nat) : ai_Op := fun _ K loc st g => match st with
  | v :: t => match t with
    | u :: r => ai_br pf pt K loc r g (ai_cmp c (ai_x g) u v)
    | [] => none
  | [] => none
/-- pt: where null goes -/
def ai_o_isnull (pt pf : Nat) : ai_Op := fun _ K loc st g => match st with
  | v :: r => cond (Nat.beq (Prod.fst v) (nat_lit 2)) (K pt loc r g) (cond (Nat.beq (Prod.fst v) (nat_lit 3)) (K pf loc r g) none)
  | [] => none
/-- like references or not: both ways -/
def ai_o_acmp (pf pt : Nat) : ai_Op := fun _ K loc st g => match st with
  | v :: u :: r => cond (ai_isr (Prod.fst v) && ai_isr (Prod.fst u)) (ai_join (K pt loc r g) (K pf loc r g)) none
  | _ => none
noncomputable def ai_o_sw (lo hi : Int) (df : Nat) (ts : List Nat) : ai_Op := fun _ K loc st g => match st with
  | v :: st => match ai_rng (ai_x g) v with
    | some (a, b) => ai_all (fun (q : Nat × ai_E) => K (Prod.fst q) loc st (ai_ge g (Prod.snd q))) ((cond (ai_ilt a lo) [(df, ai_ref (ai_x g) v ai_lo (lo - 1))] []) ++ (cond (ai_ilt hi b) [(df, ai_ref (ai_x g) v (hi + 1) ai_hi)] []) ++
        ((List.range ts.length).filter (fun (i : Nat) => ai_ile a (lo + (i : Int)) && ai_ile (lo + (i : Int)) b)).map (fun (i : Nat) => (ai_nth df ts i, ai_ref (ai_x g) v (lo + (i : Int)) (lo + (i : Int)))))
    | none => none
  | [] => none
/-- the cell that a reference names, with its place -/
noncomputable def ai_cell (g : ai_G) (v : ai_V) : Option (Nat × ai_C) := cond (Nat.beq (Prod.fst v) (nat_lit 3) && Nat.blt (Prod.fst (Prod.snd v)).toNat (ai_nx g)) (some ((Prod.fst (Prod.snd v)).toNat, ai_get (nat_lit 10) (Prod.fst g) (Prod.fst (Prod.snd v)).toNat)) none
noncomputable def ai_o_getf (ci k pc : Nat) : ai_Op := fun _ K loc st g => match st with
  | v :: r => match ai_cell g v with
    | some (_, t, c, fs, _) => cond (Nat.beq t (nat_lit 0) && Nat.beq c ci && Nat.blt k fs.length) (K pc loc (ai_nth ai_un fs k :: r) g) none
    | none => none
  | [] => none
/-- may v stand in a field or an array of this type: 0 a number, 1 a truth value, 2 a reference -/
noncomputable def ai_fits (t : Nat) (x : ai_E) (v : ai_V) : Bool := match t with
  | 0 => ai_isn v
  | 1 => match ai_rng x v with
    | some (a, b) => ai_ile 0 a && ai_ile b 1
    | none => false
  | 2 => Nat.beq (Prod.fst v) (nat_lit 2) || Nat.beq (Prod.fst v) (nat_lit 3)
  | _ => false
noncomputable def ai_o_putf (ci k t pc : Nat) : ai_Op := fun _ K loc st g => match st with
  | v :: u :: r => match ai_cell g u with
    | some (i, tg, c, fs, z) => cond (Nat.beq tg (nat_lit 0) && Nat.beq c ci && Nat.blt k fs.length && ai_fits t (ai_x g) v) (K pc loc r (ai_gh g (ai_set (nat_lit 10) (Prod.fst g) i (tg, c, ai_upd fs k v, z)))) none
    | none => none
  | _ => none
noncomputable def ai_o_len (sl : Int × Int) (pc : Nat) : ai_Op := fun _ K loc st g => match st with
  | v :: r => cond (Nat.beq (Prod.fst v) (nat_lit 6)) (K pc loc ((nat_lit 0, sl) :: r) g) (match ai_cell g v with
    | some (_, t, n, _, _) => cond (Nat.ble (nat_lit 1) t) (K pc loc (ai_i (.ofNat n) :: r) g) none
    | none => none)
  | [] => none
/-- a number of the script: its value, if it is known -/
noncomputable def ai_sv (x : ai_E) (k : Nat) : ai_V := cond (ai_ieq (ai_env x k).1 (ai_env x k).2) (nat_lit 0, ai_env x k) (nat_lit 1, .ofNat k, 0)
/-- p: which kinds of array the instruction takes (1 int, 2 boolean, 3 long, 4 and on: references) -/
noncomputable def ai_o_ald (sl : Int × Int) (p : Nat → Bool) (pc : Nat) : ai_Op := fun _ K loc st g => match st with
  | i :: u :: r => match ai_vals (ai_x g) i with
    | some l => cond (Nat.beq (Prod.fst u) (nat_lit 6)) (cond (p 1 && l.all (fun q => ai_ilt (.ofNat (Prod.fst q)) (Prod.fst sl))) (ai_all (fun q => K pc loc (ai_sv (ai_x g) (Prod.fst q) :: r) (ai_ge g (Prod.snd q))) l) none)
      (match ai_cell g u with
      | some (_, t, n, d, us) => cond (p t && l.all (fun q => Nat.blt (Prod.fst q) n)) (ai_all (fun q => K pc loc (ai_lk us (ai_nth ai_un d (nat_lit 0)) (Prod.fst q) :: r) (ai_ge g (Prod.snd q))) l) none
      | none => none)
    | none => none
  | _ => none
def ai_is1 : Nat → Bool := fun t => Nat.beq t (nat_lit 1)
def ai_is2 : Nat → Bool := fun t => Nat.beq t (nat_lit 2)
def ai_is3 : Nat → Bool := fun t => Nat.beq t (nat_lit 3)
def ai_is4 : Nat → Bool := fun t => Nat.beq t (nat_lit 4) || Nat.beq t (nat_lit 5) || Nat.beq t (nat_lit 6)
/-- may v stand in an array of kind t: 1 a number, 2 a truth value, 3 a long, 4 and on references -/
noncomputable def ai_afit (t : Nat) (x : ai_E) (v : ai_V) : Bool := match t with
  | 1 => ai_isn v
  | 2 => ai_fits 1 x v
  | 3 => Nat.beq (Prod.fst v) (nat_lit 4) || Nat.beq (Prod.fst v) (nat_lit 5)
  | _ => false
noncomputable def ai_o_ast (k pc : Nat) : ai_Op := fun _ K loc st g => match st with
  | v :: i :: u :: r => match ai_cell g u with
    | some (a, t, n, d, us) => match ai_vals (ai_x g) i with
      | some l => cond (Nat.beq t k && l.all (fun q => Nat.blt (Prod.fst q) n) && ai_afit k (ai_x g) v) (ai_all (fun q => K pc loc r (ai_ge (ai_gh g (ai_set (nat_lit 10) (Prod.fst g) a (t, n, d, (Prod.fst q, v) :: us))) (Prod.snd q))) l) none
      | none => none
    | none => none
  | _ => none
/-- the class whose objects an array of kind t holds -/
def ai_ofk (t : Nat) : Nat := cond (Nat.beq t (nat_lit 4)) (nat_lit 3) (nat_lit 4)
noncomputable def ai_rfit (t : Nat) (g : ai_G) (v : ai_V) : Bool := cond (Nat.beq (Prod.fst v) (nat_lit 2)) true (match ai_cell g v with
  | some (_, tg, c, _, _) => Nat.beq tg (nat_lit 0) && Nat.beq c (ai_ofk t)
  | none => false)
noncomputable def ai_o_aast (pc : Nat) : ai_Op := fun _ K loc st g => match st with
  | v :: i :: u :: r => match ai_cell g u with
    | some (a, t, n, d, us) => match ai_vals (ai_x g) i with
      | some l => cond ((Nat.beq t (nat_lit 4) || Nat.beq t (nat_lit 5)) && l.all (fun q => Nat.blt (Prod.fst q) n) && ai_rfit t g v) (ai_all (fun q => K pc loc r (ai_ge (ai_gh g (ai_set (nat_lit 10) (Prod.fst g) a (t, n, d, (Prod.fst q, v) :: us))) (Prod.snd q))) l) none
      | none => none
    | none => none
  | _ => none
/-- a new cell c of s slots -/
noncomputable def ai_mk (c : ai_C) (s pc : Nat) (K : ai_K4) (loc st : List ai_V) (g : ai_G) : Option ai_R :=
  cond (Nat.blt (ai_nx g) (nat_lit 1024)) (K pc loc ((nat_lit 3, .ofNat (ai_nx g), 0) :: st) (ai_set (nat_lit 10) (Prod.fst g) (ai_nx g) c, Nat.succ (ai_nx g), Nat.succ (ai_kc g), Nat.add (ai_ks g) s, ai_x g)) none
/-- t: the array's kind; dv: what stands in it at first -/
noncomputable def ai_o_newa (t : Nat) (dv : ai_V) (pc : Nat) : ai_Op := fun _ K loc st g => match st with
  | n :: r => match ai_one (ai_x g) n with
    | some a => cond (ai_ile 0 a && ai_ile a 1000000) (ai_mk (t, a.toNat, [dv], []) a.toNat pc K loc r g) none
    | none => none
  | [] => none
noncomputable def ai_rows (n k : Nat) (h : ai_H) (b : Nat) : ai_H :=
  Nat.rec (motive := fun _ => ai_H) h (fun i h => ai_set (nat_lit 10) h (Nat.add b i) (nat_lit 1, k, [ai_i 0], [])) n
noncomputable def ai_o_mna (pc : Nat) : ai_Op := fun _ K loc st g => match st with
  | k :: n :: r => match ai_one (ai_x g) n with
    | some a => match ai_one (ai_x g) k with
      | some b => cond (ai_ile 0 a && ai_ile a 100 && ai_ile 0 b && ai_ile b 100 && Nat.ble (Nat.add (Nat.succ (ai_nx g)) a.toNat) (nat_lit 1024))
        (K pc loc ((nat_lit 3, .ofNat (ai_nx g), 0) :: r) (ai_rows a.toNat b.toNat (ai_set (nat_lit 10) (Prod.fst g) (ai_nx g) (nat_lit 6, a.toNat, [ai_nul], (List.range a.toNat).map (fun i => (i, (nat_lit 3, .ofNat (Nat.add (Nat.succ (ai_nx g)) i), 0))))) (Nat.succ (ai_nx g)),
          Nat.add (Nat.succ (ai_nx g)) a.toNat, Nat.add (Nat.succ (ai_kc g)) a.toNat, Nat.add (Nat.add (ai_ks g) a.toNat) (Nat.mul a.toNat b.toNat), ai_x g)) none
      | none => none
    | none => none
  | _ => none
noncomputable def ai_o_new (ci : Nat) (fs : List ai_V) (pc : Nat) : ai_Op := fun _ K loc st g => ai_mk (nat_lit 0, ci, fs, []) fs.length pc K loc st g
/-- a throw of kind k (2, 3) -/
def ai_o_throw (k : Nat) : ai_Op := fun _ _ _ st g => match st with
  | [] => some ([(k, ai_nul, ai_gk g (Nat.succ (ai_kc g)) (Nat.add (ai_ks g) (nat_lit 6)))], Nat.succ (ai_kc g), Nat.add (ai_ks g) (nat_lit 6))
  | _ => none
/-- what comes behind a call's outcome: h2, h3: the handlers' places (0: it leaves the method) -/
def ai_cont (pc : Nat) (K : ai_K4) (loc st : List ai_V) (h2 h3 x1 x2 : Nat) (q : ai_O) : Option ai_R :=
  cond (Nat.beq (Prod.fst q) (nat_lit 0)) (K pc loc st (ai_gk (Prod.snd (Prod.snd q)) x1 x2))
  (cond (Nat.beq (Prod.fst q) (nat_lit 1)) (K pc loc (Prod.fst (Prod.snd q) :: st) (ai_gk (Prod.snd (Prod.snd q)) x1 x2))
  (cond (Nat.beq (Prod.fst q) (nat_lit 2)) (cond (Nat.beq h2 (nat_lit 0)) (some ([(nat_lit 2, Prod.fst (Prod.snd q), ai_gk (Prod.snd (Prod.snd q)) x1 x2)], x1, x2)) (K h2 loc [(nat_lit 7, 0, 0)] (ai_gk (Prod.snd (Prod.snd q)) x1 x2)))
  (cond (Nat.beq (Prod.fst q) (nat_lit 3)) (cond (Nat.beq h3 (nat_lit 0)) (some ([(nat_lit 3, Prod.fst (Prod.snd q), ai_gk (Prod.snd (Prod.snd q)) x1 x2)], x1, x2)) (K h3 loc [(nat_lit 7, 0, 0)] (ai_gk (Prod.snd (Prod.snd q)) x1 x2))) none)))
/-- a value of one word -/
def ai_w1 (v : ai_V) : Bool := Nat.ble (Prod.fst v) (nat_lit 3)
/-- vk: a callee that may throw -/
noncomputable def ai_o_call (vk : Bool) (j n h2 h3 pc : Nat) : ai_Op := fun call K loc st g =>
  cond (Nat.ble n st.length && (Nat.ble (st.drop n).length (nat_lit 5) && (st.drop n).all ai_w1)) (match call j (st.take n).reverse g with
  | some (os, x1, x2) => cond ((vk || os.all (fun q => Nat.ble (Prod.fst q) (nat_lit 1))) && (Nat.ble (ai_kc g) x1 && Nat.ble (ai_ks g) x2)) (ai_all (ai_cont pc K loc (st.drop n) h2 h3 x1 x2) os) none
  | none => none) none
/-- the receiver is an object -/
noncomputable def ai_o_virt (vk : Bool) (ci j n h2 h3 pc : Nat) : ai_Op := fun call K loc st g =>
  match ai_cell g (ai_nth ai_un st (Nat.pred n)) with
  | some (_, t, c, _, _) => cond (Nat.beq t (nat_lit 0) && Nat.beq c ci) (ai_o_call vk j n h2 h3 pc call K loc st g) none
  | none => none
/-- Math.max, Math.min -/
noncomputable def ai_o_mm (mx : Bool) (pc : Nat) : ai_Op := fun _ K loc st g => match st with
  | v :: t => match t with
    | u :: r => cond (Nat.ble r.length (nat_lit 4)) (match cond mx (ai_lt (ai_x g) u v) (ai_lt (ai_x g) v u) with
      | some l => ai_all (fun q => K pc loc ((cond (Prod.fst q) v u) :: r) (ai_ge g (Prod.snd q))) l
      | none => none) none
    | [] => none
  | [] => none
def ai_o_oinit (pc : Nat) : ai_Op := fun _ K loc st g => match st with
  | [v] => cond (Nat.beq (Prod.fst v) (nat_lit 3)) (K pc loc [] g) none
  | _ => none
noncomputable def ai_cp (us vs : List (Nat × ai_V)) (d0 : ai_V) (sp dp n : Nat) : List (Nat × ai_V) := (List.range n).map (fun i => (Nat.add dp i, ai_lk us d0 (Nat.add sp i))) ++ vs
noncomputable def ai_o_copy (pc : Nat) : ai_Op := fun _ K loc st g => match st with
  | [n, dp, d, sp, s] => match ai_cell g s with
    | some (i, t1, ns, ds, us) => match ai_cell g d with
      | some (j, t2, nd, dd, vs) => match ai_one (ai_x g) n with
        | some n => match ai_one (ai_x g) dp with
          | some dp => match ai_one (ai_x g) sp with
            | some sp => cond (Nat.beq t1 (nat_lit 1) && Nat.beq t2 (nat_lit 1) && ai_ile 0 n && ai_ile 0 dp && ai_ile 0 sp && Nat.ble (Nat.add sp.toNat n.toNat) ns && Nat.ble (Nat.add dp.toNat n.toNat) nd && !(Nat.beq i j))
                (K pc loc [] (ai_gh g (ai_set (nat_lit 10) (Prod.fst g) j (t2, nd, dd, ai_cp us vs (ai_nth ai_un ds (nat_lit 0)) sp.toNat dp.toNat n.toNat)))) none
            | none => none
          | none => none
        | none => none
      | none => none
    | none => none
  | _ => none
def ai_end (k : Nat) (v : ai_V) (g : ai_G) : Option ai_R := some ([(k, v, g)], ai_kc g, ai_ks g)
noncomputable def ai_o_iret : ai_Op := fun _ _ _ st g => match st with
  | [v] => cond (ai_isn v) (ai_end (nat_lit 1) v g) none
  | _ => none
/-- a truth value is answered -/
noncomputable def ai_o_zret : ai_Op := fun _ _ _ st g => match st with
  | [v] => cond (ai_fits 1 (ai_x g) v) (ai_end (nat_lit 1) v g) none
  | _ => none
def ai_o_aret : ai_Op := fun _ _ _ st g => match st with
  | [v] => cond (Nat.beq (Prod.fst v) (nat_lit 2) || Nat.beq (Prod.fst v) (nat_lit 3)) (ai_end (nat_lit 1) v g) none
  | _ => none
def ai_o_vret : ai_Op := fun _ _ _ st g => match st with
  | [] => ai_end (nat_lit 0) ai_nul g
  | _ => none
def ai_fld (c : Nat) : List ai_V := cond (Nat.ble c 3) (cond (Nat.ble c 1) (cond (Nat.ble c 0) (cond (Nat.beq c 0) ([ai_nul, ai_nul, ai_nul, ai_i 0, ai_i 0, ai_i 0, ai_i 0, ai_i 0]) ([])) (cond (Nat.beq c 1) ([ai_nul, ai_nul, ai_i 0, ai_i 0]) ([]))) (cond (Nat.ble c 2) (cond (Nat.beq c 2) ([ai_nul, ai_i 0]) ([])) (cond (Nat.beq c 3) ([ai_i 0, ai_nul, ai_nul, ai_nul, ai_i 0, ai_i 0]) ([])))) (cond (Nat.ble c 5) (cond (Nat.ble c 4) (cond (Nat.beq c 4) ([ai_nul]) ([])) (cond (Nat.beq c 5) ([ai_nul, ai_nul, ai_nul, ai_nul, ai_nul, ai_nul, ai_nul, ai_nul, ai_i 0, ai_i 0, ai_i 0, ai_i 0, ai_i 0]) ([]))) (cond (Nat.ble c 6) (cond (Nat.beq c 6) ([ai_nul, ai_nul, ai_nul, ai_nul, ai_nul, ai_nul, ai_nul, ai_i 0, ai_i 0]) ([])) (cond (Nat.ble c 7) (cond (Nat.beq c 7) ([ai_nul, ai_nul, ai_nul, ai_nul, ai_nul, ai_nul, ai_nul, ai_nul, ai_nul, ai_nul, ai_i 0, ai_i 0, ai_i 0, ai_i 0, ai_i 0]) ([])) (cond (Nat.beq c 8) ([ai_i 0, ai_i 0, ai_nul, ai_nul, ai_nul, ai_nul, ai_nul, ai_nul, ai_nul, ai_nul, ai_nul, ai_nul, ai_i 0, ai_i 0, ai_nul, ai_nul, ai_i 0, ai_i 0, ai_i 0, ai_i 0, ai_i 0, ai_i 0, ai_i 0, ai_i 0, ai_i 0, ai_nul, ai_nul, ai_nul, ai_nul, ai_nul, ai_nul, ai_nul, ai_i 0, ai_i 0, ai_i 0, ai_nul, ai_nul, ai_nul]) ([])))))
/-- the operation of an instruction: npc, k0, k1, k2, ks as the table has them -/
noncomputable def ai_sem (sl : Int × Int) (e : ai_I) : Option ai_Op := match e with
  | (i, pc, k0, k1, k2, ks) => match i with
    | .iconst n => some (ai_o_const n pc)
    | .bipush n => some (ai_o_const n pc)
    | .sipush n => some (ai_o_const n pc)
    | .ldc _ => some (ai_o_const (.ofNat k0) pc)
    | .ldc_w _ => some (ai_o_const (.ofNat k0) pc)
    | .lconst _ => some (ai_o_lconst (.ofNat k0) pc)
    | .aconst_null => some (ai_o_null pc)
    | .iload _ => some (ai_o_iload k0 pc)
    | .iload_n _ => some (ai_o_iload k0 pc)
    | .aload _ => some (ai_o_aload k0 pc)
    | .aload_n _ => some (ai_o_aload k0 pc)
    | .istore _ => some (ai_o_istore k0 pc)
    | .istore_n _ => some (ai_o_istore k0 pc)
    | .astore _ => some (ai_o_astore k0 pc)
    | .astore_n _ => some (ai_o_astore k0 pc)
    | .iinc _ n => some (ai_o_inc k0 n pc)
    | .iadd => some (ai_o_bin (fun _ => ai_add) pc)
    | .isub => some (ai_o_bin (fun _ => ai_sub) pc)
    | .imul => some (ai_o_bin ai_mul pc)
    | .idiv => some (ai_o_bin ai_div pc)
    | .irem => some (ai_o_bin ai_rem pc)
    | .iand => some (ai_o_bin ai_and pc)
    | .ior => some (ai_o_bin ai_or pc)
    | .ishl => some (ai_o_bin ai_shl pc)
    | .ishr => some (ai_o_bin ai_shr pc)
    | .iushr => some (ai_o_bin ai_ushr pc)
    | .i2l => some (ai_o_i2l pc)
    | .lcmp => some (ai_o_lcmp pc)
    | .dup => some (ai_o_dup pc)
    | .dup2 => some (ai_o_dup2 pc)
    | .pop => some (ai_o_pop pc)
    | .goto _ => some (ai_o_goto k0)
    | .ifCond c _ => some (ai_o_if c pc k0)
    | .if_icmp c _ => some (ai_o_icmp c pc k0)
    | .if_acmp _ _ => some (ai_o_acmp pc k0)
    | .ifnull _ => some (ai_o_isnull k0 pc)
    | .ifnonnull _ => some (ai_o_isnull pc k0)
    | .tableswitch _ lo hi _ => some (ai_o_sw lo hi k0 ks)
    | .getfield _ => some (ai_o_getf k0 k1 pc)
    | .putfield _ => some (ai_o_putf k0 k1 k2 pc)
    | .arraylength => some (ai_o_len sl pc)
    | .iaload => some (ai_o_ald sl ai_is1 pc)
    | .baload => some (ai_o_ald sl ai_is2 pc)
    | .laload => some (ai_o_ald sl ai_is3 pc)
    | .aaload => some (ai_o_ald sl ai_is4 pc)
    | .iastore => some (ai_o_ast 1 pc)
    | .bastore => some (ai_o_ast 2 pc)
    | .lastore => some (ai_o_ast 3 pc)
    | .aastore => some (ai_o_aast pc)
    | .newarray _ => some (ai_o_newa k0 (k1, 0, 0) pc)
    | .anewarray _ => some (ai_o_newa k0 ai_nul pc)
    | .multianewarray _ _ => some (ai_o_mna pc)
    | .new _ => match k2 with
      | 0 => some (ai_o_new k0 (ai_fld k0) pc)
      | _ => some (ai_o_throw k0)
    | .invokevirtual _ => some (ai_o_virt true (ai_nth 0 ks 0) k0 k1 (ai_nth 0 ks 1) (ai_nth 0 ks 2) pc)
    | .invokespecial _ => match k2 with
      | 5 => some (ai_o_oinit pc)
      | _ => some (ai_o_virt false (ai_nth 0 ks 0) k0 k1 0 0 pc)
    | .invokestatic _ => match k2 with
      | 6 => some (ai_o_copy pc)
      | 8 => some (ai_o_mm true pc)
      | 9 => some (ai_o_mm false pc)
      | _ => some (ai_o_call false k0 k1 0 0 pc)
    | .ireturn => match k0 with
      | 0 => some ai_o_iret
      | _ => some ai_o_zret
    | .areturn => some ai_o_aret
    | .return_ => some ai_o_vret
    | _ => none
/-- the operation at a place of a method's list -/
noncomputable def ai_find (l : List (Nat × ai_I)) (sl : Int × Int) (pc : Nat) : Option ai_Op :=
  List.rec (motive := fun _ => Option ai_Op) none (fun q _ ih => cond (Nat.beq (Prod.fst q) pc) (ai_sem sl (Prod.snd q)) ih) l
/-- a run: from a frame to the method's outcomes, with the most cells and slots on the way -/
noncomputable def ai_run (code : Nat → Option ai_Op) (call : ai_K) (n : Nat) : ai_K4 :=
  Nat.rec (motive := fun _ => ai_K4) (fun _ _ _ _ => none) (fun _ ih pc loc st g => match code pc with
    | none => none
    | some o => o call ih loc st g) n
