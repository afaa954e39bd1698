set_option maxRecDepth 16384 in
theorem ini_c0 : ∀ k, k < 15 → cs_typ iT96 iE241 105 (cs_ty 0 k) (iE241 0 k)
  | 0, _ => Or.inr (Or.inl ⟨rfl, rfl⟩)
  | 1, _ => Or.inr (Or.inl ⟨rfl, rfl⟩)
  | 2, _ => Or.inr (Or.inl ⟨rfl, rfl⟩)
  | 3, _ => Or.inr (Or.inl ⟨rfl, rfl⟩)
  | 4, _ => Or.inr (Or.inl ⟨rfl, rfl⟩)
  | 5, _ => Or.inr (Or.inl ⟨rfl, rfl⟩)
  | 6, _ => Or.inr (Or.inl ⟨rfl, rfl⟩)
  | 7, _ => Or.inr (Or.inl ⟨rfl, rfl⟩)
  | 8, _ => Or.inr (Or.inl ⟨rfl, rfl⟩)
  | 9, _ => Or.inr (Or.inl ⟨rfl, rfl⟩)
  | 10, _ => Or.inl ⟨rfl, 2, rfl, (show (1 : Int) ≤ 2 by decide), (show (2 : Int) ≤ 5 by decide)⟩
  | 11, _ => Or.inl ⟨rfl, 0, rfl, (show (0 : Int) ≤ 0 by decide), (show (0 : Int) ≤ 400 by decide)⟩
  | 12, _ => Or.inl ⟨rfl, (-1), rfl, (show (-1 : Int) ≤ (-1) by decide), (show ((-1) : Int) ≤ 400 by decide)⟩
  | 13, _ => Or.inl ⟨rfl, (-1), rfl, (show (-1 : Int) ≤ (-1) by decide), (show ((-1) : Int) ≤ 4 by decide)⟩
  | 14, _ => Or.inl ⟨rfl, 0, rfl, (show (0 : Int) ≤ 0 by decide), (show (0 : Int) ≤ 1 by decide)⟩
  | k + 15, h => absurd h (by omega)
set_option maxRecDepth 16384 in
theorem ini_c1 : ∀ k, k < 5 → cs_typ iT96 iE241 105 (cs_ty 1 k) (iE241 1 k)
  | 0, _ => Or.inr (Or.inl ⟨rfl, rfl⟩)
  | 1, _ => Or.inr (Or.inl ⟨rfl, rfl⟩)
  | 2, _ => Or.inr (Or.inl ⟨rfl, rfl⟩)
  | 3, _ => Or.inr (Or.inl ⟨rfl, rfl⟩)
  | 4, _ => Or.inr (Or.inl ⟨rfl, rfl⟩)
  | k + 5, h => absurd h (by omega)
set_option maxRecDepth 16384 in
theorem ini_c2 : ∀ k, k < 5 → cs_typ iT96 iE241 105 (cs_ty 2 k) (iE241 2 k)
  | 0, _ => Or.inr (Or.inl ⟨rfl, rfl⟩)
  | 1, _ => Or.inr (Or.inl ⟨rfl, rfl⟩)
  | 2, _ => Or.inr (Or.inl ⟨rfl, rfl⟩)
  | 3, _ => Or.inr (Or.inl ⟨rfl, rfl⟩)
  | 4, _ => Or.inr (Or.inl ⟨rfl, rfl⟩)
  | k + 5, h => absurd h (by omega)
set_option maxRecDepth 16384 in
theorem ini_c3 : ∀ k, k < 3 → cs_typ iT96 iE241 105 (cs_ty 3 k) (iE241 3 k) := fun k _ => Or.inl ⟨rfl, 0, rfl, (show (-2147483648 : Int) ≤ 0 by decide), (show (0 : Int) ≤ 2147483647 by decide)⟩
set_option maxRecDepth 16384 in
theorem ini_c4 : ∀ k, k < 3 → cs_typ iT96 iE241 105 (cs_ty 4 k) (iE241 4 k) := fun k _ => Or.inl ⟨rfl, 0, rfl, (show (-2147483648 : Int) ≤ 0 by decide), (show (0 : Int) ≤ 2147483647 by decide)⟩
set_option maxRecDepth 16384 in
theorem ini_c5 : ∀ k, k < 400 → cs_typ iT96 iE241 105 (cs_ty 5 k) (iE241 5 k) := fun k _ => Or.inl ⟨rfl, 0, rfl, (show (0 : Int) ≤ 0 by decide), (show (0 : Int) ≤ 255 by decide)⟩
set_option maxRecDepth 16384 in
theorem ini_c6 : ∀ k, k < 9 → cs_typ iT96 iE241 105 (cs_ty 6 k) (iE241 6 k)
  | 0, _ => Or.inr (Or.inl ⟨rfl, rfl⟩)
  | 1, _ => Or.inr (Or.inl ⟨rfl, rfl⟩)
  | 2, _ => Or.inr (Or.inl ⟨rfl, rfl⟩)
  | 3, _ => Or.inr (Or.inl ⟨rfl, rfl⟩)
  | 4, _ => Or.inr (Or.inl ⟨rfl, rfl⟩)
  | 5, _ => Or.inr (Or.inl ⟨rfl, rfl⟩)
  | 6, _ => Or.inr (Or.inl ⟨rfl, rfl⟩)
  | 7, _ => Or.inl ⟨rfl, 0, rfl, (show (0 : Int) ≤ 0 by decide), (show (0 : Int) ≤ 300 by decide)⟩
  | 8, _ => Or.inl ⟨rfl, 0, rfl, (show (0 : Int) ≤ 0 by decide), (show (0 : Int) ≤ 300 by decide)⟩
  | k + 9, h => absurd h (by omega)
set_option maxRecDepth 16384 in
theorem ini_c7 : ∀ k, k < 300 → cs_typ iT96 iE241 105 (cs_ty 7 k) (iE241 7 k) := fun k _ => Or.inl ⟨rfl, 0, rfl, (show (0 : Int) ≤ 0 by decide), (show (0 : Int) ≤ 1 by decide)⟩
set_option maxRecDepth 16384 in
theorem ini_c8 : ∀ k, k < 300 → cs_typ iT96 iE241 105 (cs_ty 8 k) (iE241 8 k) := fun k _ => Or.inl ⟨rfl, 0, rfl, (show (0 : Int) ≤ 0 by decide), (show (0 : Int) ≤ 1 by decide)⟩
set_option maxRecDepth 16384 in
theorem ini_c9 : ∀ k, k < 300 → cs_typ iT96 iE241 105 (cs_ty 9 k) (iE241 9 k) := fun k _ => Or.inr (Or.inr (Or.inl ⟨rfl, Or.inl rfl⟩))
set_option maxRecDepth 16384 in
theorem ini_c10 : ∀ k, k < 300 → cs_typ iT96 iE241 105 (cs_ty 10 k) (iE241 10 k) := fun k _ => Or.inl ⟨rfl, 0, rfl, (show (0 : Int) ≤ 0 by decide), (show (0 : Int) ≤ 140000 by decide)⟩
set_option maxRecDepth 16384 in
theorem ini_c11 : ∀ k, k < 300 → cs_typ iT96 iE241 105 (cs_ty 11 k) (iE241 11 k) := fun k _ => Or.inl ⟨rfl, 0, rfl, (show (0 : Int) ≤ 0 by decide), (show (0 : Int) ≤ 299 by decide)⟩
set_option maxRecDepth 16384 in
theorem ini_c12 : ∀ k, k < 300 → cs_typ iT96 iE241 105 (cs_ty 12 k) (iE241 12 k) := fun k _ => Or.inl ⟨rfl, 0, rfl, (show (0 : Int) ≤ 0 by decide), (show (0 : Int) ≤ 299 by decide)⟩
set_option maxRecDepth 16384 in
theorem ini_c13 : ∀ k, k < 5 → cs_typ iT96 iE241 105 (cs_ty 13 k) (iE241 13 k) := fun k _ => Or.inl ⟨rfl, 0, rfl, (show (-1 : Int) ≤ 0 by decide), (show (0 : Int) ≤ 60 by decide)⟩
set_option maxRecDepth 16384 in
theorem ini_c14 : ∀ k, k < 4 → cs_typ iT96 iE241 105 (cs_ty 14 k) (iE241 14 k)
  | 0, _ => Or.inr (Or.inl ⟨rfl, rfl⟩)
  | 1, _ => Or.inr (Or.inl ⟨rfl, rfl⟩)
  | 2, _ => Or.inl ⟨rfl, 0, rfl, (show (0 : Int) ≤ 0 by decide), (show (0 : Int) ≤ 24 by decide)⟩
  | 3, _ => Or.inl ⟨rfl, 0, rfl, (show (0 : Int) ≤ 0 by decide), (show (0 : Int) ≤ 24 by decide)⟩
  | k + 4, h => absurd h (by omega)
set_option maxRecDepth 16384 in
theorem ini_c15 : ∀ k, k < 24 → cs_typ iT96 iE241 105 (cs_ty 15 k) (iE241 15 k) := fun k _ => Or.inl ⟨rfl, 0, rfl, (show (0 : Int) ≤ 0 by decide), (show (0 : Int) ≤ 65535 by decide)⟩
set_option maxRecDepth 16384 in
theorem ini_c16 : ∀ k, k < 24 → cs_typ iT96 iE241 105 (cs_ty 16 k) (iE241 16 k) := fun k _ => Or.inl ⟨rfl, 0, rfl, (show (0 : Int) ≤ 0 by decide), (show (0 : Int) ≤ 65535 by decide)⟩
set_option maxRecDepth 16384 in
theorem ini_c17 : ∀ k, k < 2 → cs_typ iT96 iE241 105 (cs_ty 17 k) (iE241 17 k)
  | 0, _ => Or.inr (Or.inl ⟨rfl, rfl⟩)
  | 1, _ => Or.inl ⟨rfl, 0, rfl, (show (0 : Int) ≤ 0 by decide), (show (0 : Int) ≤ 400 by decide)⟩
  | k + 2, h => absurd h (by omega)
set_option maxRecDepth 16384 in
theorem ini_c18 : ∀ k, k < 400 → cs_typ iT96 iE241 105 (cs_ty 18 k) (iE241 18 k) := fun k _ => Or.inl ⟨rfl, 0, rfl, (show (0 : Int) ≤ 0 by decide), (show (0 : Int) ≤ 255 by decide)⟩
set_option maxRecDepth 16384 in
theorem ini_c19 : ∀ k, k < 8 → cs_typ iT96 iE241 105 (cs_ty 19 k) (iE241 19 k)
  | 0, _ => Or.inr (Or.inl ⟨rfl, rfl⟩)
  | 1, _ => Or.inr (Or.inl ⟨rfl, rfl⟩)
  | 2, _ => Or.inr (Or.inr (Or.inr (Or.inr ⟨rfl, Or.inr rfl⟩)))
  | 3, _ => Or.inl ⟨rfl, 0, rfl, (show (0 : Int) ≤ 0 by decide), (show (0 : Int) ≤ 400 by decide)⟩
  | 4, _ => Or.inl ⟨rfl, 0, rfl, (show (0 : Int) ≤ 0 by decide), (show (0 : Int) ≤ 400 by decide)⟩
  | 5, _ => Or.inl ⟨rfl, 0, rfl, (show (0 : Int) ≤ 0 by decide), (show (0 : Int) ≤ 5 by decide)⟩
  | 6, _ => Or.inl ⟨rfl, 0, rfl, (show (0 : Int) ≤ 0 by decide), (show (0 : Int) ≤ 3 by decide)⟩
  | 7, _ => Or.inl ⟨rfl, 0, rfl, (show (0 : Int) ≤ 0 by decide), (show (0 : Int) ≤ 400 by decide)⟩
  | k + 8, h => absurd h (by omega)
set_option maxRecDepth 16384 in
theorem ini_c20 : ∀ k, k < 5 → cs_typ iT96 iE241 105 (cs_ty 20 k) (iE241 20 k) := fun k _ => Or.inl ⟨rfl, 0, rfl, (show (0 : Int) ≤ 0 by decide), (show (0 : Int) ≤ 255 by decide)⟩
set_option maxRecDepth 16384 in
theorem ini_c21 : ∀ k, k < 6 → cs_typ iT96 iE241 105 (cs_ty 21 k) (iE241 21 k) := fun k _ => Or.inl ⟨rfl, 0, rfl, (show (-1 : Int) ≤ 0 by decide), (show (0 : Int) ≤ 70000 by decide)⟩
set_option maxRecDepth 16384 in
theorem ini_c22 : ∀ k, k < 0 → cs_typ iT96 iE241 105 (cs_ty 22 k) (iE241 22 k) := fun k _ => Or.inl ⟨rfl, 0, rfl, (show (0 : Int) ≤ 0 by decide), (show (0 : Int) ≤ 0 by decide)⟩
set_option maxRecDepth 16384 in
theorem ini_c23 : ∀ k, k < 13 → cs_typ iT96 iE241 105 (cs_ty 23 k) (iE241 23 k)
  | 0, _ => Or.inr (Or.inl ⟨rfl, rfl⟩)
  | 1, _ => Or.inr (Or.inl ⟨rfl, rfl⟩)
  | 2, _ => Or.inr (Or.inl ⟨rfl, rfl⟩)
  | 3, _ => Or.inr (Or.inl ⟨rfl, rfl⟩)
  | 4, _ => Or.inr (Or.inl ⟨rfl, rfl⟩)
  | 5, _ => Or.inr (Or.inl ⟨rfl, rfl⟩)
  | 6, _ => Or.inr (Or.inl ⟨rfl, rfl⟩)
  | 7, _ => Or.inr (Or.inl ⟨rfl, rfl⟩)
  | 8, _ => Or.inl ⟨rfl, 0, rfl, (show (0 : Int) ≤ 0 by decide), (show (0 : Int) ≤ 12 by decide)⟩
  | 9, _ => Or.inl ⟨rfl, 0, rfl, (show (0 : Int) ≤ 0 by decide), (show (0 : Int) ≤ 8 by decide)⟩
  | 10, _ => Or.inl ⟨rfl, 0, rfl, (show (-2147483648 : Int) ≤ 0 by decide), (show (0 : Int) ≤ 2147483647 by decide)⟩
  | 11, _ => Or.inl ⟨rfl, 0, rfl, (show (-2147483648 : Int) ≤ 0 by decide), (show (0 : Int) ≤ 2147483647 by decide)⟩
  | 12, _ => Or.inl ⟨rfl, 0, rfl, (show (0 : Int) ≤ 0 by decide), (show (0 : Int) ≤ 1 by decide)⟩
  | k + 13, h => absurd h (by omega)
set_option maxRecDepth 16384 in
theorem ini_c24 : ∀ k, k < 12 → cs_typ iT96 iE241 105 (cs_ty 24 k) (iE241 24 k) := fun k _ => Or.inl ⟨rfl, 0, rfl, (show (0 : Int) ≤ 0 by decide), (show (0 : Int) ≤ 126 by decide)⟩
set_option maxRecDepth 16384 in
theorem ini_c25 : ∀ k, k < 8 → cs_typ iT96 iE241 105 (cs_ty 25 k) (iE241 25 k) := fun k _ => Or.inl ⟨rfl, 0, rfl, (show (0 : Int) ≤ 0 by decide), (show (0 : Int) ≤ 2 by decide)⟩
set_option maxRecDepth 16384 in
theorem ini_c26 : ∀ k, k < 8 → cs_typ iT96 iE241 105 (cs_ty 26 k) (iE241 26 k) := fun k _ => Or.inl ⟨rfl, 0, rfl, (show (0 : Int) ≤ 0 by decide), (show (0 : Int) ≤ 7 by decide)⟩
set_option maxRecDepth 16384 in
theorem ini_c27 : ∀ k, k < 8 → cs_typ iT96 iE241 105 (cs_ty 27 k) (iE241 27 k) := fun k _ => Or.inl ⟨rfl, 0, rfl, (show (-1 : Int) ≤ 0 by decide), (show (0 : Int) ≤ 126 by decide)⟩
set_option maxRecDepth 16384 in
theorem ini_c28 : ∀ k, k < 8 → cs_typ iT96 iE241 105 (cs_ty 28 k) (iE241 28 k) := fun k _ => Or.inl ⟨rfl, 0, rfl, (show (0 : Int) ≤ 0 by decide), (show (0 : Int) ≤ 2 by decide)⟩
set_option maxRecDepth 16384 in
theorem ini_c29 : ∀ k, k < 8 → cs_typ iT96 iE241 105 (cs_ty 29 k) (iE241 29 k) := fun k _ => Or.inl ⟨rfl, 0, rfl, (show (0 : Int) ≤ 0 by decide), (show (0 : Int) ≤ 2 by decide)⟩
set_option maxRecDepth 16384 in
theorem ini_c30 : ∀ k, k < 9 → cs_typ iT96 iE241 105 (cs_ty 30 k) (iE241 30 k)
  | 0, _ => Or.inr (Or.inl ⟨rfl, rfl⟩)
  | 1, _ => Or.inr (Or.inl ⟨rfl, rfl⟩)
  | 2, _ => Or.inr (Or.inl ⟨rfl, rfl⟩)
  | 3, _ => Or.inr (Or.inl ⟨rfl, rfl⟩)
  | 4, _ => Or.inr (Or.inl ⟨rfl, rfl⟩)
  | 5, _ => Or.inr (Or.inl ⟨rfl, rfl⟩)
  | 6, _ => Or.inr (Or.inl ⟨rfl, rfl⟩)
  | 7, _ => Or.inr (Or.inl ⟨rfl, rfl⟩)
  | 8, _ => Or.inr (Or.inl ⟨rfl, rfl⟩)
  | k + 9, h => absurd h (by omega)
set_option maxRecDepth 16384 in
theorem ini_c31 : ∀ k, k < 8 → cs_typ iT96 iE241 105 (cs_ty 31 k) (iE241 31 k) := fun k _ => Or.inl ⟨rfl, 0, rfl, (show (-1 : Int) ≤ 0 by decide), (show (0 : Int) ≤ 126 by decide)⟩
set_option maxRecDepth 16384 in
theorem ini_c32 : ∀ k, k < 8 → cs_typ iT96 iE241 105 (cs_ty 32 k) (iE241 32 k) := fun k _ => Or.inl ⟨rfl, 0, rfl, (show (-1 : Int) ≤ 0 by decide), (show (0 : Int) ≤ 126 by decide)⟩
set_option maxRecDepth 16384 in
theorem ini_c33 : ∀ k, k < 8 → cs_typ iT96 iE241 105 (cs_ty 33 k) (iE241 33 k) := fun k _ => Or.inl ⟨rfl, 0, rfl, (show (-1 : Int) ≤ 0 by decide), (show (0 : Int) ≤ 126 by decide)⟩
set_option maxRecDepth 16384 in
theorem ini_c34 : ∀ k, k < 8 → cs_typ iT96 iE241 105 (cs_ty 34 k) (iE241 34 k) := fun k _ => Or.inl ⟨rfl, 0, rfl, (show (-1 : Int) ≤ 0 by decide), (show (0 : Int) ≤ 126 by decide)⟩
set_option maxRecDepth 16384 in
theorem ini_c35 : ∀ k, k < 8 → cs_typ iT96 iE241 105 (cs_ty 35 k) (iE241 35 k) := fun k _ => Or.inl ⟨rfl, 0, rfl, (show (-1 : Int) ≤ 0 by decide), (show (0 : Int) ≤ 126 by decide)⟩
set_option maxRecDepth 16384 in
theorem ini_c36 : ∀ k, k < 8 → cs_typ iT96 iE241 105 (cs_ty 36 k) (iE241 36 k) := fun k _ => Or.inl ⟨rfl, 0, rfl, (show (-1 : Int) ≤ 0 by decide), (show (0 : Int) ≤ 126 by decide)⟩
set_option maxRecDepth 16384 in
theorem ini_c37 : ∀ k, k < 8 → cs_typ iT96 iE241 105 (cs_ty 37 k) (iE241 37 k) := fun k _ => Or.inl ⟨rfl, 0, rfl, (show (-1 : Int) ≤ 0 by decide), (show (0 : Int) ≤ 126 by decide)⟩
set_option maxRecDepth 16384 in
theorem ini_c38 : ∀ k, k < 8 → cs_typ iT96 iE241 105 (cs_ty 38 k) (iE241 38 k) := fun k _ => Or.inl ⟨rfl, 0, rfl, (show (-1 : Int) ≤ 0 by decide), (show (0 : Int) ≤ 126 by decide)⟩
set_option maxRecDepth 16384 in
theorem ini_c39 : ∀ k, k < 8 → cs_typ iT96 iE241 105 (cs_ty 39 k) (iE241 39 k) := fun k _ => Or.inl ⟨rfl, 0, rfl, (show (-1 : Int) ≤ 0 by decide), (show (0 : Int) ≤ 126 by decide)⟩
set_option maxRecDepth 16384 in
theorem ini_c40 : ∀ k, k < 9 → cs_typ iT96 iE241 105 (cs_ty 40 k) (iE241 40 k) := fun k _ => Or.inl ⟨rfl, 0, rfl, (show (0 : Int) ≤ 0 by decide), (show (0 : Int) ≤ 8 by decide)⟩
set_option maxRecDepth 16384 in
theorem ini_c41 : ∀ k, k < 6 → cs_typ iT96 iE241 105 (cs_ty 41 k) (iE241 41 k)
  | 0, _ => Or.inl ⟨rfl, 0, rfl, (show (0 : Int) ≤ 0 by decide), (show (0 : Int) ≤ 0 by decide)⟩
  | 1, _ => Or.inr (Or.inl ⟨rfl, rfl⟩)
  | 2, _ => Or.inr (Or.inl ⟨rfl, rfl⟩)
  | 3, _ => Or.inr (Or.inl ⟨rfl, rfl⟩)
  | 4, _ => Or.inl ⟨rfl, 0, rfl, (show (0 : Int) ≤ 0 by decide), (show (0 : Int) ≤ 20 by decide)⟩
  | 5, _ => Or.inl ⟨rfl, 0, rfl, (show (0 : Int) ≤ 0 by decide), (show (0 : Int) ≤ 65535 by decide)⟩
  | k + 6, h => absurd h (by omega)
set_option maxRecDepth 16384 in
theorem ini_c42 : ∀ k, k < 300 → cs_typ iT96 iE241 105 (cs_ty 42 k) (iE241 42 k) := fun k _ => Or.inr (Or.inr (Or.inl ⟨rfl, Or.inl rfl⟩))
set_option maxRecDepth 16384 in
theorem ini_c43 : ∀ k, k < 5 → cs_typ iT96 iE241 105 (cs_ty 43 k) (iE241 43 k) := fun k _ => Or.inl ⟨rfl, 0, rfl, (show (0 : Int) ≤ 0 by decide), (show (0 : Int) ≤ 60 by decide)⟩
set_option maxRecDepth 16384 in
theorem ini_c44 : ∀ k, k < 20 → cs_typ iT96 iE241 105 (cs_ty 44 k) (iE241 44 k) := fun k _ => Or.inr (Or.inr (Or.inl ⟨rfl, Or.inl rfl⟩))
set_option maxRecDepth 16384 in
theorem ini_c45 : ∀ k, k < 6 → cs_typ iT96 iE241 105 (cs_ty 45 k) (iE241 45 k)
  | 0, _ => Or.inl ⟨rfl, 0, rfl, (show (0 : Int) ≤ 0 by decide), (show (0 : Int) ≤ 0 by decide)⟩
  | 1, _ => Or.inr (Or.inl ⟨rfl, rfl⟩)
  | 2, _ => Or.inr (Or.inl ⟨rfl, rfl⟩)
  | 3, _ => Or.inr (Or.inl ⟨rfl, rfl⟩)
  | 4, _ => Or.inl ⟨rfl, 0, rfl, (show (0 : Int) ≤ 0 by decide), (show (0 : Int) ≤ 20 by decide)⟩
  | 5, _ => Or.inl ⟨rfl, 0, rfl, (show (0 : Int) ≤ 0 by decide), (show (0 : Int) ≤ 65535 by decide)⟩
  | k + 6, h => absurd h (by omega)
set_option maxRecDepth 16384 in
theorem ini_c46 : ∀ k, k < 300 → cs_typ iT96 iE241 105 (cs_ty 46 k) (iE241 46 k) := fun k _ => Or.inr (Or.inr (Or.inl ⟨rfl, Or.inl rfl⟩))
set_option maxRecDepth 16384 in
theorem ini_c47 : ∀ k, k < 5 → cs_typ iT96 iE241 105 (cs_ty 47 k) (iE241 47 k) := fun k _ => Or.inl ⟨rfl, 0, rfl, (show (0 : Int) ≤ 0 by decide), (show (0 : Int) ≤ 60 by decide)⟩
set_option maxRecDepth 16384 in
theorem ini_c48 : ∀ k, k < 20 → cs_typ iT96 iE241 105 (cs_ty 48 k) (iE241 48 k) := fun k _ => Or.inr (Or.inr (Or.inl ⟨rfl, Or.inl rfl⟩))
set_option maxRecDepth 16384 in
theorem ini_c49 : ∀ k, k < 6 → cs_typ iT96 iE241 105 (cs_ty 49 k) (iE241 49 k)
  | 0, _ => Or.inl ⟨rfl, 1, rfl, (show (1 : Int) ≤ 1 by decide), (show (1 : Int) ≤ 1 by decide)⟩
  | 1, _ => Or.inr (Or.inl ⟨rfl, rfl⟩)
  | 2, _ => Or.inr (Or.inl ⟨rfl, rfl⟩)
  | 3, _ => Or.inr (Or.inl ⟨rfl, rfl⟩)
  | 4, _ => Or.inl ⟨rfl, 0, rfl, (show (0 : Int) ≤ 0 by decide), (show (0 : Int) ≤ 20 by decide)⟩
  | 5, _ => Or.inl ⟨rfl, 0, rfl, (show (0 : Int) ≤ 0 by decide), (show (0 : Int) ≤ 65535 by decide)⟩
  | k + 6, h => absurd h (by omega)
set_option maxRecDepth 16384 in
theorem ini_c50 : ∀ k, k < 300 → cs_typ iT96 iE241 105 (cs_ty 50 k) (iE241 50 k) := fun k _ => Or.inr (Or.inr (Or.inl ⟨rfl, Or.inl rfl⟩))
set_option maxRecDepth 16384 in
theorem ini_c51 : ∀ k, k < 5 → cs_typ iT96 iE241 105 (cs_ty 51 k) (iE241 51 k) := fun k _ => Or.inl ⟨rfl, 0, rfl, (show (0 : Int) ≤ 0 by decide), (show (0 : Int) ≤ 60 by decide)⟩
set_option maxRecDepth 16384 in
theorem ini_c52 : ∀ k, k < 20 → cs_typ iT96 iE241 105 (cs_ty 52 k) (iE241 52 k) := fun k _ => Or.inr (Or.inr (Or.inl ⟨rfl, Or.inl rfl⟩))
set_option maxRecDepth 16384 in
theorem ini_c53 : ∀ k, k < 6 → cs_typ iT96 iE241 105 (cs_ty 53 k) (iE241 53 k)
  | 0, _ => Or.inl ⟨rfl, 1, rfl, (show (1 : Int) ≤ 1 by decide), (show (1 : Int) ≤ 1 by decide)⟩
  | 1, _ => Or.inr (Or.inl ⟨rfl, rfl⟩)
  | 2, _ => Or.inr (Or.inl ⟨rfl, rfl⟩)
  | 3, _ => Or.inr (Or.inl ⟨rfl, rfl⟩)
  | 4, _ => Or.inl ⟨rfl, 0, rfl, (show (0 : Int) ≤ 0 by decide), (show (0 : Int) ≤ 20 by decide)⟩
  | 5, _ => Or.inl ⟨rfl, 0, rfl, (show (0 : Int) ≤ 0 by decide), (show (0 : Int) ≤ 65535 by decide)⟩
  | k + 6, h => absurd h (by omega)
set_option maxRecDepth 16384 in
theorem ini_c54 : ∀ k, k < 300 → cs_typ iT96 iE241 105 (cs_ty 54 k) (iE241 54 k) := fun k _ => Or.inr (Or.inr (Or.inl ⟨rfl, Or.inl rfl⟩))
set_option maxRecDepth 16384 in
theorem ini_c55 : ∀ k, k < 5 → cs_typ iT96 iE241 105 (cs_ty 55 k) (iE241 55 k) := fun k _ => Or.inl ⟨rfl, 0, rfl, (show (0 : Int) ≤ 0 by decide), (show (0 : Int) ≤ 60 by decide)⟩
set_option maxRecDepth 16384 in
theorem ini_c56 : ∀ k, k < 20 → cs_typ iT96 iE241 105 (cs_ty 56 k) (iE241 56 k) := fun k _ => Or.inr (Or.inr (Or.inl ⟨rfl, Or.inl rfl⟩))
set_option maxRecDepth 16384 in
theorem ini_c57 : ∀ k, k < 6 → cs_typ iT96 iE241 105 (cs_ty 57 k) (iE241 57 k)
  | 0, _ => Or.inl ⟨rfl, 2, rfl, (show (2 : Int) ≤ 2 by decide), (show (2 : Int) ≤ 2 by decide)⟩
  | 1, _ => Or.inr (Or.inl ⟨rfl, rfl⟩)
  | 2, _ => Or.inr (Or.inl ⟨rfl, rfl⟩)
  | 3, _ => Or.inr (Or.inl ⟨rfl, rfl⟩)
  | 4, _ => Or.inl ⟨rfl, 0, rfl, (show (0 : Int) ≤ 0 by decide), (show (0 : Int) ≤ 20 by decide)⟩
  | 5, _ => Or.inl ⟨rfl, 0, rfl, (show (0 : Int) ≤ 0 by decide), (show (0 : Int) ≤ 65535 by decide)⟩
  | k + 6, h => absurd h (by omega)
set_option maxRecDepth 16384 in
theorem ini_c58 : ∀ k, k < 300 → cs_typ iT96 iE241 105 (cs_ty 58 k) (iE241 58 k) := fun k _ => Or.inr (Or.inr (Or.inl ⟨rfl, Or.inl rfl⟩))
set_option maxRecDepth 16384 in
theorem ini_c59 : ∀ k, k < 5 → cs_typ iT96 iE241 105 (cs_ty 59 k) (iE241 59 k) := fun k _ => Or.inl ⟨rfl, 0, rfl, (show (0 : Int) ≤ 0 by decide), (show (0 : Int) ≤ 60 by decide)⟩
set_option maxRecDepth 16384 in
theorem ini_c60 : ∀ k, k < 20 → cs_typ iT96 iE241 105 (cs_ty 60 k) (iE241 60 k) := fun k _ => Or.inr (Or.inr (Or.inl ⟨rfl, Or.inl rfl⟩))
set_option maxRecDepth 16384 in
theorem ini_c61 : ∀ k, k < 6 → cs_typ iT96 iE241 105 (cs_ty 61 k) (iE241 61 k)
  | 0, _ => Or.inl ⟨rfl, 2, rfl, (show (2 : Int) ≤ 2 by decide), (show (2 : Int) ≤ 2 by decide)⟩
  | 1, _ => Or.inr (Or.inl ⟨rfl, rfl⟩)
  | 2, _ => Or.inr (Or.inl ⟨rfl, rfl⟩)
  | 3, _ => Or.inr (Or.inl ⟨rfl, rfl⟩)
  | 4, _ => Or.inl ⟨rfl, 0, rfl, (show (0 : Int) ≤ 0 by decide), (show (0 : Int) ≤ 20 by decide)⟩
  | 5, _ => Or.inl ⟨rfl, 0, rfl, (show (0 : Int) ≤ 0 by decide), (show (0 : Int) ≤ 65535 by decide)⟩
  | k + 6, h => absurd h (by omega)
set_option maxRecDepth 16384 in
theorem ini_c62 : ∀ k, k < 300 → cs_typ iT96 iE241 105 (cs_ty 62 k) (iE241 62 k) := fun k _ => Or.inr (Or.inr (Or.inl ⟨rfl, Or.inl rfl⟩))
set_option maxRecDepth 16384 in
theorem ini_c63 : ∀ k, k < 5 → cs_typ iT96 iE241 105 (cs_ty 63 k) (iE241 63 k) := fun k _ => Or.inl ⟨rfl, 0, rfl, (show (0 : Int) ≤ 0 by decide), (show (0 : Int) ≤ 60 by decide)⟩
set_option maxRecDepth 16384 in
theorem ini_c64 : ∀ k, k < 20 → cs_typ iT96 iE241 105 (cs_ty 64 k) (iE241 64 k) := fun k _ => Or.inr (Or.inr (Or.inl ⟨rfl, Or.inl rfl⟩))
set_option maxRecDepth 16384 in
theorem ini_c65 : ∀ k, k < 6 → cs_typ iT96 iE241 105 (cs_ty 65 k) (iE241 65 k)
  | 0, _ => Or.inl ⟨rfl, 3, rfl, (show (3 : Int) ≤ 3 by decide), (show (3 : Int) ≤ 3 by decide)⟩
  | 1, _ => Or.inr (Or.inl ⟨rfl, rfl⟩)
  | 2, _ => Or.inr (Or.inl ⟨rfl, rfl⟩)
  | 3, _ => Or.inr (Or.inl ⟨rfl, rfl⟩)
  | 4, _ => Or.inl ⟨rfl, 0, rfl, (show (0 : Int) ≤ 0 by decide), (show (0 : Int) ≤ 20 by decide)⟩
  | 5, _ => Or.inl ⟨rfl, 0, rfl, (show (0 : Int) ≤ 0 by decide), (show (0 : Int) ≤ 65535 by decide)⟩
  | k + 6, h => absurd h (by omega)
set_option maxRecDepth 16384 in
theorem ini_c66 : ∀ k, k < 300 → cs_typ iT96 iE241 105 (cs_ty 66 k) (iE241 66 k) := fun k _ => Or.inr (Or.inr (Or.inl ⟨rfl, Or.inl rfl⟩))
set_option maxRecDepth 16384 in
theorem ini_c67 : ∀ k, k < 5 → cs_typ iT96 iE241 105 (cs_ty 67 k) (iE241 67 k) := fun k _ => Or.inl ⟨rfl, 0, rfl, (show (0 : Int) ≤ 0 by decide), (show (0 : Int) ≤ 60 by decide)⟩
set_option maxRecDepth 16384 in
theorem ini_c68 : ∀ k, k < 20 → cs_typ iT96 iE241 105 (cs_ty 68 k) (iE241 68 k) := fun k _ => Or.inr (Or.inr (Or.inl ⟨rfl, Or.inl rfl⟩))
set_option maxRecDepth 16384 in
theorem ini_c69 : ∀ k, k < 6 → cs_typ iT96 iE241 105 (cs_ty 69 k) (iE241 69 k)
  | 0, _ => Or.inl ⟨rfl, 3, rfl, (show (3 : Int) ≤ 3 by decide), (show (3 : Int) ≤ 3 by decide)⟩
  | 1, _ => Or.inr (Or.inl ⟨rfl, rfl⟩)
  | 2, _ => Or.inr (Or.inl ⟨rfl, rfl⟩)
  | 3, _ => Or.inr (Or.inl ⟨rfl, rfl⟩)
  | 4, _ => Or.inl ⟨rfl, 0, rfl, (show (0 : Int) ≤ 0 by decide), (show (0 : Int) ≤ 20 by decide)⟩
  | 5, _ => Or.inl ⟨rfl, 0, rfl, (show (0 : Int) ≤ 0 by decide), (show (0 : Int) ≤ 65535 by decide)⟩
  | k + 6, h => absurd h (by omega)
set_option maxRecDepth 16384 in
theorem ini_c70 : ∀ k, k < 300 → cs_typ iT96 iE241 105 (cs_ty 70 k) (iE241 70 k) := fun k _ => Or.inr (Or.inr (Or.inl ⟨rfl, Or.inl rfl⟩))
set_option maxRecDepth 16384 in
theorem ini_c71 : ∀ k, k < 5 → cs_typ iT96 iE241 105 (cs_ty 71 k) (iE241 71 k) := fun k _ => Or.inl ⟨rfl, 0, rfl, (show (0 : Int) ≤ 0 by decide), (show (0 : Int) ≤ 60 by decide)⟩
set_option maxRecDepth 16384 in
theorem ini_c72 : ∀ k, k < 20 → cs_typ iT96 iE241 105 (cs_ty 72 k) (iE241 72 k) := fun k _ => Or.inr (Or.inr (Or.inl ⟨rfl, Or.inl rfl⟩))
set_option maxRecDepth 16384 in
theorem ini_c73 : ∀ k, k < 6 → cs_typ iT96 iE241 105 (cs_ty 73 k) (iE241 73 k)
  | 0, _ => Or.inl ⟨rfl, 4, rfl, (show (4 : Int) ≤ 4 by decide), (show (4 : Int) ≤ 4 by decide)⟩
  | 1, _ => Or.inr (Or.inl ⟨rfl, rfl⟩)
  | 2, _ => Or.inr (Or.inl ⟨rfl, rfl⟩)
  | 3, _ => Or.inr (Or.inl ⟨rfl, rfl⟩)
  | 4, _ => Or.inl ⟨rfl, 0, rfl, (show (0 : Int) ≤ 0 by decide), (show (0 : Int) ≤ 20 by decide)⟩
  | 5, _ => Or.inl ⟨rfl, 0, rfl, (show (0 : Int) ≤ 0 by decide), (show (0 : Int) ≤ 65535 by decide)⟩
  | k + 6, h => absurd h (by omega)
set_option maxRecDepth 16384 in
theorem ini_c74 : ∀ k, k < 300 → cs_typ iT96 iE241 105 (cs_ty 74 k) (iE241 74 k) := fun k _ => Or.inr (Or.inr (Or.inl ⟨rfl, Or.inl rfl⟩))
set_option maxRecDepth 16384 in
theorem ini_c75 : ∀ k, k < 5 → cs_typ iT96 iE241 105 (cs_ty 75 k) (iE241 75 k) := fun k _ => Or.inl ⟨rfl, 0, rfl, (show (0 : Int) ≤ 0 by decide), (show (0 : Int) ≤ 60 by decide)⟩
set_option maxRecDepth 16384 in
theorem ini_c76 : ∀ k, k < 20 → cs_typ iT96 iE241 105 (cs_ty 76 k) (iE241 76 k) := fun k _ => Or.inr (Or.inr (Or.inl ⟨rfl, Or.inl rfl⟩))
set_option maxRecDepth 16384 in
theorem ini_c77 : ∀ k, k < 6 → cs_typ iT96 iE241 105 (cs_ty 77 k) (iE241 77 k)
  | 0, _ => Or.inl ⟨rfl, 4, rfl, (show (4 : Int) ≤ 4 by decide), (show (4 : Int) ≤ 4 by decide)⟩
  | 1, _ => Or.inr (Or.inl ⟨rfl, rfl⟩)
  | 2, _ => Or.inr (Or.inl ⟨rfl, rfl⟩)
  | 3, _ => Or.inr (Or.inl ⟨rfl, rfl⟩)
  | 4, _ => Or.inl ⟨rfl, 0, rfl, (show (0 : Int) ≤ 0 by decide), (show (0 : Int) ≤ 20 by decide)⟩
  | 5, _ => Or.inl ⟨rfl, 0, rfl, (show (0 : Int) ≤ 0 by decide), (show (0 : Int) ≤ 65535 by decide)⟩
  | k + 6, h => absurd h (by omega)
set_option maxRecDepth 16384 in
theorem ini_c78 : ∀ k, k < 300 → cs_typ iT96 iE241 105 (cs_ty 78 k) (iE241 78 k) := fun k _ => Or.inr (Or.inr (Or.inl ⟨rfl, Or.inl rfl⟩))
set_option maxRecDepth 16384 in
theorem ini_c79 : ∀ k, k < 5 → cs_typ iT96 iE241 105 (cs_ty 79 k) (iE241 79 k) := fun k _ => Or.inl ⟨rfl, 0, rfl, (show (0 : Int) ≤ 0 by decide), (show (0 : Int) ≤ 60 by decide)⟩
set_option maxRecDepth 16384 in
theorem ini_c80 : ∀ k, k < 20 → cs_typ iT96 iE241 105 (cs_ty 80 k) (iE241 80 k) := fun k _ => Or.inr (Or.inr (Or.inl ⟨rfl, Or.inl rfl⟩))
set_option maxRecDepth 16384 in
theorem ini_c81 : ∀ k, k < 38 → cs_typ iT96 iE241 105 (cs_ty 81 k) (iE241 81 k)
  | 0, _ => Or.inl ⟨rfl, 0, rfl, (show (0 : Int) ≤ 0 by decide), (show (0 : Int) ≤ 2 by decide)⟩
  | 1, _ => Or.inl ⟨rfl, 2, rfl, (show (1 : Int) ≤ 2 by decide), (show (2 : Int) ≤ 5 by decide)⟩
  | 2, _ => Or.inr (Or.inl ⟨rfl, rfl⟩)
  | 3, _ => Or.inr (Or.inl ⟨rfl, rfl⟩)
  | 4, _ => Or.inr (Or.inl ⟨rfl, rfl⟩)
  | 5, _ => Or.inr (Or.inl ⟨rfl, rfl⟩)
  | 6, _ => Or.inr (Or.inl ⟨rfl, rfl⟩)
  | 7, _ => Or.inr (Or.inl ⟨rfl, rfl⟩)
  | 8, _ => Or.inr (Or.inl ⟨rfl, rfl⟩)
  | 9, _ => Or.inr (Or.inl ⟨rfl, rfl⟩)
  | 10, _ => Or.inr (Or.inl ⟨rfl, rfl⟩)
  | 11, _ => Or.inr (Or.inl ⟨rfl, rfl⟩)
  | 12, _ => Or.inl ⟨rfl, 0, rfl, (show (0 : Int) ≤ 0 by decide), (show (0 : Int) ≤ 300 by decide)⟩
  | 13, _ => Or.inl ⟨rfl, 0, rfl, (show (0 : Int) ≤ 0 by decide), (show (0 : Int) ≤ 300 by decide)⟩
  | 14, _ => Or.inr (Or.inl ⟨rfl, rfl⟩)
  | 15, _ => Or.inr (Or.inl ⟨rfl, rfl⟩)
  | 16, _ => Or.inl ⟨rfl, 0, rfl, (show (0 : Int) ≤ 0 by decide), (show (0 : Int) ≤ 400 by decide)⟩
  | 17, _ => Or.inl ⟨rfl, 0, rfl, (show (0 : Int) ≤ 0 by decide), (show (0 : Int) ≤ 400 by decide)⟩
  | 18, _ => Or.inl ⟨rfl, (-1), rfl, (show (-1 : Int) ≤ (-1) by decide), (show ((-1) : Int) ≤ 400 by decide)⟩
  | 19, _ => Or.inl ⟨rfl, 0, rfl, (show (0 : Int) ≤ 0 by decide), (show (0 : Int) ≤ 400 by decide)⟩
  | 20, _ => Or.inl ⟨rfl, 0, rfl, (show (0 : Int) ≤ 0 by decide), (show (0 : Int) ≤ 400 by decide)⟩
  | 21, _ => Or.inl ⟨rfl, 0, rfl, (show (0 : Int) ≤ 0 by decide), (show (0 : Int) ≤ 3 by decide)⟩
  | 22, _ => Or.inl ⟨rfl, 0, rfl, (show (0 : Int) ≤ 0 by decide), (show (0 : Int) ≤ 400 by decide)⟩
  | 23, _ => Or.inl ⟨rfl, 0, rfl, (show (0 : Int) ≤ 0 by decide), (show (0 : Int) ≤ 12 by decide)⟩
  | 24, _ => Or.inl ⟨rfl, 0, rfl, (show (0 : Int) ≤ 0 by decide), (show (0 : Int) ≤ 8 by decide)⟩
  | 25, _ => Or.inr (Or.inl ⟨rfl, rfl⟩)
  | 26, _ => Or.inr (Or.inl ⟨rfl, rfl⟩)
  | 27, _ => Or.inr (Or.inl ⟨rfl, rfl⟩)
  | 28, _ => Or.inr (Or.inl ⟨rfl, rfl⟩)
  | 29, _ => Or.inr (Or.inl ⟨rfl, rfl⟩)
  | 30, _ => Or.inr (Or.inl ⟨rfl, rfl⟩)
  | 31, _ => Or.inr (Or.inl ⟨rfl, rfl⟩)
  | 32, _ => Or.inl ⟨rfl, 0, rfl, (show (-2147483648 : Int) ≤ 0 by decide), (show (0 : Int) ≤ 2147483647 by decide)⟩
  | 33, _ => Or.inl ⟨rfl, 0, rfl, (show (-2147483648 : Int) ≤ 0 by decide), (show (0 : Int) ≤ 2147483647 by decide)⟩
  | 34, _ => Or.inl ⟨rfl, 0, rfl, (show (0 : Int) ≤ 0 by decide), (show (0 : Int) ≤ 1 by decide)⟩
  | 35, _ => Or.inr (Or.inl ⟨rfl, rfl⟩)
  | 36, _ => Or.inr (Or.inl ⟨rfl, rfl⟩)
  | 37, _ => Or.inr (Or.inl ⟨rfl, rfl⟩)
  | k + 38, h => absurd h (by omega)
set_option maxRecDepth 16384 in
theorem ini_c82 : ∀ k, k < 531366 → cs_typ iT96 iE241 105 (cs_ty 82 k) (iE241 82 k) := fun k _ => Or.inl ⟨rfl, 0, rfl, (show (0 : Int) ≤ 0 by decide), (show (0 : Int) ≤ 65540 by decide)⟩
set_option maxRecDepth 16384 in
theorem ini_c83 : ∀ k, k < 25 → cs_typ iT96 iE241 105 (cs_ty 83 k) (iE241 83 k) := fun k _ => Or.inl ⟨rfl, 0, rfl, (show (0 : Int) ≤ 0 by decide), (show (0 : Int) ≤ 60 by decide)⟩
set_option maxRecDepth 16384 in
theorem ini_c84 : ∀ k, k < 5 → cs_typ iT96 iE241 105 (cs_ty 84 k) (iE241 84 k) := fun k _ => Or.inl ⟨rfl, 0, rfl, (show (0 : Int) ≤ 0 by decide), (show (0 : Int) ≤ 20 by decide)⟩
set_option maxRecDepth 16384 in
theorem ini_c85 : ∀ k, k < 3 → cs_typ iT96 iE241 105 (cs_ty 85 k) (iE241 85 k) := fun k _ => Or.inl ⟨rfl, 0, rfl, (show (-2147483648 : Int) ≤ 0 by decide), (show (0 : Int) ≤ 2147483647 by decide)⟩
set_option maxRecDepth 16384 in
theorem ini_c86 : ∀ k, k < 300 → cs_typ iT96 iE241 105 (cs_ty 86 k) (iE241 86 k) := fun k _ => Or.inl ⟨rfl, 0, rfl, (show (0 : Int) ≤ 0 by decide), (show (0 : Int) ≤ 1 by decide)⟩
set_option maxRecDepth 16384 in
theorem ini_c87 : ∀ k, k < 300 → cs_typ iT96 iE241 105 (cs_ty 87 k) (iE241 87 k) := fun k _ => Or.inl ⟨rfl, 0, rfl, (show (0 : Int) ≤ 0 by decide), (show (0 : Int) ≤ 1 by decide)⟩
set_option maxRecDepth 16384 in
theorem ini_c88 : ∀ k, k < 300 → cs_typ iT96 iE241 105 (cs_ty 88 k) (iE241 88 k) := fun k _ => Or.inl ⟨rfl, 0, rfl, (show (0 : Int) ≤ 0 by decide), (show (0 : Int) ≤ 249000 by decide)⟩
set_option maxRecDepth 16384 in
theorem ini_c89 : ∀ k, k < 300 → cs_typ iT96 iE241 105 (cs_ty 89 k) (iE241 89 k) := fun k _ => Or.inl ⟨rfl, 0, rfl, (show (0 : Int) ≤ 0 by decide), (show (0 : Int) ≤ 65540 by decide)⟩
set_option maxRecDepth 16384 in
theorem ini_c90 : ∀ k, k < 300 → cs_typ iT96 iE241 105 (cs_ty 90 k) (iE241 90 k) := fun k _ => Or.inl ⟨rfl, 0, rfl, (show (0 : Int) ≤ 0 by decide), (show (0 : Int) ≤ 299 by decide)⟩
set_option maxRecDepth 16384 in
theorem ini_c91 : ∀ k, k < 300 → cs_typ iT96 iE241 105 (cs_ty 91 k) (iE241 91 k) := fun k _ => Or.inl ⟨rfl, 0, rfl, (show (0 : Int) ≤ 0 by decide), (show (0 : Int) ≤ 299 by decide)⟩
set_option maxRecDepth 16384 in
theorem ini_c92 : ∀ k, k < 400 → cs_typ iT96 iE241 105 (cs_ty 92 k) (iE241 92 k) := fun k _ => Or.inl ⟨rfl, 0, rfl, (show (0 : Int) ≤ 0 by decide), (show (0 : Int) ≤ 65540 by decide)⟩
set_option maxRecDepth 16384 in
theorem ini_c93 : ∀ k, k < 400 → cs_typ iT96 iE241 105 (cs_ty 93 k) (iE241 93 k) := fun k _ => Or.inl ⟨rfl, 0, rfl, (show (0 : Int) ≤ 0 by decide), (show (0 : Int) ≤ 255 by decide)⟩
set_option maxRecDepth 16384 in
theorem ini_c94 : ∀ k, k < 12 → cs_typ iT96 iE241 105 (cs_ty 94 k) (iE241 94 k) := fun k _ => Or.inl ⟨rfl, 0, rfl, (show (0 : Int) ≤ 0 by decide), (show (0 : Int) ≤ 126 by decide)⟩
set_option maxRecDepth 16384 in
theorem ini_c95 : ∀ k, k < 8 → cs_typ iT96 iE241 105 (cs_ty 95 k) (iE241 95 k) := fun k _ => Or.inl ⟨rfl, 0, rfl, (show (0 : Int) ≤ 0 by decide), (show (0 : Int) ≤ 2 by decide)⟩
set_option maxRecDepth 16384 in
theorem ini_c96 : ∀ k, k < 8 → cs_typ iT96 iE241 105 (cs_ty 96 k) (iE241 96 k) := fun k _ => Or.inl ⟨rfl, 0, rfl, (show (0 : Int) ≤ 0 by decide), (show (0 : Int) ≤ 7 by decide)⟩
set_option maxRecDepth 16384 in
theorem ini_c97 : ∀ k, k < 8 → cs_typ iT96 iE241 105 (cs_ty 97 k) (iE241 97 k) := fun k _ => Or.inl ⟨rfl, 0, rfl, (show (-1 : Int) ≤ 0 by decide), (show (0 : Int) ≤ 126 by decide)⟩
set_option maxRecDepth 16384 in
theorem ini_c98 : ∀ k, k < 8 → cs_typ iT96 iE241 105 (cs_ty 98 k) (iE241 98 k) := fun k _ => Or.inl ⟨rfl, 0, rfl, (show (0 : Int) ≤ 0 by decide), (show (0 : Int) ≤ 2 by decide)⟩
set_option maxRecDepth 16384 in
theorem ini_c99 : ∀ k, k < 8 → cs_typ iT96 iE241 105 (cs_ty 99 k) (iE241 99 k) := fun k _ => Or.inl ⟨rfl, 0, rfl, (show (0 : Int) ≤ 0 by decide), (show (0 : Int) ≤ 2 by decide)⟩
set_option maxRecDepth 16384 in
theorem ini_c100 : ∀ k, k < 8 → cs_typ iT96 iE241 105 (cs_ty 100 k) (iE241 100 k) := fun k _ => Or.inl ⟨rfl, 0, rfl, (show (-1 : Int) ≤ 0 by decide), (show (0 : Int) ≤ 126 by decide)⟩
set_option maxRecDepth 16384 in
theorem ini_c101 : ∀ k, k < 25 → cs_typ iT96 iE241 105 (cs_ty 101 k) (iE241 101 k) := fun k _ => Or.inl ⟨rfl, 0, rfl, (show (0 : Int) ≤ 0 by decide), (show (0 : Int) ≤ 60 by decide)⟩
set_option maxRecDepth 16384 in
theorem ini_c102 : ∀ k, k < 5 → cs_typ iT96 iE241 105 (cs_ty 102 k) (iE241 102 k) := fun k _ => Or.inl ⟨rfl, 0, rfl, (show (0 : Int) ≤ 0 by decide), (show (0 : Int) ≤ 20 by decide)⟩
set_option maxRecDepth 16384 in
theorem ini_c103 : ∀ k, k < 3 → cs_typ iT96 iE241 105 (cs_ty 103 k) (iE241 103 k) := fun k _ => Or.inl ⟨rfl, 0, rfl, (show (-2147483648 : Int) ≤ 0 by decide), (show (0 : Int) ≤ 2147483647 by decide)⟩
set_option maxRecDepth 16384 in
theorem ini_c104 : ∀ k, k < 1 → cs_typ iT96 iE241 105 (cs_ty 104 k) (iE241 104 k) := fun k _ => Or.inr (Or.inr (Or.inr (Or.inl ⟨rfl, 0, rfl⟩)))
theorem ini_T : ∀ i, i < 105 → iT96 i = cs_T i := by decide +kernel
set_option maxRecDepth 16384 in
theorem ini_I : cs_I iT96 iE241 105 := by
  refine ⟨Nat.le_refl _, ini_T, fun i hi => ?_⟩
  match i, hi with
  | 0, _ => exact ini_c0
  | 1, _ => exact ini_c1
  | 2, _ => exact ini_c2
  | 3, _ => exact ini_c3
  | 4, _ => exact ini_c4
  | 5, _ => exact ini_c5
  | 6, _ => exact ini_c6
  | 7, _ => exact ini_c7
  | 8, _ => exact ini_c8
  | 9, _ => exact ini_c9
  | 10, _ => exact ini_c10
  | 11, _ => exact ini_c11
  | 12, _ => exact ini_c12
  | 13, _ => exact ini_c13
  | 14, _ => exact ini_c14
  | 15, _ => exact ini_c15
  | 16, _ => exact ini_c16
  | 17, _ => exact ini_c17
  | 18, _ => exact ini_c18
  | 19, _ => exact ini_c19
  | 20, _ => exact ini_c20
  | 21, _ => exact ini_c21
  | 22, _ => exact ini_c22
  | 23, _ => exact ini_c23
  | 24, _ => exact ini_c24
  | 25, _ => exact ini_c25
  | 26, _ => exact ini_c26
  | 27, _ => exact ini_c27
  | 28, _ => exact ini_c28
  | 29, _ => exact ini_c29
  | 30, _ => exact ini_c30
  | 31, _ => exact ini_c31
  | 32, _ => exact ini_c32
  | 33, _ => exact ini_c33
  | 34, _ => exact ini_c34
  | 35, _ => exact ini_c35
  | 36, _ => exact ini_c36
  | 37, _ => exact ini_c37
  | 38, _ => exact ini_c38
  | 39, _ => exact ini_c39
  | 40, _ => exact ini_c40
  | 41, _ => exact ini_c41
  | 42, _ => exact ini_c42
  | 43, _ => exact ini_c43
  | 44, _ => exact ini_c44
  | 45, _ => exact ini_c45
  | 46, _ => exact ini_c46
  | 47, _ => exact ini_c47
  | 48, _ => exact ini_c48
  | 49, _ => exact ini_c49
  | 50, _ => exact ini_c50
  | 51, _ => exact ini_c51
  | 52, _ => exact ini_c52
  | 53, _ => exact ini_c53
  | 54, _ => exact ini_c54
  | 55, _ => exact ini_c55
  | 56, _ => exact ini_c56
  | 57, _ => exact ini_c57
  | 58, _ => exact ini_c58
  | 59, _ => exact ini_c59
  | 60, _ => exact ini_c60
  | 61, _ => exact ini_c61
  | 62, _ => exact ini_c62
  | 63, _ => exact ini_c63
  | 64, _ => exact ini_c64
  | 65, _ => exact ini_c65
  | 66, _ => exact ini_c66
  | 67, _ => exact ini_c67
  | 68, _ => exact ini_c68
  | 69, _ => exact ini_c69
  | 70, _ => exact ini_c70
  | 71, _ => exact ini_c71
  | 72, _ => exact ini_c72
  | 73, _ => exact ini_c73
  | 74, _ => exact ini_c74
  | 75, _ => exact ini_c75
  | 76, _ => exact ini_c76
  | 77, _ => exact ini_c77
  | 78, _ => exact ini_c78
  | 79, _ => exact ini_c79
  | 80, _ => exact ini_c80
  | 81, _ => exact ini_c81
  | 82, _ => exact ini_c82
  | 83, _ => exact ini_c83
  | 84, _ => exact ini_c84
  | 85, _ => exact ini_c85
  | 86, _ => exact ini_c86
  | 87, _ => exact ini_c87
  | 88, _ => exact ini_c88
  | 89, _ => exact ini_c89
  | 90, _ => exact ini_c90
  | 91, _ => exact ini_c91
  | 92, _ => exact ini_c92
  | 93, _ => exact ini_c93
  | 94, _ => exact ini_c94
  | 95, _ => exact ini_c95
  | 96, _ => exact ini_c96
  | 97, _ => exact ini_c97
  | 98, _ => exact ini_c98
  | 99, _ => exact ini_c99
  | 100, _ => exact ini_c100
  | 101, _ => exact ini_c101
  | 102, _ => exact ini_c102
  | 103, _ => exact ini_c103
  | 104, _ => exact ini_c104
  | i + 105, h => exact absurd h (by omega)
theorem ini_hn : hn iE241 := fun b i h1 h2 h3 h4 => by
  rcases pg_c ⟨h1, h2, h3⟩ with rfl | rfl | rfl | rfl | rfl | rfl | rfl | rfl | rfl | rfl
  all_goals (exact absurd (show (i : Int) < 0 from h4) (by omega))
theorem ini_rl : rl iE241 := by
  have z82 : ∀ k, gv iE241 82 k = 0 := fun _ => rfl
  refine rl_new (E := iE241) (fun r _ _ => ⟨⟨?_, ?_⟩, ?_, ?_, fun _ => ?_, fun h => ?_, fun h => ?_⟩) (fun _ _ => rfl) (fun _ _ _ => rfl) (fun _ _ _ => rfl) rfl
  all_goals first | (rw [z82]; decide) | (rw [z82] at h; exact absurd h (by decide))
