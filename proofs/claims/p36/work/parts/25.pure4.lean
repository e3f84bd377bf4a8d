/-! what the calls make of a state -/
theorem kdY_up {y : Nat → Int32} {j : Nat} {v : Int32} (h : j < 25) : kdY (va_up y j v) = kdY y := by
  funext k
  show va_up y j v (25 + k) = y (25 + k)
  exact va_up_ne _ _ (by omega)
theorem vlY_up {y : Nat → Int32} {j : Nat} {v : Int32} (h : j < 313) : vlY (va_up y j v) = vlY y := by
  funext k
  show va_up y j v (313 + k) = y (313 + k)
  exact va_up_ne _ _ (by omega)
/-- a move -/
def mvX (x : Nat → Nat) (m : Nat) : Nat → Nat := va_up (va_up (va_up x 13 (bh (x 13) m)) 14 (x 14 - tk m)) 15 (1 - x 15)
def mvY (p : Nat → Int32) (x : Nat → Nat) (y : Nat → Int32) (m : Nat) : Nat → Int32 := va_up (va_up y 16 (mk0 (x 15) (y 16) (cn p (x 13) (x 14) m))) 17 (mk1 (x 15) (y 17) (cn p (x 13) (x 14) m))
theorem kdY_mv (p : Nat → Int32) (x : Nat → Nat) (y : Nat → Int32) (m : Nat) : kdY (mvY p x y m) = kdY y := (kdY_up (by decide)).trans (kdY_up (by decide))
theorem vlY_mv (p : Nat → Int32) (x : Nat → Nat) (y : Nat → Int32) (m : Nat) : vlY (mvY p x y m) = vlY y := (vlY_up (by decide)).trans (vlY_up (by decide))
/-- best moves, k at most -/
def plS (p : Nat → Int32) (x : Nat → Nat) (y : Nat → Int32) : Nat → (Nat → Nat) × (Nat → Int32)
  | 0 => (x, y)
  | k + 1 => if (plS p x y k).1 14 = 0 then plS p x y k else (mvX (plS p x y k).1 (bN p ((plS p x y k).1 13) ((plS p x y k).1 14)), mvY p (plS p x y k).1 (plS p x y k).2 (bN p ((plS p x y k).1 13) ((plS p x y k).1 14)))
def plN (p : Nat → Int32) (x : Nat → Nat) (y : Nat → Int32) : Nat → Nat
  | 0 => 0
  | k + 1 => if (plS p x y k).1 14 = 0 then plN p x y k else k + 1
theorem plS_go {p : Nat → Int32} {x : Nat → Nat} {y : Nat → Int32} {k : Nat} {X : Nat → Nat} {Y : Nat → Int32} (h : plS p x y k = (X, Y)) (c : ¬ X 14 = 0) : plS p x y (k + 1) = (mvX X (bN p (X 13) (X 14)), mvY p X Y (bN p (X 13) (X 14))) := by
  have e : (plS p x y k).1 = X := congrArg Prod.fst h
  have e2 : (plS p x y k).2 = Y := congrArg Prod.snd h
  have c' : ¬ (plS p x y k).1 14 = 0 := by rw [e]; exact c
  refine (if_neg c').trans ?_
  rw [e, e2]
theorem plN_go {p : Nat → Int32} {x : Nat → Nat} {y : Nat → Int32} {k : Nat} {X : Nat → Nat} {Y : Nat → Int32} (h : plS p x y k = (X, Y)) (c : ¬ X 14 = 0) : plN p x y (k + 1) = k + 1 := by
  have e : (plS p x y k).1 = X := congrArg Prod.fst h
  exact if_neg (by rw [e]; exact c)
theorem plS_end {p : Nat → Int32} {x : Nat → Nat} {y : Nat → Int32} {k : Nat} {X : Nat → Nat} {Y : Nat → Int32} (h : plS p x y k = (X, Y)) (c : X 14 = 0) : ∀ j, plS p x y (k + j) = (X, Y) ∧ plN p x y (k + j) = plN p x y k
  | 0 => ⟨h, rfl⟩
  | j + 1 => by
    obtain ⟨h1, h2⟩ := plS_end h c j
    have c' : (plS p x y (k + j)).1 14 = 0 := by rw [h1]; exact c
    exact ⟨(if_pos c').trans h1, (if_pos c').trans h2⟩
/-- a search's numbers and table -/
def sX (R : SR) (x : Nat → Nat) : Nat → Nat := va_up x 22 R.2.2.1
def sY (R : SR) (y : Nat → Int32) : Nat → Int32 := fun k => if k = 21 then sAn R else if k = 23 then R.2.2.2.1 else if k = 24 then R.2.2.2.2.1 else if 25 ≤ k ∧ k < 169 then R.2.2.2.2.2.1 (k - 25) else if 169 ≤ k ∧ k < 313 then R.2.2.2.2.2.2.2 (k - 169) else if 313 ≤ k ∧ k < 457 then R.2.2.2.2.2.2.1 (k - 313) else y k
theorem sY_kd {R : SR} {y : Nat → Int32} {k : Nat} (h : k < 144) : kdY (sY R y) k = R.2.2.2.2.2.1 k := by
  unfold kdY sY
  rw [if_neg (by omega), if_neg (by omega), if_neg (by omega), if_pos (by omega), show 25 + k - 25 = k by omega]
theorem sY_vl {R : SR} {y : Nat → Int32} {k : Nat} (h : k < 144) : vlY (sY R y) k = R.2.2.2.2.2.2.1 k := by
  unfold vlY sY
  rw [if_neg (by omega), if_neg (by omega), if_neg (by omega), if_neg (by omega), if_neg (by omega), if_pos (by omega), show 313 + k - 313 = k by omega]
/-- a new game of c piles -/
def ldX (x : Nat → Nat) (c : Nat) : Nat → Nat := va_up (va_up (va_up x 13 0) 14 c) 15 0
def ldY (y : Nat → Int32) : Nat → Int32 := va_up (va_up y 16 0) 17 0
theorem kdY_ld (y : Nat → Int32) : kdY (ldY y) = kdY y := (kdY_up (by decide)).trans (kdY_up (by decide))
theorem vlY_ld (y : Nat → Int32) : vlY (ldY y) = vlY y := (vlY_up (by decide)).trans (vlY_up (by decide))
theorem tN_up (t : Nat → Nat) (L c : Nat) : upd (tN t) L (nI c) = tN (va_up t L c) := by
  funext k
  unfold upd tN va_up
  split <;> rfl
