/-! what the game is, as pure functions: piles p, a position (first f, count n), a move m (0 to 3) -/
def tk (m : Nat) : Nat := if m % 2 = 0 then 1 else 2
theorem tk_pos (m : Nat) : 1 ≤ tk m := by unfold tk; split <;> omega
theorem tk_le (m : Nat) : tk m ≤ 2 := by unfold tk; split <;> omega
def bh (f m : Nat) : Nat := if m < 2 then f + tk m else f
theorem bh_le (f m : Nat) : bh f m ≤ f + tk m := by unfold bh; split <;> omega
def cn (p : Nat → Int32) (f n m : Nat) : Int32 := if m = 0 then p f else if m = 1 then p f + p (f + 1) else if m = 2 then p (f + n - 1) else p (f + n - 1) + p (f + n - 2)
theorem bI_fit {c : Prop} [Decidable c] : fits .boolean (.int (bI c)) = true := by
  unfold bI; split <;> rfl
theorem nI_sub_lit {a b : Nat} (h : b ≤ a) : nI a + (-nI b) = nI (a - b) := by
  rw [← pk_sub h]
  exact (Int32.sub_eq_add_neg (nI a) (nI b)).symm
theorem i0_le {x : Int32} (h : ¬ x < 0) : 0 ≤ x := by
  rcases Int32.lt_or_le x 0 with q | q
  · exact absurd q h
  · exact q
/-- the first i cells of f, then g's -/
def cpy (f g : Nat → Int32) (i : Nat) : Nat → Int32 := fun k => if k < i then f k else g k
theorem cpy_zero (f g : Nat → Int32) : cpy f g 0 = g := by funext k; simp [cpy]
theorem cpy_succ (f g : Nat → Int32) (i : Nat) : upd (cpy f g i) i (f i) = cpy f g (i + 1) := by
  funext k; unfold upd cpy
  by_cases h : k = i
  · subst h; simp
  · by_cases h2 : k < i
    · simp [h, h2, Nat.lt_succ_of_lt h2]
    · have h3 : ¬ k < i + 1 := by omega
      simp [h, h2, h3]
theorem cpy_lt {f g : Nat → Int32} {i k : Nat} (h : k < i) : cpy f g i k = f k := by simp [cpy, h]
def mi (h : Int64) (v : Int32) : Int64 := 31 * h + v.toInt64
