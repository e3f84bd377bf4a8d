/-! margin, orders by their numbers -/
theorem mx_ge {a x y : Int32} (h : a ≤ x) : a ≤ mx x y := by
  unfold mx
  split
  · rename_i c
    exact Int32.le_trans h (by rw [Int32.lt_iff_toInt_lt] at c; rw [Int32.le_iff_toInt_le]; omega)
  · exact h
theorem mgn_ge (r : Nat → Int32) (n : Nat) (B : Int32) : ∀ i, (-999 : Int32) ≤ mgn r n B i
  | 0 => Int32.le_refl _
  | i + 1 => by
    have ih := mgn_ge r n B i
    show (-999 : Int32) ≤ (if nI i = B then mgn r n B i else if tk i ≤ n then mx (mgn r n B i) (r i) else mgn r n B i)
    split
    · exact ih
    · split
      · exact mx_ge ih
      · exact ih
theorem mgn_no {r : Nat → Int32} {n i : Nat} {B : Int32} (h : nI i = B ∨ ¬ tk i ≤ n) : mgn r n B (i + 1) = mgn r n B i := by
  show (if nI i = B then mgn r n B i else if tk i ≤ n then mx (mgn r n B i) (r i) else mgn r n B i) = _
  by_cases c : nI i = B
  · rw [if_pos c]
  · rw [if_neg c, if_neg (h.resolve_left c)]
theorem mgn_keep {r : Nat → Int32} {n i : Nat} {B : Int32} (c : ¬ nI i = B) (h : tk i ≤ n) (h2 : r i ≤ mgn r n B i) : mgn r n B (i + 1) = mgn r n B i := by
  show (if nI i = B then mgn r n B i else if tk i ≤ n then mx (mgn r n B i) (r i) else mgn r n B i) = _
  rw [if_neg c, if_pos h]
  unfold mx
  rw [if_neg (by rw [Int32.lt_iff_toInt_lt]; rw [Int32.le_iff_toInt_le] at h2; omega)]
theorem mgn_new {r : Nat → Int32} {n i : Nat} {B : Int32} (c : ¬ nI i = B) (h : tk i ≤ n) (h2 : ¬ r i ≤ mgn r n B i) : mgn r n B (i + 1) = r i := by
  show (if nI i = B then mgn r n B i else if tk i ≤ n then mx (mgn r n B i) (r i) else mgn r n B i) = _
  rw [if_neg c, if_pos h]
  unfold mx
  rw [if_pos (by rw [Int32.lt_iff_toInt_lt]; rw [Int32.le_iff_toInt_le] at h2; omega)]
theorem mgn_n0 {r : Nat → Int32} {B : Int32} : ∀ i, mgn r 0 B i = -999
  | 0 => rfl
  | i + 1 => by
    rw [mgn_no (Or.inr (by have := tk_pos i; omega))]
    exact mgn_n0 i
theorem mgA_no {p : Nat → Int32} {f n : Nat} (h : mgn (rV p (V p) f n) n (bm (rV p (V p) f n) 4).1 4 = -999) : mgA p f n = -999 := if_pos h
theorem mgA_is {p : Nat → Int32} {f n : Nat} (h : ¬ mgn (rV p (V p) f n) n (bm (rV p (V p) f n) 4).1 4 = -999) : mgA p f n = V p n f - mgn (rV p (V p) f n) n (bm (rV p (V p) f n) 4).1 4 := if_neg h
theorem bf_row {bw : Nat → Nat → Int32} {n j : Nat} (h : j < 457) : bfF bw (457 * n + j) = bw n j := by
  unfold bfF
  rw [show (457 * n + j) / 457 = n by omega, show (457 * n + j) % 457 = j by omega]
/-- the place of the next sign in an order's number -/
def inN (u : Nat) : Nat → Nat → Nat → Nat
  | 0, i, _ => i
  | n + 1, i, k => if u / 2 ^ i % 2 = 1 ∨ 0 < k then inN u n (i + 1) (if u / 2 ^ i % 2 = 1 then k else k - 1) else i
theorem inN_ge (u : Nat) : ∀ n i k, i ≤ inN u n i k
  | 0, i, _ => Nat.le_refl i
  | n + 1, i, k => by
    unfold inN
    split
    · exact Nat.le_trans (Nat.le_succ i) (inN_ge u n (i + 1) _)
    · exact Nat.le_refl i
/-- used, rest, found, size behind j signs of order o -/
def oS (o : Nat) : Nat → Nat × Nat × Nat × Nat
  | 0 => (0, o, 0, 6)
  | j + 1 => ((oS o j).1 + 2 ^ inN (oS o j).1 8 0 ((oS o j).2.1 / (oS o j).2.2.2), (oS o j).2.1 % (oS o j).2.2.2, inN (oS o j).1 8 0 ((oS o j).2.1 / (oS o j).2.2.2), if j = 0 then 2 else 1)
theorem oS_ok : ∀ o, o < 24 → ∀ j, j < 4 → (oS o (j + 1)).2.2.1 = ordN (o * 4 + j) ∧ (oS o (j + 1)).2.2.1 < 4 ∧ (oS o j).1 < 16 ∧ 1 ≤ (oS o j).2.2.2 ∧ (oS o j).2.2.2 ≤ 6 ∧ (oS o j).2.1 < 24 ∧ (oS o j).1 / 2 ^ (oS o (j + 1)).2.2.1 % 2 = 0 := by decide +kernel
theorem sh_r : ∀ u, u < 16 → ∀ i, i < 4 → nI u >>> (nI i &&& 31) = nI (u / 2 ^ i) := by decide +kernel
theorem an_1 : ∀ u, u < 16 → nI u &&& 1 = nI (u % 2) := by decide +kernel
theorem sh_l : ∀ i, i < 4 → (1 : Int32) <<< (nI i &&& 31) = nI (2 ^ i) := by decide +kernel
theorem or_b : ∀ u, u < 16 → ∀ i, i < 4 → u / 2 ^ i % 2 = 0 → nI u ||| nI (2 ^ i) = nI (u + 2 ^ i) := by decide +kernel
theorem sh_lt {u i : Nat} (h : u < 16) : u / 2 ^ i < 16 := Nat.lt_of_le_of_lt (Nat.div_le_self _ _) h
theorem inN_go {u n i k : Nat} (h : u / 2 ^ i % 2 = 1 ∨ 0 < k) : inN u (n + 1) i k = inN u n (i + 1) (if u / 2 ^ i % 2 = 1 then k else k - 1) := if_pos h
theorem inN_end {u n i k : Nat} (h : ¬ (u / 2 ^ i % 2 = 1 ∨ 0 < k)) : inN u (n + 1) i k = i := if_neg h
