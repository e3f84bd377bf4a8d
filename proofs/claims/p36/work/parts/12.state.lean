/-! what a state of the class is: x: its small numbers, y: the others, p: its piles; by the places of one row of 457 numbers -/
def kdY (y : Nat → Int32) : Nat → Int32 := fun k => y (25 + k)
def vlY (y : Nat → Int32) : Nat → Int32 := fun k => y (313 + k)
/-- the six cells of a State at the addresses a 0 .. a 5 -/
abbrev stw (G : u_G) (a : Nat → Nat) (x : Nat → Nat) (y p : Nat → Int32) : va_W := [(a 0, .inr (6, [.ref (a 1), .ref (a 3), .int (nI (x 18)), .int (nI (x 19)), .int (bI (x 20 = 0))])), (a 1, .inr (2, [.ref (a 2), .int (nI (x 13)), .int (nI (x 14)), .int (nI (x 15)), .int (y 16), .int (y 17)])), (a 2, .inl (G.1, 12, .inl p)), (a 3, .inr (0, [.int (y 21), .int (nI (x 22)), .int (y 23), .int (y 24), .ref (a 4), .ref (a 5)])), (a 4, .inl (G.1, 144, .inl (kdY y))), (a 5, .inl (G.1, 144, .inl (vlY y)))]
/-- the six saved states -/
abbrev svw (G : u_G) (a : Nat → Nat → Nat) (xs : Nat → Nat → Nat) (ys ps : Nat → Nat → Int32) : va_W := stw G (a 0) (xs 0) (ys 0) (ps 0) ++ (stw G (a 1) (xs 1) (ys 1) (ps 1) ++ (stw G (a 2) (xs 2) (ys 2) (ps 2) ++ (stw G (a 3) (xs 3) (ys 3) (ps 3) ++ (stw G (a 4) (xs 4) (ys 4) (ps 4) ++ stw G (a 5) (xs 5) (ys 5) (ps 5)))))
def tN (t : Nat → Nat) : Nat → Int32 := fun k => nI (t k)
/-! the text, read sign by sign: c the sign, cnt the numbers begun, num the last one, F the row of them -/
def acc (c cnt num : Nat) (F : Nat → Int32) : Bool × Nat × Nat × (Nat → Int32) :=
  if c = 44 then (if num = 0 then (false, cnt, num, F) else if 12 ≤ cnt then (false, cnt, num, F) else (true, cnt + 1, 0, F))
  else if c < 48 then (false, cnt, num, F) else if 57 < c then (false, cnt, num, F)
  else if num * 10 + c - 48 < 1 then (false, cnt, num, F) else if 20 < num * 10 + c - 48 then (false, cnt, num, F)
  else (true, cnt, num * 10 + c - 48, upd F (cnt - 1) (nI (num * 10 + c - 48)))
theorem acc_ok {c cnt num : Nat} {F : Nat → Int32} (h1 : 1 ≤ cnt) (h2 : cnt ≤ 12) (h3 : num ≤ 20) : 1 ≤ (acc c cnt num F).2.1 ∧ (acc c cnt num F).2.1 ≤ 12 ∧ (acc c cnt num F).2.2.1 ≤ 20 := by
  unfold acc
  repeat' split
  all_goals (refine ⟨?_, ?_, ?_⟩ <;> dsimp only <;> omega)
/-- from the i-th sign on, k signs at most: where it ends, and the numbers -/
def rd (t : Nat → Nat) : Nat → Nat → Nat × Nat × (Nat → Int32) → Nat × Nat × Nat × (Nat → Int32)
  | 0, i, z => (i, z)
  | k + 1, i, z => if (acc (t i) z.1 z.2.1 z.2.2).1 = true then rd t k (i + 1) (acc (t i) z.1 z.2.1 z.2.2).2 else (i, (acc (t i) z.1 z.2.1 z.2.2).2)
def rdA (t : Nat → Nat) (L : Nat) (F : Nat → Int32) : Nat × Nat × Nat × (Nat → Int32) := rd t L 0 (1, 0, F)
def zf : Nat → Int32 := fun _ => 0
theorem zf_succ (f : Nat → Int32) (i : Nat) : upd (cpy zf f i) i 0 = cpy zf f (i + 1) := cpy_succ zf f i
def mk0 (tu : Nat) (c g : Int32) : Int32 := if tu = 0 then c + g else c
def mk1 (tu : Nat) (c g : Int32) : Int32 := if tu = 0 then c else c + g
theorem i1_sub {a : Nat} (h : a ≤ 1) : (1 : Int32) - nI a = nI (1 - a) := pk_sub h
theorem rd_go {t : Nat → Nat} {L i : Nat} {z : Nat × Nat × (Nat → Int32)} (h : i < L) (ha : (acc (t i) z.1 z.2.1 z.2.2).1 = true) : rd t (L - i) i z = rd t (L - (i + 1)) (i + 1) (acc (t i) z.1 z.2.1 z.2.2).2 := by
  obtain ⟨k, hk⟩ : ∃ k, L - i = k + 1 := ⟨L - i - 1, by omega⟩
  rw [hk, show L - (i + 1) = k by omega]
  exact if_pos ha
theorem rd_stop {t : Nat → Nat} {L i : Nat} {z : Nat × Nat × (Nat → Int32)} (h : i < L) (ha : ¬ (acc (t i) z.1 z.2.1 z.2.2).1 = true) : rd t (L - i) i z = (i, (acc (t i) z.1 z.2.1 z.2.2).2) := by
  obtain ⟨k, hk⟩ : ∃ k, L - i = k + 1 := ⟨L - i - 1, by omega⟩
  rw [hk]
  exact if_neg ha
theorem rd_le (t : Nat → Nat) : ∀ k i z, (rd t k i z).1 ≤ i + k
  | 0, _, _ => Nat.le_refl _
  | k + 1, i, z => by
    show (if _ then _ else _ : Nat × Nat × Nat × (Nat → Int32)).1 ≤ _
    split
    · have := rd_le t k (i + 1) (acc (t i) z.1 z.2.1 z.2.2).2
      omega
    · show i ≤ _
      omega
theorem rd_num (t : Nat → Nat) : ∀ k i z, 1 ≤ z.1 → z.1 ≤ 12 → z.2.1 ≤ 20 → 1 ≤ (rd t k i z).2.1 ∧ (rd t k i z).2.1 ≤ 12 ∧ (rd t k i z).2.2.1 ≤ 20
  | 0, _, _, h1, h2, h3 => ⟨h1, h2, h3⟩
  | k + 1, i, z, h1, h2, h3 => by
    have ha := acc_ok (c := t i) (F := z.2.2) h1 h2 h3
    show 1 ≤ (if _ then _ else _ : Nat × Nat × Nat × (Nat → Int32)).2.1 ∧ (if _ then _ else _ : Nat × Nat × Nat × (Nat → Int32)).2.1 ≤ 12 ∧ (if _ then _ else _ : Nat × Nat × Nat × (Nat → Int32)).2.2.1 ≤ 20
    split
    · exact rd_num t k (i + 1) _ ha.1 ha.2.1 ha.2.2
    · exact ha
theorem rdA_le (t : Nat → Nat) (L : Nat) (F : Nat → Int32) : (rdA t L F).1 ≤ L := by
  have := rd_le t L 0 (1, 0, F)
  unfold rdA
  omega
theorem rdA_num (t : Nat → Nat) (L : Nat) (F : Nat → Int32) : 1 ≤ (rdA t L F).2.1 ∧ (rdA t L F).2.1 ≤ 12 ∧ (rdA t L F).2.2.1 ≤ 20 := rd_num t L 0 (1, 0, F) (Nat.le_refl 1) (show 1 ≤ 12 by decide) (Nat.zero_le 20)
