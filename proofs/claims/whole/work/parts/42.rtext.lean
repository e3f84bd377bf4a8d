/-! the reference reads the text number by number -/
def nx (t : Nat → Nat) (L i : Nat) : Nat := if i < L then t i else 0
theorem nx_lt {t : Nat → Nat} {L i : Nat} (h : ∀ k, k < L → t k < 128) : nx t L i < 128 := by
  unfold nx; split
  · exact h i (by assumption)
  · omega
/-- a number from i on, c numbers before: wrong, where it ends, the count, its value -/
def nmA (t : Nat → Nat) (L i c : Nat) : Bool × Nat × Nat × Nat :=
  if 49 ≤ nx t L i ∧ nx t L i ≤ 57 then
    (if 48 ≤ nx t L (i + 1) ∧ nx t L (i + 1) ≤ 57 ∧ 10 * (nx t L i - 48) + nx t L (i + 1) - 48 ≤ 20 then (false, i + 2, c + 1, 10 * (nx t L i - 48) + nx t L (i + 1) - 48) else (false, i + 1, c + 1, nx t L i - 48))
  else (true, i, c, 0)
theorem acc_f {x c n : Nat} {F : Nat → Int32} (h : (x = 44 ∧ (n = 0 ∨ 12 ≤ c)) ∨ (¬ x = 44 ∧ (x < 48 ∨ 57 < x ∨ n * 10 + x - 48 < 1 ∨ 20 < n * 10 + x - 48))) : acc x c n F = (false, c, n, F) := by
  unfold acc
  rcases h with ⟨h1, h2⟩ | ⟨h1, h2⟩
  · rw [if_pos h1]
    by_cases e : n = 0
    · rw [if_pos e]
    · rw [if_neg e, if_pos (by omega)]
  · rw [if_neg h1]
    by_cases e1 : x < 48
    · rw [if_pos e1]
    · rw [if_neg e1]
      by_cases e2 : 57 < x
      · rw [if_pos e2]
      · rw [if_neg e2]
        by_cases e3 : n * 10 + x - 48 < 1
        · rw [if_pos e3]
        · rw [if_neg e3, if_pos (by omega)]
theorem acc_t {x c n : Nat} {F : Nat → Int32} (h1 : 48 ≤ x) (h2 : x ≤ 57) (h3 : 1 ≤ n * 10 + x - 48) (h4 : n * 10 + x - 48 ≤ 20) : acc x c n F = (true, c, n * 10 + x - 48, upd F (c - 1) (nI (n * 10 + x - 48))) := by
  unfold acc
  rw [if_neg (by omega), if_neg (by omega), if_neg (by omega), if_neg (by omega), if_neg (by omega)]
theorem acc_c {c n : Nat} {F : Nat → Int32} (h1 : ¬ n = 0) (h2 : c < 12) : acc 44 c n F = (true, c + 1, 0, F) := by
  unfold acc
  rw [if_pos rfl, if_neg h1, if_neg (by omega)]
theorem rd_ff {t : Nat → Nat} {L i c n : Nat} {F : Nat → Int32} (h : i < L) (ha : acc (t i) c n F = (false, c, n, F)) : rd t (L - i) i (c, n, F) = (i, c, n, F) := by
  have e := rd_stop (t := t) (L := L) (i := i) (z := (c, n, F)) h (by show ¬ (acc (t i) c n F).1 = true; rw [ha]; exact Bool.false_ne_true)
  rw [e]
  show (i, (acc (t i) c n F).2) = _
  rw [ha]
theorem rd_tt {t : Nat → Nat} {L i c n c' n' : Nat} {F F' : Nat → Int32} (h : i < L) (ha : acc (t i) c n F = (true, c', n', F')) : rd t (L - i) i (c, n, F) = rd t (L - (i + 1)) (i + 1) (c', n', F') := by
  have e := rd_go (t := t) (L := L) (i := i) (z := (c, n, F)) h (by show (acc (t i) c n F).1 = true; rw [ha])
  rw [e]
  show rd t (L - (i + 1)) (i + 1) (acc (t i) c n F).2 = _
  rw [ha]
theorem nm_bad {t : Nat → Nat} {L i c : Nat} {F : Nat → Int32} (hi : i ≤ L) (h : ¬ (49 ≤ nx t L i ∧ nx t L i ≤ 57)) : rd t (L - i) i (c + 1, 0, F) = (i, c + 1, 0, F) := by
  rcases Nat.lt_or_ge i L with q | q
  · have e : nx t L i = t i := if_pos q
    rw [e] at h
    refine rd_ff q (acc_f ?_)
    by_cases e2 : t i = 44
    · exact Or.inl ⟨e2, Or.inl rfl⟩
    · exact Or.inr ⟨e2, by omega⟩
  · have : i = L := by omega
    subst this
    rw [Nat.sub_self]
    rfl
theorem nmA_bad {t : Nat → Nat} {L i c : Nat} (h : ¬ (49 ≤ nx t L i ∧ nx t L i ≤ 57)) : nmA t L i c = (true, i, c, 0) := if_neg h
theorem nm_good {t : Nat → Nat} {L i c j m v : Nat} (F : Nat → Int32) (h : nmA t L i c = (false, j, m, v)) :
    rd t (L - i) i (c + 1, 0, F) = rd t (L - j) j (c + 1, v, upd F c (nI v)) ∧ i < j ∧ j ≤ L ∧ 1 ≤ v ∧ v ≤ 20 ∧ m = c + 1 ∧ (j < L → ¬ t j = 44 → ∀ F', acc (t j) (c + 1) v F' = (false, c + 1, v, F')) := by
  unfold nmA at h
  by_cases h1 : 49 ≤ nx t L i ∧ nx t L i ≤ 57
  · rw [if_pos h1] at h
    have hiL : i < L := by
      rcases Nat.lt_or_ge i L with q | q
      · exact q
      · have e : nx t L i = 0 := if_neg (by omega)
        omega
    have e1 : nx t L i = t i := if_pos hiL
    rw [e1] at h h1
    have a1 := acc_t (x := t i) (c := c + 1) (n := 0) (F := F) (by omega) (by omega) (by omega) (by omega)
    have r1 := rd_tt (t := t) (L := L) hiL a1
    rw [show 0 * 10 + t i - 48 = t i - 48 by omega, show c + 1 - 1 = c by omega] at r1
    by_cases h2 : 48 ≤ nx t L (i + 1) ∧ nx t L (i + 1) ≤ 57 ∧ 10 * (t i - 48) + nx t L (i + 1) - 48 ≤ 20
    · rw [if_pos h2] at h
      simp only [Prod.mk.injEq] at h
      obtain ⟨-, rfl, rfl, rfl⟩ := h
      have hjL : i + 1 < L := by
        rcases Nat.lt_or_ge (i + 1) L with q | q
        · exact q
        · have e : nx t L (i + 1) = 0 := if_neg (by omega)
          omega
      have e2 : nx t L (i + 1) = t (i + 1) := if_pos hjL
      rw [e2] at h2 ⊢
      have a2 := acc_t (x := t (i + 1)) (c := c + 1) (n := t i - 48) (F := upd F c (nI (t i - 48))) (by omega) (by omega) (by omega) (by omega)
      have r2 := rd_tt (t := t) (L := L) hjL a2
      rw [show (t i - 48) * 10 + t (i + 1) - 48 = 10 * (t i - 48) + t (i + 1) - 48 by omega, show c + 1 - 1 = c by omega] at r2
      refine ⟨?_, by omega, by omega, by omega, by omega, rfl, fun hj h44 F' => acc_f (Or.inr ⟨h44, by omega⟩)⟩
      rw [r1, r2]
      have e3 : upd (upd F c (nI (t i - 48))) c (nI (10 * (t i - 48) + t (i + 1) - 48)) = upd F c (nI (10 * (t i - 48) + t (i + 1) - 48)) := by
        funext k; unfold upd; split <;> rfl
      rw [e3]
    · rw [if_neg h2] at h
      simp only [Prod.mk.injEq] at h
      obtain ⟨-, rfl, rfl, rfl⟩ := h
      refine ⟨r1, by omega, by omega, by omega, by omega, rfl, fun hj h44 F' => ?_⟩
      have e2 : nx t L (i + 1) = t (i + 1) := if_pos hj
      rw [e2] at h2
      exact acc_f (Or.inr ⟨h44, by omega⟩)
  · rw [if_neg h1] at h
    cases h
theorem nm_iff {c : Nat} (h : c < 128) : (¬ (nI c - 48) < 1 ∧ ¬ 9 < (nI c - 48)) ↔ (49 ≤ c ∧ c ≤ 57) := by
  have h1 : ((nI c - 48).toInt : Int) = (c : Int) - 48 := pk_sub_toInt (b := 48) (by omega) (by decide)
  rw [Int32.lt_iff_toInt_lt, Int32.lt_iff_toInt_lt, h1]
  have e1 : (1 : Int32).toInt = 1 := by decide
  have e9 : (9 : Int32).toInt = 9 := by decide
  rw [e1, e9]
  omega
theorem nm_iff2 {c : Nat} (h : c < 128) : (¬ nI c < 48 ∧ ¬ 57 < nI c) ↔ (48 ≤ c ∧ c ≤ 57) := by
  have e1 : nI c < 48 ↔ c < 48 := nI_ltI (b := 48) (by omega) (by decide)
  have e2 : 57 < nI c ↔ 57 < c := nI_ltI (a := 57) (by decide) (by omega)
  rw [e1, e2]
  omega
def nmS (u : Bool × Nat × Nat × Nat) (sr : Nat → Int32) (c : Nat) : Nat → Int32 := if u.1 = true then sr else upd sr (1 + c) (nI u.2.2.2)
