/-! the row behind a search -/
def CPs (s9 s1 K E W : Nat → Int32) (i : Nat) : Prop := (∀ j, j < 25 → s9 j = s1 j) ∧ ∀ j, j < i → s9 (25 + j) = K j ∧ s9 (169 + j) = E j ∧ s9 (313 + j) = W j
theorem CPs_step {s9 s1 K E W : Nat → Int32} {i : Nat} (h : CPs s9 s1 K E W i) (hi : i < 144) : CPs (upd (upd (upd s9 (25 + i) (K i)) (169 + i) (E i)) (313 + i) (W i)) s1 K E W (i + 1) := by
  refine ⟨fun j hj => ?_, fun j hj => ?_⟩
  · rw [pk_un (by omega), pk_un (by omega), pk_un (by omega)]; exact h.1 j hj
  · by_cases e : j = i
    · subst e
      refine ⟨?_, ?_, ?_⟩
      · rw [pk_un (by omega), pk_un (by omega), pk_us]
      · rw [pk_un (by omega), pk_us]
      · rw [pk_us]
    · obtain ⟨h1, h2, h3⟩ := h.2 j (by omega)
      refine ⟨?_, ?_, ?_⟩
      · rw [pk_un (by omega), pk_un (by omega), pk_un (by omega)]; exact h1
      · rw [pk_un (by omega), pk_un (by omega), pk_un (by omega)]; exact h2
      · rw [pk_un (by omega), pk_un (by omega), pk_un (by omega)]; exact h3
theorem RowR.se {sr : Nat → Int32} {x : Nat → Nat} {y : Nat → Int32} {M : Nat} {p s9 : Nat → Int32} {R : SR} (h : RowR sr x y M p) (hM : M ≤ 12) (hc : CPs s9 (upd (upd (upd (upd sr 21 (sAn R)) 22 (nI R.2.2.1)) 23 R.2.2.2.1) 24 R.2.2.2.2.1) R.2.2.2.2.2.1 R.2.2.2.2.2.2.2 R.2.2.2.2.2.2.1 144) : RowR s9 (sX R x) (sY R y) M p := by
  have lo : ∀ j, j < 21 → s9 j = sr j := fun j hj => by
    rw [hc.1 j (by omega), pk_un (by omega), pk_un (by omega), pk_un (by omega), pk_un (by omega)]
  have xe : ∀ j, ¬ j = 22 → sX R x j = x j := fun j hj => va_up_ne _ _ hj
  refine .mk ?_ ?_ ?_ ?_ ?_ ?_ ?_ ?_ ?_ ?_ ?_ ?_ ?_ ?_ ?_
  · rw [lo _ (by omega)]; exact h.n0
  · intro k hk; rw [lo _ (by omega)]; exact h.pp k hk
  · rw [lo _ (by omega), xe _ (by omega)]; exact h.n13
  · rw [lo _ (by omega), xe _ (by omega)]; exact h.n14
  · rw [lo _ (by omega), xe _ (by omega)]; exact h.n15
  · rw [lo _ (by omega)]; exact h.n16
  · rw [lo _ (by omega)]; exact h.n17
  · rw [lo _ (by omega), xe _ (by omega)]; exact h.n18
  · rw [lo _ (by omega), xe _ (by omega)]; exact h.n19
  · rw [lo _ (by omega), xe _ (by omega)]; exact h.n20
  · rw [hc.1 21 (by omega), pk_un (by omega), pk_un (by omega), pk_un (by omega), pk_us]; rfl
  · rw [hc.1 22 (by omega), pk_un (by omega), pk_un (by omega), pk_us]; rfl
  · rw [hc.1 23 (by omega), pk_un (by omega), pk_us]; rfl
  · rw [hc.1 24 (by omega), pk_us]; rfl
  · intro k h1 h2
    unfold sY
    rw [if_neg (by omega), if_neg (by omega), if_neg (by omega)]
    by_cases c1 : 25 ≤ k ∧ k < 169
    · rw [if_pos c1]
      have := (hc.2 (k - 25) (by omega)).1
      rw [show 25 + (k - 25) = k by omega] at this
      exact this
    · rw [if_neg c1]
      by_cases c2 : 169 ≤ k ∧ k < 313
      · rw [if_pos c2]
        have := (hc.2 (k - 169) (by omega)).2.1
        rw [show 169 + (k - 169) = k by omega] at this
        exact this
      · rw [if_neg c2, if_pos (by omega)]
        have := (hc.2 (k - 313) (by omega)).2.2
        rw [show 313 + (k - 313) = k by omega] at this
        exact this
theorem i240 : ((-240 : Int32)).toInt = -240 := by decide
theorem i241 : ((241 : Int32)).toInt = 241 := by decide
theorem i240p : ((240 : Int32)).toInt = 240 := by decide
theorem sq_a {a : Int32} (h1 : ¬ a < -240) (h2 : a < 241) : sm a 240 := by
  rw [Int32.lt_iff_toInt_lt, i240] at h1
  rw [Int32.lt_iff_toInt_lt, i241] at h2
  exact ⟨by omega, by omega⟩
theorem sq_b {a b : Int32} (ha : sm a 240) (h3 : ¬ b ≤ a) (h4 : b ≤ 241) : sm b 241 := by
  rw [Int32.le_iff_toInt_le] at h3
  rw [Int32.le_iff_toInt_le, i241] at h4
  exact ⟨by have := ha.1; omega, h4⟩
theorem sq_1 {a : Int32} (ha : sm a 240) : ¬ a < -240 ∧ ¬ 240 < a := by
  rw [Int32.lt_iff_toInt_lt, Int32.lt_iff_toInt_lt, i240, i240p]
  have := ha.1
  have := ha.2
  omega
theorem sq_2 {a b : Int32} (ha : sm a 240) (h3 : ¬ b ≤ a) (h4 : b ≤ 241) : ¬ b < a + 1 ∧ ¬ 241 < b := by
  have e := (sm_add (y := 1) ha (show sm 1 1 from ⟨by decide, by decide⟩) (by omega)).2
  have e1 : (1 : Int32).toInt = 1 := by decide
  rw [Int32.le_iff_toInt_le] at h3
  rw [Int32.le_iff_toInt_le, i241] at h4
  rw [Int32.lt_iff_toInt_lt, Int32.lt_iff_toInt_lt, e, e1, i241]
  omega
