/-! the reference's search: the next possible move -/
def nOf (od : Nat → Nat) (n : Nat) : Nat → Nat → Nat
  | 0, k => k
  | j + 1, k => if tk (od k) ≤ n then k else nOf od n j (k + 1)
theorem nOf_is {od : Nat → Nat} {n k : Nat} (hk : k < 4) (c : tk (od k) ≤ n) : nOf od n (4 - k) k = k := by
  obtain ⟨j, hj⟩ : ∃ j, 4 - k = j + 1 := ⟨4 - k - 1, by omega⟩
  rw [hj]
  exact if_pos c
theorem nOf_no {od : Nat → Nat} {n k : Nat} (hk : k < 4) (c : ¬ tk (od k) ≤ n) : nOf od n (4 - k) k = nOf od n (4 - (k + 1)) (k + 1) := by
  obtain ⟨j, hj⟩ : ∃ j, 4 - k = j + 1 := ⟨4 - k - 1, by omega⟩
  rw [hj, show 4 - (k + 1) = j by omega]
  exact if_neg c
theorem nOf_end {od : Nat → Nat} {n k : Nat} (hk : k = 4) : nOf od n (4 - k) k = 4 := by
  subst hk; rfl
theorem nOf_ge (od : Nat → Nat) (n : Nat) : ∀ j k, k ≤ nOf od n j k ∧ nOf od n j k ≤ k + j
  | 0, k => ⟨Nat.le_refl k, Nat.le_refl k⟩
  | j + 1, k => by
    unfold nOf
    have h := nOf_ge od n j (k + 1)
    split
    · exact ⟨Nat.le_refl k, by omega⟩
    · exact ⟨by omega, by omega⟩
theorem nOf_may (od : Nat → Nat) (n : Nat) : ∀ j k, nOf od n j k < k + j → tk (od (nOf od n j k)) ≤ n
  | 0, k, h => by have : k < k + 0 := h; omega
  | j + 1, k, h => by
    unfold nOf at h ⊢
    by_cases c : tk (od k) ≤ n
    · rw [if_pos c]; exact c
    · rw [if_neg c] at h ⊢
      exact nOf_may od n j (k + 1) (by omega)
theorem nOf_tm {rec : Nat → Nat → Int32 → Int32 → SS → SR} {p : Nat → Int32} {od : Nat → Nat} {f n : Nat} {a b : Int32} : ∀ j k v z, tm rec p od f n a b j k v z = tm rec p od f n a b (k + j - nOf od n j k) (nOf od n j k) v z
  | 0, k, v, z => by
    show _ = tm rec p od f n a b (k + 0 - k) k v z
    rw [show k + 0 - k = 0 by omega]
  | j + 1, k, v, z => by
    by_cases c : tk (od k) ≤ n
    · have e : nOf od n (j + 1) k = k := if_pos c
      rw [e, show k + (j + 1) - k = j + 1 by omega]
    · have e : nOf od n (j + 1) k = nOf od n j (k + 1) := if_neg c
      rw [e, show k + (j + 1) = k + 1 + j by omega, ← nOf_tm j (k + 1) v z]
      exact if_neg c
/-- some move takes one pile -/
theorem od_one : ∀ o, o < 24 → tk (odf o 0) = 1 ∨ tk (odf o 1) = 1 ∨ tk (odf o 2) = 1 := by decide +kernel
theorem nOf_first {o n : Nat} (ho : o < 24) (hn : 1 ≤ n) : nOf (odf o) n (4 - 0) 0 < 4 := by
  rcases od_one o ho with h | h | h
  · rw [nOf_is (by decide) (by omega)]; decide
  · by_cases c : tk (odf o 0) ≤ n
    · rw [nOf_is (by decide) c]; decide
    · rw [nOf_no (by decide) c, nOf_is (by decide) (Nat.le_trans (Nat.le_of_eq h) hn)]; decide
  · by_cases c : tk (odf o 0) ≤ n
    · rw [nOf_is (by decide) c]; decide
    · rw [nOf_no (by decide) c]
      by_cases c2 : tk (odf o (0 + 1)) ≤ n
      · rw [nOf_is (by decide) c2]; decide
      · rw [nOf_no (by decide) c2, nOf_is (by decide) (Nat.le_trans (Nat.le_of_eq h) hn)]; decide
/-- the best so far, as the reference notes it -/
def enc (v : Int32) : Int32 := if v = -2147483648 then -999 else v
/-- what a table may hold -/
def TV (z : SS) : Prop := ∀ n f, 1 ≤ n → f + n ≤ 12 → ¬ z.2.2.2.1 (f * 12 + n - 1) = 0 → sm (z.2.2.2.2.1 (f * 12 + n - 1)) (20 * n)
theorem imin : ((-2147483648 : Int32)).toInt = -2147483648 := by decide
theorem sm_nmin {v : Int32} {k : Int} (h : sm v k) (hk : k < 900) : ¬ v = -2147483648 ∧ ¬ v = -999 := by
  constructor
  · rintro rfl
    have := h.1
    rw [imin] at this
    omega
  · rintro rfl
    have := h.1
    rw [i999] at this
    omega
theorem enc_sm {v : Int32} {k : Int} (h : sm v k) (hk : k < 900) : enc v = v := if_neg (sm_nmin h hk).1
theorem enc_min : enc (-2147483648) = -999 := if_pos rfl
theorem mx_sm {x y : Int32} {k : Int} (hx : sm x k) (hy : sm y k) : sm (mx x y) k := by
  unfold mx; split
  · exact hy
  · exact hx
theorem mx_min {x : Int32} : mx (-2147483648) x = x := by
  unfold mx
  split
  · rfl
  · rename_i h
    rw [Int32.lt_iff_toInt_lt, imin] at h
    have := (toInt_rng x).1
    exact Int32.toInt_inj.mp (by rw [imin]; omega)
theorem mx_minr {x : Int32} : mx x (-2147483648) = x := by
  unfold mx
  rw [if_neg]
  rw [Int32.lt_iff_toInt_lt, imin]
  have := (toInt_rng x).1
  omega
/-- what is kept, if the table is used -/
def kpF (u : Nat) (g : Nat → Int32) (c : Nat) (v : Int32) : Nat → Int32 := if u = 0 then upd g c v else g
theorem kpF_y {u : Nat} {g : Nat → Int32} {c : Nat} {v : Int32} (h : u = 0) : kpF u g c v = upd g c v := if_pos h
theorem kpF_n {u : Nat} {g : Nat → Int32} {c : Nat} {v : Int32} (h : ¬ u = 0) : kpF u g c v = g := if_neg h
