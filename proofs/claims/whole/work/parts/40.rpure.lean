/-! the reference -/
theorem bm_ge (r : Nat → Int32) : ∀ i, (-999 : Int32) ≤ (bm r i).2
  | 0 => Int32.le_refl _
  | i + 1 => by
    show (-999 : Int32) ≤ (if r i ≤ (bm r i).2 then bm r i else (nI i, r i)).2
    split
    · exact bm_ge r i
    · rename_i h
      have h1 := bm_ge r i
      rw [Int32.le_iff_toInt_le] at h h1 ⊢
      show (-999 : Int32).toInt ≤ (r i).toInt
      omega
theorem nI_n999 {m : Nat} (h : m < 2 ^ 31) : ¬ nI m = -999 := fun e => by
  have h1 := nI_toInt h
  rw [e, i999] at h1
  omega
theorem bm_or (r : Nat → Int32) : ∀ i, bm r i = (-999, -999) ∨ ∃ m, m < i ∧ bm r i = (nI m, r m) ∧ ¬ r m ≤ -999
  | 0 => Or.inl rfl
  | i + 1 => by
    by_cases c : r i ≤ (bm r i).2
    · have e : bm r (i + 1) = bm r i := if_pos c
      rw [e]
      rcases bm_or r i with h | ⟨m, h1, h2⟩
      · exact Or.inl h
      · exact Or.inr ⟨m, by omega, h2⟩
    · have e : bm r (i + 1) = (nI i, r i) := if_neg c
      rw [e]
      refine Or.inr ⟨i, by omega, rfl, fun h => c ?_⟩
      exact Int32.le_trans h (bm_ge r i)
theorem bm_none {r : Nat → Int32} {i : Nat} (hi : i ≤ 4) (h : (bm r i).1 = -999) : bm r i = (-999, -999) := by
  rcases bm_or r i with h1 | ⟨m, h1, h2, -⟩
  · exact h1
  · rw [h2] at h
    exact absurd h (nI_n999 (by omega))
theorem bm_found {r : Nat → Int32} {i : Nat} (h : ¬ (bm r i).1 = -999) : ∃ m, m < i ∧ bm r i = (nI m, r m) ∧ ¬ r m ≤ -999 := by
  rcases bm_or r i with h1 | h1
  · rw [h1] at h
    exact absurd rfl h
  · exact h1
theorem rV_may {p : Nat → Int32} {v : Nat → Nat → Int32} {f n m : Nat} (h : ¬ rV p v f n m ≤ -999) : tk m ≤ n := by
  rcases Nat.lt_or_ge n (tk m) with q | q
  · exact absurd (by rw [rV_neg (by omega)]; exact Int32.le_refl _) h
  · exact q
/-- results of possible moves are greater than none -/
theorem rV_gt {p : Nat → Int32} {f n m : Nat} (hp : PR p) (hm4 : m < 4) (hm : tk m ≤ n) (hfn : f + n ≤ 12) : ¬ rV p (V p) f n m ≤ -999 := by
  have h := (rV_sm hp (v := V p) (fun k g _ hg => V_sm hp k g hg) hm4 hm hfn).1
  rw [Int32.le_iff_toInt_le, i999]
  omega
/-- the reference's table of values: a row of 169 -/
def FLp (p fl : Nat → Int32) (M c f : Nat) : Prop := ∀ n g, g + n ≤ M → (n < c ∨ (n = c ∧ g < f)) → fl (13 * g + n) = V p n g
def FLA (p fl : Nat → Int32) (M : Nat) : Prop := ∀ n g, g + n ≤ M → fl (13 * g + n) = V p n g
theorem FLp_step {p fl : Nat → Int32} {M c f : Nat} (h : FLp p fl M c f) (hf : f + c ≤ M) (hM : M ≤ 12) {x : Int32} (hx : x = V p c f) : FLp p (upd fl (13 * f + c) x) M c (f + 1) := by
  intro n g h1 h3
  by_cases q : 13 * g + n = 13 * f + c
  · have e1 : n = c := by omega
    have e2 : g = f := by omega
    subst e1; subst e2
    rw [pk_us, hx]
  · rw [pk_un q]
    exact h n g h1 (by
      rcases h3 with h3 | ⟨h3, h4⟩
      · exact Or.inl h3
      · refine Or.inr ⟨h3, ?_⟩
        rcases Nat.lt_or_ge g f with z | z
        · exact z
        · have : g = f := by omega
          rw [h3, this] at q
          exact absurd rfl q)
theorem FLp_next {p fl : Nat → Int32} {M c f : Nat} (h : FLp p fl M c f) (hf : M < f + c) : FLp p fl M (c + 1) 0 := by
  intro n g h1 h3
  exact h n g h1 (by
    rcases h3 with h3 | ⟨h3, h4⟩
    · rcases Nat.lt_or_ge n c with z | z
      · exact Or.inl z
      · exact Or.inr ⟨by omega, by omega⟩
    · omega)
theorem FLp_done {p fl : Nat → Int32} {M c f : Nat} (h : FLp p fl M c f) (hc : M < c) : FLA p fl M := fun n g h1 => h n g h1 (Or.inl (by omega))
theorem FLp_zero {p fl : Nat → Int32} {M : Nat} (hM : M ≤ 12) (h : ∀ g, g < 13 → fl (13 * g + 0) = 0) : FLp p fl M 1 0 := by
  intro n g h1 h2
  have : n = 0 := by omega
  subst this
  rw [V_zero]
  exact h g (by omega)
theorem fl0_step {fl : Nat → Int32} {i : Nat} (h : ∀ g, g < i → fl (13 * g + 0) = 0) : ∀ g, g < i + 1 → upd fl (13 * i + 0) 0 (13 * g + 0) = 0 := by
  intro g hg
  by_cases e : g = i
  · subst e; exact pk_us
  · rw [pk_un (by omega)]; exact h g (by omega)
/-- the row of 457: M piles, the state x, y, the piles p -/
def RowR (sr : Nat → Int32) (x : Nat → Nat) (y : Nat → Int32) (M : Nat) (p : Nat → Int32) : Prop :=
  sr 0 = nI M ∧ (∀ k, k < M → sr (1 + k) = p k) ∧ (sr 13 = nI (x 13) ∧ sr 14 = nI (x 14) ∧ sr 15 = nI (x 15) ∧ sr 18 = nI (x 18) ∧ sr 19 = nI (x 19) ∧ sr 20 = nI (x 20) ∧ sr 22 = nI (x 22)) ∧ (sr 16 = y 16 ∧ sr 17 = y 17 ∧ sr 21 = y 21 ∧ sr 23 = y 23 ∧ sr 24 = y 24) ∧ ∀ k, 25 ≤ k → k < 457 → sr k = y k
