/-! the search with bounds, as a pure function -/
/-- nodes, cuts, hits, kinds, values, depths -/
abbrev SS : Type := Nat × Int32 × Int32 × (Nat → Int32) × (Nat → Int32) × (Nat → Int32)
abbrev SR : Type := Bool × Int32 × SS
def mx (x y : Int32) : Int32 := if x < y then y else x
def kn (a b v : Int32) : Int32 := if v < b then (if a < v then 1 else 3) else 2
def zN (z : SS) : SS := (z.1 + 1, z.2)
def zC (z : SS) : SS := (z.1, z.2.1 + 1, z.2.2)
def zH (z : SS) : SS := (z.1, z.2.1, z.2.2.1 + 1, z.2.2.2)
def zK (c d : Nat) (a b v : Int32) (z : SS) : SS := (z.1, z.2.1, z.2.2.1, upd z.2.2.2.1 c (kn a b v), upd z.2.2.2.2.1 c v, upd z.2.2.2.2.2 c (nI d))
abbrev hitP (K W E : Nat → Int32) (c d : Nat) (a b : Int32) : Prop := E c = nI d ∧ (K c = 1 ∨ (K c = 2 ∧ ¬ W c < b) ∨ (K c = 3 ∧ ¬ a < W c))
def tm (rec : Nat → Nat → Int32 → Int32 → SS → SR) (p : Nat → Int32) (od : Nat → Nat) (f n : Nat) (a b : Int32) : Nat → Nat → Int32 → SS → SR
  | 0, _, v, z => (false, v, z)
  | j + 1, k, v, z =>
    if tk (od k) ≤ n then
      if (rec (bh f (od k)) (n - tk (od k)) (cn p f n (od k) - b) (cn p f n (od k) - mx a v) z).1 = true then (true, 0, (rec (bh f (od k)) (n - tk (od k)) (cn p f n (od k) - b) (cn p f n (od k) - mx a v) z).2.2)
      else if mx v (cn p f n (od k) - (rec (bh f (od k)) (n - tk (od k)) (cn p f n (od k) - b) (cn p f n (od k) - mx a v) z).2.1) < b then
        tm rec p od f n a b j (k + 1) (mx v (cn p f n (od k) - (rec (bh f (od k)) (n - tk (od k)) (cn p f n (od k) - b) (cn p f n (od k) - mx a v) z).2.1)) (rec (bh f (od k)) (n - tk (od k)) (cn p f n (od k) - b) (cn p f n (od k) - mx a v) z).2.2
      else (false, mx v (cn p f n (od k) - (rec (bh f (od k)) (n - tk (od k)) (cn p f n (od k) - b) (cn p f n (od k) - mx a v) z).2.1), zC (rec (bh f (od k)) (n - tk (od k)) (cn p f n (od k) - b) (cn p f n (od k) - mx a v) z).2.2)
    else tm rec p od f n a b j (k + 1) v z
def srch (p : Nat → Int32) (od : Nat → Nat) (lim u : Nat) : Nat → Nat → Nat → Int32 → Int32 → SS → SR
  | 0 => fun _ _ _ _ z => if lim < z.1 + 1 then (true, 0, zN z) else (false, 0, zN z)
  | d + 1 => fun f n a b z =>
    if lim < z.1 + 1 then (true, 0, zN z)
    else if n = 0 then (false, 0, zN z)
    else if u = 0 ∧ hitP z.2.2.2.1 z.2.2.2.2.1 z.2.2.2.2.2 (f * 12 + n - 1) (d + 1) a b then (false, z.2.2.2.2.1 (f * 12 + n - 1), zH (zN z))
    else if (tm (srch p od lim u d) p od f n a b 4 0 (-2147483648) (zN z)).1 = true then (true, 0, (tm (srch p od lim u d) p od f n a b 4 0 (-2147483648) (zN z)).2.2)
    else (false, (tm (srch p od lim u d) p od f n a b 4 0 (-2147483648) (zN z)).2.1,
      if u = 0 then zK (f * 12 + n - 1) (d + 1) a b (tm (srch p od lim u d) p od f n a b 4 0 (-2147483648) (zN z)).2.1 (tm (srch p od lim u d) p od f n a b 4 0 (-2147483648) (zN z)).2.2
      else (tm (srch p od lim u d) p od f n a b 4 0 (-2147483648) (zN z)).2.2)
/-- as long as it isn't stopped, the nodes are within the limit -/
theorem tm_nd {rec : Nat → Nat → Int32 → Int32 → SS → SR} {p : Nat → Int32} {od : Nat → Nat} {f n : Nat} {a b : Int32} {lim : Nat} (hrec : ∀ f n a b z, z.1 ≤ lim → (rec f n a b z).1 = false → (rec f n a b z).2.2.1 ≤ lim) :
    ∀ j k v z, z.1 ≤ lim → (tm rec p od f n a b j k v z).1 = false → (tm rec p od f n a b j k v z).2.2.1 ≤ lim
  | 0, _, _, _, h, _ => h
  | j + 1, k, v, z, h, hs => by
    unfold tm at hs ⊢
    by_cases c : tk (od k) ≤ n
    · rw [if_pos c] at hs ⊢
      by_cases c2 : (rec (bh f (od k)) (n - tk (od k)) (cn p f n (od k) - b) (cn p f n (od k) - mx a v) z).1 = true
      · rw [if_pos c2] at hs
        cases hs
      · rw [if_neg c2] at hs ⊢
        have h2 := hrec _ _ _ _ z h (Bool.eq_false_iff.mpr c2)
        split at hs
        · rename_i c3
          rw [if_pos c3]
          exact tm_nd hrec j (k + 1) _ _ h2 hs
        · rename_i c3
          rw [if_neg c3]
          exact h2
    · rw [if_neg c] at hs ⊢
      exact tm_nd hrec j (k + 1) v z h hs
theorem srch_nd (p : Nat → Int32) (od : Nat → Nat) (lim u : Nat) : ∀ d f n a b z, z.1 ≤ lim → (srch p od lim u d f n a b z).1 = false → (srch p od lim u d f n a b z).2.2.1 ≤ lim
  | 0, f, n, a, b, z, h, hs => by
    unfold srch at hs ⊢
    by_cases c : lim < z.1 + 1
    · rw [if_pos c] at hs; cases hs
    · rw [if_neg c]; show z.1 + 1 ≤ lim; omega
  | d + 1, f, n, a, b, z, h, hs => by
    unfold srch at hs ⊢
    by_cases c : lim < z.1 + 1
    · rw [if_pos c] at hs; cases hs
    · rw [if_neg c] at hs ⊢
      have hz : (zN z).1 ≤ lim := by show z.1 + 1 ≤ lim; omega
      by_cases c2 : n = 0
      · rw [if_pos c2]; exact hz
      · rw [if_neg c2] at hs ⊢
        split at hs
        · rename_i c3; rw [if_pos c3]; exact hz
        · rename_i c3
          rw [if_neg c3]
          split at hs
          · cases hs
          · rename_i c4
            rw [if_neg c4]
            have h5 := tm_nd (srch_nd p od lim u d) (p := p) (od := od) (f := f) (n := n) (a := a) (b := b) 4 0 (-2147483648) (zN z) hz (Bool.eq_false_iff.mpr c4)
            split
            · exact h5
            · exact h5
def agD (z : SS) (E : Nat → Int32) : Prop := ∀ c, c < 144 → ¬ z.2.2.2.1 c = 0 → E c = z.2.2.2.2.2 c
theorem sw3 (x : Int32) : x = 1 ∨ x = 2 ∨ x = 3 ∨ ((x.toInt < 1 ∨ 3 < x.toInt) ∧ ¬ x = 1 ∧ ¬ x = 2 ∧ ¬ x = 3) := by
  by_cases h1 : x = 1
  · exact Or.inl h1
  · by_cases h2 : x = 2
    · exact Or.inr (Or.inl h2)
    · by_cases h3 : x = 3
      · exact Or.inr (Or.inr (Or.inl h3))
      · refine Or.inr (Or.inr (Or.inr ⟨?_, h1, h2, h3⟩))
        have e1 : x.toInt ≠ 1 := fun h => h1 (Int32.toInt_inj.mp (by rw [h]; rfl))
        have e2 : x.toInt ≠ 2 := fun h => h2 (Int32.toInt_inj.mp (by rw [h]; rfl))
        have e3 : x.toInt ≠ 3 := fun h => h3 (Int32.toInt_inj.mp (by rw [h]; rfl))
        omega
theorem n21 : ¬ (2 : Int32) = 1 := by decide
theorem n31 : ¬ (3 : Int32) = 1 := by decide
theorem n32 : ¬ (3 : Int32) = 2 := by decide
theorem n23 : ¬ (2 : Int32) = 3 := by decide
theorem n10 : ¬ (1 : Int32) = 0 := by decide
theorem n20 : ¬ (2 : Int32) = 0 := by decide
theorem n30 : ¬ (3 : Int32) = 0 := by decide
theorem kn_ne (a b v : Int32) : ¬ kn a b v = 0 := by
  unfold kn
  split
  · split
    · exact n10
    · exact n30
  · exact n20
theorem agD_hit {z : SS} {E : Nat → Int32} (h : agD z E) {c d : Nat} (hc : c < 144) (a b : Int32) : hitP z.2.2.2.1 z.2.2.2.2.1 E c d a b ↔ hitP z.2.2.2.1 z.2.2.2.2.1 z.2.2.2.2.2 c d a b := by
  unfold hitP
  constructor
  · rintro ⟨h1, h2⟩
    have hk : ¬ z.2.2.2.1 c = 0 := by
      rcases h2 with h2 | h2 | h2
      · rw [h2]; exact n10
      · rw [h2.1]; exact n20
      · rw [h2.1]; exact n30
    exact ⟨(h c hc hk).symm.trans h1, h2⟩
  · rintro ⟨h1, h2⟩
    have hk : ¬ z.2.2.2.1 c = 0 := by
      rcases h2 with h2 | h2 | h2
      · rw [h2]; exact n10
      · rw [h2.1]; exact n20
      · rw [h2.1]; exact n30
    exact ⟨(h c hc hk).trans h1, h2⟩
theorem agD_zK {z : SS} {E : Nat → Int32} (h : agD z E) (c d : Nat) (a b v : Int32) : agD (zK c d a b v z) (upd E c (nI d)) := by
  intro k hk hK
  show upd E c (nI d) k = upd z.2.2.2.2.2 c (nI d) k
  by_cases e : k = c
  · subst e; rw [pk_us, pk_us]
  · rw [pk_un e, pk_un e]
    refine h k hk ?_
    have hK' : ¬ upd z.2.2.2.1 c (kn a b v) k = 0 := hK
    rw [pk_un e] at hK'
    exact hK'
def odf (o : Nat) : Nat → Nat := fun k => ordN (o * 4 + k)
theorem odf_lt {o k : Nat} (ho : o < 24) (hk : k < 4) : odf o k < 4 := ordN_lt _ (by omega)
section TM
variable {rec : Nat → Nat → Int32 → Int32 → SS → SR} {p : Nat → Int32} {od : Nat → Nat} {f n k : Nat} {a b v : Int32} {z : SS}
theorem tm_skip (hk : k < 4) (c : ¬ tk (od k) ≤ n) : tm rec p od f n a b (4 - k) k v z = tm rec p od f n a b (4 - (k + 1)) (k + 1) v z := by
  obtain ⟨j, hj⟩ : ∃ j, 4 - k = j + 1 := ⟨4 - k - 1, by omega⟩
  rw [hj, show 4 - (k + 1) = j by omega]
  exact if_neg c
theorem tm_stop (hk : k < 4) (c : tk (od k) ≤ n) (c2 : (rec (bh f (od k)) (n - tk (od k)) (cn p f n (od k) - b) (cn p f n (od k) - mx a v) z).1 = true) : tm rec p od f n a b (4 - k) k v z = (true, 0, (rec (bh f (od k)) (n - tk (od k)) (cn p f n (od k) - b) (cn p f n (od k) - mx a v) z).2.2) := by
  obtain ⟨j, hj⟩ : ∃ j, 4 - k = j + 1 := ⟨4 - k - 1, by omega⟩
  rw [hj]
  exact (if_pos c).trans (if_pos c2)
theorem tm_go (hk : k < 4) (c : tk (od k) ≤ n) (c2 : ¬ (rec (bh f (od k)) (n - tk (od k)) (cn p f n (od k) - b) (cn p f n (od k) - mx a v) z).1 = true) (c3 : mx v (cn p f n (od k) - (rec (bh f (od k)) (n - tk (od k)) (cn p f n (od k) - b) (cn p f n (od k) - mx a v) z).2.1) < b) : tm rec p od f n a b (4 - k) k v z = tm rec p od f n a b (4 - (k + 1)) (k + 1) (mx v (cn p f n (od k) - (rec (bh f (od k)) (n - tk (od k)) (cn p f n (od k) - b) (cn p f n (od k) - mx a v) z).2.1)) (rec (bh f (od k)) (n - tk (od k)) (cn p f n (od k) - b) (cn p f n (od k) - mx a v) z).2.2 := by
  obtain ⟨j, hj⟩ : ∃ j, 4 - k = j + 1 := ⟨4 - k - 1, by omega⟩
  rw [hj, show 4 - (k + 1) = j by omega]
  exact (if_pos c).trans ((if_neg c2).trans (if_pos c3))
theorem tm_cut (hk : k < 4) (c : tk (od k) ≤ n) (c2 : ¬ (rec (bh f (od k)) (n - tk (od k)) (cn p f n (od k) - b) (cn p f n (od k) - mx a v) z).1 = true) (c3 : ¬ mx v (cn p f n (od k) - (rec (bh f (od k)) (n - tk (od k)) (cn p f n (od k) - b) (cn p f n (od k) - mx a v) z).2.1) < b) : tm rec p od f n a b (4 - k) k v z = (false, mx v (cn p f n (od k) - (rec (bh f (od k)) (n - tk (od k)) (cn p f n (od k) - b) (cn p f n (od k) - mx a v) z).2.1), zC (rec (bh f (od k)) (n - tk (od k)) (cn p f n (od k) - b) (cn p f n (od k) - mx a v) z).2.2) := by
  obtain ⟨j, hj⟩ : ∃ j, 4 - k = j + 1 := ⟨4 - k - 1, by omega⟩
  rw [hj]
  exact (if_pos c).trans ((if_neg c2).trans (if_neg c3))
end TM
theorem tm_st0 {rec : Nat → Nat → Int32 → Int32 → SS → SR} {p : Nat → Int32} {od : Nat → Nat} {f n : Nat} {a b : Int32} : ∀ j k v z, (tm rec p od f n a b j k v z).1 = true → (tm rec p od f n a b j k v z).2.1 = 0
  | 0, _, _, _, h => by cases h
  | j + 1, k, v, z, h => by
    unfold tm at h ⊢
    by_cases c : tk (od k) ≤ n
    · rw [if_pos c] at h ⊢
      by_cases c2 : (rec (bh f (od k)) (n - tk (od k)) (cn p f n (od k) - b) (cn p f n (od k) - mx a v) z).1 = true
      · rw [if_pos c2]
      · rw [if_neg c2] at h ⊢
        split at h
        · rename_i c3
          rw [if_pos c3]
          exact tm_st0 j (k + 1) _ _ h
        · cases h
    · rw [if_neg c] at h ⊢
      exact tm_st0 j (k + 1) v z h
section SRCH
variable {p : Nat → Int32} {od : Nat → Nat} {lim u d f n : Nat} {a b : Int32} {z : SS}
theorem srch_stop (h : lim < z.1 + 1) : srch p od lim u d f n a b z = (true, 0, zN z) := by
  cases d with
  | zero => exact if_pos h
  | succ d => exact if_pos h
theorem srch_zero (h : ¬ lim < z.1 + 1) : srch p od lim u 0 f n a b z = (false, 0, zN z) := if_neg h
theorem srch_none (h : ¬ lim < z.1 + 1) (hn : n = 0) : srch p od lim u (d + 1) f n a b z = (false, 0, zN z) := (if_neg h).trans (if_pos hn)
theorem srch_hit (h : ¬ lim < z.1 + 1) (hn : ¬ n = 0) (hu : u = 0) (hh : hitP z.2.2.2.1 z.2.2.2.2.1 z.2.2.2.2.2 (f * 12 + n - 1) (d + 1) a b) : srch p od lim u (d + 1) f n a b z = (false, z.2.2.2.2.1 (f * 12 + n - 1), zH (zN z)) := (if_neg h).trans ((if_neg hn).trans (if_pos ⟨hu, hh⟩))
/-- the moves' part of a search of depth d + 1 -/
abbrev tmT (p : Nat → Int32) (od : Nat → Nat) (lim u d f n : Nat) (a b : Int32) (z : SS) : SR := tm (srch p od lim u d) p od f n a b 4 0 (-2147483648) (zN z)
theorem srch_same (h : ¬ lim < z.1 + 1) (hn : ¬ n = 0) (hh : ¬ (u = 0 ∧ hitP z.2.2.2.1 z.2.2.2.2.1 z.2.2.2.2.2 (f * 12 + n - 1) (d + 1) a b)) (hs : (tmT p od lim u d f n a b z).1 = true ∨ ¬ u = 0) : srch p od lim u (d + 1) f n a b z = tmT p od lim u d f n a b z := by
  refine (if_neg h).trans ((if_neg hn).trans ((if_neg hh).trans ?_))
  by_cases c : (tmT p od lim u d f n a b z).1 = true
  · refine (if_pos c).trans ?_
    rw [← c]
    conv => lhs; rw [← tm_st0 4 0 _ _ c]
  · refine (if_neg c).trans ?_
    have hu : ¬ u = 0 := hs.resolve_left c
    rw [if_neg hu]
    have c' : (tmT p od lim u d f n a b z).1 = false := Bool.eq_false_iff.mpr c
    rw [← c']
theorem srch_keep (h : ¬ lim < z.1 + 1) (hn : ¬ n = 0) (hh : ¬ (u = 0 ∧ hitP z.2.2.2.1 z.2.2.2.2.1 z.2.2.2.2.2 (f * 12 + n - 1) (d + 1) a b)) (hs : ¬ (tmT p od lim u d f n a b z).1 = true) (hu : u = 0) : srch p od lim u (d + 1) f n a b z = (false, (tmT p od lim u d f n a b z).2.1, zK (f * 12 + n - 1) (d + 1) a b (tmT p od lim u d f n a b z).2.1 (tmT p od lim u d f n a b z).2.2) := by
  refine (if_neg h).trans ((if_neg hn).trans ((if_neg hh).trans ((if_neg hs).trans ?_)))
  rw [if_pos hu]
end SRCH
