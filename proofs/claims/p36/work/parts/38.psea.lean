/-! the property, pure: what any search keeps -/
theorem mx_ca (x y : Int32) : (x.toInt < y.toInt ∧ mx x y = y) ∨ (y.toInt ≤ x.toInt ∧ mx x y = x) := by
  by_cases c : x < y
  · exact Or.inl ⟨Int32.lt_iff_toInt_lt.mp c, if_pos c⟩
  · refine Or.inr ⟨?_, if_neg c⟩
    rw [Int32.lt_iff_toInt_lt] at c
    omega
theorem imin : (-2147483648 : Int32).toInt = -2147483648 := by decide
/-- cuts and hits are at most the nodes, j less -/
def ZI (j : Nat) (z : SS) : Prop := 0 ≤ z.2.1.toInt ∧ z.2.1.toInt + j ≤ z.1 ∧ 0 ≤ z.2.2.1.toInt ∧ z.2.2.1.toInt + j ≤ z.1
/-- the table's entries -/
def ZT (z : SS) : Prop := ∀ f n, f < 12 → 1 ≤ n → n ≤ 12 → z.2.2.2.1 (f * 12 + n - 1) = 0 ∨ ((z.2.2.2.1 (f * 12 + n - 1) = 1 ∨ z.2.2.2.1 (f * 12 + n - 1) = 2 ∨ z.2.2.2.1 (f * 12 + n - 1) = 3) ∧ sm (z.2.2.2.2.1 (f * 12 + n - 1)) (20 * n))
theorem i_inc {x : Int32} (h0 : 0 ≤ x.toInt) (h1 : x.toInt ≤ 100000) : (x + 1).toInt = x.toInt + 1 := by
  have h3 : sm x 100000 := ⟨by omega, h1⟩
  have h4 : sm (1 : Int32) 1 := ⟨by decide, by decide⟩
  rw [(sm_add h3 h4 (by omega)).2]; rfl
theorem ZI.incN {j : Nat} {z : SS} (h : ZI j z) : ZI (j + 1) (zN z) := by
  obtain ⟨h1, h2, h3, h4⟩ := h
  have e1 : (zN z).1 = z.1 + 1 := rfl
  have e2 : (zN z).2.1 = z.2.1 := rfl
  have e3 : (zN z).2.2.1 = z.2.2.1 := rfl
  unfold ZI
  rw [e1, e2, e3]
  omega
theorem ZI.dn {j : Nat} {z : SS} (h : ZI (j + 1) z) : ZI j z := by
  obtain ⟨h1, h2, h3, h4⟩ := h
  unfold ZI
  omega
theorem ZI.incC {j : Nat} {z : SS} (h : ZI (j + 1) z) (hz : z.1 ≤ 100000) : ZI j (zC z) := by
  obtain ⟨h1, h2, h3, h4⟩ := h
  have e1 : (zC z).1 = z.1 := rfl
  have e2 : (zC z).2.1 = z.2.1 + 1 := rfl
  have e3 : (zC z).2.2.1 = z.2.2.1 := rfl
  unfold ZI
  rw [e1, e2, e3, i_inc h1 (by omega)]
  omega
theorem ZI.incH {j : Nat} {z : SS} (h : ZI (j + 1) z) (hz : z.1 ≤ 100000) : ZI j (zH z) := by
  obtain ⟨h1, h2, h3, h4⟩ := h
  have e1 : (zH z).1 = z.1 := rfl
  have e2 : (zH z).2.1 = z.2.1 := rfl
  have e3 : (zH z).2.2.1 = z.2.2.1 + 1 := rfl
  unfold ZI
  rw [e1, e2, e3, i_inc h3 (by omega)]
  omega
theorem ZI.keepK {j : Nat} {z : SS} {c d : Nat} {a b v : Int32} (h : ZI j z) : ZI j (zK c d a b v z) := h
theorem kn_in (a b v : Int32) : kn a b v = 1 ∨ kn a b v = 2 ∨ kn a b v = 3 := by
  unfold kn
  split
  · split
    · exact Or.inl rfl
    · exact Or.inr (Or.inr rfl)
  · exact Or.inr (Or.inl rfl)
theorem ZT.keepK {z : SS} (h : ZT z) {f n d : Nat} {a b v : Int32} (hf : f < 12) (hn : 1 ≤ n) (hn2 : n ≤ 12) (hv : sm v (20 * n)) : ZT (zK (f * 12 + n - 1) d a b v z) := by
  intro g k hg hk hk2
  show upd z.2.2.2.1 (f * 12 + n - 1) (kn a b v) (g * 12 + k - 1) = 0 ∨ ((upd z.2.2.2.1 (f * 12 + n - 1) (kn a b v) (g * 12 + k - 1) = 1 ∨ upd z.2.2.2.1 (f * 12 + n - 1) (kn a b v) (g * 12 + k - 1) = 2 ∨ upd z.2.2.2.1 (f * 12 + n - 1) (kn a b v) (g * 12 + k - 1) = 3) ∧ sm (upd z.2.2.2.2.1 (f * 12 + n - 1) v (g * 12 + k - 1)) (20 * k))
  by_cases e : g * 12 + k - 1 = f * 12 + n - 1
  · have e1 : g = f := by omega
    have e2 : k = n := by omega
    subst e1; subst e2
    rw [pk_us, pk_us]
    exact Or.inr ⟨kn_in a b v, hv⟩
  · rw [pk_un e, pk_un e]
    exact h g k hg hk hk2
theorem ZT.incN {z : SS} (h : ZT z) : ZT (zN z) := h
theorem ZT.incC {z : SS} (h : ZT z) : ZT (zC z) := h
theorem ZT.incH {z : SS} (h : ZT z) : ZT (zH z) := h
/-- the best so far: a number, or none yet -/
def VK (od : Nat → Nat) (n k : Nat) (v : Int32) : Prop := sm v (20 * n) ∨ (v = -2147483648 ∧ ∀ j, j < k → ¬ tk (od j) ≤ n)
theorem VK.step {od : Nat → Nat} {p : Nat → Int32} {f n k : Nat} {v r : Int32} (hp : PR p) (ho : od k < 4) (hm : tk (od k) ≤ n) (hfn : f + n ≤ 12) (hv : VK od n k v) (hr : sm r (20 * ((n - tk (od k) : Nat) : Int))) : sm (cn p f n (od k) - r) (20 * n) ∧ (cn p f n (od k) - r).toInt = (cn p f n (od k)).toInt - r.toInt ∧ sm (mx v (cn p f n (od k) - r)) (20 * n) := by
  have h1 := cn_sm hp ho hm hfn
  have t1 := tk_le (od k)
  obtain ⟨h2, h3⟩ := sm_sub h1 hr (by omega)
  have h4 : sm (cn p f n (od k) - r) (20 * n) := sm_mono h2 (by omega)
  refine ⟨h4, h3, ?_⟩
  rcases mx_ca v (cn p f n (od k) - r) with ⟨-, e⟩ | ⟨c, e⟩
  · rw [e]; exact h4
  · rw [e]
    rcases hv with hv | ⟨hv, -⟩
    · exact hv
    · rw [hv, imin] at c
      have := h4.1
      omega
theorem VK.skip {od : Nat → Nat} {n k : Nat} {v : Int32} (hv : VK od n k v) (hm : ¬ tk (od k) ≤ n) : VK od n (k + 1) v := by
  rcases hv with hv | ⟨h1, h2⟩
  · exact Or.inl hv
  · refine Or.inr ⟨h1, fun j hj => ?_⟩
    by_cases e : j = k
    · subst e; exact hm
    · exact h2 j (by omega)
theorem VK.full {od : Nat → Nat} {n : Nat} {v : Int32} (ho : ∀ m, m < 4 → ∃ j, j < 4 ∧ od j = m) (hn : 1 ≤ n) (hv : VK od n 4 v) : sm v (20 * n) := by
  rcases hv with hv | ⟨-, h2⟩
  · exact hv
  · obtain ⟨j, hj, e⟩ := ho 0 (by omega)
    refine absurd ?_ (h2 j hj)
    rw [e]
    exact hn
/-- a search's numbers, table and answer keep their bounds -/
def KeepR (n lim : Nat) (j : Nat) (R : SR) : Prop := ZI j R.2.2 ∧ ZT R.2.2 ∧ (R.1 = false → sm R.2.1 (20 * n))
section KEEP
variable {rec : Nat → Nat → Int32 → Int32 → SS → SR} {p : Nat → Int32} {od : Nat → Nat} {lim : Nat}
theorem tm_keep (hp : PR p) (ho4 : ∀ k, k < 4 → od k < 4) (ho : ∀ m, m < 4 → ∃ j, j < 4 ∧ od j = m) (hlim : lim ≤ 5000) {f n : Nat} {a b : Int32} (hn : 1 ≤ n) (hfn : f + n ≤ 12) (hnd : ∀ f n a b z, z.1 ≤ lim → (rec f n a b z).1 = false → (rec f n a b z).2.2.1 ≤ lim)
    (hrec : ∀ f n a b z j, f + n ≤ 12 → z.1 ≤ lim → ZI j z → ZT z → KeepR n lim j (rec f n a b z)) :
    ∀ i k v z j, k + i = 4 → z.1 ≤ lim → ZI (j + 1) z → ZT z → VK od n k v → KeepR n lim j (tm rec p od f n a b i k v z)
  | 0, k, v, z, j, hk, hz, hI, hT, hv => by
    obtain rfl : k = 4 := by omega
    exact ⟨hI.dn, hT, fun _ => hv.full ho hn⟩
  | i + 1, k, v, z, j, hk, hz, hI, hT, hv => by
    unfold tm
    by_cases c : tk (od k) ≤ n
    · rw [if_pos c]
      have hb := bh_in (f := f) c
      obtain ⟨r1, r2, r3⟩ := hrec (bh f (od k)) (n - tk (od k)) (cn p f n (od k) - b) (cn p f n (od k) - mx a v) z (j + 1) (by omega) hz hI hT
      by_cases c2 : (rec (bh f (od k)) (n - tk (od k)) (cn p f n (od k) - b) (cn p f n (od k) - mx a v) z).1 = true
      · rw [if_pos c2]
        exact ⟨r1.dn, r2, fun h => by cases h⟩
      · rw [if_neg c2]
        have c2' := Bool.eq_false_iff.mpr c2
        have hz2 := hnd (bh f (od k)) (n - tk (od k)) (cn p f n (od k) - b) (cn p f n (od k) - mx a v) z hz c2'
        have hs := hv.step hp (ho4 k (by omega)) c hfn (r3 c2')
        split
        · exact tm_keep hp ho4 ho hlim hn hfn hnd hrec i (k + 1) _ _ j (by omega) hz2 r1 r2 (Or.inl hs.2.2)
        · exact ⟨r1.incC (by omega), r2, fun _ => hs.2.2⟩
    · rw [if_neg c]
      exact tm_keep hp ho4 ho hlim hn hfn hnd hrec i (k + 1) v z j (by omega) hz hI hT (hv.skip c)
end KEEP
theorem sm_0 (n : Nat) : sm (0 : Int32) (20 * n) := by
  have e : (0 : Int32).toInt = 0 := rfl
  unfold sm
  rw [e]
  omega
theorem srch_keepR {p : Nat → Int32} (hp : PR p) {od : Nat → Nat} (ho4 : ∀ k, k < 4 → od k < 4) (ho : ∀ m, m < 4 → ∃ j, j < 4 ∧ od j = m) {lim : Nat} (hlim : lim ≤ 5000) (u : Nat) : ∀ d f n a b z j, f + n ≤ 12 → z.1 ≤ lim → ZI j z → ZT z → KeepR n lim j (srch p od lim u d f n a b z)
  | 0, f, n, a, b, z, j, hfn, hz, hI, hT => by
    by_cases c : lim < z.1 + 1
    · rw [srch_stop c]
      exact ⟨hI.incN.dn, hT, fun h => by cases h⟩
    · rw [srch_zero c]
      exact ⟨hI.incN.dn, hT, fun _ => sm_0 n⟩
  | d + 1, f, n, a, b, z, j, hfn, hz, hI, hT => by
    by_cases c : lim < z.1 + 1
    · rw [srch_stop c]
      exact ⟨hI.incN.dn, hT, fun h => by cases h⟩
    · by_cases c2 : n = 0
      · rw [srch_none c c2]
        exact ⟨hI.incN.dn, hT, fun _ => sm_0 n⟩
      · have hz1 : (zN z).1 ≤ lim := by show z.1 + 1 ≤ lim; omega
        by_cases c3 : u = 0 ∧ hitP z.2.2.2.1 z.2.2.2.2.1 z.2.2.2.2.2 (f * 12 + n - 1) (d + 1) a b
        · rw [srch_hit c c2 c3.1 c3.2]
          refine ⟨hI.incN.incH (by omega), hT, fun _ => ?_⟩
          rcases hT f n (by omega) (by omega) (by omega) with h0 | ⟨-, h1⟩
          · exfalso
            rcases c3.2.2 with h | h | h
            · rw [h0] at h; exact absurd h (by decide)
            · rw [h0] at h; exact absurd h.1 (by decide)
            · rw [h0] at h; exact absurd h.1 (by decide)
          · exact h1
        · have hk : KeepR n lim j (tmT p od lim u d f n a b z) := tm_keep hp ho4 ho hlim (by omega) hfn (srch_nd p od lim u d) (fun f n a b z j h1 h2 h3 h4 => srch_keepR hp ho4 ho hlim u d f n a b z j h1 h2 h3 h4) 4 0 (-2147483648) (zN z) j (by omega) hz1 hI.incN hT.incN (Or.inr ⟨rfl, fun j hj => absurd hj (Nat.not_lt_zero _)⟩)
          by_cases c4 : (tmT p od lim u d f n a b z).1 = true ∨ ¬ u = 0
          · rw [srch_same c c2 c3 c4]
            exact hk
          · have c5 : ¬ (tmT p od lim u d f n a b z).1 = true := fun h => c4 (Or.inl h)
            have c6 : u = 0 := Classical.not_not.mp (fun h => c4 (Or.inr h))
            rw [srch_keep c c2 c3 c5 c6]
            have h3 := hk.2.2 (Bool.eq_false_iff.mpr c5)
            exact ⟨hk.1.keepK, hk.2.1.keepK (by omega) (by omega) (by omega) h3, fun _ => h3⟩
theorem ZI_0 : ZI 0 z0 := ⟨by decide, by decide, by decide, by decide⟩
theorem ZT_0 : ZT z0 := fun _ _ _ _ _ => Or.inl rfl
