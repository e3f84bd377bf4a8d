/-! the property, pure: a search deep enough finds the value; with a table it meets no more nodes than without -/
/-- the entries speak of the values -/
def TS (p : Nat → Int32) (z : SS) : Prop := ∀ f n, 1 ≤ n → f + n ≤ 12 → (z.2.2.2.1 (f * 12 + n - 1) = 1 → (z.2.2.2.2.1 (f * 12 + n - 1)).toInt = (V p n f).toInt) ∧ (z.2.2.2.1 (f * 12 + n - 1) = 2 → (z.2.2.2.2.1 (f * 12 + n - 1)).toInt ≤ (V p n f).toInt) ∧ (z.2.2.2.1 (f * 12 + n - 1) = 3 → (V p n f).toInt ≤ (z.2.2.2.2.1 (f * 12 + n - 1)).toInt)
/-- an answer r of a search between a and b, of a position of value v -/
def OKr (a b r v : Int) : Prop := (r ≤ a → v ≤ r) ∧ (b ≤ r → r ≤ v) ∧ (a < r → r < b → r = v)
/-- bounds that a search of n piles may get -/
def Bd (n : Nat) (a : Int32) : Prop := sm a (241 + 20 * (12 - (n : Int)))
theorem TS.keepK {p : Nat → Int32} {z : SS} (h : TS p z) {f n d : Nat} {a b v : Int32} (hn : 1 ≤ n) (hfn : f + n ≤ 12) (hv : OKr a.toInt b.toInt v.toInt (V p n f).toInt) : TS p (zK (f * 12 + n - 1) d a b v z) := by
  intro g k hk hgk
  show (upd z.2.2.2.1 (f * 12 + n - 1) (kn a b v) (g * 12 + k - 1) = 1 → (upd z.2.2.2.2.1 (f * 12 + n - 1) v (g * 12 + k - 1)).toInt = (V p k g).toInt) ∧ (upd z.2.2.2.1 (f * 12 + n - 1) (kn a b v) (g * 12 + k - 1) = 2 → (upd z.2.2.2.2.1 (f * 12 + n - 1) v (g * 12 + k - 1)).toInt ≤ (V p k g).toInt) ∧ (upd z.2.2.2.1 (f * 12 + n - 1) (kn a b v) (g * 12 + k - 1) = 3 → (V p k g).toInt ≤ (upd z.2.2.2.2.1 (f * 12 + n - 1) v (g * 12 + k - 1)).toInt)
  by_cases e : g * 12 + k - 1 = f * 12 + n - 1
  · have e1 : g = f := by omega
    have e2 : k = n := by omega
    subst e1; subst e2
    rw [pk_us, pk_us]
    obtain ⟨h1, h2, h3⟩ := hv
    unfold kn
    by_cases c1 : v < b
    · rw [if_pos c1]
      have c1' := Int32.lt_iff_toInt_lt.mp c1
      by_cases c2 : a < v
      · rw [if_pos c2]
        have c2' := Int32.lt_iff_toInt_lt.mp c2
        exact ⟨fun _ => h3 c2' c1', fun h => absurd h (by decide), fun h => absurd h (by decide)⟩
      · rw [if_neg c2]
        rw [Int32.lt_iff_toInt_lt] at c2
        exact ⟨fun h => absurd h (by decide), fun h => absurd h (by decide), fun _ => h1 (by omega)⟩
    · rw [if_neg c1]
      rw [Int32.lt_iff_toInt_lt] at c1
      exact ⟨fun h => absurd h (by decide), fun _ => h2 (by omega), fun h => absurd h (by decide)⟩
  · rw [pk_un e, pk_un e]
    exact h g k hk hgk
/-- the child's bounds -/
theorem Bd.child {p : Nat → Int32} (hp : PR p) {f n m : Nat} {a b v : Int32} (hm4 : m < 4) (hm : tk m ≤ n) (hfn : f + n ≤ 12) (ha : Bd n a) (hb : Bd n b) (hvb : v.toInt < b.toInt) : Bd n (mx a v) ∧ Bd (n - tk m) (cn p f n m - b) ∧ Bd (n - tk m) (cn p f n m - mx a v) ∧ (cn p f n m - b).toInt = (cn p f n m).toInt - b.toInt ∧ (cn p f n m - mx a v).toInt = (cn p f n m).toInt - (mx a v).toInt := by
  have h1 := cn_sm hp hm4 hm hfn
  have t1 := tk_le m
  have t2 := tk_pos m
  unfold Bd at ha hb ⊢
  have hm2 : sm (mx a v) (241 + 20 * (12 - (n : Int))) := by
    rcases mx_ca a v with ⟨c, e⟩ | ⟨c, e⟩
    · rw [e]; exact ⟨by have := ha.1; omega, by have := hb.2; omega⟩
    · rw [e]; exact ha
  obtain ⟨q1, q2⟩ := sm_sub h1 hb (by omega)
  obtain ⟨q3, q4⟩ := sm_sub h1 hm2 (by omega)
  exact ⟨hm2, sm_mono q1 (by omega), sm_mono q3 (by omega), q2, q4⟩
section SND
variable {rec : Nat → Nat → Int32 → Int32 → SS → SR} {p : Nat → Int32} {od : Nat → Nat} {lim : Nat}
theorem tm_snd (hp : PR p) (ho4 : ∀ k, k < 4 → od k < 4) (ho : ∀ m, m < 4 → ∃ j, j < 4 ∧ od j = m) (hlim : lim ≤ 5000) {f n : Nat} {a b : Int32} (hn : 1 ≤ n) (hfn : f + n ≤ 12) (hab : a.toInt < b.toInt) (ha : Bd n a) (hb : Bd n b) (hnd : ∀ f n a b z, z.1 ≤ lim → (rec f n a b z).1 = false → (rec f n a b z).2.2.1 ≤ lim)
    (hkp : ∀ f n a b z, f + n ≤ 12 → z.1 ≤ lim → ZI 0 z → ZT z → KeepR n lim 0 (rec f n a b z))
    (hrec : ∀ g k a b z, k < n → g + k ≤ 12 → z.1 ≤ lim → a.toInt < b.toInt → Bd k a → Bd k b → ZI 0 z → ZT z → TS p z → (rec g k a b z).1 = false → OKr a.toInt b.toInt (rec g k a b z).2.1.toInt (V p k g).toInt ∧ TS p (rec g k a b z).2.2) :
    ∀ i k v z, k + i = 4 → z.1 ≤ lim → ZI 0 z → ZT z → TS p z → VK od n k v → v.toInt < b.toInt → (∀ j, j < k → tk (od j) ≤ n → (rV p (V p) f n (od j)).toInt ≤ v.toInt) → (a.toInt < v.toInt → v.toInt ≤ (V p n f).toInt) → (tm rec p od f n a b i k v z).1 = false → OKr a.toInt b.toInt (tm rec p od f n a b i k v z).2.1.toInt (V p n f).toInt ∧ TS p (tm rec p od f n a b i k v z).2.2
  | 0, k, v, z, hk, hz, hI, hT, hS, hv, hvb, hUB, hLB, hs => by
    obtain rfl : k = 4 := by omega
    refine ⟨?_, hS⟩
    show OKr a.toInt b.toInt v.toInt (V p n f).toInt
    obtain ⟨m, h1, h2, -, h4⟩ := V_best hp hn hfn
    obtain ⟨j, hj, e⟩ := ho m h1
    have h5 := hUB j hj (by rw [e]; exact h2)
    rw [e, ← h4] at h5
    exact ⟨fun _ => h5, fun h => by omega, fun h _ => by have := hLB h; omega⟩
  | i + 1, k, v, z, hk, hz, hI, hT, hS, hv, hvb, hUB, hLB, hs => by
    unfold tm at hs ⊢
    by_cases c : tk (od k) ≤ n
    · rw [if_pos c] at hs ⊢
      have hb9 := bh_in (f := f) c
      have t1 := tk_pos (od k)
      have hk4 := ho4 k (by omega)
      obtain ⟨b1, b2, b3, b4, b5⟩ := Bd.child hp hk4 c hfn ha hb hvb
      have hma : (mx a v).toInt < b.toInt := by
        rcases mx_ca a v with ⟨-, e⟩ | ⟨-, e⟩
        · rw [e]; exact hvb
        · rw [e]; exact hab
      obtain ⟨r1, r2, r3⟩ := hkp (bh f (od k)) (n - tk (od k)) (cn p f n (od k) - b) (cn p f n (od k) - mx a v) z (by omega) hz hI hT
      by_cases c2 : (rec (bh f (od k)) (n - tk (od k)) (cn p f n (od k) - b) (cn p f n (od k) - mx a v) z).1 = true
      · rw [if_pos c2] at hs
        cases hs
      · rw [if_neg c2] at hs ⊢
        have c2' := Bool.eq_false_iff.mpr c2
        have hz2 := hnd (bh f (od k)) (n - tk (od k)) (cn p f n (od k) - b) (cn p f n (od k) - mx a v) z hz c2'
        obtain ⟨o1, o2⟩ := hrec (bh f (od k)) (n - tk (od k)) (cn p f n (od k) - b) (cn p f n (od k) - mx a v) z (by omega) (by omega) hz (by rw [b4, b5]; omega) b2 b3 hI hT hS c2'
        obtain ⟨s1, s2, s3⟩ := hv.step hp hk4 c hfn (r3 c2')
        have hR := rV_int hp hk4 c hfn
        have hRV := (bN_first hp hn hfn).1 (od k) hk4
        generalize rec (bh f (od k)) (n - tk (od k)) (cn p f n (od k) - b) (cn p f n (od k) - mx a v) z = Y at *
        obtain ⟨w1, w2, w3⟩ := o1
        rw [b4] at w1 w3
        rw [b5] at w2 w3
        generalize hw : cn p f n (od k) - Y.2.1 = w at *
        have hmx := mx_ca v w
        have hma2 := mx_ca a v
        split at hs
        · rename_i c3
          rw [if_pos c3]
          have c3' := Int32.lt_iff_toInt_lt.mp c3
          refine tm_snd hp ho4 ho hlim hn hfn hab ha hb hnd hkp hrec i (k + 1) _ _ (by omega) hz2 r1 r2 o2 (Or.inl s3) c3' (fun j hj hjn => ?_) (fun h => ?_) hs
          · by_cases e : j = k
            · subst e
              rcases hmx with ⟨q1, q2⟩ | ⟨q1, q2⟩ <;> rw [q2] at c3' ⊢ <;> rcases hma2 with ⟨q3, q4⟩ | ⟨q3, q4⟩ <;> rw [q4] at w2 w3 hma <;> omega
            · have h9 := hUB j (by omega) hjn
              rcases hmx with ⟨q1, q2⟩ | ⟨q1, q2⟩ <;> rw [q2] <;> omega
          · rcases hmx with ⟨q1, q2⟩ | ⟨q1, q2⟩ <;> rw [q2] at h c3' ⊢ <;> rcases hma2 with ⟨q3, q4⟩ | ⟨q3, q4⟩ <;> rw [q4] at w2 w3 hma <;> omega
        · rename_i c3
          rw [if_neg c3]
          rw [Int32.lt_iff_toInt_lt] at c3
          refine ⟨?_, o2⟩
          show OKr a.toInt b.toInt (mx v w).toInt (V p n f).toInt
          unfold OKr
          rcases hmx with ⟨q1, q2⟩ | ⟨q1, q2⟩ <;> rw [q2] at c3 ⊢ <;> rcases hma2 with ⟨q3, q4⟩ | ⟨q3, q4⟩ <;> rw [q4] at w2 w3 hma <;> omega
    · rw [if_neg c] at hs ⊢
      refine tm_snd hp ho4 ho hlim hn hfn hab ha hb hnd hkp hrec i (k + 1) v z (by omega) hz hI hT hS (hv.skip c) hvb (fun j hj hjn => ?_) hLB hs
      by_cases e : j = k
      · subst e; exact absurd hjn c
      · exact hUB j (by omega) hjn
end SND
theorem srch_snd {p : Nat → Int32} (hp : PR p) {od : Nat → Nat} (ho4 : ∀ k, k < 4 → od k < 4) (ho : ∀ m, m < 4 → ∃ j, j < 4 ∧ od j = m) {lim : Nat} (hlim : lim ≤ 5000) (u : Nat) : ∀ d f n a b z, n ≤ d → f + n ≤ 12 → z.1 ≤ lim → a.toInt < b.toInt → Bd n a → Bd n b → ZI 0 z → ZT z → TS p z → (srch p od lim u d f n a b z).1 = false → OKr a.toInt b.toInt (srch p od lim u d f n a b z).2.1.toInt (V p n f).toInt ∧ TS p (srch p od lim u d f n a b z).2.2
  | 0, f, n, a, b, z, hnd, hfn, hz, hab, ha, hb, hI, hT, hS, hs => by
    obtain rfl : n = 0 := by omega
    by_cases c : lim < z.1 + 1
    · rw [srch_stop c] at hs; cases hs
    · rw [srch_zero c, V_zero]
      refine ⟨?_, hS⟩
      have e : (0 : Int32).toInt = 0 := rfl
      show OKr a.toInt b.toInt (0 : Int32).toInt (0 : Int32).toInt
      exact ⟨fun _ => Int.le_refl _, fun _ => Int.le_refl _, fun _ _ => rfl⟩
  | d + 1, f, n, a, b, z, hnd, hfn, hz, hab, ha, hb, hI, hT, hS, hs => by
    by_cases c : lim < z.1 + 1
    · rw [srch_stop c] at hs; cases hs
    · by_cases c2 : n = 0
      · subst c2
        rw [srch_none c rfl, V_zero]
        exact ⟨⟨fun _ => Int.le_refl _, fun _ => Int.le_refl _, fun _ _ => rfl⟩, hS⟩
      · have hz1 : (zN z).1 ≤ lim := by show z.1 + 1 ≤ lim; omega
        by_cases c3 : u = 0 ∧ hitP z.2.2.2.1 z.2.2.2.2.1 z.2.2.2.2.2 (f * 12 + n - 1) (d + 1) a b
        · rw [srch_hit c c2 c3.1 c3.2]
          refine ⟨?_, hS⟩
          show OKr a.toInt b.toInt (z.2.2.2.2.1 (f * 12 + n - 1)).toInt (V p n f).toInt
          obtain ⟨t1, t2, t3⟩ := hS f n (by omega) hfn
          unfold OKr
          rcases c3.2.2 with h | ⟨h, h9⟩ | ⟨h, h9⟩
          · have := t1 h; omega
          · have := t2 h; rw [Int32.lt_iff_toInt_lt] at h9; omega
          · have := t3 h; rw [Int32.lt_iff_toInt_lt] at h9; omega
        · have hk : (tmT p od lim u d f n a b z).1 = false → OKr a.toInt b.toInt (tmT p od lim u d f n a b z).2.1.toInt (V p n f).toInt ∧ TS p (tmT p od lim u d f n a b z).2.2 :=
            tm_snd hp ho4 ho hlim (by omega) hfn hab ha hb (srch_nd p od lim u d) (fun f n a b z h1 h2 h3 h4 => srch_keepR hp ho4 ho hlim u d f n a b z 0 h1 h2 h3 h4) (fun g k a b z h1 h2 h3 h4 h5 h6 h7 h8 h9 h10 => srch_snd hp ho4 ho hlim u d g k a b z (by omega) h2 h3 h4 h5 h6 h7 h8 h9 h10) 4 0 (-2147483648) (zN z) (by omega) hz1 hI.incN.dn hT.incN hS (Or.inr ⟨rfl, fun j hj => absurd hj (Nat.not_lt_zero _)⟩) (by rw [imin]; unfold Bd at hb; have := hb.1; omega) (fun j hj => absurd hj (Nat.not_lt_zero _)) (fun h => by rw [imin] at h; unfold Bd at ha; have := ha.1; omega)
          by_cases c4 : (tmT p od lim u d f n a b z).1 = true ∨ ¬ u = 0
          · rw [srch_same c c2 c3 c4] at hs ⊢
            exact hk hs
          · have c5 : ¬ (tmT p od lim u d f n a b z).1 = true := fun h => c4 (Or.inl h)
            have c6 : u = 0 := Classical.not_not.mp (fun h => c4 (Or.inr h))
            rw [srch_keep c c2 c3 c5 c6]
            obtain ⟨h1, h2⟩ := hk (Bool.eq_false_iff.mpr c5)
            exact ⟨h1, h2.keepK (by omega) hfn h1⟩
theorem TS_0 (p : Nat → Int32) : TS p z0 := fun _ _ _ _ => ⟨fun h => absurd (show (0 : Int32) = 1 from h) (by decide), fun h => absurd (show (0 : Int32) = 2 from h) (by decide), fun h => absurd (show (0 : Int32) = 3 from h) (by decide)⟩
/-- nodes never fall -/
theorem tm_ge {rec : Nat → Nat → Int32 → Int32 → SS → SR} {p : Nat → Int32} {od : Nat → Nat} {f n : Nat} {a b : Int32} (hrec : ∀ f n a b z, z.1 ≤ (rec f n a b z).2.2.1) : ∀ i k v z, z.1 ≤ (tm rec p od f n a b i k v z).2.2.1
  | 0, _, _, _ => Nat.le_refl _
  | i + 1, k, v, z => by
    unfold tm
    by_cases c : tk (od k) ≤ n
    · rw [if_pos c]
      have h1 := hrec (bh f (od k)) (n - tk (od k)) (cn p f n (od k) - b) (cn p f n (od k) - mx a v) z
      by_cases c2 : (rec (bh f (od k)) (n - tk (od k)) (cn p f n (od k) - b) (cn p f n (od k) - mx a v) z).1 = true
      · rw [if_pos c2]; exact h1
      · rw [if_neg c2]
        split
        · exact Nat.le_trans h1 (tm_ge hrec i (k + 1) _ _)
        · exact h1
    · rw [if_neg c]
      exact tm_ge hrec i (k + 1) v z
theorem srch_ge (p : Nat → Int32) (od : Nat → Nat) (lim u : Nat) : ∀ d f n a b z, z.1 ≤ (srch p od lim u d f n a b z).2.2.1
  | 0, f, n, a, b, z => by
    by_cases c : lim < z.1 + 1
    · rw [srch_stop c]; exact Nat.le_succ _
    · rw [srch_zero c]; exact Nat.le_succ _
  | d + 1, f, n, a, b, z => by
    by_cases c : lim < z.1 + 1
    · rw [srch_stop c]; exact Nat.le_succ _
    · by_cases c2 : n = 0
      · rw [srch_none c c2]; exact Nat.le_succ _
      · by_cases c3 : u = 0 ∧ hitP z.2.2.2.1 z.2.2.2.2.1 z.2.2.2.2.2 (f * 12 + n - 1) (d + 1) a b
        · rw [srch_hit c c2 c3.1 c3.2]; exact Nat.le_succ _
        · have h1 : (zN z).1 ≤ (tmT p od lim u d f n a b z).2.2.1 := tm_ge (fun f n a b z => srch_ge p od lim u d f n a b z) 4 0 (-2147483648) (zN z)
          have h2 : z.1 ≤ (zN z).1 := Nat.le_succ _
          by_cases c4 : (tmT p od lim u d f n a b z).1 = true ∨ ¬ u = 0
          · rw [srch_same c c2 c3 c4]; exact Nat.le_trans h2 h1
          · have c5 : ¬ (tmT p od lim u d f n a b z).1 = true := fun h => c4 (Or.inl h)
            have c6 : u = 0 := Classical.not_not.mp (fun h => c4 (Or.inr h))
            rw [srch_keep c c2 c3 c5 c6]; exact Nat.le_trans h2 h1
section MONO
variable {rec rec2 : Nat → Nat → Int32 → Int32 → SS → SR} {p : Nat → Int32} {od : Nat → Nat} {lim : Nat}
theorem tm_mono (hp : PR p) (ho4 : ∀ k, k < 4 → od k < 4) (hlim : lim ≤ 5000) {f n : Nat} {a b : Int32} (hn : 1 ≤ n) (hfn : f + n ≤ 12) (hab : a.toInt < b.toInt) (ha : Bd n a) (hb : Bd n b) (hnd : ∀ f n a b z, z.1 ≤ lim → (rec f n a b z).1 = false → (rec f n a b z).2.2.1 ≤ lim) (hnd2 : ∀ f n a b z, z.1 ≤ lim → (rec2 f n a b z).1 = false → (rec2 f n a b z).2.2.1 ≤ lim)
    (hkp : ∀ f n a b z, f + n ≤ 12 → z.1 ≤ lim → ZI 0 z → ZT z → KeepR n lim 0 (rec f n a b z)) (hkp2 : ∀ f n a b z, f + n ≤ 12 → z.1 ≤ lim → ZI 0 z → ZT z → KeepR n lim 0 (rec2 f n a b z))
    (hrec : ∀ g k a b z, k < n → g + k ≤ 12 → z.1 ≤ lim → a.toInt < b.toInt → Bd k a → Bd k b → ZI 0 z → ZT z → TS p z → (rec g k a b z).1 = false → OKr a.toInt b.toInt (rec g k a b z).2.1.toInt (V p k g).toInt ∧ TS p (rec g k a b z).2.2)
    (hrec2 : ∀ g k a b z, k < n → g + k ≤ 12 → z.1 ≤ lim → a.toInt < b.toInt → Bd k a → Bd k b → ZI 0 z → ZT z → TS p z → (rec2 g k a b z).1 = false → OKr a.toInt b.toInt (rec2 g k a b z).2.1.toInt (V p k g).toInt ∧ TS p (rec2 g k a b z).2.2)
    (hmo : ∀ g k a b z1 z2, k < n → g + k ≤ 12 → z2.1 ≤ lim → z1.1 ≤ z2.1 → a.toInt < b.toInt → Bd k a → Bd k b → ZI 0 z1 → ZT z1 → TS p z1 → ZI 0 z2 → ZT z2 → TS p z2 → (rec2 g k a b z2).1 = false → (rec g k a b z1).1 = false ∧ (rec g k a b z1).2.2.1 ≤ (rec2 g k a b z2).2.2.1) :
    ∀ i k v1 v2 z1 z2, k + i = 4 → z2.1 ≤ lim → z1.1 ≤ z2.1 → ZI 0 z1 → ZT z1 → TS p z1 → ZI 0 z2 → ZT z2 → TS p z2 → VK od n k v1 → VK od n k v2 → v1.toInt < b.toInt → v2.toInt < b.toInt → mx a v1 = mx a v2 → (tm rec2 p od f n a b i k v2 z2).1 = false → (tm rec p od f n a b i k v1 z1).1 = false ∧ (tm rec p od f n a b i k v1 z1).2.2.1 ≤ (tm rec2 p od f n a b i k v2 z2).2.2.1
  | 0, k, v1, v2, z1, z2, hk, hz2, hz, hI1, hT1, hS1, hI2, hT2, hS2, hv1, hv2, hb1, hb2, he, hs => ⟨rfl, hz⟩
  | i + 1, k, v1, v2, z1, z2, hk, hz2, hz, hI1, hT1, hS1, hI2, hT2, hS2, hv1, hv2, hb1, hb2, he, hs => by
    unfold tm at hs ⊢
    by_cases c : tk (od k) ≤ n
    · rw [if_pos c] at hs ⊢
      rw [if_pos c]
      have hb9 := bh_in (f := f) c
      have t1 := tk_pos (od k)
      have hk4 := ho4 k (by omega)
      rw [he]
      obtain ⟨b1, b2, b3, b4, b5⟩ := Bd.child hp hk4 c hfn ha hb hb2
      have hma : (mx a v2).toInt < b.toInt := by
        rcases mx_ca a v2 with ⟨-, e⟩ | ⟨-, e⟩
        · rw [e]; exact hb2
        · rw [e]; exact hab
      have hab2 : (cn p f n (od k) - b).toInt < (cn p f n (od k) - mx a v2).toInt := by rw [b4, b5]; omega
      by_cases c2 : (rec2 (bh f (od k)) (n - tk (od k)) (cn p f n (od k) - b) (cn p f n (od k) - mx a v2) z2).1 = true
      · rw [if_pos c2] at hs
        cases hs
      · rw [if_neg c2] at hs ⊢
        have c2' := Bool.eq_false_iff.mpr c2
        obtain ⟨m1, m2⟩ := hmo (bh f (od k)) (n - tk (od k)) (cn p f n (od k) - b) (cn p f n (od k) - mx a v2) z1 z2 (by omega) (by omega) hz2 hz hab2 b2 b3 hI1 hT1 hS1 hI2 hT2 hS2 c2'
        obtain ⟨r1, r2, r3⟩ := hkp (bh f (od k)) (n - tk (od k)) (cn p f n (od k) - b) (cn p f n (od k) - mx a v2) z1 (by omega) (by omega) hI1 hT1
        obtain ⟨q1, q2, q3⟩ := hkp2 (bh f (od k)) (n - tk (od k)) (cn p f n (od k) - b) (cn p f n (od k) - mx a v2) z2 (by omega) hz2 hI2 hT2
        have hz3 := hnd2 (bh f (od k)) (n - tk (od k)) (cn p f n (od k) - b) (cn p f n (od k) - mx a v2) z2 hz2 c2'
        obtain ⟨o1, o2⟩ := hrec (bh f (od k)) (n - tk (od k)) (cn p f n (od k) - b) (cn p f n (od k) - mx a v2) z1 (by omega) (by omega) (by omega) hab2 b2 b3 hI1 hT1 hS1 m1
        obtain ⟨o3, o4⟩ := hrec2 (bh f (od k)) (n - tk (od k)) (cn p f n (od k) - b) (cn p f n (od k) - mx a v2) z2 (by omega) (by omega) hz2 hab2 b2 b3 hI2 hT2 hS2 c2'
        obtain ⟨s1, s2, s3⟩ := hv1.step hp hk4 c hfn (r3 m1)
        obtain ⟨s4, s5, s6⟩ := hv2.step hp hk4 c hfn (q3 c2')
        rw [if_neg (Bool.eq_false_iff.mp m1)]
        generalize rec (bh f (od k)) (n - tk (od k)) (cn p f n (od k) - b) (cn p f n (od k) - mx a v2) z1 = Y1 at *
        generalize rec2 (bh f (od k)) (n - tk (od k)) (cn p f n (od k) - b) (cn p f n (od k) - mx a v2) z2 = Y2 at *
        obtain ⟨w1, w2, w3⟩ := o1
        obtain ⟨x1, x2, x3⟩ := o3
        rw [b4] at w1 w3 x1 x3
        rw [b5] at w2 w3 x2 x3
        generalize hw1 : cn p f n (od k) - Y1.2.1 = e1 at *
        generalize hw2 : cn p f n (od k) - Y2.2.1 = e2 at *
        have g1 := mx_ca v1 e1
        have g2 := mx_ca v2 e2
        have g3 := mx_ca a v1
        have g4 := mx_ca a v2
        have g5 : (mx a v1).toInt = (mx a v2).toInt := by rw [he]
        have key : ((mx v1 e1).toInt < b.toInt ↔ (mx v2 e2).toInt < b.toInt) ∧ ((mx v2 e2).toInt < b.toInt → (mx a (mx v1 e1)).toInt = (mx a (mx v2 e2)).toInt) := by
          have g6 := mx_ca a (mx v1 e1)
          have g7 := mx_ca a (mx v2 e2)
          have l1 : (mx v1 e1).toInt = max v1.toInt e1.toInt := by rcases g1 with ⟨u1, u2⟩ | ⟨u1, u2⟩ <;> rw [u2] <;> omega
          have l2 : (mx v2 e2).toInt = max v2.toInt e2.toInt := by rcases g2 with ⟨u1, u2⟩ | ⟨u1, u2⟩ <;> rw [u2] <;> omega
          have l3 : (mx a v1).toInt = max a.toInt v1.toInt := by rcases g3 with ⟨u1, u2⟩ | ⟨u1, u2⟩ <;> rw [u2] <;> omega
          have l4 : (mx a v2).toInt = max a.toInt v2.toInt := by rcases g4 with ⟨u1, u2⟩ | ⟨u1, u2⟩ <;> rw [u2] <;> omega
          have l5 : (mx a (mx v1 e1)).toInt = max a.toInt (mx v1 e1).toInt := by rcases g6 with ⟨u1, u2⟩ | ⟨u1, u2⟩ <;> rw [u2] <;> omega
          have l6 : (mx a (mx v2 e2)).toInt = max a.toInt (mx v2 e2).toInt := by rcases g7 with ⟨u1, u2⟩ | ⟨u1, u2⟩ <;> rw [u2] <;> omega
          rw [l5, l6, l1, l2]
          omega
        split at hs
        · rename_i c3
          rw [if_pos c3]
          have c3' := Int32.lt_iff_toInt_lt.mp c3
          have c4 := key.1.mpr c3'
          rw [if_pos (Int32.lt_iff_toInt_lt.mpr c4)]
          exact tm_mono hp ho4 hlim hn hfn hab ha hb hnd hnd2 hkp hkp2 hrec hrec2 hmo i (k + 1) _ _ _ _ (by omega) hz3 m2 r1 r2 o2 q1 q2 o4 (Or.inl s3) (Or.inl s6) c4 c3' (Int32.toInt_inj.mp (key.2 c3')) hs
        · rename_i c3
          rw [if_neg c3]
          have c3' := fun h => c3 (Int32.lt_iff_toInt_lt.mpr h)
          have c4 : ¬ mx v1 e1 < b := fun h => c3' (key.1.mp (Int32.lt_iff_toInt_lt.mp h))
          rw [if_neg c4]
          exact ⟨rfl, m2⟩
    · rw [if_neg c] at hs ⊢
      rw [if_neg c]
      exact tm_mono hp ho4 hlim hn hfn hab ha hb hnd hnd2 hkp hkp2 hrec hrec2 hmo i (k + 1) v1 v2 z1 z2 (by omega) hz2 hz hI1 hT1 hS1 hI2 hT2 hS2 (hv1.skip c) (hv2.skip c) hb1 hb2 he hs
end MONO
theorem srch_mono {p : Nat → Int32} (hp : PR p) {od : Nat → Nat} (ho4 : ∀ k, k < 4 → od k < 4) (ho : ∀ m, m < 4 → ∃ j, j < 4 ∧ od j = m) {lim : Nat} (hlim : lim ≤ 5000) : ∀ d f n a b z1 z2, n ≤ d → f + n ≤ 12 → z2.1 ≤ lim → z1.1 ≤ z2.1 → a.toInt < b.toInt → Bd n a → Bd n b → ZI 0 z1 → ZT z1 → TS p z1 → ZI 0 z2 → ZT z2 → TS p z2 → (srch p od lim 1 d f n a b z2).1 = false → (srch p od lim 0 d f n a b z1).1 = false ∧ (srch p od lim 0 d f n a b z1).2.2.1 ≤ (srch p od lim 1 d f n a b z2).2.2.1
  | 0, f, n, a, b, z1, z2, hnd, hfn, hz2, hz, hab, ha, hb, hI1, hT1, hS1, hI2, hT2, hS2, hs => by
    by_cases c : lim < z2.1 + 1
    · rw [srch_stop c] at hs; cases hs
    · rw [srch_zero c, srch_zero (show ¬ lim < z1.1 + 1 by omega)]
      exact ⟨rfl, by show z1.1 + 1 ≤ z2.1 + 1; omega⟩
  | d + 1, f, n, a, b, z1, z2, hnd, hfn, hz2, hz, hab, ha, hb, hI1, hT1, hS1, hI2, hT2, hS2, hs => by
    by_cases c : lim < z2.1 + 1
    · rw [srch_stop c] at hs; cases hs
    · have c1 : ¬ lim < z1.1 + 1 := by omega
      by_cases c2 : n = 0
      · rw [srch_none c c2, srch_none c1 c2]
        exact ⟨rfl, by show z1.1 + 1 ≤ z2.1 + 1; omega⟩
      · have e1 : ¬ ((1 : Nat) = 0 ∧ hitP z2.2.2.2.1 z2.2.2.2.2.1 z2.2.2.2.2.2 (f * 12 + n - 1) (d + 1) a b) := fun h => absurd h.1 (by decide)
        have hs2 := srch_same (p := p) (od := od) (lim := lim) (u := 1) c c2 e1 (Or.inr (by decide))
        rw [hs2] at hs ⊢
        have hz3 : (zN z2).1 ≤ lim := by show z2.1 + 1 ≤ lim; omega
        have hz4 : (zN z1).1 ≤ (zN z2).1 := by show z1.1 + 1 ≤ z2.1 + 1; omega
        have hmin : VK od n 0 (-2147483648) := Or.inr ⟨rfl, fun j hj => absurd hj (Nat.not_lt_zero _)⟩
        have hmb : (-2147483648 : Int32).toInt < b.toInt := by rw [imin]; unfold Bd at hb; have := hb.1; omega
        have hm : (tmT p od lim 0 d f n a b z1).1 = false ∧ (tmT p od lim 0 d f n a b z1).2.2.1 ≤ (tmT p od lim 1 d f n a b z2).2.2.1 :=
          tm_mono hp ho4 hlim (by omega) hfn hab ha hb (srch_nd p od lim 0 d) (srch_nd p od lim 1 d) (fun f n a b z h1 h2 h3 h4 => srch_keepR hp ho4 ho hlim 0 d f n a b z 0 h1 h2 h3 h4) (fun f n a b z h1 h2 h3 h4 => srch_keepR hp ho4 ho hlim 1 d f n a b z 0 h1 h2 h3 h4)
            (fun g k a b z h1 h2 h3 h4 h5 h6 h7 h8 h9 h10 => srch_snd hp ho4 ho hlim 0 d g k a b z (by omega) h2 h3 h4 h5 h6 h7 h8 h9 h10) (fun g k a b z h1 h2 h3 h4 h5 h6 h7 h8 h9 h10 => srch_snd hp ho4 ho hlim 1 d g k a b z (by omega) h2 h3 h4 h5 h6 h7 h8 h9 h10)
            (fun g k a b y1 y2 h1 h2 h3 h4 h5 h6 h7 h8 h9 h10 h11 h12 h13 h14 => srch_mono hp ho4 ho hlim d g k a b y1 y2 (by omega) h2 h3 h4 h5 h6 h7 h8 h9 h10 h11 h12 h13 h14) 4 0 (-2147483648) (-2147483648) (zN z1) (zN z2) (by omega) hz3 hz4 hI1.incN.dn hT1.incN hS1 hI2.incN.dn hT2.incN hS2 hmin hmin hmb hmb rfl hs
        by_cases c3 : hitP z1.2.2.2.1 z1.2.2.2.2.1 z1.2.2.2.2.2 (f * 12 + n - 1) (d + 1) a b
        · rw [srch_hit c1 c2 rfl c3]
          refine ⟨rfl, ?_⟩
          show z1.1 + 1 ≤ _
          have hge : (zN z2).1 ≤ (tmT p od lim 1 d f n a b z2).2.2.1 := tm_ge (rec := srch p od lim 1 d) (p := p) (od := od) (f := f) (n := n) (a := a) (b := b) (fun f n a b z => srch_ge p od lim 1 d f n a b z) 4 0 (-2147483648) (zN z2)
          have e9 : (zN z2).1 = z2.1 + 1 := rfl
          omega
        · by_cases c4 : (tmT p od lim 0 d f n a b z1).1 = true
          · rw [hm.1] at c4; cases c4
          · rw [srch_keep c1 c2 (fun h => c3 h.2) c4 rfl]
            exact ⟨rfl, hm.2⟩
