/-! the law: what holds between two calls -/
theorem ltl {v k : Int32} {z : Int} (e : k.toInt = z) : v < k ↔ v.toInt < z := by rw [Int32.lt_iff_toInt_lt, e]
theorem gtl {v k : Int32} {z : Int} (e : k.toInt = z) : k < v ↔ z < v.toInt := by rw [Int32.lt_iff_toInt_lt, e]
theorem lel {v k : Int32} {z : Int} (e : k.toInt = z) : v ≤ k ↔ v.toInt ≤ z := by rw [Int32.le_iff_toInt_le, e]
theorem gel {v k : Int32} {z : Int} (e : k.toInt = z) : k ≤ v ↔ z ≤ v.toInt := by rw [Int32.le_iff_toInt_le, e]
/-- a number within bounds, as a count -/
theorem of_rng {v : Int32} (b : Nat) (hb : b ≤ 2 ^ 31) (h0 : 0 ≤ v.toInt) (h1 : v.toInt < b) : ∃ n, v = nI n ∧ n < b ∧ (n : Int) = v.toInt := by
  refine ⟨v.toInt.toNat, ?_, by omega, by omega⟩
  apply Int32.toInt_inj.mp
  rw [nI_toInt (by omega)]
  omega
theorem nI_m1 : ∀ n, n < 13 → (nI n - 1).toInt = (n : Int) - 1 := by decide +kernel
theorem i_p1 {v : Int32} (h1 : -1000 ≤ v.toInt) (h2 : v.toInt ≤ 1000) : (v + 1).toInt = v.toInt + 1 := by
  have h3 : sm v 1000 := ⟨h1, h2⟩
  have h4 : sm (1 : Int32) 1 := ⟨by decide, by decide⟩
  rw [(sm_add h3 h4 (by omega)).2]; rfl
theorem nI_m4 {n : Nat} (h : n ≤ 2048) : (nI n - 4).toInt = (n : Int) - 4 := by
  have e : (nI n).toInt = (n : Int) := nI_toInt (by omega)
  have h3 : sm (nI n) 2048 := ⟨by rw [e]; omega, by rw [e]; omega⟩
  have h4 : sm (4 : Int32) 4 := ⟨by decide, by decide⟩
  rw [(sm_sub h3 h4 (by omega)).2, e]; rfl
/-- the last six bits of a number -/
theorem and63 (v : Int32) : ∃ n, v &&& 63 = nI n ∧ n < 64 := by
  have h1 : (v &&& 63).toBitVec.toNat < 64 := by
    rw [Int32.toBitVec_and, BitVec.toNat_and]
    exact Nat.lt_succ_of_le Nat.and_le_right
  refine ⟨(v &&& 63).toBitVec.toNat, ?_, h1⟩
  apply Int32.toBitVec_inj.mp
  apply BitVec.eq_of_toNat_eq
  show _ = (Int32.ofNat _).toBitVec.toNat
  simp only [Int32.toBitVec_ofNat', BitVec.toNat_ofNat]
  omega
/-- what a state's small numbers keep -/
def XOK (x : Nat → Nat) (M : Nat) : Prop := x 13 + x 14 ≤ M ∧ x 15 ≤ 1 ∧ x 18 < 24 ∧ (1 ≤ x 19 ∧ x 19 ≤ 5000) ∧ x 20 ≤ 1 ∧ x 22 < 2 ^ 31
theorem XOK.mv {x : Nat → Nat} {M m : Nat} (h : XOK x M) (hm : tk m ≤ x 14) : XOK (mvX x m) M := by
  obtain ⟨h1, h2, h3, h4, h5, h6⟩ := h
  have e13 : mvX x m 13 = bh (x 13) m := rfl
  have e14 : mvX x m 14 = x 14 - tk m := rfl
  have e15 : mvX x m 15 = 1 - x 15 := rfl
  have e18 : mvX x m 18 = x 18 := rfl
  have e19 : mvX x m 19 = x 19 := rfl
  have e20 : mvX x m 20 = x 20 := rfl
  have e22 : mvX x m 22 = x 22 := rfl
  refine ⟨?_, ?_, ?_, ?_, ?_, ?_⟩
  · rw [e13, e14]; unfold bh; split <;> omega
  · rw [e15]; omega
  · rw [e18]; exact h3
  · rw [e19]; exact h4
  · rw [e20]; exact h5
  · rw [e22]; exact h6
theorem mvX_sum {x : Nat → Nat} {m : Nat} (hm : tk m ≤ x 14) : mvX x m 13 + mvX x m 14 ≤ x 13 + x 14 := by
  have e13 : mvX x m 13 = bh (x 13) m := rfl
  have e14 : mvX x m 14 = x 14 - tk m := rfl
  rw [e13, e14]; unfold bh; split <;> omega
theorem XOK.pl {p : Nat → Int32} {x : Nat → Nat} {y : Nat → Int32} {M : Nat} (hp : PR p) (hM : M ≤ 12) (h : XOK x M) (k : Nat) : XOK (plS p x y k).1 M ∧ (plS p x y k).1 13 + (plS p x y k).1 14 ≤ x 13 + x 14 := by
  induction k with
  | zero => exact ⟨h, Nat.le_refl _⟩
  | succ k ih =>
    obtain ⟨X, Y, hXY⟩ : ∃ X Y, plS p x y k = (X, Y) := ⟨_, _, rfl⟩
    rw [hXY] at ih
    have ih : XOK X M ∧ X 13 + X 14 ≤ x 13 + x 14 := ih
    obtain ⟨h1, h2⟩ := ih
    by_cases c : X 14 = 0
    · rw [(plS_end hXY c 1).1]; exact ⟨h1, h2⟩
    · rw [plS_go hXY c]
      have hb : tk (bN p (X 13) (X 14)) ≤ X 14 := (bN_spec hp (f := X 13) (n := X 14) (by omega) (by have := h1.1; omega)).2.1
      generalize bN p (X 13) (X 14) = m at hb ⊢
      show XOK (mvX X m) M ∧ mvX X m 13 + mvX X m 14 ≤ x 13 + x 14
      exact ⟨XOK.mv h1 hb, Nat.le_trans (mvX_sum hb) h2⟩
theorem XOK.ld {x : Nat → Nat} {M c : Nat} (h : XOK x M) : XOK (ldX x c) c := by
  obtain ⟨h1, h2, h3, h4, h5, h6⟩ := h
  have e13 : ldX x c 13 = 0 := rfl
  have e14 : ldX x c 14 = c := rfl
  have e15 : ldX x c 15 = 0 := rfl
  have e18 : ldX x c 18 = x 18 := rfl
  have e19 : ldX x c 19 = x 19 := rfl
  have e20 : ldX x c 20 = x 20 := rfl
  have e22 : ldX x c 22 = x 22 := rfl
  refine ⟨by rw [e13, e14]; omega, by rw [e15]; omega, by rw [e18]; exact h3, by rw [e19]; exact h4, by rw [e20]; exact h5, by rw [e22]; exact h6⟩
theorem XOK.o18 {x : Nat → Nat} {M o : Nat} (h : XOK x M) (ho : o < 24) : XOK (va_up x 18 o) M := by
  obtain ⟨h1, h2, h3, h4, h5, h6⟩ := h
  exact ⟨h1, h2, ho, h4, h5, h6⟩
theorem XOK.o19 {x : Nat → Nat} {M k : Nat} (h : XOK x M) (h1 : 1 ≤ k) (h2 : k ≤ 5000) : XOK (va_up x 19 k) M := by
  obtain ⟨g1, g2, g3, g4, g5, g6⟩ := h
  exact ⟨g1, g2, g3, ⟨h1, h2⟩, g5, g6⟩
theorem XOK.o20 {x : Nat → Nat} {M k : Nat} (h : XOK x M) (h1 : k ≤ 1) : XOK (va_up x 20 k) M := by
  obtain ⟨g1, g2, g3, g4, g5, g6⟩ := h
  exact ⟨g1, g2, g3, g4, h1, g6⟩
theorem XOK.o22 {x : Nat → Nat} {M k : Nat} (h : XOK x M) (h1 : k < 2 ^ 31) : XOK (va_up x 22 k) M := by
  obtain ⟨g1, g2, g3, g4, g5, g6⟩ := h
  exact ⟨g1, g2, g3, g4, g5, h1⟩
/-- the nodes of a search, stopped or not -/
theorem tm_cap {rec : Nat → Nat → Int32 → Int32 → SS → SR} {p : Nat → Int32} {od : Nat → Nat} {f n : Nat} {a b : Int32} {lim : Nat} (hrec : ∀ f n a b z, z.1 ≤ lim → (rec f n a b z).1 = false → (rec f n a b z).2.2.1 ≤ lim) (hre2 : ∀ f n a b z, z.1 ≤ lim → (rec f n a b z).2.2.1 ≤ lim + 1) :
    ∀ j k v z, z.1 ≤ lim → (tm rec p od f n a b j k v z).2.2.1 ≤ lim + 1
  | 0, _, _, _, h => Nat.le_succ_of_le h
  | j + 1, k, v, z, h => by
    unfold tm
    by_cases c : tk (od k) ≤ n
    · rw [if_pos c]
      by_cases c2 : (rec (bh f (od k)) (n - tk (od k)) (cn p f n (od k) - b) (cn p f n (od k) - mx a v) z).1 = true
      · rw [if_pos c2]
        exact hre2 _ _ _ _ z h
      · rw [if_neg c2]
        have h2 := hrec _ _ _ _ z h (Bool.eq_false_iff.mpr c2)
        split
        · exact tm_cap hrec hre2 j (k + 1) _ _ h2
        · exact Nat.le_succ_of_le h2
    · rw [if_neg c]
      exact tm_cap hrec hre2 j (k + 1) v z h
theorem srch_cap (p : Nat → Int32) (od : Nat → Nat) (lim u : Nat) : ∀ d f n a b z, z.1 ≤ lim → (srch p od lim u d f n a b z).2.2.1 ≤ lim + 1
  | 0, f, n, a, b, z, h => by
    unfold srch
    split
    · show z.1 + 1 ≤ lim + 1; omega
    · show z.1 + 1 ≤ lim + 1; omega
  | d + 1, f, n, a, b, z, h => by
    unfold srch
    by_cases c : lim < z.1 + 1
    · rw [if_pos c]; show z.1 + 1 ≤ lim + 1; omega
    · rw [if_neg c]
      have hz : (zN z).1 ≤ lim := by show z.1 + 1 ≤ lim; omega
      by_cases c2 : n = 0
      · rw [if_pos c2]; show z.1 + 1 ≤ lim + 1; omega
      · rw [if_neg c2]
        split
        · show z.1 + 1 ≤ lim + 1; omega
        · have h5 := tm_cap (srch_nd p od lim u d) (srch_cap p od lim u d) (p := p) (od := od) (f := f) (n := n) (a := a) (b := b) 4 0 (-2147483648) (zN z) hz
          split
          · exact h5
          · show (if u = 0 then _ else _ : SS).1 ≤ lim + 1
            split
            · exact h5
            · exact h5
/-- a game's state: the class's numbers and the reference's row -/
def StOK (sr : Nat → Int32) (x : Nat → Nat) (y : Nat → Int32) (M : Nat) (p : Nat → Int32) : Prop := RowR sr x y M p ∧ M ≤ 12 ∧ PR p ∧ XOK x M
def SVD (og cg : Nat) (xs : Nat → Nat → Nat) (ys ps bw : Nat → Nat → Int32) : Prop := ∀ k, k < cg → ∃ M, StOK (bw k) (xs (ri (og + k))) (ys (ri (og + k))) M (ps (ri (og + k)))
theorem sx_eq {α : Type} {f : Nat → α} {j : Nat} {v : α} : sx f j v j = v := if_pos rfl
theorem sx_ne {α : Type} {f : Nat → α} {j i : Nat} {v : α} (h : ¬ i = j) : sx f j v i = f i := if_neg h
theorem svR_eq {rw : Nat → Nat → Int32} {sr : Nat → Int32} {n : Nat} (h : ¬ n = 6) : svR rw sr n n = sr := by unfold svR; rw [if_neg h, if_pos rfl]
theorem svR_ne {rw : Nat → Nat → Int32} {sr : Nat → Int32} {n k : Nat} (h : ¬ n = 6) (hk : ¬ k = n) : svR rw sr n k = rw k := by unfold svR; rw [if_neg h, if_neg hk]
theorem svR_5 {rw : Nat → Nat → Int32} {sr : Nat → Int32} : svR rw sr 6 5 = sr := by unfold svR; rw [if_pos rfl, if_neg (by omega)]
theorem svR_lt {rw : Nat → Nat → Int32} {sr : Nat → Int32} {k : Nat} (h : k < 5) : svR rw sr 6 k = rw (k + 1) := by unfold svR; rw [if_pos rfl, if_pos h]
theorem svN_C {n : Nat} (h : n ≤ 6) : svN n = svC n := by unfold svN svC; split <;> split <;> omega
theorem svO_lt {og cg : Nat} (h : og < 6) : svO og cg < 6 := by unfold svO; split <;> first | exact h | exact ri_lt (by omega)
theorem svC_le {n : Nat} (h : n ≤ 6) : svC n ≤ 6 := by unfold svC; split <;> omega
theorem SVD.save {og cg : Nat} {xs : Nat → Nat → Nat} {ys ps bw : Nat → Nat → Int32} {sr : Nat → Int32} {x : Nat → Nat} {y p : Nat → Int32} {M : Nat} (hog : og < 6) (hcg : cg ≤ 6) (h : SVD og cg xs ys ps bw) (hs : StOK sr x y M p) : SVD (svO og cg) (svC cg) (sx xs (ri (og + cg)) x) (sx ys (ri (og + cg)) y) (sx ps (ri (og + cg)) p) (svR bw sr cg) := by
  intro k hk
  by_cases c : cg < 6
  · have e1 : svO og cg = og := if_pos c
    have e2 : svC cg = cg + 1 := if_pos c
    rw [e2] at hk
    rw [e1]
    by_cases e : k = cg
    · subst e
      rw [sx_eq, sx_eq, sx_eq, svR_eq (by omega)]
      exact ⟨M, hs⟩
    · have hne : ¬ ri (og + k) = ri (og + cg) := by unfold ri; (repeat' split) <;> omega
      rw [sx_ne hne, sx_ne hne, sx_ne hne, svR_ne (by omega) e]
      exact h k (by omega)
  · obtain rfl : cg = 6 := by omega
    have e1 : svO og 6 = ri (og + 1) := rfl
    have e2 : svC 6 = 6 := rfl
    rw [e2] at hk
    rw [e1]
    by_cases e : k = 5
    · subst e
      have e3 : ri (ri (og + 1) + 5) = ri (og + 6) := by unfold ri; (repeat' split) <;> omega
      rw [e3, sx_eq, sx_eq, sx_eq, svR_5]
      exact ⟨M, hs⟩
    · have e3 : ri (ri (og + 1) + k) = ri (og + (k + 1)) := by unfold ri; (repeat' split) <;> omega
      have hne : ¬ ri (og + (k + 1)) = ri (og + 6) := by unfold ri; (repeat' split) <;> omega
      rw [e3, sx_ne hne, sx_ne hne, sx_ne hne, svR_lt (by omega)]
      exact h (k + 1) (by omega)
/-- the numbers that a text's reading leaves -/
theorem acc_PR {c cnt num : Nat} {F : Nat → Int32} (h : PR F) : PR (acc c cnt num F).2.2.2 := by
  unfold acc
  repeat' split
  all_goals first
    | exact h
    | (intro k hk
       by_cases e : k = cnt - 1
       · subst e
         show sm (upd F (cnt - 1) _ (cnt - 1)) 20
         rw [pk_us]
         unfold sm
         rw [nI_toInt (by omega)]
         omega
       · show sm (upd F (cnt - 1) _ k) 20
         rw [pk_un e]
         exact h k hk)
theorem rd_PR (t : Nat → Nat) : ∀ k i z, PR z.2.2 → PR (rd t k i z).2.2.2
  | 0, _, _, h => h
  | k + 1, i, z, h => by
    have ha := acc_PR (c := t i) (cnt := z.1) (num := z.2.1) h
    show PR (if _ then _ else _ : Nat × Nat × Nat × (Nat → Int32)).2.2.2
    split
    · exact rd_PR t k (i + 1) _ ha
    · exact ha
theorem rdA_PR {t : Nat → Nat} {L : Nat} {F : Nat → Int32} (h : PR F) : PR (rdA t L F).2.2.2 := rd_PR t L 0 (1, 0, F) h
theorem SV.le {p sv : Nat → Int32} {e e2 : Nat} (h : SV p sv e) (he : e2 ≤ e) : SV p sv e2 := fun n f h1 h2 => h n f h1 (by omega)
theorem lg_cmp_self (x : Int64) : lg_cmp x x = 0 := by
  have h : ¬ x > x := Int64.lt_irrefl
  unfold lg_cmp
  rw [if_neg h, if_pos rfl]
/-- what holds between two calls -/
def LF (x : Nat → Nat) (y p sv : Nat → Int32) (og cg sN : Nat) (xs : Nat → Nat → Nat) (ys ps : Nat → Nat → Int32) (L : Nat) (F : Nat → Int32) (t : Nat → Nat) (sr : Nat → Int32) (M : Nat) (bw : Nat → Nat → Int32) : Prop :=
  StOK sr x y M p ∧ SV p sv (x 13 + x 14) ∧ og < 6 ∧ (cg ≤ 6 ∧ sN = cg) ∧ SVD og cg xs ys ps bw ∧ L ≤ 60 ∧ (∀ k, k < L → t k < 128) ∧ PR F
section LFS
variable {x : Nat → Nat} {y p sv : Nat → Int32} {og cg : Nat} {xs : Nat → Nat → Nat} {ys ps : Nat → Nat → Int32} {L : Nat} {F : Nat → Int32} {t : Nat → Nat} {sr : Nat → Int32} {M : Nat} {bw : Nat → Nat → Int32}
/-- a call that saves -/
theorem LF.save {x2 : Nat → Nat} {y2 p2 sv2 u : Nat → Int32} {M2 L2 : Nat} {F2 : Nat → Int32} (h : LF x y p sv og cg cg xs ys ps L F t sr M bw) (h1 : StOK u x2 y2 M2 p2) (h2 : SV p2 sv2 (x2 13 + x2 14)) (h3 : L2 ≤ L) (h4 : PR F2) : LF x2 y2 p2 sv2 (svO og cg) (svC cg) (svN cg) (sx xs (ri (og + cg)) x) (sx ys (ri (og + cg)) y) (sx ps (ri (og + cg)) p) L2 F2 t u M2 (svR bw sr cg) := by
  obtain ⟨g1, g2, g3, ⟨g4, -⟩, g5, g6, g7, g8⟩ := h
  exact ⟨h1, h2, svO_lt g3, ⟨svC_le g4, svN_C g4⟩, g5.save g3 g4 g1, Nat.le_trans h3 g6, fun k hk => g7 k (by omega), h4⟩
theorem LF.play {u : Nat → Int32} {m : Nat} (h : LF x y p sv og cg cg xs ys ps L F t sr M bw) (hm : tk m ≤ x 14) (hR : RowR u (mvX x m) (mvY p x y m) M p) : LF (mvX x m) (mvY p x y m) p sv (svO og cg) (svC cg) (svN cg) (sx xs (ri (og + cg)) x) (sx ys (ri (og + cg)) y) (sx ps (ri (og + cg)) p) L F t u M (svR bw sr cg) :=
  h.save ⟨hR, h.1.2.1, h.1.2.2.1, h.1.2.2.2.mv hm⟩ (h.2.1.le (mvX_sum hm)) (Nat.le_refl _) h.2.2.2.2.2.2.2
theorem LF.pl {u : Nat → Int32} {k : Nat} (h : LF x y p sv og cg cg xs ys ps L F t sr M bw) (hR : RowR u (plS p x y k).1 (plS p x y k).2 M p) : LF (plS p x y k).1 (plS p x y k).2 p sv (svO og cg) (svC cg) (svN cg) (sx xs (ri (og + cg)) x) (sx ys (ri (og + cg)) y) (sx ps (ri (og + cg)) p) L F t u M (svR bw sr cg) :=
  h.save ⟨hR, h.1.2.1, h.1.2.2.1, (XOK.pl h.1.2.2.1 h.1.2.1 h.1.2.2.2 k).1⟩ (h.2.1.le (XOK.pl h.1.2.2.1 h.1.2.1 h.1.2.2.2 k).2) (Nat.le_refl _) h.2.2.2.2.2.2.2
theorem LF.o18 {u : Nat → Int32} {o : Nat} (h : LF x y p sv og cg cg xs ys ps L F t sr M bw) (ho : o < 24) (hR : RowR u (va_up x 18 o) y M p) : LF (va_up x 18 o) y p sv (svO og cg) (svC cg) (svN cg) (sx xs (ri (og + cg)) x) (sx ys (ri (og + cg)) y) (sx ps (ri (og + cg)) p) L F t u M (svR bw sr cg) :=
  h.save ⟨hR, h.1.2.1, h.1.2.2.1, h.1.2.2.2.o18 ho⟩ h.2.1 (Nat.le_refl _) h.2.2.2.2.2.2.2
theorem LF.o19 {u : Nat → Int32} {k : Nat} (h : LF x y p sv og cg cg xs ys ps L F t sr M bw) (h1 : 1 ≤ k) (h2 : k ≤ 5000) (hR : RowR u (va_up x 19 k) y M p) : LF (va_up x 19 k) y p sv (svO og cg) (svC cg) (svN cg) (sx xs (ri (og + cg)) x) (sx ys (ri (og + cg)) y) (sx ps (ri (og + cg)) p) L F t u M (svR bw sr cg) :=
  h.save ⟨hR, h.1.2.1, h.1.2.2.1, h.1.2.2.2.o19 h1 h2⟩ h.2.1 (Nat.le_refl _) h.2.2.2.2.2.2.2
theorem LF.o20 {u : Nat → Int32} {k : Nat} (h : LF x y p sv og cg cg xs ys ps L F t sr M bw) (h1 : k ≤ 1) (hR : RowR u (va_up x 20 k) y M p) : LF (va_up x 20 k) y p sv (svO og cg) (svC cg) (svN cg) (sx xs (ri (og + cg)) x) (sx ys (ri (og + cg)) y) (sx ps (ri (og + cg)) p) L F t u M (svR bw sr cg) :=
  h.save ⟨hR, h.1.2.1, h.1.2.2.1, h.1.2.2.2.o20 h1⟩ h.2.1 (Nat.le_refl _) h.2.2.2.2.2.2.2
theorem LF.ld {u w : Nat → Int32} {c : Nat} {F2 : Nat → Int32} (h : LF x y p sv og cg cg xs ys ps L F t sr M bw) (hc : c ≤ 12) (hF : PR F2) (hw : SV F2 w (0 + c)) (hR : RowR u (ldX x c) (ldY y) c F2) : LF (ldX x c) (ldY y) F2 w (svO og cg) (svC cg) (svN cg) (sx xs (ri (og + cg)) x) (sx ys (ri (og + cg)) y) (sx ps (ri (og + cg)) p) 0 F2 t u c (svR bw sr cg) :=
  h.save ⟨hR, hc, hF, h.1.2.2.2.ld⟩ hw (Nat.zero_le _) hF
theorem LF.se {u : Nat → Int32} {d : Nat} {a b : Int32} (h : LF x y p sv og cg cg xs ys ps L F t sr M bw) (hR : RowR u (sX (srch p (odf (x 18)) (x 19) (x 20) d (x 13) (x 14) a b z0) x) (sY (srch p (odf (x 18)) (x 19) (x 20) d (x 13) (x 14) a b z0) y) M p) : LF (sX (srch p (odf (x 18)) (x 19) (x 20) d (x 13) (x 14) a b z0) x) (sY (srch p (odf (x 18)) (x 19) (x 20) d (x 13) (x 14) a b z0) y) p sv (svO og cg) (svC cg) (svN cg) (sx xs (ri (og + cg)) x) (sx ys (ri (og + cg)) y) (sx ps (ri (og + cg)) p) L F t u M (svR bw sr cg) := by
  refine h.save ⟨hR, h.1.2.1, h.1.2.2.1, h.1.2.2.2.o22 ?_⟩ h.2.1 (Nat.le_refl _) h.2.2.2.2.2.2.2
  have h1 := srch_cap p (odf (x 18)) (x 19) (x 20) d (x 13) (x 14) a b z0 (Nat.zero_le _)
  have h2 := h.1.2.2.2.2.2.2.1.2
  omega
theorem LF.un {u : Nat → Int32} (h : LF x y p sv og cg cg xs ys ps L F t sr M bw) (h1 : 1 ≤ cg) (hu : SV (ps (ri (og + (cg - 1)))) u (xs (ri (og + (cg - 1))) 13 + xs (ri (og + (cg - 1))) 14)) : ∃ M2, LF (xs (ri (og + (cg - 1)))) (ys (ri (og + (cg - 1)))) (ps (ri (og + (cg - 1)))) u og (cg - 1) (cg - 1) xs ys ps L F t (bw (cg - 1)) M2 bw := by
  obtain ⟨g1, g2, g3, ⟨g4, -⟩, g5, g6, g7, g8⟩ := h
  obtain ⟨M2, hs⟩ := g5 (cg - 1) (by omega)
  exact ⟨M2, hs, hu, g3, ⟨by omega, rfl⟩, fun k hk => g5 k (by omega), g6, g7, g8⟩
theorem LF.app {c : Nat} (h : LF x y p sv og cg cg xs ys ps L F t sr M bw) (hL : L < 60) (h2 : c ≤ 126) : LF x y p sv og cg cg xs ys ps (L + 1) F (va_up t L c) sr M bw := by
  obtain ⟨g1, g2, g3, g4, g5, g6, g7, g8⟩ := h
  refine ⟨g1, g2, g3, g4, g5, hL, fun k hk => ?_, g8⟩
  by_cases e : k = L
  · subst e; rw [va_up_self]; omega
  · rw [va_up_ne _ _ e]; exact g7 k (by omega)
theorem LF.clr (h : LF x y p sv og cg cg xs ys ps L F t sr M bw) : LF x y p sv og cg cg xs ys ps 0 F t sr M bw := by
  obtain ⟨g1, g2, g3, g4, g5, g6, g7, g8⟩ := h
  exact ⟨g1, g2, g3, g4, g5, Nat.zero_le _, fun k hk => absurd hk (Nat.not_lt_zero _), g8⟩
theorem LF.fe (h : LF x y p sv og cg cg xs ys ps L F t sr M bw) : LF x y p sv og cg cg xs ys ps L (rdA t L F).2.2.2 t sr M bw := by
  obtain ⟨g1, g2, g3, g4, g5, g6, g7, g8⟩ := h
  exact ⟨g1, g2, g3, g4, g5, g6, g7, rdA_PR g8⟩
end LFS
theorem rm_c {k : Nat} (h : k ≤ 601024) : k ≤ room_1.cells := h
theorem rm_s {k : Nat} (h : k ≤ 7293034) : k ≤ room_1.slots := h
