/-! the property: what a state keeps (the first pieces are those of the whole check) -/
theorem ltl {v k : Int32} {z : Int} (e : k.toInt = z) : v < k ↔ v.toInt < z := by rw [Int32.lt_iff_toInt_lt, e]
theorem gtl {v k : Int32} {z : Int} (e : k.toInt = z) : k < v ↔ z < v.toInt := by rw [Int32.lt_iff_toInt_lt, e]
theorem lel {v k : Int32} {z : Int} (e : k.toInt = z) : v ≤ k ↔ v.toInt ≤ z := by rw [Int32.le_iff_toInt_le, e]
theorem gel {v k : Int32} {z : Int} (e : k.toInt = z) : k ≤ v ↔ z ≤ v.toInt := by rw [Int32.le_iff_toInt_le, e]
/-- a number within bounds, as a count -/
theorem of_rng {v : Int32} (b : Nat) (hb : b ≤ 2 ^ 31) (h0 : 0 ≤ v.toInt) (h1 : v.toInt < b) : ∃ n, v = nI n ∧ n < b ∧ (n : Int) = v.toInt := by
  refine ⟨v.toInt.toNat, ?_, by omega, by omega⟩
  apply Int32.toInt_inj.mp
  rw [nI_toInt (by omega)]
  omega
theorem nI_m1 : ∀ n, n < 13 → (nI n - 1).toInt = (n : Int) - 1 := by decide +kernel
theorem i_p1 {v : Int32} (h1 : -1000 ≤ v.toInt) (h2 : v.toInt ≤ 1000) : (v + 1).toInt = v.toInt + 1 := by
  have h3 : sm v 1000 := ⟨h1, h2⟩
  have h4 : sm (1 : Int32) 1 := ⟨by decide, by decide⟩
  rw [(sm_add h3 h4 (by omega)).2]; rfl
theorem mvX_sum {x : Nat → Nat} {m : Nat} (hm : tk m ≤ x 14) : mvX x m 13 + mvX x m 14 ≤ x 13 + x 14 := by
  have e13 : mvX x m 13 = bh (x 13) m := rfl
  have e14 : mvX x m 14 = x 14 - tk m := rfl
  rw [e13, e14]; unfold bh; split <;> omega
/-- the nodes of a search, stopped or not -/
theorem tm_cap {rec : Nat → Nat → Int32 → Int32 → SS → SR} {p : Nat → Int32} {od : Nat → Nat} {f n : Nat} {a b : Int32} {lim : Nat} (hrec : ∀ f n a b z, z.1 ≤ lim → (rec f n a b z).1 = false → (rec f n a b z).2.2.1 ≤ lim) (hre2 : ∀ f n a b z, z.1 ≤ lim → (rec f n a b z).2.2.1 ≤ lim + 1) :
    ∀ j k v z, z.1 ≤ lim → (tm rec p od f n a b j k v z).2.2.1 ≤ lim + 1
  | 0, _, _, _, h => Nat.le_succ_of_le h
  | j + 1, k, v, z, h => by
    unfold tm
    by_cases c : tk (od k) ≤ n
    · rw [if_pos c]
      by_cases c2 : (rec (bh f (od k)) (n - tk (od k)) (cn p f n (od k) - b) (cn p f n (od k) - mx a v) z).1 = true
      · rw [if_pos c2]
        exact hre2 _ _ _ _ z h
      · rw [if_neg c2]
        have h2 := hrec _ _ _ _ z h (Bool.eq_false_iff.mpr c2)
        split
        · exact tm_cap hrec hre2 j (k + 1) _ _ h2
        · exact Nat.le_succ_of_le h2
    · rw [if_neg c]
      exact tm_cap hrec hre2 j (k + 1) v z h
theorem srch_cap (p : Nat → Int32) (od : Nat → Nat) (lim u : Nat) : ∀ d f n a b z, z.1 ≤ lim → (srch p od lim u d f n a b z).2.2.1 ≤ lim + 1
  | 0, f, n, a, b, z, h => by
    unfold srch
    split
    · show z.1 + 1 ≤ lim + 1; omega
    · show z.1 + 1 ≤ lim + 1; omega
  | d + 1, f, n, a, b, z, h => by
    unfold srch
    by_cases c : lim < z.1 + 1
    · rw [if_pos c]; show z.1 + 1 ≤ lim + 1; omega
    · rw [if_neg c]
      have hz : (zN z).1 ≤ lim := by show z.1 + 1 ≤ lim; omega
      by_cases c2 : n = 0
      · rw [if_pos c2]; show z.1 + 1 ≤ lim + 1; omega
      · rw [if_neg c2]
        split
        · show z.1 + 1 ≤ lim + 1; omega
        · have h5 := tm_cap (srch_nd p od lim u d) (srch_cap p od lim u d) (p := p) (od := od) (f := f) (n := n) (a := a) (b := b) 4 0 (-2147483648) (zN z) hz
          split
          · exact h5
          · show (if u = 0 then _ else _ : SS).1 ≤ lim + 1
            split
            · exact h5
            · exact h5
theorem sx_eq {α : Type} {f : Nat → α} {j : Nat} {v : α} : sx f j v j = v := if_pos rfl
theorem sx_ne {α : Type} {f : Nat → α} {j i : Nat} {v : α} (h : ¬ i = j) : sx f j v i = f i := if_neg h
theorem svO_lt {og cg : Nat} (h : og < 6) : svO og cg < 6 := by unfold svO; split <;> first | exact h | exact ri_lt (by omega)
theorem svC_le {n : Nat} (h : n ≤ 6) : svC n ≤ 6 := by unfold svC; split <;> omega
/-- the numbers that a text's reading leaves -/
theorem acc_PR {c cnt num : Nat} {F : Nat → Int32} (h : PR F) : PR (acc c cnt num F).2.2.2 := by
  unfold acc
  repeat' split
  all_goals first
    | exact h
    | (intro k hk
       by_cases e : k = cnt - 1
       · subst e
         show sm (upd F (cnt - 1) _ (cnt - 1)) 20
         rw [pk_us]
         unfold sm
         rw [nI_toInt (by omega)]
         omega
       · show sm (upd F (cnt - 1) _ k) 20
         rw [pk_un e]
         exact h k hk)
theorem rd_PR (t : Nat → Nat) : ∀ k i z, PR z.2.2 → PR (rd t k i z).2.2.2
  | 0, _, _, h => h
  | k + 1, i, z, h => by
    have ha := acc_PR (c := t i) (cnt := z.1) (num := z.2.1) h
    show PR (if _ then _ else _ : Nat × Nat × Nat × (Nat → Int32)).2.2.2
    split
    · exact rd_PR t k (i + 1) _ ha
    · exact ha
theorem rdA_PR {t : Nat → Nat} {L : Nat} {F : Nat → Int32} (h : PR F) : PR (rdA t L F).2.2.2 := rd_PR t L 0 (1, 0, F) h
theorem SV.le {p sv : Nat → Int32} {e e2 : Nat} (h : SV p sv e) (he : e2 ≤ e) : SV p sv e2 := fun n f h1 h2 => h n f h1 (by omega)
/-- a state: the game, the settings, the last search -/
def StW (x : Nat → Nat) (y p : Nat → Int32) : Prop :=
  (x 13 + x 14 ≤ 12 ∧ x 15 ≤ 1 ∧ x 18 < 24 ∧ (1 ≤ x 19 ∧ x 19 ≤ 5000) ∧ x 20 ≤ 1) ∧ (PR p ∧ PP p (x 13) (x 14)) ∧ ((0 ≤ (y 16).toInt ∧ (y 16).toInt ≤ 20 * (12 - (x 14 : Int))) ∧ 0 ≤ (y 17).toInt ∧ (y 17).toInt ≤ 20 * (12 - (x 14 : Int))) ∧ (x 22 ≤ 5001 ∧ (0 ≤ (y 23).toInt ∧ (y 23).toInt ≤ x 22) ∧ (0 ≤ (y 24).toInt ∧ (y 24).toInt ≤ x 22) ∧ (x 22 = 0 → y 21 = -999)) ∧ ∀ k, k < 144 → kdY y k = 0 ∨ ((kdY y k = 1 ∨ kdY y k = 2 ∨ kdY y k = 3) ∧ ¬ vlY y k = -999)
theorem StW.mv {x : Nat → Nat} {y p : Nat → Int32} {m : Nat} (h : StW x y p) (hm4 : m < 4) (hm : tk m ≤ x 14) : StW (mvX x m) (mvY p x y m) p := by
  obtain ⟨⟨h1, h2, h3, h4, h5⟩, ⟨h6, h7⟩, ⟨h8, h9⟩, h10, h11⟩ := h
  have e13 : mvX x m 13 = bh (x 13) m := rfl
  have e14 : mvX x m 14 = x 14 - tk m := rfl
  have e15 : mvX x m 15 = 1 - x 15 := rfl
  have e18 : mvX x m 18 = x 18 := rfl
  have e19 : mvX x m 19 = x 19 := rfl
  have e20 : mvX x m 20 = x 20 := rfl
  have e22 : mvX x m 22 = x 22 := rfl
  have f16 : mvY p x y m 16 = mk0 (x 15) (y 16) (cn p (x 13) (x 14) m) := rfl
  have f17 : mvY p x y m 17 = mk1 (x 15) (y 17) (cn p (x 13) (x 14) m) := rfl
  have f23 : mvY p x y m 23 = y 23 := rfl
  have f24 : mvY p x y m 24 = y 24 := rfl
  have f21 : mvY p x y m 21 = y 21 := rfl
  have hb := bh_in (f := x 13) hm
  have hc := cn_sm h6 hm4 hm h1
  have hc0 : 0 ≤ (cn p (x 13) (x 14) m).toInt := by
    have q1 := cn_sg h7 hm4 hm
    have q2 := sg_rng _ (h7.bh hm)
    have q3 := sg_rng _ h7
    rw [q1]
    have t1 := tk_pos m
    have q4 : sg p (bh (x 13) m) (x 14 - tk m) ≤ sg p (x 13) (x 14) := by
      rcases (show m = 0 ∨ m = 1 ∨ m = 2 ∨ m = 3 by omega) with rfl | rfl | rfl | rfl
      · have t : tk 0 = 1 := rfl
        obtain ⟨k, hk⟩ : ∃ k, x 14 = k + 1 := ⟨x 14 - 1, by omega⟩
        rw [t, hk, sg_front, show bh (x 13) 0 = x 13 + 1 from rfl, show k + 1 - 1 = k by omega]
        have := h7 (x 13) (by omega) (by omega); omega
      · have t : tk 1 = 2 := rfl
        obtain ⟨k, hk⟩ : ∃ k, x 14 = k + 1 + 1 := ⟨x 14 - 2, by omega⟩
        rw [t, hk, sg_front, sg_front, show bh (x 13) 1 = x 13 + 1 + 1 from rfl, show k + 1 + 1 - 2 = k by omega]
        have := h7 (x 13) (by omega) (by omega)
        have := h7 (x 13 + 1) (by omega) (by omega); omega
      · have t : tk 2 = 1 := rfl
        obtain ⟨k, hk⟩ : ∃ k, x 14 = k + 1 := ⟨x 14 - 1, by omega⟩
        rw [t, hk, sg_succ, show bh (x 13) 2 = x 13 from rfl, show k + 1 - 1 = k by omega]
        have := h7 (x 13 + k) (by omega) (by omega); omega
      · have t : tk 3 = 2 := rfl
        obtain ⟨k, hk⟩ : ∃ k, x 14 = k + 1 + 1 := ⟨x 14 - 2, by omega⟩
        rw [t, hk, sg_succ, sg_succ, show bh (x 13) 3 = x 13 from rfl, show k + 1 + 1 - 2 = k by omega]
        have := h7 (x 13 + k) (by omega) (by omega)
        have := h7 (x 13 + (k + 1)) (by omega) (by omega); omega
    omega
  have ht := tk_le m
  have hadd : ∀ z : Int32, 0 ≤ z.toInt → z.toInt ≤ 20 * (12 - (x 14 : Int)) → 0 ≤ (z + cn p (x 13) (x 14) m).toInt ∧ (z + cn p (x 13) (x 14) m).toInt ≤ 20 * (12 - ((x 14 - tk m : Nat) : Int)) := fun z hz hz2 => by
    have q1 : sm z 240 := ⟨by omega, by omega⟩
    have q2 := (sm_add q1 hc (by omega)).2
    have q3 := hc.2
    rw [q2]
    omega
  refine ⟨⟨by rw [e13, e14]; omega, by rw [e15]; omega, by rw [e18]; exact h3, by rw [e19]; exact h4, by rw [e20]; exact h5⟩, ⟨h6, by rw [e13, e14]; exact h7.bh hm⟩, ⟨?_, ?_⟩, by rw [e22, f23, f24, f21]; exact h10, by rw [kdY_mv, vlY_mv]; exact h11⟩
  · rw [f16, e14]
    unfold mk0
    split
    · exact hadd _ h8.1 h8.2
    · omega
  · rw [f17, e14]
    unfold mk1
    split
    · omega
    · exact hadd _ h9.1 h9.2
theorem StW.pl {x : Nat → Nat} {y p : Nat → Int32} (h : StW x y p) : ∀ k, StW (plS p x y k).1 (plS p x y k).2 p ∧ (plS p x y k).1 13 + (plS p x y k).1 14 ≤ x 13 + x 14
  | 0 => ⟨h, Nat.le_refl _⟩
  | k + 1 => by
    obtain ⟨X, Y, hXY⟩ : ∃ X Y, plS p x y k = (X, Y) := ⟨_, _, rfl⟩
    have ih := StW.pl h k
    rw [hXY] at ih
    have ih : StW X Y p ∧ X 13 + X 14 ≤ x 13 + x 14 := ih
    obtain ⟨h1, h2⟩ := ih
    by_cases c : X 14 = 0
    · rw [(plS_end hXY c 1).1]; exact ⟨h1, h2⟩
    · rw [plS_go hXY c]
      have hb := bN_spec h1.2.1.1 (f := X 13) (n := X 14) (by omega) h1.1.1
      have hb1 := hb.1
      have hb2 := hb.2.1
      generalize bN p (X 13) (X 14) = m at hb1 hb2 ⊢
      show StW (mvX X m) (mvY p X Y m) p ∧ mvX X m 13 + mvX X m 14 ≤ x 13 + x 14
      exact ⟨StW.mv h1 hb1 hb2, Nat.le_trans (mvX_sum hb2) h2⟩
theorem StW.o18 {x : Nat → Nat} {y p : Nat → Int32} {o : Nat} (h : StW x y p) (ho : o < 24) : StW (va_up x 18 o) y p := by
  obtain ⟨⟨h1, h2, h3, h4, h5⟩, h6, h7, h8, h9⟩ := h
  exact ⟨⟨h1, h2, ho, h4, h5⟩, h6, h7, h8, h9⟩
theorem StW.o19 {x : Nat → Nat} {y p : Nat → Int32} {k : Nat} (h : StW x y p) (q1 : 1 ≤ k) (q2 : k ≤ 5000) : StW (va_up x 19 k) y p := by
  obtain ⟨⟨h1, h2, h3, h4, h5⟩, h6, h7, h8, h9⟩ := h
  exact ⟨⟨h1, h2, h3, ⟨q1, q2⟩, h5⟩, h6, h7, h8, h9⟩
theorem StW.o20 {x : Nat → Nat} {y p : Nat → Int32} {k : Nat} (h : StW x y p) (q : k ≤ 1) : StW (va_up x 20 k) y p := by
  obtain ⟨⟨h1, h2, h3, h4, h5⟩, h6, h7, h8, h9⟩ := h
  exact ⟨⟨h1, h2, h3, h4, q⟩, h6, h7, h8, h9⟩
theorem srch_ge1 (p : Nat → Int32) (od : Nat → Nat) (lim u d f n : Nat) (a b : Int32) (z : SS) : z.1 + 1 ≤ (srch p od lim u d f n a b z).2.2.1 := by
  cases d with
  | zero =>
    by_cases c : lim < z.1 + 1
    · rw [srch_stop c]; exact Nat.le_refl _
    · rw [srch_zero c]; exact Nat.le_refl _
  | succ d =>
    by_cases c : lim < z.1 + 1
    · rw [srch_stop c]; exact Nat.le_refl _
    · by_cases c2 : n = 0
      · rw [srch_none c c2]; exact Nat.le_refl _
      · by_cases c3 : u = 0 ∧ hitP z.2.2.2.1 z.2.2.2.2.1 z.2.2.2.2.2 (f * 12 + n - 1) (d + 1) a b
        · rw [srch_hit c c2 c3.1 c3.2]; exact Nat.le_refl _
        · have h1 : (zN z).1 ≤ (tmT p od lim u d f n a b z).2.2.1 := tm_ge (fun f n a b z => srch_ge p od lim u d f n a b z) 4 0 (-2147483648) (zN z)
          by_cases c4 : (tmT p od lim u d f n a b z).1 = true ∨ ¬ u = 0
          · rw [srch_same c c2 c3 c4]; exact h1
          · have c5 : ¬ (tmT p od lim u d f n a b z).1 = true := fun h => c4 (Or.inl h)
            have c6 : u = 0 := Classical.not_not.mp (fun h => c4 (Or.inr h))
            rw [srch_keep c c2 c3 c5 c6]; exact h1
theorem odf_lt4 {o : Nat} (ho : o < 24) : ∀ k, k < 4 → odf o k < 4 := fun k hk => odf_lt ho hk
theorem StW.se {x : Nat → Nat} {y p : Nat → Int32} (h : StW x y p) (d : Nat) (a b : Int32) : StW (sX (srch p (odf (x 18)) (x 19) (x 20) d (x 13) (x 14) a b z0) x) (sY (srch p (odf (x 18)) (x 19) (x 20) d (x 13) (x 14) a b z0) y) p := by
  obtain ⟨⟨h1, h2, h3, h4, h5⟩, ⟨h6, h7⟩, h8, h9, h10⟩ := h
  have hk := srch_keepR h6 (odf_lt4 h3) (odf_all _ h3) h4.2 (x 20) d (x 13) (x 14) a b z0 0 h1 (Nat.zero_le _) ZI_0 ZT_0
  have hc := srch_cap p (odf (x 18)) (x 19) (x 20) d (x 13) (x 14) a b z0 (Nat.zero_le _)
  have hg := srch_ge1 p (odf (x 18)) (x 19) (x 20) d (x 13) (x 14) a b z0
  generalize srch p (odf (x 18)) (x 19) (x 20) d (x 13) (x 14) a b z0 = R at hk hc hg ⊢
  obtain ⟨⟨k1, k2, k3, k4⟩, k5, -⟩ := hk
  have e22 : sX R x 22 = R.2.2.1 := rfl
  have f16 : sY R y 16 = y 16 := rfl
  have f17 : sY R y 17 = y 17 := rfl
  have f23 : sY R y 23 = R.2.2.2.1 := rfl
  have f24 : sY R y 24 = R.2.2.2.2.1 := rfl
  refine ⟨⟨h1, h2, h3, h4, h5⟩, ⟨h6, h7⟩, by rw [f16, f17]; exact h8, ?_, fun k hk => ?_⟩
  · rw [e22, f23, f24]
    have e0 : (z0 : SS).1 = 0 := rfl
    refine ⟨by omega, ⟨k1, by omega⟩, ⟨k3, by omega⟩, fun h => by omega⟩
  · rw [sY_kd hk, sY_vl hk]
    have q := k5 (k / 12) (k % 12 + 1) (by omega) (by omega) (by omega)
    rw [show k / 12 * 12 + (k % 12 + 1) - 1 = k by omega] at q
    rcases q with q | ⟨q1, q2⟩
    · exact Or.inl q
    · refine Or.inr ⟨q1, fun h => ?_⟩
      have q3 := q2.1
      rw [h, i999] at q3
      omega
theorem StW.ld {x : Nat → Nat} {y p F : Nat → Int32} {c : Nat} (h : StW x y p) (hc : c ≤ 12) (hF : PR F) (hP : PP F 0 c) : StW (ldX x c) (ldY y) F := by
  obtain ⟨⟨h1, h2, h3, h4, h5⟩, h6, h7, h8, h9⟩ := h
  have e13 : ldX x c 13 = 0 := rfl
  have e14 : ldX x c 14 = c := rfl
  have e15 : ldX x c 15 = 0 := rfl
  have f16 : ldY y 16 = 0 := rfl
  have f17 : ldY y 17 = 0 := rfl
  have i0 : (0 : Int32).toInt = 0 := rfl
  refine ⟨⟨by rw [e13, e14]; omega, by rw [e15]; omega, h3, h4, h5⟩, ⟨hF, by rw [e13, e14]; exact hP⟩, ⟨by rw [f16, e14, i0]; omega, by rw [f17, e14, i0]; omega⟩, h8, by rw [kdY_ld, vlY_ld]; exact h9⟩
/-- what holds of an object between two calls: of its state, and of the rest -/
def AOK (S : AS) : Prop := StW S.x S.y S.p ∧ S.og < 6 ∧ S.cg ≤ 6 ∧ (∀ k, k < S.cg → StW (S.xs (ri (S.og + k))) (S.ys (ri (S.og + k))) (S.ps (ri (S.og + k)))) ∧ PR S.F
def COK (S : AS) (C : SC) : Prop := SV S.p C.sv (S.x 13 + S.x 14) ∧ C.L ≤ 60 ∧ ∀ k, k < C.L → C.t k < 128
theorem AOK.sav {S : AS} {x2 : Nat → Nat} {y2 p2 F2 : Nat → Int32} (h : AOK S) (h2 : StW x2 y2 p2) (hF : PR F2) : AOK (S.sav x2 y2 p2 F2) := by
  obtain ⟨g1, g2, g3, g4, g5⟩ := h
  obtain ⟨x, y, p, og, cg, xs, ys, ps, F⟩ := S
  have g1 : StW x y p := g1
  have g2 : og < 6 := g2
  have g3 : cg ≤ 6 := g3
  have g4 : ∀ k, k < cg → StW (xs (ri (og + k))) (ys (ri (og + k))) (ps (ri (og + k))) := g4
  refine ⟨h2, svO_lt g2, svC_le g3, ?_, hF⟩
  show ∀ k, k < svC cg → StW (sx xs (ri (og + cg)) x (ri (svO og cg + k))) (sx ys (ri (og + cg)) y (ri (svO og cg + k))) (sx ps (ri (og + cg)) p (ri (svO og cg + k)))
  intro k hk
  by_cases c : cg < 6
  · have e1 : svO og cg = og := if_pos c
    have e2 : svC cg = cg + 1 := if_pos c
    rw [e2] at hk
    rw [e1]
    by_cases e : k = cg
    · subst e
      rw [sx_eq, sx_eq, sx_eq]
      exact g1
    · have hne : ¬ ri (og + k) = ri (og + cg) := by unfold ri; (repeat' split) <;> omega
      rw [sx_ne hne, sx_ne hne, sx_ne hne]
      exact g4 k (by omega)
  · obtain rfl : cg = 6 := by omega
    have e1 : svO og 6 = ri (og + 1) := rfl
    have e2 : svC 6 = 6 := rfl
    rw [e2] at hk
    rw [e1]
    by_cases e : k = 5
    · subst e
      have e3 : ri (ri (og + 1) + 5) = ri (og + 6) := by unfold ri; (repeat' split) <;> omega
      rw [e3, sx_eq, sx_eq, sx_eq]
      exact g1
    · have e3 : ri (ri (og + 1) + k) = ri (og + (k + 1)) := by unfold ri; (repeat' split) <;> omega
      have hne : ¬ ri (og + (k + 1)) = ri (og + 6) := by unfold ri; (repeat' split) <;> omega
      rw [e3, sx_ne hne, sx_ne hne, sx_ne hne]
      exact g4 (k + 1) (by omega)
