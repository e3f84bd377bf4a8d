/-! the property, pure: sums of piles, what the values keep, the line, the margin -/
def sg (p : Nat → Int32) (f : Nat) : Nat → Int
  | 0 => 0
  | n + 1 => sg p f n + (p (f + n)).toInt
theorem sg_succ (p : Nat → Int32) (f n : Nat) : sg p f (n + 1) = sg p f n + (p (f + n)).toInt := rfl
theorem sg_front (p : Nat → Int32) : ∀ n f, sg p f (n + 1) = (p f).toInt + sg p (f + 1) n
  | 0, f => by
    show (0 : Int) + (p (f + 0)).toInt = (p f).toInt + 0
    rw [Nat.add_zero]; omega
  | n + 1, f => by
    rw [sg_succ, sg_front p n f, sg_succ, show f + 1 + n = f + (n + 1) by omega]; omega
/-- piles of 1 to 20 coins in the row -/
def PP (p : Nat → Int32) (f n : Nat) : Prop := ∀ k, f ≤ k → k < f + n → 1 ≤ (p k).toInt ∧ (p k).toInt ≤ 20
theorem PP.sub {p : Nat → Int32} {f n g k : Nat} (h : PP p f n) (h1 : f ≤ g) (h2 : g + k ≤ f + n) : PP p g k := fun j h3 h4 => h j (by omega) (by omega)
theorem bh_in {f n m : Nat} (hm : tk m ≤ n) : f ≤ bh f m ∧ bh f m + (n - tk m) ≤ f + n := by
  unfold bh; split <;> omega
theorem PP.bh {p : Nat → Int32} {f n m : Nat} (h : PP p f n) (hm : tk m ≤ n) : PP p (bh f m) (n - tk m) := h.sub (bh_in hm).1 (bh_in hm).2
theorem sg_rng {p : Nat → Int32} {f : Nat} : ∀ n, PP p f n → (n : Int) ≤ sg p f n ∧ sg p f n ≤ 20 * (n : Int)
  | 0, _ => by
    show ((0 : Nat) : Int) ≤ 0 ∧ (0 : Int) ≤ 20 * ((0 : Nat) : Int)
    omega
  | n + 1, h => by
    have ih := sg_rng n (h.sub (Nat.le_refl _) (by omega))
    have h1 := h (f + n) (by omega) (by omega)
    rw [sg_succ]
    omega
theorem cn_sg {p : Nat → Int32} {f n m : Nat} (hp : PP p f n) (hm4 : m < 4) (hm : tk m ≤ n) : (cn p f n m).toInt = sg p f n - sg p (bh f m) (n - tk m) := by
  have t0 : tk 0 = 1 := rfl
  have t1 : tk 1 = 2 := rfl
  have t2 : tk 2 = 1 := rfl
  have t3 : tk 3 = 2 := rfl
  have b0 : bh f 0 = f + 1 := rfl
  have b1 : bh f 1 = f + 2 := rfl
  have b2 : bh f 2 = f := rfl
  have b3 : bh f 3 = f := rfl
  have s2 : ∀ a c, f ≤ a → a < f + n → f ≤ c → c < f + n → (p a + p c).toInt = (p a).toInt + (p c).toInt := fun a c h1 h2 h3 h4 => by
    have e1 := hp a h1 h2
    have e2 := hp c h3 h4
    exact (sm_add (x := p a) (y := p c) (a := 20) (b := 20) ⟨by omega, by omega⟩ ⟨by omega, by omega⟩ (by omega)).2
  rcases (show m = 0 ∨ m = 1 ∨ m = 2 ∨ m = 3 by omega) with rfl | rfl | rfl | rfl
  · rw [t0] at hm
    obtain ⟨k, rfl⟩ : ∃ k, n = k + 1 := ⟨n - 1, by omega⟩
    have e : cn p f (k + 1) 0 = p f := rfl
    rw [e, sg_front, b0, t0, show k + 1 - 1 = k by omega]; omega
  · rw [t1] at hm
    obtain ⟨k, rfl⟩ : ∃ k, n = k + 2 := ⟨n - 2, by omega⟩
    have e : cn p f (k + 2) 1 = p f + p (f + 1) := rfl
    rw [e, s2 _ _ (by omega) (by omega) (by omega) (by omega), show k + 2 = (k + 1) + 1 from rfl, sg_front, sg_front, b1, t1, show k + 1 + 1 - 2 = k by omega, show f + 1 + 1 = f + 2 from rfl]; omega
  · rw [t2] at hm
    obtain ⟨k, rfl⟩ : ∃ k, n = k + 1 := ⟨n - 1, by omega⟩
    have e : cn p f (k + 1) 2 = p (f + (k + 1) - 1) := rfl
    rw [e, sg_succ, b2, t2, show k + 1 - 1 = k by omega, show f + (k + 1) - 1 = f + k by omega]; omega
  · rw [t3] at hm
    obtain ⟨k, rfl⟩ : ∃ k, n = k + 2 := ⟨n - 2, by omega⟩
    have e : cn p f (k + 2) 3 = p (f + (k + 2) - 1) + p (f + (k + 2) - 2) := rfl
    rw [e, s2 _ _ (by omega) (by omega) (by omega) (by omega), show k + 2 = (k + 1) + 1 from rfl, sg_succ, sg_succ, b3, t3, show k + 1 + 1 - 2 = k by omega, show f + (k + 1 + 1) - 1 = f + (k + 1) by omega, show f + (k + 1 + 1) - 2 = f + k by omega]; omega
theorem rV_int {p : Nat → Int32} {f n m : Nat} (hPR : PR p) (hm4 : m < 4) (hm : tk m ≤ n) (hfn : f + n ≤ 12) : (rV p (V p) f n m).toInt = (cn p f n m).toInt - (V p (n - tk m) (bh f m)).toInt := by
  have t2 := bh_in (f := f) hm
  have t3 := tk_le m
  rw [rV_pos hm]
  exact (sm_sub (cn_sm hPR hm4 hm hfn) (V_sm hPR (n - tk m) (bh f m) (by omega)) (by omega)).2
/-- a value lies within the sum of the piles, and is as even as it -/
def InS (s v : Int) : Prop := -s ≤ v ∧ v ≤ s ∧ (s - v) % 2 = 0
theorem rV_sg {p : Nat → Int32} {f n m : Nat} (hPR : PR p) (hp : PP p f n) (hm4 : m < 4) (hm : tk m ≤ n) (hfn : f + n ≤ 12) (hV : InS (sg p (bh f m) (n - tk m)) (V p (n - tk m) (bh f m)).toInt) : InS (sg p f n) (rV p (V p) f n m).toInt := by
  have h1 := cn_sg hp hm4 hm
  have h2 := rV_int hPR hm4 hm hfn
  have h3 := sg_rng _ hp
  have h4 := sg_rng _ (hp.bh hm)
  have h5 : 0 ≤ (cn p f n m).toInt := by
    have hcn : ∀ a, f ≤ a → a < f + n → 1 ≤ (p a).toInt ∧ (p a).toInt ≤ 20 := hp
    rcases (show m = 0 ∨ m = 1 ∨ m = 2 ∨ m = 3 by omega) with rfl | rfl | rfl | rfl
    · have e : cn p f n 0 = p f := rfl
      have t : tk 0 = 1 := rfl
      rw [e]; have := hcn f (by omega) (by omega); omega
    · have e : cn p f n 1 = p f + p (f + 1) := rfl
      have t : tk 1 = 2 := rfl
      have q1 := hcn f (by omega) (by omega)
      have q2 := hcn (f + 1) (by omega) (by omega)
      rw [e, (sm_add (x := p f) (y := p (f + 1)) (a := 20) (b := 20) ⟨by omega, by omega⟩ ⟨by omega, by omega⟩ (by omega)).2]; omega
    · have e : cn p f n 2 = p (f + n - 1) := rfl
      have t : tk 2 = 1 := rfl
      rw [e]; have := hcn (f + n - 1) (by omega) (by omega); omega
    · have e : cn p f n 3 = p (f + n - 1) + p (f + n - 2) := rfl
      have t : tk 3 = 2 := rfl
      have q1 := hcn (f + n - 1) (by omega) (by omega)
      have q2 := hcn (f + n - 2) (by omega) (by omega)
      rw [e, (sm_add (x := p (f + n - 1)) (y := p (f + n - 2)) (a := 20) (b := 20) ⟨by omega, by omega⟩ ⟨by omega, by omega⟩ (by omega)).2]; omega
  obtain ⟨v1, v2, v3⟩ := hV
  unfold InS
  omega
theorem V_sg {p : Nat → Int32} (hPR : PR p) : ∀ n f, f + n ≤ 12 → PP p f n → InS (sg p f n) (V p n f).toInt := by
  intro n
  induction n using Nat.strongRecOn with
  | _ n ih =>
    intro f hfn hp
    rcases Nat.eq_zero_or_pos n with h | h
    · subst h
      rw [V_zero]
      have e : (0 : Int32).toInt = 0 := rfl
      have e2 : sg p f 0 = 0 := rfl
      unfold InS
      omega
    · obtain ⟨m, h1, h2, -, h4⟩ := V_best hPR h hfn
      have t1 := tk_pos m
      have t2 := bh_in (f := f) h2
      rw [h4]
      exact rV_sg hPR hp h1 h2 hfn (ih (n - tk m) (by omega) (bh f m) (by omega) (hp.bh h2))
theorem rV_in {p : Nat → Int32} {f n m : Nat} (hPR : PR p) (hp : PP p f n) (hm4 : m < 4) (hm : tk m ≤ n) (hfn : f + n ≤ 12) : InS (sg p f n) (rV p (V p) f n m).toInt :=
  rV_sg hPR hp hm4 hm hfn (V_sg hPR _ _ (by have := bh_in (f := f) hm; omega) (hp.bh hm))
/-- the first of the best moves -/
theorem bm_first {r : Nat → Int32} (h0 : -999 < (r 0).toInt) : ∀ i, 1 ≤ i → ∃ m, m < i ∧ bm r i = (nI m, r m) ∧ -999 < (r m).toInt ∧ (∀ j, j < i → (r j).toInt ≤ (r m).toInt) ∧ ∀ j, j < m → (r j).toInt < (r m).toInt := by
  intro i hi
  induction i with
  | zero => omega
  | succ i ih =>
    by_cases hi0 : i = 0
    · subst hi0
      refine ⟨0, by omega, ?_, h0, fun j hj => by rw [show j = 0 by omega]; exact Int.le_refl _, fun j hj => absurd hj (Nat.not_lt_zero _)⟩
      show (if r 0 ≤ -999 then ((-999, -999) : Int32 × Int32) else (nI 0, r 0)) = _
      rw [if_neg (fun h => by rw [Int32.le_iff_toInt_le, i999] at h; omega)]
    · obtain ⟨m, h1, h2, h3, h4, h5⟩ := ih (by omega)
      have e2 : (bm r i).2 = r m := by rw [h2]
      by_cases c : r i ≤ (bm r i).2
      · refine ⟨m, by omega, by show (if r i ≤ (bm r i).2 then bm r i else (nI i, r i)) = _; rw [if_pos c, h2], h3, fun j hj => ?_, h5⟩
        rw [e2, Int32.le_iff_toInt_le] at c
        by_cases e : j = i
        · subst e; exact c
        · exact h4 j (by omega)
      · refine ⟨i, by omega, by show (if r i ≤ (bm r i).2 then bm r i else (nI i, r i)) = _; rw [if_neg c], ?_, fun j hj => ?_, fun j hj => ?_⟩
        all_goals rw [e2, Int32.le_iff_toInt_le] at c
        · omega
        · by_cases e : j = i
          · subst e; exact Int.le_refl _
          · have := h4 j (by omega); omega
        · have := h4 j hj; omega
theorem bN_first {p : Nat → Int32} (hp : PR p) {f n : Nat} (hn : 1 ≤ n) (hfn : f + n ≤ 12) : (∀ j, j < 4 → (rV p (V p) f n j).toInt ≤ (V p n f).toInt) ∧ ∀ j, j < bN p f n → (rV p (V p) f n j).toInt < (V p n f).toInt := by
  have e0 : tk 0 ≤ n := hn
  have h0 := rV_sm hp (fun k g _ hg => V_sm hp k g hg) (m := 0) (by omega) e0 hfn
  obtain ⟨m, h1, h2, -, h4, h5⟩ := bm_first (r := rV p (V p) f n) (by have := h0.1; omega) 4 (by omega)
  obtain ⟨-, -, g3, g4⟩ := bN_spec hp hn hfn
  rw [h2] at g3
  have e1 : nI m = nI (bN p f n) := congrArg Prod.fst g3
  have hb := (bN_spec hp hn hfn).1
  have e2 : m = bN p f n := (nI_eq (by omega) (by omega)).mp e1
  rw [g4, ← e2]
  exact ⟨h4, h5⟩
/-- the margin -/
theorem mgn_spec {r : Nat → Int32} {n : Nat} {B : Int32} : ∀ i, (mgn r n B i = -999 ∧ ∀ j, j < i → -999 < (r j).toInt → ¬ nI j = B → ¬ tk j ≤ n) ∨ ∃ j, j < i ∧ tk j ≤ n ∧ mgn r n B i = r j
  | 0 => Or.inl ⟨rfl, fun j hj => absurd hj (Nat.not_lt_zero _)⟩
  | i + 1 => by
    have ih := mgn_spec (r := r) (n := n) (B := B) i
    by_cases c1 : nI i = B
    · have e : mgn r n B (i + 1) = mgn r n B i := if_pos c1
      rw [e]
      rcases ih with ⟨h1, h2⟩ | ⟨j, h1, h2, h3⟩
      · refine Or.inl ⟨h1, fun j hj h3 h4 => ?_⟩
        by_cases e2 : j = i
        · subst e2; exact absurd c1 h4
        · exact h2 j (by omega) h3 h4
      · exact Or.inr ⟨j, by omega, h2, h3⟩
    · by_cases c2 : tk i ≤ n
      · have e : mgn r n B (i + 1) = mx (mgn r n B i) (r i) := (if_neg c1).trans (if_pos c2)
        rw [e]
        by_cases c3 : mgn r n B i < r i
        · exact Or.inr ⟨i, by omega, c2, if_pos c3⟩
        · have e3 : mx (mgn r n B i) (r i) = mgn r n B i := if_neg c3
          rw [e3]
          rcases ih with ⟨h1, h2⟩ | ⟨j, h1, h2, h3⟩
          · refine Or.inl ⟨h1, fun j hj h4 h5 => ?_⟩
            by_cases e2 : j = i
            · subst e2
              rw [h1, Int32.lt_iff_toInt_lt, i999] at c3
              exact absurd h4 c3
            · exact h2 j (by omega) h4 h5
          · exact Or.inr ⟨j, by omega, h2, h3⟩
      · have e : mgn r n B (i + 1) = mgn r n B i := (if_neg c1).trans (if_neg c2)
        rw [e]
        rcases ih with ⟨h1, h2⟩ | ⟨j, h1, h2, h3⟩
        · refine Or.inl ⟨h1, fun j hj h4 h5 => ?_⟩
          by_cases e2 : j = i
          · subst e2; exact c2
          · exact h2 j (by omega) h4 h5
        · exact Or.inr ⟨j, by omega, h2, h3⟩
theorem mgA_pos {p : Nat → Int32} (hp : PR p) {f n : Nat} (hn : 1 ≤ n) (hfn : f + n ≤ 12) : 0 ≤ (mgA p f n).toInt := by
  obtain ⟨hb1, hb2, hb3, hb4⟩ := bN_spec hp hn hfn
  have hf := (bN_first hp hn hfn).1
  have hs : ∀ j, j < 4 → tk j ≤ n → sm (rV p (V p) f n j) (20 * n) := fun j hj hjn => rV_sm hp (fun k g _ hg => V_sm hp k g hg) hj hjn hfn
  have hv := V_sm hp n f hfn
  have key : ∃ j, j < 4 ∧ tk j ≤ n ∧ mgn (rV p (V p) f n) n (bm (rV p (V p) f n) 4).1 4 = rV p (V p) f n j := by
    rcases mgn_spec (r := rV p (V p) f n) (n := n) (B := (bm (rV p (V p) f n) 4).1) 4 with ⟨h1, h2⟩ | h
    · exfalso
      have e1 : (bm (rV p (V p) f n) 4).1 = nI (bN p f n) := by rw [hb3]
      rw [e1] at h2
      have t0 : tk 0 = 1 := rfl
      have t2 : tk 2 = 1 := rfl
      by_cases c : bN p f n = 0
      · have h3 := hs 2 (by omega) (by omega)
        refine h2 2 (by omega) (by have := h3.1; omega) (fun e => ?_) (by omega)
        have := (nI_eq (show 2 < 2 ^ 31 by omega) (show bN p f n < 2 ^ 31 by omega)).mp e
        omega
      · have h3 := hs 0 (by omega) (by omega)
        refine h2 0 (by omega) (by have := h3.1; omega) (fun e => ?_) (by omega)
        have := (nI_eq (show 0 < 2 ^ 31 by omega) (show bN p f n < 2 ^ 31 by omega)).mp e
        omega
    · exact h
  obtain ⟨j, hj, hjn, e⟩ := key
  have h1 := hs j hj hjn
  unfold mgA
  rw [e]
  have hne : ¬ rV p (V p) f n j = -999 := fun h => by
    rw [h] at h1
    have := h1.1
    rw [i999] at this
    omega
  rw [if_neg hne, (sm_sub hv h1 (by omega)).2]
  have := hf j hj
  omega
theorem mgA_none (p : Nat → Int32) (f : Nat) : mgA p f 0 = -999 := by
  have h : mgn (rV p (V p) f 0) 0 (bm (rV p (V p) f 0) 4).1 4 = -999 := by
    rcases mgn_spec (r := rV p (V p) f 0) (n := 0) (B := (bm (rV p (V p) f 0) 4).1) 4 with ⟨h1, -⟩ | ⟨j, -, h2, -⟩
    · exact h1
    · have := tk_pos j
      omega
  unfold mgA
  rw [if_pos h]
/-- the orders are permutations -/
theorem odf_all : ∀ o, o < 24 → ∀ m, m < 4 → ∃ j, j < 4 ∧ odf o j = m := by decide +kernel
theorem odf_15 : ∀ o, o < 24 → ((((0 : Int32) ||| ((1 : Int32) <<< ((nI (odf o 0) &&& 31) &&& 31))) ||| ((1 : Int32) <<< ((nI (odf o 1) &&& 31) &&& 31))) ||| ((1 : Int32) <<< ((nI (odf o 2) &&& 31) &&& 31))) ||| ((1 : Int32) <<< ((nI (odf o 3) &&& 31) &&& 31)) = 15 := by decide +kernel
