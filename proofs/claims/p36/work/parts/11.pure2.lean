/-! values by full search: v n f stands for the value of the position (first f, count n) -/
def rV (p : Nat → Int32) (v : Nat → Nat → Int32) (f n m : Nat) : Int32 := if tk m ≤ n then cn p f n m - v (n - tk m) (bh f m) else -999
/-- the first i moves' best: the move (-999 for none), its result -/
def bm (r : Nat → Int32) : Nat → Int32 × Int32
  | 0 => (-999, -999)
  | i + 1 => if r i ≤ (bm r i).2 then bm r i else (nI i, r i)
def Vf (p : Nat → Int32) : Nat → Nat → Nat → Int32
  | 0 => fun _ _ => 0
  | k + 1 => fun n f => if n = 0 then 0 else (bm (rV p (Vf p k) f n) 4).2
def V (p : Nat → Int32) (n f : Nat) : Int32 := Vf p n n f
theorem rV_cong {p : Nat → Int32} {v w : Nat → Nat → Int32} {n : Nat} (h : ∀ k, k < n → v k = w k) (f : Nat) : rV p v f n = rV p w f n := by
  funext m
  unfold rV
  by_cases c : tk m ≤ n
  · rw [if_pos c, if_pos c, h (n - tk m) (by have := tk_pos m; omega)]
  · rw [if_neg c, if_neg c]
theorem Vf_eq (p : Nat → Int32) : ∀ k j n, n ≤ k → n ≤ j → Vf p k n = Vf p j n := by
  intro k
  induction k with
  | zero =>
    intro j n h1 h2
    have : n = 0 := by omega
    subst this
    cases j with
    | zero => rfl
    | succ j => funext f; simp [Vf]
  | succ k ih =>
    intro j n h1 h2
    cases j with
    | zero =>
      have : n = 0 := by omega
      subst this
      funext f; simp [Vf]
    | succ j =>
      funext f
      by_cases hn : n = 0
      · simp [Vf, hn]
      · simp only [Vf, hn, if_false]
        rw [rV_cong (p := p) (v := Vf p k) (w := Vf p j) (fun i hi => ih j i (by omega) (by omega))]
theorem V_zero (p : Nat → Int32) (f : Nat) : V p 0 f = 0 := rfl
theorem V_eq (p : Nat → Int32) {n : Nat} (hn : 1 ≤ n) (f : Nat) : V p n f = (bm (rV p (V p) f n) 4).2 := by
  obtain ⟨k, rfl⟩ : ∃ k, n = k + 1 := ⟨n - 1, by omega⟩
  show Vf p (k + 1) (k + 1) f = _
  simp only [Vf, Nat.succ_ne_zero, if_false]
  rw [rV_cong (p := p) (v := Vf p k) (w := V p) (fun i hi => by funext g; exact congrFun (Vf_eq p k i i (by omega) (Nat.le_refl _)) g)]
/-- small numbers: no wrap-around -/
def sm (x : Int32) (b : Int) : Prop := -b ≤ x.toInt ∧ x.toInt ≤ b
theorem sm_mono {x : Int32} {a b : Int} (h : sm x a) (hab : a ≤ b) : sm x b := ⟨by have := h.1; omega, by have := h.2; omega⟩
theorem toInt_rng (x : Int32) : -2147483648 ≤ x.toInt ∧ x.toInt < 2147483648 := by
  have h1 := Int32.le_toInt x
  have h2 := Int32.toInt_lt x
  exact ⟨by simpa using h1, by simpa using h2⟩
theorem bmod_id {z : Int} (h1 : -2147483648 ≤ z) (h2 : z < 2147483648) : z.bmod (2 ^ 32) = z := Int.bmod_eq_of_le (by omega) (by omega)
theorem sm_add {x y : Int32} {a b : Int} (hx : sm x a) (hy : sm y b) (h : a + b < 2147483648) : sm (x + y) (a + b) ∧ (x + y).toInt = x.toInt + y.toInt := by
  have e : (x + y).toInt = x.toInt + y.toInt := by rw [Int32.toInt_add]; exact bmod_id (by have := hx.1; have := hy.1; omega) (by have := hx.2; have := hy.2; omega)
  refine ⟨⟨?_, ?_⟩, e⟩
  · rw [e]; have := hx.1; have := hy.1; omega
  · rw [e]; have := hx.2; have := hy.2; omega
theorem sm_sub {x y : Int32} {a b : Int} (hx : sm x a) (hy : sm y b) (h : a + b < 2147483648) : sm (x - y) (a + b) ∧ (x - y).toInt = x.toInt - y.toInt := by
  have e : (x - y).toInt = x.toInt - y.toInt := by rw [Int32.toInt_sub]; exact bmod_id (by have := hx.1; have := hy.2; omega) (by have := hx.2; have := hy.1; omega)
  refine ⟨⟨?_, ?_⟩, e⟩
  · rw [e]; have := hx.1; have := hy.2; omega
  · rw [e]; have := hx.2; have := hy.1; omega
/-- piles of 0 to 20 coins -/
def PR (p : Nat → Int32) : Prop := ∀ k, k < 12 → sm (p k) 20
theorem cn_sm {p : Nat → Int32} (hp : PR p) {f n m : Nat} (hm4 : m < 4) (hm : tk m ≤ n) (hfn : f + n ≤ 12) : sm (cn p f n m) (20 * tk m) := by
  rcases (show m = 0 ∨ m = 1 ∨ m = 2 ∨ m = 3 by omega) with rfl | rfl | rfl | rfl
  · have e : tk 0 = 1 := rfl
    rw [e] at hm ⊢
    exact hp f (by omega)
  · have e : tk 1 = 2 := rfl
    rw [e] at hm ⊢
    exact (sm_add (hp f (by omega)) (hp (f + 1) (by omega)) (by omega)).1
  · have e : tk 2 = 1 := rfl
    rw [e] at hm ⊢
    exact hp (f + n - 1) (by omega)
  · have e : tk 3 = 2 := rfl
    rw [e] at hm ⊢
    exact (sm_add (hp (f + n - 1) (by omega)) (hp (f + n - 2) (by omega)) (by omega)).1
theorem rV_pos {p : Nat → Int32} {v : Nat → Nat → Int32} {f n m : Nat} (hm : tk m ≤ n) : rV p v f n m = cn p f n m - v (n - tk m) (bh f m) := if_pos hm
theorem rV_neg {p : Nat → Int32} {v : Nat → Nat → Int32} {f n m : Nat} (hm : ¬ tk m ≤ n) : rV p v f n m = -999 := if_neg hm
theorem rV_sm {p : Nat → Int32} {v : Nat → Nat → Int32} {f n m : Nat} (hp : PR p) (hv : ∀ k g, k < n → g + k ≤ 12 → sm (v k g) (20 * k)) (hm4 : m < 4) (hm : tk m ≤ n) (hfn : f + n ≤ 12) : sm (rV p v f n m) (20 * n) := by
  have t1 := tk_pos m
  have t2 := bh_le f m
  rw [rV_pos hm]
  have h1 := cn_sm hp hm4 hm hfn
  have h2 := hv (n - tk m) (bh f m) (by omega) (by omega)
  exact sm_mono (sm_sub h1 h2 (by omega)).1 (by omega)
theorem i999 : ((-999 : Int32)).toInt = -999 := by decide
theorem bm_some {r : Nat → Int32} (h0 : -999 < (r 0).toInt) : ∀ i, 1 ≤ i → ∃ m, m < i ∧ bm r i = (nI m, r m) ∧ -999 < (r m).toInt := by
  intro i hi
  induction i with
  | zero => omega
  | succ i ih =>
    by_cases c : r i ≤ (bm r i).2
    · by_cases hi0 : i = 0
      · subst hi0
        have c' : r 0 ≤ -999 := c
        rw [Int32.le_iff_toInt_le, i999] at c'
        omega
      · obtain ⟨m, h1, h2, h3⟩ := ih (by omega)
        exact ⟨m, by omega, by show (if r i ≤ (bm r i).2 then bm r i else (nI i, r i)) = _; rw [if_pos c, h2], h3⟩
    · refine ⟨i, by omega, by show (if r i ≤ (bm r i).2 then bm r i else (nI i, r i)) = _; rw [if_neg c], ?_⟩
      by_cases hi0 : i = 0
      · subst hi0; exact h0
      · obtain ⟨m, h1, h2, h3⟩ := ih (by omega)
        rw [h2, Int32.le_iff_toInt_le] at c
        have c' : ¬ (r i).toInt ≤ (r m).toInt := c
        omega
theorem best_some {p : Nat → Int32} {v : Nat → Nat → Int32} {f n : Nat} (hp : PR p) (hv : ∀ k g, k < n → g + k ≤ 12 → sm (v k g) (20 * k)) (hn : 1 ≤ n) (hfn : f + n ≤ 12) : ∃ m, m < 4 ∧ tk m ≤ n ∧ bm (rV p v f n) 4 = (nI m, rV p v f n m) ∧ sm (rV p v f n m) (20 * n) := by
  have e0 : tk 0 ≤ n := hn
  have h0 := rV_sm hp hv (m := 0) (by omega) e0 hfn
  obtain ⟨m, h1, h2, h3⟩ := bm_some (r := rV p v f n) (by have := h0.1; omega) 4 (by omega)
  have hm : tk m ≤ n := by
    rcases Nat.lt_or_ge n (tk m) with q | q
    · rw [rV_neg (by omega), i999] at h3
      omega
    · exact q
  exact ⟨m, h1, hm, h2, rV_sm hp hv h1 hm hfn⟩
theorem V_sm {p : Nat → Int32} (hp : PR p) : ∀ n f, f + n ≤ 12 → sm (V p n f) (20 * n) := by
  intro n
  induction n using Nat.strongRecOn with
  | _ n ih =>
    intro f hfn
    rcases Nat.eq_zero_or_pos n with h | h
    · subst h
      rw [V_zero]
      exact ⟨by decide, by decide⟩
    · obtain ⟨m, -, -, h2, h3⟩ := best_some hp (v := V p) (fun k g hk hg => ih k hk g hg) h hfn
      rw [V_eq p h, h2]
      exact h3
theorem V_best {p : Nat → Int32} (hp : PR p) {n f : Nat} (hn : 1 ≤ n) (hfn : f + n ≤ 12) : ∃ m, m < 4 ∧ tk m ≤ n ∧ bm (rV p (V p) f n) 4 = (nI m, rV p (V p) f n m) ∧ V p n f = rV p (V p) f n m := by
  obtain ⟨m, h1, h2, h3, -⟩ := best_some hp (v := V p) (fun k g _ hg => V_sm hp k g hg) hn hfn
  exact ⟨m, h1, h2, h3, by rw [V_eq p hn, h3]⟩
theorem bm_cong {r q : Nat → Int32} : ∀ {i : Nat}, (∀ j, j < i → r j = q j) → bm r i = bm q i
  | 0, _ => rfl
  | i + 1, h => by
    show (if r i ≤ (bm r i).2 then bm r i else (nI i, r i)) = (if q i ≤ (bm q i).2 then bm q i else (nI i, q i))
    rw [bm_cong (fun j hj => h j (by omega)), h i (by omega)]
/-- the class's table of values: a row of 144 -/
def vat (sv : Nat → Int32) (n f : Nat) : Int32 := if n = 0 then 0 else sv (f * 12 + n - 1)
/-- the table holds the values of all positions up to e -/
def SV (p sv : Nat → Int32) (e : Nat) : Prop := ∀ n f, 1 ≤ n → f + n ≤ e → sv (f * 12 + n - 1) = V p n f
theorem SV_vat {p sv : Nat → Int32} {e : Nat} (h : SV p sv e) {n f : Nat} (hfn : f + n ≤ e) : vat sv n f = V p n f := by
  unfold vat
  by_cases c : n = 0
  · subst c; rfl
  · rw [if_neg c]; exact h n f (by omega) hfn
theorem SV_rV {p sv : Nat → Int32} {e : Nat} (h : SV p sv e) {n f : Nat} (hfn : f + n ≤ e) (m : Nat) : rV p (vat sv) f n m = rV p (V p) f n m := by
  have t2 := bh_le f m
  by_cases c : tk m ≤ n
  · rw [rV_pos c, rV_pos c, SV_vat h (by omega)]
  · rw [rV_neg c, rV_neg c]
theorem SV_bm {p sv : Nat → Int32} {e : Nat} (h : SV p sv e) {n f : Nat} (hfn : f + n ≤ e) (i : Nat) : bm (rV p (vat sv) f n) i = bm (rV p (V p) f n) i := bm_cong (fun j _ => SV_rV h hfn j)
/-- while it is filled: all shorter positions, and those of count c to the left of f -/
def SVp (p sv : Nat → Int32) (e c f : Nat) : Prop := ∀ n g, 1 ≤ n → g + n ≤ e → (n < c ∨ (n = c ∧ g < f)) → sv (g * 12 + n - 1) = V p n g
theorem SVp_low {p sv : Nat → Int32} {e c f : Nat} (h : SVp p sv e c f) {n g : Nat} (hn : n < c) (hg : g + n ≤ e) : vat sv n g = V p n g := by
  unfold vat
  by_cases q : n = 0
  · subst q; rfl
  · rw [if_neg q]; exact h n g (by omega) hg (Or.inl hn)
theorem SVp_rV {p sv : Nat → Int32} {e c f : Nat} (h : SVp p sv e c f) (hf : f + c ≤ e) : rV p (vat sv) f c = rV p (V p) f c := by
  funext m
  have t1 := tk_pos m
  have t2 := bh_le f m
  by_cases q : tk m ≤ c
  · rw [rV_pos q, rV_pos q, SVp_low h (by omega) (by omega)]
  · rw [rV_neg q, rV_neg q]
theorem SVp_step {p sv : Nat → Int32} {e c f : Nat} (h : SVp p sv e c f) (hc : 1 ≤ c) (hf : f + c ≤ e) (he : e ≤ 12) {x : Int32} (hx : x = V p c f) : SVp p (upd sv (f * 12 + c - 1) x) e c (f + 1) := by
  intro n g h1 h2 h3
  by_cases q : g * 12 + n - 1 = f * 12 + c - 1
  · have e1 : n = c := by omega
    have e2 : g = f := by omega
    subst e1; subst e2
    rw [pk_us, hx]
  · rw [pk_un q]
    exact h n g h1 h2 (by
      rcases h3 with h3 | ⟨h3, h4⟩
      · exact Or.inl h3
      · refine Or.inr ⟨h3, ?_⟩
        rcases Nat.lt_or_ge g f with z | z
        · exact z
        · exact absurd (by have : g = f := by omega
                           rw [h3, this]) q)
theorem SVp_next {p sv : Nat → Int32} {e c f : Nat} (h : SVp p sv e c f) (hf : e < f + c) : SVp p sv e (c + 1) 0 := by
  intro n g h1 h2 h3
  exact h n g h1 h2 (by
    rcases h3 with h3 | ⟨h3, h4⟩
    · rcases Nat.lt_or_ge n c with z | z
      · exact Or.inl z
      · exact Or.inr ⟨by omega, by omega⟩
    · omega)
theorem SVp_done {p sv : Nat → Int32} {e c f : Nat} (h : SVp p sv e c f) (hc : 12 < c) (he : e ≤ 12) : SV p sv e := fun n g h1 h2 => h n g h1 h2 (Or.inl (by omega))
theorem SVp_zero {p sv : Nat → Int32} {e : Nat} : SVp p sv e 1 0 := by
  intro n g h1 h2 h3
  omega
