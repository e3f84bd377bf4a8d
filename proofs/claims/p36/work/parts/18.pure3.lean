abbrev z0 : SS := (0, 0, 0, zf, zf, zf)
def sAn (r : SR) : Int32 := if r.1 = true then -999 else r.2.1
theorem sAn_t {r : SR} (h : r.1 = true) : sAn r = -999 := if_pos h
theorem sAn_f {r : SR} (h : ¬ r.1 = true) : sAn r = r.2.1 := if_neg h
theorem SV_le {p sv : Nat → Int32} {e e' : Nat} (h : SV p sv e) (he : e' ≤ e) : SV p sv e' := fun n f h1 h2 => h n f h1 (by omega)
/-- the best move, as a number -/
def bN (p : Nat → Int32) (f n : Nat) : Nat := (bm (rV p (V p) f n) 4).1.toNatClampNeg
theorem bN_spec {p : Nat → Int32} (hp : PR p) {f n : Nat} (hn : 1 ≤ n) (hfn : f + n ≤ 12) : bN p f n < 4 ∧ tk (bN p f n) ≤ n ∧ bm (rV p (V p) f n) 4 = (nI (bN p f n), rV p (V p) f n (bN p f n)) ∧ V p n f = rV p (V p) f n (bN p f n) := by
  obtain ⟨m, h1, h2, h3, h4⟩ := V_best hp hn hfn
  have e : bN p f n = m := by
    unfold bN; rw [h3]; exact nI_clamp (by omega)
  rw [e]
  exact ⟨h1, h2, h3, h4⟩
theorem bm_zero {p : Nat → Int32} {v : Nat → Nat → Int32} {f : Nat} : bm (rV p v f 0) 4 = (-999, -999) := by
  have h : ∀ i, bm (rV p v f 0) i = (-999, -999) := by
    intro i
    induction i with
    | zero => rfl
    | succ i ih =>
      show (if rV p v f 0 i ≤ (bm (rV p v f 0) i).2 then bm (rV p v f 0) i else (nI i, rV p v f 0 i)) = _
      rw [ih, rV_neg (by have := tk_pos i; omega)]
      rfl
  exact h 4
/-- the position after k best moves -/
def lpos (p : Nat → Int32) (f n : Nat) : Nat → Nat × Nat
  | 0 => (f, n)
  | k + 1 => if (lpos p f n k).2 = 0 then lpos p f n k else (bh (lpos p f n k).1 (bN p (lpos p f n k).1 (lpos p f n k).2), (lpos p f n k).2 - tk (bN p (lpos p f n k).1 (lpos p f n k).2))
theorem lpos_stop {p : Nat → Int32} {f n k : Nat} (h : (lpos p f n k).2 = 0) : lpos p f n (k + 1) = lpos p f n k := if_pos h
theorem lpos_go {p : Nat → Int32} {f n k : Nat} (h : ¬ (lpos p f n k).2 = 0) : lpos p f n (k + 1) = (bh (lpos p f n k).1 (bN p (lpos p f n k).1 (lpos p f n k).2), (lpos p f n k).2 - tk (bN p (lpos p f n k).1 (lpos p f n k).2)) := if_neg h
theorem lpos_in {p : Nat → Int32} (hp : PR p) {f n : Nat} (hfn : f + n ≤ 12) : ∀ k, (lpos p f n k).1 + (lpos p f n k).2 ≤ f + n ∧ (lpos p f n k).2 ≤ n - k
  | 0 => ⟨Nat.le_refl _, Nat.le_refl _⟩
  | k + 1 => by
    obtain ⟨h1, h2⟩ := lpos_in hp hfn k
    by_cases c : (lpos p f n k).2 = 0
    · rw [lpos_stop c]; exact ⟨h1, by omega⟩
    · rw [lpos_go c]
      obtain ⟨-, g2, -, -⟩ := bN_spec hp (f := (lpos p f n k).1) (n := (lpos p f n k).2) (by omega) (by omega)
      have g3 := bh_le (lpos p f n k).1 (bN p (lpos p f n k).1 (lpos p f n k).2)
      have g4 := tk_pos (bN p (lpos p f n k).1 (lpos p f n k).2)
      constructor
      · dsimp only; omega
      · dsimp only; omega
theorem lpos_end {p : Nat → Int32} {f n k : Nat} (h : (lpos p f n k).2 = 0) : ∀ j, lpos p f n (k + j) = lpos p f n k
  | 0 => rfl
  | j + 1 => by
    have ih := lpos_end h j
    show lpos p f n (k + j + 1) = _
    rw [lpos_stop (by rw [ih]; exact h), ih]
/-- a move of the line -/
def lnA (p : Nat → Int32) (f n i : Nat) : Int32 := if (lpos p f n i).2 = 0 then -999 else nI (bN p (lpos p f n i).1 (lpos p f n i).2)
theorem lnA_t {p : Nat → Int32} {f n i : Nat} (h : (lpos p f n i).2 = 0) : lnA p f n i = -999 := if_pos h
theorem lnA_f {p : Nat → Int32} {f n i : Nat} (h : ¬ (lpos p f n i).2 = 0) : lnA p f n i = nI (bN p (lpos p f n i).1 (lpos p f n i).2) := if_neg h
theorem lnA_end {p : Nat → Int32} {f n k i : Nat} (h : (lpos p f n k).2 = 0) (hi : k ≤ i) : lnA p f n i = -999 := by
  obtain ⟨j, rfl⟩ : ∃ j, i = k + j := ⟨i - k, by omega⟩
  exact lnA_t (by rw [lpos_end h j]; exact h)
/-- the best of the other moves -/
def mgn (r : Nat → Int32) (n : Nat) (B : Int32) : Nat → Int32
  | 0 => -999
  | i + 1 => if nI i = B then mgn r n B i else if tk i ≤ n then mx (mgn r n B i) (r i) else mgn r n B i
def mgA (p : Nat → Int32) (f n : Nat) : Int32 := if mgn (rV p (V p) f n) n (bm (rV p (V p) f n) 4).1 4 = -999 then -999 else V p n f - mgn (rV p (V p) f n) n (bm (rV p (V p) f n) 4).1 4
/-- entries of the table -/
def enN (K : Nat → Int32) : Nat → Nat
  | 0 => 0
  | i + 1 => if K i = 0 then enN K i else enN K i + 1
theorem enN_le (K : Nat → Int32) : ∀ i, enN K i ≤ i
  | 0 => Nat.le_refl 0
  | i + 1 => by
    have := enN_le K i
    show (if K i = 0 then enN K i else enN K i + 1) ≤ i + 1
    split <;> omega
def evA (K W : Nat → Int32) (i : Nat) : Int32 := if K i = 0 then -999 else W i
/-- the hash -/
def mpl (p : Nat → Int32) (f : Nat) (h : Int64) : Nat → Int64
  | 0 => h
  | i + 1 => mi (mpl p f h i) (p (f + i))
def mln (p : Nat → Int32) (f n : Nat) (h : Int64) : Nat → Int64
  | 0 => h
  | k + 1 => if (lpos p f n k).2 = 0 then mln p f n h k else mi (mln p f n h k) (nI (bN p (lpos p f n k).1 (lpos p f n k).2))
theorem mln_stop {p : Nat → Int32} {f n k : Nat} {h : Int64} (c : (lpos p f n k).2 = 0) : mln p f n h (k + 1) = mln p f n h k := if_pos c
theorem mln_go {p : Nat → Int32} {f n k : Nat} {h : Int64} (c : ¬ (lpos p f n k).2 = 0) : mln p f n h (k + 1) = mi (mln p f n h k) (nI (bN p (lpos p f n k).1 (lpos p f n k).2)) := if_neg c
theorem mln_end {p : Nat → Int32} {f n k : Nat} {h : Int64} (c : (lpos p f n k).2 = 0) : ∀ j, mln p f n h (k + j) = mln p f n h k
  | 0 => rfl
  | j + 1 => by
    show mln p f n h (k + j + 1) = _
    rw [mln_stop (by rw [lpos_end c j]; exact c), mln_end c j]
def mor (o : Nat) (h : Int64) : Nat → Int64
  | 0 => h
  | k + 1 => mi (mor o h k) (nI (odf o k))
def mtb (K W : Nat → Int32) (h : Int64) : Nat → Int64
  | 0 => h
  | i + 1 => mi (mi (mtb K W h i) (K i)) (evA K W i)
def dig (p : Nat → Int32) (x : Nat → Nat) (y : Nat → Int32) : Int64 :=
  mtb (kdY y) (vlY y) (mor (x 18) (mln p (x 13) (x 14) (mpl p (x 13) (mi (mi (mi (mi (mi (mi (mi (mi (mi (mi (mi 4214 (nI (x 15))) (nI (x 14))) (y 16)) (y 17)) (V p (x 14) (x 13))) (mgA p (x 13) (x 14))) (y 21)) (nI (x 22))) (y 23)) (y 24)) (nI (enN (kdY y) 144))) (x 14)) 12) 4) 144
/-- the nodes of a forecast -/
def fcN (p : Nat → Int32) (x : Nat → Nat) (o : Nat) : Nat := (srch p (odf o) (x 19) (x 20) 12 (x 13) (x 14) (-240) 241 z0).2.2.1
def boN (p : Nat → Int32) (x : Nat → Nat) : Nat → Nat × Nat
  | 0 => (0, fcN p x 0)
  | k + 1 => if nI (boN p x k).2 ≤ nI (fcN p x (k + 1)) then boN p x k else (k + 1, fcN p x (k + 1))
