/-! the property, pure: the pieces of a check of one object -/
theorem ge0_nlt {x : Int32} (h : 0 ≤ x.toInt) : ¬ x < 0 := fun h9 => by
  rw [Int32.lt_iff_toInt_lt] at h9
  have e0 : (0 : Int32).toInt = 0 := rfl
  omega
theorem pos_nle {x : Int32} (h : 1 ≤ x.toInt) : ¬ x ≤ 0 := fun h9 => by
  rw [Int32.le_iff_toInt_le] at h9
  have e0 : (0 : Int32).toInt = 0 := rfl
  omega
theorem le20_n21 {x : Int32} (h : x.toInt ≤ 20) : ¬ 21 ≤ x := fun h9 => by
  rw [Int32.le_iff_toInt_le] at h9
  have e0 : (21 : Int32).toInt = 21 := by decide
  omega
theorem nlt_of {x y : Int32} (h : y.toInt ≤ x.toInt) : ¬ x < y := fun h9 => by
  rw [Int32.lt_iff_toInt_lt] at h9
  omega
theorem sgI_step {p : Nat → Int32} {f n i : Nat} {al : Int32} (hp : PP p f n) (hn : n ≤ 12) (hi : i < n) (h : al.toInt = sg p f i) : (al + p (f + i)).toInt = sg p f (i + 1) := by
  have h1 := hp (f + i) (by omega) (by omega)
  have h2 := sg_rng i (hp.sub (g := f) (k := i) (Nat.le_refl _) (by omega))
  rw [sg_succ, ← h]
  exact (sm_add (x := al) (y := p (f + i)) (a := 240) (b := 20) ⟨by omega, by omega⟩ ⟨by omega, by omega⟩ (by omega)).2
theorem tk_mod (m : Nat) : tk m = m % 2 + 1 := by unfold tk; split <;> omega
theorem best_le {p : Nat → Int32} (hp : PR p) {f n m : Nat} (hfn : f + n ≤ 12) (hm4 : m < 4) : (rV p (V p) f n m).toInt ≤ (V p n f).toInt ∧ (¬ nI m = (bm (rV p (V p) f n) 4).1 → ¬ (bm (rV p (V p) f n) 4).1 < nI m → (rV p (V p) f n m).toInt < (V p n f).toInt) := by
  rcases Nat.eq_zero_or_pos n with h | h
  · subst h
    have t1 := tk_pos m
    have e0 : (0 : Int32).toInt = 0 := rfl
    rw [rV_neg (by omega), V_zero, i999, e0]
    exact ⟨by omega, fun _ _ => by omega⟩
  · obtain ⟨h1, h2⟩ := bN_first hp h hfn
    obtain ⟨b1, -, b3, -⟩ := bN_spec hp h hfn
    rw [b3]
    refine ⟨h1 m hm4, fun h3 h4 => h2 m ?_⟩
    have q1 : m ≠ bN p f n := fun e => h3 (by rw [e])
    have q2 : ¬ bN p f n < m := fun e => h4 ((nI_ltI (by omega) (by omega)).mpr e)
    omega
theorem neg_int {x : Int32} (h1 : -1000 ≤ x.toInt) (h2 : x.toInt ≤ 1000) : (-x).toInt = -x.toInt := by
  rw [Int32.toInt_neg]
  exact bmod_id (by omega) (by omega)
theorem even_rem {x y : Int32} (h1 : y.toInt ≤ x.toInt) (h2 : sm x 1000) (h3 : sm y 1000) (h4 : (x.toInt - y.toInt) % 2 = 0) : (x - y) - (x - y) / 2 * 2 = 0 := by
  have e := (sm_sub h2 h3 (by omega)).2
  have h5 := h2.2
  have h6 := h3.1
  have e2 : x - y = nI (x.toInt - y.toInt).toNat := by
    apply Int32.toInt_inj.mp
    rw [e, nI_toInt (by omega)]
    omega
  have e3 := nI_rem (a := (x.toInt - y.toInt).toNat) (b := 2) (by omega) (by decide)
  rw [e2]
  refine e3.trans ?_
  rw [show (x.toInt - y.toInt).toNat % 2 = 0 by omega]
  rfl
theorem bm_t {r : Nat → Int32} {i : Nat} {mo it : Int32} (h : mo = (bm r i).2) (hit : it = r i) (c : it ≤ mo) : mo = (bm r (i + 1)).2 := by
  rw [h, hit] at c
  rw [h]
  show _ = (if r i ≤ (bm r i).2 then bm r i else (nI i, r i)).2
  rw [if_pos c]
theorem bm_f {r : Nat → Int32} {i : Nat} {mo it : Int32} (h : mo = (bm r i).2) (hit : it = r i) (c : ¬ it ≤ mo) : it = (bm r (i + 1)).2 := by
  rw [h, hit] at c
  rw [hit]
  show _ = (if r i ≤ (bm r i).2 then bm r i else (nI i, r i)).2
  rw [if_neg c]
/-- the balance of the line -/
theorem sn_neg {sn : Int32} (h : sn = 1 ∨ sn = -1) : -sn = 1 ∨ -sn = -1 := by
  rcases h with h | h
  · subst h; exact Or.inr rfl
  · subst h; exact Or.inl (by decide)
theorem sn_int {sn : Int32} (h : sn = 1 ∨ sn = -1) : (sn.toInt = 1 ∧ (-sn).toInt = -1) ∨ (sn.toInt = -1 ∧ (-sn).toInt = 1) := by
  rcases h with h | h
  · subst h; exact Or.inl ⟨by decide, by decide⟩
  · subst h; exact Or.inr ⟨by decide, by decide⟩
theorem bal_z {p : Nat → Int32} {F N : Nat} {bal sn : Int32} {v : Int} (h0 : N = 0) (h : bal.toInt + sn.toInt * (V p N F).toInt = v) : bal.toInt + (-sn).toInt * (V p N F).toInt = v := by
  subst h0
  have e0 : (0 : Int32).toInt = 0 := rfl
  rw [V_zero, e0, Int.mul_zero] at h ⊢
  exact h
theorem sn_mul {sn c : Int32} (h : sn = 1 ∨ sn = -1) (hc : sm c 1000) : sm (sn * c) 1000 ∧ (sn * c).toInt = sn.toInt * c.toInt := by
  obtain ⟨h1, h2⟩ := hc
  have e : (sn * c).toInt = sn.toInt * c.toInt := by
    rw [Int32.toInt_mul]
    rcases sn_int h with ⟨e, -⟩ | ⟨e, -⟩ <;> rw [e] <;> exact bmod_id (by omega) (by omega)
  refine ⟨?_, e⟩
  unfold sm
  rw [e]
  rcases sn_int h with ⟨e, -⟩ | ⟨e, -⟩ <;> rw [e] <;> omega
theorem bal_1 {bal sn c : Int32} (h : sn = 1 ∨ sn = -1) (hb : sm bal 1000) (hc : sm c 1000) : sm (bal + sn * c) 2000 ∧ (bal + sn * c).toInt = bal.toInt + sn.toInt * c.toInt := by
  obtain ⟨h1, h2⟩ := sn_mul h hc
  obtain ⟨h3, h4⟩ := sm_add hb h1 (by omega)
  exact ⟨sm_mono h3 (by omega), by rw [h4, h2]⟩
theorem line_1 {bal sn c : Int32} {v v1 v2 : Int} (h : sn = 1 ∨ sn = -1) (hb : bal.toInt + sn.toInt * v1 = v) (hv : -240 ≤ v ∧ v ≤ 240) (hv1 : -240 ≤ v1 ∧ v1 ≤ 240) (hc : sm c 40) (he : v1 = c.toInt - v2) : (bal + sn * c).toInt + (-sn).toInt * v2 = v := by
  have hs := sn_int h
  have hbb : sm bal 1000 := by
    unfold sm
    rcases hs with ⟨e, -⟩ | ⟨e, -⟩ <;> rw [e] at hb <;> omega
  rw [(bal_1 h hbb (sm_mono hc (by omega))).2]
  rcases hs with ⟨e, e2⟩ | ⟨e, e2⟩ <;> rw [e] at hb <;> rw [e, e2] <;> omega
theorem line_2 {bal sn c d : Int32} {v v1 v2 : Int} (h : sn = 1 ∨ sn = -1) (hb : bal.toInt + sn.toInt * v1 = v) (hv : -240 ≤ v ∧ v ≤ 240) (hv1 : -240 ≤ v1 ∧ v1 ≤ 240) (hc : sm c 20) (hd : sm d 20) (he : v1 = c.toInt + d.toInt - v2) : (bal + sn * c + sn * d).toInt + (-sn).toInt * v2 = v := by
  have hs := sn_int h
  have hbb : sm bal 500 := by
    unfold sm
    rcases hs with ⟨e, -⟩ | ⟨e, -⟩ <;> rw [e] at hb <;> omega
  have q1 := (bal_1 h (sm_mono hbb (by omega)) (sm_mono hc (by omega))).2
  have hb2 : sm (bal + sn * c) 1000 := by
    obtain ⟨c1, c2⟩ := hc
    obtain ⟨b1, b2⟩ := hbb
    unfold sm
    rw [q1]
    rcases hs with ⟨e, -⟩ | ⟨e, -⟩ <;> rw [e] <;> omega
  rw [(bal_1 h hb2 (sm_mono hd (by omega))).2, q1]
  rcases hs with ⟨e, e2⟩ | ⟨e, e2⟩ <;> rw [e] at hb <;> rw [e, e2] <;> omega
/-- a step of the line, by the move -/
theorem line_s {p : Nat → Int32} (hp : PR p) {f a9 N9 n m : Nat} {bal sn : Int32} {v : Int} (hm4 : m < 4) (hm : tk m ≤ N9) (hfn : f + n ≤ 12) (han : a9 + N9 ≤ n) (h : sn = 1 ∨ sn = -1) (hb : bal.toInt + sn.toInt * (V p N9 (f + a9)).toInt = v) (hv : -240 ≤ v ∧ v ≤ 240) (hV : V p N9 (f + a9) = rV p (V p) (f + a9) N9 m) : (bal + sn * cn p (f + a9) N9 m).toInt + (-sn).toInt * (V p (N9 - tk m) (bh (f + a9) m)).toInt = v ∧ (m = 1 → (bal + sn * p (f + a9) + sn * p (f + a9 + 1)).toInt + (-sn).toInt * (V p (N9 - tk m) (bh (f + a9) m)).toInt = v) ∧ (m = 3 → (bal + sn * p (f + a9 + N9 - 1) + sn * p (f + a9 + N9 - 2)).toInt + (-sn).toInt * (V p (N9 - tk m) (bh (f + a9) m)).toInt = v) := by
  have h1 := rV_int hp hm4 hm (f := f + a9) (by omega)
  rw [← hV] at h1
  have h2 := V_sm hp N9 (f + a9) (by omega)
  have h3 := cn_sm hp hm4 hm (f := f + a9) (by omega)
  have t2 := tk_le m
  have hv1 : -240 ≤ (V p N9 (f + a9)).toInt ∧ (V p N9 (f + a9)).toInt ≤ 240 := by
    obtain ⟨q1, q2⟩ := h2
    omega
  refine ⟨line_1 h hb hv hv1 (sm_mono h3 (by omega)) h1, fun e => ?_, fun e => ?_⟩
  · subst e
    have t : tk 1 = 2 := rfl
    have s1 := hp (f + a9) (by omega)
    have s2 := hp (f + a9 + 1) (by omega)
    have e3 : cn p (f + a9) N9 1 = p (f + a9) + p (f + a9 + 1) := rfl
    rw [e3, (sm_add s1 s2 (by omega)).2] at h1
    exact line_2 h hb hv hv1 s1 s2 h1
  · subst e
    have t : tk 3 = 2 := rfl
    have s1 := hp (f + a9 + N9 - 1) (by omega)
    have s2 := hp (f + a9 + N9 - 2) (by omega)
    have e3 : cn p (f + a9) N9 3 = p (f + a9 + N9 - 1) + p (f + a9 + N9 - 2) := rfl
    rw [e3, (sm_add s1 s2 (by omega)).2] at h1
    exact line_2 h hb hv hv1 s1 s2 h1
theorem evA_0 {K W : Nat → Int32} {i : Nat} (h : K i = 0) : evA K W i = -999 := if_pos h
theorem evA_n {K W : Nat → Int32} {i : Nat} (h : ¬ K i = 0) : evA K W i = W i := if_neg h
theorem enN_0 {K : Nat → Int32} {i : Nat} (h : K i = 0) : nI (enN K i) + 0 = nI (enN K (i + 1)) := by
  rw [show enN K (i + 1) = enN K i from if_pos h]
  exact Int32.add_zero _
theorem enN_n {K : Nat → Int32} {i : Nat} (h : ¬ K i = 0) : nI (enN K i) + 1 = nI (enN K (i + 1)) := by
  rw [show enN K (i + 1) = enN K i + 1 from if_neg h]
  exact nI_add _ 1
