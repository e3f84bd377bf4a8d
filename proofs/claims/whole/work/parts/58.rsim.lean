/-! the pure side of the search: small results, the table's values -/
theorem TV_zN {z : SS} (h : TV z) : TV (zN z) := h
theorem TV_zK {z : SS} (h : TV z) {n f d : Nat} {a b v : Int32} (hn : 1 ≤ n) (hfn : f + n ≤ 12) (hv : sm v (20 * n)) : TV (zK (f * 12 + n - 1) d a b v z) := by
  intro n' f' h1 h2 h3
  show sm (upd z.2.2.2.2.1 (f * 12 + n - 1) v (f' * 12 + n' - 1)) (20 * n')
  by_cases e : f' * 12 + n' - 1 = f * 12 + n - 1
  · have e1 : f' = f := by omega
    have e2 : n' = n := by omega
    subst e1; subst e2
    rw [pk_us]; exact hv
  · rw [pk_un e]
    refine h n' f' h1 h2 ?_
    have h3' : ¬ upd z.2.2.2.1 (f * 12 + n - 1) (kn a b v) (f' * 12 + n' - 1) = 0 := h3
    rw [pk_un e] at h3'
    exact h3'
theorem tm_sm {rec : Nat → Nat → Int32 → Int32 → SS → SR} {p : Nat → Int32} {od : Nat → Nat} {f n : Nat} {a b : Int32} (hp : PR p) (hod : ∀ k, k < 4 → od k < 4) (hn : 1 ≤ n) (hfn : f + n ≤ 12) (hrec : ∀ f' n' a' b' z', f' + n' ≤ 12 → TV z' → TV (rec f' n' a' b' z').2.2 ∧ ((rec f' n' a' b' z').1 = false → sm (rec f' n' a' b' z').2.1 (20 * n'))) :
    ∀ j k v z, k + j = 4 → (v = -2147483648 ∨ sm v (20 * n)) → TV z → TV (tm rec p od f n a b j k v z).2.2 ∧ ((tm rec p od f n a b j k v z).1 = false → (sm v (20 * n) ∨ nOf od n j k < 4) → sm (tm rec p od f n a b j k v z).2.1 (20 * n))
  | 0, k, v, z, hk, hv, hz => ⟨hz, fun _ h => h.elim id (fun h => by have h' : k < 4 := h; omega)⟩
  | j + 1, k, v, z, hk, hv, hz => by
    by_cases c : tk (od k) ≤ n
    · have t1 := tk_pos (od k)
      have t2 := bh_le f (od k)
      obtain ⟨r1, r2⟩ := hrec (bh f (od k)) (n - tk (od k)) (cn p f n (od k) - b) (cn p f n (od k) - mx a v) z (by omega) hz
      unfold tm
      rw [if_pos c]
      by_cases c2 : (rec (bh f (od k)) (n - tk (od k)) (cn p f n (od k) - b) (cn p f n (od k) - mx a v) z).1 = true
      · rw [if_pos c2]
        exact ⟨r1, fun h => by cases h⟩
      · rw [if_neg c2]
        have hr : sm (cn p f n (od k) - (rec (bh f (od k)) (n - tk (od k)) (cn p f n (od k) - b) (cn p f n (od k) - mx a v) z).2.1) (20 * n) := by
          have h1 := cn_sm hp (hod k (by omega)) c hfn
          have h2 := r2 (Bool.eq_false_iff.mpr c2)
          exact sm_mono (sm_sub h1 h2 (by omega)).1 (by omega)
        have hv' : sm (mx v (cn p f n (od k) - (rec (bh f (od k)) (n - tk (od k)) (cn p f n (od k) - b) (cn p f n (od k) - mx a v) z).2.1)) (20 * n) := by
          rcases hv with rfl | hv
          · rw [mx_min]; exact hr
          · exact mx_sm hv hr
        split
        · obtain ⟨q1, q2⟩ := tm_sm hp hod hn hfn hrec j (k + 1) _ (rec (bh f (od k)) (n - tk (od k)) (cn p f n (od k) - b) (cn p f n (od k) - mx a v) z).2.2 (by omega) (Or.inr hv') r1
          exact ⟨q1, fun h _ => q2 h (Or.inl hv')⟩
        · exact ⟨r1, fun _ _ => hv'⟩
    · have e : nOf od n (j + 1) k = nOf od n j (k + 1) := if_neg c
      rw [e]
      unfold tm
      rw [if_neg c]
      exact tm_sm hp hod hn hfn hrec j (k + 1) v z (by omega) hv hz
theorem srch_sm {p : Nat → Int32} {o lim u : Nat} (hp : PR p) (ho : o < 24) : ∀ d f n a b z, f + n ≤ 12 → TV z → TV (srch p (odf o) lim u d f n a b z).2.2 ∧ ((srch p (odf o) lim u d f n a b z).1 = false → sm (srch p (odf o) lim u d f n a b z).2.1 (20 * n))
  | 0, f, n, a, b, z, hfn, hz => by
    by_cases c : lim < z.1 + 1
    · rw [srch_stop c]; exact ⟨hz, fun h => by cases h⟩
    · rw [srch_zero c]; exact ⟨hz, fun _ => ⟨by show -(20 * (n : Int)) ≤ 0; omega, by show (0 : Int) ≤ 20 * n; omega⟩⟩
  | d + 1, f, n, a, b, z, hfn, hz => by
    by_cases c : lim < z.1 + 1
    · rw [srch_stop c]; exact ⟨hz, fun h => by cases h⟩
    · by_cases hn : n = 0
      · rw [srch_none c hn]; exact ⟨hz, fun _ => ⟨by show -(20 * (n : Int)) ≤ 0; omega, by show (0 : Int) ≤ 20 * n; omega⟩⟩
      · by_cases hh : u = 0 ∧ hitP z.2.2.2.1 z.2.2.2.2.1 z.2.2.2.2.2 (f * 12 + n - 1) (d + 1) a b
        · rw [srch_hit c hn hh.1 hh.2]
          refine ⟨hz, fun _ => hz n f (by omega) hfn ?_⟩
          rcases hh.2.2 with h2 | h2 | h2
          · rw [h2]; exact n10
          · rw [h2.1]; exact n20
          · rw [h2.1]; exact n30
        · obtain ⟨q1, q2⟩ := tm_sm (rec := srch p (odf o) lim u d) (a := a) (b := b) hp (fun k hk => odf_lt ho hk) (show 1 ≤ n by omega) hfn (srch_sm hp ho d) 4 0 (-2147483648) (zN z) rfl (Or.inl rfl) hz
          by_cases hs : (tmT p (odf o) lim u d f n a b z).1 = true
          · rw [srch_same c hn hh (Or.inl hs)]
            exact ⟨q1, fun h => by rw [hs] at h; cases h⟩
          · have q3 := q2 (Bool.eq_false_iff.mpr hs) (Or.inr (nOf_first ho (by omega)))
            by_cases hu : u = 0
            · rw [srch_keep c hn hh hs hu]
              exact ⟨TV_zK q1 (by omega) hfn q3, fun _ => q3⟩
            · rw [srch_same c hn hh (Or.inr hu)]
              exact ⟨q1, fun _ => q3⟩
/-- what is kept at the end of a position -/
def zKu (u c d : Nat) (a b v : Int32) (z : SS) : SS := (z.1, z.2.1, z.2.2.1, kpF u z.2.2.2.1 c (kn a b v), kpF u z.2.2.2.2.1 c v, kpF u z.2.2.2.2.2 c (nI d))
theorem srch_fin {p : Nat → Int32} {od : Nat → Nat} {lim u d f n : Nat} {a b : Int32} {z : SS} (h : ¬ lim < z.1 + 1) (hn : ¬ n = 0) (hh : ¬ (u = 0 ∧ hitP z.2.2.2.1 z.2.2.2.2.1 z.2.2.2.2.2 (f * 12 + n - 1) (d + 1) a b)) {v : Int32} {z' : SS} (hs : tmT p od lim u d f n a b z = (false, v, z')) : srch p od lim u (d + 1) f n a b z = (false, v, zKu u (f * 12 + n - 1) (d + 1) a b v z') := by
  by_cases hu : u = 0
  · rw [srch_keep h hn hh (by rw [hs]; exact Bool.false_ne_true) hu, hs]
    show (false, v, zK _ _ a b v z') = _
    unfold zKu
    rw [kpF_y hu, kpF_y hu, kpF_y hu]
    rfl
  · rw [srch_same h hn hh (Or.inr hu), hs]
    unfold zKu
    rw [kpF_n hu, kpF_n hu, kpF_n hu]
theorem srch_stp {p : Nat → Int32} {od : Nat → Nat} {lim u d f n : Nat} {a b : Int32} {z : SS} (h : ¬ lim < z.1 + 1) (hn : ¬ n = 0) (hh : ¬ (u = 0 ∧ hitP z.2.2.2.1 z.2.2.2.2.1 z.2.2.2.2.2 (f * 12 + n - 1) (d + 1) a b)) {z' : SS} (hs : tmT p od lim u d f n a b z = (true, 0, z')) : srch p od lim u (d + 1) f n a b z = (true, 0, z') := by
  rw [srch_same h hn hh (Or.inl (by rw [hs])), hs]
/-! the best so far -/
theorem nb_1 {v r : Int32} {k : Int} (hv : v = -2147483648 ∨ sm v k) (hk : k < 900) (h : enc v = -999) : mx v r = r := by
  rcases hv with rfl | hv
  · exact mx_min
  · rw [enc_sm hv hk] at h; exact absurd h (sm_nmin hv hk).2
theorem nb_2 {v r : Int32} {k : Int} (hv : v = -2147483648 ∨ sm v k) (hk : k < 900) (h : ¬ enc v = -999) (h2 : enc v < r) : mx v r = r := by
  rcases hv with rfl | hv
  · exact mx_min
  · rw [enc_sm hv hk] at h2; exact if_pos h2
theorem nb_3 {v r : Int32} {k : Int} (hv : v = -2147483648 ∨ sm v k) (hk : k < 900) (h : ¬ enc v = -999) (h2 : ¬ enc v < r) : mx v r = enc v := by
  rcases hv with rfl | hv
  · exact absurd enc_min h
  · rw [enc_sm hv hk] at h2 ⊢; exact if_neg h2
theorem bd_1 {a v : Int32} {k : Int} (hv : v = -2147483648 ∨ sm v k) (hk : k < 900) (h : enc v = -999) : mx a v = a := by
  rcases hv with rfl | hv
  · exact mx_minr
  · rw [enc_sm hv hk] at h; exact absurd h (sm_nmin hv hk).2
theorem bd_2 {a v : Int32} {k : Int} (hv : v = -2147483648 ∨ sm v k) (hk : k < 900) (h : ¬ enc v = -999) (h2 : a < enc v) : mx a v = enc v := by
  rcases hv with rfl | hv
  · exact absurd enc_min h
  · rw [enc_sm hv hk] at h2 ⊢; exact if_pos h2
theorem bd_3 {a v : Int32} {k : Int} (hv : v = -2147483648 ∨ sm v k) (hk : k < 900) (h : ¬ enc v = -999) (h2 : ¬ a < enc v) : mx a v = a := by
  rcases hv with rfl | hv
  · exact absurd enc_min h
  · rw [enc_sm hv hk] at h2; exact if_neg h2
theorem mx_cut {v r b : Int32} (h : ¬ r < b) : ¬ mx v r < b := by
  unfold mx
  rw [Int32.lt_iff_toInt_lt] at h ⊢
  split
  · exact h
  · rename_i c
    rw [Int32.lt_iff_toInt_lt] at c
    omega
theorem mx_go {v r b : Int32} (h : r < b) (hv : v < b) : mx v r < b := by
  unfold mx; split
  · exact h
  · exact hv
theorem bd_sm {a v : Int32} {k k2 : Int} (ha : sm a k) (hv : v = -2147483648 ∨ sm v k2) (hk : k2 ≤ k) : sm (mx a v) k := by
  rcases hv with rfl | hv
  · rw [mx_minr]; exact ha
  · exact mx_sm ha (sm_mono hv hk)
theorem min_lt {b : Int32} {k : Int} (hb : sm b k) (hk : k < 2147483648) : (-2147483648 : Int32) < b := by
  rw [Int32.lt_iff_toInt_lt, imin]
  have := hb.1
  omega
theorem i_back (lv : Nat) : nI (lv + 1) + (-1) = nI lv := by
  have h := nI_sub_lit (a := lv + 1) (b := 1) (by omega)
  rw [show lv + 1 - 1 = lv by omega] at h
  exact h
