/-! the search, from a level on -/
abbrev Stk : Type := (Nat → Nat) × (Nat → Nat) × (Nat → Nat) × (Nat → Int32) × (Nat → Int32) × (Nat → Int32) × (Nat → Int32)
abbrev rwS (G : u_G) (q : Nat) (ma : Nat → Nat) (sN L : Nat) (th sp iw mn : Int32) (sr of : Nat → Int32) (z : SS) (k : Stk) : va_W := [(q, .inr (8, [.ref (ma 0), .ref (ma 1), .int (nI sN), .ref (ma 2), .int (nI L), .int th, .ref (ma 3), .ref (ma 4), .ref (ma 5), .ref (ma 6), .int (nI z.1), .int z.2.1, .int z.2.2.1, .ref (ma 7), .ref (ma 8), .ref (ma 9), .ref (ma 10), .ref (ma 11), .ref (ma 12), .ref (ma 13), .ref (ma 14), .int sp, .int iw, .int mn])), (ma 0, .inl (G.1, 457, .inl sr)), (ma 4, .inl (G.1, 144, .inl z.2.2.2.1)), (ma 5, .inl (G.1, 144, .inl z.2.2.2.2.2)), (ma 6, .inl (G.1, 144, .inl z.2.2.2.2.1)), (ma 7, .inl (G.1, 4, .inl of)), (ma 8, .inl (G.1, 14, .inl (tN k.1))), (ma 9, .inl (G.1, 14, .inl (tN k.2.1))), (ma 10, .inl (G.1, 14, .inl k.2.2.2.1)), (ma 11, .inl (G.1, 14, .inl k.2.2.2.2.1)), (ma 12, .inl (G.1, 14, .inl k.2.2.2.2.2.1)), (ma 13, .inl (G.1, 14, .inl k.2.2.2.2.2.2)), (ma 14, .inl (G.1, 14, .inl (tN k.2.2.1)))]
def samB (lv : Nat) (k k' : Stk) : Prop := ∀ i, i < lv → k'.1 i = k.1 i ∧ k'.2.1 i = k.2.1 i ∧ k'.2.2.1 i = k.2.2.1 i ∧ k'.2.2.2.1 i = k.2.2.2.1 i ∧ k'.2.2.2.2.1 i = k.2.2.2.2.1 i ∧ k'.2.2.2.2.2.1 i = k.2.2.2.2.2.1 i ∧ k'.2.2.2.2.2.2 i = k.2.2.2.2.2.2 i
theorem samB_rf (lv : Nat) (k : Stk) : samB lv k k := fun _ _ => ⟨rfl, rfl, rfl, rfl, rfl, rfl, rfl⟩
theorem tm_to {rec : Nat → Nat → Int32 → Int32 → SS → SR} {p : Nat → Int32} {od : Nat → Nat} {f n : Nat} {a b : Int32} {k k2 : Nat} (v : Int32) (z : SS) (hk : k ≤ 4) (h : nOf od n (4 - k) k = k2) : tm rec p od f n a b (4 - k) k v z = tm rec p od f n a b (4 - k2) k2 v z := by
  have e := nOf_tm (rec := rec) (p := p) (od := od) (f := f) (n := n) (a := a) (b := b) (4 - k) k v z
  rw [h, show k + (4 - k) - k2 = 4 - k2 by omega] at e
  exact e
set_option maxHeartbeats 1600000 in
theorem simN {pr : Program} {l : Launch} {e : Env} {s9 : State} {m9 : MethodId} {args : Array Value} {below : List Frame} {meth : Method} {c9 : Code} {A : Nat → Prop} {D : va_G} {G : u_G} {QQ : State → Prop} (C : Cx pr m9 s9 args meth c9 cX8_searches 13 RX8 (some .int) A D G) {q : Nat} {ma : Nat → Nat} {sN L : Nat} {th sp iw mn : Int32} {sr p : Nat → Int32} {x : Nat → Nat} {y : Nat → Int32} {M : Nat} {of : Nat → Int32} {o dpt : Nat}
    (hR : RowR sr x y M p) (hM : M ≤ 12) (hdp : dpt ≤ 12) (hx19 : x 19 ≤ 5000) (hu : x 20 ≤ 1) (ho : o < 24) (hO : ∀ j, j < 4 → of j = nI (odf o j)) (hPR : PR p) :
    ∀ (d lv : Nat) (k : Stk) (z : SS) (f n : Nat) (a b : Int32), lv + d = dpt → TV z → z.1 ≤ x 19 → k.1 lv = f → k.2.1 lv = n → k.2.2.1 lv = 0 → k.2.2.2.1 lv = a → k.2.2.2.2.1 lv = b → k.2.2.2.2.2.1 lv = -999 → f + n ≤ M → sm a (241 + 40 * lv) → sm b (241 + 40 * lv) →
      (∀ k' : Stk, (srch p (odf o) (x 19) (x 20) d f n a b z).1 = true → GdW pr l e s9 m9 args below meth c9 A D QQ (rwS G q ma sN L th sp iw mn sr of (srch p (odf o) (x 19) (x 20) d f n a b z).2.2 k') 140 [(0, .ref q)]) →
      (∀ k' : Stk, samB lv k k' → ¬ (srch p (odf o) (x 19) (x 20) d f n a b z).1 = true → GdW pr l e s9 m9 args below meth c9 A D QQ (rwS G q ma sN L th sp iw mn sr of (srch p (odf o) (x 19) (x 20) d f n a b z).2.2 k') 115 [(0, .ref q), (1, .int (nI dpt)), (5, .int (nI lv + (-1))), (6, .int 0), (7, .int (srch p (odf o) (x 19) (x 20) d f n a b z).2.1)]) →
      GdW pr l e s9 m9 args below meth c9 A D QQ (rwS G q ma sN L th sp iw mn sr of (zN z) k) 115 [(0, .ref q), (1, .int (nI dpt)), (5, .int (nI lv)), (6, .int 1)] := by
  intro d
  induction d with
  | zero =>
    intro lv k z f n a b hd hz hzl hf hn ht ha hb hbe hfn hsa hsb hst hrt
    refine sgA C hR hM (by omega) hdp (show z.1 + 1 ≤ 10000 by omega) hx19 hu (by rw [hf, hn]; exact hfn) ho hO ?_ ?_ ?_ ?_
    · intro c
      have e := srch_stop (p := p) (od := odf o) (u := x 20) (d := 0) (f := f) (n := n) (a := a) (b := b) (z := z) c
      rw [e] at hst
      exact hst k rfl
    · intro c c2
      have e := srch_zero (p := p) (od := odf o) (u := x 20) (f := f) (n := n) (a := a) (b := b) (z := z) (Nat.not_lt.mpr c)
      rw [e] at hrt
      exact hrt k (samB_rf lv k) Bool.false_ne_true
    · intro c c2 c3; omega
    · intro c c2 c3; omega
  | succ d ih =>
    intro lv k z f n a b hd hz hzl hf hn ht ha hb hbe hfn hsa hsb hst hrt
    refine sgA C hR hM (by omega) hdp (show z.1 + 1 ≤ 10000 by omega) hx19 hu (by rw [hf, hn]; exact hfn) ho hO ?_ ?_ ?_ ?_
    · intro c
      have e := srch_stop (p := p) (od := odf o) (u := x 20) (d := d + 1) (f := f) (n := n) (a := a) (b := b) (z := z) c
      rw [e] at hst
      exact hst k rfl
    · intro c c2
      have hn0 : n = 0 := by
        rcases c2 with c2 | c2
        · exact hn.symm.trans c2
        · omega
      have e := srch_none (p := p) (od := odf o) (u := x 20) (d := d) (f := f) (n := n) (a := a) (b := b) (z := z) (Nat.not_lt.mpr c) hn0
      rw [e] at hrt
      exact hrt k (samB_rf lv k) Bool.false_ne_true
    · intro c c2 c3 hh
      rw [hf, hn, ha, hb, show dpt - lv = d + 1 by omega] at hh
      rw [hn] at c2
      have e := srch_hit (p := p) (od := odf o) (u := x 20) (d := d) (f := f) (n := n) (a := a) (b := b) (z := z) (Nat.not_lt.mpr c) c2 hh.1 hh.2
      rw [e] at hrt
      rw [hf, hn]
      exact hrt k (samB_rf lv k) Bool.false_ne_true
    · intro c c2 c3 hh
      rw [hf, hn, ha, hb, show dpt - lv = d + 1 by omega] at hh
      rw [hn] at c2
      have c' : ¬ x 19 < z.1 + 1 := Nat.not_lt.mpr c
      have h240 : 20 * (n : Int) < 900 := by omega
      have inner : ∀ (j kk : Nat) (k1 : Stk) (v : Int32) (z1 : SS), kk + j = 4 → 1 ≤ j → samB lv k k1 → k1.1 lv = f → k1.2.1 lv = n → k1.2.2.2.1 lv = a → k1.2.2.2.2.1 lv = b → k1.2.2.2.2.2.1 lv = enc v → k1.2.2.1 lv ≤ 4 → nOf (odf o) n (4 - k1.2.2.1 lv) (k1.2.2.1 lv) = kk → (v = -2147483648 ∨ sm v (20 * n)) → v < b → TV z1 → z1.1 ≤ x 19 →
          tmT p (odf o) (x 19) (x 20) d f n a b z = tm (srch p (odf o) (x 19) (x 20) d) p (odf o) f n a b (4 - kk) kk v z1 → GdW pr l e s9 m9 args below meth c9 A D QQ (rwS G q ma sN L th sp iw mn sr of z1 k1) 382 [(0, .ref q), (1, .int (nI dpt)), (5, .int (nI lv))] := by
        intro j
        induction j using Nat.strongRecOn with
        | _ j ihj =>
          intro kk k1 v z1 hkj hj1 hs1 h1 h2 h3 h4 h5 h6 h7 hv hvb hz1 hzl1 hT
          have hk4 : kk < 4 := by omega
          have hmn : tk (odf o kk) ≤ n := by
            have h9 := nOf_may (odf o) n (4 - k1.2.2.1 lv) (k1.2.2.1 lv) (by rw [h7]; omega)
            rw [h7] at h9
            exact h9
          have t1 := tk_pos (odf o kk)
          have t2 := bh_le f (odf o kk)
          have t3 := tk_le (odf o kk)
          have hcn := cn_sm hPR (odf_lt ho hk4) hmn (show f + n ≤ 12 by omega)
          refine sgC C (k := kk) (bd := mx a v) hR hM (by omega) hdp (show z1.1 ≤ 10000 by omega) hx19 hu (by rw [h1, h2]; exact hfn) ho hO h6 (by rw [h2]; exact h7) hk4 (by rw [h2]; exact hmn) (by omega) (by rw [h5, h3]; exact bd_1 hv h240) (by rw [h5, h3]; exact bd_2 hv h240) (by rw [h5, h3]; exact bd_3 hv h240) ?_
          rw [h1, h2, h4]
          refine ih (lv + 1) (va_up k1.1 (lv + 1) (bh f (odf o kk)), va_up k1.2.1 (lv + 1) (n - tk (odf o kk)), va_up (va_up k1.2.2.1 lv (kk + 1)) (lv + 1) 0, upd k1.2.2.2.1 (lv + 1) (cn p f n (odf o kk) - b), upd k1.2.2.2.2.1 (lv + 1) (cn p f n (odf o kk) - mx a v), upd k1.2.2.2.2.2.1 (lv + 1) (-999), upd k1.2.2.2.2.2.2 lv (cn p f n (odf o kk))) z1 (bh f (odf o kk)) (n - tk (odf o kk)) (cn p f n (odf o kk) - b) (cn p f n (odf o kk) - mx a v) (by omega) hz1 hzl1 (if_pos rfl) (if_pos rfl) (if_pos rfl) pk_us pk_us pk_us (by omega) (sm_mono (sm_sub hcn hsb (by omega)).1 (by omega)) (sm_mono (sm_sub hcn (bd_sm hsa hv (by omega)) (by omega)).1 (by omega)) ?_ ?_
          · intro k' hR1
            have e := tm_stop (f := f) (n := n) (a := a) (b := b) (v := v) (z := z1) hk4 hmn hR1
            have e2 := srch_stp c' c2 hh (hT.trans e)
            rw [e2] at hst
            exact hst k' rfl
          · intro k' hs' hR1
            have hRs := (srch_sm (lim := x 19) (u := x 20) hPR ho d (bh f (odf o kk)) (n - tk (odf o kk)) (cn p f n (odf o kk) - b) (cn p f n (odf o kk) - mx a v) z1 (by omega) hz1)
            have hnd := srch_nd p (odf o) (x 19) (x 20) d (bh f (odf o kk)) (n - tk (odf o kk)) (cn p f n (odf o kk) - b) (cn p f n (odf o kk) - mx a v) z1 hzl1 (Bool.eq_false_iff.mpr hR1)
            have hcut := tm_cut (rec := srch p (odf o) (x 19) (x 20) d) (p := p) (od := odf o) (f := f) (n := n) (a := a) (b := b) (v := v) (z := z1) hk4 hmn hR1
            have hgo := tm_go (rec := srch p (odf o) (x 19) (x 20) d) (p := p) (od := odf o) (f := f) (n := n) (a := a) (b := b) (v := v) (z := z1) hk4 hmn hR1
            rw [i_back]
            have hsr := hRs.2 (Bool.eq_false_iff.mpr hR1)
            have hzr := hRs.1
            generalize srch p (odf o) (x 19) (x 20) d (bh f (odf o kk)) (n - tk (odf o kk)) (cn p f n (odf o kk) - b) (cn p f n (odf o kk) - mx a v) z1 = R' at hnd hcut hgo hsr hzr hR1 ⊢
            have hr : sm (cn p f n (odf o kk) - R'.2.1) (20 * n) := sm_mono (sm_sub hcn hsr (by omega)).1 (by omega)
            have hv' : sm (mx v (cn p f n (odf o kk) - R'.2.1)) (20 * n) := by
              rcases hv with hv | hv
              · rw [hv, mx_min]; exact hr
              · exact mx_sm hv hr
            have hq := hs' lv (Nat.lt_succ_self lv)
            have g1 : k'.1 lv = f := hq.1.trans ((va_up_ne _ _ (by omega)).trans h1)
            have g2 : k'.2.1 lv = n := hq.2.1.trans ((va_up_ne _ _ (by omega)).trans h2)
            have g3 : k'.2.2.1 lv = kk + 1 := hq.2.2.1.trans ((va_up_ne _ _ (by omega)).trans (if_pos rfl))
            have g4 : k'.2.2.2.1 lv = a := hq.2.2.2.1.trans ((pk_un (by omega)).trans h3)
            have g5 : k'.2.2.2.2.1 lv = b := hq.2.2.2.2.1.trans ((pk_un (by omega)).trans h4)
            have g6 : k'.2.2.2.2.2.1 lv = enc v := hq.2.2.2.2.2.1.trans ((pk_un (by omega)).trans h5)
            have g7 : k'.2.2.2.2.2.2 lv = cn p f n (odf o kk) := hq.2.2.2.2.2.2.trans pk_us
            have hs3 : samB lv k (k'.1, k'.2.1, k'.2.2.1, k'.2.2.2.1, k'.2.2.2.2.1, upd k'.2.2.2.2.2.1 lv (mx v (cn p f n (odf o kk) - R'.2.1)), k'.2.2.2.2.2.2) := by
              intro i hi
              obtain ⟨a1, a2, a3, a4, a5, a6, a7⟩ := hs1 i hi
              obtain ⟨b1, b2, b3, b4, b5, b6, b7⟩ := hs' i (by omega)
              exact ⟨b1.trans ((va_up_ne _ _ (by omega)).trans a1), b2.trans ((va_up_ne _ _ (by omega)).trans a2), b3.trans ((va_up_ne _ _ (by omega)).trans ((va_up_ne _ _ (by omega)).trans a3)), b4.trans ((pk_un (by omega)).trans a4), b5.trans ((pk_un (by omega)).trans a5), (pk_un (by omega)).trans (b6.trans ((pk_un (by omega)).trans a6)), b7.trans ((pk_un (by omega)).trans a7)⟩
            refine sgB C (nb := mx v (cn p f n (odf o kk) - R'.2.1)) hR hM (by omega) hdp (show R'.2.2.1 ≤ 10000 by omega) hx19 hu (by rw [g1, g2]; exact hfn) ho hO hnd (by rw [g2]; omega) (by rw [g3]; omega) (by rw [g6, g7]; exact nb_1 hv h240) (by rw [g6, g7]; exact nb_2 hv h240) (by rw [g6, g7]; exact nb_3 hv h240) ?_ ?_ ?_
            · intro cc
              rw [g7, g5] at cc
              rw [pk_us, g1, g2, g4, g5, show dpt - lv = d + 1 by omega]
              have e2 := srch_fin c' c2 hh (hT.trans (hcut (mx_cut cc)))
              rw [e2] at hrt
              exact hrt _ hs3 Bool.false_ne_true
            · intro cc c4
              rw [g7, g5] at cc
              rw [g2, g3] at c4
              rw [pk_us, g1, g2, g4, g5, show dpt - lv = d + 1 by omega]
              have e2 := srch_fin c' c2 hh (hT.trans ((hgo (mx_go cc hvb)).trans (tm_to _ _ (by omega) c4)))
              rw [e2] at hrt
              exact hrt _ hs3 Bool.false_ne_true
            · intro cc c4
              rw [g7, g5] at cc
              rw [g2, g3] at c4
              have n1 := nOf_ge (odf o) n (4 - (kk + 1)) (kk + 1)
              refine ihj (4 - nOf (odf o) n (4 - (kk + 1)) (kk + 1)) (by omega) (nOf (odf o) n (4 - (kk + 1)) (kk + 1)) (k'.1, k'.2.1, k'.2.2.1, k'.2.2.2.1, k'.2.2.2.2.1, upd k'.2.2.2.2.2.1 lv (mx v (cn p f n (odf o kk) - R'.2.1)), k'.2.2.2.2.2.2) (mx v (cn p f n (odf o kk) - R'.2.1)) R'.2.2 (by omega) (by omega) hs3 g1 g2 g4 g5 (pk_us.trans (enc_sm hv' h240).symm) (by show k'.2.2.1 lv ≤ 4; rw [g3]; omega) (by show nOf (odf o) n (4 - k'.2.2.1 lv) (k'.2.2.1 lv) = _; rw [g3]) (Or.inr hv') (mx_go cc hvb) hzr hnd ?_
              exact hT.trans ((hgo (mx_go cc hvb)).trans (tm_to _ _ (by omega) rfl))
      have hf4 := nOf_first (o := o) (n := n) ho (by omega)
      exact inner (4 - nOf (odf o) n (4 - 0) 0) (nOf (odf o) n (4 - 0) 0) k (-2147483648) (zN z) (by omega) (by omega) (samB_rf lv k) hf hn ha hb (hbe.trans enc_min.symm) (by rw [ht]; omega) (by rw [ht]) (Or.inl rfl) (min_lt hsb (by omega)) hz c (tm_to (k := 0) _ _ (by omega) rfl)

