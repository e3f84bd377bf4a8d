theorem ys_X8_isHit : YS yX8_isHit cX8_isHit 4 (some .boolean) 2 := ⟨kw_21_18, kw_1_5, by decide, by decide, by decide⟩
theorem ys_X8_keeps : YS yX8_keeps cX8_keeps 4 none 2 := ⟨kw_22_5, kw_1_5, by decide, by decide, by decide⟩
theorem ys_X8_nextOf : YS yX8_nextOf cX8_nextOf 3 (some .int) 1 := ⟨kw_22_1, kw_1_5, by decide, by decide, by decide⟩
theorem ys_X8_enters : YS yX8_enters cX8_enters 6 none 5 := ⟨kw_21_14, kw_1_5, by decide, by decide, by decide⟩
theorem ys_X8_searches : YS yX8_searches cX8_searches 13 (some .int) 4 := ⟨kw_21_7, kw_1_5, by decide, by decide, by decide⟩
theorem ys_X8_search : YS yX8_search cX8_search 6 (some .int) 3 := ⟨kw_21_0, kw_1_5, by decide, by decide, by decide⟩
theorem ys_X8_nodesBy : YS yX8_nodesBy cX8_nodesBy 3 (some .int) 1 := ⟨kw_28_11, kw_1_5, by decide, by decide, by decide⟩
theorem ys_X8_nodesWith : YS yX8_nodesWith cX8_nodesWith 2 (some .int) 1 := ⟨kw_28_7, kw_1_5, by decide, by decide, by decide⟩
theorem ys_X8_bestOrder : YS yX8_bestOrder cX8_bestOrder 5 (some .int) 0 := ⟨kw_28_19, kw_1_5, by decide, by decide, by decide⟩
theorem ys_X8_digest : YS yX8_digest cX8_digest 4 (some .long) 0 := ⟨kw_32_10, kw_1_5, by decide, by decide, by decide⟩
theorem ys_X8_hitShare : YS yX8_hitShare cX8_hitShare 1 (some .double) 0 := ⟨kw_25_17, kw_1_5, by decide, by decide, by decide⟩
set_option maxHeartbeats 800000 in
set_option maxRecDepth 100000 in
theorem mX8_nextOf (l : Launch) (D : va_G) (G : u_G) (q : Nat) (ma : Nat → Nat) (sN L nN : Nat) (th ct ht sp iw mn : Int32) (of : Nat → Int32) (nF tF : Nat → Nat) (o lv : Nat) (hlv : lv < 14) (ho : o < 24) (hO : ∀ j, j < 4 → of j = nI (odf o j)) (hT : tF lv ≤ 4) (hN : nF lv ≤ 12) : MtI l D G yX8_nextOf cX8_nextOf 3 .int 2 0 0 [.ref q, .int (nI lv)] [(q, .inr (8, [.ref (ma 0), .ref (ma 1), .int (nI sN), .ref (ma 2), .int (nI L), .int th, .ref (ma 3), .ref (ma 4), .ref (ma 5), .ref (ma 6), .int (nI nN), .int ct, .int ht, .ref (ma 7), .ref (ma 8), .ref (ma 9), .ref (ma 10), .ref (ma 11), .ref (ma 12), .ref (ma 13), .ref (ma 14), .int sp, .int iw, .int mn])), (ma 7, .inl (G.1, 4, .inl of)), (ma 9, .inl (G.1, 14, .inl (tN nF))), (ma 14, .inl (G.1, 14, .inl (tN tF)))] (fun (r : Int32) (_ : Unit) => r = nI (nOf (odf o) (nF lv) (4 - tF lv) (tF lv))) (fun (_ : Unit) => [(q, .inr (8, [.ref (ma 0), .ref (ma 1), .int (nI sN), .ref (ma 2), .int (nI L), .int th, .ref (ma 3), .ref (ma 4), .ref (ma 5), .ref (ma 6), .int (nI nN), .int ct, .int ht, .ref (ma 7), .ref (ma 8), .ref (ma 9), .ref (ma 10), .ref (ma 11), .ref (ma 12), .ref (ma 13), .ref (ma 14), .int sp, .int iw, .int mn])), (ma 7, .inl (G.1, 4, .inl of)), (ma 9, .inl (G.1, 14, .inl (tN nF))), (ma 14, .inl (G.1, 14, .inl (tN tF)))]) := by
  refine MtI.of (by decide) (Nat.le_of_ble_eq_true rfl) ?_
  intro pr e s9 m9 below meth c9 A ls C hP hD hl
  obtain ⟨hx, hb, hml, hown, hts, hr, hlocks, hA, hAm⟩ := id C
  have hK := hAm.1
  have hS : va_S A s9.heap s9.heap [] := va_S.rf
  have hl : lv_has ls 3 [(0, .ref q), (1, .int (nI lv))] := hl
  refine lv_aload_n hx hb dX8_nextOf_0 rfl (lv_at hl 0 rfl) ?_
  refine va_get (D := D) (ci := 8) (v := .ref (ma 14)) (C := RX8) (T := TX8) (N := 24) hx hb hts inlX8 hown hK hP 0 rfl rfl 20 (by decide) (hts _ kw_5_20) (fun _ h9 => h9) rfl dX8_nextOf_1 ?_
  refine lv_iload_n hx hb dX8_nextOf_4 rfl (lv_at hl 1 rfl) ?_
  refine ro_iald (k := lv) (v := nI (tF lv)) hx hb hK hP 3 0 rfl rfl rfl (by omega) (by decide) rfl dX8_nextOf_5 ?_
  refine lv_istore_n (lv' := [(2, .int (nI (tF lv))), (0, .ref q), (1, .int (nI lv))]) hx hb dX8_nextOf_6 rfl hl (by decide) rfl (fun ls hl => ?_)
  have lp7 : ∀ (n7 : Nat) (k : Nat) (hk : k ≤ 4) (hinv : nOf (odf o) (nF lv) (4 - k) k = nOf (odf o) (nF lv) (4 - tF lv) (tF lv)) (_ : 4 - k < n7) (H : Heap) (locs : List Loc) (ls : Array Slot), va_P D vwCl [(q, .inr (8, [.ref (ma 0), .ref (ma 1), .int (nI sN), .ref (ma 2), .int (nI L), .int th, .ref (ma 3), .ref (ma 4), .ref (ma 5), .ref (ma 6), .int (nI nN), .int ct, .int ht, .ref (ma 7), .ref (ma 8), .ref (ma 9), .ref (ma 10), .ref (ma 11), .ref (ma 12), .ref (ma 13), .ref (ma 14), .int sp, .int iw, .int mn])), (ma 7, .inl (G.1, 4, .inl of)), (ma 9, .inl (G.1, 14, .inl (tN nF))), (ma 14, .inl (G.1, 14, .inl (tN tF)))] H → va_D A [(q, .inr (8, [.ref (ma 0), .ref (ma 1), .int (nI sN), .ref (ma 2), .int (nI L), .int th, .ref (ma 3), .ref (ma 4), .ref (ma 5), .ref (ma 6), .int (nI nN), .int ct, .int ht, .ref (ma 7), .ref (ma 8), .ref (ma 9), .ref (ma 10), .ref (ma 11), .ref (ma 12), .ref (ma 13), .ref (ma 14), .int sp, .int iw, .int mn])), (ma 7, .inl (G.1, 4, .inl of)), (ma 9, .inl (G.1, 14, .inl (tN nF))), (ma 14, .inl (G.1, 14, .inl (tN tF)))] → va_S A s9.heap H locs → lv_has ls 3 [(0, .ref q), (1, .int (nI lv)), (2, .int (nI k))] → W pr l e (rmG 2 0 0) s9 m9 (List.toArray [.ref q, .int (nI lv)]) below meth c9 H locs 0 0 (MQ below (va_Qi (fun (r : Int32) (_ : Unit) => r = nI (nOf (odf o) (nF lv) (4 - tF lv) (tF lv))) (fun u9 t9 => WB D ((fun (_ : Unit) => [(q, .inr (8, [.ref (ma 0), .ref (ma 1), .int (nI sN), .ref (ma 2), .int (nI L), .int th, .ref (ma 3), .ref (ma 4), .ref (ma 5), .ref (ma 6), .int (nI nN), .int ct, .int ht, .ref (ma 7), .ref (ma 8), .ref (ma 9), .ref (ma 10), .ref (ma 11), .ref (ma 12), .ref (ma 13), .ref (ma 14), .int sp, .int iw, .int mn])), (ma 7, .inl (G.1, 4, .inl of)), (ma 9, .inl (G.1, 14, .inl (tN nF))), (ma 14, .inl (G.1, 14, .inl (tN tF)))]) u9) t9) A) (List.toArray [.ref q, .int (nI lv)]) s9 0 0 A) (F0 m9 7 ls []) := by
    intro n7
    induction n7 with
    | zero => intro k hk hinv hm; exact absurd hm (Nat.not_lt_zero _)
    | succ n7 ih7 =>
      intro k hk hinv hm H locs ls hP hD hS hl
      have tk9 := tk_le (odf o k)
      refine lv_iload_n hx hb dX8_nextOf_7 rfl (lv_at hl 2 rfl) ?_
      refine lv_iconst (v := 4) hx hb dX8_nextOf_8 (by decide) ?_
      refine lv_icmp_ge (tgt := 36) hx hb dX8_nextOf_9 (by decide) (fun c_9 => ?_) (fun c_9 => ?_)
      · have c_9 := nle_t (a := 4) (b := k) (by omega) (by omega) c_9
        refine lv_iload_n hx hb dX8_nextOf_36 rfl (lv_at hl 2 rfl) ?_
        exact endI C rfl () (congrArg nI (by rw [← hinv]; rw [show k = 4 by omega]; exact (nOf_end rfl).symm)) hS hP dX8_nextOf_37
      · have c_9 := nle_f (a := 4) (b := k) (by omega) (by omega) c_9
        refine lv_aload_n hx hb dX8_nextOf_12 rfl (lv_at hl 0 rfl) ?_
        refine va_get (D := D) (ci := 8) (v := .ref (ma 7)) (C := RX8) (T := TX8) (N := 24) hx hb hts inlX8 hown hK hP 0 rfl rfl 13 (by decide) (hts _ kw_5_13) (fun _ h9 => h9) rfl dX8_nextOf_13 ?_
        refine lv_iload_n hx hb dX8_nextOf_16 rfl (lv_at hl 2 rfl) ?_
        refine ro_iald (k := k) (v := nI (odf o k)) hx hb hK hP 1 0 rfl rfl rfl (by omega) (by decide) (hO k (by omega)) dX8_nextOf_17 ?_
        refine aftI0 C (runS_G (As := [.int (nI (odf o k))]) (rest := []) C (mX8_takes l D G (odf o k) (odf_lt ho (by omega))) hS hP hD [] rfl (by decide) (ys_X8_takes) kw_12_16 kw_12_17 ⟨Nat.le_of_ble_eq_true rfl, Nat.le_of_ble_eq_true rfl⟩ hl.1 (Nat.le_of_ble_eq_true rfl) dX8_nextOf_18 rfl rfl ⟨Nat.zero_le _, Nat.zero_le _⟩) hS hP hD [] rfl (fun r18 _ H locs hp18 hP hS => ?_)
        refine ro_top (z := nI (tk (odf o k))) hx hp18 ?_
        refine lv_aload_n hx hb dX8_nextOf_21 rfl (lv_at hl 0 rfl) ?_
        refine va_get (D := D) (ci := 8) (v := .ref (ma 9)) (C := RX8) (T := TX8) (N := 24) hx hb hts inlX8 hown hK hP 0 rfl rfl 15 (by decide) (hts _ kw_5_15) (fun _ h9 => h9) rfl dX8_nextOf_22 ?_
        refine lv_iload_n hx hb dX8_nextOf_25 rfl (lv_at hl 1 rfl) ?_
        refine ro_iald (k := lv) (v := nI (nF lv)) hx hb hK hP 2 0 rfl rfl rfl (by omega) (by decide) rfl dX8_nextOf_26 ?_
        refine lv_icmp_le (tgt := 36) hx hb dX8_nextOf_27 (by decide) (fun c_27 => ?_) (fun c_27 => ?_)
        · have c_27 := nle_t (a := tk (odf o k)) (b := nF lv) (by omega) (by omega) c_27
          refine lv_iload_n hx hb dX8_nextOf_36 rfl (lv_at hl 2 rfl) ?_
          exact endI C rfl () (congrArg nI (by rw [← hinv]; exact (nOf_is (by omega) (by omega)).symm)) hS hP dX8_nextOf_37
        · have c_27 := nle_f (a := tk (odf o k)) (b := nF lv) (by omega) (by omega) c_27
          refine lv_iinc (v := nI (k + 1)) (lv' := [(2, .int (nI (k + 1))), (0, .ref q), (1, .int (nI lv))]) hx hb dX8_nextOf_30 hl (k := 2) rfl (nI_add k 1) (by decide) rfl (fun ls hl => ?_)
          refine lv_goto (tgt := 7) hx hb dX8_nextOf_33 (by decide) ?_
          exact ih7 (k + 1) (by omega) (by rw [← hinv]; exact (nOf_no (by omega) (by omega)).symm) (by omega) _ _ _ hP (hD.fst rfl) hS (lv_sub hl [1, 2, 0] rfl)
  exact lp7 (4 - (tF lv) + 1) (tF lv) hT rfl (Nat.lt_succ_self _) _ _ _ hP (hD.fst rfl) hS (lv_sub hl [1, 2, 0] rfl)
set_option maxHeartbeats 800000 in
set_option maxRecDepth 100000 in
theorem mX8_isHit (l : Launch) (D : va_G) (G : u_G) (q : Nat) (ma : Nat → Nat) (sN L nN : Nat) (th ct ht sp iw mn : Int32) (sr p : Nat → Int32) (x : Nat → Nat) (y : Nat → Int32) (M : Nat) (kd dp vl : Nat → Int32) (aF nF : Nat → Nat) (lo hi : Nat → Int32) (lv dd : Nat) (hR : RowR sr x y M p) (hM : M ≤ 12) (hlv : lv < 14) (hn1 : 1 ≤ nF lv) (hfn : aF lv + nF lv ≤ 12) (hu : x 20 ≤ 1) : MtI l D G yX8_isHit cX8_isHit 4 .boolean 2 0 0 [.ref q, .int (nI lv), .int (nI dd)] [(q, .inr (8, [.ref (ma 0), .ref (ma 1), .int (nI sN), .ref (ma 2), .int (nI L), .int th, .ref (ma 3), .ref (ma 4), .ref (ma 5), .ref (ma 6), .int (nI nN), .int ct, .int ht, .ref (ma 7), .ref (ma 8), .ref (ma 9), .ref (ma 10), .ref (ma 11), .ref (ma 12), .ref (ma 13), .ref (ma 14), .int sp, .int iw, .int mn])), (ma 0, .inl (G.1, 457, .inl sr)), (ma 4, .inl (G.1, 144, .inl kd)), (ma 5, .inl (G.1, 144, .inl dp)), (ma 6, .inl (G.1, 144, .inl vl)), (ma 8, .inl (G.1, 14, .inl (tN aF))), (ma 9, .inl (G.1, 14, .inl (tN nF))), (ma 10, .inl (G.1, 14, .inl lo)), (ma 11, .inl (G.1, 14, .inl hi))] (fun (r : Int32) (_ : Unit) => r = bI (x 20 = 0 ∧ hitP kd vl dp (aF lv * 12 + nF lv - 1) dd (lo lv) (hi lv))) (fun (_ : Unit) => [(q, .inr (8, [.ref (ma 0), .ref (ma 1), .int (nI sN), .ref (ma 2), .int (nI L), .int th, .ref (ma 3), .ref (ma 4), .ref (ma 5), .ref (ma 6), .int (nI nN), .int ct, .int ht, .ref (ma 7), .ref (ma 8), .ref (ma 9), .ref (ma 10), .ref (ma 11), .ref (ma 12), .ref (ma 13), .ref (ma 14), .int sp, .int iw, .int mn])), (ma 0, .inl (G.1, 457, .inl sr)), (ma 4, .inl (G.1, 144, .inl kd)), (ma 5, .inl (G.1, 144, .inl dp)), (ma 6, .inl (G.1, 144, .inl vl)), (ma 8, .inl (G.1, 14, .inl (tN aF))), (ma 9, .inl (G.1, 14, .inl (tN nF))), (ma 10, .inl (G.1, 14, .inl lo)), (ma 11, .inl (G.1, 14, .inl hi))]) := by
  refine MtI.of (by decide) (Nat.le_of_ble_eq_true rfl) ?_
  intro pr e s9 m9 below meth c9 A ls C hP hD hl
  obtain ⟨hx, hb, hml, hown, hts, hr, hlocks, hA, hAm⟩ := id C
  have hK := hAm.1
  have hS : va_S A s9.heap s9.heap [] := va_S.rf
  have hl : lv_has ls 4 [(0, .ref q), (1, .int (nI lv)), (2, .int (nI dd))] := hl
  refine lv_aload_n hx hb dX8_isHit_0 rfl (lv_at hl 0 rfl) ?_
  refine va_get (D := D) (ci := 8) (v := .ref (ma 8)) (C := RX8) (T := TX8) (N := 24) hx hb hts inlX8 hown hK hP 0 rfl rfl 14 (by decide) (hts _ kw_5_14) (fun _ h9 => h9) rfl dX8_isHit_1 ?_
  refine lv_iload_n hx hb dX8_isHit_4 rfl (lv_at hl 1 rfl) ?_
  refine ro_iald (k := lv) (v := nI (aF lv)) hx hb hK hP 5 0 rfl rfl rfl (by omega) (by decide) rfl dX8_isHit_5 ?_
  refine lv_aload_n hx hb dX8_isHit_6 rfl (lv_at hl 0 rfl) ?_
  refine va_get (D := D) (ci := 8) (v := .ref (ma 9)) (C := RX8) (T := TX8) (N := 24) hx hb hts inlX8 hown hK hP 0 rfl rfl 15 (by decide) (hts _ kw_5_15) (fun _ h9 => h9) rfl dX8_isHit_7 ?_
  refine lv_iload_n hx hb dX8_isHit_10 rfl (lv_at hl 1 rfl) ?_
  refine ro_iald (k := lv) (v := nI (nF lv)) hx hb hK hP 6 0 rfl rfl rfl (by omega) (by decide) rfl dX8_isHit_11 ?_
  refine aftI0 C (runS_G (As := [.int (nI (aF lv)), .int (nI (nF lv))]) (rest := []) C (mX8_entry l D G (aF lv) (nF lv) hn1) hS hP hD [] rfl (by decide) (ys_X8_entry) kw_21_19 kw_21_20 ⟨Nat.le_of_ble_eq_true rfl, Nat.le_of_ble_eq_true rfl⟩ hl.1 (Nat.le_of_ble_eq_true rfl) dX8_isHit_12 rfl rfl ⟨Nat.zero_le _, Nat.zero_le _⟩) hS hP hD [] rfl (fun r12 _ H locs hp12 hP hS => ?_)
  refine ro_top (z := nI ((aF lv) * 12 + (nF lv) - 1)) hx hp12 ?_
  refine lv_istore_n (lv' := [(3, .int (nI ((aF lv) * 12 + (nF lv) - 1))), (0, .ref q), (1, .int (nI lv)), (2, .int (nI dd))]) hx hb dX8_isHit_15 rfl hl (by decide) rfl (fun ls hl => ?_)
  refine lv_aload_n hx hb dX8_isHit_16 rfl (lv_at hl 1 rfl) ?_
  refine va_get (D := D) (ci := 8) (v := .ref (ma 0)) (C := RX8) (T := TX8) (N := 24) hx hb hts inlX8 hown hK hP 0 rfl rfl 0 (by decide) (hts _ kw_5_6) (fun _ h9 => h9) rfl dX8_isHit_17 ?_
  refine lv_bipush (v := 20) hx hb dX8_isHit_20 (by decide) ?_
  refine ro_iald (k := 20) (v := nI (x 20)) hx hb hK hP 1 0 rfl rfl rfl (by decide) (by decide) hR.n20 dX8_isHit_22 ?_
  refine lv_iconst (v := 1) hx hb dX8_isHit_23 (by decide) ?_
  refine lv_icmp_eq (tgt := 46) hx hb dX8_isHit_24 (by decide) (fun c_24 => ?_) (fun c_24 => ?_)
  · have c_24 := neq_t (a := x 20) (b := 1) (by omega) (by omega) c_24
    refine lv_iconst (v := 0) hx hb dX8_isHit_46 (by decide) ?_
    exact endI C rfl () (bI_f (fun h9 => by have h8 := h9.1; omega)).symm hS hP dX8_isHit_47
  · have c_24 := neq_f (a := x 20) (b := 1) (by omega) (by omega) c_24
    refine lv_aload_n hx hb dX8_isHit_27 rfl (lv_at hl 1 rfl) ?_
    refine va_get (D := D) (ci := 8) (v := .ref (ma 4)) (C := RX8) (T := TX8) (N := 24) hx hb hts inlX8 hown hK hP 0 rfl rfl 7 (by decide) (hts _ kw_5_10) (fun _ h9 => h9) rfl dX8_isHit_28 ?_
    refine lv_iload_n hx hb dX8_isHit_31 rfl (lv_at hl 0 rfl) ?_
    refine ro_iald (k := (aF lv) * 12 + (nF lv) - 1) (v := kd ((aF lv) * 12 + (nF lv) - 1)) hx hb hK hP 2 0 rfl rfl rfl (by omega) (by decide) rfl dX8_isHit_32 ?_
    refine lv_if_eq (tgt := 46) hx hb dX8_isHit_33 (by decide) (fun c_33 => ?_) (fun c_33 => ?_)
    · refine lv_iconst (v := 0) hx hb dX8_isHit_46 (by decide) ?_
      exact endI C rfl () (bI_f (fun h9 => by rcases h9.2.2 with h3 | ⟨h3, h4⟩ | ⟨h3, h4⟩ <;> exact absurd (c_33.symm.trans h3) (by decide))).symm hS hP dX8_isHit_47
    · refine lv_aload_n hx hb dX8_isHit_36 rfl (lv_at hl 1 rfl) ?_
      refine va_get (D := D) (ci := 8) (v := .ref (ma 5)) (C := RX8) (T := TX8) (N := 24) hx hb hts inlX8 hown hK hP 0 rfl rfl 8 (by decide) (hts _ kw_5_11) (fun _ h9 => h9) rfl dX8_isHit_37 ?_
      refine lv_iload_n hx hb dX8_isHit_40 rfl (lv_at hl 0 rfl) ?_
      refine ro_iald (k := (aF lv) * 12 + (nF lv) - 1) (v := dp ((aF lv) * 12 + (nF lv) - 1)) hx hb hK hP 3 0 rfl rfl rfl (by omega) (by decide) rfl dX8_isHit_41 ?_
      refine lv_iload_n hx hb dX8_isHit_42 rfl (lv_at hl 3 rfl) ?_
      refine lv_icmp_eq (tgt := 48) hx hb dX8_isHit_43 (by decide) (fun c_43 => ?_) (fun c_43 => ?_)
      · refine lv_aload_n hx hb dX8_isHit_48 rfl (lv_at hl 1 rfl) ?_
        refine va_get (D := D) (ci := 8) (v := .ref (ma 4)) (C := RX8) (T := TX8) (N := 24) hx hb hts inlX8 hown hK hP 0 rfl rfl 7 (by decide) (hts _ kw_5_10) (fun _ h9 => h9) rfl dX8_isHit_49 ?_
        refine lv_iload_n hx hb dX8_isHit_52 rfl (lv_at hl 0 rfl) ?_
        refine ro_iald (k := (aF lv) * 12 + (nF lv) - 1) (v := kd ((aF lv) * 12 + (nF lv) - 1)) hx hb hK hP 2 0 rfl rfl rfl (by omega) (by decide) rfl dX8_isHit_53 ?_
        refine lv_iconst (v := 1) hx hb dX8_isHit_54 (by decide) ?_
        refine lv_icmp_eq (tgt := 108) hx hb dX8_isHit_55 (by decide) (fun c_55 => ?_) (fun c_55 => ?_)
        · refine lv_iconst (v := 1) hx hb dX8_isHit_108 (by decide) ?_
          refine lv_goto (tgt := 113) hx hb dX8_isHit_109 (by decide) ?_
          exact endI C rfl () (bI_t ⟨by omega, c_43, Or.inl c_55⟩).symm hS hP dX8_isHit_113
        · refine lv_aload_n hx hb dX8_isHit_58 rfl (lv_at hl 1 rfl) ?_
          refine va_get (D := D) (ci := 8) (v := .ref (ma 4)) (C := RX8) (T := TX8) (N := 24) hx hb hts inlX8 hown hK hP 0 rfl rfl 7 (by decide) (hts _ kw_5_10) (fun _ h9 => h9) rfl dX8_isHit_59 ?_
          refine lv_iload_n hx hb dX8_isHit_62 rfl (lv_at hl 0 rfl) ?_
          refine ro_iald (k := (aF lv) * 12 + (nF lv) - 1) (v := kd ((aF lv) * 12 + (nF lv) - 1)) hx hb hK hP 2 0 rfl rfl rfl (by omega) (by decide) rfl dX8_isHit_63 ?_
          refine lv_iconst (v := 2) hx hb dX8_isHit_64 (by decide) ?_
          refine lv_icmp_ne (tgt := 83) hx hb dX8_isHit_65 (by decide) (fun c_65 => ?_) (fun c_65 => ?_)
          · refine lv_aload_n hx hb dX8_isHit_83 rfl (lv_at hl 1 rfl) ?_
            refine va_get (D := D) (ci := 8) (v := .ref (ma 4)) (C := RX8) (T := TX8) (N := 24) hx hb hts inlX8 hown hK hP 0 rfl rfl 7 (by decide) (hts _ kw_5_10) (fun _ h9 => h9) rfl dX8_isHit_84 ?_
            refine lv_iload_n hx hb dX8_isHit_87 rfl (lv_at hl 0 rfl) ?_
            refine ro_iald (k := (aF lv) * 12 + (nF lv) - 1) (v := kd ((aF lv) * 12 + (nF lv) - 1)) hx hb hK hP 2 0 rfl rfl rfl (by omega) (by decide) rfl dX8_isHit_88 ?_
            refine lv_iconst (v := 3) hx hb dX8_isHit_89 (by decide) ?_
            refine lv_icmp_ne (tgt := 112) hx hb dX8_isHit_90 (by decide) (fun c_90 => ?_) (fun c_90 => ?_)
            · refine lv_iconst (v := 0) hx hb dX8_isHit_112 (by decide) ?_
              exact endI C rfl () (bI_f (fun h9 => by rcases h9.2.2 with h3 | ⟨h3, h4⟩ | ⟨h3, h4⟩; exact absurd h3 c_55; exact absurd h3 c_65; exact absurd h3 c_90)).symm hS hP dX8_isHit_113
            · refine lv_aload_n hx hb dX8_isHit_93 rfl (lv_at hl 1 rfl) ?_
              refine va_get (D := D) (ci := 8) (v := .ref (ma 6)) (C := RX8) (T := TX8) (N := 24) hx hb hts inlX8 hown hK hP 0 rfl rfl 9 (by decide) (hts _ kw_5_12) (fun _ h9 => h9) rfl dX8_isHit_94 ?_
              refine lv_iload_n hx hb dX8_isHit_97 rfl (lv_at hl 0 rfl) ?_
              refine ro_iald (k := (aF lv) * 12 + (nF lv) - 1) (v := vl ((aF lv) * 12 + (nF lv) - 1)) hx hb hK hP 4 0 rfl rfl rfl (by omega) (by decide) rfl dX8_isHit_98 ?_
              refine lv_aload_n hx hb dX8_isHit_99 rfl (lv_at hl 1 rfl) ?_
              refine va_get (D := D) (ci := 8) (v := .ref (ma 10)) (C := RX8) (T := TX8) (N := 24) hx hb hts inlX8 hown hK hP 0 rfl rfl 16 (by decide) (hts _ kw_5_16) (fun _ h9 => h9) rfl dX8_isHit_100 ?_
              refine lv_iload_n hx hb dX8_isHit_103 rfl (lv_at hl 2 rfl) ?_
              refine ro_iald (k := lv) (v := lo lv) hx hb hK hP 7 0 rfl rfl rfl (by omega) (by decide) rfl dX8_isHit_104 ?_
              refine lv_icmp_gt (tgt := 112) hx hb dX8_isHit_105 (by decide) (fun c_105 => ?_) (fun c_105 => ?_)
              · refine lv_iconst (v := 0) hx hb dX8_isHit_112 (by decide) ?_
                exact endI C rfl () (bI_f (fun h9 => by rcases h9.2.2 with h3 | ⟨h3, h4⟩ | ⟨h3, h4⟩; exact absurd h3 c_55; exact absurd h3 c_65; exact absurd c_105 h4)).symm hS hP dX8_isHit_113
              · refine lv_iconst (v := 1) hx hb dX8_isHit_108 (by decide) ?_
                refine lv_goto (tgt := 113) hx hb dX8_isHit_109 (by decide) ?_
                exact endI C rfl () (bI_t ⟨by omega, c_43, Or.inr (Or.inr ⟨c_90, c_105⟩)⟩).symm hS hP dX8_isHit_113
          · refine lv_aload_n hx hb dX8_isHit_68 rfl (lv_at hl 1 rfl) ?_
            refine va_get (D := D) (ci := 8) (v := .ref (ma 6)) (C := RX8) (T := TX8) (N := 24) hx hb hts inlX8 hown hK hP 0 rfl rfl 9 (by decide) (hts _ kw_5_12) (fun _ h9 => h9) rfl dX8_isHit_69 ?_
            refine lv_iload_n hx hb dX8_isHit_72 rfl (lv_at hl 0 rfl) ?_
            refine ro_iald (k := (aF lv) * 12 + (nF lv) - 1) (v := vl ((aF lv) * 12 + (nF lv) - 1)) hx hb hK hP 4 0 rfl rfl rfl (by omega) (by decide) rfl dX8_isHit_73 ?_
            refine lv_aload_n hx hb dX8_isHit_74 rfl (lv_at hl 1 rfl) ?_
            refine va_get (D := D) (ci := 8) (v := .ref (ma 11)) (C := RX8) (T := TX8) (N := 24) hx hb hts inlX8 hown hK hP 0 rfl rfl 17 (by decide) (hts _ kw_5_17) (fun _ h9 => h9) rfl dX8_isHit_75 ?_
            refine lv_iload_n hx hb dX8_isHit_78 rfl (lv_at hl 2 rfl) ?_
            refine ro_iald (k := lv) (v := hi lv) hx hb hK hP 8 0 rfl rfl rfl (by omega) (by decide) rfl dX8_isHit_79 ?_
            refine lv_icmp_ge (tgt := 108) hx hb dX8_isHit_80 (by decide) (fun c_80 => ?_) (fun c_80 => ?_)
            · refine lv_iconst (v := 1) hx hb dX8_isHit_108 (by decide) ?_
              refine lv_goto (tgt := 113) hx hb dX8_isHit_109 (by decide) ?_
              exact endI C rfl () (bI_t ⟨by omega, c_43, Or.inr (Or.inl ⟨c_65, Int32.not_lt.mpr c_80⟩)⟩).symm hS hP dX8_isHit_113
            · refine lv_aload_n hx hb dX8_isHit_83 rfl (lv_at hl 1 rfl) ?_
              refine va_get (D := D) (ci := 8) (v := .ref (ma 4)) (C := RX8) (T := TX8) (N := 24) hx hb hts inlX8 hown hK hP 0 rfl rfl 7 (by decide) (hts _ kw_5_10) (fun _ h9 => h9) rfl dX8_isHit_84 ?_
              refine lv_iload_n hx hb dX8_isHit_87 rfl (lv_at hl 0 rfl) ?_
              refine ro_iald (k := (aF lv) * 12 + (nF lv) - 1) (v := kd ((aF lv) * 12 + (nF lv) - 1)) hx hb hK hP 2 0 rfl rfl rfl (by omega) (by decide) rfl dX8_isHit_88 ?_
              refine lv_iconst (v := 3) hx hb dX8_isHit_89 (by decide) ?_
              refine lv_icmp_ne (tgt := 112) hx hb dX8_isHit_90 (by decide) (fun c_90 => ?_) (fun c_90 => ?_)
              · refine lv_iconst (v := 0) hx hb dX8_isHit_112 (by decide) ?_
                exact endI C rfl () (bI_f (fun h9 => by rcases h9.2.2 with h3 | ⟨h3, h4⟩ | ⟨h3, h4⟩; exact absurd h3 c_55; exact absurd (Int32.not_lt.mp h4) c_80; exact absurd h3 c_90)).symm hS hP dX8_isHit_113
              · refine lv_aload_n hx hb dX8_isHit_93 rfl (lv_at hl 1 rfl) ?_
                refine va_get (D := D) (ci := 8) (v := .ref (ma 6)) (C := RX8) (T := TX8) (N := 24) hx hb hts inlX8 hown hK hP 0 rfl rfl 9 (by decide) (hts _ kw_5_12) (fun _ h9 => h9) rfl dX8_isHit_94 ?_
                refine lv_iload_n hx hb dX8_isHit_97 rfl (lv_at hl 0 rfl) ?_
                refine ro_iald (k := (aF lv) * 12 + (nF lv) - 1) (v := vl ((aF lv) * 12 + (nF lv) - 1)) hx hb hK hP 4 0 rfl rfl rfl (by omega) (by decide) rfl dX8_isHit_98 ?_
                refine lv_aload_n hx hb dX8_isHit_99 rfl (lv_at hl 1 rfl) ?_
                refine va_get (D := D) (ci := 8) (v := .ref (ma 10)) (C := RX8) (T := TX8) (N := 24) hx hb hts inlX8 hown hK hP 0 rfl rfl 16 (by decide) (hts _ kw_5_16) (fun _ h9 => h9) rfl dX8_isHit_100 ?_
                refine lv_iload_n hx hb dX8_isHit_103 rfl (lv_at hl 2 rfl) ?_
                refine ro_iald (k := lv) (v := lo lv) hx hb hK hP 7 0 rfl rfl rfl (by omega) (by decide) rfl dX8_isHit_104 ?_
                refine lv_icmp_gt (tgt := 112) hx hb dX8_isHit_105 (by decide) (fun c_105 => ?_) (fun c_105 => ?_)
                · refine lv_iconst (v := 0) hx hb dX8_isHit_112 (by decide) ?_
                  exact endI C rfl () (bI_f (fun h9 => by rcases h9.2.2 with h3 | ⟨h3, h4⟩ | ⟨h3, h4⟩; exact absurd h3 c_55; exact absurd (Int32.not_lt.mp h4) c_80; exact absurd c_105 h4)).symm hS hP dX8_isHit_113
                · refine lv_iconst (v := 1) hx hb dX8_isHit_108 (by decide) ?_
                  refine lv_goto (tgt := 113) hx hb dX8_isHit_109 (by decide) ?_
                  exact endI C rfl () (bI_t ⟨by omega, c_43, Or.inr (Or.inr ⟨c_90, c_105⟩)⟩).symm hS hP dX8_isHit_113
      · refine lv_iconst (v := 0) hx hb dX8_isHit_46 (by decide) ?_
        exact endI C rfl () (bI_f (fun h9 => c_43 h9.2.1)).symm hS hP dX8_isHit_47
set_option maxHeartbeats 800000 in
set_option maxRecDepth 100000 in
theorem mX8_keeps (l : Launch) (D : va_G) (G : u_G) (q : Nat) (ma : Nat → Nat) (sN L nN : Nat) (th ct ht sp iw mn : Int32) (sr p : Nat → Int32) (x : Nat → Nat) (y : Nat → Int32) (M : Nat) (kd dp vl : Nat → Int32) (aF nF : Nat → Nat) (lo hi be : Nat → Int32) (lv dd : Nat) (hR : RowR sr x y M p) (hM : M ≤ 12) (hlv : lv < 14) (hn1 : 1 ≤ nF lv) (hfn : aF lv + nF lv ≤ 12) (hu : x 20 ≤ 1) : MtV l D G yX8_keeps cX8_keeps 4 2 0 0 [.ref q, .int (nI lv), .int (nI dd)] [(q, .inr (8, [.ref (ma 0), .ref (ma 1), .int (nI sN), .ref (ma 2), .int (nI L), .int th, .ref (ma 3), .ref (ma 4), .ref (ma 5), .ref (ma 6), .int (nI nN), .int ct, .int ht, .ref (ma 7), .ref (ma 8), .ref (ma 9), .ref (ma 10), .ref (ma 11), .ref (ma 12), .ref (ma 13), .ref (ma 14), .int sp, .int iw, .int mn])), (ma 0, .inl (G.1, 457, .inl sr)), (ma 4, .inl (G.1, 144, .inl kd)), (ma 5, .inl (G.1, 144, .inl dp)), (ma 6, .inl (G.1, 144, .inl vl)), (ma 8, .inl (G.1, 14, .inl (tN aF))), (ma 9, .inl (G.1, 14, .inl (tN nF))), (ma 10, .inl (G.1, 14, .inl lo)), (ma 11, .inl (G.1, 14, .inl hi)), (ma 12, .inl (G.1, 14, .inl be))] (fun (_ : Unit) => True) (fun (_ : Unit) => [(q, .inr (8, [.ref (ma 0), .ref (ma 1), .int (nI sN), .ref (ma 2), .int (nI L), .int th, .ref (ma 3), .ref (ma 4), .ref (ma 5), .ref (ma 6), .int (nI nN), .int ct, .int ht, .ref (ma 7), .ref (ma 8), .ref (ma 9), .ref (ma 10), .ref (ma 11), .ref (ma 12), .ref (ma 13), .ref (ma 14), .int sp, .int iw, .int mn])), (ma 0, .inl (G.1, 457, .inl sr)), (ma 4, .inl (G.1, 144, .inl (kpF (x 20) kd (aF lv * 12 + nF lv - 1) (kn (lo lv) (hi lv) (be lv))))), (ma 5, .inl (G.1, 144, .inl (kpF (x 20) dp (aF lv * 12 + nF lv - 1) (nI dd)))), (ma 6, .inl (G.1, 144, .inl (kpF (x 20) vl (aF lv * 12 + nF lv - 1) (be lv)))), (ma 8, .inl (G.1, 14, .inl (tN aF))), (ma 9, .inl (G.1, 14, .inl (tN nF))), (ma 10, .inl (G.1, 14, .inl lo)), (ma 11, .inl (G.1, 14, .inl hi)), (ma 12, .inl (G.1, 14, .inl be))]) := by
  refine MtV.of (by decide) (Nat.le_of_ble_eq_true rfl) ?_
  intro pr e s9 m9 below meth c9 A ls C hP hD hl hin
  obtain ⟨hx, hb, hml, hown, hts, hr, hlocks, hA, hAm⟩ := id C
  have hK := hAm.1
  have hS : va_S A s9.heap s9.heap [] := va_S.rf
  have hl : lv_has ls 4 [(0, .ref q), (1, .int (nI lv)), (2, .int (nI dd))] := hl
  refine lv_aload_n hx hb dX8_keeps_0 rfl (lv_at hl 0 rfl) ?_
  refine va_get (D := D) (ci := 8) (v := .ref (ma 0)) (C := RX8) (T := TX8) (N := 24) hx hb hts inlX8 hown hK hP 0 rfl rfl 0 (by decide) (hts _ kw_5_6) (fun _ h9 => h9) rfl dX8_keeps_1 ?_
  refine lv_bipush (v := 20) hx hb dX8_keeps_4 (by decide) ?_
  refine ro_iald (k := 20) (v := nI (x 20)) hx hb hK hP 1 0 rfl rfl rfl (by decide) (by decide) hR.n20 dX8_keeps_6 ?_
  refine lv_iconst (v := 1) hx hb dX8_keeps_7 (by decide) ?_
  refine lv_icmp_ne (tgt := 12) hx hb dX8_keeps_8 (by decide) (fun c_8 => ?_) (fun c_8 => ?_)
  · have c_8 := neq_f (a := x 20) (b := 1) (by omega) (by omega) c_8
    refine lv_aload_n hx hb dX8_keeps_12 rfl (lv_at hl 0 rfl) ?_
    refine va_get (D := D) (ci := 8) (v := .ref (ma 8)) (C := RX8) (T := TX8) (N := 24) hx hb hts inlX8 hown hK hP 0 rfl rfl 14 (by decide) (hts _ kw_5_14) (fun _ h9 => h9) rfl dX8_keeps_13 ?_
    refine lv_iload_n hx hb dX8_keeps_16 rfl (lv_at hl 1 rfl) ?_
    refine ro_iald (k := lv) (v := nI (aF lv)) hx hb hK hP 5 0 rfl rfl rfl (by omega) (by decide) rfl dX8_keeps_17 ?_
    refine lv_aload_n hx hb dX8_keeps_18 rfl (lv_at hl 0 rfl) ?_
    refine va_get (D := D) (ci := 8) (v := .ref (ma 9)) (C := RX8) (T := TX8) (N := 24) hx hb hts inlX8 hown hK hP 0 rfl rfl 15 (by decide) (hts _ kw_5_15) (fun _ h9 => h9) rfl dX8_keeps_19 ?_
    refine lv_iload_n hx hb dX8_keeps_22 rfl (lv_at hl 1 rfl) ?_
    refine ro_iald (k := lv) (v := nI (nF lv)) hx hb hK hP 6 0 rfl rfl rfl (by omega) (by decide) rfl dX8_keeps_23 ?_
    refine aftI0 C (runS_G (As := [.int (nI (aF lv)), .int (nI (nF lv))]) (rest := []) C (mX8_entry l D G (aF lv) (nF lv) hn1) hS hP hD [] rfl (by decide) (ys_X8_entry) kw_21_19 kw_21_20 ⟨Nat.le_of_ble_eq_true rfl, Nat.le_of_ble_eq_true rfl⟩ hl.1 (Nat.le_of_ble_eq_true rfl) dX8_keeps_24 rfl rfl ⟨Nat.zero_le _, Nat.zero_le _⟩) hS hP hD [] rfl (fun r24 _ H locs hp24 hP hS => ?_)
    refine ro_top (z := nI ((aF lv) * 12 + (nF lv) - 1)) hx hp24 ?_
    refine lv_istore_n (lv' := [(3, .int (nI ((aF lv) * 12 + (nF lv) - 1))), (0, .ref q), (1, .int (nI lv)), (2, .int (nI dd))]) hx hb dX8_keeps_27 rfl hl (by decide) rfl (fun ls hl => ?_)
    refine lv_aload_n hx hb dX8_keeps_28 rfl (lv_at hl 1 rfl) ?_
    refine va_get (D := D) (ci := 8) (v := .ref (ma 4)) (C := RX8) (T := TX8) (N := 24) hx hb hts inlX8 hown hK hP 0 rfl rfl 7 (by decide) (hts _ kw_5_10) (fun _ h9 => h9) rfl dX8_keeps_29 ?_
    refine lv_iload_n hx hb dX8_keeps_32 rfl (lv_at hl 0 rfl) ?_
    refine lv_aload_n hx hb dX8_keeps_33 rfl (lv_at hl 1 rfl) ?_
    refine va_get (D := D) (ci := 8) (v := .ref (ma 12)) (C := RX8) (T := TX8) (N := 24) hx hb hts inlX8 hown hK hP 0 rfl rfl 18 (by decide) (hts _ kw_5_18) (fun _ h9 => h9) rfl dX8_keeps_34 ?_
    refine lv_iload_n hx hb dX8_keeps_37 rfl (lv_at hl 2 rfl) ?_
    refine ro_iald (k := lv) (v := be lv) hx hb hK hP 9 0 rfl rfl rfl (by omega) (by decide) rfl dX8_keeps_38 ?_
    refine lv_aload_n hx hb dX8_keeps_39 rfl (lv_at hl 1 rfl) ?_
    refine va_get (D := D) (ci := 8) (v := .ref (ma 11)) (C := RX8) (T := TX8) (N := 24) hx hb hts inlX8 hown hK hP 0 rfl rfl 17 (by decide) (hts _ kw_5_17) (fun _ h9 => h9) rfl dX8_keeps_40 ?_
    refine lv_iload_n hx hb dX8_keeps_43 rfl (lv_at hl 2 rfl) ?_
    refine ro_iald (k := lv) (v := hi lv) hx hb hK hP 8 0 rfl rfl rfl (by omega) (by decide) rfl dX8_keeps_44 ?_
    refine lv_icmp_lt (tgt := 52) hx hb dX8_keeps_45 (by decide) (fun c_45 => ?_) (fun c_45 => ?_)
    · refine lv_aload_n hx hb dX8_keeps_52 rfl (lv_at hl 1 rfl) ?_
      refine va_get (D := D) (ci := 8) (v := .ref (ma 12)) (C := RX8) (T := TX8) (N := 24) hx hb hts inlX8 hown hK hP 0 rfl rfl 18 (by decide) (hts _ kw_5_18) (fun _ h9 => h9) rfl dX8_keeps_53 ?_
      refine lv_iload_n hx hb dX8_keeps_56 rfl (lv_at hl 2 rfl) ?_
      refine ro_iald (k := lv) (v := be lv) hx hb hK hP 9 0 rfl rfl rfl (by omega) (by decide) rfl dX8_keeps_57 ?_
      refine lv_aload_n hx hb dX8_keeps_58 rfl (lv_at hl 1 rfl) ?_
      refine va_get (D := D) (ci := 8) (v := .ref (ma 10)) (C := RX8) (T := TX8) (N := 24) hx hb hts inlX8 hown hK hP 0 rfl rfl 16 (by decide) (hts _ kw_5_16) (fun _ h9 => h9) rfl dX8_keeps_59 ?_
      refine lv_iload_n hx hb dX8_keeps_62 rfl (lv_at hl 2 rfl) ?_
      refine ro_iald (k := lv) (v := lo lv) hx hb hK hP 7 0 rfl rfl rfl (by omega) (by decide) rfl dX8_keeps_63 ?_
      refine lv_icmp_gt (tgt := 71) hx hb dX8_keeps_64 (by decide) (fun c_64 => ?_) (fun c_64 => ?_)
      · refine lv_iconst (v := 1) hx hb dX8_keeps_71 (by decide) ?_
        refine ro_iast (k := (aF lv) * 12 + (nF lv) - 1) hx hb hK hP hD hS 2 0 rfl rfl rfl (by omega) (by decide) dX8_keeps_72 (fun H locs hP hD hS => ?_)
        have hP : va_P D vwCl [(q, .inr (8, [.ref (ma 0), .ref (ma 1), .int (nI sN), .ref (ma 2), .int (nI L), .int th, .ref (ma 3), .ref (ma 4), .ref (ma 5), .ref (ma 6), .int (nI nN), .int ct, .int ht, .ref (ma 7), .ref (ma 8), .ref (ma 9), .ref (ma 10), .ref (ma 11), .ref (ma 12), .ref (ma 13), .ref (ma 14), .int sp, .int iw, .int mn])), (ma 0, .inl (G.1, 457, .inl sr)), (ma 4, .inl (G.1, 144, .inl (upd kd ((aF lv) * 12 + (nF lv) - 1) 1))), (ma 5, .inl (G.1, 144, .inl dp)), (ma 6, .inl (G.1, 144, .inl vl)), (ma 8, .inl (G.1, 14, .inl (tN aF))), (ma 9, .inl (G.1, 14, .inl (tN nF))), (ma 10, .inl (G.1, 14, .inl lo)), (ma 11, .inl (G.1, 14, .inl hi)), (ma 12, .inl (G.1, 14, .inl be))] H := hP
        have hD : va_D A [(q, .inr (8, [.ref (ma 0), .ref (ma 1), .int (nI sN), .ref (ma 2), .int (nI L), .int th, .ref (ma 3), .ref (ma 4), .ref (ma 5), .ref (ma 6), .int (nI nN), .int ct, .int ht, .ref (ma 7), .ref (ma 8), .ref (ma 9), .ref (ma 10), .ref (ma 11), .ref (ma 12), .ref (ma 13), .ref (ma 14), .int sp, .int iw, .int mn])), (ma 0, .inl (G.1, 457, .inl sr)), (ma 4, .inl (G.1, 144, .inl (upd kd ((aF lv) * 12 + (nF lv) - 1) 1))), (ma 5, .inl (G.1, 144, .inl dp)), (ma 6, .inl (G.1, 144, .inl vl)), (ma 8, .inl (G.1, 14, .inl (tN aF))), (ma 9, .inl (G.1, 14, .inl (tN nF))), (ma 10, .inl (G.1, 14, .inl lo)), (ma 11, .inl (G.1, 14, .inl hi)), (ma 12, .inl (G.1, 14, .inl be))] := hD
        refine lv_aload_n hx hb dX8_keeps_73 rfl (lv_at hl 1 rfl) ?_
        refine va_get (D := D) (ci := 8) (v := .ref (ma 5)) (C := RX8) (T := TX8) (N := 24) hx hb hts inlX8 hown hK hP 0 rfl rfl 8 (by decide) (hts _ kw_5_11) (fun _ h9 => h9) rfl dX8_keeps_74 ?_
        refine lv_iload_n hx hb dX8_keeps_77 rfl (lv_at hl 0 rfl) ?_
        refine lv_iload_n hx hb dX8_keeps_78 rfl (lv_at hl 3 rfl) ?_
        refine ro_iast (k := (aF lv) * 12 + (nF lv) - 1) hx hb hK hP hD hS 3 0 rfl rfl rfl (by omega) (by decide) dX8_keeps_79 (fun H locs hP hD hS => ?_)
        have hP : va_P D vwCl [(q, .inr (8, [.ref (ma 0), .ref (ma 1), .int (nI sN), .ref (ma 2), .int (nI L), .int th, .ref (ma 3), .ref (ma 4), .ref (ma 5), .ref (ma 6), .int (nI nN), .int ct, .int ht, .ref (ma 7), .ref (ma 8), .ref (ma 9), .ref (ma 10), .ref (ma 11), .ref (ma 12), .ref (ma 13), .ref (ma 14), .int sp, .int iw, .int mn])), (ma 0, .inl (G.1, 457, .inl sr)), (ma 4, .inl (G.1, 144, .inl (upd kd ((aF lv) * 12 + (nF lv) - 1) 1))), (ma 5, .inl (G.1, 144, .inl (upd dp ((aF lv) * 12 + (nF lv) - 1) (nI dd)))), (ma 6, .inl (G.1, 144, .inl vl)), (ma 8, .inl (G.1, 14, .inl (tN aF))), (ma 9, .inl (G.1, 14, .inl (tN nF))), (ma 10, .inl (G.1, 14, .inl lo)), (ma 11, .inl (G.1, 14, .inl hi)), (ma 12, .inl (G.1, 14, .inl be))] H := hP
        have hD : va_D A [(q, .inr (8, [.ref (ma 0), .ref (ma 1), .int (nI sN), .ref (ma 2), .int (nI L), .int th, .ref (ma 3), .ref (ma 4), .ref (ma 5), .ref (ma 6), .int (nI nN), .int ct, .int ht, .ref (ma 7), .ref (ma 8), .ref (ma 9), .ref (ma 10), .ref (ma 11), .ref (ma 12), .ref (ma 13), .ref (ma 14), .int sp, .int iw, .int mn])), (ma 0, .inl (G.1, 457, .inl sr)), (ma 4, .inl (G.1, 144, .inl (upd kd ((aF lv) * 12 + (nF lv) - 1) 1))), (ma 5, .inl (G.1, 144, .inl (upd dp ((aF lv) * 12 + (nF lv) - 1) (nI dd)))), (ma 6, .inl (G.1, 144, .inl vl)), (ma 8, .inl (G.1, 14, .inl (tN aF))), (ma 9, .inl (G.1, 14, .inl (tN nF))), (ma 10, .inl (G.1, 14, .inl lo)), (ma 11, .inl (G.1, 14, .inl hi)), (ma 12, .inl (G.1, 14, .inl be))] := hD
        refine lv_aload_n hx hb dX8_keeps_80 rfl (lv_at hl 1 rfl) ?_
        refine va_get (D := D) (ci := 8) (v := .ref (ma 6)) (C := RX8) (T := TX8) (N := 24) hx hb hts inlX8 hown hK hP 0 rfl rfl 9 (by decide) (hts _ kw_5_12) (fun _ h9 => h9) rfl dX8_keeps_81 ?_
        refine lv_iload_n hx hb dX8_keeps_84 rfl (lv_at hl 0 rfl) ?_
        refine lv_aload_n hx hb dX8_keeps_85 rfl (lv_at hl 1 rfl) ?_
        refine va_get (D := D) (ci := 8) (v := .ref (ma 12)) (C := RX8) (T := TX8) (N := 24) hx hb hts inlX8 hown hK hP 0 rfl rfl 18 (by decide) (hts _ kw_5_18) (fun _ h9 => h9) rfl dX8_keeps_86 ?_
        refine lv_iload_n hx hb dX8_keeps_89 rfl (lv_at hl 2 rfl) ?_
        refine ro_iald (k := lv) (v := be lv) hx hb hK hP 9 0 rfl rfl rfl (by omega) (by decide) rfl dX8_keeps_90 ?_
        refine ro_iast (k := (aF lv) * 12 + (nF lv) - 1) hx hb hK hP hD hS 4 0 rfl rfl rfl (by omega) (by decide) dX8_keeps_91 (fun H locs hP hD hS => ?_)
        have hP : va_P D vwCl [(q, .inr (8, [.ref (ma 0), .ref (ma 1), .int (nI sN), .ref (ma 2), .int (nI L), .int th, .ref (ma 3), .ref (ma 4), .ref (ma 5), .ref (ma 6), .int (nI nN), .int ct, .int ht, .ref (ma 7), .ref (ma 8), .ref (ma 9), .ref (ma 10), .ref (ma 11), .ref (ma 12), .ref (ma 13), .ref (ma 14), .int sp, .int iw, .int mn])), (ma 0, .inl (G.1, 457, .inl sr)), (ma 4, .inl (G.1, 144, .inl (upd kd ((aF lv) * 12 + (nF lv) - 1) 1))), (ma 5, .inl (G.1, 144, .inl (upd dp ((aF lv) * 12 + (nF lv) - 1) (nI dd)))), (ma 6, .inl (G.1, 144, .inl (upd vl ((aF lv) * 12 + (nF lv) - 1) (be lv)))), (ma 8, .inl (G.1, 14, .inl (tN aF))), (ma 9, .inl (G.1, 14, .inl (tN nF))), (ma 10, .inl (G.1, 14, .inl lo)), (ma 11, .inl (G.1, 14, .inl hi)), (ma 12, .inl (G.1, 14, .inl be))] H := hP
        have hD : va_D A [(q, .inr (8, [.ref (ma 0), .ref (ma 1), .int (nI sN), .ref (ma 2), .int (nI L), .int th, .ref (ma 3), .ref (ma 4), .ref (ma 5), .ref (ma 6), .int (nI nN), .int ct, .int ht, .ref (ma 7), .ref (ma 8), .ref (ma 9), .ref (ma 10), .ref (ma 11), .ref (ma 12), .ref (ma 13), .ref (ma 14), .int sp, .int iw, .int mn])), (ma 0, .inl (G.1, 457, .inl sr)), (ma 4, .inl (G.1, 144, .inl (upd kd ((aF lv) * 12 + (nF lv) - 1) 1))), (ma 5, .inl (G.1, 144, .inl (upd dp ((aF lv) * 12 + (nF lv) - 1) (nI dd)))), (ma 6, .inl (G.1, 144, .inl (upd vl ((aF lv) * 12 + (nF lv) - 1) (be lv)))), (ma 8, .inl (G.1, 14, .inl (tN aF))), (ma 9, .inl (G.1, 14, .inl (tN nF))), (ma 10, .inl (G.1, 14, .inl lo)), (ma 11, .inl (G.1, 14, .inl hi)), (ma 12, .inl (G.1, 14, .inl be))] := hD
        exact endV C () trivial hS (by rw [kpF_y (by omega), kpF_y (by omega), kpF_y (by omega)]; unfold kn; rw [if_pos c_45, if_pos c_64]; exact hP) (hD.fst rfl) dX8_keeps_92
      · refine lv_iconst (v := 3) hx hb dX8_keeps_67 (by decide) ?_
        refine lv_goto (tgt := 72) hx hb dX8_keeps_68 (by decide) ?_
        refine ro_iast (k := (aF lv) * 12 + (nF lv) - 1) hx hb hK hP hD hS 2 0 rfl rfl rfl (by omega) (by decide) dX8_keeps_72 (fun H locs hP hD hS => ?_)
        have hP : va_P D vwCl [(q, .inr (8, [.ref (ma 0), .ref (ma 1), .int (nI sN), .ref (ma 2), .int (nI L), .int th, .ref (ma 3), .ref (ma 4), .ref (ma 5), .ref (ma 6), .int (nI nN), .int ct, .int ht, .ref (ma 7), .ref (ma 8), .ref (ma 9), .ref (ma 10), .ref (ma 11), .ref (ma 12), .ref (ma 13), .ref (ma 14), .int sp, .int iw, .int mn])), (ma 0, .inl (G.1, 457, .inl sr)), (ma 4, .inl (G.1, 144, .inl (upd kd ((aF lv) * 12 + (nF lv) - 1) 3))), (ma 5, .inl (G.1, 144, .inl dp)), (ma 6, .inl (G.1, 144, .inl vl)), (ma 8, .inl (G.1, 14, .inl (tN aF))), (ma 9, .inl (G.1, 14, .inl (tN nF))), (ma 10, .inl (G.1, 14, .inl lo)), (ma 11, .inl (G.1, 14, .inl hi)), (ma 12, .inl (G.1, 14, .inl be))] H := hP
        have hD : va_D A [(q, .inr (8, [.ref (ma 0), .ref (ma 1), .int (nI sN), .ref (ma 2), .int (nI L), .int th, .ref (ma 3), .ref (ma 4), .ref (ma 5), .ref (ma 6), .int (nI nN), .int ct, .int ht, .ref (ma 7), .ref (ma 8), .ref (ma 9), .ref (ma 10), .ref (ma 11), .ref (ma 12), .ref (ma 13), .ref (ma 14), .int sp, .int iw, .int mn])), (ma 0, .inl (G.1, 457, .inl sr)), (ma 4, .inl (G.1, 144, .inl (upd kd ((aF lv) * 12 + (nF lv) - 1) 3))), (ma 5, .inl (G.1, 144, .inl dp)), (ma 6, .inl (G.1, 144, .inl vl)), (ma 8, .inl (G.1, 14, .inl (tN aF))), (ma 9, .inl (G.1, 14, .inl (tN nF))), (ma 10, .inl (G.1, 14, .inl lo)), (ma 11, .inl (G.1, 14, .inl hi)), (ma 12, .inl (G.1, 14, .inl be))] := hD
        refine lv_aload_n hx hb dX8_keeps_73 rfl (lv_at hl 1 rfl) ?_
        refine va_get (D := D) (ci := 8) (v := .ref (ma 5)) (C := RX8) (T := TX8) (N := 24) hx hb hts inlX8 hown hK hP 0 rfl rfl 8 (by decide) (hts _ kw_5_11) (fun _ h9 => h9) rfl dX8_keeps_74 ?_
        refine lv_iload_n hx hb dX8_keeps_77 rfl (lv_at hl 0 rfl) ?_
        refine lv_iload_n hx hb dX8_keeps_78 rfl (lv_at hl 3 rfl) ?_
        refine ro_iast (k := (aF lv) * 12 + (nF lv) - 1) hx hb hK hP hD hS 3 0 rfl rfl rfl (by omega) (by decide) dX8_keeps_79 (fun H locs hP hD hS => ?_)
        have hP : va_P D vwCl [(q, .inr (8, [.ref (ma 0), .ref (ma 1), .int (nI sN), .ref (ma 2), .int (nI L), .int th, .ref (ma 3), .ref (ma 4), .ref (ma 5), .ref (ma 6), .int (nI nN), .int ct, .int ht, .ref (ma 7), .ref (ma 8), .ref (ma 9), .ref (ma 10), .ref (ma 11), .ref (ma 12), .ref (ma 13), .ref (ma 14), .int sp, .int iw, .int mn])), (ma 0, .inl (G.1, 457, .inl sr)), (ma 4, .inl (G.1, 144, .inl (upd kd ((aF lv) * 12 + (nF lv) - 1) 3))), (ma 5, .inl (G.1, 144, .inl (upd dp ((aF lv) * 12 + (nF lv) - 1) (nI dd)))), (ma 6, .inl (G.1, 144, .inl vl)), (ma 8, .inl (G.1, 14, .inl (tN aF))), (ma 9, .inl (G.1, 14, .inl (tN nF))), (ma 10, .inl (G.1, 14, .inl lo)), (ma 11, .inl (G.1, 14, .inl hi)), (ma 12, .inl (G.1, 14, .inl be))] H := hP
        have hD : va_D A [(q, .inr (8, [.ref (ma 0), .ref (ma 1), .int (nI sN), .ref (ma 2), .int (nI L), .int th, .ref (ma 3), .ref (ma 4), .ref (ma 5), .ref (ma 6), .int (nI nN), .int ct, .int ht, .ref (ma 7), .ref (ma 8), .ref (ma 9), .ref (ma 10), .ref (ma 11), .ref (ma 12), .ref (ma 13), .ref (ma 14), .int sp, .int iw, .int mn])), (ma 0, .inl (G.1, 457, .inl sr)), (ma 4, .inl (G.1, 144, .inl (upd kd ((aF lv) * 12 + (nF lv) - 1) 3))), (ma 5, .inl (G.1, 144, .inl (upd dp ((aF lv) * 12 + (nF lv) - 1) (nI dd)))), (ma 6, .inl (G.1, 144, .inl vl)), (ma 8, .inl (G.1, 14, .inl (tN aF))), (ma 9, .inl (G.1, 14, .inl (tN nF))), (ma 10, .inl (G.1, 14, .inl lo)), (ma 11, .inl (G.1, 14, .inl hi)), (ma 12, .inl (G.1, 14, .inl be))] := hD
        refine lv_aload_n hx hb dX8_keeps_80 rfl (lv_at hl 1 rfl) ?_
        refine va_get (D := D) (ci := 8) (v := .ref (ma 6)) (C := RX8) (T := TX8) (N := 24) hx hb hts inlX8 hown hK hP 0 rfl rfl 9 (by decide) (hts _ kw_5_12) (fun _ h9 => h9) rfl dX8_keeps_81 ?_
        refine lv_iload_n hx hb dX8_keeps_84 rfl (lv_at hl 0 rfl) ?_
        refine lv_aload_n hx hb dX8_keeps_85 rfl (lv_at hl 1 rfl) ?_
        refine va_get (D := D) (ci := 8) (v := .ref (ma 12)) (C := RX8) (T := TX8) (N := 24) hx hb hts inlX8 hown hK hP 0 rfl rfl 18 (by decide) (hts _ kw_5_18) (fun _ h9 => h9) rfl dX8_keeps_86 ?_
        refine lv_iload_n hx hb dX8_keeps_89 rfl (lv_at hl 2 rfl) ?_
        refine ro_iald (k := lv) (v := be lv) hx hb hK hP 9 0 rfl rfl rfl (by omega) (by decide) rfl dX8_keeps_90 ?_
        refine ro_iast (k := (aF lv) * 12 + (nF lv) - 1) hx hb hK hP hD hS 4 0 rfl rfl rfl (by omega) (by decide) dX8_keeps_91 (fun H locs hP hD hS => ?_)
        have hP : va_P D vwCl [(q, .inr (8, [.ref (ma 0), .ref (ma 1), .int (nI sN), .ref (ma 2), .int (nI L), .int th, .ref (ma 3), .ref (ma 4), .ref (ma 5), .ref (ma 6), .int (nI nN), .int ct, .int ht, .ref (ma 7), .ref (ma 8), .ref (ma 9), .ref (ma 10), .ref (ma 11), .ref (ma 12), .ref (ma 13), .ref (ma 14), .int sp, .int iw, .int mn])), (ma 0, .inl (G.1, 457, .inl sr)), (ma 4, .inl (G.1, 144, .inl (upd kd ((aF lv) * 12 + (nF lv) - 1) 3))), (ma 5, .inl (G.1, 144, .inl (upd dp ((aF lv) * 12 + (nF lv) - 1) (nI dd)))), (ma 6, .inl (G.1, 144, .inl (upd vl ((aF lv) * 12 + (nF lv) - 1) (be lv)))), (ma 8, .inl (G.1, 14, .inl (tN aF))), (ma 9, .inl (G.1, 14, .inl (tN nF))), (ma 10, .inl (G.1, 14, .inl lo)), (ma 11, .inl (G.1, 14, .inl hi)), (ma 12, .inl (G.1, 14, .inl be))] H := hP
        have hD : va_D A [(q, .inr (8, [.ref (ma 0), .ref (ma 1), .int (nI sN), .ref (ma 2), .int (nI L), .int th, .ref (ma 3), .ref (ma 4), .ref (ma 5), .ref (ma 6), .int (nI nN), .int ct, .int ht, .ref (ma 7), .ref (ma 8), .ref (ma 9), .ref (ma 10), .ref (ma 11), .ref (ma 12), .ref (ma 13), .ref (ma 14), .int sp, .int iw, .int mn])), (ma 0, .inl (G.1, 457, .inl sr)), (ma 4, .inl (G.1, 144, .inl (upd kd ((aF lv) * 12 + (nF lv) - 1) 3))), (ma 5, .inl (G.1, 144, .inl (upd dp ((aF lv) * 12 + (nF lv) - 1) (nI dd)))), (ma 6, .inl (G.1, 144, .inl (upd vl ((aF lv) * 12 + (nF lv) - 1) (be lv)))), (ma 8, .inl (G.1, 14, .inl (tN aF))), (ma 9, .inl (G.1, 14, .inl (tN nF))), (ma 10, .inl (G.1, 14, .inl lo)), (ma 11, .inl (G.1, 14, .inl hi)), (ma 12, .inl (G.1, 14, .inl be))] := hD
        exact endV C () trivial hS (by rw [kpF_y (by omega), kpF_y (by omega), kpF_y (by omega)]; unfold kn; rw [if_pos c_45, if_neg c_64]; exact hP) (hD.fst rfl) dX8_keeps_92
    · refine lv_iconst (v := 2) hx hb dX8_keeps_48 (by decide) ?_
      refine lv_goto (tgt := 72) hx hb dX8_keeps_49 (by decide) ?_
      refine ro_iast (k := (aF lv) * 12 + (nF lv) - 1) hx hb hK hP hD hS 2 0 rfl rfl rfl (by omega) (by decide) dX8_keeps_72 (fun H locs hP hD hS => ?_)
      have hP : va_P D vwCl [(q, .inr (8, [.ref (ma 0), .ref (ma 1), .int (nI sN), .ref (ma 2), .int (nI L), .int th, .ref (ma 3), .ref (ma 4), .ref (ma 5), .ref (ma 6), .int (nI nN), .int ct, .int ht, .ref (ma 7), .ref (ma 8), .ref (ma 9), .ref (ma 10), .ref (ma 11), .ref (ma 12), .ref (ma 13), .ref (ma 14), .int sp, .int iw, .int mn])), (ma 0, .inl (G.1, 457, .inl sr)), (ma 4, .inl (G.1, 144, .inl (upd kd ((aF lv) * 12 + (nF lv) - 1) 2))), (ma 5, .inl (G.1, 144, .inl dp)), (ma 6, .inl (G.1, 144, .inl vl)), (ma 8, .inl (G.1, 14, .inl (tN aF))), (ma 9, .inl (G.1, 14, .inl (tN nF))), (ma 10, .inl (G.1, 14, .inl lo)), (ma 11, .inl (G.1, 14, .inl hi)), (ma 12, .inl (G.1, 14, .inl be))] H := hP
      have hD : va_D A [(q, .inr (8, [.ref (ma 0), .ref (ma 1), .int (nI sN), .ref (ma 2), .int (nI L), .int th, .ref (ma 3), .ref (ma 4), .ref (ma 5), .ref (ma 6), .int (nI nN), .int ct, .int ht, .ref (ma 7), .ref (ma 8), .ref (ma 9), .ref (ma 10), .ref (ma 11), .ref (ma 12), .ref (ma 13), .ref (ma 14), .int sp, .int iw, .int mn])), (ma 0, .inl (G.1, 457, .inl sr)), (ma 4, .inl (G.1, 144, .inl (upd kd ((aF lv) * 12 + (nF lv) - 1) 2))), (ma 5, .inl (G.1, 144, .inl dp)), (ma 6, .inl (G.1, 144, .inl vl)), (ma 8, .inl (G.1, 14, .inl (tN aF))), (ma 9, .inl (G.1, 14, .inl (tN nF))), (ma 10, .inl (G.1, 14, .inl lo)), (ma 11, .inl (G.1, 14, .inl hi)), (ma 12, .inl (G.1, 14, .inl be))] := hD
      refine lv_aload_n hx hb dX8_keeps_73 rfl (lv_at hl 1 rfl) ?_
      refine va_get (D := D) (ci := 8) (v := .ref (ma 5)) (C := RX8) (T := TX8) (N := 24) hx hb hts inlX8 hown hK hP 0 rfl rfl 8 (by decide) (hts _ kw_5_11) (fun _ h9 => h9) rfl dX8_keeps_74 ?_
      refine lv_iload_n hx hb dX8_keeps_77 rfl (lv_at hl 0 rfl) ?_
      refine lv_iload_n hx hb dX8_keeps_78 rfl (lv_at hl 3 rfl) ?_
      refine ro_iast (k := (aF lv) * 12 + (nF lv) - 1) hx hb hK hP hD hS 3 0 rfl rfl rfl (by omega) (by decide) dX8_keeps_79 (fun H locs hP hD hS => ?_)
      have hP : va_P D vwCl [(q, .inr (8, [.ref (ma 0), .ref (ma 1), .int (nI sN), .ref (ma 2), .int (nI L), .int th, .ref (ma 3), .ref (ma 4), .ref (ma 5), .ref (ma 6), .int (nI nN), .int ct, .int ht, .ref (ma 7), .ref (ma 8), .ref (ma 9), .ref (ma 10), .ref (ma 11), .ref (ma 12), .ref (ma 13), .ref (ma 14), .int sp, .int iw, .int mn])), (ma 0, .inl (G.1, 457, .inl sr)), (ma 4, .inl (G.1, 144, .inl (upd kd ((aF lv) * 12 + (nF lv) - 1) 2))), (ma 5, .inl (G.1, 144, .inl (upd dp ((aF lv) * 12 + (nF lv) - 1) (nI dd)))), (ma 6, .inl (G.1, 144, .inl vl)), (ma 8, .inl (G.1, 14, .inl (tN aF))), (ma 9, .inl (G.1, 14, .inl (tN nF))), (ma 10, .inl (G.1, 14, .inl lo)), (ma 11, .inl (G.1, 14, .inl hi)), (ma 12, .inl (G.1, 14, .inl be))] H := hP
      have hD : va_D A [(q, .inr (8, [.ref (ma 0), .ref (ma 1), .int (nI sN), .ref (ma 2), .int (nI L), .int th, .ref (ma 3), .ref (ma 4), .ref (ma 5), .ref (ma 6), .int (nI nN), .int ct, .int ht, .ref (ma 7), .ref (ma 8), .ref (ma 9), .ref (ma 10), .ref (ma 11), .ref (ma 12), .ref (ma 13), .ref (ma 14), .int sp, .int iw, .int mn])), (ma 0, .inl (G.1, 457, .inl sr)), (ma 4, .inl (G.1, 144, .inl (upd kd ((aF lv) * 12 + (nF lv) - 1) 2))), (ma 5, .inl (G.1, 144, .inl (upd dp ((aF lv) * 12 + (nF lv) - 1) (nI dd)))), (ma 6, .inl (G.1, 144, .inl vl)), (ma 8, .inl (G.1, 14, .inl (tN aF))), (ma 9, .inl (G.1, 14, .inl (tN nF))), (ma 10, .inl (G.1, 14, .inl lo)), (ma 11, .inl (G.1, 14, .inl hi)), (ma 12, .inl (G.1, 14, .inl be))] := hD
      refine lv_aload_n hx hb dX8_keeps_80 rfl (lv_at hl 1 rfl) ?_
      refine va_get (D := D) (ci := 8) (v := .ref (ma 6)) (C := RX8) (T := TX8) (N := 24) hx hb hts inlX8 hown hK hP 0 rfl rfl 9 (by decide) (hts _ kw_5_12) (fun _ h9 => h9) rfl dX8_keeps_81 ?_
      refine lv_iload_n hx hb dX8_keeps_84 rfl (lv_at hl 0 rfl) ?_
      refine lv_aload_n hx hb dX8_keeps_85 rfl (lv_at hl 1 rfl) ?_
      refine va_get (D := D) (ci := 8) (v := .ref (ma 12)) (C := RX8) (T := TX8) (N := 24) hx hb hts inlX8 hown hK hP 0 rfl rfl 18 (by decide) (hts _ kw_5_18) (fun _ h9 => h9) rfl dX8_keeps_86 ?_
      refine lv_iload_n hx hb dX8_keeps_89 rfl (lv_at hl 2 rfl) ?_
      refine ro_iald (k := lv) (v := be lv) hx hb hK hP 9 0 rfl rfl rfl (by omega) (by decide) rfl dX8_keeps_90 ?_
      refine ro_iast (k := (aF lv) * 12 + (nF lv) - 1) hx hb hK hP hD hS 4 0 rfl rfl rfl (by omega) (by decide) dX8_keeps_91 (fun H locs hP hD hS => ?_)
      have hP : va_P D vwCl [(q, .inr (8, [.ref (ma 0), .ref (ma 1), .int (nI sN), .ref (ma 2), .int (nI L), .int th, .ref (ma 3), .ref (ma 4), .ref (ma 5), .ref (ma 6), .int (nI nN), .int ct, .int ht, .ref (ma 7), .ref (ma 8), .ref (ma 9), .ref (ma 10), .ref (ma 11), .ref (ma 12), .ref (ma 13), .ref (ma 14), .int sp, .int iw, .int mn])), (ma 0, .inl (G.1, 457, .inl sr)), (ma 4, .inl (G.1, 144, .inl (upd kd ((aF lv) * 12 + (nF lv) - 1) 2))), (ma 5, .inl (G.1, 144, .inl (upd dp ((aF lv) * 12 + (nF lv) - 1) (nI dd)))), (ma 6, .inl (G.1, 144, .inl (upd vl ((aF lv) * 12 + (nF lv) - 1) (be lv)))), (ma 8, .inl (G.1, 14, .inl (tN aF))), (ma 9, .inl (G.1, 14, .inl (tN nF))), (ma 10, .inl (G.1, 14, .inl lo)), (ma 11, .inl (G.1, 14, .inl hi)), (ma 12, .inl (G.1, 14, .inl be))] H := hP
      have hD : va_D A [(q, .inr (8, [.ref (ma 0), .ref (ma 1), .int (nI sN), .ref (ma 2), .int (nI L), .int th, .ref (ma 3), .ref (ma 4), .ref (ma 5), .ref (ma 6), .int (nI nN), .int ct, .int ht, .ref (ma 7), .ref (ma 8), .ref (ma 9), .ref (ma 10), .ref (ma 11), .ref (ma 12), .ref (ma 13), .ref (ma 14), .int sp, .int iw, .int mn])), (ma 0, .inl (G.1, 457, .inl sr)), (ma 4, .inl (G.1, 144, .inl (upd kd ((aF lv) * 12 + (nF lv) - 1) 2))), (ma 5, .inl (G.1, 144, .inl (upd dp ((aF lv) * 12 + (nF lv) - 1) (nI dd)))), (ma 6, .inl (G.1, 144, .inl (upd vl ((aF lv) * 12 + (nF lv) - 1) (be lv)))), (ma 8, .inl (G.1, 14, .inl (tN aF))), (ma 9, .inl (G.1, 14, .inl (tN nF))), (ma 10, .inl (G.1, 14, .inl lo)), (ma 11, .inl (G.1, 14, .inl hi)), (ma 12, .inl (G.1, 14, .inl be))] := hD
      exact endV C () trivial hS (by rw [kpF_y (by omega), kpF_y (by omega), kpF_y (by omega)]; unfold kn; rw [if_neg c_45]; exact hP) (hD.fst rfl) dX8_keeps_92
  · have c_8 := neq_t (a := x 20) (b := 1) (by omega) (by omega) c_8
    exact endV C () trivial hS (by rw [kpF_n (by omega), kpF_n (by omega), kpF_n (by omega)]; exact hP) (hD.fst rfl) dX8_keeps_11
set_option maxHeartbeats 800000 in
set_option maxRecDepth 100000 in
theorem mX8_enters (l : Launch) (D : va_G) (G : u_G) (q : Nat) (ma : Nat → Nat) (sN L nN : Nat) (th ct ht sp iw mn : Int32) (aF nF tF : Nat → Nat) (lo hi be : Nat → Int32) (lv f n : Nat) (a b : Int32) (hlv : lv < 14) : MtV l D G yX8_enters cX8_enters 6 1 0 0 [.ref q, .int (nI lv), .int (nI f), .int (nI n), .int a, .int b] [(q, .inr (8, [.ref (ma 0), .ref (ma 1), .int (nI sN), .ref (ma 2), .int (nI L), .int th, .ref (ma 3), .ref (ma 4), .ref (ma 5), .ref (ma 6), .int (nI nN), .int ct, .int ht, .ref (ma 7), .ref (ma 8), .ref (ma 9), .ref (ma 10), .ref (ma 11), .ref (ma 12), .ref (ma 13), .ref (ma 14), .int sp, .int iw, .int mn])), (ma 8, .inl (G.1, 14, .inl (tN aF))), (ma 9, .inl (G.1, 14, .inl (tN nF))), (ma 10, .inl (G.1, 14, .inl lo)), (ma 11, .inl (G.1, 14, .inl hi)), (ma 12, .inl (G.1, 14, .inl be)), (ma 14, .inl (G.1, 14, .inl (tN tF)))] (fun (_ : Unit) => True) (fun (_ : Unit) => [(q, .inr (8, [.ref (ma 0), .ref (ma 1), .int (nI sN), .ref (ma 2), .int (nI L), .int th, .ref (ma 3), .ref (ma 4), .ref (ma 5), .ref (ma 6), .int (nI (nN + 1)), .int ct, .int ht, .ref (ma 7), .ref (ma 8), .ref (ma 9), .ref (ma 10), .ref (ma 11), .ref (ma 12), .ref (ma 13), .ref (ma 14), .int sp, .int iw, .int mn])), (ma 8, .inl (G.1, 14, .inl (tN (va_up aF lv f)))), (ma 9, .inl (G.1, 14, .inl (tN (va_up nF lv n)))), (ma 10, .inl (G.1, 14, .inl (upd lo lv a))), (ma 11, .inl (G.1, 14, .inl (upd hi lv b))), (ma 12, .inl (G.1, 14, .inl (upd be lv (-999)))), (ma 14, .inl (G.1, 14, .inl (tN (va_up tF lv 0))))]) := by
  refine MtV.of (by decide) (Nat.le_of_ble_eq_true rfl) ?_
  intro pr e s9 m9 below meth c9 A ls C hP hD hl hin
  obtain ⟨hx, hb, hml, hown, hts, hr, hlocks, hA, hAm⟩ := id C
  have hK := hAm.1
  have hS : va_S A s9.heap s9.heap [] := va_S.rf
  have hl : lv_has ls 6 [(0, .ref q), (1, .int (nI lv)), (2, .int (nI f)), (3, .int (nI n)), (4, .int a), (5, .int b)] := hl
  refine lv_aload_n hx hb dX8_enters_0 rfl (lv_at hl 0 rfl) ?_
  refine va_get (D := D) (ci := 8) (v := .ref (ma 8)) (C := RX8) (T := TX8) (N := 24) hx hb hts inlX8 hown hK hP 0 rfl rfl 14 (by decide) (hts _ kw_5_14) (fun _ h9 => h9) rfl dX8_enters_1 ?_
  refine lv_iload_n hx hb dX8_enters_4 rfl (lv_at hl 1 rfl) ?_
  refine lv_iload_n hx hb dX8_enters_5 rfl (lv_at hl 2 rfl) ?_
  refine ro_iast (k := lv) hx hb hK hP hD hS 1 0 rfl rfl rfl (by omega) (by decide) dX8_enters_6 (fun H locs hP hD hS => ?_)
  have hP : va_P D vwCl [(q, .inr (8, [.ref (ma 0), .ref (ma 1), .int (nI sN), .ref (ma 2), .int (nI L), .int th, .ref (ma 3), .ref (ma 4), .ref (ma 5), .ref (ma 6), .int (nI nN), .int ct, .int ht, .ref (ma 7), .ref (ma 8), .ref (ma 9), .ref (ma 10), .ref (ma 11), .ref (ma 12), .ref (ma 13), .ref (ma 14), .int sp, .int iw, .int mn])), (ma 8, .inl (G.1, 14, .inl (upd (tN aF) lv (nI f)))), (ma 9, .inl (G.1, 14, .inl (tN nF))), (ma 10, .inl (G.1, 14, .inl lo)), (ma 11, .inl (G.1, 14, .inl hi)), (ma 12, .inl (G.1, 14, .inl be)), (ma 14, .inl (G.1, 14, .inl (tN tF)))] H := hP
  have hD : va_D A [(q, .inr (8, [.ref (ma 0), .ref (ma 1), .int (nI sN), .ref (ma 2), .int (nI L), .int th, .ref (ma 3), .ref (ma 4), .ref (ma 5), .ref (ma 6), .int (nI nN), .int ct, .int ht, .ref (ma 7), .ref (ma 8), .ref (ma 9), .ref (ma 10), .ref (ma 11), .ref (ma 12), .ref (ma 13), .ref (ma 14), .int sp, .int iw, .int mn])), (ma 8, .inl (G.1, 14, .inl (upd (tN aF) lv (nI f)))), (ma 9, .inl (G.1, 14, .inl (tN nF))), (ma 10, .inl (G.1, 14, .inl lo)), (ma 11, .inl (G.1, 14, .inl hi)), (ma 12, .inl (G.1, 14, .inl be)), (ma 14, .inl (G.1, 14, .inl (tN tF)))] := hD
  refine lv_aload_n hx hb dX8_enters_7 rfl (lv_at hl 0 rfl) ?_
  refine va_get (D := D) (ci := 8) (v := .ref (ma 9)) (C := RX8) (T := TX8) (N := 24) hx hb hts inlX8 hown hK hP 0 rfl rfl 15 (by decide) (hts _ kw_5_15) (fun _ h9 => h9) rfl dX8_enters_8 ?_
  refine lv_iload_n hx hb dX8_enters_11 rfl (lv_at hl 1 rfl) ?_
  refine lv_iload_n hx hb dX8_enters_12 rfl (lv_at hl 3 rfl) ?_
  refine ro_iast (k := lv) hx hb hK hP hD hS 2 0 rfl rfl rfl (by omega) (by decide) dX8_enters_13 (fun H locs hP hD hS => ?_)
  have hP : va_P D vwCl [(q, .inr (8, [.ref (ma 0), .ref (ma 1), .int (nI sN), .ref (ma 2), .int (nI L), .int th, .ref (ma 3), .ref (ma 4), .ref (ma 5), .ref (ma 6), .int (nI nN), .int ct, .int ht, .ref (ma 7), .ref (ma 8), .ref (ma 9), .ref (ma 10), .ref (ma 11), .ref (ma 12), .ref (ma 13), .ref (ma 14), .int sp, .int iw, .int mn])), (ma 8, .inl (G.1, 14, .inl (upd (tN aF) lv (nI f)))), (ma 9, .inl (G.1, 14, .inl (upd (tN nF) lv (nI n)))), (ma 10, .inl (G.1, 14, .inl lo)), (ma 11, .inl (G.1, 14, .inl hi)), (ma 12, .inl (G.1, 14, .inl be)), (ma 14, .inl (G.1, 14, .inl (tN tF)))] H := hP
  have hD : va_D A [(q, .inr (8, [.ref (ma 0), .ref (ma 1), .int (nI sN), .ref (ma 2), .int (nI L), .int th, .ref (ma 3), .ref (ma 4), .ref (ma 5), .ref (ma 6), .int (nI nN), .int ct, .int ht, .ref (ma 7), .ref (ma 8), .ref (ma 9), .ref (ma 10), .ref (ma 11), .ref (ma 12), .ref (ma 13), .ref (ma 14), .int sp, .int iw, .int mn])), (ma 8, .inl (G.1, 14, .inl (upd (tN aF) lv (nI f)))), (ma 9, .inl (G.1, 14, .inl (upd (tN nF) lv (nI n)))), (ma 10, .inl (G.1, 14, .inl lo)), (ma 11, .inl (G.1, 14, .inl hi)), (ma 12, .inl (G.1, 14, .inl be)), (ma 14, .inl (G.1, 14, .inl (tN tF)))] := hD
  refine lv_aload_n hx hb dX8_enters_14 rfl (lv_at hl 0 rfl) ?_
  refine va_get (D := D) (ci := 8) (v := .ref (ma 10)) (C := RX8) (T := TX8) (N := 24) hx hb hts inlX8 hown hK hP 0 rfl rfl 16 (by decide) (hts _ kw_5_16) (fun _ h9 => h9) rfl dX8_enters_15 ?_
  refine lv_iload_n hx hb dX8_enters_18 rfl (lv_at hl 1 rfl) ?_
  refine lv_iload hx hb dX8_enters_19 (lv_at hl 4 rfl) ?_
  refine ro_iast (k := lv) hx hb hK hP hD hS 3 0 rfl rfl rfl (by omega) (by decide) dX8_enters_21 (fun H locs hP hD hS => ?_)
  have hP : va_P D vwCl [(q, .inr (8, [.ref (ma 0), .ref (ma 1), .int (nI sN), .ref (ma 2), .int (nI L), .int th, .ref (ma 3), .ref (ma 4), .ref (ma 5), .ref (ma 6), .int (nI nN), .int ct, .int ht, .ref (ma 7), .ref (ma 8), .ref (ma 9), .ref (ma 10), .ref (ma 11), .ref (ma 12), .ref (ma 13), .ref (ma 14), .int sp, .int iw, .int mn])), (ma 8, .inl (G.1, 14, .inl (upd (tN aF) lv (nI f)))), (ma 9, .inl (G.1, 14, .inl (upd (tN nF) lv (nI n)))), (ma 10, .inl (G.1, 14, .inl (upd lo lv a))), (ma 11, .inl (G.1, 14, .inl hi)), (ma 12, .inl (G.1, 14, .inl be)), (ma 14, .inl (G.1, 14, .inl (tN tF)))] H := hP
  have hD : va_D A [(q, .inr (8, [.ref (ma 0), .ref (ma 1), .int (nI sN), .ref (ma 2), .int (nI L), .int th, .ref (ma 3), .ref (ma 4), .ref (ma 5), .ref (ma 6), .int (nI nN), .int ct, .int ht, .ref (ma 7), .ref (ma 8), .ref (ma 9), .ref (ma 10), .ref (ma 11), .ref (ma 12), .ref (ma 13), .ref (ma 14), .int sp, .int iw, .int mn])), (ma 8, .inl (G.1, 14, .inl (upd (tN aF) lv (nI f)))), (ma 9, .inl (G.1, 14, .inl (upd (tN nF) lv (nI n)))), (ma 10, .inl (G.1, 14, .inl (upd lo lv a))), (ma 11, .inl (G.1, 14, .inl hi)), (ma 12, .inl (G.1, 14, .inl be)), (ma 14, .inl (G.1, 14, .inl (tN tF)))] := hD
  refine lv_aload_n hx hb dX8_enters_22 rfl (lv_at hl 0 rfl) ?_
  refine va_get (D := D) (ci := 8) (v := .ref (ma 11)) (C := RX8) (T := TX8) (N := 24) hx hb hts inlX8 hown hK hP 0 rfl rfl 17 (by decide) (hts _ kw_5_17) (fun _ h9 => h9) rfl dX8_enters_23 ?_
  refine lv_iload_n hx hb dX8_enters_26 rfl (lv_at hl 1 rfl) ?_
  refine lv_iload hx hb dX8_enters_27 (lv_at hl 5 rfl) ?_
  refine ro_iast (k := lv) hx hb hK hP hD hS 4 0 rfl rfl rfl (by omega) (by decide) dX8_enters_29 (fun H locs hP hD hS => ?_)
  have hP : va_P D vwCl [(q, .inr (8, [.ref (ma 0), .ref (ma 1), .int (nI sN), .ref (ma 2), .int (nI L), .int th, .ref (ma 3), .ref (ma 4), .ref (ma 5), .ref (ma 6), .int (nI nN), .int ct, .int ht, .ref (ma 7), .ref (ma 8), .ref (ma 9), .ref (ma 10), .ref (ma 11), .ref (ma 12), .ref (ma 13), .ref (ma 14), .int sp, .int iw, .int mn])), (ma 8, .inl (G.1, 14, .inl (upd (tN aF) lv (nI f)))), (ma 9, .inl (G.1, 14, .inl (upd (tN nF) lv (nI n)))), (ma 10, .inl (G.1, 14, .inl (upd lo lv a))), (ma 11, .inl (G.1, 14, .inl (upd hi lv b))), (ma 12, .inl (G.1, 14, .inl be)), (ma 14, .inl (G.1, 14, .inl (tN tF)))] H := hP
  have hD : va_D A [(q, .inr (8, [.ref (ma 0), .ref (ma 1), .int (nI sN), .ref (ma 2), .int (nI L), .int th, .ref (ma 3), .ref (ma 4), .ref (ma 5), .ref (ma 6), .int (nI nN), .int ct, .int ht, .ref (ma 7), .ref (ma 8), .ref (ma 9), .ref (ma 10), .ref (ma 11), .ref (ma 12), .ref (ma 13), .ref (ma 14), .int sp, .int iw, .int mn])), (ma 8, .inl (G.1, 14, .inl (upd (tN aF) lv (nI f)))), (ma 9, .inl (G.1, 14, .inl (upd (tN nF) lv (nI n)))), (ma 10, .inl (G.1, 14, .inl (upd lo lv a))), (ma 11, .inl (G.1, 14, .inl (upd hi lv b))), (ma 12, .inl (G.1, 14, .inl be)), (ma 14, .inl (G.1, 14, .inl (tN tF)))] := hD
  refine lv_aload_n hx hb dX8_enters_30 rfl (lv_at hl 0 rfl) ?_
  refine va_get (D := D) (ci := 8) (v := .ref (ma 12)) (C := RX8) (T := TX8) (N := 24) hx hb hts inlX8 hown hK hP 0 rfl rfl 18 (by decide) (hts _ kw_5_18) (fun _ h9 => h9) rfl dX8_enters_31 ?_
  refine lv_iload_n hx hb dX8_enters_34 rfl (lv_at hl 1 rfl) ?_
  refine lv_sipush (v := (-999)) hx hb dX8_enters_35 (by decide) ?_
  refine ro_iast (k := lv) hx hb hK hP hD hS 5 0 rfl rfl rfl (by omega) (by decide) dX8_enters_38 (fun H locs hP hD hS => ?_)
  have hP : va_P D vwCl [(q, .inr (8, [.ref (ma 0), .ref (ma 1), .int (nI sN), .ref (ma 2), .int (nI L), .int th, .ref (ma 3), .ref (ma 4), .ref (ma 5), .ref (ma 6), .int (nI nN), .int ct, .int ht, .ref (ma 7), .ref (ma 8), .ref (ma 9), .ref (ma 10), .ref (ma 11), .ref (ma 12), .ref (ma 13), .ref (ma 14), .int sp, .int iw, .int mn])), (ma 8, .inl (G.1, 14, .inl (upd (tN aF) lv (nI f)))), (ma 9, .inl (G.1, 14, .inl (upd (tN nF) lv (nI n)))), (ma 10, .inl (G.1, 14, .inl (upd lo lv a))), (ma 11, .inl (G.1, 14, .inl (upd hi lv b))), (ma 12, .inl (G.1, 14, .inl (upd be lv (-999)))), (ma 14, .inl (G.1, 14, .inl (tN tF)))] H := hP
  have hD : va_D A [(q, .inr (8, [.ref (ma 0), .ref (ma 1), .int (nI sN), .ref (ma 2), .int (nI L), .int th, .ref (ma 3), .ref (ma 4), .ref (ma 5), .ref (ma 6), .int (nI nN), .int ct, .int ht, .ref (ma 7), .ref (ma 8), .ref (ma 9), .ref (ma 10), .ref (ma 11), .ref (ma 12), .ref (ma 13), .ref (ma 14), .int sp, .int iw, .int mn])), (ma 8, .inl (G.1, 14, .inl (upd (tN aF) lv (nI f)))), (ma 9, .inl (G.1, 14, .inl (upd (tN nF) lv (nI n)))), (ma 10, .inl (G.1, 14, .inl (upd lo lv a))), (ma 11, .inl (G.1, 14, .inl (upd hi lv b))), (ma 12, .inl (G.1, 14, .inl (upd be lv (-999)))), (ma 14, .inl (G.1, 14, .inl (tN tF)))] := hD
  refine lv_aload_n hx hb dX8_enters_39 rfl (lv_at hl 0 rfl) ?_
  refine va_get (D := D) (ci := 8) (v := .ref (ma 14)) (C := RX8) (T := TX8) (N := 24) hx hb hts inlX8 hown hK hP 0 rfl rfl 20 (by decide) (hts _ kw_5_20) (fun _ h9 => h9) rfl dX8_enters_40 ?_
  refine lv_iload_n hx hb dX8_enters_43 rfl (lv_at hl 1 rfl) ?_
  refine lv_iconst (v := 0) hx hb dX8_enters_44 (by decide) ?_
  refine ro_iast (k := lv) hx hb hK hP hD hS 6 0 rfl rfl rfl (by omega) (by decide) dX8_enters_45 (fun H locs hP hD hS => ?_)
  have hP : va_P D vwCl [(q, .inr (8, [.ref (ma 0), .ref (ma 1), .int (nI sN), .ref (ma 2), .int (nI L), .int th, .ref (ma 3), .ref (ma 4), .ref (ma 5), .ref (ma 6), .int (nI nN), .int ct, .int ht, .ref (ma 7), .ref (ma 8), .ref (ma 9), .ref (ma 10), .ref (ma 11), .ref (ma 12), .ref (ma 13), .ref (ma 14), .int sp, .int iw, .int mn])), (ma 8, .inl (G.1, 14, .inl (upd (tN aF) lv (nI f)))), (ma 9, .inl (G.1, 14, .inl (upd (tN nF) lv (nI n)))), (ma 10, .inl (G.1, 14, .inl (upd lo lv a))), (ma 11, .inl (G.1, 14, .inl (upd hi lv b))), (ma 12, .inl (G.1, 14, .inl (upd be lv (-999)))), (ma 14, .inl (G.1, 14, .inl (upd (tN tF) lv 0)))] H := hP
  have hD : va_D A [(q, .inr (8, [.ref (ma 0), .ref (ma 1), .int (nI sN), .ref (ma 2), .int (nI L), .int th, .ref (ma 3), .ref (ma 4), .ref (ma 5), .ref (ma 6), .int (nI nN), .int ct, .int ht, .ref (ma 7), .ref (ma 8), .ref (ma 9), .ref (ma 10), .ref (ma 11), .ref (ma 12), .ref (ma 13), .ref (ma 14), .int sp, .int iw, .int mn])), (ma 8, .inl (G.1, 14, .inl (upd (tN aF) lv (nI f)))), (ma 9, .inl (G.1, 14, .inl (upd (tN nF) lv (nI n)))), (ma 10, .inl (G.1, 14, .inl (upd lo lv a))), (ma 11, .inl (G.1, 14, .inl (upd hi lv b))), (ma 12, .inl (G.1, 14, .inl (upd be lv (-999)))), (ma 14, .inl (G.1, 14, .inl (upd (tN tF) lv 0)))] := hD
  refine lv_aload_n hx hb dX8_enters_46 rfl (lv_at hl 0 rfl) ?_
  refine lv_dup hx hb dX8_enters_47 rfl ?_
  refine va_get (D := D) (ci := 8) (v := .int (nI nN)) (C := RX8) (T := TX8) (N := 24) hx hb hts inlX8 hown hK hP 0 rfl rfl 10 (by decide) (hts _ kw_21_1) (fun _ h9 => h9) rfl dX8_enters_48 ?_
  refine lv_iconst (v := 1) hx hb dX8_enters_51 (by decide) ?_
  refine ro_iadd (z := nI (nN + 1)) hx hb (nI_add nN 1) dX8_enters_52 ?_
  refine va_put (D := D) (ci := 8) (v := .int (nI (nN + 1))) (ty := .int) (C := RX8) (T := TX8) (N := 24) hx hb hts inlX8 tyX8 tyX8_ok nmX8 hown hK hP hD hS 0 rfl rfl 10 (by decide) (hts _ kw_21_1) (fun _ h9 => h9) rfl (by decide +kernel) rfl rfl (Nat.le_of_ble_eq_true rfl) dX8_enters_53 (fun H locs hP hD hS => ?_)
  have hP : va_P D vwCl [(q, .inr (8, [.ref (ma 0), .ref (ma 1), .int (nI sN), .ref (ma 2), .int (nI L), .int th, .ref (ma 3), .ref (ma 4), .ref (ma 5), .ref (ma 6), .int (nI (nN + 1)), .int ct, .int ht, .ref (ma 7), .ref (ma 8), .ref (ma 9), .ref (ma 10), .ref (ma 11), .ref (ma 12), .ref (ma 13), .ref (ma 14), .int sp, .int iw, .int mn])), (ma 8, .inl (G.1, 14, .inl (upd (tN aF) lv (nI f)))), (ma 9, .inl (G.1, 14, .inl (upd (tN nF) lv (nI n)))), (ma 10, .inl (G.1, 14, .inl (upd lo lv a))), (ma 11, .inl (G.1, 14, .inl (upd hi lv b))), (ma 12, .inl (G.1, 14, .inl (upd be lv (-999)))), (ma 14, .inl (G.1, 14, .inl (upd (tN tF) lv 0)))] H := hP
  have hD : va_D A [(q, .inr (8, [.ref (ma 0), .ref (ma 1), .int (nI sN), .ref (ma 2), .int (nI L), .int th, .ref (ma 3), .ref (ma 4), .ref (ma 5), .ref (ma 6), .int (nI (nN + 1)), .int ct, .int ht, .ref (ma 7), .ref (ma 8), .ref (ma 9), .ref (ma 10), .ref (ma 11), .ref (ma 12), .ref (ma 13), .ref (ma 14), .int sp, .int iw, .int mn])), (ma 8, .inl (G.1, 14, .inl (upd (tN aF) lv (nI f)))), (ma 9, .inl (G.1, 14, .inl (upd (tN nF) lv (nI n)))), (ma 10, .inl (G.1, 14, .inl (upd lo lv a))), (ma 11, .inl (G.1, 14, .inl (upd hi lv b))), (ma 12, .inl (G.1, 14, .inl (upd be lv (-999)))), (ma 14, .inl (G.1, 14, .inl (upd (tN tF) lv 0)))] := hD
  exact endV C () trivial hS (by rw [← tN_up, ← tN_up, ← tN_up]; exact hP) (hD.fst rfl) dX8_enters_56
