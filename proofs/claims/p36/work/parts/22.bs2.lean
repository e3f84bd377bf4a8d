set_option maxHeartbeats 800000 in
set_option maxRecDepth 100000 in
theorem mX7_mixPiles (l : Launch) (D : va_G) (G : u_G) (q : Nat) (sa ha ta fa ea : Nat → Nat) (x : Nat → Nat) (y p : Nat → Int32) (h : Int64) (hfn : x 13 + x 14 ≤ 12) : MtL l D G yX7_mixPiles cX7_mixPiles 6 2 0 0 [.ref q, .long h] [(q, .inr (7, [.ref (sa 0), .ref (ha 0), .ref (ta 0), .ref (fa 0), .ref (ea 0)])), (sa 0, .inr (6, [.ref (sa 1), .ref (sa 3), .int (nI (x 18)), .int (nI (x 19)), .int (bI (x 20 = 0))])), (sa 1, .inr (2, [.ref (sa 2), .int (nI (x 13)), .int (nI (x 14)), .int (nI (x 15)), .int (y 16), .int (y 17)])), (sa 2, .inl (G.1, 12, .inl p)), (sa 3, .inr (0, [.int (y 21), .int (nI (x 22)), .int (y 23), .int (y 24), .ref (sa 4), .ref (sa 5)])), (sa 4, .inl (G.1, 144, .inl (kdY y))), (sa 5, .inl (G.1, 144, .inl (vlY y)))] (fun (r : Int64) (_ : Unit) => r = mpl p (x 13) h (x 14)) (fun (_ : Unit) => [(q, .inr (7, [.ref (sa 0), .ref (ha 0), .ref (ta 0), .ref (fa 0), .ref (ea 0)])), (sa 0, .inr (6, [.ref (sa 1), .ref (sa 3), .int (nI (x 18)), .int (nI (x 19)), .int (bI (x 20 = 0))])), (sa 1, .inr (2, [.ref (sa 2), .int (nI (x 13)), .int (nI (x 14)), .int (nI (x 15)), .int (y 16), .int (y 17)])), (sa 2, .inl (G.1, 12, .inl p)), (sa 3, .inr (0, [.int (y 21), .int (nI (x 22)), .int (y 23), .int (y 24), .ref (sa 4), .ref (sa 5)])), (sa 4, .inl (G.1, 144, .inl (kdY y))), (sa 5, .inl (G.1, 144, .inl (vlY y)))]) := by
  refine MtL.of (by decide) (Nat.le_of_ble_eq_true rfl) ?_
  intro pr e s9 m9 below meth c9 A ls C hP hD hl
  obtain ⟨hx, hb, hml, hown, hts, hr, hlocks, hA, hAm⟩ := id C
  have hK := hAm.1
  have hS : va_S A s9.heap s9.heap [] := va_S.rf
  have hl : lv_has ls 6 [(0, .ref q), (1, .long h)] := hl
  refine lv_lload_n hx hb dX7_mixPiles_0 rfl (lv_at hl 1 rfl) ?_
  refine lv_lstore_n (lv' := [(3, .long h), (0, .ref q), (1, .long h)]) hx hb dX7_mixPiles_1 rfl hl (by decide) rfl (fun ls hl => ?_)
  refine lv_iconst (v := 0) hx hb dX7_mixPiles_2 (by decide) ?_
  refine lv_istore (lv' := [(5, .int 0), (3, .long h), (0, .ref q), (1, .long h)]) hx hb dX7_mixPiles_3 hl (by decide) rfl (fun ls hl => ?_)
  have lp5 : ∀ (n5 : Nat) (i : Nat) (hi : i ≤ x 14) (_ : x 14 - i < n5) (H : Heap) (locs : List Loc) (ls : Array Slot), va_P D vwCl [(q, .inr (7, [.ref (sa 0), .ref (ha 0), .ref (ta 0), .ref (fa 0), .ref (ea 0)])), (sa 0, .inr (6, [.ref (sa 1), .ref (sa 3), .int (nI (x 18)), .int (nI (x 19)), .int (bI (x 20 = 0))])), (sa 1, .inr (2, [.ref (sa 2), .int (nI (x 13)), .int (nI (x 14)), .int (nI (x 15)), .int (y 16), .int (y 17)])), (sa 2, .inl (G.1, 12, .inl p)), (sa 3, .inr (0, [.int (y 21), .int (nI (x 22)), .int (y 23), .int (y 24), .ref (sa 4), .ref (sa 5)])), (sa 4, .inl (G.1, 144, .inl (kdY y))), (sa 5, .inl (G.1, 144, .inl (vlY y)))] H → va_D A [(q, .inr (7, [.ref (sa 0), .ref (ha 0), .ref (ta 0), .ref (fa 0), .ref (ea 0)])), (sa 0, .inr (6, [.ref (sa 1), .ref (sa 3), .int (nI (x 18)), .int (nI (x 19)), .int (bI (x 20 = 0))])), (sa 1, .inr (2, [.ref (sa 2), .int (nI (x 13)), .int (nI (x 14)), .int (nI (x 15)), .int (y 16), .int (y 17)])), (sa 2, .inl (G.1, 12, .inl p)), (sa 3, .inr (0, [.int (y 21), .int (nI (x 22)), .int (y 23), .int (y 24), .ref (sa 4), .ref (sa 5)])), (sa 4, .inl (G.1, 144, .inl (kdY y))), (sa 5, .inl (G.1, 144, .inl (vlY y)))] → va_S A s9.heap H locs → lv_has ls 6 [(0, .ref q), (1, .long h), (3, .long (mpl p (x 13) h i)), (5, .int (nI i))] → W pr l e (rmG 2 0 0) s9 m9 (List.toArray [.ref q, .long h]) below meth c9 H locs 0 0 (MQ below (va_Ql (fun (r : Int64) (_ : Unit) => r = mpl p (x 13) h (x 14)) (fun u9 t9 => WB D ((fun (_ : Unit) => [(q, .inr (7, [.ref (sa 0), .ref (ha 0), .ref (ta 0), .ref (fa 0), .ref (ea 0)])), (sa 0, .inr (6, [.ref (sa 1), .ref (sa 3), .int (nI (x 18)), .int (nI (x 19)), .int (bI (x 20 = 0))])), (sa 1, .inr (2, [.ref (sa 2), .int (nI (x 13)), .int (nI (x 14)), .int (nI (x 15)), .int (y 16), .int (y 17)])), (sa 2, .inl (G.1, 12, .inl p)), (sa 3, .inr (0, [.int (y 21), .int (nI (x 22)), .int (y 23), .int (y 24), .ref (sa 4), .ref (sa 5)])), (sa 4, .inl (G.1, 144, .inl (kdY y))), (sa 5, .inl (G.1, 144, .inl (vlY y)))]) u9) t9) A) (List.toArray [.ref q, .long h]) s9 0 0 A) (F0 m9 5 ls []) := by
    intro n5
    induction n5 with
    | zero => intro i hi hm; exact absurd hm (Nat.not_lt_zero _)
    | succ n5 ih5 =>
      intro i hi hm H locs ls hP hD hS hl
      refine lv_iload hx hb dX7_mixPiles_5 (lv_at hl 3 rfl) ?_
      refine lv_aload_n hx hb dX7_mixPiles_7 rfl (lv_at hl 0 rfl) ?_
      refine va_get (D := D) (ci := 7) (v := .ref (sa 0)) (C := RX7) (T := TX7) (N := 5) hx hb hts inlX7 hown hK hP 0 rfl rfl 0 (by decide) (hts _ kw_1_13) (fun _ h9 => h9) rfl dX7_mixPiles_8 ?_
      refine va_get (D := D) (ci := 6) (v := .ref (sa 1)) (C := RX6) (T := TX6) (N := 5) hx hb hts inlX6 hown hK hP 1 rfl rfl 0 (by decide) (hts _ kw_5_11) (fun _ h9 => h9) rfl dX7_mixPiles_11 ?_
      refine va_get (D := D) (ci := 2) (v := .int (nI (x 14))) (C := RX2) (T := TX2) (N := 6) hx hb hts inlX2 hown hK hP 2 rfl rfl 2 (by decide) (hts _ kw_12_5) (fun _ h9 => h9) rfl dX7_mixPiles_14 ?_
      refine lv_icmp_ge (tgt := 57) hx hb dX7_mixPiles_17 (by decide) (fun c_17 => ?_) (fun c_17 => ?_)
      · have c_17 := nle_t (a := x 14) (b := i) (by omega) (by omega) c_17
        refine lv_lload_n hx hb dX7_mixPiles_57 rfl (lv_at hl 2 rfl) ?_
        exact endL C () (by rw [show i = x 14 by omega]) hS hP dX7_mixPiles_58
      · have c_17 := nle_f (a := x 14) (b := i) (by omega) (by omega) c_17
        refine lv_lload_n hx hb dX7_mixPiles_20 rfl (lv_at hl 2 rfl) ?_
        refine lv_aload_n hx hb dX7_mixPiles_21 rfl (lv_at hl 0 rfl) ?_
        refine va_get (D := D) (ci := 7) (v := .ref (sa 0)) (C := RX7) (T := TX7) (N := 5) hx hb hts inlX7 hown hK hP 0 rfl rfl 0 (by decide) (hts _ kw_1_13) (fun _ h9 => h9) rfl dX7_mixPiles_22 ?_
        refine va_get (D := D) (ci := 6) (v := .ref (sa 1)) (C := RX6) (T := TX6) (N := 5) hx hb hts inlX6 hown hK hP 1 rfl rfl 0 (by decide) (hts _ kw_5_11) (fun _ h9 => h9) rfl dX7_mixPiles_25 ?_
        refine va_get (D := D) (ci := 2) (v := .ref (sa 2)) (C := RX2) (T := TX2) (N := 6) hx hb hts inlX2 hown hK hP 2 rfl rfl 0 (by decide) (hts _ kw_13_6) (fun _ h9 => h9) rfl dX7_mixPiles_28 ?_
        refine lv_aload_n hx hb dX7_mixPiles_31 rfl (lv_at hl 0 rfl) ?_
        refine va_get (D := D) (ci := 7) (v := .ref (sa 0)) (C := RX7) (T := TX7) (N := 5) hx hb hts inlX7 hown hK hP 0 rfl rfl 0 (by decide) (hts _ kw_1_13) (fun _ h9 => h9) rfl dX7_mixPiles_32 ?_
        refine va_get (D := D) (ci := 6) (v := .ref (sa 1)) (C := RX6) (T := TX6) (N := 5) hx hb hts inlX6 hown hK hP 1 rfl rfl 0 (by decide) (hts _ kw_5_11) (fun _ h9 => h9) rfl dX7_mixPiles_35 ?_
        refine va_get (D := D) (ci := 2) (v := .int (nI (x 13))) (C := RX2) (T := TX2) (N := 6) hx hb hts inlX2 hown hK hP 2 rfl rfl 1 (by decide) (hts _ kw_13_7) (fun _ h9 => h9) rfl dX7_mixPiles_38 ?_
        refine lv_iload hx hb dX7_mixPiles_41 (lv_at hl 3 rfl) ?_
        refine ro_iadd (z := nI (x 13 + i)) hx hb (nI_add (x 13) i) dX7_mixPiles_43 ?_
        refine aftI0 C (runS_G (As := [.ref (sa 2), .int (nI (x 13 + i))]) (rest := [.long (mpl p (x 13) h i)]) C (mX7_at l D G (sa 2) 12 p (x 13 + i) (by omega) (by omega)) hS hP hD [3] rfl (by decide) (ys_X7_at) kw_8_1 kw_7_21 ⟨Nat.le_of_ble_eq_true rfl, Nat.le_of_ble_eq_true rfl⟩ hl.1 (Nat.le_of_ble_eq_true rfl) dX7_mixPiles_44 rfl rfl ⟨Nat.zero_le _, Nat.zero_le _⟩) hS hP hD [3] rfl (fun r44 _ H locs hp44 hP hS => ?_)
        refine ro_top (z := p (x 13 + i)) hx hp44 ?_
        refine aftL0 C (runS_G (As := [.long (mpl p (x 13) h i), .int (p (x 13 + i))]) (rest := []) C (mX7_mix l D G (mpl p (x 13) h i) (p (x 13 + i)) ) hS hP hD [] rfl (by decide) (ys_X7_mix) kw_21_1 kw_21_2 ⟨Nat.le_of_ble_eq_true rfl, Nat.le_of_ble_eq_true rfl⟩ hl.1 (Nat.le_of_ble_eq_true rfl) dX7_mixPiles_47 rfl rfl ⟨Nat.zero_le _, Nat.zero_le _⟩) hS hP hD [] rfl (fun r47 _ H locs hp47 hP hS => ?_)
        refine ro_topL (z := mi (mpl p (x 13) h i) (p (x 13 + i))) hx hp47 ?_
        refine lv_lstore_n (lv' := [(3, .long (mi (mpl p (x 13) h i) (p (x 13 + i)))), (0, .ref q), (1, .long h), (5, .int (nI i))]) hx hb dX7_mixPiles_50 rfl hl (by decide) rfl (fun ls hl => ?_)
        refine lv_iinc (v := nI (i + 1)) (lv' := [(5, .int (nI (i + 1))), (3, .long (mi (mpl p (x 13) h i) (p (x 13 + i)))), (0, .ref q), (1, .long h)]) hx hb dX7_mixPiles_51 hl (k := 3) rfl (nI_add i 1) (by decide) rfl (fun ls hl => ?_)
        refine lv_goto (tgt := 5) hx hb dX7_mixPiles_54 (by decide) ?_
        exact ih5 (i + 1) (by omega) (by omega) _ _ _ hP (hD.fst rfl) hS (lv_sub hl [2, 3, 1, 0] rfl)
  exact lp5 (x 14 - 0 + 1) 0 (by omega) (Nat.lt_succ_self _) _ _ _ hP (hD.fst rfl) hS (lv_sub hl [2, 3, 1, 0] rfl)
set_option maxHeartbeats 800000 in
set_option maxRecDepth 100000 in
theorem mX7_mixLine (l : Launch) (D : va_G) (G : u_G) (q : Nat) (sa ha ta fa ea : Nat → Nat) (x : Nat → Nat) (y p : Nat → Int32) (sv : Nat → Int32) (h : Int64) (hfn : x 13 + x 14 ≤ 12) (hPR : PR p) (hSV : SV p sv (x 13 + x 14)) : MtL l D G yX7_mixLine cX7_mixLine 9 6 0 0 [.ref q, .long h] [(q, .inr (7, [.ref (sa 0), .ref (ha 0), .ref (ta 0), .ref (fa 0), .ref (ea 0)])), (sa 0, .inr (6, [.ref (sa 1), .ref (sa 3), .int (nI (x 18)), .int (nI (x 19)), .int (bI (x 20 = 0))])), (sa 1, .inr (2, [.ref (sa 2), .int (nI (x 13)), .int (nI (x 14)), .int (nI (x 15)), .int (y 16), .int (y 17)])), (sa 2, .inl (G.1, 12, .inl p)), (sa 3, .inr (0, [.int (y 21), .int (nI (x 22)), .int (y 23), .int (y 24), .ref (sa 4), .ref (sa 5)])), (sa 4, .inl (G.1, 144, .inl (kdY y))), (sa 5, .inl (G.1, 144, .inl (vlY y))), (fa 0, .inr (1, [.ref (fa 1), .ref (fa 2)])), (fa 1, .inl (G.1, 12, .inl p)), (fa 2, .inl (G.1, 144, .inl sv))] (fun (r : Int64) (_ : Unit) => r = mln p (x 13) (x 14) h 12) (fun (_ : Unit) => [(q, .inr (7, [.ref (sa 0), .ref (ha 0), .ref (ta 0), .ref (fa 0), .ref (ea 0)])), (sa 0, .inr (6, [.ref (sa 1), .ref (sa 3), .int (nI (x 18)), .int (nI (x 19)), .int (bI (x 20 = 0))])), (sa 1, .inr (2, [.ref (sa 2), .int (nI (x 13)), .int (nI (x 14)), .int (nI (x 15)), .int (y 16), .int (y 17)])), (sa 2, .inl (G.1, 12, .inl p)), (sa 3, .inr (0, [.int (y 21), .int (nI (x 22)), .int (y 23), .int (y 24), .ref (sa 4), .ref (sa 5)])), (sa 4, .inl (G.1, 144, .inl (kdY y))), (sa 5, .inl (G.1, 144, .inl (vlY y))), (fa 0, .inr (1, [.ref (fa 1), .ref (fa 2)])), (fa 1, .inl (G.1, 12, .inl p)), (fa 2, .inl (G.1, 144, .inl sv))]) := by
  refine MtL.of (by decide) (Nat.le_of_ble_eq_true rfl) ?_
  intro pr e s9 m9 below meth c9 A ls C hP hD hl
  obtain ⟨hx, hb, hml, hown, hts, hr, hlocks, hA, hAm⟩ := id C
  have hK := hAm.1
  have hS : va_S A s9.heap s9.heap [] := va_S.rf
  have hl : lv_has ls 9 [(0, .ref q), (1, .long h)] := hl
  refine lv_lload_n hx hb dX7_mixLine_0 rfl (lv_at hl 1 rfl) ?_
  refine lv_lstore_n (lv' := [(3, .long h), (0, .ref q), (1, .long h)]) hx hb dX7_mixLine_1 rfl hl (by decide) rfl (fun ls hl => ?_)
  refine lv_aload_n hx hb dX7_mixLine_2 rfl (lv_at hl 1 rfl) ?_
  refine va_get (D := D) (ci := 7) (v := .ref (sa 0)) (C := RX7) (T := TX7) (N := 5) hx hb hts inlX7 hown hK hP 0 rfl rfl 0 (by decide) (hts _ kw_1_13) (fun _ h9 => h9) rfl dX7_mixLine_3 ?_
  refine va_get (D := D) (ci := 6) (v := .ref (sa 1)) (C := RX6) (T := TX6) (N := 5) hx hb hts inlX6 hown hK hP 1 rfl rfl 0 (by decide) (hts _ kw_5_11) (fun _ h9 => h9) rfl dX7_mixLine_6 ?_
  refine va_get (D := D) (ci := 2) (v := .int (nI (x 13))) (C := RX2) (T := TX2) (N := 6) hx hb hts inlX2 hown hK hP 2 rfl rfl 1 (by decide) (hts _ kw_13_7) (fun _ h9 => h9) rfl dX7_mixLine_9 ?_
  refine lv_istore (lv' := [(5, .int (nI (x 13))), (3, .long h), (0, .ref q), (1, .long h)]) hx hb dX7_mixLine_12 hl (by decide) rfl (fun ls hl => ?_)
  refine lv_aload_n hx hb dX7_mixLine_14 rfl (lv_at hl 2 rfl) ?_
  refine va_get (D := D) (ci := 7) (v := .ref (sa 0)) (C := RX7) (T := TX7) (N := 5) hx hb hts inlX7 hown hK hP 0 rfl rfl 0 (by decide) (hts _ kw_1_13) (fun _ h9 => h9) rfl dX7_mixLine_15 ?_
  refine va_get (D := D) (ci := 6) (v := .ref (sa 1)) (C := RX6) (T := TX6) (N := 5) hx hb hts inlX6 hown hK hP 1 rfl rfl 0 (by decide) (hts _ kw_5_11) (fun _ h9 => h9) rfl dX7_mixLine_18 ?_
  refine va_get (D := D) (ci := 2) (v := .int (nI (x 14))) (C := RX2) (T := TX2) (N := 6) hx hb hts inlX2 hown hK hP 2 rfl rfl 2 (by decide) (hts _ kw_12_5) (fun _ h9 => h9) rfl dX7_mixLine_21 ?_
  refine lv_istore (lv' := [(6, .int (nI (x 14))), (5, .int (nI (x 13))), (3, .long h), (0, .ref q), (1, .long h)]) hx hb dX7_mixLine_24 hl (by decide) rfl (fun ls hl => ?_)
  refine lv_iconst (v := 0) hx hb dX7_mixLine_26 (by decide) ?_
  refine lv_istore (lv' := [(7, .int 0), (6, .int (nI (x 14))), (5, .int (nI (x 13))), (3, .long h), (0, .ref q), (1, .long h)]) hx hb dX7_mixLine_27 hl (by decide) rfl (fun ls hl => ?_)
  have lp29 : ∀ (n29 : Nat) (i : Nat) (F9 : Nat) (N9 : Nat) (h9 : Int64) (hi : i ≤ 12) (hF : lpos p (x 13) (x 14) i = (F9, N9)) (hH : mln p (x 13) (x 14) h i = h9) (_ : 12 - i < n29) (H : Heap) (locs : List Loc) (ls : Array Slot), va_P D vwCl [(q, .inr (7, [.ref (sa 0), .ref (ha 0), .ref (ta 0), .ref (fa 0), .ref (ea 0)])), (sa 0, .inr (6, [.ref (sa 1), .ref (sa 3), .int (nI (x 18)), .int (nI (x 19)), .int (bI (x 20 = 0))])), (sa 1, .inr (2, [.ref (sa 2), .int (nI (x 13)), .int (nI (x 14)), .int (nI (x 15)), .int (y 16), .int (y 17)])), (sa 2, .inl (G.1, 12, .inl p)), (sa 3, .inr (0, [.int (y 21), .int (nI (x 22)), .int (y 23), .int (y 24), .ref (sa 4), .ref (sa 5)])), (sa 4, .inl (G.1, 144, .inl (kdY y))), (sa 5, .inl (G.1, 144, .inl (vlY y))), (fa 0, .inr (1, [.ref (fa 1), .ref (fa 2)])), (fa 1, .inl (G.1, 12, .inl p)), (fa 2, .inl (G.1, 144, .inl sv))] H → va_D A [(q, .inr (7, [.ref (sa 0), .ref (ha 0), .ref (ta 0), .ref (fa 0), .ref (ea 0)])), (sa 0, .inr (6, [.ref (sa 1), .ref (sa 3), .int (nI (x 18)), .int (nI (x 19)), .int (bI (x 20 = 0))])), (sa 1, .inr (2, [.ref (sa 2), .int (nI (x 13)), .int (nI (x 14)), .int (nI (x 15)), .int (y 16), .int (y 17)])), (sa 2, .inl (G.1, 12, .inl p)), (sa 3, .inr (0, [.int (y 21), .int (nI (x 22)), .int (y 23), .int (y 24), .ref (sa 4), .ref (sa 5)])), (sa 4, .inl (G.1, 144, .inl (kdY y))), (sa 5, .inl (G.1, 144, .inl (vlY y))), (fa 0, .inr (1, [.ref (fa 1), .ref (fa 2)])), (fa 1, .inl (G.1, 12, .inl p)), (fa 2, .inl (G.1, 144, .inl sv))] → va_S A s9.heap H locs → lv_has ls 9 [(0, .ref q), (1, .long h), (3, .long h9), (5, .int (nI F9)), (6, .int (nI N9)), (7, .int (nI i))] → W pr l e (rmG 6 0 0) s9 m9 (List.toArray [.ref q, .long h]) below meth c9 H locs 0 0 (MQ below (va_Ql (fun (r : Int64) (_ : Unit) => r = mln p (x 13) (x 14) h 12) (fun u9 t9 => WB D ((fun (_ : Unit) => [(q, .inr (7, [.ref (sa 0), .ref (ha 0), .ref (ta 0), .ref (fa 0), .ref (ea 0)])), (sa 0, .inr (6, [.ref (sa 1), .ref (sa 3), .int (nI (x 18)), .int (nI (x 19)), .int (bI (x 20 = 0))])), (sa 1, .inr (2, [.ref (sa 2), .int (nI (x 13)), .int (nI (x 14)), .int (nI (x 15)), .int (y 16), .int (y 17)])), (sa 2, .inl (G.1, 12, .inl p)), (sa 3, .inr (0, [.int (y 21), .int (nI (x 22)), .int (y 23), .int (y 24), .ref (sa 4), .ref (sa 5)])), (sa 4, .inl (G.1, 144, .inl (kdY y))), (sa 5, .inl (G.1, 144, .inl (vlY y))), (fa 0, .inr (1, [.ref (fa 1), .ref (fa 2)])), (fa 1, .inl (G.1, 12, .inl p)), (fa 2, .inl (G.1, 144, .inl sv))]) u9) t9) A) (List.toArray [.ref q, .long h]) s9 0 0 A) (F0 m9 29 ls []) := by
    intro n29
    induction n29 with
    | zero => intro i F9 N9 h9 hi hF hH hm; exact absurd hm (Nat.not_lt_zero _)
    | succ n29 ih29 =>
      intro i F9 N9 h9 hi hF hH hm H locs ls hP hD hS hl
      have hlp := lpos_in' hPR hfn hF
      refine lv_iload hx hb dX7_mixLine_29 (lv_at hl 5 rfl) ?_
      refine lv_bipush (v := 12) hx hb dX7_mixLine_31 (by decide) ?_
      refine lv_icmp_ge (tgt := 85) hx hb dX7_mixLine_33 (by decide) (fun c_33 => ?_) (fun c_33 => ?_)
      · have c_33 := nle_t (a := 12) (b := i) (by omega) (by omega) c_33
        refine lv_lload_n hx hb dX7_mixLine_85 rfl (lv_at hl 2 rfl) ?_
        exact endL C () (by rw [← hH, show i = 12 by omega]) hS hP dX7_mixLine_86
      · have c_33 := nle_f (a := 12) (b := i) (by omega) (by omega) c_33
        refine lv_iload hx hb dX7_mixLine_36 (lv_at hl 4 rfl) ?_
        refine lv_if_le (tgt := 85) hx hb dX7_mixLine_38 (by decide) (fun c_38 => ?_) (fun c_38 => ?_)
        · have c_38 := nle_t (a := N9) (b := 0) (by omega) (by omega) c_38
          refine lv_lload_n hx hb dX7_mixLine_85 rfl (lv_at hl 2 rfl) ?_
          exact endL C () (by obtain ⟨j, hj⟩ : ∃ j, 12 = i + j := ⟨12 - i, by omega⟩; rw [hj, mln_end (by rw [hF]; show N9 = 0; omega), hH]) hS hP dX7_mixLine_86
        · have c_38 := nle_f (a := N9) (b := 0) (by omega) (by omega) c_38
          refine lv_aload_n hx hb dX7_mixLine_41 rfl (lv_at hl 0 rfl) ?_
          refine va_get (D := D) (ci := 7) (v := .ref (fa 0)) (C := RX7) (T := TX7) (N := 5) hx hb hts inlX7 hown hK hP 0 rfl rfl 3 (by decide) (hts _ kw_2_1) (fun _ h9 => h9) rfl dX7_mixLine_42 ?_
          refine lv_iload hx hb dX7_mixLine_45 (lv_at hl 3 rfl) ?_
          refine lv_iload hx hb dX7_mixLine_47 (lv_at hl 4 rfl) ?_
          refine aftI0 C (runV_G (As := [.int (nI F9), .int (nI N9)]) (rest := []) (ci := 1) (N := 2) (T := TX1) (q0 := 7) C (mX1_bestMoveAt l D G (fa 0) (fa 1) (fa 2) F9 N9 p sv (by omega)) hS hP hD [7, 8, 9] rfl (by decide) rfl rfl (ys_X1_bestMoveAt) kw_13_17 kw_6_18 kw_6_19 ⟨Nat.le_of_ble_eq_true rfl, Nat.le_of_ble_eq_true rfl⟩ hl.1 (Nat.le_of_ble_eq_true rfl) dX7_mixLine_49 rfl rfl ⟨Nat.zero_le _, Nat.zero_le _⟩) hS hP hD [7, 8, 9] rfl (fun r49 _ H locs hp49 hP hS => ?_)
          refine ro_top (z := (bm (rV p (vat sv) F9 N9) 4).1) hx hp49 ?_
          obtain ⟨b1, b2, b3, b4⟩ := bN_spec hPR (f := F9) (n := N9) (by omega) (by omega)
          refine ro_top (z := nI (bN p F9 N9)) hx (by rw [SV_bm hSV (by omega), b3]) ?_
          refine lv_istore (lv' := [(8, .int (nI (bN p F9 N9))), (0, .ref q), (1, .long h), (3, .long h9), (5, .int (nI F9)), (6, .int (nI N9)), (7, .int (nI i))]) hx hb dX7_mixLine_52 hl (by decide) rfl (fun ls hl => ?_)
          refine lv_lload_n hx hb dX7_mixLine_54 rfl (lv_at hl 3 rfl) ?_
          refine lv_iload hx hb dX7_mixLine_55 (lv_at hl 0 rfl) ?_
          refine aftL0 C (runS_G (As := [.long h9, .int (nI (bN p F9 N9))]) (rest := []) C (mX7_mix l D G h9 (nI (bN p F9 N9)) ) hS hP hD [] rfl (by decide) (ys_X7_mix) kw_21_1 kw_21_2 ⟨Nat.le_of_ble_eq_true rfl, Nat.le_of_ble_eq_true rfl⟩ hl.1 (Nat.le_of_ble_eq_true rfl) dX7_mixLine_57 rfl rfl ⟨Nat.zero_le _, Nat.zero_le _⟩) hS hP hD [] rfl (fun r57 _ H locs hp57 hP hS => ?_)
          refine ro_topL (z := mi h9 (nI (bN p F9 N9))) hx hp57 ?_
          refine lv_lstore_n (lv' := [(3, .long (mi h9 (nI (bN p F9 N9)))), (8, .int (nI (bN p F9 N9))), (0, .ref q), (1, .long h), (5, .int (nI F9)), (6, .int (nI N9)), (7, .int (nI i))]) hx hb dX7_mixLine_60 rfl hl (by decide) rfl (fun ls hl => ?_)
          refine lv_iload hx hb dX7_mixLine_61 (lv_at hl 4 rfl) ?_
          refine lv_iload hx hb dX7_mixLine_63 (lv_at hl 1 rfl) ?_
          refine aftI0 C (runS_G (As := [.int (nI F9), .int (nI (bN p F9 N9))]) (rest := []) C (mX7_firstAfter l D G F9 (bN p F9 N9) b1 (by omega)) hS hP hD [] rfl (by decide) (ys_X7_firstAfter) kw_14_18 kw_7_8 ⟨Nat.le_of_ble_eq_true rfl, Nat.le_of_ble_eq_true rfl⟩ hl.1 (Nat.le_of_ble_eq_true rfl) dX7_mixLine_65 rfl rfl ⟨Nat.zero_le _, Nat.zero_le _⟩) hS hP hD [] rfl (fun r65 _ H locs hp65 hP hS => ?_)
          refine ro_top (z := nI (bh F9 (bN p F9 N9))) hx hp65 ?_
          refine lv_istore (lv' := [(5, .int (nI (bh F9 (bN p F9 N9)))), (3, .long (mi h9 (nI (bN p F9 N9)))), (8, .int (nI (bN p F9 N9))), (0, .ref q), (1, .long h), (6, .int (nI N9)), (7, .int (nI i))]) hx hb dX7_mixLine_68 hl (by decide) rfl (fun ls hl => ?_)
          refine lv_iload hx hb dX7_mixLine_70 (lv_at hl 5 rfl) ?_
          refine lv_iload hx hb dX7_mixLine_72 (lv_at hl 2 rfl) ?_
          refine aftI0 C (runS_G (As := [.int (nI N9), .int (nI (bN p F9 N9))]) (rest := []) C (mX7_leftAfter l D G N9 (bN p F9 N9) b1 b2 (by omega)) hS hP hD [] rfl (by decide) (ys_X7_leftAfter) kw_14_19 kw_7_10 ⟨Nat.le_of_ble_eq_true rfl, Nat.le_of_ble_eq_true rfl⟩ hl.1 (Nat.le_of_ble_eq_true rfl) dX7_mixLine_74 rfl rfl ⟨Nat.zero_le _, Nat.zero_le _⟩) hS hP hD [] rfl (fun r74 _ H locs hp74 hP hS => ?_)
          refine ro_top (z := nI (N9 - tk (bN p F9 N9))) hx hp74 ?_
          refine lv_istore (lv' := [(6, .int (nI (N9 - tk (bN p F9 N9)))), (5, .int (nI (bh F9 (bN p F9 N9)))), (3, .long (mi h9 (nI (bN p F9 N9)))), (8, .int (nI (bN p F9 N9))), (0, .ref q), (1, .long h), (7, .int (nI i))]) hx hb dX7_mixLine_77 hl (by decide) rfl (fun ls hl => ?_)
          refine lv_iinc (v := nI (i + 1)) (lv' := [(7, .int (nI (i + 1))), (6, .int (nI (N9 - tk (bN p F9 N9)))), (5, .int (nI (bh F9 (bN p F9 N9)))), (3, .long (mi h9 (nI (bN p F9 N9)))), (8, .int (nI (bN p F9 N9))), (0, .ref q), (1, .long h)]) hx hb dX7_mixLine_79 hl (k := 6) rfl (nI_add i 1) (by decide) rfl (fun ls hl => ?_)
          refine lv_goto (tgt := 29) hx hb dX7_mixLine_82 (by decide) ?_
          exact ih29 (i + 1) (bh F9 (bN p F9 N9)) (N9 - tk (bN p F9 N9)) (mi h9 (nI (bN p F9 N9))) (by omega) (lpos_go' hF (by omega)) (by rw [mln_go' hF (by omega), hH]) (by omega) _ _ _ hP (hD.fst rfl) hS (lv_sub hl [5, 6, 3, 2, 1, 0] rfl)
  exact lp29 (12 - 0 + 1) 0 (x 13) (x 14) h (by omega) rfl rfl (Nat.lt_succ_self _) _ _ _ hP (hD.fst rfl) hS (lv_sub hl [4, 5, 3, 2, 1, 0] rfl)
set_option maxHeartbeats 800000 in
set_option maxRecDepth 100000 in
theorem mX7_mixTable (l : Launch) (D : va_G) (G : u_G) (q : Nat) (sa ha ta fa ea : Nat → Nat) (x : Nat → Nat) (y p : Nat → Int32) (h : Int64) : MtL l D G yX7_mixTable cX7_mixTable 7 2 0 0 [.ref q, .long h] [(q, .inr (7, [.ref (sa 0), .ref (ha 0), .ref (ta 0), .ref (fa 0), .ref (ea 0)])), (sa 0, .inr (6, [.ref (sa 1), .ref (sa 3), .int (nI (x 18)), .int (nI (x 19)), .int (bI (x 20 = 0))])), (sa 1, .inr (2, [.ref (sa 2), .int (nI (x 13)), .int (nI (x 14)), .int (nI (x 15)), .int (y 16), .int (y 17)])), (sa 2, .inl (G.1, 12, .inl p)), (sa 3, .inr (0, [.int (y 21), .int (nI (x 22)), .int (y 23), .int (y 24), .ref (sa 4), .ref (sa 5)])), (sa 4, .inl (G.1, 144, .inl (kdY y))), (sa 5, .inl (G.1, 144, .inl (vlY y)))] (fun (r : Int64) (_ : Unit) => r = mtb (kdY y) (vlY y) h 144) (fun (_ : Unit) => [(q, .inr (7, [.ref (sa 0), .ref (ha 0), .ref (ta 0), .ref (fa 0), .ref (ea 0)])), (sa 0, .inr (6, [.ref (sa 1), .ref (sa 3), .int (nI (x 18)), .int (nI (x 19)), .int (bI (x 20 = 0))])), (sa 1, .inr (2, [.ref (sa 2), .int (nI (x 13)), .int (nI (x 14)), .int (nI (x 15)), .int (y 16), .int (y 17)])), (sa 2, .inl (G.1, 12, .inl p)), (sa 3, .inr (0, [.int (y 21), .int (nI (x 22)), .int (y 23), .int (y 24), .ref (sa 4), .ref (sa 5)])), (sa 4, .inl (G.1, 144, .inl (kdY y))), (sa 5, .inl (G.1, 144, .inl (vlY y)))]) := by
  refine MtL.of (by decide) (Nat.le_of_ble_eq_true rfl) ?_
  intro pr e s9 m9 below meth c9 A ls C hP hD hl
  obtain ⟨hx, hb, hml, hown, hts, hr, hlocks, hA, hAm⟩ := id C
  have hK := hAm.1
  have hS : va_S A s9.heap s9.heap [] := va_S.rf
  have hl : lv_has ls 7 [(0, .ref q), (1, .long h)] := hl
  refine lv_lload_n hx hb dX7_mixTable_0 rfl (lv_at hl 1 rfl) ?_
  refine lv_lstore_n (lv' := [(3, .long h), (0, .ref q), (1, .long h)]) hx hb dX7_mixTable_1 rfl hl (by decide) rfl (fun ls hl => ?_)
  refine lv_iconst (v := 0) hx hb dX7_mixTable_2 (by decide) ?_
  refine lv_istore (lv' := [(5, .int 0), (3, .long h), (0, .ref q), (1, .long h)]) hx hb dX7_mixTable_3 hl (by decide) rfl (fun ls hl => ?_)
  have lp5 : ∀ (n5 : Nat) (i : Nat) (hi : i ≤ 144) (_ : 144 - i < n5) (H : Heap) (locs : List Loc) (ls : Array Slot), va_P D vwCl [(q, .inr (7, [.ref (sa 0), .ref (ha 0), .ref (ta 0), .ref (fa 0), .ref (ea 0)])), (sa 0, .inr (6, [.ref (sa 1), .ref (sa 3), .int (nI (x 18)), .int (nI (x 19)), .int (bI (x 20 = 0))])), (sa 1, .inr (2, [.ref (sa 2), .int (nI (x 13)), .int (nI (x 14)), .int (nI (x 15)), .int (y 16), .int (y 17)])), (sa 2, .inl (G.1, 12, .inl p)), (sa 3, .inr (0, [.int (y 21), .int (nI (x 22)), .int (y 23), .int (y 24), .ref (sa 4), .ref (sa 5)])), (sa 4, .inl (G.1, 144, .inl (kdY y))), (sa 5, .inl (G.1, 144, .inl (vlY y)))] H → va_D A [(q, .inr (7, [.ref (sa 0), .ref (ha 0), .ref (ta 0), .ref (fa 0), .ref (ea 0)])), (sa 0, .inr (6, [.ref (sa 1), .ref (sa 3), .int (nI (x 18)), .int (nI (x 19)), .int (bI (x 20 = 0))])), (sa 1, .inr (2, [.ref (sa 2), .int (nI (x 13)), .int (nI (x 14)), .int (nI (x 15)), .int (y 16), .int (y 17)])), (sa 2, .inl (G.1, 12, .inl p)), (sa 3, .inr (0, [.int (y 21), .int (nI (x 22)), .int (y 23), .int (y 24), .ref (sa 4), .ref (sa 5)])), (sa 4, .inl (G.1, 144, .inl (kdY y))), (sa 5, .inl (G.1, 144, .inl (vlY y)))] → va_S A s9.heap H locs → lv_has ls 7 [(0, .ref q), (1, .long h), (3, .long (mtb (kdY y) (vlY y) h i)), (5, .int (nI i))] → W pr l e (rmG 2 0 0) s9 m9 (List.toArray [.ref q, .long h]) below meth c9 H locs 0 0 (MQ below (va_Ql (fun (r : Int64) (_ : Unit) => r = mtb (kdY y) (vlY y) h 144) (fun u9 t9 => WB D ((fun (_ : Unit) => [(q, .inr (7, [.ref (sa 0), .ref (ha 0), .ref (ta 0), .ref (fa 0), .ref (ea 0)])), (sa 0, .inr (6, [.ref (sa 1), .ref (sa 3), .int (nI (x 18)), .int (nI (x 19)), .int (bI (x 20 = 0))])), (sa 1, .inr (2, [.ref (sa 2), .int (nI (x 13)), .int (nI (x 14)), .int (nI (x 15)), .int (y 16), .int (y 17)])), (sa 2, .inl (G.1, 12, .inl p)), (sa 3, .inr (0, [.int (y 21), .int (nI (x 22)), .int (y 23), .int (y 24), .ref (sa 4), .ref (sa 5)])), (sa 4, .inl (G.1, 144, .inl (kdY y))), (sa 5, .inl (G.1, 144, .inl (vlY y)))]) u9) t9) A) (List.toArray [.ref q, .long h]) s9 0 0 A) (F0 m9 5 ls []) := by
    intro n5
    induction n5 with
    | zero => intro i hi hm; exact absurd hm (Nat.not_lt_zero _)
    | succ n5 ih5 =>
      intro i hi hm H locs ls hP hD hS hl
      refine lv_iload hx hb dX7_mixTable_5 (lv_at hl 3 rfl) ?_
      refine lv_sipush (v := 144) hx hb dX7_mixTable_7 (by decide) ?_
      refine lv_icmp_ge (tgt := 74) hx hb dX7_mixTable_10 (by decide) (fun c_10 => ?_) (fun c_10 => ?_)
      · have c_10 := nle_t (a := 144) (b := i) (by omega) (by omega) c_10
        refine lv_lload_n hx hb dX7_mixTable_74 rfl (lv_at hl 2 rfl) ?_
        exact endL C () (by rw [show i = 144 by omega]) hS hP dX7_mixTable_75
      · have c_10 := nle_f (a := 144) (b := i) (by omega) (by omega) c_10
        refine lv_aload_n hx hb dX7_mixTable_13 rfl (lv_at hl 0 rfl) ?_
        refine va_get (D := D) (ci := 7) (v := .ref (sa 0)) (C := RX7) (T := TX7) (N := 5) hx hb hts inlX7 hown hK hP 0 rfl rfl 0 (by decide) (hts _ kw_1_13) (fun _ h9 => h9) rfl dX7_mixTable_14 ?_
        refine va_get (D := D) (ci := 6) (v := .ref (sa 3)) (C := RX6) (T := TX6) (N := 5) hx hb hts inlX6 hown hK hP 1 rfl rfl 1 (by decide) (hts _ kw_9_0) (fun _ h9 => h9) rfl dX7_mixTable_17 ?_
        refine va_get (D := D) (ci := 0) (v := .ref (sa 4)) (C := RX0) (T := TX0) (N := 6) hx hb hts inlX0 hown hK hP 4 rfl rfl 4 (by decide) (hts _ kw_15_3) (fun _ h9 => h9) rfl dX7_mixTable_20 ?_
        refine lv_iload hx hb dX7_mixTable_23 (lv_at hl 3 rfl) ?_
        refine aftI0 C (runS_G (As := [.ref (sa 4), .int (nI i)]) (rest := []) C (mX7_at l D G (sa 4) 144 (kdY y) i (by omega) (by omega)) hS hP hD [5] rfl (by decide) (ys_X7_at) kw_8_1 kw_7_21 ⟨Nat.le_of_ble_eq_true rfl, Nat.le_of_ble_eq_true rfl⟩ hl.1 (Nat.le_of_ble_eq_true rfl) dX7_mixTable_25 rfl rfl ⟨Nat.zero_le _, Nat.zero_le _⟩) hS hP hD [5] rfl (fun r25 _ H locs hp25 hP hS => ?_)
        refine ro_top (z := (kdY y) i) hx hp25 ?_
        refine lv_istore (lv' := [(6, .int ((kdY y) i)), (0, .ref q), (1, .long h), (3, .long (mtb (kdY y) (vlY y) h i)), (5, .int (nI i))]) hx hb dX7_mixTable_28 hl (by decide) rfl (fun ls hl => ?_)
        refine lv_lload_n hx hb dX7_mixTable_30 rfl (lv_at hl 3 rfl) ?_
        refine lv_iload hx hb dX7_mixTable_31 (lv_at hl 0 rfl) ?_
        refine aftL0 C (runS_G (As := [.long (mtb (kdY y) (vlY y) h i), .int ((kdY y) i)]) (rest := []) C (mX7_mix l D G (mtb (kdY y) (vlY y) h i) ((kdY y) i) ) hS hP hD [] rfl (by decide) (ys_X7_mix) kw_21_1 kw_21_2 ⟨Nat.le_of_ble_eq_true rfl, Nat.le_of_ble_eq_true rfl⟩ hl.1 (Nat.le_of_ble_eq_true rfl) dX7_mixTable_33 rfl rfl ⟨Nat.zero_le _, Nat.zero_le _⟩) hS hP hD [] rfl (fun r33 _ H locs hp33 hP hS => ?_)
        refine ro_topL (z := mi (mtb (kdY y) (vlY y) h i) ((kdY y) i)) hx hp33 ?_
        refine lv_lstore_n (lv' := [(3, .long (mi (mtb (kdY y) (vlY y) h i) ((kdY y) i))), (6, .int ((kdY y) i)), (0, .ref q), (1, .long h), (5, .int (nI i))]) hx hb dX7_mixTable_36 rfl hl (by decide) rfl (fun ls hl => ?_)
        refine lv_lload_n hx hb dX7_mixTable_37 rfl (lv_at hl 0 rfl) ?_
        refine lv_iload hx hb dX7_mixTable_38 (lv_at hl 1 rfl) ?_
        refine lv_if_ne (tgt := 49) hx hb dX7_mixTable_40 (by decide) (fun c_40 => ?_) (fun c_40 => ?_)
        · refine lv_aload_n hx hb dX7_mixTable_49 rfl (lv_at hl 2 rfl) ?_
          refine va_get (D := D) (ci := 7) (v := .ref (sa 0)) (C := RX7) (T := TX7) (N := 5) hx hb hts inlX7 hown hK hP 0 rfl rfl 0 (by decide) (hts _ kw_1_13) (fun _ h9 => h9) rfl dX7_mixTable_50 ?_
          refine va_get (D := D) (ci := 6) (v := .ref (sa 3)) (C := RX6) (T := TX6) (N := 5) hx hb hts inlX6 hown hK hP 1 rfl rfl 1 (by decide) (hts _ kw_9_0) (fun _ h9 => h9) rfl dX7_mixTable_53 ?_
          refine va_get (D := D) (ci := 0) (v := .ref (sa 5)) (C := RX0) (T := TX0) (N := 6) hx hb hts inlX0 hown hK hP 4 rfl rfl 5 (by decide) (hts _ kw_15_12) (fun _ h9 => h9) rfl dX7_mixTable_56 ?_
          refine lv_iload hx hb dX7_mixTable_59 (lv_at hl 4 rfl) ?_
          refine aftI0 C (runS_G (As := [.ref (sa 5), .int (nI i)]) (rest := [.long (mi (mtb (kdY y) (vlY y) h i) ((kdY y) i))]) C (mX7_at l D G (sa 5) 144 (vlY y) i (by omega) (by omega)) hS hP hD [6] rfl (by decide) (ys_X7_at) kw_8_1 kw_7_21 ⟨Nat.le_of_ble_eq_true rfl, Nat.le_of_ble_eq_true rfl⟩ hl.1 (Nat.le_of_ble_eq_true rfl) dX7_mixTable_61 rfl rfl ⟨Nat.zero_le _, Nat.zero_le _⟩) hS hP hD [6] rfl (fun r61 _ H locs hp61 hP hS => ?_)
          refine ro_top (z := (vlY y) i) hx hp61 ?_
          refine aftL0 C (runS_G (As := [.long (mi (mtb (kdY y) (vlY y) h i) ((kdY y) i)), .int ((vlY y) i)]) (rest := []) C (mX7_mix l D G (mi (mtb (kdY y) (vlY y) h i) ((kdY y) i)) ((vlY y) i) ) hS hP hD [] rfl (by decide) (ys_X7_mix) kw_21_1 kw_21_2 ⟨Nat.le_of_ble_eq_true rfl, Nat.le_of_ble_eq_true rfl⟩ hl.1 (Nat.le_of_ble_eq_true rfl) dX7_mixTable_64 rfl rfl ⟨Nat.zero_le _, Nat.zero_le _⟩) hS hP hD [] rfl (fun r64 _ H locs hp64 hP hS => ?_)
          refine ro_topL (z := mi (mi (mtb (kdY y) (vlY y) h i) ((kdY y) i)) ((vlY y) i)) hx hp64 ?_
          refine lv_lstore_n (lv' := [(3, .long (mi (mi (mtb (kdY y) (vlY y) h i) ((kdY y) i)) ((vlY y) i))), (6, .int ((kdY y) i)), (0, .ref q), (1, .long h), (5, .int (nI i))]) hx hb dX7_mixTable_67 rfl hl (by decide) rfl (fun ls hl => ?_)
          refine lv_iinc (v := nI (i + 1)) (lv' := [(5, .int (nI (i + 1))), (3, .long (mi (mi (mtb (kdY y) (vlY y) h i) ((kdY y) i)) ((vlY y) i))), (6, .int ((kdY y) i)), (0, .ref q), (1, .long h)]) hx hb dX7_mixTable_68 hl (k := 4) rfl (nI_add i 1) (by decide) rfl (fun ls hl => ?_)
          refine lv_goto (tgt := 5) hx hb dX7_mixTable_71 (by decide) ?_
          have e9 : evA (kdY y) (vlY y) i = vlY y i := if_neg c_40
          exact ih5 (i + 1) (by omega) (by omega) _ _ _ hP (hD.fst rfl) hS (lv_sub hl [3, 4, 1, 0] (by rw [← e9]; rfl))
        · refine lv_sipush (v := (-999)) hx hb dX7_mixTable_43 (by decide) ?_
          refine lv_goto (tgt := 64) hx hb dX7_mixTable_46 (by decide) ?_
          refine aftL0 C (runS_G (As := [.long (mi (mtb (kdY y) (vlY y) h i) ((kdY y) i)), .int (-999)]) (rest := []) C (mX7_mix l D G (mi (mtb (kdY y) (vlY y) h i) ((kdY y) i)) (-999) ) hS hP hD [] rfl (by decide) (ys_X7_mix) kw_21_1 kw_21_2 ⟨Nat.le_of_ble_eq_true rfl, Nat.le_of_ble_eq_true rfl⟩ hl.1 (Nat.le_of_ble_eq_true rfl) dX7_mixTable_64 rfl rfl ⟨Nat.zero_le _, Nat.zero_le _⟩) hS hP hD [] rfl (fun r64 _ H locs hp64 hP hS => ?_)
          refine ro_topL (z := mi (mi (mtb (kdY y) (vlY y) h i) ((kdY y) i)) (-999)) hx hp64 ?_
          refine lv_lstore_n (lv' := [(3, .long (mi (mi (mtb (kdY y) (vlY y) h i) ((kdY y) i)) (-999))), (6, .int ((kdY y) i)), (0, .ref q), (1, .long h), (5, .int (nI i))]) hx hb dX7_mixTable_67 rfl hl (by decide) rfl (fun ls hl => ?_)
          refine lv_iinc (v := nI (i + 1)) (lv' := [(5, .int (nI (i + 1))), (3, .long (mi (mi (mtb (kdY y) (vlY y) h i) ((kdY y) i)) (-999))), (6, .int ((kdY y) i)), (0, .ref q), (1, .long h)]) hx hb dX7_mixTable_68 hl (k := 4) rfl (nI_add i 1) (by decide) rfl (fun ls hl => ?_)
          refine lv_goto (tgt := 5) hx hb dX7_mixTable_71 (by decide) ?_
          have e9 : evA (kdY y) (vlY y) i = -999 := if_pos c_40
          exact ih5 (i + 1) (by omega) (by omega) _ _ _ hP (hD.fst rfl) hS (lv_sub hl [3, 4, 1, 0] (by rw [← e9]; rfl))
  exact lp5 (144 - 0 + 1) 0 (by omega) (Nat.lt_succ_self _) _ _ _ hP (hD.fst rfl) hS (lv_sub hl [2, 3, 1, 0] rfl)
