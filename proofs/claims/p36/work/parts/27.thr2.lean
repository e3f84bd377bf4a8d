set_option maxHeartbeats 800000 in
set_option maxRecDepth 100000 in
theorem mX7_pile (l : Launch) (D : va_G) (G : u_G) (q : Nat) (sa ha ta fa ea : Nat → Nat) (x : Nat → Nat) (y p : Nat → Int32) (k : Nat) (hk : k < x 14) (hfn : x 13 + x 14 ≤ 12) : MtI l D G yX7_pile cX7_pile 2 .int 6 0 0 [.ref q, .int (nI k)] [(q, .inr (7, [.ref (sa 0), .ref (ha 0), .ref (ta 0), .ref (fa 0), .ref (ea 0)])), (sa 0, .inr (6, [.ref (sa 1), .ref (sa 3), .int (nI (x 18)), .int (nI (x 19)), .int (bI (x 20 = 0))])), (sa 1, .inr (2, [.ref (sa 2), .int (nI (x 13)), .int (nI (x 14)), .int (nI (x 15)), .int (y 16), .int (y 17)])), (sa 2, .inl (G.1, 12, .inl p)), (sa 3, .inr (0, [.int (y 21), .int (nI (x 22)), .int (y 23), .int (y 24), .ref (sa 4), .ref (sa 5)])), (sa 4, .inl (G.1, 144, .inl (kdY y))), (sa 5, .inl (G.1, 144, .inl (vlY y)))] (fun (r : Int32) (_ : Unit) => r = p (x 13 + k)) (fun (_ : Unit) => [(q, .inr (7, [.ref (sa 0), .ref (ha 0), .ref (ta 0), .ref (fa 0), .ref (ea 0)])), (sa 0, .inr (6, [.ref (sa 1), .ref (sa 3), .int (nI (x 18)), .int (nI (x 19)), .int (bI (x 20 = 0))])), (sa 1, .inr (2, [.ref (sa 2), .int (nI (x 13)), .int (nI (x 14)), .int (nI (x 15)), .int (y 16), .int (y 17)])), (sa 2, .inl (G.1, 12, .inl p)), (sa 3, .inr (0, [.int (y 21), .int (nI (x 22)), .int (y 23), .int (y 24), .ref (sa 4), .ref (sa 5)])), (sa 4, .inl (G.1, 144, .inl (kdY y))), (sa 5, .inl (G.1, 144, .inl (vlY y)))]) := by
  refine MtI.of (by decide) (Nat.le_of_ble_eq_true rfl) ?_
  intro pr e s9 m9 below meth c9 A ls C hP hD hl
  obtain ⟨hx, hb, hml, hown, hts, hr, hlocks, hA, hAm⟩ := id C
  have hK := hAm.1
  have hS : va_S A s9.heap s9.heap [] := va_S.rf
  have hl : lv_has ls 2 [(0, .ref q), (1, .int (nI k))] := hl
  refine lv_iload_n hx hb dX7_pile_0 rfl (lv_at hl 1 rfl) ?_
  refine lv_if_lt (tgt := 18) hx hb dX7_pile_1 (by decide) (fun h => absurd h (nI_pos (by omega))) (fun _ => ?_)
  refine lv_iload_n hx hb dX7_pile_4 rfl (lv_at hl 1 rfl) ?_
  refine lv_aload_n hx hb dX7_pile_5 rfl (lv_at hl 0 rfl) ?_
  refine va_get (D := D) (ci := 7) (v := .ref (sa 0)) (C := RX7) (T := TX7) (N := 5) hx hb hts inlX7 hown hK hP 0 rfl rfl 0 (by decide) (hts _ kw_1_13) (fun _ h9 => h9) rfl dX7_pile_6 ?_
  refine va_get (D := D) (ci := 6) (v := .ref (sa 1)) (C := RX6) (T := TX6) (N := 5) hx hb hts inlX6 hown hK hP 1 rfl rfl 0 (by decide) (hts _ kw_5_11) (fun _ h9 => h9) rfl dX7_pile_9 ?_
  refine va_get (D := D) (ci := 2) (v := .int (nI (x 14))) (C := RX2) (T := TX2) (N := 6) hx hb hts inlX2 hown hK hP 2 rfl rfl 2 (by decide) (hts _ kw_12_5) (fun _ h9 => h9) rfl dX7_pile_12 ?_
  refine lv_icmp_lt (tgt := 28) hx hb dX7_pile_15 (by decide) (fun c_15 => ?_) (fun c_15 => ?_)
  · have c_15 := nlt_t (a := k) (b := x 14) (by omega) (by omega) c_15
    refine lv_aload_n hx hb dX7_pile_28 rfl (lv_at hl 0 rfl) ?_
    refine va_get (D := D) (ci := 7) (v := .ref (sa 0)) (C := RX7) (T := TX7) (N := 5) hx hb hts inlX7 hown hK hP 0 rfl rfl 0 (by decide) (hts _ kw_1_13) (fun _ h9 => h9) rfl dX7_pile_29 ?_
    refine va_get (D := D) (ci := 6) (v := .ref (sa 1)) (C := RX6) (T := TX6) (N := 5) hx hb hts inlX6 hown hK hP 1 rfl rfl 0 (by decide) (hts _ kw_5_11) (fun _ h9 => h9) rfl dX7_pile_32 ?_
    refine va_get (D := D) (ci := 2) (v := .ref (sa 2)) (C := RX2) (T := TX2) (N := 6) hx hb hts inlX2 hown hK hP 2 rfl rfl 0 (by decide) (hts _ kw_13_6) (fun _ h9 => h9) rfl dX7_pile_35 ?_
    refine lv_aload_n hx hb dX7_pile_38 rfl (lv_at hl 0 rfl) ?_
    refine va_get (D := D) (ci := 7) (v := .ref (sa 0)) (C := RX7) (T := TX7) (N := 5) hx hb hts inlX7 hown hK hP 0 rfl rfl 0 (by decide) (hts _ kw_1_13) (fun _ h9 => h9) rfl dX7_pile_39 ?_
    refine va_get (D := D) (ci := 6) (v := .ref (sa 1)) (C := RX6) (T := TX6) (N := 5) hx hb hts inlX6 hown hK hP 1 rfl rfl 0 (by decide) (hts _ kw_5_11) (fun _ h9 => h9) rfl dX7_pile_42 ?_
    refine va_get (D := D) (ci := 2) (v := .int (nI (x 13))) (C := RX2) (T := TX2) (N := 6) hx hb hts inlX2 hown hK hP 2 rfl rfl 1 (by decide) (hts _ kw_13_7) (fun _ h9 => h9) rfl dX7_pile_45 ?_
    refine lv_iload_n hx hb dX7_pile_48 rfl (lv_at hl 1 rfl) ?_
    refine ro_iadd (z := nI (x 13 + k)) hx hb (nI_add (x 13) k) dX7_pile_49 ?_
    refine aftI0 C (runS_G (As := [.ref (sa 2), .int (nI (x 13 + k))]) (rest := []) C (mX7_at l D G (sa 2) 12 p (x 13 + k) (by omega) (by omega)) hS hP hD [3] rfl (by decide) (ys_X7_at) kw_8_1 kw_7_21 ⟨Nat.le_of_ble_eq_true rfl, Nat.le_of_ble_eq_true rfl⟩ hl.1 (Nat.le_of_ble_eq_true rfl) dX7_pile_50 rfl rfl ⟨Nat.zero_le _, Nat.zero_le _⟩) hS hP hD [3] rfl (fun r50 _ H locs hp50 hP hS => ?_)
    refine ro_top (z := p (x 13 + k)) hx hp50 ?_
    exact endI C rfl () rfl hS hP dX7_pile_53
  · have c_15 := nlt_f (a := k) (b := x 14) (by omega) (by omega) c_15
    omega
set_option maxHeartbeats 800000 in
set_option maxRecDepth 100000 in
theorem mX7_coins (l : Launch) (D : va_G) (G : u_G) (q : Nat) (sa ha ta fa ea : Nat → Nat) (x : Nat → Nat) (y p : Nat → Int32) (k : Nat) (hk : k ≤ 1) : MtI l D G yX7_coins cX7_coins 2 .int 6 0 0 [.ref q, .int (nI k)] [(q, .inr (7, [.ref (sa 0), .ref (ha 0), .ref (ta 0), .ref (fa 0), .ref (ea 0)])), (sa 0, .inr (6, [.ref (sa 1), .ref (sa 3), .int (nI (x 18)), .int (nI (x 19)), .int (bI (x 20 = 0))])), (sa 1, .inr (2, [.ref (sa 2), .int (nI (x 13)), .int (nI (x 14)), .int (nI (x 15)), .int (y 16), .int (y 17)])), (sa 2, .inl (G.1, 12, .inl p)), (sa 3, .inr (0, [.int (y 21), .int (nI (x 22)), .int (y 23), .int (y 24), .ref (sa 4), .ref (sa 5)])), (sa 4, .inl (G.1, 144, .inl (kdY y))), (sa 5, .inl (G.1, 144, .inl (vlY y)))] (fun (r : Int32) (_ : Unit) => r = y (16 + k)) (fun (_ : Unit) => [(q, .inr (7, [.ref (sa 0), .ref (ha 0), .ref (ta 0), .ref (fa 0), .ref (ea 0)])), (sa 0, .inr (6, [.ref (sa 1), .ref (sa 3), .int (nI (x 18)), .int (nI (x 19)), .int (bI (x 20 = 0))])), (sa 1, .inr (2, [.ref (sa 2), .int (nI (x 13)), .int (nI (x 14)), .int (nI (x 15)), .int (y 16), .int (y 17)])), (sa 2, .inl (G.1, 12, .inl p)), (sa 3, .inr (0, [.int (y 21), .int (nI (x 22)), .int (y 23), .int (y 24), .ref (sa 4), .ref (sa 5)])), (sa 4, .inl (G.1, 144, .inl (kdY y))), (sa 5, .inl (G.1, 144, .inl (vlY y)))]) := by
  refine MtI.of (by decide) (Nat.le_of_ble_eq_true rfl) ?_
  intro pr e s9 m9 below meth c9 A ls C hP hD hl
  obtain ⟨hx, hb, hml, hown, hts, hr, hlocks, hA, hAm⟩ := id C
  have hK := hAm.1
  have hS : va_S A s9.heap s9.heap [] := va_S.rf
  have hl : lv_has ls 2 [(0, .ref q), (1, .int (nI k))] := hl
  refine lv_iload_n hx hb dX7_coins_0 rfl (lv_at hl 1 rfl) ?_
  refine lv_if_lt (tgt := 9) hx hb dX7_coins_1 (by decide) (fun h => absurd h (nI_pos (by omega))) (fun _ => ?_)
  refine lv_iload_n hx hb dX7_coins_4 rfl (lv_at hl 1 rfl) ?_
  refine lv_iconst (v := 1) hx hb dX7_coins_5 (by decide) ?_
  refine lv_icmp_le (tgt := 19) hx hb dX7_coins_6 (by decide) (fun c_6 => ?_) (fun c_6 => ?_)
  · have c_6 := nle_t (a := k) (b := 1) (by omega) (by omega) c_6
    refine lv_iload_n hx hb dX7_coins_19 rfl (lv_at hl 1 rfl) ?_
    refine lv_if_ne (tgt := 36) hx hb dX7_coins_20 (by decide) (fun c_20 => ?_) (fun c_20 => ?_)
    · have c_20 := neq_f (a := k) (b := 0) (by omega) (by omega) c_20
      refine lv_aload_n hx hb dX7_coins_36 rfl (lv_at hl 0 rfl) ?_
      refine va_get (D := D) (ci := 7) (v := .ref (sa 0)) (C := RX7) (T := TX7) (N := 5) hx hb hts inlX7 hown hK hP 0 rfl rfl 0 (by decide) (hts _ kw_1_13) (fun _ h9 => h9) rfl dX7_coins_37 ?_
      refine va_get (D := D) (ci := 6) (v := .ref (sa 1)) (C := RX6) (T := TX6) (N := 5) hx hb hts inlX6 hown hK hP 1 rfl rfl 0 (by decide) (hts _ kw_5_11) (fun _ h9 => h9) rfl dX7_coins_40 ?_
      refine va_get (D := D) (ci := 2) (v := .int (y 17)) (C := RX2) (T := TX2) (N := 6) hx hb hts inlX2 hown hK hP 2 rfl rfl 5 (by decide) (hts _ kw_12_22) (fun _ h9 => h9) rfl dX7_coins_43 ?_
      exact endI C rfl () (by rw [show k = 1 by omega]) hS hP dX7_coins_46
    · have c_20 := neq_t (a := k) (b := 0) (by omega) (by omega) c_20
      refine lv_aload_n hx hb dX7_coins_23 rfl (lv_at hl 0 rfl) ?_
      refine va_get (D := D) (ci := 7) (v := .ref (sa 0)) (C := RX7) (T := TX7) (N := 5) hx hb hts inlX7 hown hK hP 0 rfl rfl 0 (by decide) (hts _ kw_1_13) (fun _ h9 => h9) rfl dX7_coins_24 ?_
      refine va_get (D := D) (ci := 6) (v := .ref (sa 1)) (C := RX6) (T := TX6) (N := 5) hx hb hts inlX6 hown hK hP 1 rfl rfl 0 (by decide) (hts _ kw_5_11) (fun _ h9 => h9) rfl dX7_coins_27 ?_
      refine va_get (D := D) (ci := 2) (v := .int (y 16)) (C := RX2) (T := TX2) (N := 6) hx hb hts inlX2 hown hK hP 2 rfl rfl 4 (by decide) (hts _ kw_12_21) (fun _ h9 => h9) rfl dX7_coins_30 ?_
      refine lv_goto (tgt := 46) hx hb dX7_coins_33 (by decide) ?_
      exact endI C rfl () (by rw [show k = 0 by omega]) hS hP dX7_coins_46
  · have c_6 := nle_f (a := k) (b := 1) (by omega) (by omega) c_6
    omega
set_option maxHeartbeats 800000 in
set_option maxRecDepth 100000 in
theorem mX7_resultOf (l : Launch) (D : va_G) (G : u_G) (q : Nat) (sa ha ta fa ea : Nat → Nat) (x : Nat → Nat) (y p : Nat → Int32) (sv : Nat → Int32) (m : Nat) (hfn : x 13 + x 14 ≤ 12) (hPR : PR p) (hSV : SV p sv (x 13 + x 14)) (hm : m < 4) : MtI l D G yX7_resultOf cX7_resultOf 2 .int 6 0 0 [.ref q, .int (nI m)] [(q, .inr (7, [.ref (sa 0), .ref (ha 0), .ref (ta 0), .ref (fa 0), .ref (ea 0)])), (sa 0, .inr (6, [.ref (sa 1), .ref (sa 3), .int (nI (x 18)), .int (nI (x 19)), .int (bI (x 20 = 0))])), (sa 1, .inr (2, [.ref (sa 2), .int (nI (x 13)), .int (nI (x 14)), .int (nI (x 15)), .int (y 16), .int (y 17)])), (sa 2, .inl (G.1, 12, .inl p)), (sa 3, .inr (0, [.int (y 21), .int (nI (x 22)), .int (y 23), .int (y 24), .ref (sa 4), .ref (sa 5)])), (sa 4, .inl (G.1, 144, .inl (kdY y))), (sa 5, .inl (G.1, 144, .inl (vlY y))), (fa 0, .inr (1, [.ref (fa 1), .ref (fa 2)])), (fa 1, .inl (G.1, 12, .inl p)), (fa 2, .inl (G.1, 144, .inl sv))] (fun (r : Int32) (_ : Unit) => r = rV p (V p) (x 13) (x 14) m) (fun (_ : Unit) => [(q, .inr (7, [.ref (sa 0), .ref (ha 0), .ref (ta 0), .ref (fa 0), .ref (ea 0)])), (sa 0, .inr (6, [.ref (sa 1), .ref (sa 3), .int (nI (x 18)), .int (nI (x 19)), .int (bI (x 20 = 0))])), (sa 1, .inr (2, [.ref (sa 2), .int (nI (x 13)), .int (nI (x 14)), .int (nI (x 15)), .int (y 16), .int (y 17)])), (sa 2, .inl (G.1, 12, .inl p)), (sa 3, .inr (0, [.int (y 21), .int (nI (x 22)), .int (y 23), .int (y 24), .ref (sa 4), .ref (sa 5)])), (sa 4, .inl (G.1, 144, .inl (kdY y))), (sa 5, .inl (G.1, 144, .inl (vlY y))), (fa 0, .inr (1, [.ref (fa 1), .ref (fa 2)])), (fa 1, .inl (G.1, 12, .inl p)), (fa 2, .inl (G.1, 144, .inl sv))]) := by
  refine MtI.of (by decide) (Nat.le_of_ble_eq_true rfl) ?_
  intro pr e s9 m9 below meth c9 A ls C hP hD hl
  obtain ⟨hx, hb, hml, hown, hts, hr, hlocks, hA, hAm⟩ := id C
  have hK := hAm.1
  have hS : va_S A s9.heap s9.heap [] := va_S.rf
  have hl : lv_has ls 2 [(0, .ref q), (1, .int (nI m))] := hl
  refine lv_iload_n hx hb dX7_resultOf_0 rfl (lv_at hl 1 rfl) ?_
  refine aftI0 C (runS_G (As := [.int (nI m)]) (rest := []) C (mX7_isMove_n l D G m (by omega)) hS hP hD [] rfl (by decide) (ys_X7_isMove) kw_14_10 kw_7_1 ⟨Nat.le_of_ble_eq_true rfl, Nat.le_of_ble_eq_true rfl⟩ hl.1 (Nat.le_of_ble_eq_true rfl) dX7_resultOf_1 rfl rfl ⟨Nat.zero_le _, Nat.zero_le _⟩) hS hP hD [] rfl (fun r1 _ H locs hp1 hP hS => ?_)
  refine ro_top (z := 1) hx hp1 ?_
  refine lv_if_ne (tgt := 17) hx hb dX7_resultOf_4 (by decide) (fun _ => ?_) (fun h => absurd h (by decide))
  refine lv_aload_n hx hb dX7_resultOf_17 rfl (lv_at hl 0 rfl) ?_
  refine va_get (D := D) (ci := 7) (v := .ref (fa 0)) (C := RX7) (T := TX7) (N := 5) hx hb hts inlX7 hown hK hP 0 rfl rfl 3 (by decide) (hts _ kw_2_1) (fun _ h9 => h9) rfl dX7_resultOf_18 ?_
  refine lv_aload_n hx hb dX7_resultOf_21 rfl (lv_at hl 0 rfl) ?_
  refine va_get (D := D) (ci := 7) (v := .ref (sa 0)) (C := RX7) (T := TX7) (N := 5) hx hb hts inlX7 hown hK hP 0 rfl rfl 0 (by decide) (hts _ kw_1_13) (fun _ h9 => h9) rfl dX7_resultOf_22 ?_
  refine va_get (D := D) (ci := 6) (v := .ref (sa 1)) (C := RX6) (T := TX6) (N := 5) hx hb hts inlX6 hown hK hP 1 rfl rfl 0 (by decide) (hts _ kw_5_11) (fun _ h9 => h9) rfl dX7_resultOf_25 ?_
  refine va_get (D := D) (ci := 2) (v := .int (nI (x 13))) (C := RX2) (T := TX2) (N := 6) hx hb hts inlX2 hown hK hP 2 rfl rfl 1 (by decide) (hts _ kw_13_7) (fun _ h9 => h9) rfl dX7_resultOf_28 ?_
  refine lv_aload_n hx hb dX7_resultOf_31 rfl (lv_at hl 0 rfl) ?_
  refine va_get (D := D) (ci := 7) (v := .ref (sa 0)) (C := RX7) (T := TX7) (N := 5) hx hb hts inlX7 hown hK hP 0 rfl rfl 0 (by decide) (hts _ kw_1_13) (fun _ h9 => h9) rfl dX7_resultOf_32 ?_
  refine va_get (D := D) (ci := 6) (v := .ref (sa 1)) (C := RX6) (T := TX6) (N := 5) hx hb hts inlX6 hown hK hP 1 rfl rfl 0 (by decide) (hts _ kw_5_11) (fun _ h9 => h9) rfl dX7_resultOf_35 ?_
  refine va_get (D := D) (ci := 2) (v := .int (nI (x 14))) (C := RX2) (T := TX2) (N := 6) hx hb hts inlX2 hown hK hP 2 rfl rfl 2 (by decide) (hts _ kw_12_5) (fun _ h9 => h9) rfl dX7_resultOf_38 ?_
  refine lv_iload_n hx hb dX7_resultOf_41 rfl (lv_at hl 1 rfl) ?_
  refine aftI0 C (runV_G (As := [.int (nI (x 13)), .int (nI (x 14)), .int (nI m)]) (rest := []) (ci := 1) (N := 2) (T := TX1) (q0 := 7) C (mX1_resultAt l D G (fa 0) (fa 1) (fa 2) (x 13) (x 14) m p sv hm hfn) hS hP hD [7, 8, 9] rfl (by decide) rfl rfl (ys_X1_resultAt) kw_14_1 kw_6_22 kw_6_23 ⟨Nat.le_of_ble_eq_true rfl, Nat.le_of_ble_eq_true rfl⟩ hl.1 (Nat.le_of_ble_eq_true rfl) dX7_resultOf_42 rfl rfl ⟨Nat.zero_le _, Nat.zero_le _⟩) hS hP hD [7, 8, 9] rfl (fun r42 _ H locs hp42 hP hS => ?_)
  refine ro_top (z := rV p (vat sv) (x 13) (x 14) m) hx hp42 ?_
  exact endI C rfl () (SV_rV hSV (Nat.le_refl _) m) hS hP dX7_resultOf_45
set_option maxHeartbeats 800000 in
set_option maxRecDepth 100000 in
theorem mX7_line (l : Launch) (D : va_G) (G : u_G) (q : Nat) (sa ha ta fa ea : Nat → Nat) (x : Nat → Nat) (y p : Nat → Int32) (sv : Nat → Int32) (k : Nat) (hfn : x 13 + x 14 ≤ 12) (hPR : PR p) (hSV : SV p sv (x 13 + x 14)) (hk : k < 2 ^ 31) : MtI l D G yX7_line cX7_line 6 .int 7 0 0 [.ref q, .int (nI k)] [(q, .inr (7, [.ref (sa 0), .ref (ha 0), .ref (ta 0), .ref (fa 0), .ref (ea 0)])), (sa 0, .inr (6, [.ref (sa 1), .ref (sa 3), .int (nI (x 18)), .int (nI (x 19)), .int (bI (x 20 = 0))])), (sa 1, .inr (2, [.ref (sa 2), .int (nI (x 13)), .int (nI (x 14)), .int (nI (x 15)), .int (y 16), .int (y 17)])), (sa 2, .inl (G.1, 12, .inl p)), (sa 3, .inr (0, [.int (y 21), .int (nI (x 22)), .int (y 23), .int (y 24), .ref (sa 4), .ref (sa 5)])), (sa 4, .inl (G.1, 144, .inl (kdY y))), (sa 5, .inl (G.1, 144, .inl (vlY y))), (fa 0, .inr (1, [.ref (fa 1), .ref (fa 2)])), (fa 1, .inl (G.1, 12, .inl p)), (fa 2, .inl (G.1, 144, .inl sv))] (fun (r : Int32) (_ : Unit) => r = lnA p (x 13) (x 14) k) (fun (_ : Unit) => [(q, .inr (7, [.ref (sa 0), .ref (ha 0), .ref (ta 0), .ref (fa 0), .ref (ea 0)])), (sa 0, .inr (6, [.ref (sa 1), .ref (sa 3), .int (nI (x 18)), .int (nI (x 19)), .int (bI (x 20 = 0))])), (sa 1, .inr (2, [.ref (sa 2), .int (nI (x 13)), .int (nI (x 14)), .int (nI (x 15)), .int (y 16), .int (y 17)])), (sa 2, .inl (G.1, 12, .inl p)), (sa 3, .inr (0, [.int (y 21), .int (nI (x 22)), .int (y 23), .int (y 24), .ref (sa 4), .ref (sa 5)])), (sa 4, .inl (G.1, 144, .inl (kdY y))), (sa 5, .inl (G.1, 144, .inl (vlY y))), (fa 0, .inr (1, [.ref (fa 1), .ref (fa 2)])), (fa 1, .inl (G.1, 12, .inl p)), (fa 2, .inl (G.1, 144, .inl sv))]) := by
  refine MtI.of (by decide) (Nat.le_of_ble_eq_true rfl) ?_
  intro pr e s9 m9 below meth c9 A ls C hP hD hl
  obtain ⟨hx, hb, hml, hown, hts, hr, hlocks, hA, hAm⟩ := id C
  have hK := hAm.1
  have hS : va_S A s9.heap s9.heap [] := va_S.rf
  have hl : lv_has ls 6 [(0, .ref q), (1, .int (nI k))] := hl
  refine lv_iload_n hx hb dX7_line_0 rfl (lv_at hl 1 rfl) ?_
  refine lv_if_ge (tgt := 14) hx hb dX7_line_1 (by decide) (fun _ => ?_) (fun h => absurd (nI_pos' (by omega)) h)
  refine lv_aload_n hx hb dX7_line_14 rfl (lv_at hl 0 rfl) ?_
  refine va_get (D := D) (ci := 7) (v := .ref (sa 0)) (C := RX7) (T := TX7) (N := 5) hx hb hts inlX7 hown hK hP 0 rfl rfl 0 (by decide) (hts _ kw_1_13) (fun _ h9 => h9) rfl dX7_line_15 ?_
  refine va_get (D := D) (ci := 6) (v := .ref (sa 1)) (C := RX6) (T := TX6) (N := 5) hx hb hts inlX6 hown hK hP 1 rfl rfl 0 (by decide) (hts _ kw_5_11) (fun _ h9 => h9) rfl dX7_line_18 ?_
  refine va_get (D := D) (ci := 2) (v := .int (nI (x 13))) (C := RX2) (T := TX2) (N := 6) hx hb hts inlX2 hown hK hP 2 rfl rfl 1 (by decide) (hts _ kw_13_7) (fun _ h9 => h9) rfl dX7_line_21 ?_
  refine lv_istore_n (lv' := [(2, .int (nI (x 13))), (0, .ref q), (1, .int (nI k))]) hx hb dX7_line_24 rfl hl (by decide) rfl (fun ls hl => ?_)
  refine lv_aload_n hx hb dX7_line_25 rfl (lv_at hl 1 rfl) ?_
  refine va_get (D := D) (ci := 7) (v := .ref (sa 0)) (C := RX7) (T := TX7) (N := 5) hx hb hts inlX7 hown hK hP 0 rfl rfl 0 (by decide) (hts _ kw_1_13) (fun _ h9 => h9) rfl dX7_line_26 ?_
  refine va_get (D := D) (ci := 6) (v := .ref (sa 1)) (C := RX6) (T := TX6) (N := 5) hx hb hts inlX6 hown hK hP 1 rfl rfl 0 (by decide) (hts _ kw_5_11) (fun _ h9 => h9) rfl dX7_line_29 ?_
  refine va_get (D := D) (ci := 2) (v := .int (nI (x 14))) (C := RX2) (T := TX2) (N := 6) hx hb hts inlX2 hown hK hP 2 rfl rfl 2 (by decide) (hts _ kw_12_5) (fun _ h9 => h9) rfl dX7_line_32 ?_
  refine lv_istore_n (lv' := [(3, .int (nI (x 14))), (2, .int (nI (x 13))), (0, .ref q), (1, .int (nI k))]) hx hb dX7_line_35 rfl hl (by decide) rfl (fun ls hl => ?_)
  refine lv_iconst (v := 0) hx hb dX7_line_36 (by decide) ?_
  refine lv_istore (lv' := [(4, .int 0), (3, .int (nI (x 14))), (2, .int (nI (x 13))), (0, .ref q), (1, .int (nI k))]) hx hb dX7_line_37 hl (by decide) rfl (fun ls hl => ?_)
  have lp39 : ∀ (n39 : Nat) (i : Nat) (F9 : Nat) (N9 : Nat) (hi : i ≤ 12) (hik : i ≤ k) (hF : lpos p (x 13) (x 14) i = (F9, N9)) (_ : 12 - i < n39) (H : Heap) (locs : List Loc) (ls : Array Slot), va_P D vwCl [(q, .inr (7, [.ref (sa 0), .ref (ha 0), .ref (ta 0), .ref (fa 0), .ref (ea 0)])), (sa 0, .inr (6, [.ref (sa 1), .ref (sa 3), .int (nI (x 18)), .int (nI (x 19)), .int (bI (x 20 = 0))])), (sa 1, .inr (2, [.ref (sa 2), .int (nI (x 13)), .int (nI (x 14)), .int (nI (x 15)), .int (y 16), .int (y 17)])), (sa 2, .inl (G.1, 12, .inl p)), (sa 3, .inr (0, [.int (y 21), .int (nI (x 22)), .int (y 23), .int (y 24), .ref (sa 4), .ref (sa 5)])), (sa 4, .inl (G.1, 144, .inl (kdY y))), (sa 5, .inl (G.1, 144, .inl (vlY y))), (fa 0, .inr (1, [.ref (fa 1), .ref (fa 2)])), (fa 1, .inl (G.1, 12, .inl p)), (fa 2, .inl (G.1, 144, .inl sv))] H → va_D A [(q, .inr (7, [.ref (sa 0), .ref (ha 0), .ref (ta 0), .ref (fa 0), .ref (ea 0)])), (sa 0, .inr (6, [.ref (sa 1), .ref (sa 3), .int (nI (x 18)), .int (nI (x 19)), .int (bI (x 20 = 0))])), (sa 1, .inr (2, [.ref (sa 2), .int (nI (x 13)), .int (nI (x 14)), .int (nI (x 15)), .int (y 16), .int (y 17)])), (sa 2, .inl (G.1, 12, .inl p)), (sa 3, .inr (0, [.int (y 21), .int (nI (x 22)), .int (y 23), .int (y 24), .ref (sa 4), .ref (sa 5)])), (sa 4, .inl (G.1, 144, .inl (kdY y))), (sa 5, .inl (G.1, 144, .inl (vlY y))), (fa 0, .inr (1, [.ref (fa 1), .ref (fa 2)])), (fa 1, .inl (G.1, 12, .inl p)), (fa 2, .inl (G.1, 144, .inl sv))] → va_S A s9.heap H locs → lv_has ls 6 [(0, .ref q), (1, .int (nI k)), (2, .int (nI F9)), (3, .int (nI N9)), (4, .int (nI i))] → W pr l e (rmG 7 0 0) s9 m9 (List.toArray [.ref q, .int (nI k)]) below meth c9 H locs 0 0 (MQ below (va_Qi (fun (r : Int32) (_ : Unit) => r = lnA p (x 13) (x 14) k) (fun u9 t9 => WB D ((fun (_ : Unit) => [(q, .inr (7, [.ref (sa 0), .ref (ha 0), .ref (ta 0), .ref (fa 0), .ref (ea 0)])), (sa 0, .inr (6, [.ref (sa 1), .ref (sa 3), .int (nI (x 18)), .int (nI (x 19)), .int (bI (x 20 = 0))])), (sa 1, .inr (2, [.ref (sa 2), .int (nI (x 13)), .int (nI (x 14)), .int (nI (x 15)), .int (y 16), .int (y 17)])), (sa 2, .inl (G.1, 12, .inl p)), (sa 3, .inr (0, [.int (y 21), .int (nI (x 22)), .int (y 23), .int (y 24), .ref (sa 4), .ref (sa 5)])), (sa 4, .inl (G.1, 144, .inl (kdY y))), (sa 5, .inl (G.1, 144, .inl (vlY y))), (fa 0, .inr (1, [.ref (fa 1), .ref (fa 2)])), (fa 1, .inl (G.1, 12, .inl p)), (fa 2, .inl (G.1, 144, .inl sv))]) u9) t9) A) (List.toArray [.ref q, .int (nI k)]) s9 0 0 A) (F0 m9 39 ls []) := by
    intro n39
    induction n39 with
    | zero => intro i F9 N9 hi hik hF hm; exact absurd hm (Nat.not_lt_zero _)
    | succ n39 ih39 =>
      intro i F9 N9 hi hik hF hm H locs ls hP hD hS hl
      have hlp := lpos_in' hPR hfn hF
      refine lv_iload hx hb dX7_line_39 (lv_at hl 4 rfl) ?_
      refine lv_bipush (v := 12) hx hb dX7_line_41 (by decide) ?_
      refine lv_icmp_ge (tgt := 90) hx hb dX7_line_43 (by decide) (fun c_43 => ?_) (fun c_43 => ?_)
      · have c_43 := nle_t (a := 12) (b := i) (by omega) (by omega) c_43
        refine lv_sipush (v := (-999)) hx hb dX7_line_90 (by decide) ?_
        exact endI C rfl () (lnA_end (k := i) (by rw [hF]; show N9 = 0; omega) hik).symm hS hP dX7_line_93
      · have c_43 := nle_f (a := 12) (b := i) (by omega) (by omega) c_43
        refine lv_iload_n hx hb dX7_line_46 rfl (lv_at hl 3 rfl) ?_
        refine lv_if_le (tgt := 90) hx hb dX7_line_47 (by decide) (fun c_47 => ?_) (fun c_47 => ?_)
        · have c_47 := nle_t (a := N9) (b := 0) (by omega) (by omega) c_47
          refine lv_sipush (v := (-999)) hx hb dX7_line_90 (by decide) ?_
          exact endI C rfl () (lnA_end (k := i) (by rw [hF]; show N9 = 0; omega) hik).symm hS hP dX7_line_93
        · have c_47 := nle_f (a := N9) (b := 0) (by omega) (by omega) c_47
          refine lv_aload_n hx hb dX7_line_50 rfl (lv_at hl 0 rfl) ?_
          refine va_get (D := D) (ci := 7) (v := .ref (fa 0)) (C := RX7) (T := TX7) (N := 5) hx hb hts inlX7 hown hK hP 0 rfl rfl 3 (by decide) (hts _ kw_2_1) (fun _ h9 => h9) rfl dX7_line_51 ?_
          refine lv_iload_n hx hb dX7_line_54 rfl (lv_at hl 2 rfl) ?_
          refine lv_iload_n hx hb dX7_line_55 rfl (lv_at hl 3 rfl) ?_
          refine aftI0 C (runV_G (As := [.int (nI F9), .int (nI N9)]) (rest := []) (ci := 1) (N := 2) (T := TX1) (q0 := 7) C (mX1_bestMoveAt l D G (fa 0) (fa 1) (fa 2) F9 N9 p sv (by omega)) hS hP hD [7, 8, 9] rfl (by decide) rfl rfl (ys_X1_bestMoveAt) kw_13_17 kw_6_18 kw_6_19 ⟨Nat.le_of_ble_eq_true rfl, Nat.le_of_ble_eq_true rfl⟩ hl.1 (Nat.le_of_ble_eq_true rfl) dX7_line_56 rfl rfl ⟨Nat.zero_le _, Nat.zero_le _⟩) hS hP hD [7, 8, 9] rfl (fun r56 _ H locs hp56 hP hS => ?_)
          refine ro_top (z := (bm (rV p (vat sv) F9 N9) 4).1) hx hp56 ?_
          obtain ⟨b1, b2, b3, b4⟩ := bN_spec hPR (f := F9) (n := N9) (by omega) (by omega)
          refine ro_top (z := nI (bN p F9 N9)) hx (by rw [SV_bm hSV (by omega), b3]) ?_
          refine lv_istore (lv' := [(5, .int (nI (bN p F9 N9))), (0, .ref q), (1, .int (nI k)), (2, .int (nI F9)), (3, .int (nI N9)), (4, .int (nI i))]) hx hb dX7_line_59 hl (by decide) rfl (fun ls hl => ?_)
          refine lv_iload hx hb dX7_line_61 (lv_at hl 5 rfl) ?_
          refine lv_iload_n hx hb dX7_line_63 rfl (lv_at hl 2 rfl) ?_
          refine lv_icmp_ne (tgt := 70) hx hb dX7_line_64 (by decide) (fun c_64 => ?_) (fun c_64 => ?_)
          · have c_64 := neq_f (a := i) (b := k) (by omega) (by omega) c_64
            refine lv_iload_n hx hb dX7_line_70 rfl (lv_at hl 3 rfl) ?_
            refine lv_iload hx hb dX7_line_71 (lv_at hl 0 rfl) ?_
            refine aftI0 C (runS_G (As := [.int (nI F9), .int (nI (bN p F9 N9))]) (rest := []) C (mX7_firstAfter l D G F9 (bN p F9 N9) b1 (by omega)) hS hP hD [] rfl (by decide) (ys_X7_firstAfter) kw_14_18 kw_7_8 ⟨Nat.le_of_ble_eq_true rfl, Nat.le_of_ble_eq_true rfl⟩ hl.1 (Nat.le_of_ble_eq_true rfl) dX7_line_73 rfl rfl ⟨Nat.zero_le _, Nat.zero_le _⟩) hS hP hD [] rfl (fun r73 _ H locs hp73 hP hS => ?_)
            refine ro_top (z := nI (bh F9 (bN p F9 N9))) hx hp73 ?_
            refine lv_istore_n (lv' := [(2, .int (nI (bh F9 (bN p F9 N9)))), (5, .int (nI (bN p F9 N9))), (0, .ref q), (1, .int (nI k)), (3, .int (nI N9)), (4, .int (nI i))]) hx hb dX7_line_76 rfl hl (by decide) rfl (fun ls hl => ?_)
            refine lv_iload_n hx hb dX7_line_77 rfl (lv_at hl 4 rfl) ?_
            refine lv_iload hx hb dX7_line_78 (lv_at hl 1 rfl) ?_
            refine aftI0 C (runS_G (As := [.int (nI N9), .int (nI (bN p F9 N9))]) (rest := []) C (mX7_leftAfter l D G N9 (bN p F9 N9) b1 b2 (by omega)) hS hP hD [] rfl (by decide) (ys_X7_leftAfter) kw_14_19 kw_7_10 ⟨Nat.le_of_ble_eq_true rfl, Nat.le_of_ble_eq_true rfl⟩ hl.1 (Nat.le_of_ble_eq_true rfl) dX7_line_80 rfl rfl ⟨Nat.zero_le _, Nat.zero_le _⟩) hS hP hD [] rfl (fun r80 _ H locs hp80 hP hS => ?_)
            refine ro_top (z := nI (N9 - tk (bN p F9 N9))) hx hp80 ?_
            refine lv_istore_n (lv' := [(3, .int (nI (N9 - tk (bN p F9 N9)))), (2, .int (nI (bh F9 (bN p F9 N9)))), (5, .int (nI (bN p F9 N9))), (0, .ref q), (1, .int (nI k)), (4, .int (nI i))]) hx hb dX7_line_83 rfl hl (by decide) rfl (fun ls hl => ?_)
            refine lv_iinc (v := nI (i + 1)) (lv' := [(4, .int (nI (i + 1))), (3, .int (nI (N9 - tk (bN p F9 N9)))), (2, .int (nI (bh F9 (bN p F9 N9)))), (5, .int (nI (bN p F9 N9))), (0, .ref q), (1, .int (nI k))]) hx hb dX7_line_84 hl (k := 5) rfl (nI_add i 1) (by decide) rfl (fun ls hl => ?_)
            refine lv_goto (tgt := 39) hx hb dX7_line_87 (by decide) ?_
            exact ih39 (i + 1) (bh F9 (bN p F9 N9)) (N9 - tk (bN p F9 N9)) (by omega) (by omega) (lpos_go' hF (by omega)) (by omega) _ _ _ hP (hD.fst rfl) hS (lv_sub hl [4, 5, 2, 1, 0] rfl)
          · have c_64 := neq_t (a := i) (b := k) (by omega) (by omega) c_64
            refine lv_iload hx hb dX7_line_67 (lv_at hl 0 rfl) ?_
            exact endI C rfl () (by rw [← show i = k by omega, lnA_f (by rw [hF]; show ¬ N9 = 0; omega), hF]) hS hP dX7_line_69
  exact lp39 (12 - 0 + 1) 0 (x 13) (x 14) (by omega) (by omega) rfl (Nat.lt_succ_self _) _ _ _ hP (hD.fst rfl) hS (lv_sub hl [3, 4, 2, 1, 0] rfl)
set_option maxHeartbeats 800000 in
set_option maxRecDepth 100000 in
theorem mX7_entryKind (l : Launch) (D : va_G) (G : u_G) (q : Nat) (sa ha ta fa ea : Nat → Nat) (x : Nat → Nat) (y p : Nat → Int32) (f c : Nat) (hf : f < 12) (hc : 1 ≤ c) (hc2 : c ≤ 12) : MtI l D G yX7_entryKind cX7_entryKind 3 .int 6 0 0 [.ref q, .int (nI f), .int (nI c)] [(q, .inr (7, [.ref (sa 0), .ref (ha 0), .ref (ta 0), .ref (fa 0), .ref (ea 0)])), (sa 0, .inr (6, [.ref (sa 1), .ref (sa 3), .int (nI (x 18)), .int (nI (x 19)), .int (bI (x 20 = 0))])), (sa 1, .inr (2, [.ref (sa 2), .int (nI (x 13)), .int (nI (x 14)), .int (nI (x 15)), .int (y 16), .int (y 17)])), (sa 2, .inl (G.1, 12, .inl p)), (sa 3, .inr (0, [.int (y 21), .int (nI (x 22)), .int (y 23), .int (y 24), .ref (sa 4), .ref (sa 5)])), (sa 4, .inl (G.1, 144, .inl (kdY y))), (sa 5, .inl (G.1, 144, .inl (vlY y)))] (fun (r : Int32) (_ : Unit) => r = kdY y (f * 12 + c - 1)) (fun (_ : Unit) => [(q, .inr (7, [.ref (sa 0), .ref (ha 0), .ref (ta 0), .ref (fa 0), .ref (ea 0)])), (sa 0, .inr (6, [.ref (sa 1), .ref (sa 3), .int (nI (x 18)), .int (nI (x 19)), .int (bI (x 20 = 0))])), (sa 1, .inr (2, [.ref (sa 2), .int (nI (x 13)), .int (nI (x 14)), .int (nI (x 15)), .int (y 16), .int (y 17)])), (sa 2, .inl (G.1, 12, .inl p)), (sa 3, .inr (0, [.int (y 21), .int (nI (x 22)), .int (y 23), .int (y 24), .ref (sa 4), .ref (sa 5)])), (sa 4, .inl (G.1, 144, .inl (kdY y))), (sa 5, .inl (G.1, 144, .inl (vlY y)))]) := by
  refine MtI.of (by decide) (Nat.le_of_ble_eq_true rfl) ?_
  intro pr e s9 m9 below meth c9 A ls C hP hD hl
  obtain ⟨hx, hb, hml, hown, hts, hr, hlocks, hA, hAm⟩ := id C
  have hK := hAm.1
  have hS : va_S A s9.heap s9.heap [] := va_S.rf
  have hl : lv_has ls 3 [(0, .ref q), (1, .int (nI f)), (2, .int (nI c))] := hl
  refine lv_iload_n hx hb dX7_entryKind_0 rfl (lv_at hl 1 rfl) ?_
  refine lv_iload_n hx hb dX7_entryKind_1 rfl (lv_at hl 2 rfl) ?_
  refine aftI0 C (runS_G (As := [.int (nI f), .int (nI c)]) (rest := []) C (mX7_isPosition_n l D G f c (by omega) (by omega) (by omega)) hS hP hD [] rfl (by decide) (ys_X7_isPosition) kw_7_18 kw_7_19 ⟨Nat.le_of_ble_eq_true rfl, Nat.le_of_ble_eq_true rfl⟩ hl.1 (Nat.le_of_ble_eq_true rfl) dX7_entryKind_2 rfl rfl ⟨Nat.zero_le _, Nat.zero_le _⟩) hS hP hD [] rfl (fun r2 _ H locs hp2 hP hS => ?_)
  refine ro_top (z := 1) hx hp2 ?_
  refine lv_if_ne (tgt := 18) hx hb dX7_entryKind_5 (by decide) (fun _ => ?_) (fun h => absurd h (by decide))
  refine lv_aload_n hx hb dX7_entryKind_18 rfl (lv_at hl 0 rfl) ?_
  refine va_get (D := D) (ci := 7) (v := .ref (sa 0)) (C := RX7) (T := TX7) (N := 5) hx hb hts inlX7 hown hK hP 0 rfl rfl 0 (by decide) (hts _ kw_1_13) (fun _ h9 => h9) rfl dX7_entryKind_19 ?_
  refine va_get (D := D) (ci := 6) (v := .ref (sa 3)) (C := RX6) (T := TX6) (N := 5) hx hb hts inlX6 hown hK hP 1 rfl rfl 1 (by decide) (hts _ kw_9_0) (fun _ h9 => h9) rfl dX7_entryKind_22 ?_
  refine va_get (D := D) (ci := 0) (v := .ref (sa 4)) (C := RX0) (T := TX0) (N := 6) hx hb hts inlX0 hown hK hP 4 rfl rfl 4 (by decide) (hts _ kw_15_3) (fun _ h9 => h9) rfl dX7_entryKind_25 ?_
  refine lv_iload_n hx hb dX7_entryKind_28 rfl (lv_at hl 1 rfl) ?_
  refine lv_iload_n hx hb dX7_entryKind_29 rfl (lv_at hl 2 rfl) ?_
  refine aftI0 C (runS_G (As := [.int (nI f), .int (nI c)]) (rest := [.ref (sa 4)]) C (mX7_cell l D G f c (by omega) (by omega) (by omega)) hS hP hD [] rfl (by decide) (ys_X7_cell) kw_15_4 kw_7_16 ⟨Nat.le_of_ble_eq_true rfl, Nat.le_of_ble_eq_true rfl⟩ hl.1 (Nat.le_of_ble_eq_true rfl) dX7_entryKind_30 rfl rfl ⟨Nat.zero_le _, Nat.zero_le _⟩) hS hP hD [] rfl (fun r30 _ H locs hp30 hP hS => ?_)
  refine ro_top (z := nI (f * 12 + c - 1)) hx hp30 ?_
  refine aftI0 C (runS_G (As := [.ref (sa 4), .int (nI (f * 12 + c - 1))]) (rest := []) C (mX7_at l D G (sa 4) 144 (kdY y) (f * 12 + c - 1) (by omega) (by omega)) hS hP hD [5] rfl (by decide) (ys_X7_at) kw_8_1 kw_7_21 ⟨Nat.le_of_ble_eq_true rfl, Nat.le_of_ble_eq_true rfl⟩ hl.1 (Nat.le_of_ble_eq_true rfl) dX7_entryKind_33 rfl rfl ⟨Nat.zero_le _, Nat.zero_le _⟩) hS hP hD [5] rfl (fun r33 _ H locs hp33 hP hS => ?_)
  refine ro_top (z := (kdY y) (f * 12 + c - 1)) hx hp33 ?_
  exact endI C rfl () rfl hS hP dX7_entryKind_36
set_option maxHeartbeats 800000 in
set_option maxRecDepth 100000 in
theorem mX7_entryValue (l : Launch) (D : va_G) (G : u_G) (q : Nat) (sa ha ta fa ea : Nat → Nat) (x : Nat → Nat) (y p : Nat → Int32) (f c : Nat) (hf : f < 12) (hc : 1 ≤ c) (hc2 : c ≤ 12) : MtI l D G yX7_entryValue cX7_entryValue 4 .int 6 0 0 [.ref q, .int (nI f), .int (nI c)] [(q, .inr (7, [.ref (sa 0), .ref (ha 0), .ref (ta 0), .ref (fa 0), .ref (ea 0)])), (sa 0, .inr (6, [.ref (sa 1), .ref (sa 3), .int (nI (x 18)), .int (nI (x 19)), .int (bI (x 20 = 0))])), (sa 1, .inr (2, [.ref (sa 2), .int (nI (x 13)), .int (nI (x 14)), .int (nI (x 15)), .int (y 16), .int (y 17)])), (sa 2, .inl (G.1, 12, .inl p)), (sa 3, .inr (0, [.int (y 21), .int (nI (x 22)), .int (y 23), .int (y 24), .ref (sa 4), .ref (sa 5)])), (sa 4, .inl (G.1, 144, .inl (kdY y))), (sa 5, .inl (G.1, 144, .inl (vlY y)))] (fun (r : Int32) (_ : Unit) => r = evA (kdY y) (vlY y) (f * 12 + c - 1)) (fun (_ : Unit) => [(q, .inr (7, [.ref (sa 0), .ref (ha 0), .ref (ta 0), .ref (fa 0), .ref (ea 0)])), (sa 0, .inr (6, [.ref (sa 1), .ref (sa 3), .int (nI (x 18)), .int (nI (x 19)), .int (bI (x 20 = 0))])), (sa 1, .inr (2, [.ref (sa 2), .int (nI (x 13)), .int (nI (x 14)), .int (nI (x 15)), .int (y 16), .int (y 17)])), (sa 2, .inl (G.1, 12, .inl p)), (sa 3, .inr (0, [.int (y 21), .int (nI (x 22)), .int (y 23), .int (y 24), .ref (sa 4), .ref (sa 5)])), (sa 4, .inl (G.1, 144, .inl (kdY y))), (sa 5, .inl (G.1, 144, .inl (vlY y)))]) := by
  refine MtI.of (by decide) (Nat.le_of_ble_eq_true rfl) ?_
  intro pr e s9 m9 below meth c9 A ls C hP hD hl
  obtain ⟨hx, hb, hml, hown, hts, hr, hlocks, hA, hAm⟩ := id C
  have hK := hAm.1
  have hS : va_S A s9.heap s9.heap [] := va_S.rf
  have hl : lv_has ls 4 [(0, .ref q), (1, .int (nI f)), (2, .int (nI c))] := hl
  refine lv_iload_n hx hb dX7_entryValue_0 rfl (lv_at hl 1 rfl) ?_
  refine lv_iload_n hx hb dX7_entryValue_1 rfl (lv_at hl 2 rfl) ?_
  refine aftI0 C (runS_G (As := [.int (nI f), .int (nI c)]) (rest := []) C (mX7_isPosition_n l D G f c (by omega) (by omega) (by omega)) hS hP hD [] rfl (by decide) (ys_X7_isPosition) kw_7_18 kw_7_19 ⟨Nat.le_of_ble_eq_true rfl, Nat.le_of_ble_eq_true rfl⟩ hl.1 (Nat.le_of_ble_eq_true rfl) dX7_entryValue_2 rfl rfl ⟨Nat.zero_le _, Nat.zero_le _⟩) hS hP hD [] rfl (fun r2 _ H locs hp2 hP hS => ?_)
  refine ro_top (z := 1) hx hp2 ?_
  refine lv_if_ne (tgt := 18) hx hb dX7_entryValue_5 (by decide) (fun _ => ?_) (fun h => absurd h (by decide))
  refine lv_iload_n hx hb dX7_entryValue_18 rfl (lv_at hl 1 rfl) ?_
  refine lv_iload_n hx hb dX7_entryValue_19 rfl (lv_at hl 2 rfl) ?_
  refine aftI0 C (runS_G (As := [.int (nI f), .int (nI c)]) (rest := []) C (mX7_cell l D G f c (by omega) (by omega) (by omega)) hS hP hD [] rfl (by decide) (ys_X7_cell) kw_15_4 kw_7_16 ⟨Nat.le_of_ble_eq_true rfl, Nat.le_of_ble_eq_true rfl⟩ hl.1 (Nat.le_of_ble_eq_true rfl) dX7_entryValue_20 rfl rfl ⟨Nat.zero_le _, Nat.zero_le _⟩) hS hP hD [] rfl (fun r20 _ H locs hp20 hP hS => ?_)
  refine ro_top (z := nI (f * 12 + c - 1)) hx hp20 ?_
  refine lv_istore_n (lv' := [(3, .int (nI (f * 12 + c - 1))), (0, .ref q), (1, .int (nI f)), (2, .int (nI c))]) hx hb dX7_entryValue_23 rfl hl (by decide) rfl (fun ls hl => ?_)
  refine lv_aload_n hx hb dX7_entryValue_24 rfl (lv_at hl 1 rfl) ?_
  refine va_get (D := D) (ci := 7) (v := .ref (sa 0)) (C := RX7) (T := TX7) (N := 5) hx hb hts inlX7 hown hK hP 0 rfl rfl 0 (by decide) (hts _ kw_1_13) (fun _ h9 => h9) rfl dX7_entryValue_25 ?_
  refine va_get (D := D) (ci := 6) (v := .ref (sa 3)) (C := RX6) (T := TX6) (N := 5) hx hb hts inlX6 hown hK hP 1 rfl rfl 1 (by decide) (hts _ kw_9_0) (fun _ h9 => h9) rfl dX7_entryValue_28 ?_
  refine va_get (D := D) (ci := 0) (v := .ref (sa 4)) (C := RX0) (T := TX0) (N := 6) hx hb hts inlX0 hown hK hP 4 rfl rfl 4 (by decide) (hts _ kw_15_3) (fun _ h9 => h9) rfl dX7_entryValue_31 ?_
  refine lv_iload_n hx hb dX7_entryValue_34 rfl (lv_at hl 0 rfl) ?_
  refine aftI0 C (runS_G (As := [.ref (sa 4), .int (nI (f * 12 + c - 1))]) (rest := []) C (mX7_at l D G (sa 4) 144 (kdY y) (f * 12 + c - 1) (by omega) (by omega)) hS hP hD [5] rfl (by decide) (ys_X7_at) kw_8_1 kw_7_21 ⟨Nat.le_of_ble_eq_true rfl, Nat.le_of_ble_eq_true rfl⟩ hl.1 (Nat.le_of_ble_eq_true rfl) dX7_entryValue_35 rfl rfl ⟨Nat.zero_le _, Nat.zero_le _⟩) hS hP hD [5] rfl (fun r35 _ H locs hp35 hP hS => ?_)
  refine ro_top (z := (kdY y) (f * 12 + c - 1)) hx hp35 ?_
  refine lv_if_ne (tgt := 47) hx hb dX7_entryValue_38 (by decide) (fun c_38 => ?_) (fun c_38 => ?_)
  · refine lv_aload_n hx hb dX7_entryValue_47 rfl (lv_at hl 1 rfl) ?_
    refine va_get (D := D) (ci := 7) (v := .ref (sa 0)) (C := RX7) (T := TX7) (N := 5) hx hb hts inlX7 hown hK hP 0 rfl rfl 0 (by decide) (hts _ kw_1_13) (fun _ h9 => h9) rfl dX7_entryValue_48 ?_
    refine va_get (D := D) (ci := 6) (v := .ref (sa 3)) (C := RX6) (T := TX6) (N := 5) hx hb hts inlX6 hown hK hP 1 rfl rfl 1 (by decide) (hts _ kw_9_0) (fun _ h9 => h9) rfl dX7_entryValue_51 ?_
    refine va_get (D := D) (ci := 0) (v := .ref (sa 5)) (C := RX0) (T := TX0) (N := 6) hx hb hts inlX0 hown hK hP 4 rfl rfl 5 (by decide) (hts _ kw_15_12) (fun _ h9 => h9) rfl dX7_entryValue_54 ?_
    refine lv_iload_n hx hb dX7_entryValue_57 rfl (lv_at hl 0 rfl) ?_
    refine aftI0 C (runS_G (As := [.ref (sa 5), .int (nI (f * 12 + c - 1))]) (rest := []) C (mX7_at l D G (sa 5) 144 (vlY y) (f * 12 + c - 1) (by omega) (by omega)) hS hP hD [6] rfl (by decide) (ys_X7_at) kw_8_1 kw_7_21 ⟨Nat.le_of_ble_eq_true rfl, Nat.le_of_ble_eq_true rfl⟩ hl.1 (Nat.le_of_ble_eq_true rfl) dX7_entryValue_58 rfl rfl ⟨Nat.zero_le _, Nat.zero_le _⟩) hS hP hD [6] rfl (fun r58 _ H locs hp58 hP hS => ?_)
    refine ro_top (z := (vlY y) (f * 12 + c - 1)) hx hp58 ?_
    exact endI C rfl () (if_neg c_38).symm hS hP dX7_entryValue_61
  · refine lv_sipush (v := (-999)) hx hb dX7_entryValue_41 (by decide) ?_
    refine lv_goto (tgt := 61) hx hb dX7_entryValue_44 (by decide) ?_
    exact endI C rfl () (if_pos c_38).symm hS hP dX7_entryValue_61
set_option maxHeartbeats 800000 in
set_option maxRecDepth 100000 in
theorem mX7_order (l : Launch) (D : va_G) (G : u_G) (q : Nat) (sa ha ta fa ea : Nat → Nat) (x : Nat → Nat) (y p : Nat → Int32) (k : Nat) (hk : k < 4) (ho : x 18 < 24) : MtI l D G yX7_order cX7_order 2 .int 6 0 0 [.ref q, .int (nI k)] [(q, .inr (7, [.ref (sa 0), .ref (ha 0), .ref (ta 0), .ref (fa 0), .ref (ea 0)])), (sa 0, .inr (6, [.ref (sa 1), .ref (sa 3), .int (nI (x 18)), .int (nI (x 19)), .int (bI (x 20 = 0))])), (sa 1, .inr (2, [.ref (sa 2), .int (nI (x 13)), .int (nI (x 14)), .int (nI (x 15)), .int (y 16), .int (y 17)])), (sa 2, .inl (G.1, 12, .inl p)), (sa 3, .inr (0, [.int (y 21), .int (nI (x 22)), .int (y 23), .int (y 24), .ref (sa 4), .ref (sa 5)])), (sa 4, .inl (G.1, 144, .inl (kdY y))), (sa 5, .inl (G.1, 144, .inl (vlY y)))] (fun (r : Int32) (_ : Unit) => r = nI (odf (x 18) k)) (fun (_ : Unit) => [(q, .inr (7, [.ref (sa 0), .ref (ha 0), .ref (ta 0), .ref (fa 0), .ref (ea 0)])), (sa 0, .inr (6, [.ref (sa 1), .ref (sa 3), .int (nI (x 18)), .int (nI (x 19)), .int (bI (x 20 = 0))])), (sa 1, .inr (2, [.ref (sa 2), .int (nI (x 13)), .int (nI (x 14)), .int (nI (x 15)), .int (y 16), .int (y 17)])), (sa 2, .inl (G.1, 12, .inl p)), (sa 3, .inr (0, [.int (y 21), .int (nI (x 22)), .int (y 23), .int (y 24), .ref (sa 4), .ref (sa 5)])), (sa 4, .inl (G.1, 144, .inl (kdY y))), (sa 5, .inl (G.1, 144, .inl (vlY y)))]) := by
  refine MtI.of (by decide) (Nat.le_of_ble_eq_true rfl) ?_
  intro pr e s9 m9 below meth c9 A ls C hP hD hl
  obtain ⟨hx, hb, hml, hown, hts, hr, hlocks, hA, hAm⟩ := id C
  have hK := hAm.1
  have hS : va_S A s9.heap s9.heap [] := va_S.rf
  have hl : lv_has ls 2 [(0, .ref q), (1, .int (nI k))] := hl
  refine lv_iload_n hx hb dX7_order_0 rfl (lv_at hl 1 rfl) ?_
  refine lv_if_lt (tgt := 9) hx hb dX7_order_1 (by decide) (fun h => absurd h (nI_pos (by omega))) (fun _ => ?_)
  refine lv_iload_n hx hb dX7_order_4 rfl (lv_at hl 1 rfl) ?_
  refine lv_iconst (v := 4) hx hb dX7_order_5 (by decide) ?_
  refine lv_icmp_lt (tgt := 19) hx hb dX7_order_6 (by decide) (fun c_6 => ?_) (fun c_6 => ?_)
  · have c_6 := nlt_t (a := k) (b := 4) (by omega) (by omega) c_6
    refine lv_aload_n hx hb dX7_order_19 rfl (lv_at hl 0 rfl) ?_
    refine va_get (D := D) (ci := 7) (v := .ref (sa 0)) (C := RX7) (T := TX7) (N := 5) hx hb hts inlX7 hown hK hP 0 rfl rfl 0 (by decide) (hts _ kw_1_13) (fun _ h9 => h9) rfl dX7_order_20 ?_
    refine va_get (D := D) (ci := 6) (v := .int (nI (x 18))) (C := RX6) (T := TX6) (N := 5) hx hb hts inlX6 hown hK hP 1 rfl rfl 2 (by decide) (hts _ kw_15_20) (fun _ h9 => h9) rfl dX7_order_23 ?_
    refine lv_iload_n hx hb dX7_order_26 rfl (lv_at hl 1 rfl) ?_
    refine aftI0 C (runS_G (As := [.int (nI (x 18)), .int (nI k)]) (rest := []) C (mX7_moveOfOrder l D G (x 18) k (by omega) (by omega)) hS hP hD [] rfl (by decide) (ys_X7_moveOfOrder) kw_15_21 kw_11_6 ⟨Nat.le_of_ble_eq_true rfl, Nat.le_of_ble_eq_true rfl⟩ hl.1 (Nat.le_of_ble_eq_true rfl) dX7_order_27 rfl rfl ⟨Nat.zero_le _, Nat.zero_le _⟩) hS hP hD [] rfl (fun r27 _ H locs hp27 hP hS => ?_)
    refine ro_top (z := nI (ordN ((x 18) * 4 + k))) hx hp27 ?_
    exact endI C rfl () rfl hS hP dX7_order_30
  · have c_6 := nlt_f (a := k) (b := 4) (by omega) (by omega) c_6
    omega
set_option maxHeartbeats 800000 in
set_option maxRecDepth 100000 in
theorem mX7_nodesWith (l : Launch) (D : va_G) (G : u_G) (q : Nat) (sa ha ta fa ea : Nat → Nat) (x : Nat → Nat) (y p : Nat → Int32) (v : Nat → Nat) (w : Nat → Int32) (c : Nat → Nat → Int32) (o : Nat) (hfn : x 13 + x 14 ≤ 12) (hlim : x 19 ≤ 5000) (ho : o < 24) : MtI l D G yX7_nodesWith cX7_nodesWith 2 .int 31 0 0 [.ref q, .int (nI o)] [(q, .inr (7, [.ref (sa 0), .ref (ha 0), .ref (ta 0), .ref (fa 0), .ref (ea 0)])), (sa 0, .inr (6, [.ref (sa 1), .ref (sa 3), .int (nI (x 18)), .int (nI (x 19)), .int (bI (x 20 = 0))])), (sa 1, .inr (2, [.ref (sa 2), .int (nI (x 13)), .int (nI (x 14)), .int (nI (x 15)), .int (y 16), .int (y 17)])), (sa 2, .inl (G.1, 12, .inl p)), (sa 3, .inr (0, [.int (y 21), .int (nI (x 22)), .int (y 23), .int (y 24), .ref (sa 4), .ref (sa 5)])), (sa 4, .inl (G.1, 144, .inl (kdY y))), (sa 5, .inl (G.1, 144, .inl (vlY y))), (ea 0, .inr (5, [.ref (ea 1), .ref (ea 4), .ref (ea 5), .int (nI (v 0)), .int (nI (v 1)), .int (w 0), .int (w 1)])), (ea 1, .inr (0, [.int (w 2), .int (nI (v 2)), .int (w 3), .int (w 4), .ref (ea 2), .ref (ea 3)])), (ea 2, .inl (G.1, 144, .inl (c 0))), (ea 3, .inl (G.1, 144, .inl (c 1))), (ea 4, .inl (G.1, 12, .inl (c 2))), (ea 5, .inl (G.1, 144, .inl (c 3)))] (fun (r : Int32) (u : (Nat → Nat) × (Nat → Int32) × (Nat → Nat → Int32)) => r = nI (fcN p x o)) (fun (u : (Nat → Nat) × (Nat → Int32) × (Nat → Nat → Int32)) => [(q, .inr (7, [.ref (sa 0), .ref (ha 0), .ref (ta 0), .ref (fa 0), .ref (ea 0)])), (sa 0, .inr (6, [.ref (sa 1), .ref (sa 3), .int (nI (x 18)), .int (nI (x 19)), .int (bI (x 20 = 0))])), (sa 1, .inr (2, [.ref (sa 2), .int (nI (x 13)), .int (nI (x 14)), .int (nI (x 15)), .int (y 16), .int (y 17)])), (sa 2, .inl (G.1, 12, .inl p)), (sa 3, .inr (0, [.int (y 21), .int (nI (x 22)), .int (y 23), .int (y 24), .ref (sa 4), .ref (sa 5)])), (sa 4, .inl (G.1, 144, .inl (kdY y))), (sa 5, .inl (G.1, 144, .inl (vlY y))), (ea 0, .inr (5, [.ref (ea 1), .ref (ea 4), .ref (ea 5), .int (nI (u.1 0)), .int (nI (u.1 1)), .int (u.2.1 0), .int (u.2.1 1)])), (ea 1, .inr (0, [.int (u.2.1 2), .int (nI (u.1 2)), .int (u.2.1 3), .int (u.2.1 4), .ref (ea 2), .ref (ea 3)])), (ea 2, .inl (G.1, 144, .inl (u.2.2 0))), (ea 3, .inl (G.1, 144, .inl (u.2.2 1))), (ea 4, .inl (G.1, 12, .inl (u.2.2 2))), (ea 5, .inl (G.1, 144, .inl (u.2.2 3)))]) := by
  refine MtI.of (by decide) (Nat.le_of_ble_eq_true rfl) ?_
  intro pr e s9 m9 below meth c9 A ls C hP hD hl
  obtain ⟨hx, hb, hml, hown, hts, hr, hlocks, hA, hAm⟩ := id C
  have hK := hAm.1
  have hS : va_S A s9.heap s9.heap [] := va_S.rf
  have hl : lv_has ls 2 [(0, .ref q), (1, .int (nI o))] := hl
  refine lv_iload_n hx hb dX7_nodesWith_0 rfl (lv_at hl 1 rfl) ?_
  refine aftI0 C (runS_G (As := [.int (nI o)]) (rest := []) C (mX7_isOrder_n l D G o (by omega)) hS hP hD [] rfl (by decide) (ys_X7_isOrder) kw_11_19 kw_11_20 ⟨Nat.le_of_ble_eq_true rfl, Nat.le_of_ble_eq_true rfl⟩ hl.1 (Nat.le_of_ble_eq_true rfl) dX7_nodesWith_1 rfl rfl ⟨Nat.zero_le _, Nat.zero_le _⟩) hS hP hD [] rfl (fun r1 _ H locs hp1 hP hS => ?_)
  refine ro_top (z := 1) hx hp1 ?_
  refine lv_if_ne (tgt := 17) hx hb dX7_nodesWith_4 (by decide) (fun _ => ?_) (fun h => absurd h (by decide))
  refine lv_aload_n hx hb dX7_nodesWith_17 rfl (lv_at hl 0 rfl) ?_
  refine lv_iload_n hx hb dX7_nodesWith_18 rfl (lv_at hl 1 rfl) ?_
  refine aftI C (runV_G (As := [.int (nI o)]) (rest := []) (ci := 7) (N := 5) (T := TX7) (q0 := 0) C (mX7_forecast l D G q sa ha ta fa ea x y p v w c o hfn hlim ho) hS hP hD [0, 1, 2, 3, 4, 5, 6, 7, 8, 9, 10, 11, 12] rfl (by decide) rfl rfl (ys_X7_forecast) kw_9_12 kw_9_13 kw_9_14 ⟨Nat.le_of_ble_eq_true rfl, Nat.le_of_ble_eq_true rfl⟩ hl.1 (Nat.le_of_ble_eq_true rfl) dX7_nodesWith_19 rfl rfl ⟨Nat.zero_le _, Nat.zero_le _⟩) hS hP hD [0, 1, 2, 3, 4, 5, 6, 7, 8, 9, 10, 11, 12] rfl (fun _ => rfl) (fun r19 u19 H locs hp19 hP hD hS => ?_)
  have hP : va_P D vwCl [(q, .inr (7, [.ref (sa 0), .ref (ha 0), .ref (ta 0), .ref (fa 0), .ref (ea 0)])), (sa 0, .inr (6, [.ref (sa 1), .ref (sa 3), .int (nI (x 18)), .int (nI (x 19)), .int (bI (x 20 = 0))])), (sa 1, .inr (2, [.ref (sa 2), .int (nI (x 13)), .int (nI (x 14)), .int (nI (x 15)), .int (y 16), .int (y 17)])), (sa 2, .inl (G.1, 12, .inl p)), (sa 3, .inr (0, [.int (y 21), .int (nI (x 22)), .int (y 23), .int (y 24), .ref (sa 4), .ref (sa 5)])), (sa 4, .inl (G.1, 144, .inl (kdY y))), (sa 5, .inl (G.1, 144, .inl (vlY y))), (ea 0, .inr (5, [.ref (ea 1), .ref (ea 4), .ref (ea 5), .int (nI (u19.1 0)), .int (nI (u19.1 1)), .int (u19.2.1 0), .int (u19.2.1 1)])), (ea 1, .inr (0, [.int (u19.2.1 2), .int (nI (u19.1 2)), .int (u19.2.1 3), .int (u19.2.1 4), .ref (ea 2), .ref (ea 3)])), (ea 2, .inl (G.1, 144, .inl (u19.2.2 0))), (ea 3, .inl (G.1, 144, .inl (u19.2.2 1))), (ea 4, .inl (G.1, 12, .inl (u19.2.2 2))), (ea 5, .inl (G.1, 144, .inl (u19.2.2 3)))] H := hP
  have hD : va_D A [(q, .inr (7, [.ref (sa 0), .ref (ha 0), .ref (ta 0), .ref (fa 0), .ref (ea 0)])), (sa 0, .inr (6, [.ref (sa 1), .ref (sa 3), .int (nI (x 18)), .int (nI (x 19)), .int (bI (x 20 = 0))])), (sa 1, .inr (2, [.ref (sa 2), .int (nI (x 13)), .int (nI (x 14)), .int (nI (x 15)), .int (y 16), .int (y 17)])), (sa 2, .inl (G.1, 12, .inl p)), (sa 3, .inr (0, [.int (y 21), .int (nI (x 22)), .int (y 23), .int (y 24), .ref (sa 4), .ref (sa 5)])), (sa 4, .inl (G.1, 144, .inl (kdY y))), (sa 5, .inl (G.1, 144, .inl (vlY y))), (ea 0, .inr (5, [.ref (ea 1), .ref (ea 4), .ref (ea 5), .int (nI (u19.1 0)), .int (nI (u19.1 1)), .int (u19.2.1 0), .int (u19.2.1 1)])), (ea 1, .inr (0, [.int (u19.2.1 2), .int (nI (u19.1 2)), .int (u19.2.1 3), .int (u19.2.1 4), .ref (ea 2), .ref (ea 3)])), (ea 2, .inl (G.1, 144, .inl (u19.2.2 0))), (ea 3, .inl (G.1, 144, .inl (u19.2.2 1))), (ea 4, .inl (G.1, 12, .inl (u19.2.2 2))), (ea 5, .inl (G.1, 144, .inl (u19.2.2 3)))] := hD
  exact endI C rfl u19 hp19 hS hP dX7_nodesWith_22
set_option maxHeartbeats 800000 in
set_option maxRecDepth 100000 in
theorem mX7_append (l : Launch) (D : va_G) (G : u_G) (q : Nat) (sa ha ta fa ea : Nat → Nat) (L cnt num : Nat) (F : Nat → Int32) (t : Nat → Nat) (c : Nat) (h1 : 33 ≤ c) (h2 : c ≤ 126) (hL : L < 60) : MtI l D G yX7_append cX7_append 2 .int 6 0 0 [.ref q, .int (nI c)] [(q, .inr (7, [.ref (sa 0), .ref (ha 0), .ref (ta 0), .ref (fa 0), .ref (ea 0)])), (ta 0, .inr (4, [.ref (ta 1), .int (nI L), .ref (ta 2), .int (nI cnt), .int (nI num)])), (ta 1, .inl (G.1, 60, .inl (tN t))), (ta 2, .inl (G.1, 12, .inl F))] (fun (r : Int32) (_ : Unit) => r = nI (L + 1)) (fun (_ : Unit) => [(q, .inr (7, [.ref (sa 0), .ref (ha 0), .ref (ta 0), .ref (fa 0), .ref (ea 0)])), (ta 0, .inr (4, [.ref (ta 1), .int (nI (L + 1)), .ref (ta 2), .int (nI cnt), .int (nI num)])), (ta 1, .inl (G.1, 60, .inl (tN (va_up t L c)))), (ta 2, .inl (G.1, 12, .inl F))]) := by
  refine MtI.of (by decide) (Nat.le_of_ble_eq_true rfl) ?_
  intro pr e s9 m9 below meth c9 A ls C hP hD hl
  obtain ⟨hx, hb, hml, hown, hts, hr, hlocks, hA, hAm⟩ := id C
  have hK := hAm.1
  have hS : va_S A s9.heap s9.heap [] := va_S.rf
  have hl : lv_has ls 2 [(0, .ref q), (1, .int (nI c))] := hl
  refine lv_iload_n hx hb dX7_append_0 rfl (lv_at hl 1 rfl) ?_
  refine lv_bipush (v := 33) hx hb dX7_append_1 (by decide) ?_
  refine lv_icmp_lt (tgt := 12) hx hb dX7_append_3 (by decide) (fun c_3 => ?_) (fun c_3 => ?_)
  · have c_3 := nlt_t (a := c) (b := 33) (by omega) (by omega) c_3
    omega
  · have c_3 := nlt_f (a := c) (b := 33) (by omega) (by omega) c_3
    refine lv_iload_n hx hb dX7_append_6 rfl (lv_at hl 1 rfl) ?_
    refine lv_bipush (v := 126) hx hb dX7_append_7 (by decide) ?_
    refine lv_icmp_le (tgt := 22) hx hb dX7_append_9 (by decide) (fun c_9 => ?_) (fun c_9 => ?_)
    · have c_9 := nle_t (a := c) (b := 126) (by omega) (by omega) c_9
      refine lv_aload_n hx hb dX7_append_22 rfl (lv_at hl 0 rfl) ?_
      refine va_get (D := D) (ci := 7) (v := .ref (ta 0)) (C := RX7) (T := TX7) (N := 5) hx hb hts inlX7 hown hK hP 0 rfl rfl 2 (by decide) (hts _ kw_1_21) (fun _ h9 => h9) rfl dX7_append_23 ?_
      refine va_get (D := D) (ci := 4) (v := .int (nI L)) (C := RX4) (T := TX4) (N := 5) hx hb hts inlX4 hown hK hP 1 rfl rfl 1 (by decide) (hts _ kw_17_6) (fun _ h9 => h9) rfl dX7_append_26 ?_
      refine lv_bipush (v := 60) hx hb dX7_append_29 (by decide) ?_
      refine lv_icmp_lt (tgt := 44) hx hb dX7_append_31 (by decide) (fun c_31 => ?_) (fun c_31 => ?_)
      · have c_31 := nlt_t (a := L) (b := 60) (by omega) (by omega) c_31
        refine lv_aload_n hx hb dX7_append_44 rfl (lv_at hl 0 rfl) ?_
        refine va_get (D := D) (ci := 7) (v := .ref (ta 0)) (C := RX7) (T := TX7) (N := 5) hx hb hts inlX7 hown hK hP 0 rfl rfl 2 (by decide) (hts _ kw_1_21) (fun _ h9 => h9) rfl dX7_append_45 ?_
        refine va_get (D := D) (ci := 4) (v := .ref (ta 1)) (C := RX4) (T := TX4) (N := 5) hx hb hts inlX4 hown hK hP 1 rfl rfl 0 (by decide) (hts _ kw_17_14) (fun _ h9 => h9) rfl dX7_append_48 ?_
        refine lv_aload_n hx hb dX7_append_51 rfl (lv_at hl 0 rfl) ?_
        refine va_get (D := D) (ci := 7) (v := .ref (ta 0)) (C := RX7) (T := TX7) (N := 5) hx hb hts inlX7 hown hK hP 0 rfl rfl 2 (by decide) (hts _ kw_1_21) (fun _ h9 => h9) rfl dX7_append_52 ?_
        refine va_get (D := D) (ci := 4) (v := .int (nI L)) (C := RX4) (T := TX4) (N := 5) hx hb hts inlX4 hown hK hP 1 rfl rfl 1 (by decide) (hts _ kw_17_6) (fun _ h9 => h9) rfl dX7_append_55 ?_
        refine lv_iload_n hx hb dX7_append_58 rfl (lv_at hl 1 rfl) ?_
        refine aftV C (runS_G (As := [.ref (ta 1), .int (nI L), .int (nI c)]) (rest := []) C (mX7_put l D G (ta 1) 60 (tN t) L (nI c) (by omega) (by omega)) hS hP hD [2] rfl (by decide) (ys_X7_put) kw_17_15 kw_8_2 ⟨Nat.le_of_ble_eq_true rfl, Nat.le_of_ble_eq_true rfl⟩ hl.1 (Nat.le_of_ble_eq_true rfl) dX7_append_59 rfl rfl ⟨Nat.zero_le _, Nat.zero_le _⟩) hS hP hD [2] rfl (fun _ => rfl) (fun _ H locs hp59 hP hD hS => ?_)
        have hP : va_P D vwCl [(q, .inr (7, [.ref (sa 0), .ref (ha 0), .ref (ta 0), .ref (fa 0), .ref (ea 0)])), (ta 0, .inr (4, [.ref (ta 1), .int (nI L), .ref (ta 2), .int (nI cnt), .int (nI num)])), (ta 1, .inl (G.1, 60, .inl (upd (tN t) L (nI c)))), (ta 2, .inl (G.1, 12, .inl F))] H := hP
        have hD : va_D A [(q, .inr (7, [.ref (sa 0), .ref (ha 0), .ref (ta 0), .ref (fa 0), .ref (ea 0)])), (ta 0, .inr (4, [.ref (ta 1), .int (nI L), .ref (ta 2), .int (nI cnt), .int (nI num)])), (ta 1, .inl (G.1, 60, .inl (upd (tN t) L (nI c)))), (ta 2, .inl (G.1, 12, .inl F))] := hD
        refine lv_aload_n hx hb dX7_append_62 rfl (lv_at hl 0 rfl) ?_
        refine va_get (D := D) (ci := 7) (v := .ref (ta 0)) (C := RX7) (T := TX7) (N := 5) hx hb hts inlX7 hown hK hP 0 rfl rfl 2 (by decide) (hts _ kw_1_21) (fun _ h9 => h9) rfl dX7_append_63 ?_
        refine lv_dup hx hb dX7_append_66 rfl ?_
        refine va_get (D := D) (ci := 4) (v := .int (nI L)) (C := RX4) (T := TX4) (N := 5) hx hb hts inlX4 hown hK hP 1 rfl rfl 1 (by decide) (hts _ kw_17_6) (fun _ h9 => h9) rfl dX7_append_67 ?_
        refine lv_iconst (v := 1) hx hb dX7_append_70 (by decide) ?_
        refine ro_iadd (z := nI (L + 1)) hx hb (nI_add L 1) dX7_append_71 ?_
        refine va_put (D := D) (ci := 4) (v := .int (nI (L + 1))) (ty := .int) (C := RX4) (T := TX4) (N := 5) hx hb hts inlX4 tyX4 tyX4_ok nmX4 hown hK hP hD hS 1 rfl rfl 1 (by decide) (hts _ kw_17_6) (fun _ h9 => h9) rfl (by decide +kernel) rfl rfl (Nat.le_of_ble_eq_true rfl) dX7_append_72 (fun H locs hP hD hS => ?_)
        have hP : va_P D vwCl [(q, .inr (7, [.ref (sa 0), .ref (ha 0), .ref (ta 0), .ref (fa 0), .ref (ea 0)])), (ta 0, .inr (4, [.ref (ta 1), .int (nI (L + 1)), .ref (ta 2), .int (nI cnt), .int (nI num)])), (ta 1, .inl (G.1, 60, .inl (upd (tN t) L (nI c)))), (ta 2, .inl (G.1, 12, .inl F))] H := hP
        have hD : va_D A [(q, .inr (7, [.ref (sa 0), .ref (ha 0), .ref (ta 0), .ref (fa 0), .ref (ea 0)])), (ta 0, .inr (4, [.ref (ta 1), .int (nI (L + 1)), .ref (ta 2), .int (nI cnt), .int (nI num)])), (ta 1, .inl (G.1, 60, .inl (upd (tN t) L (nI c)))), (ta 2, .inl (G.1, 12, .inl F))] := hD
        refine lv_aload_n hx hb dX7_append_75 rfl (lv_at hl 0 rfl) ?_
        refine va_get (D := D) (ci := 7) (v := .ref (ta 0)) (C := RX7) (T := TX7) (N := 5) hx hb hts inlX7 hown hK hP 0 rfl rfl 2 (by decide) (hts _ kw_1_21) (fun _ h9 => h9) rfl dX7_append_76 ?_
        refine va_get (D := D) (ci := 4) (v := .int (nI (L + 1))) (C := RX4) (T := TX4) (N := 5) hx hb hts inlX4 hown hK hP 1 rfl rfl 1 (by decide) (hts _ kw_17_6) (fun _ h9 => h9) rfl dX7_append_79 ?_
        exact endI C rfl () rfl hS (by rw [← tN_up]; exact hP) dX7_append_82
      · have c_31 := nlt_f (a := L) (b := 60) (by omega) (by omega) c_31
        omega
    · have c_9 := nle_f (a := c) (b := 126) (by omega) (by omega) c_9
      omega
set_option maxHeartbeats 800000 in
set_option maxRecDepth 100000 in
theorem mX7_setOrder (l : Launch) (D : va_G) (G : u_G) (q : Nat) (sa ha ta fa ea : Nat → Nat) (x : Nat → Nat) (y p : Nat → Int32) (og cg : Nat) (a : Nat → Nat → Nat) (xs : Nat → Nat → Nat) (ys ps : Nat → Nat → Int32) (o : Nat) (hog : og < 6) (hcg : cg ≤ 6) (ho : o < 24) : MtI l D G yX7_setOrder cX7_setOrder 3 .int 6 0 0 [.ref q, .int (nI o)] ([(q, .inr (7, [.ref (sa 0), .ref (ha 0), .ref (ta 0), .ref (fa 0), .ref (ea 0)])), (sa 0, .inr (6, [.ref (sa 1), .ref (sa 3), .int (nI (x 18)), .int (nI (x 19)), .int (bI (x 20 = 0))])), (sa 1, .inr (2, [.ref (sa 2), .int (nI (x 13)), .int (nI (x 14)), .int (nI (x 15)), .int (y 16), .int (y 17)])), (sa 2, .inl (G.1, 12, .inl p)), (sa 3, .inr (0, [.int (y 21), .int (nI (x 22)), .int (y 23), .int (y 24), .ref (sa 4), .ref (sa 5)])), (sa 4, .inl (G.1, 144, .inl (kdY y))), (sa 5, .inl (G.1, 144, .inl (vlY y))), (ha 0, .inr (3, [.ref (ha 1), .int (nI og), .int (nI cg)])), (ha 1, .inl (G.2.1, 6, .inr (.inr (.inr (.inr (sqf a))))))] ++ svw G a xs ys ps) (fun (r : Int32) (_ : Unit) => r = nI (x 18)) (fun (_ : Unit) => ([(q, .inr (7, [.ref (sa 0), .ref (ha 0), .ref (ta 0), .ref (fa 0), .ref (ea 0)])), (sa 0, .inr (6, [.ref (sa 1), .ref (sa 3), .int (nI ((va_up x 18 o) 18)), .int (nI ((va_up x 18 o) 19)), .int (bI ((va_up x 18 o) 20 = 0))])), (sa 1, .inr (2, [.ref (sa 2), .int (nI ((va_up x 18 o) 13)), .int (nI ((va_up x 18 o) 14)), .int (nI ((va_up x 18 o) 15)), .int (y 16), .int (y 17)])), (sa 2, .inl (G.1, 12, .inl p)), (sa 3, .inr (0, [.int (y 21), .int (nI ((va_up x 18 o) 22)), .int (y 23), .int (y 24), .ref (sa 4), .ref (sa 5)])), (sa 4, .inl (G.1, 144, .inl (kdY y))), (sa 5, .inl (G.1, 144, .inl (vlY y))), (ha 0, .inr (3, [.ref (ha 1), .int (nI (svO og cg)), .int (nI (svC cg))])), (ha 1, .inl (G.2.1, 6, .inr (.inr (.inr (.inr (sqf a))))))] ++ svw G a (sx xs (ri (og + cg)) x) (sx ys (ri (og + cg)) y) (sx ps (ri (og + cg)) p))) := by
  refine MtI.of (by decide) (Nat.le_of_ble_eq_true rfl) ?_
  intro pr e s9 m9 below meth c9 A ls C hP hD hl
  obtain ⟨hx, hb, hml, hown, hts, hr, hlocks, hA, hAm⟩ := id C
  have hK := hAm.1
  have hS : va_S A s9.heap s9.heap [] := va_S.rf
  have hl : lv_has ls 3 [(0, .ref q), (1, .int (nI o))] := hl
  refine lv_iload_n hx hb dX7_setOrder_0 rfl (lv_at hl 1 rfl) ?_
  refine aftI0 C (runS_G (As := [.int (nI o)]) (rest := []) C (mX7_isOrder_n l D G o (by omega)) hS hP hD [] rfl (by decide) (ys_X7_isOrder) kw_11_19 kw_11_20 ⟨Nat.le_of_ble_eq_true rfl, Nat.le_of_ble_eq_true rfl⟩ hl.1 (Nat.le_of_ble_eq_true rfl) dX7_setOrder_1 rfl rfl ⟨Nat.zero_le _, Nat.zero_le _⟩) hS hP hD [] rfl (fun r1 _ H locs hp1 hP hS => ?_)
  refine ro_top (z := 1) hx hp1 ?_
  refine lv_if_ne (tgt := 17) hx hb dX7_setOrder_4 (by decide) (fun _ => ?_) (fun h => absurd h (by decide))
  refine lv_aload_n hx hb dX7_setOrder_17 rfl (lv_at hl 0 rfl) ?_
  refine va_get (D := D) (ci := 7) (v := .ref (ha 0)) (C := RX7) (T := TX7) (N := 5) hx hb hts inlX7 hown hK hP 0 rfl rfl 1 (by decide) (hts _ kw_1_17) (fun _ h9 => h9) rfl dX7_setOrder_18 ?_
  refine lv_aload_n hx hb dX7_setOrder_21 rfl (lv_at hl 0 rfl) ?_
  refine va_get (D := D) (ci := 7) (v := .ref (sa 0)) (C := RX7) (T := TX7) (N := 5) hx hb hts inlX7 hown hK hP 0 rfl rfl 0 (by decide) (hts _ kw_1_13) (fun _ h9 => h9) rfl dX7_setOrder_22 ?_
  refine aftV C (runV_G (As := [.ref (sa 0)]) (rest := []) (ci := 3) (N := 3) (T := TX3) (q0 := 7) C (mX3_save l D G (ha 0) (ha 1) og cg a sa x y p xs ys ps hog hcg) hS hP hD ([7, 8, 1, 2, 3, 4, 5, 6] ++ List.range' 9 36) (tail_get (pre := ([(q, .inr (7, [.ref (sa 0), .ref (ha 0), .ref (ta 0), .ref (fa 0), .ref (ea 0)])), (sa 0, .inr (6, [.ref (sa 1), .ref (sa 3), .int (nI (x 18)), .int (nI (x 19)), .int (bI (x 20 = 0))])), (sa 1, .inr (2, [.ref (sa 2), .int (nI (x 13)), .int (nI (x 14)), .int (nI (x 15)), .int (y 16), .int (y 17)])), (sa 2, .inl (G.1, 12, .inl p)), (sa 3, .inr (0, [.int (y 21), .int (nI (x 22)), .int (y 23), .int (y 24), .ref (sa 4), .ref (sa 5)])), (sa 4, .inl (G.1, 144, .inl (kdY y))), (sa 5, .inl (G.1, 144, .inl (vlY y))), (ha 0, .inr (3, [.ref (ha 1), .int (nI og), .int (nI cg)])), (ha 1, .inl (G.2.1, 6, .inr (.inr (.inr (.inr (sqf a))))))] : va_W)) (w := ([(ha 0, .inr (3, [.ref (ha 1), .int (nI og), .int (nI cg)])), (ha 1, .inl (G.2.1, 6, .inr (.inr (.inr (.inr (sqf a)))))), (sa 0, .inr (6, [.ref (sa 1), .ref (sa 3), .int (nI (x 18)), .int (nI (x 19)), .int (bI (x 20 = 0))])), (sa 1, .inr (2, [.ref (sa 2), .int (nI (x 13)), .int (nI (x 14)), .int (nI (x 15)), .int (y 16), .int (y 17)])), (sa 2, .inl (G.1, 12, .inl p)), (sa 3, .inr (0, [.int (y 21), .int (nI (x 22)), .int (y 23), .int (y 24), .ref (sa 4), .ref (sa 5)])), (sa 4, .inl (G.1, 144, .inl (kdY y))), (sa 5, .inl (G.1, 144, .inl (vlY y)))] : va_W)) (isP := [7, 8, 1, 2, 3, 4, 5, 6]) rfl svw_len rfl) (by decide) rfl rfl (ys_X3_save) kw_18_6 kw_18_7 kw_18_8 ⟨Nat.le_of_ble_eq_true rfl, Nat.le_of_ble_eq_true rfl⟩ hl.1 (Nat.le_of_ble_eq_true rfl) dX7_setOrder_25 rfl rfl ⟨Nat.zero_le _, Nat.zero_le _⟩) hS hP hD ([7, 8, 1, 2, 3, 4, 5, 6] ++ List.range' 9 36) (tail_get (pre := ([(q, .inr (7, [.ref (sa 0), .ref (ha 0), .ref (ta 0), .ref (fa 0), .ref (ea 0)])), (sa 0, .inr (6, [.ref (sa 1), .ref (sa 3), .int (nI (x 18)), .int (nI (x 19)), .int (bI (x 20 = 0))])), (sa 1, .inr (2, [.ref (sa 2), .int (nI (x 13)), .int (nI (x 14)), .int (nI (x 15)), .int (y 16), .int (y 17)])), (sa 2, .inl (G.1, 12, .inl p)), (sa 3, .inr (0, [.int (y 21), .int (nI (x 22)), .int (y 23), .int (y 24), .ref (sa 4), .ref (sa 5)])), (sa 4, .inl (G.1, 144, .inl (kdY y))), (sa 5, .inl (G.1, 144, .inl (vlY y))), (ha 0, .inr (3, [.ref (ha 1), .int (nI og), .int (nI cg)])), (ha 1, .inl (G.2.1, 6, .inr (.inr (.inr (.inr (sqf a))))))] : va_W)) (w := ([(ha 0, .inr (3, [.ref (ha 1), .int (nI og), .int (nI cg)])), (ha 1, .inl (G.2.1, 6, .inr (.inr (.inr (.inr (sqf a)))))), (sa 0, .inr (6, [.ref (sa 1), .ref (sa 3), .int (nI (x 18)), .int (nI (x 19)), .int (bI (x 20 = 0))])), (sa 1, .inr (2, [.ref (sa 2), .int (nI (x 13)), .int (nI (x 14)), .int (nI (x 15)), .int (y 16), .int (y 17)])), (sa 2, .inl (G.1, 12, .inl p)), (sa 3, .inr (0, [.int (y 21), .int (nI (x 22)), .int (y 23), .int (y 24), .ref (sa 4), .ref (sa 5)])), (sa 4, .inl (G.1, 144, .inl (kdY y))), (sa 5, .inl (G.1, 144, .inl (vlY y)))] : va_W)) (isP := [7, 8, 1, 2, 3, 4, 5, 6]) rfl svw_len rfl) (fun _ => rfl) (fun _ H locs hp25 hP hD hS => ?_)
  have eW : wput (([(q, .inr (7, [.ref (sa 0), .ref (ha 0), .ref (ta 0), .ref (fa 0), .ref (ea 0)])), (sa 0, .inr (6, [.ref (sa 1), .ref (sa 3), .int (nI (x 18)), .int (nI (x 19)), .int (bI (x 20 = 0))])), (sa 1, .inr (2, [.ref (sa 2), .int (nI (x 13)), .int (nI (x 14)), .int (nI (x 15)), .int (y 16), .int (y 17)])), (sa 2, .inl (G.1, 12, .inl p)), (sa 3, .inr (0, [.int (y 21), .int (nI (x 22)), .int (y 23), .int (y 24), .ref (sa 4), .ref (sa 5)])), (sa 4, .inl (G.1, 144, .inl (kdY y))), (sa 5, .inl (G.1, 144, .inl (vlY y))), (ha 0, .inr (3, [.ref (ha 1), .int (nI og), .int (nI cg)])), (ha 1, .inl (G.2.1, 6, .inr (.inr (.inr (.inr (sqf a))))))] : va_W) ++ svw G a xs ys ps) ([7, 8, 1, 2, 3, 4, 5, 6] ++ List.range' 9 36) (([(ha 0, .inr (3, [.ref (ha 1), .int (nI (svO og cg)), .int (nI (svC cg))])), (ha 1, .inl (G.2.1, 6, .inr (.inr (.inr (.inr (sqf a)))))), (sa 0, .inr (6, [.ref (sa 1), .ref (sa 3), .int (nI (x 18)), .int (nI (x 19)), .int (bI (x 20 = 0))])), (sa 1, .inr (2, [.ref (sa 2), .int (nI (x 13)), .int (nI (x 14)), .int (nI (x 15)), .int (y 16), .int (y 17)])), (sa 2, .inl (G.1, 12, .inl p)), (sa 3, .inr (0, [.int (y 21), .int (nI (x 22)), .int (y 23), .int (y 24), .ref (sa 4), .ref (sa 5)])), (sa 4, .inl (G.1, 144, .inl (kdY y))), (sa 5, .inl (G.1, 144, .inl (vlY y)))] : va_W) ++ svw G a (sx xs (ri (og + cg)) x) (sx ys (ri (og + cg)) y) (sx ps (ri (og + cg)) p)) = ([(q, .inr (7, [.ref (sa 0), .ref (ha 0), .ref (ta 0), .ref (fa 0), .ref (ea 0)])), (sa 0, .inr (6, [.ref (sa 1), .ref (sa 3), .int (nI (x 18)), .int (nI (x 19)), .int (bI (x 20 = 0))])), (sa 1, .inr (2, [.ref (sa 2), .int (nI (x 13)), .int (nI (x 14)), .int (nI (x 15)), .int (y 16), .int (y 17)])), (sa 2, .inl (G.1, 12, .inl p)), (sa 3, .inr (0, [.int (y 21), .int (nI (x 22)), .int (y 23), .int (y 24), .ref (sa 4), .ref (sa 5)])), (sa 4, .inl (G.1, 144, .inl (kdY y))), (sa 5, .inl (G.1, 144, .inl (vlY y))), (ha 0, .inr (3, [.ref (ha 1), .int (nI (svO og cg)), .int (nI (svC cg))])), (ha 1, .inl (G.2.1, 6, .inr (.inr (.inr (.inr (sqf a))))))] ++ svw G a (sx xs (ri (og + cg)) x) (sx ys (ri (og + cg)) y) (sx ps (ri (og + cg)) p)) := tail_put rfl svw_len svw_len rfl (by decide) rfl
  rw [eW] at hP hD
  refine lv_aload_n hx hb dX7_setOrder_28 rfl (lv_at hl 0 rfl) ?_
  refine va_get (D := D) (ci := 7) (v := .ref (sa 0)) (C := RX7) (T := TX7) (N := 5) hx hb hts inlX7 hown hK hP 0 rfl rfl 0 (by decide) (hts _ kw_1_13) (fun _ h9 => h9) rfl dX7_setOrder_29 ?_
  refine va_get (D := D) (ci := 6) (v := .int (nI (x 18))) (C := RX6) (T := TX6) (N := 5) hx hb hts inlX6 hown hK hP 1 rfl rfl 2 (by decide) (hts _ kw_15_20) (fun _ h9 => h9) rfl dX7_setOrder_32 ?_
  refine lv_istore_n (lv' := [(2, .int (nI (x 18))), (0, .ref q), (1, .int (nI o))]) hx hb dX7_setOrder_35 rfl hl (by decide) rfl (fun ls hl => ?_)
  refine lv_aload_n hx hb dX7_setOrder_36 rfl (lv_at hl 1 rfl) ?_
  refine va_get (D := D) (ci := 7) (v := .ref (sa 0)) (C := RX7) (T := TX7) (N := 5) hx hb hts inlX7 hown hK hP 0 rfl rfl 0 (by decide) (hts _ kw_1_13) (fun _ h9 => h9) rfl dX7_setOrder_37 ?_
  refine lv_iload_n hx hb dX7_setOrder_40 rfl (lv_at hl 2 rfl) ?_
  refine va_put (D := D) (ci := 6) (v := .int (nI o)) (ty := .int) (C := RX6) (T := TX6) (N := 5) hx hb hts inlX6 tyX6 tyX6_ok nmX6 hown hK hP hD hS 1 rfl rfl 2 (by decide) (hts _ kw_15_20) (fun _ h9 => h9) rfl (by decide +kernel) rfl rfl (Nat.le_of_ble_eq_true rfl) dX7_setOrder_41 (fun H locs hP hD hS => ?_)
  have hP : va_P D vwCl ([(q, .inr (7, [.ref (sa 0), .ref (ha 0), .ref (ta 0), .ref (fa 0), .ref (ea 0)])), (sa 0, .inr (6, [.ref (sa 1), .ref (sa 3), .int (nI o), .int (nI (x 19)), .int (bI (x 20 = 0))])), (sa 1, .inr (2, [.ref (sa 2), .int (nI (x 13)), .int (nI (x 14)), .int (nI (x 15)), .int (y 16), .int (y 17)])), (sa 2, .inl (G.1, 12, .inl p)), (sa 3, .inr (0, [.int (y 21), .int (nI (x 22)), .int (y 23), .int (y 24), .ref (sa 4), .ref (sa 5)])), (sa 4, .inl (G.1, 144, .inl (kdY y))), (sa 5, .inl (G.1, 144, .inl (vlY y))), (ha 0, .inr (3, [.ref (ha 1), .int (nI (svO og cg)), .int (nI (svC cg))])), (ha 1, .inl (G.2.1, 6, .inr (.inr (.inr (.inr (sqf a))))))] ++ svw G a (sx xs (ri (og + cg)) x) (sx ys (ri (og + cg)) y) (sx ps (ri (og + cg)) p)) H := hP
  have hD : va_D A ([(q, .inr (7, [.ref (sa 0), .ref (ha 0), .ref (ta 0), .ref (fa 0), .ref (ea 0)])), (sa 0, .inr (6, [.ref (sa 1), .ref (sa 3), .int (nI o), .int (nI (x 19)), .int (bI (x 20 = 0))])), (sa 1, .inr (2, [.ref (sa 2), .int (nI (x 13)), .int (nI (x 14)), .int (nI (x 15)), .int (y 16), .int (y 17)])), (sa 2, .inl (G.1, 12, .inl p)), (sa 3, .inr (0, [.int (y 21), .int (nI (x 22)), .int (y 23), .int (y 24), .ref (sa 4), .ref (sa 5)])), (sa 4, .inl (G.1, 144, .inl (kdY y))), (sa 5, .inl (G.1, 144, .inl (vlY y))), (ha 0, .inr (3, [.ref (ha 1), .int (nI (svO og cg)), .int (nI (svC cg))])), (ha 1, .inl (G.2.1, 6, .inr (.inr (.inr (.inr (sqf a))))))] ++ svw G a (sx xs (ri (og + cg)) x) (sx ys (ri (og + cg)) y) (sx ps (ri (og + cg)) p)) := hD
  refine lv_iload_n hx hb dX7_setOrder_44 rfl (lv_at hl 0 rfl) ?_
  exact endI C rfl () rfl hS hP dX7_setOrder_45
set_option maxHeartbeats 800000 in
set_option maxRecDepth 100000 in
theorem mX7_setLimit (l : Launch) (D : va_G) (G : u_G) (q : Nat) (sa ha ta fa ea : Nat → Nat) (x : Nat → Nat) (y p : Nat → Int32) (og cg : Nat) (a : Nat → Nat → Nat) (xs : Nat → Nat → Nat) (ys ps : Nat → Nat → Int32) (k : Nat) (hog : og < 6) (hcg : cg ≤ 6) (h1 : 1 ≤ k) (h2 : k ≤ 5000) : MtI l D G yX7_setLimit cX7_setLimit 3 .int 6 0 0 [.ref q, .int (nI k)] ([(q, .inr (7, [.ref (sa 0), .ref (ha 0), .ref (ta 0), .ref (fa 0), .ref (ea 0)])), (sa 0, .inr (6, [.ref (sa 1), .ref (sa 3), .int (nI (x 18)), .int (nI (x 19)), .int (bI (x 20 = 0))])), (sa 1, .inr (2, [.ref (sa 2), .int (nI (x 13)), .int (nI (x 14)), .int (nI (x 15)), .int (y 16), .int (y 17)])), (sa 2, .inl (G.1, 12, .inl p)), (sa 3, .inr (0, [.int (y 21), .int (nI (x 22)), .int (y 23), .int (y 24), .ref (sa 4), .ref (sa 5)])), (sa 4, .inl (G.1, 144, .inl (kdY y))), (sa 5, .inl (G.1, 144, .inl (vlY y))), (ha 0, .inr (3, [.ref (ha 1), .int (nI og), .int (nI cg)])), (ha 1, .inl (G.2.1, 6, .inr (.inr (.inr (.inr (sqf a))))))] ++ svw G a xs ys ps) (fun (r : Int32) (_ : Unit) => r = nI (x 19)) (fun (_ : Unit) => ([(q, .inr (7, [.ref (sa 0), .ref (ha 0), .ref (ta 0), .ref (fa 0), .ref (ea 0)])), (sa 0, .inr (6, [.ref (sa 1), .ref (sa 3), .int (nI ((va_up x 19 k) 18)), .int (nI ((va_up x 19 k) 19)), .int (bI ((va_up x 19 k) 20 = 0))])), (sa 1, .inr (2, [.ref (sa 2), .int (nI ((va_up x 19 k) 13)), .int (nI ((va_up x 19 k) 14)), .int (nI ((va_up x 19 k) 15)), .int (y 16), .int (y 17)])), (sa 2, .inl (G.1, 12, .inl p)), (sa 3, .inr (0, [.int (y 21), .int (nI ((va_up x 19 k) 22)), .int (y 23), .int (y 24), .ref (sa 4), .ref (sa 5)])), (sa 4, .inl (G.1, 144, .inl (kdY y))), (sa 5, .inl (G.1, 144, .inl (vlY y))), (ha 0, .inr (3, [.ref (ha 1), .int (nI (svO og cg)), .int (nI (svC cg))])), (ha 1, .inl (G.2.1, 6, .inr (.inr (.inr (.inr (sqf a))))))] ++ svw G a (sx xs (ri (og + cg)) x) (sx ys (ri (og + cg)) y) (sx ps (ri (og + cg)) p))) := by
  refine MtI.of (by decide) (Nat.le_of_ble_eq_true rfl) ?_
  intro pr e s9 m9 below meth c9 A ls C hP hD hl
  obtain ⟨hx, hb, hml, hown, hts, hr, hlocks, hA, hAm⟩ := id C
  have hK := hAm.1
  have hS : va_S A s9.heap s9.heap [] := va_S.rf
  have hl : lv_has ls 3 [(0, .ref q), (1, .int (nI k))] := hl
  refine lv_iload_n hx hb dX7_setLimit_0 rfl (lv_at hl 1 rfl) ?_
  refine lv_iconst (v := 1) hx hb dX7_setLimit_1 (by decide) ?_
  refine lv_icmp_lt (tgt := 12) hx hb dX7_setLimit_2 (by decide) (fun c_2 => ?_) (fun c_2 => ?_)
  · have c_2 := nlt_t (a := k) (b := 1) (by omega) (by omega) c_2
    omega
  · have c_2 := nlt_f (a := k) (b := 1) (by omega) (by omega) c_2
    refine lv_iload_n hx hb dX7_setLimit_5 rfl (lv_at hl 1 rfl) ?_
    refine lv_sipush (v := 5000) hx hb dX7_setLimit_6 (by decide) ?_
    refine lv_icmp_le (tgt := 22) hx hb dX7_setLimit_9 (by decide) (fun c_9 => ?_) (fun c_9 => ?_)
    · have c_9 := nle_t (a := k) (b := 5000) (by omega) (by omega) c_9
      refine lv_aload_n hx hb dX7_setLimit_22 rfl (lv_at hl 0 rfl) ?_
      refine va_get (D := D) (ci := 7) (v := .ref (ha 0)) (C := RX7) (T := TX7) (N := 5) hx hb hts inlX7 hown hK hP 0 rfl rfl 1 (by decide) (hts _ kw_1_17) (fun _ h9 => h9) rfl dX7_setLimit_23 ?_
      refine lv_aload_n hx hb dX7_setLimit_26 rfl (lv_at hl 0 rfl) ?_
      refine va_get (D := D) (ci := 7) (v := .ref (sa 0)) (C := RX7) (T := TX7) (N := 5) hx hb hts inlX7 hown hK hP 0 rfl rfl 0 (by decide) (hts _ kw_1_13) (fun _ h9 => h9) rfl dX7_setLimit_27 ?_
      refine aftV C (runV_G (As := [.ref (sa 0)]) (rest := []) (ci := 3) (N := 3) (T := TX3) (q0 := 7) C (mX3_save l D G (ha 0) (ha 1) og cg a sa x y p xs ys ps hog hcg) hS hP hD ([7, 8, 1, 2, 3, 4, 5, 6] ++ List.range' 9 36) (tail_get (pre := ([(q, .inr (7, [.ref (sa 0), .ref (ha 0), .ref (ta 0), .ref (fa 0), .ref (ea 0)])), (sa 0, .inr (6, [.ref (sa 1), .ref (sa 3), .int (nI (x 18)), .int (nI (x 19)), .int (bI (x 20 = 0))])), (sa 1, .inr (2, [.ref (sa 2), .int (nI (x 13)), .int (nI (x 14)), .int (nI (x 15)), .int (y 16), .int (y 17)])), (sa 2, .inl (G.1, 12, .inl p)), (sa 3, .inr (0, [.int (y 21), .int (nI (x 22)), .int (y 23), .int (y 24), .ref (sa 4), .ref (sa 5)])), (sa 4, .inl (G.1, 144, .inl (kdY y))), (sa 5, .inl (G.1, 144, .inl (vlY y))), (ha 0, .inr (3, [.ref (ha 1), .int (nI og), .int (nI cg)])), (ha 1, .inl (G.2.1, 6, .inr (.inr (.inr (.inr (sqf a))))))] : va_W)) (w := ([(ha 0, .inr (3, [.ref (ha 1), .int (nI og), .int (nI cg)])), (ha 1, .inl (G.2.1, 6, .inr (.inr (.inr (.inr (sqf a)))))), (sa 0, .inr (6, [.ref (sa 1), .ref (sa 3), .int (nI (x 18)), .int (nI (x 19)), .int (bI (x 20 = 0))])), (sa 1, .inr (2, [.ref (sa 2), .int (nI (x 13)), .int (nI (x 14)), .int (nI (x 15)), .int (y 16), .int (y 17)])), (sa 2, .inl (G.1, 12, .inl p)), (sa 3, .inr (0, [.int (y 21), .int (nI (x 22)), .int (y 23), .int (y 24), .ref (sa 4), .ref (sa 5)])), (sa 4, .inl (G.1, 144, .inl (kdY y))), (sa 5, .inl (G.1, 144, .inl (vlY y)))] : va_W)) (isP := [7, 8, 1, 2, 3, 4, 5, 6]) rfl svw_len rfl) (by decide) rfl rfl (ys_X3_save) kw_18_6 kw_18_7 kw_18_8 ⟨Nat.le_of_ble_eq_true rfl, Nat.le_of_ble_eq_true rfl⟩ hl.1 (Nat.le_of_ble_eq_true rfl) dX7_setLimit_30 rfl rfl ⟨Nat.zero_le _, Nat.zero_le _⟩) hS hP hD ([7, 8, 1, 2, 3, 4, 5, 6] ++ List.range' 9 36) (tail_get (pre := ([(q, .inr (7, [.ref (sa 0), .ref (ha 0), .ref (ta 0), .ref (fa 0), .ref (ea 0)])), (sa 0, .inr (6, [.ref (sa 1), .ref (sa 3), .int (nI (x 18)), .int (nI (x 19)), .int (bI (x 20 = 0))])), (sa 1, .inr (2, [.ref (sa 2), .int (nI (x 13)), .int (nI (x 14)), .int (nI (x 15)), .int (y 16), .int (y 17)])), (sa 2, .inl (G.1, 12, .inl p)), (sa 3, .inr (0, [.int (y 21), .int (nI (x 22)), .int (y 23), .int (y 24), .ref (sa 4), .ref (sa 5)])), (sa 4, .inl (G.1, 144, .inl (kdY y))), (sa 5, .inl (G.1, 144, .inl (vlY y))), (ha 0, .inr (3, [.ref (ha 1), .int (nI og), .int (nI cg)])), (ha 1, .inl (G.2.1, 6, .inr (.inr (.inr (.inr (sqf a))))))] : va_W)) (w := ([(ha 0, .inr (3, [.ref (ha 1), .int (nI og), .int (nI cg)])), (ha 1, .inl (G.2.1, 6, .inr (.inr (.inr (.inr (sqf a)))))), (sa 0, .inr (6, [.ref (sa 1), .ref (sa 3), .int (nI (x 18)), .int (nI (x 19)), .int (bI (x 20 = 0))])), (sa 1, .inr (2, [.ref (sa 2), .int (nI (x 13)), .int (nI (x 14)), .int (nI (x 15)), .int (y 16), .int (y 17)])), (sa 2, .inl (G.1, 12, .inl p)), (sa 3, .inr (0, [.int (y 21), .int (nI (x 22)), .int (y 23), .int (y 24), .ref (sa 4), .ref (sa 5)])), (sa 4, .inl (G.1, 144, .inl (kdY y))), (sa 5, .inl (G.1, 144, .inl (vlY y)))] : va_W)) (isP := [7, 8, 1, 2, 3, 4, 5, 6]) rfl svw_len rfl) (fun _ => rfl) (fun _ H locs hp30 hP hD hS => ?_)
      have eW : wput (([(q, .inr (7, [.ref (sa 0), .ref (ha 0), .ref (ta 0), .ref (fa 0), .ref (ea 0)])), (sa 0, .inr (6, [.ref (sa 1), .ref (sa 3), .int (nI (x 18)), .int (nI (x 19)), .int (bI (x 20 = 0))])), (sa 1, .inr (2, [.ref (sa 2), .int (nI (x 13)), .int (nI (x 14)), .int (nI (x 15)), .int (y 16), .int (y 17)])), (sa 2, .inl (G.1, 12, .inl p)), (sa 3, .inr (0, [.int (y 21), .int (nI (x 22)), .int (y 23), .int (y 24), .ref (sa 4), .ref (sa 5)])), (sa 4, .inl (G.1, 144, .inl (kdY y))), (sa 5, .inl (G.1, 144, .inl (vlY y))), (ha 0, .inr (3, [.ref (ha 1), .int (nI og), .int (nI cg)])), (ha 1, .inl (G.2.1, 6, .inr (.inr (.inr (.inr (sqf a))))))] : va_W) ++ svw G a xs ys ps) ([7, 8, 1, 2, 3, 4, 5, 6] ++ List.range' 9 36) (([(ha 0, .inr (3, [.ref (ha 1), .int (nI (svO og cg)), .int (nI (svC cg))])), (ha 1, .inl (G.2.1, 6, .inr (.inr (.inr (.inr (sqf a)))))), (sa 0, .inr (6, [.ref (sa 1), .ref (sa 3), .int (nI (x 18)), .int (nI (x 19)), .int (bI (x 20 = 0))])), (sa 1, .inr (2, [.ref (sa 2), .int (nI (x 13)), .int (nI (x 14)), .int (nI (x 15)), .int (y 16), .int (y 17)])), (sa 2, .inl (G.1, 12, .inl p)), (sa 3, .inr (0, [.int (y 21), .int (nI (x 22)), .int (y 23), .int (y 24), .ref (sa 4), .ref (sa 5)])), (sa 4, .inl (G.1, 144, .inl (kdY y))), (sa 5, .inl (G.1, 144, .inl (vlY y)))] : va_W) ++ svw G a (sx xs (ri (og + cg)) x) (sx ys (ri (og + cg)) y) (sx ps (ri (og + cg)) p)) = ([(q, .inr (7, [.ref (sa 0), .ref (ha 0), .ref (ta 0), .ref (fa 0), .ref (ea 0)])), (sa 0, .inr (6, [.ref (sa 1), .ref (sa 3), .int (nI (x 18)), .int (nI (x 19)), .int (bI (x 20 = 0))])), (sa 1, .inr (2, [.ref (sa 2), .int (nI (x 13)), .int (nI (x 14)), .int (nI (x 15)), .int (y 16), .int (y 17)])), (sa 2, .inl (G.1, 12, .inl p)), (sa 3, .inr (0, [.int (y 21), .int (nI (x 22)), .int (y 23), .int (y 24), .ref (sa 4), .ref (sa 5)])), (sa 4, .inl (G.1, 144, .inl (kdY y))), (sa 5, .inl (G.1, 144, .inl (vlY y))), (ha 0, .inr (3, [.ref (ha 1), .int (nI (svO og cg)), .int (nI (svC cg))])), (ha 1, .inl (G.2.1, 6, .inr (.inr (.inr (.inr (sqf a))))))] ++ svw G a (sx xs (ri (og + cg)) x) (sx ys (ri (og + cg)) y) (sx ps (ri (og + cg)) p)) := tail_put rfl svw_len svw_len rfl (by decide) rfl
      rw [eW] at hP hD
      refine lv_aload_n hx hb dX7_setLimit_33 rfl (lv_at hl 0 rfl) ?_
      refine va_get (D := D) (ci := 7) (v := .ref (sa 0)) (C := RX7) (T := TX7) (N := 5) hx hb hts inlX7 hown hK hP 0 rfl rfl 0 (by decide) (hts _ kw_1_13) (fun _ h9 => h9) rfl dX7_setLimit_34 ?_
      refine va_get (D := D) (ci := 6) (v := .int (nI (x 19))) (C := RX6) (T := TX6) (N := 5) hx hb hts inlX6 hown hK hP 1 rfl rfl 3 (by decide) (hts _ kw_19_22) (fun _ h9 => h9) rfl dX7_setLimit_37 ?_
      refine lv_istore_n (lv' := [(2, .int (nI (x 19))), (0, .ref q), (1, .int (nI k))]) hx hb dX7_setLimit_40 rfl hl (by decide) rfl (fun ls hl => ?_)
      refine lv_aload_n hx hb dX7_setLimit_41 rfl (lv_at hl 1 rfl) ?_
      refine va_get (D := D) (ci := 7) (v := .ref (sa 0)) (C := RX7) (T := TX7) (N := 5) hx hb hts inlX7 hown hK hP 0 rfl rfl 0 (by decide) (hts _ kw_1_13) (fun _ h9 => h9) rfl dX7_setLimit_42 ?_
      refine lv_iload_n hx hb dX7_setLimit_45 rfl (lv_at hl 2 rfl) ?_
      refine va_put (D := D) (ci := 6) (v := .int (nI k)) (ty := .int) (C := RX6) (T := TX6) (N := 5) hx hb hts inlX6 tyX6 tyX6_ok nmX6 hown hK hP hD hS 1 rfl rfl 3 (by decide) (hts _ kw_19_22) (fun _ h9 => h9) rfl (by decide +kernel) rfl rfl (Nat.le_of_ble_eq_true rfl) dX7_setLimit_46 (fun H locs hP hD hS => ?_)
      have hP : va_P D vwCl ([(q, .inr (7, [.ref (sa 0), .ref (ha 0), .ref (ta 0), .ref (fa 0), .ref (ea 0)])), (sa 0, .inr (6, [.ref (sa 1), .ref (sa 3), .int (nI (x 18)), .int (nI k), .int (bI (x 20 = 0))])), (sa 1, .inr (2, [.ref (sa 2), .int (nI (x 13)), .int (nI (x 14)), .int (nI (x 15)), .int (y 16), .int (y 17)])), (sa 2, .inl (G.1, 12, .inl p)), (sa 3, .inr (0, [.int (y 21), .int (nI (x 22)), .int (y 23), .int (y 24), .ref (sa 4), .ref (sa 5)])), (sa 4, .inl (G.1, 144, .inl (kdY y))), (sa 5, .inl (G.1, 144, .inl (vlY y))), (ha 0, .inr (3, [.ref (ha 1), .int (nI (svO og cg)), .int (nI (svC cg))])), (ha 1, .inl (G.2.1, 6, .inr (.inr (.inr (.inr (sqf a))))))] ++ svw G a (sx xs (ri (og + cg)) x) (sx ys (ri (og + cg)) y) (sx ps (ri (og + cg)) p)) H := hP
      have hD : va_D A ([(q, .inr (7, [.ref (sa 0), .ref (ha 0), .ref (ta 0), .ref (fa 0), .ref (ea 0)])), (sa 0, .inr (6, [.ref (sa 1), .ref (sa 3), .int (nI (x 18)), .int (nI k), .int (bI (x 20 = 0))])), (sa 1, .inr (2, [.ref (sa 2), .int (nI (x 13)), .int (nI (x 14)), .int (nI (x 15)), .int (y 16), .int (y 17)])), (sa 2, .inl (G.1, 12, .inl p)), (sa 3, .inr (0, [.int (y 21), .int (nI (x 22)), .int (y 23), .int (y 24), .ref (sa 4), .ref (sa 5)])), (sa 4, .inl (G.1, 144, .inl (kdY y))), (sa 5, .inl (G.1, 144, .inl (vlY y))), (ha 0, .inr (3, [.ref (ha 1), .int (nI (svO og cg)), .int (nI (svC cg))])), (ha 1, .inl (G.2.1, 6, .inr (.inr (.inr (.inr (sqf a))))))] ++ svw G a (sx xs (ri (og + cg)) x) (sx ys (ri (og + cg)) y) (sx ps (ri (og + cg)) p)) := hD
      refine lv_iload_n hx hb dX7_setLimit_49 rfl (lv_at hl 0 rfl) ?_
      exact endI C rfl () rfl hS hP dX7_setLimit_50
    · have c_9 := nle_f (a := k) (b := 5000) (by omega) (by omega) c_9
      omega
