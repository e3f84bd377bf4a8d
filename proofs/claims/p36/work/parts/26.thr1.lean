theorem ys_X7_load : YS yX7_load cX7_load 1 (some .int) 0 := ⟨kw_17_22, kw_1_2, by decide, by decide, by decide⟩
theorem ys_X7_play : YS yX7_play cX7_play 2 (some .int) 1 := ⟨kw_18_20, kw_1_2, by decide, by decide, by decide⟩
theorem ys_X7_playBest : YS yX7_playBest cX7_playBest 3 (some .int) 1 := ⟨kw_19_7, kw_1_2, by decide, by decide, by decide⟩
theorem ys_X7_pile : YS yX7_pile cX7_pile 2 (some .int) 1 := ⟨kw_13_5, kw_1_2, by decide, by decide, by decide⟩
theorem ys_X7_coins : YS yX7_coins cX7_coins 2 (some .int) 1 := ⟨kw_12_18, kw_1_2, by decide, by decide, by decide⟩
theorem ys_X7_resultOf : YS yX7_resultOf cX7_resultOf 2 (some .int) 1 := ⟨kw_14_9, kw_1_2, by decide, by decide, by decide⟩
theorem ys_X7_line : YS yX7_line cX7_line 6 (some .int) 1 := ⟨kw_14_17, kw_1_2, by decide, by decide, by decide⟩
theorem ys_X7_search : YS yX7_search cX7_search 4 (some .int) 3 := ⟨kw_20_10, kw_1_2, by decide, by decide, by decide⟩
theorem ys_X7_entryKind : YS yX7_entryKind cX7_entryKind 3 (some .int) 2 := ⟨kw_15_2, kw_1_2, by decide, by decide, by decide⟩
theorem ys_X7_entryValue : YS yX7_entryValue cX7_entryValue 4 (some .int) 2 := ⟨kw_15_11, kw_1_2, by decide, by decide, by decide⟩
theorem ys_X7_setOrder : YS yX7_setOrder cX7_setOrder 3 (some .int) 1 := ⟨kw_19_14, kw_1_2, by decide, by decide, by decide⟩
theorem ys_X7_order : YS yX7_order cX7_order 2 (some .int) 1 := ⟨kw_15_19, kw_1_2, by decide, by decide, by decide⟩
theorem ys_X7_setLimit : YS yX7_setLimit cX7_setLimit 3 (some .int) 1 := ⟨kw_19_21, kw_1_2, by decide, by decide, by decide⟩
theorem ys_X7_nodesWith : YS yX7_nodesWith cX7_nodesWith 2 (some .int) 1 := ⟨kw_11_16, kw_1_2, by decide, by decide, by decide⟩
theorem ys_X7_append : YS yX7_append cX7_append 2 (some .int) 1 := ⟨kw_17_13, kw_1_2, by decide, by decide, by decide⟩
theorem ys_X7_undo : YS yX7_undo cX7_undo 1 (some .int) 0 := ⟨kw_5_7, kw_1_2, by decide, by decide, by decide⟩
set_option maxHeartbeats 800000 in
set_option maxRecDepth 100000 in
theorem mX7_play_T1 (l : Launch) (D : va_G) (G : u_G) (hlt : l.stackTraces = false) (q : Nat) (sa ha ta fa ea : Nat → Nat) (x : Nat → Nat) (y p : Nat → Int32) (mv : Int32) (hbad : ¬ (¬ mv < 0 ∧ ¬ 4 ≤ mv)) : MtT l D G yX7_play cX7_play 2 .int 6 [.ref q, .int mv] [(q, .inr (7, [.ref (sa 0), .ref (ha 0), .ref (ta 0), .ref (fa 0), .ref (ea 0)])), (sa 0, .inr (6, [.ref (sa 1), .ref (sa 3), .int (nI (x 18)), .int (nI (x 19)), .int (bI (x 20 = 0))])), (sa 1, .inr (2, [.ref (sa 2), .int (nI (x 13)), .int (nI (x 14)), .int (nI (x 15)), .int (y 16), .int (y 17)])), (sa 2, .inl (G.1, 12, .inl p)), (sa 3, .inr (0, [.int (y 21), .int (nI (x 22)), .int (y 23), .int (y 24), .ref (sa 4), .ref (sa 5)])), (sa 4, .inl (G.1, 144, .inl (kdY y))), (sa 5, .inl (G.1, 144, .inl (vlY y)))] [(q, .inr (7, [.ref (sa 0), .ref (ha 0), .ref (ta 0), .ref (fa 0), .ref (ea 0)])), (sa 0, .inr (6, [.ref (sa 1), .ref (sa 3), .int (nI (x 18)), .int (nI (x 19)), .int (bI (x 20 = 0))])), (sa 1, .inr (2, [.ref (sa 2), .int (nI (x 13)), .int (nI (x 14)), .int (nI (x 15)), .int (y 16), .int (y 17)])), (sa 2, .inl (G.1, 12, .inl p)), (sa 3, .inr (0, [.int (y 21), .int (nI (x 22)), .int (y 23), .int (y 24), .ref (sa 4), .ref (sa 5)])), (sa 4, .inl (G.1, 144, .inl (kdY y))), (sa 5, .inl (G.1, 144, .inl (vlY y)))] "java/lang/IndexOutOfBoundsException" := by
  refine MtT.of (by decide) (Nat.le_of_ble_eq_true rfl) ?_
  intro pr e s9 m9 below meth c9 A ls C hP hD hl hxt
  obtain ⟨hx, hb, hml, hown, hts, hr, hlocks, hA, hAm⟩ := id C
  have hK := hAm.1
  have hS : va_S A s9.heap s9.heap [] := va_S.rf
  have hl : lv_has ls 2 [(0, .ref q), (1, .int mv)] := hl
  refine lv_iload_n hx hb dX7_play_0 rfl (lv_at hl 1 rfl) ?_
  refine aftI0 C (runS_G (As := [.int mv]) (rest := []) C (mX7_isMove l D G mv ) hS hP hD [] rfl (by decide) (ys_X7_isMove) kw_14_10 kw_7_1 ⟨Nat.le_of_ble_eq_true rfl, Nat.le_of_ble_eq_true rfl⟩ hl.1 (Nat.le_of_ble_eq_true rfl) dX7_play_1 rfl rfl ⟨Nat.zero_le _, Nat.zero_le _⟩) hS hP hD [] rfl (fun r1 _ H locs hp1 hP hS => ?_)
  refine ro_top (z := bI (¬ mv < 0 ∧ ¬ 4 ≤ mv)) hx hp1 ?_
  refine lv_if_ne (tgt := 17) hx hb dX7_play_4 (by decide) (fun c_4 => ?_) (fun c_4 => ?_)
  · have c_4 := bI_1 c_4
    exact absurd c_4 hbad
  · have c_4 : ¬ (¬ mv < 0 ∧ ¬ 4 ≤ mv) := bI_0 c_4
    exact thrT (h := 6) C hlt hxt ex_IOOB kw_12_19 kw_12_20 sk_8 hS hP hl.1 dX7_play_7 dX7_play_10 dX7_play_11 dX7_play_13 dX7_play_16 (by decide) (Nat.le_of_ble_eq_true rfl)
set_option maxHeartbeats 800000 in
set_option maxRecDepth 100000 in
theorem mX7_play_T2 (l : Launch) (D : va_G) (G : u_G) (hlt : l.stackTraces = false) (q : Nat) (sa ha ta fa ea : Nat → Nat) (x : Nat → Nat) (y p : Nat → Int32) (m : Nat) (hm : m < 4) (hbad : ¬ tk m ≤ x 14) (hn : x 14 ≤ 12) : MtT l D G yX7_play cX7_play 2 .int 6 [.ref q, .int (nI m)] [(q, .inr (7, [.ref (sa 0), .ref (ha 0), .ref (ta 0), .ref (fa 0), .ref (ea 0)])), (sa 0, .inr (6, [.ref (sa 1), .ref (sa 3), .int (nI (x 18)), .int (nI (x 19)), .int (bI (x 20 = 0))])), (sa 1, .inr (2, [.ref (sa 2), .int (nI (x 13)), .int (nI (x 14)), .int (nI (x 15)), .int (y 16), .int (y 17)])), (sa 2, .inl (G.1, 12, .inl p)), (sa 3, .inr (0, [.int (y 21), .int (nI (x 22)), .int (y 23), .int (y 24), .ref (sa 4), .ref (sa 5)])), (sa 4, .inl (G.1, 144, .inl (kdY y))), (sa 5, .inl (G.1, 144, .inl (vlY y)))] [(q, .inr (7, [.ref (sa 0), .ref (ha 0), .ref (ta 0), .ref (fa 0), .ref (ea 0)])), (sa 0, .inr (6, [.ref (sa 1), .ref (sa 3), .int (nI (x 18)), .int (nI (x 19)), .int (bI (x 20 = 0))])), (sa 1, .inr (2, [.ref (sa 2), .int (nI (x 13)), .int (nI (x 14)), .int (nI (x 15)), .int (y 16), .int (y 17)])), (sa 2, .inl (G.1, 12, .inl p)), (sa 3, .inr (0, [.int (y 21), .int (nI (x 22)), .int (y 23), .int (y 24), .ref (sa 4), .ref (sa 5)])), (sa 4, .inl (G.1, 144, .inl (kdY y))), (sa 5, .inl (G.1, 144, .inl (vlY y)))] "java/lang/IllegalStateException" := by
  refine MtT.of (by decide) (Nat.le_of_ble_eq_true rfl) ?_
  intro pr e s9 m9 below meth c9 A ls C hP hD hl hxt
  obtain ⟨hx, hb, hml, hown, hts, hr, hlocks, hA, hAm⟩ := id C
  have hK := hAm.1
  have hS : va_S A s9.heap s9.heap [] := va_S.rf
  have hl : lv_has ls 2 [(0, .ref q), (1, .int (nI m))] := hl
  refine lv_iload_n hx hb dX7_play_0 rfl (lv_at hl 1 rfl) ?_
  refine aftI0 C (runS_G (As := [.int (nI m)]) (rest := []) C (mX7_isMove_n l D G m (by omega)) hS hP hD [] rfl (by decide) (ys_X7_isMove) kw_14_10 kw_7_1 ⟨Nat.le_of_ble_eq_true rfl, Nat.le_of_ble_eq_true rfl⟩ hl.1 (Nat.le_of_ble_eq_true rfl) dX7_play_1 rfl rfl ⟨Nat.zero_le _, Nat.zero_le _⟩) hS hP hD [] rfl (fun r1 _ H locs hp1 hP hS => ?_)
  refine ro_top (z := 1) hx hp1 ?_
  refine lv_if_ne (tgt := 17) hx hb dX7_play_4 (by decide) (fun _ => ?_) (fun h => absurd h (by decide))
  refine lv_iload_n hx hb dX7_play_17 rfl (lv_at hl 1 rfl) ?_
  refine lv_aload_n hx hb dX7_play_18 rfl (lv_at hl 0 rfl) ?_
  refine va_get (D := D) (ci := 7) (v := .ref (sa 0)) (C := RX7) (T := TX7) (N := 5) hx hb hts inlX7 hown hK hP 0 rfl rfl 0 (by decide) (hts _ kw_1_13) (fun _ h9 => h9) rfl dX7_play_19 ?_
  refine va_get (D := D) (ci := 6) (v := .ref (sa 1)) (C := RX6) (T := TX6) (N := 5) hx hb hts inlX6 hown hK hP 1 rfl rfl 0 (by decide) (hts _ kw_5_11) (fun _ h9 => h9) rfl dX7_play_22 ?_
  refine va_get (D := D) (ci := 2) (v := .int (nI (x 14))) (C := RX2) (T := TX2) (N := 6) hx hb hts inlX2 hown hK hP 2 rfl rfl 2 (by decide) (hts _ kw_12_5) (fun _ h9 => h9) rfl dX7_play_25 ?_
  refine aftI0 C (runS_G (As := [.int (nI m), .int (nI (x 14))]) (rest := []) C (mX7_isPossible l D G m (x 14) (by omega) (by omega)) hS hP hD [] rfl (by decide) (ys_X7_isPossible) kw_14_0 kw_7_3 ⟨Nat.le_of_ble_eq_true rfl, Nat.le_of_ble_eq_true rfl⟩ hl.1 (Nat.le_of_ble_eq_true rfl) dX7_play_28 rfl rfl ⟨Nat.zero_le _, Nat.zero_le _⟩) hS hP hD [] rfl (fun r28 _ H locs hp28 hP hS => ?_)
  refine ro_top (z := bI (tk m ≤ (x 14))) hx hp28 ?_
  refine lv_if_ne (tgt := 44) hx hb dX7_play_31 (by decide) (fun c_31 => ?_) (fun c_31 => ?_)
  · have c_31 := bI_1 c_31
    exact absurd c_31 hbad
  · have c_31 : ¬ (tk m ≤ (x 14)) := bI_0 c_31
    exact thrT (h := 6) C hlt hxt ex_ISE kw_5_8 kw_5_9 sk_9 hS hP hl.1 dX7_play_34 dX7_play_37 dX7_play_38 dX7_play_40 dX7_play_43 (by decide) (Nat.le_of_ble_eq_true rfl)
set_option maxHeartbeats 800000 in
set_option maxRecDepth 100000 in
theorem mX7_playBest_T1 (l : Launch) (D : va_G) (G : u_G) (hlt : l.stackTraces = false) (q : Nat) (sa ha ta fa ea : Nat → Nat) (x : Nat → Nat) (y p : Nat → Int32) (k : Int32) (hbad : k < 1 ∨ ¬ k ≤ 12) : MtT l D G yX7_playBest cX7_playBest 3 .int 6 [.ref q, .int k] [(q, .inr (7, [.ref (sa 0), .ref (ha 0), .ref (ta 0), .ref (fa 0), .ref (ea 0)])), (sa 0, .inr (6, [.ref (sa 1), .ref (sa 3), .int (nI (x 18)), .int (nI (x 19)), .int (bI (x 20 = 0))])), (sa 1, .inr (2, [.ref (sa 2), .int (nI (x 13)), .int (nI (x 14)), .int (nI (x 15)), .int (y 16), .int (y 17)])), (sa 2, .inl (G.1, 12, .inl p)), (sa 3, .inr (0, [.int (y 21), .int (nI (x 22)), .int (y 23), .int (y 24), .ref (sa 4), .ref (sa 5)])), (sa 4, .inl (G.1, 144, .inl (kdY y))), (sa 5, .inl (G.1, 144, .inl (vlY y)))] [(q, .inr (7, [.ref (sa 0), .ref (ha 0), .ref (ta 0), .ref (fa 0), .ref (ea 0)])), (sa 0, .inr (6, [.ref (sa 1), .ref (sa 3), .int (nI (x 18)), .int (nI (x 19)), .int (bI (x 20 = 0))])), (sa 1, .inr (2, [.ref (sa 2), .int (nI (x 13)), .int (nI (x 14)), .int (nI (x 15)), .int (y 16), .int (y 17)])), (sa 2, .inl (G.1, 12, .inl p)), (sa 3, .inr (0, [.int (y 21), .int (nI (x 22)), .int (y 23), .int (y 24), .ref (sa 4), .ref (sa 5)])), (sa 4, .inl (G.1, 144, .inl (kdY y))), (sa 5, .inl (G.1, 144, .inl (vlY y)))] "java/lang/IllegalArgumentException" := by
  refine MtT.of (by decide) (Nat.le_of_ble_eq_true rfl) ?_
  intro pr e s9 m9 below meth c9 A ls C hP hD hl hxt
  obtain ⟨hx, hb, hml, hown, hts, hr, hlocks, hA, hAm⟩ := id C
  have hK := hAm.1
  have hS : va_S A s9.heap s9.heap [] := va_S.rf
  have hl : lv_has ls 3 [(0, .ref q), (1, .int k)] := hl
  refine lv_iload_n hx hb dX7_playBest_0 rfl (lv_at hl 1 rfl) ?_
  refine lv_iconst (v := 1) hx hb dX7_playBest_1 (by decide) ?_
  refine lv_icmp_lt (tgt := 11) hx hb dX7_playBest_2 (by decide) (fun c_2 => ?_) (fun c_2 => ?_)
  · exact thrT (h := 6) C hlt hxt ex_IAE kw_11_17 kw_11_18 sk_10 hS hP hl.1 dX7_playBest_11 dX7_playBest_14 dX7_playBest_15 dX7_playBest_17 dX7_playBest_20 (by decide) (Nat.le_of_ble_eq_true rfl)
  · refine lv_iload_n hx hb dX7_playBest_5 rfl (lv_at hl 1 rfl) ?_
    refine lv_bipush (v := 12) hx hb dX7_playBest_6 (by decide) ?_
    refine lv_icmp_le (tgt := 21) hx hb dX7_playBest_8 (by decide) (fun c_8 => ?_) (fun c_8 => ?_)
    · exact hbad.elim (fun h => absurd h c_2) (fun h => absurd c_8 h)
    · exact thrT (h := 6) C hlt hxt ex_IAE kw_11_17 kw_11_18 sk_10 hS hP hl.1 dX7_playBest_11 dX7_playBest_14 dX7_playBest_15 dX7_playBest_17 dX7_playBest_20 (by decide) (Nat.le_of_ble_eq_true rfl)
set_option maxHeartbeats 800000 in
set_option maxRecDepth 100000 in
theorem mX7_pile_T1 (l : Launch) (D : va_G) (G : u_G) (hlt : l.stackTraces = false) (q : Nat) (sa ha ta fa ea : Nat → Nat) (x : Nat → Nat) (y p : Nat → Int32) (k : Int32) (hbad : k < 0 ∨ ¬ k < nI (x 14)) : MtT l D G yX7_pile cX7_pile 2 .int 6 [.ref q, .int k] [(q, .inr (7, [.ref (sa 0), .ref (ha 0), .ref (ta 0), .ref (fa 0), .ref (ea 0)])), (sa 0, .inr (6, [.ref (sa 1), .ref (sa 3), .int (nI (x 18)), .int (nI (x 19)), .int (bI (x 20 = 0))])), (sa 1, .inr (2, [.ref (sa 2), .int (nI (x 13)), .int (nI (x 14)), .int (nI (x 15)), .int (y 16), .int (y 17)])), (sa 2, .inl (G.1, 12, .inl p)), (sa 3, .inr (0, [.int (y 21), .int (nI (x 22)), .int (y 23), .int (y 24), .ref (sa 4), .ref (sa 5)])), (sa 4, .inl (G.1, 144, .inl (kdY y))), (sa 5, .inl (G.1, 144, .inl (vlY y)))] [(q, .inr (7, [.ref (sa 0), .ref (ha 0), .ref (ta 0), .ref (fa 0), .ref (ea 0)])), (sa 0, .inr (6, [.ref (sa 1), .ref (sa 3), .int (nI (x 18)), .int (nI (x 19)), .int (bI (x 20 = 0))])), (sa 1, .inr (2, [.ref (sa 2), .int (nI (x 13)), .int (nI (x 14)), .int (nI (x 15)), .int (y 16), .int (y 17)])), (sa 2, .inl (G.1, 12, .inl p)), (sa 3, .inr (0, [.int (y 21), .int (nI (x 22)), .int (y 23), .int (y 24), .ref (sa 4), .ref (sa 5)])), (sa 4, .inl (G.1, 144, .inl (kdY y))), (sa 5, .inl (G.1, 144, .inl (vlY y)))] "java/lang/IndexOutOfBoundsException" := by
  refine MtT.of (by decide) (Nat.le_of_ble_eq_true rfl) ?_
  intro pr e s9 m9 below meth c9 A ls C hP hD hl hxt
  obtain ⟨hx, hb, hml, hown, hts, hr, hlocks, hA, hAm⟩ := id C
  have hK := hAm.1
  have hS : va_S A s9.heap s9.heap [] := va_S.rf
  have hl : lv_has ls 2 [(0, .ref q), (1, .int k)] := hl
  refine lv_iload_n hx hb dX7_pile_0 rfl (lv_at hl 1 rfl) ?_
  refine lv_if_lt (tgt := 18) hx hb dX7_pile_1 (by decide) (fun c_1 => ?_) (fun c_1 => ?_)
  · exact thrT (h := 6) C hlt hxt ex_IOOB kw_12_19 kw_12_20 sk_13 hS hP hl.1 dX7_pile_18 dX7_pile_21 dX7_pile_22 dX7_pile_24 dX7_pile_27 (by decide) (Nat.le_of_ble_eq_true rfl)
  · refine lv_iload_n hx hb dX7_pile_4 rfl (lv_at hl 1 rfl) ?_
    refine lv_aload_n hx hb dX7_pile_5 rfl (lv_at hl 0 rfl) ?_
    refine va_get (D := D) (ci := 7) (v := .ref (sa 0)) (C := RX7) (T := TX7) (N := 5) hx hb hts inlX7 hown hK hP 0 rfl rfl 0 (by decide) (hts _ kw_1_13) (fun _ h9 => h9) rfl dX7_pile_6 ?_
    refine va_get (D := D) (ci := 6) (v := .ref (sa 1)) (C := RX6) (T := TX6) (N := 5) hx hb hts inlX6 hown hK hP 1 rfl rfl 0 (by decide) (hts _ kw_5_11) (fun _ h9 => h9) rfl dX7_pile_9 ?_
    refine va_get (D := D) (ci := 2) (v := .int (nI (x 14))) (C := RX2) (T := TX2) (N := 6) hx hb hts inlX2 hown hK hP 2 rfl rfl 2 (by decide) (hts _ kw_12_5) (fun _ h9 => h9) rfl dX7_pile_12 ?_
    refine lv_icmp_lt (tgt := 28) hx hb dX7_pile_15 (by decide) (fun c_15 => ?_) (fun c_15 => ?_)
    · exact hbad.elim (fun h => absurd h c_1) (fun h => absurd c_15 h)
    · exact thrT (h := 6) C hlt hxt ex_IOOB kw_12_19 kw_12_20 sk_13 hS hP hl.1 dX7_pile_18 dX7_pile_21 dX7_pile_22 dX7_pile_24 dX7_pile_27 (by decide) (Nat.le_of_ble_eq_true rfl)
set_option maxHeartbeats 800000 in
set_option maxRecDepth 100000 in
theorem mX7_coins_T1 (l : Launch) (D : va_G) (G : u_G) (hlt : l.stackTraces = false) (q : Nat) (sa ha ta fa ea : Nat → Nat) (x : Nat → Nat) (y p : Nat → Int32) (k : Int32) (hbad : k < 0 ∨ ¬ k ≤ 1) : MtT l D G yX7_coins cX7_coins 2 .int 6 [.ref q, .int k] [(q, .inr (7, [.ref (sa 0), .ref (ha 0), .ref (ta 0), .ref (fa 0), .ref (ea 0)])), (sa 0, .inr (6, [.ref (sa 1), .ref (sa 3), .int (nI (x 18)), .int (nI (x 19)), .int (bI (x 20 = 0))])), (sa 1, .inr (2, [.ref (sa 2), .int (nI (x 13)), .int (nI (x 14)), .int (nI (x 15)), .int (y 16), .int (y 17)])), (sa 2, .inl (G.1, 12, .inl p)), (sa 3, .inr (0, [.int (y 21), .int (nI (x 22)), .int (y 23), .int (y 24), .ref (sa 4), .ref (sa 5)])), (sa 4, .inl (G.1, 144, .inl (kdY y))), (sa 5, .inl (G.1, 144, .inl (vlY y)))] [(q, .inr (7, [.ref (sa 0), .ref (ha 0), .ref (ta 0), .ref (fa 0), .ref (ea 0)])), (sa 0, .inr (6, [.ref (sa 1), .ref (sa 3), .int (nI (x 18)), .int (nI (x 19)), .int (bI (x 20 = 0))])), (sa 1, .inr (2, [.ref (sa 2), .int (nI (x 13)), .int (nI (x 14)), .int (nI (x 15)), .int (y 16), .int (y 17)])), (sa 2, .inl (G.1, 12, .inl p)), (sa 3, .inr (0, [.int (y 21), .int (nI (x 22)), .int (y 23), .int (y 24), .ref (sa 4), .ref (sa 5)])), (sa 4, .inl (G.1, 144, .inl (kdY y))), (sa 5, .inl (G.1, 144, .inl (vlY y)))] "java/lang/IndexOutOfBoundsException" := by
  refine MtT.of (by decide) (Nat.le_of_ble_eq_true rfl) ?_
  intro pr e s9 m9 below meth c9 A ls C hP hD hl hxt
  obtain ⟨hx, hb, hml, hown, hts, hr, hlocks, hA, hAm⟩ := id C
  have hK := hAm.1
  have hS : va_S A s9.heap s9.heap [] := va_S.rf
  have hl : lv_has ls 2 [(0, .ref q), (1, .int k)] := hl
  refine lv_iload_n hx hb dX7_coins_0 rfl (lv_at hl 1 rfl) ?_
  refine lv_if_lt (tgt := 9) hx hb dX7_coins_1 (by decide) (fun c_1 => ?_) (fun c_1 => ?_)
  · exact thrT (h := 6) C hlt hxt ex_IOOB kw_12_19 kw_12_20 sk_12 hS hP hl.1 dX7_coins_9 dX7_coins_12 dX7_coins_13 dX7_coins_15 dX7_coins_18 (by decide) (Nat.le_of_ble_eq_true rfl)
  · refine lv_iload_n hx hb dX7_coins_4 rfl (lv_at hl 1 rfl) ?_
    refine lv_iconst (v := 1) hx hb dX7_coins_5 (by decide) ?_
    refine lv_icmp_le (tgt := 19) hx hb dX7_coins_6 (by decide) (fun c_6 => ?_) (fun c_6 => ?_)
    · exact hbad.elim (fun h => absurd h c_1) (fun h => absurd c_6 h)
    · exact thrT (h := 6) C hlt hxt ex_IOOB kw_12_19 kw_12_20 sk_12 hS hP hl.1 dX7_coins_9 dX7_coins_12 dX7_coins_13 dX7_coins_15 dX7_coins_18 (by decide) (Nat.le_of_ble_eq_true rfl)
set_option maxHeartbeats 800000 in
set_option maxRecDepth 100000 in
theorem mX7_resultOf_T1 (l : Launch) (D : va_G) (G : u_G) (hlt : l.stackTraces = false) (q : Nat) (sa ha ta fa ea : Nat → Nat) (x : Nat → Nat) (y p : Nat → Int32) (mv : Int32) (hbad : ¬ (¬ mv < 0 ∧ ¬ 4 ≤ mv)) : MtT l D G yX7_resultOf cX7_resultOf 2 .int 6 [.ref q, .int mv] [(q, .inr (7, [.ref (sa 0), .ref (ha 0), .ref (ta 0), .ref (fa 0), .ref (ea 0)])), (sa 0, .inr (6, [.ref (sa 1), .ref (sa 3), .int (nI (x 18)), .int (nI (x 19)), .int (bI (x 20 = 0))])), (sa 1, .inr (2, [.ref (sa 2), .int (nI (x 13)), .int (nI (x 14)), .int (nI (x 15)), .int (y 16), .int (y 17)])), (sa 2, .inl (G.1, 12, .inl p)), (sa 3, .inr (0, [.int (y 21), .int (nI (x 22)), .int (y 23), .int (y 24), .ref (sa 4), .ref (sa 5)])), (sa 4, .inl (G.1, 144, .inl (kdY y))), (sa 5, .inl (G.1, 144, .inl (vlY y)))] [(q, .inr (7, [.ref (sa 0), .ref (ha 0), .ref (ta 0), .ref (fa 0), .ref (ea 0)])), (sa 0, .inr (6, [.ref (sa 1), .ref (sa 3), .int (nI (x 18)), .int (nI (x 19)), .int (bI (x 20 = 0))])), (sa 1, .inr (2, [.ref (sa 2), .int (nI (x 13)), .int (nI (x 14)), .int (nI (x 15)), .int (y 16), .int (y 17)])), (sa 2, .inl (G.1, 12, .inl p)), (sa 3, .inr (0, [.int (y 21), .int (nI (x 22)), .int (y 23), .int (y 24), .ref (sa 4), .ref (sa 5)])), (sa 4, .inl (G.1, 144, .inl (kdY y))), (sa 5, .inl (G.1, 144, .inl (vlY y)))] "java/lang/IndexOutOfBoundsException" := by
  refine MtT.of (by decide) (Nat.le_of_ble_eq_true rfl) ?_
  intro pr e s9 m9 below meth c9 A ls C hP hD hl hxt
  obtain ⟨hx, hb, hml, hown, hts, hr, hlocks, hA, hAm⟩ := id C
  have hK := hAm.1
  have hS : va_S A s9.heap s9.heap [] := va_S.rf
  have hl : lv_has ls 2 [(0, .ref q), (1, .int mv)] := hl
  refine lv_iload_n hx hb dX7_resultOf_0 rfl (lv_at hl 1 rfl) ?_
  refine aftI0 C (runS_G (As := [.int mv]) (rest := []) C (mX7_isMove l D G mv ) hS hP hD [] rfl (by decide) (ys_X7_isMove) kw_14_10 kw_7_1 ⟨Nat.le_of_ble_eq_true rfl, Nat.le_of_ble_eq_true rfl⟩ hl.1 (Nat.le_of_ble_eq_true rfl) dX7_resultOf_1 rfl rfl ⟨Nat.zero_le _, Nat.zero_le _⟩) hS hP hD [] rfl (fun r1 _ H locs hp1 hP hS => ?_)
  refine ro_top (z := bI (¬ mv < 0 ∧ ¬ 4 ≤ mv)) hx hp1 ?_
  refine lv_if_ne (tgt := 17) hx hb dX7_resultOf_4 (by decide) (fun c_4 => ?_) (fun c_4 => ?_)
  · have c_4 := bI_1 c_4
    exact absurd c_4 hbad
  · have c_4 : ¬ (¬ mv < 0 ∧ ¬ 4 ≤ mv) := bI_0 c_4
    exact thrT (h := 6) C hlt hxt ex_IOOB kw_12_19 kw_12_20 sk_8 hS hP hl.1 dX7_resultOf_7 dX7_resultOf_10 dX7_resultOf_11 dX7_resultOf_13 dX7_resultOf_16 (by decide) (Nat.le_of_ble_eq_true rfl)
set_option maxHeartbeats 800000 in
set_option maxRecDepth 100000 in
theorem mX7_line_T1 (l : Launch) (D : va_G) (G : u_G) (hlt : l.stackTraces = false) (q : Nat) (sa ha ta fa ea : Nat → Nat) (x : Nat → Nat) (y p : Nat → Int32) (k : Int32) (hbad : ¬ 0 ≤ k) : MtT l D G yX7_line cX7_line 6 .int 6 [.ref q, .int k] [(q, .inr (7, [.ref (sa 0), .ref (ha 0), .ref (ta 0), .ref (fa 0), .ref (ea 0)])), (sa 0, .inr (6, [.ref (sa 1), .ref (sa 3), .int (nI (x 18)), .int (nI (x 19)), .int (bI (x 20 = 0))])), (sa 1, .inr (2, [.ref (sa 2), .int (nI (x 13)), .int (nI (x 14)), .int (nI (x 15)), .int (y 16), .int (y 17)])), (sa 2, .inl (G.1, 12, .inl p)), (sa 3, .inr (0, [.int (y 21), .int (nI (x 22)), .int (y 23), .int (y 24), .ref (sa 4), .ref (sa 5)])), (sa 4, .inl (G.1, 144, .inl (kdY y))), (sa 5, .inl (G.1, 144, .inl (vlY y)))] [(q, .inr (7, [.ref (sa 0), .ref (ha 0), .ref (ta 0), .ref (fa 0), .ref (ea 0)])), (sa 0, .inr (6, [.ref (sa 1), .ref (sa 3), .int (nI (x 18)), .int (nI (x 19)), .int (bI (x 20 = 0))])), (sa 1, .inr (2, [.ref (sa 2), .int (nI (x 13)), .int (nI (x 14)), .int (nI (x 15)), .int (y 16), .int (y 17)])), (sa 2, .inl (G.1, 12, .inl p)), (sa 3, .inr (0, [.int (y 21), .int (nI (x 22)), .int (y 23), .int (y 24), .ref (sa 4), .ref (sa 5)])), (sa 4, .inl (G.1, 144, .inl (kdY y))), (sa 5, .inl (G.1, 144, .inl (vlY y)))] "java/lang/IndexOutOfBoundsException" := by
  refine MtT.of (by decide) (Nat.le_of_ble_eq_true rfl) ?_
  intro pr e s9 m9 below meth c9 A ls C hP hD hl hxt
  obtain ⟨hx, hb, hml, hown, hts, hr, hlocks, hA, hAm⟩ := id C
  have hK := hAm.1
  have hS : va_S A s9.heap s9.heap [] := va_S.rf
  have hl : lv_has ls 6 [(0, .ref q), (1, .int k)] := hl
  refine lv_iload_n hx hb dX7_line_0 rfl (lv_at hl 1 rfl) ?_
  refine lv_if_ge (tgt := 14) hx hb dX7_line_1 (by decide) (fun c_1 => ?_) (fun c_1 => ?_)
  · exact absurd c_1 hbad
  · exact thrT (h := 6) C hlt hxt ex_IOOB kw_12_19 kw_12_20 sk_14 hS hP hl.1 dX7_line_4 dX7_line_7 dX7_line_8 dX7_line_10 dX7_line_13 (by decide) (Nat.le_of_ble_eq_true rfl)
set_option maxHeartbeats 800000 in
set_option maxRecDepth 100000 in
theorem mX7_search_T1 (l : Launch) (D : va_G) (G : u_G) (hlt : l.stackTraces = false) (q : Nat) (sa ha ta fa ea : Nat → Nat) (x : Nat → Nat) (y p : Nat → Int32) (d a b : Int32) (hbad : d < 0 ∨ ¬ d ≤ 12 ∨ a < -240 ∨ ¬ a < 241 ∨ b ≤ a ∨ ¬ b ≤ 241) : MtT l D G yX7_search cX7_search 4 .int 6 [.ref q, .int d, .int a, .int b] [(q, .inr (7, [.ref (sa 0), .ref (ha 0), .ref (ta 0), .ref (fa 0), .ref (ea 0)])), (sa 0, .inr (6, [.ref (sa 1), .ref (sa 3), .int (nI (x 18)), .int (nI (x 19)), .int (bI (x 20 = 0))])), (sa 1, .inr (2, [.ref (sa 2), .int (nI (x 13)), .int (nI (x 14)), .int (nI (x 15)), .int (y 16), .int (y 17)])), (sa 2, .inl (G.1, 12, .inl p)), (sa 3, .inr (0, [.int (y 21), .int (nI (x 22)), .int (y 23), .int (y 24), .ref (sa 4), .ref (sa 5)])), (sa 4, .inl (G.1, 144, .inl (kdY y))), (sa 5, .inl (G.1, 144, .inl (vlY y)))] [(q, .inr (7, [.ref (sa 0), .ref (ha 0), .ref (ta 0), .ref (fa 0), .ref (ea 0)])), (sa 0, .inr (6, [.ref (sa 1), .ref (sa 3), .int (nI (x 18)), .int (nI (x 19)), .int (bI (x 20 = 0))])), (sa 1, .inr (2, [.ref (sa 2), .int (nI (x 13)), .int (nI (x 14)), .int (nI (x 15)), .int (y 16), .int (y 17)])), (sa 2, .inl (G.1, 12, .inl p)), (sa 3, .inr (0, [.int (y 21), .int (nI (x 22)), .int (y 23), .int (y 24), .ref (sa 4), .ref (sa 5)])), (sa 4, .inl (G.1, 144, .inl (kdY y))), (sa 5, .inl (G.1, 144, .inl (vlY y)))] "java/lang/IllegalArgumentException" := by
  refine MtT.of (by decide) (Nat.le_of_ble_eq_true rfl) ?_
  intro pr e s9 m9 below meth c9 A ls C hP hD hl hxt
  obtain ⟨hx, hb, hml, hown, hts, hr, hlocks, hA, hAm⟩ := id C
  have hK := hAm.1
  have hS : va_S A s9.heap s9.heap [] := va_S.rf
  have hl : lv_has ls 4 [(0, .ref q), (1, .int d), (2, .int a), (3, .int b)] := hl
  refine lv_iload_n hx hb dX7_search_0 rfl (lv_at hl 1 rfl) ?_
  refine lv_if_lt (tgt := 10) hx hb dX7_search_1 (by decide) (fun c_1 => ?_) (fun c_1 => ?_)
  · exact thrT (h := 6) C hlt hxt ex_IAE kw_11_17 kw_11_18 sk_1 hS hP hl.1 dX7_search_10 dX7_search_13 dX7_search_14 dX7_search_16 dX7_search_19 (by decide) (Nat.le_of_ble_eq_true rfl)
  · refine lv_iload_n hx hb dX7_search_4 rfl (lv_at hl 1 rfl) ?_
    refine lv_bipush (v := 12) hx hb dX7_search_5 (by decide) ?_
    refine lv_icmp_le (tgt := 20) hx hb dX7_search_7 (by decide) (fun c_7 => ?_) (fun c_7 => ?_)
    · refine lv_iload_n hx hb dX7_search_20 rfl (lv_at hl 2 rfl) ?_
      refine lv_sipush (v := (-240)) hx hb dX7_search_21 (by decide) ?_
      refine lv_icmp_lt (tgt := 34) hx hb dX7_search_24 (by decide) (fun c_24 => ?_) (fun c_24 => ?_)
      · exact thrT (h := 6) C hlt hxt ex_IAE kw_11_17 kw_11_18 sk_2 hS hP hl.1 dX7_search_34 dX7_search_37 dX7_search_38 dX7_search_40 dX7_search_43 (by decide) (Nat.le_of_ble_eq_true rfl)
      · refine lv_iload_n hx hb dX7_search_27 rfl (lv_at hl 2 rfl) ?_
        refine lv_sipush (v := 241) hx hb dX7_search_28 (by decide) ?_
        refine lv_icmp_lt (tgt := 44) hx hb dX7_search_31 (by decide) (fun c_31 => ?_) (fun c_31 => ?_)
        · refine lv_iload_n hx hb dX7_search_44 rfl (lv_at hl 3 rfl) ?_
          refine lv_iload_n hx hb dX7_search_45 rfl (lv_at hl 2 rfl) ?_
          refine lv_icmp_le (tgt := 56) hx hb dX7_search_46 (by decide) (fun c_46 => ?_) (fun c_46 => ?_)
          · exact thrT (h := 6) C hlt hxt ex_IAE kw_11_17 kw_11_18 sk_3 hS hP hl.1 dX7_search_56 dX7_search_59 dX7_search_60 dX7_search_62 dX7_search_65 (by decide) (Nat.le_of_ble_eq_true rfl)
          · refine lv_iload_n hx hb dX7_search_49 rfl (lv_at hl 3 rfl) ?_
            refine lv_sipush (v := 241) hx hb dX7_search_50 (by decide) ?_
            refine lv_icmp_le (tgt := 66) hx hb dX7_search_53 (by decide) (fun c_53 => ?_) (fun c_53 => ?_)
            · rcases hbad with h | h | h | h | h | h <;> contradiction
            · exact thrT (h := 6) C hlt hxt ex_IAE kw_11_17 kw_11_18 sk_3 hS hP hl.1 dX7_search_56 dX7_search_59 dX7_search_60 dX7_search_62 dX7_search_65 (by decide) (Nat.le_of_ble_eq_true rfl)
        · exact thrT (h := 6) C hlt hxt ex_IAE kw_11_17 kw_11_18 sk_2 hS hP hl.1 dX7_search_34 dX7_search_37 dX7_search_38 dX7_search_40 dX7_search_43 (by decide) (Nat.le_of_ble_eq_true rfl)
    · exact thrT (h := 6) C hlt hxt ex_IAE kw_11_17 kw_11_18 sk_1 hS hP hl.1 dX7_search_10 dX7_search_13 dX7_search_14 dX7_search_16 dX7_search_19 (by decide) (Nat.le_of_ble_eq_true rfl)
set_option maxHeartbeats 800000 in
set_option maxRecDepth 100000 in
theorem mX7_entryKind_T1 (l : Launch) (D : va_G) (G : u_G) (hlt : l.stackTraces = false) (q : Nat) (sa ha ta fa ea : Nat → Nat) (x : Nat → Nat) (y p : Nat → Int32) (f c : Int32) (hbad : ¬ (¬ f < 0 ∧ ¬ 12 ≤ f ∧ ¬ c < 1 ∧ ¬ 12 < c)) : MtT l D G yX7_entryKind cX7_entryKind 3 .int 6 [.ref q, .int f, .int c] [(q, .inr (7, [.ref (sa 0), .ref (ha 0), .ref (ta 0), .ref (fa 0), .ref (ea 0)])), (sa 0, .inr (6, [.ref (sa 1), .ref (sa 3), .int (nI (x 18)), .int (nI (x 19)), .int (bI (x 20 = 0))])), (sa 1, .inr (2, [.ref (sa 2), .int (nI (x 13)), .int (nI (x 14)), .int (nI (x 15)), .int (y 16), .int (y 17)])), (sa 2, .inl (G.1, 12, .inl p)), (sa 3, .inr (0, [.int (y 21), .int (nI (x 22)), .int (y 23), .int (y 24), .ref (sa 4), .ref (sa 5)])), (sa 4, .inl (G.1, 144, .inl (kdY y))), (sa 5, .inl (G.1, 144, .inl (vlY y)))] [(q, .inr (7, [.ref (sa 0), .ref (ha 0), .ref (ta 0), .ref (fa 0), .ref (ea 0)])), (sa 0, .inr (6, [.ref (sa 1), .ref (sa 3), .int (nI (x 18)), .int (nI (x 19)), .int (bI (x 20 = 0))])), (sa 1, .inr (2, [.ref (sa 2), .int (nI (x 13)), .int (nI (x 14)), .int (nI (x 15)), .int (y 16), .int (y 17)])), (sa 2, .inl (G.1, 12, .inl p)), (sa 3, .inr (0, [.int (y 21), .int (nI (x 22)), .int (y 23), .int (y 24), .ref (sa 4), .ref (sa 5)])), (sa 4, .inl (G.1, 144, .inl (kdY y))), (sa 5, .inl (G.1, 144, .inl (vlY y)))] "java/lang/IndexOutOfBoundsException" := by
  refine MtT.of (by decide) (Nat.le_of_ble_eq_true rfl) ?_
  intro pr e s9 m9 below meth c9 A ls C hP hD hl hxt
  obtain ⟨hx, hb, hml, hown, hts, hr, hlocks, hA, hAm⟩ := id C
  have hK := hAm.1
  have hS : va_S A s9.heap s9.heap [] := va_S.rf
  have hl : lv_has ls 3 [(0, .ref q), (1, .int f), (2, .int c)] := hl
  refine lv_iload_n hx hb dX7_entryKind_0 rfl (lv_at hl 1 rfl) ?_
  refine lv_iload_n hx hb dX7_entryKind_1 rfl (lv_at hl 2 rfl) ?_
  refine aftI0 C (runS_G (As := [.int f, .int c]) (rest := []) C (mX7_isPosition l D G f c ) hS hP hD [] rfl (by decide) (ys_X7_isPosition) kw_7_18 kw_7_19 ⟨Nat.le_of_ble_eq_true rfl, Nat.le_of_ble_eq_true rfl⟩ hl.1 (Nat.le_of_ble_eq_true rfl) dX7_entryKind_2 rfl rfl ⟨Nat.zero_le _, Nat.zero_le _⟩) hS hP hD [] rfl (fun r2 _ H locs hp2 hP hS => ?_)
  refine ro_top (z := bI (¬ f < 0 ∧ ¬ 12 ≤ f ∧ ¬ c < 1 ∧ ¬ 12 < c)) hx hp2 ?_
  refine lv_if_ne (tgt := 18) hx hb dX7_entryKind_5 (by decide) (fun c_5 => ?_) (fun c_5 => ?_)
  · have c_5 := bI_1 c_5
    exact absurd c_5 hbad
  · have c_5 : ¬ (¬ f < 0 ∧ ¬ 12 ≤ f ∧ ¬ c < 1 ∧ ¬ 12 < c) := bI_0 c_5
    exact thrT (h := 6) C hlt hxt ex_IOOB kw_12_19 kw_12_20 sk_15 hS hP hl.1 dX7_entryKind_8 dX7_entryKind_11 dX7_entryKind_12 dX7_entryKind_14 dX7_entryKind_17 (by decide) (Nat.le_of_ble_eq_true rfl)
set_option maxHeartbeats 800000 in
set_option maxRecDepth 100000 in
theorem mX7_entryValue_T1 (l : Launch) (D : va_G) (G : u_G) (hlt : l.stackTraces = false) (q : Nat) (sa ha ta fa ea : Nat → Nat) (x : Nat → Nat) (y p : Nat → Int32) (f c : Int32) (hbad : ¬ (¬ f < 0 ∧ ¬ 12 ≤ f ∧ ¬ c < 1 ∧ ¬ 12 < c)) : MtT l D G yX7_entryValue cX7_entryValue 4 .int 6 [.ref q, .int f, .int c] [(q, .inr (7, [.ref (sa 0), .ref (ha 0), .ref (ta 0), .ref (fa 0), .ref (ea 0)])), (sa 0, .inr (6, [.ref (sa 1), .ref (sa 3), .int (nI (x 18)), .int (nI (x 19)), .int (bI (x 20 = 0))])), (sa 1, .inr (2, [.ref (sa 2), .int (nI (x 13)), .int (nI (x 14)), .int (nI (x 15)), .int (y 16), .int (y 17)])), (sa 2, .inl (G.1, 12, .inl p)), (sa 3, .inr (0, [.int (y 21), .int (nI (x 22)), .int (y 23), .int (y 24), .ref (sa 4), .ref (sa 5)])), (sa 4, .inl (G.1, 144, .inl (kdY y))), (sa 5, .inl (G.1, 144, .inl (vlY y)))] [(q, .inr (7, [.ref (sa 0), .ref (ha 0), .ref (ta 0), .ref (fa 0), .ref (ea 0)])), (sa 0, .inr (6, [.ref (sa 1), .ref (sa 3), .int (nI (x 18)), .int (nI (x 19)), .int (bI (x 20 = 0))])), (sa 1, .inr (2, [.ref (sa 2), .int (nI (x 13)), .int (nI (x 14)), .int (nI (x 15)), .int (y 16), .int (y 17)])), (sa 2, .inl (G.1, 12, .inl p)), (sa 3, .inr (0, [.int (y 21), .int (nI (x 22)), .int (y 23), .int (y 24), .ref (sa 4), .ref (sa 5)])), (sa 4, .inl (G.1, 144, .inl (kdY y))), (sa 5, .inl (G.1, 144, .inl (vlY y)))] "java/lang/IndexOutOfBoundsException" := by
  refine MtT.of (by decide) (Nat.le_of_ble_eq_true rfl) ?_
  intro pr e s9 m9 below meth c9 A ls C hP hD hl hxt
  obtain ⟨hx, hb, hml, hown, hts, hr, hlocks, hA, hAm⟩ := id C
  have hK := hAm.1
  have hS : va_S A s9.heap s9.heap [] := va_S.rf
  have hl : lv_has ls 4 [(0, .ref q), (1, .int f), (2, .int c)] := hl
  refine lv_iload_n hx hb dX7_entryValue_0 rfl (lv_at hl 1 rfl) ?_
  refine lv_iload_n hx hb dX7_entryValue_1 rfl (lv_at hl 2 rfl) ?_
  refine aftI0 C (runS_G (As := [.int f, .int c]) (rest := []) C (mX7_isPosition l D G f c ) hS hP hD [] rfl (by decide) (ys_X7_isPosition) kw_7_18 kw_7_19 ⟨Nat.le_of_ble_eq_true rfl, Nat.le_of_ble_eq_true rfl⟩ hl.1 (Nat.le_of_ble_eq_true rfl) dX7_entryValue_2 rfl rfl ⟨Nat.zero_le _, Nat.zero_le _⟩) hS hP hD [] rfl (fun r2 _ H locs hp2 hP hS => ?_)
  refine ro_top (z := bI (¬ f < 0 ∧ ¬ 12 ≤ f ∧ ¬ c < 1 ∧ ¬ 12 < c)) hx hp2 ?_
  refine lv_if_ne (tgt := 18) hx hb dX7_entryValue_5 (by decide) (fun c_5 => ?_) (fun c_5 => ?_)
  · have c_5 := bI_1 c_5
    exact absurd c_5 hbad
  · have c_5 : ¬ (¬ f < 0 ∧ ¬ 12 ≤ f ∧ ¬ c < 1 ∧ ¬ 12 < c) := bI_0 c_5
    exact thrT (h := 6) C hlt hxt ex_IOOB kw_12_19 kw_12_20 sk_15 hS hP hl.1 dX7_entryValue_8 dX7_entryValue_11 dX7_entryValue_12 dX7_entryValue_14 dX7_entryValue_17 (by decide) (Nat.le_of_ble_eq_true rfl)
set_option maxHeartbeats 800000 in
set_option maxRecDepth 100000 in
theorem mX7_setOrder_T1 (l : Launch) (D : va_G) (G : u_G) (hlt : l.stackTraces = false) (q : Nat) (sa ha ta fa ea : Nat → Nat) (x : Nat → Nat) (y p : Nat → Int32) (k : Int32) (hbad : ¬ (¬ k < 0 ∧ ¬ 24 ≤ k)) : MtT l D G yX7_setOrder cX7_setOrder 3 .int 6 [.ref q, .int k] [(q, .inr (7, [.ref (sa 0), .ref (ha 0), .ref (ta 0), .ref (fa 0), .ref (ea 0)])), (sa 0, .inr (6, [.ref (sa 1), .ref (sa 3), .int (nI (x 18)), .int (nI (x 19)), .int (bI (x 20 = 0))])), (sa 1, .inr (2, [.ref (sa 2), .int (nI (x 13)), .int (nI (x 14)), .int (nI (x 15)), .int (y 16), .int (y 17)])), (sa 2, .inl (G.1, 12, .inl p)), (sa 3, .inr (0, [.int (y 21), .int (nI (x 22)), .int (y 23), .int (y 24), .ref (sa 4), .ref (sa 5)])), (sa 4, .inl (G.1, 144, .inl (kdY y))), (sa 5, .inl (G.1, 144, .inl (vlY y)))] [(q, .inr (7, [.ref (sa 0), .ref (ha 0), .ref (ta 0), .ref (fa 0), .ref (ea 0)])), (sa 0, .inr (6, [.ref (sa 1), .ref (sa 3), .int (nI (x 18)), .int (nI (x 19)), .int (bI (x 20 = 0))])), (sa 1, .inr (2, [.ref (sa 2), .int (nI (x 13)), .int (nI (x 14)), .int (nI (x 15)), .int (y 16), .int (y 17)])), (sa 2, .inl (G.1, 12, .inl p)), (sa 3, .inr (0, [.int (y 21), .int (nI (x 22)), .int (y 23), .int (y 24), .ref (sa 4), .ref (sa 5)])), (sa 4, .inl (G.1, 144, .inl (kdY y))), (sa 5, .inl (G.1, 144, .inl (vlY y)))] "java/lang/IllegalArgumentException" := by
  refine MtT.of (by decide) (Nat.le_of_ble_eq_true rfl) ?_
  intro pr e s9 m9 below meth c9 A ls C hP hD hl hxt
  obtain ⟨hx, hb, hml, hown, hts, hr, hlocks, hA, hAm⟩ := id C
  have hK := hAm.1
  have hS : va_S A s9.heap s9.heap [] := va_S.rf
  have hl : lv_has ls 3 [(0, .ref q), (1, .int k)] := hl
  refine lv_iload_n hx hb dX7_setOrder_0 rfl (lv_at hl 1 rfl) ?_
  refine aftI0 C (runS_G (As := [.int k]) (rest := []) C (mX7_isOrder l D G k ) hS hP hD [] rfl (by decide) (ys_X7_isOrder) kw_11_19 kw_11_20 ⟨Nat.le_of_ble_eq_true rfl, Nat.le_of_ble_eq_true rfl⟩ hl.1 (Nat.le_of_ble_eq_true rfl) dX7_setOrder_1 rfl rfl ⟨Nat.zero_le _, Nat.zero_le _⟩) hS hP hD [] rfl (fun r1 _ H locs hp1 hP hS => ?_)
  refine ro_top (z := bI (¬ k < 0 ∧ ¬ 24 ≤ k)) hx hp1 ?_
  refine lv_if_ne (tgt := 17) hx hb dX7_setOrder_4 (by decide) (fun c_4 => ?_) (fun c_4 => ?_)
  · have c_4 := bI_1 c_4
    exact absurd c_4 hbad
  · have c_4 : ¬ (¬ k < 0 ∧ ¬ 24 ≤ k) := bI_0 c_4
    exact thrT (h := 6) C hlt hxt ex_IAE kw_11_17 kw_11_18 sk_4 hS hP hl.1 dX7_setOrder_7 dX7_setOrder_10 dX7_setOrder_11 dX7_setOrder_13 dX7_setOrder_16 (by decide) (Nat.le_of_ble_eq_true rfl)
set_option maxHeartbeats 800000 in
set_option maxRecDepth 100000 in
theorem mX7_nodesWith_T1 (l : Launch) (D : va_G) (G : u_G) (hlt : l.stackTraces = false) (q : Nat) (sa ha ta fa ea : Nat → Nat) (x : Nat → Nat) (y p : Nat → Int32) (k : Int32) (hbad : ¬ (¬ k < 0 ∧ ¬ 24 ≤ k)) : MtT l D G yX7_nodesWith cX7_nodesWith 2 .int 6 [.ref q, .int k] [(q, .inr (7, [.ref (sa 0), .ref (ha 0), .ref (ta 0), .ref (fa 0), .ref (ea 0)])), (sa 0, .inr (6, [.ref (sa 1), .ref (sa 3), .int (nI (x 18)), .int (nI (x 19)), .int (bI (x 20 = 0))])), (sa 1, .inr (2, [.ref (sa 2), .int (nI (x 13)), .int (nI (x 14)), .int (nI (x 15)), .int (y 16), .int (y 17)])), (sa 2, .inl (G.1, 12, .inl p)), (sa 3, .inr (0, [.int (y 21), .int (nI (x 22)), .int (y 23), .int (y 24), .ref (sa 4), .ref (sa 5)])), (sa 4, .inl (G.1, 144, .inl (kdY y))), (sa 5, .inl (G.1, 144, .inl (vlY y)))] [(q, .inr (7, [.ref (sa 0), .ref (ha 0), .ref (ta 0), .ref (fa 0), .ref (ea 0)])), (sa 0, .inr (6, [.ref (sa 1), .ref (sa 3), .int (nI (x 18)), .int (nI (x 19)), .int (bI (x 20 = 0))])), (sa 1, .inr (2, [.ref (sa 2), .int (nI (x 13)), .int (nI (x 14)), .int (nI (x 15)), .int (y 16), .int (y 17)])), (sa 2, .inl (G.1, 12, .inl p)), (sa 3, .inr (0, [.int (y 21), .int (nI (x 22)), .int (y 23), .int (y 24), .ref (sa 4), .ref (sa 5)])), (sa 4, .inl (G.1, 144, .inl (kdY y))), (sa 5, .inl (G.1, 144, .inl (vlY y)))] "java/lang/IllegalArgumentException" := by
  refine MtT.of (by decide) (Nat.le_of_ble_eq_true rfl) ?_
  intro pr e s9 m9 below meth c9 A ls C hP hD hl hxt
  obtain ⟨hx, hb, hml, hown, hts, hr, hlocks, hA, hAm⟩ := id C
  have hK := hAm.1
  have hS : va_S A s9.heap s9.heap [] := va_S.rf
  have hl : lv_has ls 2 [(0, .ref q), (1, .int k)] := hl
  refine lv_iload_n hx hb dX7_nodesWith_0 rfl (lv_at hl 1 rfl) ?_
  refine aftI0 C (runS_G (As := [.int k]) (rest := []) C (mX7_isOrder l D G k ) hS hP hD [] rfl (by decide) (ys_X7_isOrder) kw_11_19 kw_11_20 ⟨Nat.le_of_ble_eq_true rfl, Nat.le_of_ble_eq_true rfl⟩ hl.1 (Nat.le_of_ble_eq_true rfl) dX7_nodesWith_1 rfl rfl ⟨Nat.zero_le _, Nat.zero_le _⟩) hS hP hD [] rfl (fun r1 _ H locs hp1 hP hS => ?_)
  refine ro_top (z := bI (¬ k < 0 ∧ ¬ 24 ≤ k)) hx hp1 ?_
  refine lv_if_ne (tgt := 17) hx hb dX7_nodesWith_4 (by decide) (fun c_4 => ?_) (fun c_4 => ?_)
  · have c_4 := bI_1 c_4
    exact absurd c_4 hbad
  · have c_4 : ¬ (¬ k < 0 ∧ ¬ 24 ≤ k) := bI_0 c_4
    exact thrT (h := 6) C hlt hxt ex_IAE kw_11_17 kw_11_18 sk_4 hS hP hl.1 dX7_nodesWith_7 dX7_nodesWith_10 dX7_nodesWith_11 dX7_nodesWith_13 dX7_nodesWith_16 (by decide) (Nat.le_of_ble_eq_true rfl)
set_option maxHeartbeats 800000 in
set_option maxRecDepth 100000 in
theorem mX7_order_T1 (l : Launch) (D : va_G) (G : u_G) (hlt : l.stackTraces = false) (q : Nat) (sa ha ta fa ea : Nat → Nat) (x : Nat → Nat) (y p : Nat → Int32) (k : Int32) (hbad : k < 0 ∨ ¬ k < 4) : MtT l D G yX7_order cX7_order 2 .int 6 [.ref q, .int k] [(q, .inr (7, [.ref (sa 0), .ref (ha 0), .ref (ta 0), .ref (fa 0), .ref (ea 0)])), (sa 0, .inr (6, [.ref (sa 1), .ref (sa 3), .int (nI (x 18)), .int (nI (x 19)), .int (bI (x 20 = 0))])), (sa 1, .inr (2, [.ref (sa 2), .int (nI (x 13)), .int (nI (x 14)), .int (nI (x 15)), .int (y 16), .int (y 17)])), (sa 2, .inl (G.1, 12, .inl p)), (sa 3, .inr (0, [.int (y 21), .int (nI (x 22)), .int (y 23), .int (y 24), .ref (sa 4), .ref (sa 5)])), (sa 4, .inl (G.1, 144, .inl (kdY y))), (sa 5, .inl (G.1, 144, .inl (vlY y)))] [(q, .inr (7, [.ref (sa 0), .ref (ha 0), .ref (ta 0), .ref (fa 0), .ref (ea 0)])), (sa 0, .inr (6, [.ref (sa 1), .ref (sa 3), .int (nI (x 18)), .int (nI (x 19)), .int (bI (x 20 = 0))])), (sa 1, .inr (2, [.ref (sa 2), .int (nI (x 13)), .int (nI (x 14)), .int (nI (x 15)), .int (y 16), .int (y 17)])), (sa 2, .inl (G.1, 12, .inl p)), (sa 3, .inr (0, [.int (y 21), .int (nI (x 22)), .int (y 23), .int (y 24), .ref (sa 4), .ref (sa 5)])), (sa 4, .inl (G.1, 144, .inl (kdY y))), (sa 5, .inl (G.1, 144, .inl (vlY y)))] "java/lang/IndexOutOfBoundsException" := by
  refine MtT.of (by decide) (Nat.le_of_ble_eq_true rfl) ?_
  intro pr e s9 m9 below meth c9 A ls C hP hD hl hxt
  obtain ⟨hx, hb, hml, hown, hts, hr, hlocks, hA, hAm⟩ := id C
  have hK := hAm.1
  have hS : va_S A s9.heap s9.heap [] := va_S.rf
  have hl : lv_has ls 2 [(0, .ref q), (1, .int k)] := hl
  refine lv_iload_n hx hb dX7_order_0 rfl (lv_at hl 1 rfl) ?_
  refine lv_if_lt (tgt := 9) hx hb dX7_order_1 (by decide) (fun c_1 => ?_) (fun c_1 => ?_)
  · exact thrT (h := 6) C hlt hxt ex_IOOB kw_12_19 kw_12_20 sk_16 hS hP hl.1 dX7_order_9 dX7_order_12 dX7_order_13 dX7_order_15 dX7_order_18 (by decide) (Nat.le_of_ble_eq_true rfl)
  · refine lv_iload_n hx hb dX7_order_4 rfl (lv_at hl 1 rfl) ?_
    refine lv_iconst (v := 4) hx hb dX7_order_5 (by decide) ?_
    refine lv_icmp_lt (tgt := 19) hx hb dX7_order_6 (by decide) (fun c_6 => ?_) (fun c_6 => ?_)
    · exact hbad.elim (fun h => absurd h c_1) (fun h => absurd c_6 h)
    · exact thrT (h := 6) C hlt hxt ex_IOOB kw_12_19 kw_12_20 sk_16 hS hP hl.1 dX7_order_9 dX7_order_12 dX7_order_13 dX7_order_15 dX7_order_18 (by decide) (Nat.le_of_ble_eq_true rfl)
set_option maxHeartbeats 800000 in
set_option maxRecDepth 100000 in
theorem mX7_setLimit_T1 (l : Launch) (D : va_G) (G : u_G) (hlt : l.stackTraces = false) (q : Nat) (sa ha ta fa ea : Nat → Nat) (x : Nat → Nat) (y p : Nat → Int32) (k : Int32) (hbad : k < 1 ∨ ¬ k ≤ 5000) : MtT l D G yX7_setLimit cX7_setLimit 3 .int 6 [.ref q, .int k] [(q, .inr (7, [.ref (sa 0), .ref (ha 0), .ref (ta 0), .ref (fa 0), .ref (ea 0)])), (sa 0, .inr (6, [.ref (sa 1), .ref (sa 3), .int (nI (x 18)), .int (nI (x 19)), .int (bI (x 20 = 0))])), (sa 1, .inr (2, [.ref (sa 2), .int (nI (x 13)), .int (nI (x 14)), .int (nI (x 15)), .int (y 16), .int (y 17)])), (sa 2, .inl (G.1, 12, .inl p)), (sa 3, .inr (0, [.int (y 21), .int (nI (x 22)), .int (y 23), .int (y 24), .ref (sa 4), .ref (sa 5)])), (sa 4, .inl (G.1, 144, .inl (kdY y))), (sa 5, .inl (G.1, 144, .inl (vlY y)))] [(q, .inr (7, [.ref (sa 0), .ref (ha 0), .ref (ta 0), .ref (fa 0), .ref (ea 0)])), (sa 0, .inr (6, [.ref (sa 1), .ref (sa 3), .int (nI (x 18)), .int (nI (x 19)), .int (bI (x 20 = 0))])), (sa 1, .inr (2, [.ref (sa 2), .int (nI (x 13)), .int (nI (x 14)), .int (nI (x 15)), .int (y 16), .int (y 17)])), (sa 2, .inl (G.1, 12, .inl p)), (sa 3, .inr (0, [.int (y 21), .int (nI (x 22)), .int (y 23), .int (y 24), .ref (sa 4), .ref (sa 5)])), (sa 4, .inl (G.1, 144, .inl (kdY y))), (sa 5, .inl (G.1, 144, .inl (vlY y)))] "java/lang/IllegalArgumentException" := by
  refine MtT.of (by decide) (Nat.le_of_ble_eq_true rfl) ?_
  intro pr e s9 m9 below meth c9 A ls C hP hD hl hxt
  obtain ⟨hx, hb, hml, hown, hts, hr, hlocks, hA, hAm⟩ := id C
  have hK := hAm.1
  have hS : va_S A s9.heap s9.heap [] := va_S.rf
  have hl : lv_has ls 3 [(0, .ref q), (1, .int k)] := hl
  refine lv_iload_n hx hb dX7_setLimit_0 rfl (lv_at hl 1 rfl) ?_
  refine lv_iconst (v := 1) hx hb dX7_setLimit_1 (by decide) ?_
  refine lv_icmp_lt (tgt := 12) hx hb dX7_setLimit_2 (by decide) (fun c_2 => ?_) (fun c_2 => ?_)
  · exact thrT (h := 6) C hlt hxt ex_IAE kw_11_17 kw_11_18 sk_11 hS hP hl.1 dX7_setLimit_12 dX7_setLimit_15 dX7_setLimit_16 dX7_setLimit_18 dX7_setLimit_21 (by decide) (Nat.le_of_ble_eq_true rfl)
  · refine lv_iload_n hx hb dX7_setLimit_5 rfl (lv_at hl 1 rfl) ?_
    refine lv_sipush (v := 5000) hx hb dX7_setLimit_6 (by decide) ?_
    refine lv_icmp_le (tgt := 22) hx hb dX7_setLimit_9 (by decide) (fun c_9 => ?_) (fun c_9 => ?_)
    · exact hbad.elim (fun h => absurd h c_2) (fun h => absurd c_9 h)
    · exact thrT (h := 6) C hlt hxt ex_IAE kw_11_17 kw_11_18 sk_11 hS hP hl.1 dX7_setLimit_12 dX7_setLimit_15 dX7_setLimit_16 dX7_setLimit_18 dX7_setLimit_21 (by decide) (Nat.le_of_ble_eq_true rfl)
set_option maxHeartbeats 800000 in
set_option maxRecDepth 100000 in
theorem mX7_append_T1 (l : Launch) (D : va_G) (G : u_G) (hlt : l.stackTraces = false) (q : Nat) (sa ha ta fa ea : Nat → Nat) (L cnt num : Nat) (F : Nat → Int32) (t : Nat → Nat) (k : Int32) (hbad : k < 33 ∨ ¬ k ≤ 126) : MtT l D G yX7_append cX7_append 2 .int 6 [.ref q, .int k] [(q, .inr (7, [.ref (sa 0), .ref (ha 0), .ref (ta 0), .ref (fa 0), .ref (ea 0)])), (ta 0, .inr (4, [.ref (ta 1), .int (nI L), .ref (ta 2), .int (nI cnt), .int (nI num)])), (ta 1, .inl (G.1, 60, .inl (tN t))), (ta 2, .inl (G.1, 12, .inl F))] [(q, .inr (7, [.ref (sa 0), .ref (ha 0), .ref (ta 0), .ref (fa 0), .ref (ea 0)])), (ta 0, .inr (4, [.ref (ta 1), .int (nI L), .ref (ta 2), .int (nI cnt), .int (nI num)])), (ta 1, .inl (G.1, 60, .inl (tN t))), (ta 2, .inl (G.1, 12, .inl F))] "java/lang/IllegalArgumentException" := by
  refine MtT.of (by decide) (Nat.le_of_ble_eq_true rfl) ?_
  intro pr e s9 m9 below meth c9 A ls C hP hD hl hxt
  obtain ⟨hx, hb, hml, hown, hts, hr, hlocks, hA, hAm⟩ := id C
  have hK := hAm.1
  have hS : va_S A s9.heap s9.heap [] := va_S.rf
  have hl : lv_has ls 2 [(0, .ref q), (1, .int k)] := hl
  refine lv_iload_n hx hb dX7_append_0 rfl (lv_at hl 1 rfl) ?_
  refine lv_bipush (v := 33) hx hb dX7_append_1 (by decide) ?_
  refine lv_icmp_lt (tgt := 12) hx hb dX7_append_3 (by decide) (fun c_3 => ?_) (fun c_3 => ?_)
  · exact thrT (h := 6) C hlt hxt ex_IAE kw_11_17 kw_11_18 sk_5 hS hP hl.1 dX7_append_12 dX7_append_15 dX7_append_16 dX7_append_18 dX7_append_21 (by decide) (Nat.le_of_ble_eq_true rfl)
  · refine lv_iload_n hx hb dX7_append_6 rfl (lv_at hl 1 rfl) ?_
    refine lv_bipush (v := 126) hx hb dX7_append_7 (by decide) ?_
    refine lv_icmp_le (tgt := 22) hx hb dX7_append_9 (by decide) (fun c_9 => ?_) (fun c_9 => ?_)
    · exact hbad.elim (fun h => absurd h c_3) (fun h => absurd c_9 h)
    · exact thrT (h := 6) C hlt hxt ex_IAE kw_11_17 kw_11_18 sk_5 hS hP hl.1 dX7_append_12 dX7_append_15 dX7_append_16 dX7_append_18 dX7_append_21 (by decide) (Nat.le_of_ble_eq_true rfl)
set_option maxHeartbeats 800000 in
set_option maxRecDepth 100000 in
theorem mX7_append_T2 (l : Launch) (D : va_G) (G : u_G) (hlt : l.stackTraces = false) (q : Nat) (sa ha ta fa ea : Nat → Nat) (L cnt num : Nat) (F : Nat → Int32) (t : Nat → Nat) (c : Nat) (h1 : 33 ≤ c) (h2 : c ≤ 126) (hL : L = 60) : MtT l D G yX7_append cX7_append 2 .int 6 [.ref q, .int (nI c)] [(q, .inr (7, [.ref (sa 0), .ref (ha 0), .ref (ta 0), .ref (fa 0), .ref (ea 0)])), (ta 0, .inr (4, [.ref (ta 1), .int (nI L), .ref (ta 2), .int (nI cnt), .int (nI num)])), (ta 1, .inl (G.1, 60, .inl (tN t))), (ta 2, .inl (G.1, 12, .inl F))] [(q, .inr (7, [.ref (sa 0), .ref (ha 0), .ref (ta 0), .ref (fa 0), .ref (ea 0)])), (ta 0, .inr (4, [.ref (ta 1), .int (nI L), .ref (ta 2), .int (nI cnt), .int (nI num)])), (ta 1, .inl (G.1, 60, .inl (tN t))), (ta 2, .inl (G.1, 12, .inl F))] "java/lang/IllegalStateException" := by
  refine MtT.of (by decide) (Nat.le_of_ble_eq_true rfl) ?_
  intro pr e s9 m9 below meth c9 A ls C hP hD hl hxt
  obtain ⟨hx, hb, hml, hown, hts, hr, hlocks, hA, hAm⟩ := id C
  have hK := hAm.1
  have hS : va_S A s9.heap s9.heap [] := va_S.rf
  have hl : lv_has ls 2 [(0, .ref q), (1, .int (nI c))] := hl
  refine lv_iload_n hx hb dX7_append_0 rfl (lv_at hl 1 rfl) ?_
  refine lv_bipush (v := 33) hx hb dX7_append_1 (by decide) ?_
  refine lv_icmp_lt (tgt := 12) hx hb dX7_append_3 (by decide) (fun c_3 => ?_) (fun c_3 => ?_)
  · have c_3 := nlt_t (a := c) (b := 33) (by omega) (by omega) c_3
    omega
  · have c_3 := nlt_f (a := c) (b := 33) (by omega) (by omega) c_3
    refine lv_iload_n hx hb dX7_append_6 rfl (lv_at hl 1 rfl) ?_
    refine lv_bipush (v := 126) hx hb dX7_append_7 (by decide) ?_
    refine lv_icmp_le (tgt := 22) hx hb dX7_append_9 (by decide) (fun c_9 => ?_) (fun c_9 => ?_)
    · have c_9 := nle_t (a := c) (b := 126) (by omega) (by omega) c_9
      refine lv_aload_n hx hb dX7_append_22 rfl (lv_at hl 0 rfl) ?_
      refine va_get (D := D) (ci := 7) (v := .ref (ta 0)) (C := RX7) (T := TX7) (N := 5) hx hb hts inlX7 hown hK hP 0 rfl rfl 2 (by decide) (hts _ kw_1_21) (fun _ h9 => h9) rfl dX7_append_23 ?_
      refine va_get (D := D) (ci := 4) (v := .int (nI L)) (C := RX4) (T := TX4) (N := 5) hx hb hts inlX4 hown hK hP 1 rfl rfl 1 (by decide) (hts _ kw_17_6) (fun _ h9 => h9) rfl dX7_append_26 ?_
      refine lv_bipush (v := 60) hx hb dX7_append_29 (by decide) ?_
      refine lv_icmp_lt (tgt := 44) hx hb dX7_append_31 (by decide) (fun c_31 => ?_) (fun c_31 => ?_)
      · have c_31 := nlt_t (a := L) (b := 60) (by omega) (by omega) c_31
        omega
      · have c_31 := nlt_f (a := L) (b := 60) (by omega) (by omega) c_31
        exact thrT (h := 6) C hlt hxt ex_ISE kw_5_8 kw_5_9 sk_6 hS hP hl.1 dX7_append_34 dX7_append_37 dX7_append_38 dX7_append_40 dX7_append_43 (by decide) (Nat.le_of_ble_eq_true rfl)
    · have c_9 := nle_f (a := c) (b := 126) (by omega) (by omega) c_9
      omega
set_option maxHeartbeats 800000 in
set_option maxRecDepth 100000 in
theorem mX7_undo_T1 (l : Launch) (D : va_G) (G : u_G) (hlt : l.stackTraces = false) (q : Nat) (sa ha ta fa ea : Nat → Nat) (og cg : Nat) (a : Nat → Nat → Nat)  (hc : cg = 0) : MtT l D G yX7_undo cX7_undo 1 .int 6 [.ref q] [(q, .inr (7, [.ref (sa 0), .ref (ha 0), .ref (ta 0), .ref (fa 0), .ref (ea 0)])), (ha 0, .inr (3, [.ref (ha 1), .int (nI og), .int (nI cg)])), (ha 1, .inl (G.2.1, 6, .inr (.inr (.inr (.inr (sqf a))))))] [(q, .inr (7, [.ref (sa 0), .ref (ha 0), .ref (ta 0), .ref (fa 0), .ref (ea 0)])), (ha 0, .inr (3, [.ref (ha 1), .int (nI og), .int (nI cg)])), (ha 1, .inl (G.2.1, 6, .inr (.inr (.inr (.inr (sqf a))))))] "java/lang/IllegalStateException" := by
  refine MtT.of (by decide) (Nat.le_of_ble_eq_true rfl) ?_
  intro pr e s9 m9 below meth c9 A ls C hP hD hl hxt
  obtain ⟨hx, hb, hml, hown, hts, hr, hlocks, hA, hAm⟩ := id C
  have hK := hAm.1
  have hS : va_S A s9.heap s9.heap [] := va_S.rf
  have hl : lv_has ls 1 [(0, .ref q)] := hl
  refine lv_aload_n hx hb dX7_undo_0 rfl (lv_at hl 0 rfl) ?_
  refine va_get (D := D) (ci := 7) (v := .ref (ha 0)) (C := RX7) (T := TX7) (N := 5) hx hb hts inlX7 hown hK hP 0 rfl rfl 1 (by decide) (hts _ kw_1_17) (fun _ h9 => h9) rfl dX7_undo_1 ?_
  refine va_get (D := D) (ci := 3) (v := .int (nI cg)) (C := RX3) (T := TX3) (N := 3) hx hb hts inlX3 hown hK hP 1 rfl rfl 2 (by decide) (hts _ kw_5_10) (fun _ h9 => h9) rfl dX7_undo_4 ?_
  refine lv_if_ne (tgt := 20) hx hb dX7_undo_7 (by decide) (fun c_7 => ?_) (fun c_7 => ?_)
  · have c_7 := neq_f (a := cg) (b := 0) (by omega) (by omega) c_7
    omega
  · have c_7 := neq_t (a := cg) (b := 0) (by omega) (by omega) c_7
    exact thrT (h := 6) C hlt hxt ex_ISE kw_5_8 kw_5_9 sk_0 hS hP hl.1 dX7_undo_10 dX7_undo_13 dX7_undo_14 dX7_undo_16 dX7_undo_19 (by decide) (Nat.le_of_ble_eq_true rfl)
set_option maxHeartbeats 800000 in
set_option maxRecDepth 100000 in
theorem mX7_load_T1 (l : Launch) (D : va_G) (G : u_G) (hlt : l.stackTraces = false) (q : Nat) (sa ha ta fa ea : Nat → Nat) (L cnt num : Nat) (F : Nat → Int32) (t : Nat → Nat)  (hL : L ≤ 60) (ht : ∀ k, k < L → t k < 128) (hbad : ¬ ((rdA t L F).1 = L ∧ 0 < (rdA t L F).2.2.1)) : MtT l D G yX7_load cX7_load 1 .int 6 [.ref q] [(q, .inr (7, [.ref (sa 0), .ref (ha 0), .ref (ta 0), .ref (fa 0), .ref (ea 0)])), (ta 0, .inr (4, [.ref (ta 1), .int (nI L), .ref (ta 2), .int (nI cnt), .int (nI num)])), (ta 1, .inl (G.1, 60, .inl (tN t))), (ta 2, .inl (G.1, 12, .inl F))] [(q, .inr (7, [.ref (sa 0), .ref (ha 0), .ref (ta 0), .ref (fa 0), .ref (ea 0)])), (ta 0, .inr (4, [.ref (ta 1), .int (nI L), .ref (ta 2), .int (nI ((rdA t L F).2.1)), .int (nI ((rdA t L F).2.2.1))])), (ta 1, .inl (G.1, 60, .inl (tN t))), (ta 2, .inl (G.1, 12, .inl ((rdA t L F).2.2.2)))] "java/lang/IllegalArgumentException" := by
  refine MtT.of (by decide) (Nat.le_of_ble_eq_true rfl) ?_
  intro pr e s9 m9 below meth c9 A ls C hP hD hl hxt
  obtain ⟨hx, hb, hml, hown, hts, hr, hlocks, hA, hAm⟩ := id C
  have hK := hAm.1
  have hS : va_S A s9.heap s9.heap [] := va_S.rf
  have hl : lv_has ls 1 [(0, .ref q)] := hl
  refine lv_aload_n hx hb dX7_load_0 rfl (lv_at hl 0 rfl) ?_
  refine va_get (D := D) (ci := 7) (v := .ref (ta 0)) (C := RX7) (T := TX7) (N := 5) hx hb hts inlX7 hown hK hP 0 rfl rfl 2 (by decide) (hts _ kw_1_21) (fun _ h9 => h9) rfl dX7_load_1 ?_
  refine aftI C (runV_G (As := []) (rest := []) (ci := 4) (N := 5) (T := TX4) (q0 := 1) C (mX4_isRow l D G (ta 0) (ta 1) (ta 2) L cnt num F t hL ht) hS hP hD [1, 2, 3] rfl (by decide) rfl rfl (ys_X4_isRow) kw_18_1 kw_18_2 kw_18_3 ⟨Nat.le_of_ble_eq_true rfl, Nat.le_of_ble_eq_true rfl⟩ hl.1 (Nat.le_of_ble_eq_true rfl) dX7_load_4 rfl rfl ⟨Nat.zero_le _, Nat.zero_le _⟩) hS hP hD [1, 2, 3] rfl (fun _ => rfl) (fun r4 _ H locs hp4 hP hD hS => ?_)
  have hP : va_P D vwCl [(q, .inr (7, [.ref (sa 0), .ref (ha 0), .ref (ta 0), .ref (fa 0), .ref (ea 0)])), (ta 0, .inr (4, [.ref (ta 1), .int (nI L), .ref (ta 2), .int (nI ((rdA t L F).2.1)), .int (nI ((rdA t L F).2.2.1))])), (ta 1, .inl (G.1, 60, .inl (tN t))), (ta 2, .inl (G.1, 12, .inl ((rdA t L F).2.2.2)))] H := hP
  have hD : va_D A [(q, .inr (7, [.ref (sa 0), .ref (ha 0), .ref (ta 0), .ref (fa 0), .ref (ea 0)])), (ta 0, .inr (4, [.ref (ta 1), .int (nI L), .ref (ta 2), .int (nI ((rdA t L F).2.1)), .int (nI ((rdA t L F).2.2.1))])), (ta 1, .inl (G.1, 60, .inl (tN t))), (ta 2, .inl (G.1, 12, .inl ((rdA t L F).2.2.2)))] := hD
  refine ro_top (z := bI ((rdA t L F).1 = L ∧ 0 < (rdA t L F).2.2.1)) hx hp4 ?_
  refine lv_if_ne (tgt := 20) hx hb dX7_load_7 (by decide) (fun c_7 => ?_) (fun c_7 => ?_)
  · have c_7 := bI_1 c_7
    exact absurd c_7 hbad
  · have c_7 : ¬ ((rdA t L F).1 = L ∧ 0 < (rdA t L F).2.2.1) := bI_0 c_7
    exact thrT (h := 6) C hlt hxt ex_IAE kw_11_17 kw_11_18 sk_7 hS hP hl.1 dX7_load_10 dX7_load_13 dX7_load_14 dX7_load_16 dX7_load_19 (by decide) (Nat.le_of_ble_eq_true rfl)
