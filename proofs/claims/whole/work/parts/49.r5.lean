theorem ys_X8_turn : YS yX8_turn cX8_turn 1 (some .int) 0 := ⟨kw_14_22, kw_1_5, by decide, by decide, by decide⟩
theorem ys_X8_left : YS yX8_left cX8_left 1 (some .int) 0 := ⟨kw_15_6, kw_1_5, by decide, by decide, by decide⟩
theorem ys_X8_pile : YS yX8_pile cX8_pile 2 (some .int) 1 := ⟨kw_15_18, kw_1_5, by decide, by decide, by decide⟩
theorem ys_X8_coins : YS yX8_coins cX8_coins 2 (some .int) 1 := ⟨kw_16_7, kw_1_5, by decide, by decide, by decide⟩
theorem ys_X8_value : YS yX8_value cX8_value 1 (some .int) 0 := ⟨kw_16_16, kw_1_5, by decide, by decide, by decide⟩
theorem ys_X8_resultOf : YS yX8_resultOf cX8_resultOf 2 (some .int) 1 := ⟨kw_17_4, kw_1_5, by decide, by decide, by decide⟩
theorem ys_X8_bestMove : YS yX8_bestMove cX8_bestMove 1 (some .int) 0 := ⟨kw_17_9, kw_1_5, by decide, by decide, by decide⟩
theorem ys_X8_line : YS yX8_line cX8_line 2 (some .int) 1 := ⟨kw_17_22, kw_1_5, by decide, by decide, by decide⟩
theorem ys_X8_margin : YS yX8_margin cX8_margin 1 (some .int) 0 := ⟨kw_18_15, kw_1_5, by decide, by decide, by decide⟩
theorem ys_X8_result : YS yX8_result cX8_result 1 (some .int) 0 := ⟨kw_22_13, kw_1_5, by decide, by decide, by decide⟩
theorem ys_X8_nodes : YS yX8_nodes cX8_nodes 1 (some .int) 0 := ⟨kw_22_22, kw_1_5, by decide, by decide, by decide⟩
theorem ys_X8_cuts : YS yX8_cuts cX8_cuts 1 (some .int) 0 := ⟨kw_23_7, kw_1_5, by decide, by decide, by decide⟩
theorem ys_X8_hits : YS yX8_hits cX8_hits 1 (some .int) 0 := ⟨kw_23_16, kw_1_5, by decide, by decide, by decide⟩
theorem ys_X8_savedStates : YS yX8_savedStates cX8_savedStates 1 (some .int) 0 := ⟨kw_31_1, kw_1_5, by decide, by decide, by decide⟩
set_option maxHeartbeats 800000 in
set_option maxRecDepth 100000 in
theorem mX8_turn (l : Launch) (D : va_G) (G : u_G) (q : Nat) (ma : Nat → Nat) (sN L : Nat) (th nd ct ht sp iw mn : Int32) (sr p : Nat → Int32) (x : Nat → Nat) (y : Nat → Int32) (M : Nat)  (hR : RowR sr x y M p) (hM : M ≤ 12) : MtI l D G yX8_turn cX8_turn 1 .int 1 0 0 [.ref q] [(q, .inr (8, [.ref (ma 0), .ref (ma 1), .int (nI sN), .ref (ma 2), .int (nI L), .int th, .ref (ma 3), .ref (ma 4), .ref (ma 5), .ref (ma 6), .int nd, .int ct, .int ht, .ref (ma 7), .ref (ma 8), .ref (ma 9), .ref (ma 10), .ref (ma 11), .ref (ma 12), .ref (ma 13), .ref (ma 14), .int sp, .int iw, .int mn])), (ma 0, .inl (G.1, 457, .inl sr))] (fun (r : Int32) (_ : Unit) => r = nI (x 15)) (fun (_ : Unit) => [(q, .inr (8, [.ref (ma 0), .ref (ma 1), .int (nI sN), .ref (ma 2), .int (nI L), .int (nI 0), .ref (ma 3), .ref (ma 4), .ref (ma 5), .ref (ma 6), .int nd, .int ct, .int ht, .ref (ma 7), .ref (ma 8), .ref (ma 9), .ref (ma 10), .ref (ma 11), .ref (ma 12), .ref (ma 13), .ref (ma 14), .int sp, .int iw, .int mn])), (ma 0, .inl (G.1, 457, .inl sr))]) := by
  refine MtI.of (by decide) (Nat.le_of_ble_eq_true rfl) ?_
  intro pr e s9 m9 below meth c9 A ls C hP hD hl
  obtain ⟨hx, hb, hml, hown, hts, hr, hlocks, hA, hAm⟩ := id C
  have hK := hAm.1
  have hS : va_S A s9.heap s9.heap [] := va_S.rf
  have hl : lv_has ls 1 [(0, .ref q)] := hl
  refine lv_aload_n hx hb dX8_turn_0 rfl (lv_at hl 0 rfl) ?_
  refine lv_iconst (v := 0) hx hb dX8_turn_1 (by decide) ?_
  refine va_put (D := D) (ci := 8) (v := .int 0) (ty := .int) (C := RX8) (T := TX8) (N := 24) hx hb hts inlX8 tyX8 tyX8_ok nmX8 hown hK hP hD hS 0 rfl rfl 5 (by decide) (hts _ kw_11_4) (fun _ h9 => h9) rfl (by decide +kernel) rfl rfl (Nat.le_of_ble_eq_true rfl) dX8_turn_2 (fun H locs hP hD hS => ?_)
  have hP : va_P D vwCl [(q, .inr (8, [.ref (ma 0), .ref (ma 1), .int (nI sN), .ref (ma 2), .int (nI L), .int 0, .ref (ma 3), .ref (ma 4), .ref (ma 5), .ref (ma 6), .int nd, .int ct, .int ht, .ref (ma 7), .ref (ma 8), .ref (ma 9), .ref (ma 10), .ref (ma 11), .ref (ma 12), .ref (ma 13), .ref (ma 14), .int sp, .int iw, .int mn])), (ma 0, .inl (G.1, 457, .inl sr))] H := hP
  have hD : va_D A [(q, .inr (8, [.ref (ma 0), .ref (ma 1), .int (nI sN), .ref (ma 2), .int (nI L), .int 0, .ref (ma 3), .ref (ma 4), .ref (ma 5), .ref (ma 6), .int nd, .int ct, .int ht, .ref (ma 7), .ref (ma 8), .ref (ma 9), .ref (ma 10), .ref (ma 11), .ref (ma 12), .ref (ma 13), .ref (ma 14), .int sp, .int iw, .int mn])), (ma 0, .inl (G.1, 457, .inl sr))] := hD
  refine lv_aload_n hx hb dX8_turn_5 rfl (lv_at hl 0 rfl) ?_
  refine va_get (D := D) (ci := 8) (v := .ref (ma 0)) (C := RX8) (T := TX8) (N := 24) hx hb hts inlX8 hown hK hP 0 rfl rfl 0 (by decide) (hts _ kw_5_6) (fun _ h9 => h9) rfl dX8_turn_6 ?_
  refine lv_bipush (v := 15) hx hb dX8_turn_9 (by decide) ?_
  refine ro_iald (k := 15) (v := nI (x 15)) hx hb hK hP 1 0 rfl rfl rfl (by decide) (by decide) hR.n15 dX8_turn_11 ?_
  exact endI C rfl () rfl hS hP dX8_turn_12
set_option maxHeartbeats 800000 in
set_option maxRecDepth 100000 in
theorem mX8_left (l : Launch) (D : va_G) (G : u_G) (q : Nat) (ma : Nat → Nat) (sN L : Nat) (th nd ct ht sp iw mn : Int32) (sr p : Nat → Int32) (x : Nat → Nat) (y : Nat → Int32) (M : Nat)  (hR : RowR sr x y M p) (hM : M ≤ 12) : MtI l D G yX8_left cX8_left 1 .int 1 0 0 [.ref q] [(q, .inr (8, [.ref (ma 0), .ref (ma 1), .int (nI sN), .ref (ma 2), .int (nI L), .int th, .ref (ma 3), .ref (ma 4), .ref (ma 5), .ref (ma 6), .int nd, .int ct, .int ht, .ref (ma 7), .ref (ma 8), .ref (ma 9), .ref (ma 10), .ref (ma 11), .ref (ma 12), .ref (ma 13), .ref (ma 14), .int sp, .int iw, .int mn])), (ma 0, .inl (G.1, 457, .inl sr))] (fun (r : Int32) (_ : Unit) => r = nI (x 14)) (fun (_ : Unit) => [(q, .inr (8, [.ref (ma 0), .ref (ma 1), .int (nI sN), .ref (ma 2), .int (nI L), .int (nI 0), .ref (ma 3), .ref (ma 4), .ref (ma 5), .ref (ma 6), .int nd, .int ct, .int ht, .ref (ma 7), .ref (ma 8), .ref (ma 9), .ref (ma 10), .ref (ma 11), .ref (ma 12), .ref (ma 13), .ref (ma 14), .int sp, .int iw, .int mn])), (ma 0, .inl (G.1, 457, .inl sr))]) := by
  refine MtI.of (by decide) (Nat.le_of_ble_eq_true rfl) ?_
  intro pr e s9 m9 below meth c9 A ls C hP hD hl
  obtain ⟨hx, hb, hml, hown, hts, hr, hlocks, hA, hAm⟩ := id C
  have hK := hAm.1
  have hS : va_S A s9.heap s9.heap [] := va_S.rf
  have hl : lv_has ls 1 [(0, .ref q)] := hl
  refine lv_aload_n hx hb dX8_left_0 rfl (lv_at hl 0 rfl) ?_
  refine lv_iconst (v := 0) hx hb dX8_left_1 (by decide) ?_
  refine va_put (D := D) (ci := 8) (v := .int 0) (ty := .int) (C := RX8) (T := TX8) (N := 24) hx hb hts inlX8 tyX8 tyX8_ok nmX8 hown hK hP hD hS 0 rfl rfl 5 (by decide) (hts _ kw_11_4) (fun _ h9 => h9) rfl (by decide +kernel) rfl rfl (Nat.le_of_ble_eq_true rfl) dX8_left_2 (fun H locs hP hD hS => ?_)
  have hP : va_P D vwCl [(q, .inr (8, [.ref (ma 0), .ref (ma 1), .int (nI sN), .ref (ma 2), .int (nI L), .int 0, .ref (ma 3), .ref (ma 4), .ref (ma 5), .ref (ma 6), .int nd, .int ct, .int ht, .ref (ma 7), .ref (ma 8), .ref (ma 9), .ref (ma 10), .ref (ma 11), .ref (ma 12), .ref (ma 13), .ref (ma 14), .int sp, .int iw, .int mn])), (ma 0, .inl (G.1, 457, .inl sr))] H := hP
  have hD : va_D A [(q, .inr (8, [.ref (ma 0), .ref (ma 1), .int (nI sN), .ref (ma 2), .int (nI L), .int 0, .ref (ma 3), .ref (ma 4), .ref (ma 5), .ref (ma 6), .int nd, .int ct, .int ht, .ref (ma 7), .ref (ma 8), .ref (ma 9), .ref (ma 10), .ref (ma 11), .ref (ma 12), .ref (ma 13), .ref (ma 14), .int sp, .int iw, .int mn])), (ma 0, .inl (G.1, 457, .inl sr))] := hD
  refine lv_aload_n hx hb dX8_left_5 rfl (lv_at hl 0 rfl) ?_
  refine va_get (D := D) (ci := 8) (v := .ref (ma 0)) (C := RX8) (T := TX8) (N := 24) hx hb hts inlX8 hown hK hP 0 rfl rfl 0 (by decide) (hts _ kw_5_6) (fun _ h9 => h9) rfl dX8_left_6 ?_
  refine lv_bipush (v := 14) hx hb dX8_left_9 (by decide) ?_
  refine ro_iald (k := 14) (v := nI (x 14)) hx hb hK hP 1 0 rfl rfl rfl (by decide) (by decide) hR.n14 dX8_left_11 ?_
  exact endI C rfl () rfl hS hP dX8_left_12
set_option maxHeartbeats 800000 in
set_option maxRecDepth 100000 in
theorem mX8_result (l : Launch) (D : va_G) (G : u_G) (q : Nat) (ma : Nat → Nat) (sN L : Nat) (th nd ct ht sp iw mn : Int32) (sr p : Nat → Int32) (x : Nat → Nat) (y : Nat → Int32) (M : Nat)  (hR : RowR sr x y M p) (hM : M ≤ 12) : MtI l D G yX8_result cX8_result 1 .int 1 0 0 [.ref q] [(q, .inr (8, [.ref (ma 0), .ref (ma 1), .int (nI sN), .ref (ma 2), .int (nI L), .int th, .ref (ma 3), .ref (ma 4), .ref (ma 5), .ref (ma 6), .int nd, .int ct, .int ht, .ref (ma 7), .ref (ma 8), .ref (ma 9), .ref (ma 10), .ref (ma 11), .ref (ma 12), .ref (ma 13), .ref (ma 14), .int sp, .int iw, .int mn])), (ma 0, .inl (G.1, 457, .inl sr))] (fun (r : Int32) (_ : Unit) => r = y 21) (fun (_ : Unit) => [(q, .inr (8, [.ref (ma 0), .ref (ma 1), .int (nI sN), .ref (ma 2), .int (nI L), .int (nI 0), .ref (ma 3), .ref (ma 4), .ref (ma 5), .ref (ma 6), .int nd, .int ct, .int ht, .ref (ma 7), .ref (ma 8), .ref (ma 9), .ref (ma 10), .ref (ma 11), .ref (ma 12), .ref (ma 13), .ref (ma 14), .int sp, .int iw, .int mn])), (ma 0, .inl (G.1, 457, .inl sr))]) := by
  refine MtI.of (by decide) (Nat.le_of_ble_eq_true rfl) ?_
  intro pr e s9 m9 below meth c9 A ls C hP hD hl
  obtain ⟨hx, hb, hml, hown, hts, hr, hlocks, hA, hAm⟩ := id C
  have hK := hAm.1
  have hS : va_S A s9.heap s9.heap [] := va_S.rf
  have hl : lv_has ls 1 [(0, .ref q)] := hl
  refine lv_aload_n hx hb dX8_result_0 rfl (lv_at hl 0 rfl) ?_
  refine lv_iconst (v := 0) hx hb dX8_result_1 (by decide) ?_
  refine va_put (D := D) (ci := 8) (v := .int 0) (ty := .int) (C := RX8) (T := TX8) (N := 24) hx hb hts inlX8 tyX8 tyX8_ok nmX8 hown hK hP hD hS 0 rfl rfl 5 (by decide) (hts _ kw_11_4) (fun _ h9 => h9) rfl (by decide +kernel) rfl rfl (Nat.le_of_ble_eq_true rfl) dX8_result_2 (fun H locs hP hD hS => ?_)
  have hP : va_P D vwCl [(q, .inr (8, [.ref (ma 0), .ref (ma 1), .int (nI sN), .ref (ma 2), .int (nI L), .int 0, .ref (ma 3), .ref (ma 4), .ref (ma 5), .ref (ma 6), .int nd, .int ct, .int ht, .ref (ma 7), .ref (ma 8), .ref (ma 9), .ref (ma 10), .ref (ma 11), .ref (ma 12), .ref (ma 13), .ref (ma 14), .int sp, .int iw, .int mn])), (ma 0, .inl (G.1, 457, .inl sr))] H := hP
  have hD : va_D A [(q, .inr (8, [.ref (ma 0), .ref (ma 1), .int (nI sN), .ref (ma 2), .int (nI L), .int 0, .ref (ma 3), .ref (ma 4), .ref (ma 5), .ref (ma 6), .int nd, .int ct, .int ht, .ref (ma 7), .ref (ma 8), .ref (ma 9), .ref (ma 10), .ref (ma 11), .ref (ma 12), .ref (ma 13), .ref (ma 14), .int sp, .int iw, .int mn])), (ma 0, .inl (G.1, 457, .inl sr))] := hD
  refine lv_aload_n hx hb dX8_result_5 rfl (lv_at hl 0 rfl) ?_
  refine va_get (D := D) (ci := 8) (v := .ref (ma 0)) (C := RX8) (T := TX8) (N := 24) hx hb hts inlX8 hown hK hP 0 rfl rfl 0 (by decide) (hts _ kw_5_6) (fun _ h9 => h9) rfl dX8_result_6 ?_
  refine lv_bipush (v := 21) hx hb dX8_result_9 (by decide) ?_
  refine ro_iald (k := 21) (v := y 21) hx hb hK hP 1 0 rfl rfl rfl (by decide) (by decide) hR.n21 dX8_result_11 ?_
  exact endI C rfl () rfl hS hP dX8_result_12
set_option maxHeartbeats 800000 in
set_option maxRecDepth 100000 in
theorem mX8_nodes (l : Launch) (D : va_G) (G : u_G) (q : Nat) (ma : Nat → Nat) (sN L : Nat) (th nd ct ht sp iw mn : Int32) (sr p : Nat → Int32) (x : Nat → Nat) (y : Nat → Int32) (M : Nat)  (hR : RowR sr x y M p) (hM : M ≤ 12) : MtI l D G yX8_nodes cX8_nodes 1 .int 1 0 0 [.ref q] [(q, .inr (8, [.ref (ma 0), .ref (ma 1), .int (nI sN), .ref (ma 2), .int (nI L), .int th, .ref (ma 3), .ref (ma 4), .ref (ma 5), .ref (ma 6), .int nd, .int ct, .int ht, .ref (ma 7), .ref (ma 8), .ref (ma 9), .ref (ma 10), .ref (ma 11), .ref (ma 12), .ref (ma 13), .ref (ma 14), .int sp, .int iw, .int mn])), (ma 0, .inl (G.1, 457, .inl sr))] (fun (r : Int32) (_ : Unit) => r = nI (x 22)) (fun (_ : Unit) => [(q, .inr (8, [.ref (ma 0), .ref (ma 1), .int (nI sN), .ref (ma 2), .int (nI L), .int (nI 0), .ref (ma 3), .ref (ma 4), .ref (ma 5), .ref (ma 6), .int nd, .int ct, .int ht, .ref (ma 7), .ref (ma 8), .ref (ma 9), .ref (ma 10), .ref (ma 11), .ref (ma 12), .ref (ma 13), .ref (ma 14), .int sp, .int iw, .int mn])), (ma 0, .inl (G.1, 457, .inl sr))]) := by
  refine MtI.of (by decide) (Nat.le_of_ble_eq_true rfl) ?_
  intro pr e s9 m9 below meth c9 A ls C hP hD hl
  obtain ⟨hx, hb, hml, hown, hts, hr, hlocks, hA, hAm⟩ := id C
  have hK := hAm.1
  have hS : va_S A s9.heap s9.heap [] := va_S.rf
  have hl : lv_has ls 1 [(0, .ref q)] := hl
  refine lv_aload_n hx hb dX8_nodes_0 rfl (lv_at hl 0 rfl) ?_
  refine lv_iconst (v := 0) hx hb dX8_nodes_1 (by decide) ?_
  refine va_put (D := D) (ci := 8) (v := .int 0) (ty := .int) (C := RX8) (T := TX8) (N := 24) hx hb hts inlX8 tyX8 tyX8_ok nmX8 hown hK hP hD hS 0 rfl rfl 5 (by decide) (hts _ kw_11_4) (fun _ h9 => h9) rfl (by decide +kernel) rfl rfl (Nat.le_of_ble_eq_true rfl) dX8_nodes_2 (fun H locs hP hD hS => ?_)
  have hP : va_P D vwCl [(q, .inr (8, [.ref (ma 0), .ref (ma 1), .int (nI sN), .ref (ma 2), .int (nI L), .int 0, .ref (ma 3), .ref (ma 4), .ref (ma 5), .ref (ma 6), .int nd, .int ct, .int ht, .ref (ma 7), .ref (ma 8), .ref (ma 9), .ref (ma 10), .ref (ma 11), .ref (ma 12), .ref (ma 13), .ref (ma 14), .int sp, .int iw, .int mn])), (ma 0, .inl (G.1, 457, .inl sr))] H := hP
  have hD : va_D A [(q, .inr (8, [.ref (ma 0), .ref (ma 1), .int (nI sN), .ref (ma 2), .int (nI L), .int 0, .ref (ma 3), .ref (ma 4), .ref (ma 5), .ref (ma 6), .int nd, .int ct, .int ht, .ref (ma 7), .ref (ma 8), .ref (ma 9), .ref (ma 10), .ref (ma 11), .ref (ma 12), .ref (ma 13), .ref (ma 14), .int sp, .int iw, .int mn])), (ma 0, .inl (G.1, 457, .inl sr))] := hD
  refine lv_aload_n hx hb dX8_nodes_5 rfl (lv_at hl 0 rfl) ?_
  refine va_get (D := D) (ci := 8) (v := .ref (ma 0)) (C := RX8) (T := TX8) (N := 24) hx hb hts inlX8 hown hK hP 0 rfl rfl 0 (by decide) (hts _ kw_5_6) (fun _ h9 => h9) rfl dX8_nodes_6 ?_
  refine lv_bipush (v := 22) hx hb dX8_nodes_9 (by decide) ?_
  refine ro_iald (k := 22) (v := nI (x 22)) hx hb hK hP 1 0 rfl rfl rfl (by decide) (by decide) hR.n22 dX8_nodes_11 ?_
  exact endI C rfl () rfl hS hP dX8_nodes_12
set_option maxHeartbeats 800000 in
set_option maxRecDepth 100000 in
theorem mX8_cuts (l : Launch) (D : va_G) (G : u_G) (q : Nat) (ma : Nat → Nat) (sN L : Nat) (th nd ct ht sp iw mn : Int32) (sr p : Nat → Int32) (x : Nat → Nat) (y : Nat → Int32) (M : Nat)  (hR : RowR sr x y M p) (hM : M ≤ 12) : MtI l D G yX8_cuts cX8_cuts 1 .int 1 0 0 [.ref q] [(q, .inr (8, [.ref (ma 0), .ref (ma 1), .int (nI sN), .ref (ma 2), .int (nI L), .int th, .ref (ma 3), .ref (ma 4), .ref (ma 5), .ref (ma 6), .int nd, .int ct, .int ht, .ref (ma 7), .ref (ma 8), .ref (ma 9), .ref (ma 10), .ref (ma 11), .ref (ma 12), .ref (ma 13), .ref (ma 14), .int sp, .int iw, .int mn])), (ma 0, .inl (G.1, 457, .inl sr))] (fun (r : Int32) (_ : Unit) => r = y 23) (fun (_ : Unit) => [(q, .inr (8, [.ref (ma 0), .ref (ma 1), .int (nI sN), .ref (ma 2), .int (nI L), .int (nI 0), .ref (ma 3), .ref (ma 4), .ref (ma 5), .ref (ma 6), .int nd, .int ct, .int ht, .ref (ma 7), .ref (ma 8), .ref (ma 9), .ref (ma 10), .ref (ma 11), .ref (ma 12), .ref (ma 13), .ref (ma 14), .int sp, .int iw, .int mn])), (ma 0, .inl (G.1, 457, .inl sr))]) := by
  refine MtI.of (by decide) (Nat.le_of_ble_eq_true rfl) ?_
  intro pr e s9 m9 below meth c9 A ls C hP hD hl
  obtain ⟨hx, hb, hml, hown, hts, hr, hlocks, hA, hAm⟩ := id C
  have hK := hAm.1
  have hS : va_S A s9.heap s9.heap [] := va_S.rf
  have hl : lv_has ls 1 [(0, .ref q)] := hl
  refine lv_aload_n hx hb dX8_cuts_0 rfl (lv_at hl 0 rfl) ?_
  refine lv_iconst (v := 0) hx hb dX8_cuts_1 (by decide) ?_
  refine va_put (D := D) (ci := 8) (v := .int 0) (ty := .int) (C := RX8) (T := TX8) (N := 24) hx hb hts inlX8 tyX8 tyX8_ok nmX8 hown hK hP hD hS 0 rfl rfl 5 (by decide) (hts _ kw_11_4) (fun _ h9 => h9) rfl (by decide +kernel) rfl rfl (Nat.le_of_ble_eq_true rfl) dX8_cuts_2 (fun H locs hP hD hS => ?_)
  have hP : va_P D vwCl [(q, .inr (8, [.ref (ma 0), .ref (ma 1), .int (nI sN), .ref (ma 2), .int (nI L), .int 0, .ref (ma 3), .ref (ma 4), .ref (ma 5), .ref (ma 6), .int nd, .int ct, .int ht, .ref (ma 7), .ref (ma 8), .ref (ma 9), .ref (ma 10), .ref (ma 11), .ref (ma 12), .ref (ma 13), .ref (ma 14), .int sp, .int iw, .int mn])), (ma 0, .inl (G.1, 457, .inl sr))] H := hP
  have hD : va_D A [(q, .inr (8, [.ref (ma 0), .ref (ma 1), .int (nI sN), .ref (ma 2), .int (nI L), .int 0, .ref (ma 3), .ref (ma 4), .ref (ma 5), .ref (ma 6), .int nd, .int ct, .int ht, .ref (ma 7), .ref (ma 8), .ref (ma 9), .ref (ma 10), .ref (ma 11), .ref (ma 12), .ref (ma 13), .ref (ma 14), .int sp, .int iw, .int mn])), (ma 0, .inl (G.1, 457, .inl sr))] := hD
  refine lv_aload_n hx hb dX8_cuts_5 rfl (lv_at hl 0 rfl) ?_
  refine va_get (D := D) (ci := 8) (v := .ref (ma 0)) (C := RX8) (T := TX8) (N := 24) hx hb hts inlX8 hown hK hP 0 rfl rfl 0 (by decide) (hts _ kw_5_6) (fun _ h9 => h9) rfl dX8_cuts_6 ?_
  refine lv_bipush (v := 23) hx hb dX8_cuts_9 (by decide) ?_
  refine ro_iald (k := 23) (v := y 23) hx hb hK hP 1 0 rfl rfl rfl (by decide) (by decide) hR.n23 dX8_cuts_11 ?_
  exact endI C rfl () rfl hS hP dX8_cuts_12
set_option maxHeartbeats 800000 in
set_option maxRecDepth 100000 in
theorem mX8_hits (l : Launch) (D : va_G) (G : u_G) (q : Nat) (ma : Nat → Nat) (sN L : Nat) (th nd ct ht sp iw mn : Int32) (sr p : Nat → Int32) (x : Nat → Nat) (y : Nat → Int32) (M : Nat)  (hR : RowR sr x y M p) (hM : M ≤ 12) : MtI l D G yX8_hits cX8_hits 1 .int 1 0 0 [.ref q] [(q, .inr (8, [.ref (ma 0), .ref (ma 1), .int (nI sN), .ref (ma 2), .int (nI L), .int th, .ref (ma 3), .ref (ma 4), .ref (ma 5), .ref (ma 6), .int nd, .int ct, .int ht, .ref (ma 7), .ref (ma 8), .ref (ma 9), .ref (ma 10), .ref (ma 11), .ref (ma 12), .ref (ma 13), .ref (ma 14), .int sp, .int iw, .int mn])), (ma 0, .inl (G.1, 457, .inl sr))] (fun (r : Int32) (_ : Unit) => r = y 24) (fun (_ : Unit) => [(q, .inr (8, [.ref (ma 0), .ref (ma 1), .int (nI sN), .ref (ma 2), .int (nI L), .int (nI 0), .ref (ma 3), .ref (ma 4), .ref (ma 5), .ref (ma 6), .int nd, .int ct, .int ht, .ref (ma 7), .ref (ma 8), .ref (ma 9), .ref (ma 10), .ref (ma 11), .ref (ma 12), .ref (ma 13), .ref (ma 14), .int sp, .int iw, .int mn])), (ma 0, .inl (G.1, 457, .inl sr))]) := by
  refine MtI.of (by decide) (Nat.le_of_ble_eq_true rfl) ?_
  intro pr e s9 m9 below meth c9 A ls C hP hD hl
  obtain ⟨hx, hb, hml, hown, hts, hr, hlocks, hA, hAm⟩ := id C
  have hK := hAm.1
  have hS : va_S A s9.heap s9.heap [] := va_S.rf
  have hl : lv_has ls 1 [(0, .ref q)] := hl
  refine lv_aload_n hx hb dX8_hits_0 rfl (lv_at hl 0 rfl) ?_
  refine lv_iconst (v := 0) hx hb dX8_hits_1 (by decide) ?_
  refine va_put (D := D) (ci := 8) (v := .int 0) (ty := .int) (C := RX8) (T := TX8) (N := 24) hx hb hts inlX8 tyX8 tyX8_ok nmX8 hown hK hP hD hS 0 rfl rfl 5 (by decide) (hts _ kw_11_4) (fun _ h9 => h9) rfl (by decide +kernel) rfl rfl (Nat.le_of_ble_eq_true rfl) dX8_hits_2 (fun H locs hP hD hS => ?_)
  have hP : va_P D vwCl [(q, .inr (8, [.ref (ma 0), .ref (ma 1), .int (nI sN), .ref (ma 2), .int (nI L), .int 0, .ref (ma 3), .ref (ma 4), .ref (ma 5), .ref (ma 6), .int nd, .int ct, .int ht, .ref (ma 7), .ref (ma 8), .ref (ma 9), .ref (ma 10), .ref (ma 11), .ref (ma 12), .ref (ma 13), .ref (ma 14), .int sp, .int iw, .int mn])), (ma 0, .inl (G.1, 457, .inl sr))] H := hP
  have hD : va_D A [(q, .inr (8, [.ref (ma 0), .ref (ma 1), .int (nI sN), .ref (ma 2), .int (nI L), .int 0, .ref (ma 3), .ref (ma 4), .ref (ma 5), .ref (ma 6), .int nd, .int ct, .int ht, .ref (ma 7), .ref (ma 8), .ref (ma 9), .ref (ma 10), .ref (ma 11), .ref (ma 12), .ref (ma 13), .ref (ma 14), .int sp, .int iw, .int mn])), (ma 0, .inl (G.1, 457, .inl sr))] := hD
  refine lv_aload_n hx hb dX8_hits_5 rfl (lv_at hl 0 rfl) ?_
  refine va_get (D := D) (ci := 8) (v := .ref (ma 0)) (C := RX8) (T := TX8) (N := 24) hx hb hts inlX8 hown hK hP 0 rfl rfl 0 (by decide) (hts _ kw_5_6) (fun _ h9 => h9) rfl dX8_hits_6 ?_
  refine lv_bipush (v := 24) hx hb dX8_hits_9 (by decide) ?_
  refine ro_iald (k := 24) (v := y 24) hx hb hK hP 1 0 rfl rfl rfl (by decide) (by decide) hR.n24 dX8_hits_11 ?_
  exact endI C rfl () rfl hS hP dX8_hits_12
set_option maxHeartbeats 800000 in
set_option maxRecDepth 100000 in
theorem mX8_savedStates (l : Launch) (D : va_G) (G : u_G) (q : Nat) (ma : Nat → Nat) (sN L : Nat) (th nd ct ht sp iw mn : Int32)  : MtI l D G yX8_savedStates cX8_savedStates 1 .int 1 0 0 [.ref q] [(q, .inr (8, [.ref (ma 0), .ref (ma 1), .int (nI sN), .ref (ma 2), .int (nI L), .int th, .ref (ma 3), .ref (ma 4), .ref (ma 5), .ref (ma 6), .int nd, .int ct, .int ht, .ref (ma 7), .ref (ma 8), .ref (ma 9), .ref (ma 10), .ref (ma 11), .ref (ma 12), .ref (ma 13), .ref (ma 14), .int sp, .int iw, .int mn]))] (fun (r : Int32) (_ : Unit) => r = nI sN) (fun (_ : Unit) => [(q, .inr (8, [.ref (ma 0), .ref (ma 1), .int (nI sN), .ref (ma 2), .int (nI L), .int (nI 0), .ref (ma 3), .ref (ma 4), .ref (ma 5), .ref (ma 6), .int nd, .int ct, .int ht, .ref (ma 7), .ref (ma 8), .ref (ma 9), .ref (ma 10), .ref (ma 11), .ref (ma 12), .ref (ma 13), .ref (ma 14), .int sp, .int iw, .int mn]))]) := by
  refine MtI.of (by decide) (Nat.le_of_ble_eq_true rfl) ?_
  intro pr e s9 m9 below meth c9 A ls C hP hD hl
  obtain ⟨hx, hb, hml, hown, hts, hr, hlocks, hA, hAm⟩ := id C
  have hK := hAm.1
  have hS : va_S A s9.heap s9.heap [] := va_S.rf
  have hl : lv_has ls 1 [(0, .ref q)] := hl
  refine lv_aload_n hx hb dX8_savedStates_0 rfl (lv_at hl 0 rfl) ?_
  refine lv_iconst (v := 0) hx hb dX8_savedStates_1 (by decide) ?_
  refine va_put (D := D) (ci := 8) (v := .int 0) (ty := .int) (C := RX8) (T := TX8) (N := 24) hx hb hts inlX8 tyX8 tyX8_ok nmX8 hown hK hP hD hS 0 rfl rfl 5 (by decide) (hts _ kw_11_4) (fun _ h9 => h9) rfl (by decide +kernel) rfl rfl (Nat.le_of_ble_eq_true rfl) dX8_savedStates_2 (fun H locs hP hD hS => ?_)
  have hP : va_P D vwCl [(q, .inr (8, [.ref (ma 0), .ref (ma 1), .int (nI sN), .ref (ma 2), .int (nI L), .int 0, .ref (ma 3), .ref (ma 4), .ref (ma 5), .ref (ma 6), .int nd, .int ct, .int ht, .ref (ma 7), .ref (ma 8), .ref (ma 9), .ref (ma 10), .ref (ma 11), .ref (ma 12), .ref (ma 13), .ref (ma 14), .int sp, .int iw, .int mn]))] H := hP
  have hD : va_D A [(q, .inr (8, [.ref (ma 0), .ref (ma 1), .int (nI sN), .ref (ma 2), .int (nI L), .int 0, .ref (ma 3), .ref (ma 4), .ref (ma 5), .ref (ma 6), .int nd, .int ct, .int ht, .ref (ma 7), .ref (ma 8), .ref (ma 9), .ref (ma 10), .ref (ma 11), .ref (ma 12), .ref (ma 13), .ref (ma 14), .int sp, .int iw, .int mn]))] := hD
  refine lv_aload_n hx hb dX8_savedStates_5 rfl (lv_at hl 0 rfl) ?_
  refine va_get (D := D) (ci := 8) (v := .int (nI sN)) (C := RX8) (T := TX8) (N := 24) hx hb hts inlX8 hown hK hP 0 rfl rfl 2 (by decide) (hts _ kw_11_9) (fun _ h9 => h9) rfl dX8_savedStates_6 ?_
  exact endI C rfl () rfl hS hP dX8_savedStates_9
set_option maxHeartbeats 800000 in
set_option maxRecDepth 100000 in
theorem mX8_clearText (l : Launch) (D : va_G) (G : u_G) (q : Nat) (ma : Nat → Nat) (sN L : Nat) (th nd ct ht sp iw mn : Int32)  : MtI l D G yX8_clearText cX8_clearText 2 .int 1 0 0 [.ref q] [(q, .inr (8, [.ref (ma 0), .ref (ma 1), .int (nI sN), .ref (ma 2), .int (nI L), .int th, .ref (ma 3), .ref (ma 4), .ref (ma 5), .ref (ma 6), .int nd, .int ct, .int ht, .ref (ma 7), .ref (ma 8), .ref (ma 9), .ref (ma 10), .ref (ma 11), .ref (ma 12), .ref (ma 13), .ref (ma 14), .int sp, .int iw, .int mn]))] (fun (r : Int32) (_ : Unit) => r = nI L) (fun (_ : Unit) => [(q, .inr (8, [.ref (ma 0), .ref (ma 1), .int (nI sN), .ref (ma 2), .int (nI 0), .int (nI 0), .ref (ma 3), .ref (ma 4), .ref (ma 5), .ref (ma 6), .int nd, .int ct, .int ht, .ref (ma 7), .ref (ma 8), .ref (ma 9), .ref (ma 10), .ref (ma 11), .ref (ma 12), .ref (ma 13), .ref (ma 14), .int sp, .int iw, .int mn]))]) := by
  refine MtI.of (by decide) (Nat.le_of_ble_eq_true rfl) ?_
  intro pr e s9 m9 below meth c9 A ls C hP hD hl
  obtain ⟨hx, hb, hml, hown, hts, hr, hlocks, hA, hAm⟩ := id C
  have hK := hAm.1
  have hS : va_S A s9.heap s9.heap [] := va_S.rf
  have hl : lv_has ls 2 [(0, .ref q)] := hl
  refine lv_aload_n hx hb dX8_clearText_0 rfl (lv_at hl 0 rfl) ?_
  refine lv_iconst (v := 0) hx hb dX8_clearText_1 (by decide) ?_
  refine va_put (D := D) (ci := 8) (v := .int 0) (ty := .int) (C := RX8) (T := TX8) (N := 24) hx hb hts inlX8 tyX8 tyX8_ok nmX8 hown hK hP hD hS 0 rfl rfl 5 (by decide) (hts _ kw_11_4) (fun _ h9 => h9) rfl (by decide +kernel) rfl rfl (Nat.le_of_ble_eq_true rfl) dX8_clearText_2 (fun H locs hP hD hS => ?_)
  have hP : va_P D vwCl [(q, .inr (8, [.ref (ma 0), .ref (ma 1), .int (nI sN), .ref (ma 2), .int (nI L), .int 0, .ref (ma 3), .ref (ma 4), .ref (ma 5), .ref (ma 6), .int nd, .int ct, .int ht, .ref (ma 7), .ref (ma 8), .ref (ma 9), .ref (ma 10), .ref (ma 11), .ref (ma 12), .ref (ma 13), .ref (ma 14), .int sp, .int iw, .int mn]))] H := hP
  have hD : va_D A [(q, .inr (8, [.ref (ma 0), .ref (ma 1), .int (nI sN), .ref (ma 2), .int (nI L), .int 0, .ref (ma 3), .ref (ma 4), .ref (ma 5), .ref (ma 6), .int nd, .int ct, .int ht, .ref (ma 7), .ref (ma 8), .ref (ma 9), .ref (ma 10), .ref (ma 11), .ref (ma 12), .ref (ma 13), .ref (ma 14), .int sp, .int iw, .int mn]))] := hD
  refine lv_aload_n hx hb dX8_clearText_5 rfl (lv_at hl 0 rfl) ?_
  refine va_get (D := D) (ci := 8) (v := .int (nI L)) (C := RX8) (T := TX8) (N := 24) hx hb hts inlX8 hown hK hP 0 rfl rfl 4 (by decide) (hts _ kw_10_6) (fun _ h9 => h9) rfl dX8_clearText_6 ?_
  refine lv_istore_n (lv' := [(1, .int (nI L)), (0, .ref q)]) hx hb dX8_clearText_9 rfl hl (by decide) rfl (fun ls hl => ?_)
  refine lv_aload_n hx hb dX8_clearText_10 rfl (lv_at hl 1 rfl) ?_
  refine lv_iconst (v := 0) hx hb dX8_clearText_11 (by decide) ?_
  refine va_put (D := D) (ci := 8) (v := .int 0) (ty := .int) (C := RX8) (T := TX8) (N := 24) hx hb hts inlX8 tyX8 tyX8_ok nmX8 hown hK hP hD hS 0 rfl rfl 4 (by decide) (hts _ kw_10_6) (fun _ h9 => h9) rfl (by decide +kernel) rfl rfl (Nat.le_of_ble_eq_true rfl) dX8_clearText_12 (fun H locs hP hD hS => ?_)
  have hP : va_P D vwCl [(q, .inr (8, [.ref (ma 0), .ref (ma 1), .int (nI sN), .ref (ma 2), .int 0, .int 0, .ref (ma 3), .ref (ma 4), .ref (ma 5), .ref (ma 6), .int nd, .int ct, .int ht, .ref (ma 7), .ref (ma 8), .ref (ma 9), .ref (ma 10), .ref (ma 11), .ref (ma 12), .ref (ma 13), .ref (ma 14), .int sp, .int iw, .int mn]))] H := hP
  have hD : va_D A [(q, .inr (8, [.ref (ma 0), .ref (ma 1), .int (nI sN), .ref (ma 2), .int 0, .int 0, .ref (ma 3), .ref (ma 4), .ref (ma 5), .ref (ma 6), .int nd, .int ct, .int ht, .ref (ma 7), .ref (ma 8), .ref (ma 9), .ref (ma 10), .ref (ma 11), .ref (ma 12), .ref (ma 13), .ref (ma 14), .int sp, .int iw, .int mn]))] := hD
  refine lv_iload_n hx hb dX8_clearText_15 rfl (lv_at hl 0 rfl) ?_
  exact endI C rfl () rfl hS hP dX8_clearText_16
set_option maxHeartbeats 800000 in
set_option maxRecDepth 100000 in
theorem mX8_pile (l : Launch) (D : va_G) (G : u_G) (q : Nat) (ma : Nat → Nat) (sN L : Nat) (th nd ct ht sp iw mn : Int32) (sr p : Nat → Int32) (x : Nat → Nat) (y : Nat → Int32) (M : Nat) (k : Nat) (hR : RowR sr x y M p) (hM : M ≤ 12) (hfn : x 13 + x 14 ≤ M) (hk : k < x 14) : MtI l D G yX8_pile cX8_pile 2 .int 3 0 0 [.ref q, .int (nI k)] [(q, .inr (8, [.ref (ma 0), .ref (ma 1), .int (nI sN), .ref (ma 2), .int (nI L), .int th, .ref (ma 3), .ref (ma 4), .ref (ma 5), .ref (ma 6), .int nd, .int ct, .int ht, .ref (ma 7), .ref (ma 8), .ref (ma 9), .ref (ma 10), .ref (ma 11), .ref (ma 12), .ref (ma 13), .ref (ma 14), .int sp, .int iw, .int mn])), (ma 0, .inl (G.1, 457, .inl sr))] (fun (r : Int32) (_ : Unit) => r = p (x 13 + k)) (fun (_ : Unit) => [(q, .inr (8, [.ref (ma 0), .ref (ma 1), .int (nI sN), .ref (ma 2), .int (nI L), .int (nI 0), .ref (ma 3), .ref (ma 4), .ref (ma 5), .ref (ma 6), .int nd, .int ct, .int ht, .ref (ma 7), .ref (ma 8), .ref (ma 9), .ref (ma 10), .ref (ma 11), .ref (ma 12), .ref (ma 13), .ref (ma 14), .int sp, .int iw, .int mn])), (ma 0, .inl (G.1, 457, .inl sr))]) := by
  refine MtI.of (by decide) (Nat.le_of_ble_eq_true rfl) ?_
  intro pr e s9 m9 below meth c9 A ls C hP hD hl
  obtain ⟨hx, hb, hml, hown, hts, hr, hlocks, hA, hAm⟩ := id C
  have hK := hAm.1
  have hS : va_S A s9.heap s9.heap [] := va_S.rf
  have hl : lv_has ls 2 [(0, .ref q), (1, .int (nI k))] := hl
  refine lv_aload_n hx hb dX8_pile_0 rfl (lv_at hl 0 rfl) ?_
  refine lv_iload_n hx hb dX8_pile_1 rfl (lv_at hl 1 rfl) ?_
  refine lv_iconst (v := 0) hx hb dX8_pile_2 (by decide) ?_
  refine lv_aload_n hx hb dX8_pile_3 rfl (lv_at hl 0 rfl) ?_
  refine va_get (D := D) (ci := 8) (v := .ref (ma 0)) (C := RX8) (T := TX8) (N := 24) hx hb hts inlX8 hown hK hP 0 rfl rfl 0 (by decide) (hts _ kw_5_6) (fun _ h9 => h9) rfl dX8_pile_4 ?_
  refine lv_bipush (v := 14) hx hb dX8_pile_7 (by decide) ?_
  refine ro_iald (k := 14) (v := nI (x 14)) hx hb hK hP 1 0 rfl rfl rfl (by decide) (by decide) hR.n14 dX8_pile_9 ?_
  refine lv_iconst (v := 1) hx hb dX8_pile_10 (by decide) ?_
  refine ro_isub (z := nI (x 14 - 1)) hx hb (pk_sub (a := x 14) (b := 1) (by omega)) dX8_pile_11 ?_
  refine aftI0 C (runS_G (As := [.int (nI k), .int 0, .int (nI (x 14 - 1))]) (rest := [.ref q]) C (mX8_in l D G (nI k) 0 (nI (x 14 - 1)) ) hS hP hD [] rfl (by decide) (ys_X8_in) kw_10_21 kw_10_22 ⟨Nat.le_of_ble_eq_true rfl, Nat.le_of_ble_eq_true rfl⟩ hl.1 (Nat.le_of_ble_eq_true rfl) dX8_pile_12 rfl rfl ⟨Nat.zero_le _, Nat.zero_le _⟩) hS hP hD [] rfl (fun r12 _ H locs hp12 hP hS => ?_)
  refine ro_top (z := bI (¬ (nI k) < 0 ∧ ¬ (nI (x 14 - 1)) < (nI k))) hx hp12 ?_
  refine lv_if_eq (tgt := 22) hx hb dX8_pile_15 (by decide) (fun c_15 => ?_) (fun c_15 => ?_)
  · have c_15 := bI_0 c_15
    exact absurd (nin (Nat.zero_le k) (show k ≤ x 14 - 1 by omega) (by omega)) c_15
  · have c_15 := bI_1 c_15
    refine lv_iconst (v := 0) hx hb dX8_pile_18 (by decide) ?_
    refine lv_goto (tgt := 23) hx hb dX8_pile_19 (by decide) ?_
    refine aftI C (runV_G (As := [.int 0]) (rest := []) (ci := 8) (N := 24) (T := TX8) (q0 := 0) C (mX8_refused l D G q ma sN L th nd ct ht sp iw mn 0 (by omega)) hS hP hD [0] rfl (by decide) rfl rfl (ys_X8_refused) kw_11_0 kw_11_1 kw_11_2 ⟨Nat.le_of_ble_eq_true rfl, Nat.le_of_ble_eq_true rfl⟩ hl.1 (Nat.le_of_ble_eq_true rfl) dX8_pile_23 rfl rfl ⟨Nat.zero_le _, Nat.zero_le _⟩) hS hP hD [0] rfl (fun _ => rfl) (fun r23 _ H locs hp23 hP hD hS => ?_)
    have hP : va_P D vwCl [(q, .inr (8, [.ref (ma 0), .ref (ma 1), .int (nI sN), .ref (ma 2), .int (nI L), .int (nI 0), .ref (ma 3), .ref (ma 4), .ref (ma 5), .ref (ma 6), .int nd, .int ct, .int ht, .ref (ma 7), .ref (ma 8), .ref (ma 9), .ref (ma 10), .ref (ma 11), .ref (ma 12), .ref (ma 13), .ref (ma 14), .int sp, .int iw, .int mn])), (ma 0, .inl (G.1, 457, .inl sr))] H := hP
    have hD : va_D A [(q, .inr (8, [.ref (ma 0), .ref (ma 1), .int (nI sN), .ref (ma 2), .int (nI L), .int (nI 0), .ref (ma 3), .ref (ma 4), .ref (ma 5), .ref (ma 6), .int nd, .int ct, .int ht, .ref (ma 7), .ref (ma 8), .ref (ma 9), .ref (ma 10), .ref (ma 11), .ref (ma 12), .ref (ma 13), .ref (ma 14), .int sp, .int iw, .int mn])), (ma 0, .inl (G.1, 457, .inl sr))] := hD
    refine ro_top (z := bI (0 < 0)) hx hp23 ?_
    refine lv_if_eq (tgt := 31) hx hb dX8_pile_26 (by decide) (fun _ => ?_) (fun h => absurd (by decide) h)
    refine lv_aload_n hx hb dX8_pile_31 rfl (lv_at hl 0 rfl) ?_
    refine va_get (D := D) (ci := 8) (v := .ref (ma 0)) (C := RX8) (T := TX8) (N := 24) hx hb hts inlX8 hown hK hP 0 rfl rfl 0 (by decide) (hts _ kw_5_6) (fun _ h9 => h9) rfl dX8_pile_32 ?_
    refine lv_iconst (v := 1) hx hb dX8_pile_35 (by decide) ?_
    refine lv_aload_n hx hb dX8_pile_36 rfl (lv_at hl 0 rfl) ?_
    refine va_get (D := D) (ci := 8) (v := .ref (ma 0)) (C := RX8) (T := TX8) (N := 24) hx hb hts inlX8 hown hK hP 0 rfl rfl 0 (by decide) (hts _ kw_5_6) (fun _ h9 => h9) rfl dX8_pile_37 ?_
    refine lv_bipush (v := 13) hx hb dX8_pile_40 (by decide) ?_
    refine ro_iald (k := 13) (v := nI (x 13)) hx hb hK hP 1 0 rfl rfl rfl (by decide) (by decide) hR.n13 dX8_pile_42 ?_
    refine ro_iadd (z := nI (1 + x 13)) hx hb (nI_add 1 (x 13)) dX8_pile_43 ?_
    refine lv_iload_n hx hb dX8_pile_44 rfl (lv_at hl 1 rfl) ?_
    refine ro_iadd (z := nI (1 + x 13 + k)) hx hb (nI_add (1 + x 13) k) dX8_pile_45 ?_
    refine ro_iald (k := 1 + x 13 + k) (v := p (x 13 + k)) hx hb hK hP 1 0 rfl rfl rfl (by omega) (by decide) ((congrArg sr (by omega)).trans (hR.pp (x 13 + k) (by omega))) dX8_pile_46 ?_
    exact endI C rfl () rfl hS hP dX8_pile_47
set_option maxHeartbeats 800000 in
set_option maxRecDepth 100000 in
theorem mX8_pile_T1 (l : Launch) (D : va_G) (G : u_G) (q : Nat) (ma : Nat → Nat) (sN L : Nat) (th nd ct ht sp iw mn : Int32) (sr p : Nat → Int32) (x : Nat → Nat) (y : Nat → Int32) (M : Nat) (v : Int32) (hR : RowR sr x y M p) (hM : M ≤ 12) (hfn : x 13 + x 14 ≤ M) (hbad : ¬ (¬ v < 0 ∧ ¬ nI (x 14) - 1 < v)) : MtI l D G yX8_pile cX8_pile 2 .int 3 0 0 [.ref q, .int v] [(q, .inr (8, [.ref (ma 0), .ref (ma 1), .int (nI sN), .ref (ma 2), .int (nI L), .int th, .ref (ma 3), .ref (ma 4), .ref (ma 5), .ref (ma 6), .int nd, .int ct, .int ht, .ref (ma 7), .ref (ma 8), .ref (ma 9), .ref (ma 10), .ref (ma 11), .ref (ma 12), .ref (ma 13), .ref (ma 14), .int sp, .int iw, .int mn])), (ma 0, .inl (G.1, 457, .inl sr))] (fun (r : Int32) (_ : Unit) => r = 0) (fun (_ : Unit) => [(q, .inr (8, [.ref (ma 0), .ref (ma 1), .int (nI sN), .ref (ma 2), .int (nI L), .int (nI 1), .ref (ma 3), .ref (ma 4), .ref (ma 5), .ref (ma 6), .int nd, .int ct, .int ht, .ref (ma 7), .ref (ma 8), .ref (ma 9), .ref (ma 10), .ref (ma 11), .ref (ma 12), .ref (ma 13), .ref (ma 14), .int sp, .int iw, .int mn])), (ma 0, .inl (G.1, 457, .inl sr))]) := by
  refine MtI.of (by decide) (Nat.le_of_ble_eq_true rfl) ?_
  intro pr e s9 m9 below meth c9 A ls C hP hD hl
  obtain ⟨hx, hb, hml, hown, hts, hr, hlocks, hA, hAm⟩ := id C
  have hK := hAm.1
  have hS : va_S A s9.heap s9.heap [] := va_S.rf
  have hl : lv_has ls 2 [(0, .ref q), (1, .int v)] := hl
  refine lv_aload_n hx hb dX8_pile_0 rfl (lv_at hl 0 rfl) ?_
  refine lv_iload_n hx hb dX8_pile_1 rfl (lv_at hl 1 rfl) ?_
  refine lv_iconst (v := 0) hx hb dX8_pile_2 (by decide) ?_
  refine lv_aload_n hx hb dX8_pile_3 rfl (lv_at hl 0 rfl) ?_
  refine va_get (D := D) (ci := 8) (v := .ref (ma 0)) (C := RX8) (T := TX8) (N := 24) hx hb hts inlX8 hown hK hP 0 rfl rfl 0 (by decide) (hts _ kw_5_6) (fun _ h9 => h9) rfl dX8_pile_4 ?_
  refine lv_bipush (v := 14) hx hb dX8_pile_7 (by decide) ?_
  refine ro_iald (k := 14) (v := nI (x 14)) hx hb hK hP 1 0 rfl rfl rfl (by decide) (by decide) hR.n14 dX8_pile_9 ?_
  refine lv_iconst (v := 1) hx hb dX8_pile_10 (by decide) ?_
  refine lv_isub hx hb dX8_pile_11 ?_
  refine aftI0 C (runS_G (As := [.int v, .int 0, .int ((nI (x 14)) - 1)]) (rest := [.ref q]) C (mX8_in l D G v 0 ((nI (x 14)) - 1) ) hS hP hD [] rfl (by decide) (ys_X8_in) kw_10_21 kw_10_22 ⟨Nat.le_of_ble_eq_true rfl, Nat.le_of_ble_eq_true rfl⟩ hl.1 (Nat.le_of_ble_eq_true rfl) dX8_pile_12 rfl rfl ⟨Nat.zero_le _, Nat.zero_le _⟩) hS hP hD [] rfl (fun r12 _ H locs hp12 hP hS => ?_)
  refine ro_top (z := bI (¬ v < 0 ∧ ¬ ((nI (x 14)) - 1) < v)) hx hp12 ?_
  refine lv_if_eq (tgt := 22) hx hb dX8_pile_15 (by decide) (fun c_15 => ?_) (fun c_15 => ?_)
  · have c_15 := bI_0 c_15
    refine lv_iconst (v := 1) hx hb dX8_pile_22 (by decide) ?_
    refine aftI C (runV_G (As := [.int 1]) (rest := []) (ci := 8) (N := 24) (T := TX8) (q0 := 0) C (mX8_refused l D G q ma sN L th nd ct ht sp iw mn 1 (by omega)) hS hP hD [0] rfl (by decide) rfl rfl (ys_X8_refused) kw_11_0 kw_11_1 kw_11_2 ⟨Nat.le_of_ble_eq_true rfl, Nat.le_of_ble_eq_true rfl⟩ hl.1 (Nat.le_of_ble_eq_true rfl) dX8_pile_23 rfl rfl ⟨Nat.zero_le _, Nat.zero_le _⟩) hS hP hD [0] rfl (fun _ => rfl) (fun r23 _ H locs hp23 hP hD hS => ?_)
    have hP : va_P D vwCl [(q, .inr (8, [.ref (ma 0), .ref (ma 1), .int (nI sN), .ref (ma 2), .int (nI L), .int (nI 1), .ref (ma 3), .ref (ma 4), .ref (ma 5), .ref (ma 6), .int nd, .int ct, .int ht, .ref (ma 7), .ref (ma 8), .ref (ma 9), .ref (ma 10), .ref (ma 11), .ref (ma 12), .ref (ma 13), .ref (ma 14), .int sp, .int iw, .int mn])), (ma 0, .inl (G.1, 457, .inl sr))] H := hP
    have hD : va_D A [(q, .inr (8, [.ref (ma 0), .ref (ma 1), .int (nI sN), .ref (ma 2), .int (nI L), .int (nI 1), .ref (ma 3), .ref (ma 4), .ref (ma 5), .ref (ma 6), .int nd, .int ct, .int ht, .ref (ma 7), .ref (ma 8), .ref (ma 9), .ref (ma 10), .ref (ma 11), .ref (ma 12), .ref (ma 13), .ref (ma 14), .int sp, .int iw, .int mn])), (ma 0, .inl (G.1, 457, .inl sr))] := hD
    refine ro_top (z := bI (0 < 1)) hx hp23 ?_
    refine lv_if_eq (tgt := 31) hx hb dX8_pile_26 (by decide) (fun h => absurd h (by decide)) (fun _ => ?_)
    refine lv_iconst (v := 0) hx hb dX8_pile_29 (by decide) ?_
    exact endI C rfl () rfl hS hP dX8_pile_30
  · have c_15 := bI_1 c_15
    exact absurd c_15 hbad
set_option maxHeartbeats 800000 in
set_option maxRecDepth 100000 in
theorem mX8_coins (l : Launch) (D : va_G) (G : u_G) (q : Nat) (ma : Nat → Nat) (sN L : Nat) (th nd ct ht sp iw mn : Int32) (sr p : Nat → Int32) (x : Nat → Nat) (y : Nat → Int32) (M : Nat) (k : Nat) (hR : RowR sr x y M p) (hM : M ≤ 12) (hk : k ≤ 1) : MtI l D G yX8_coins cX8_coins 2 .int 3 0 0 [.ref q, .int (nI k)] [(q, .inr (8, [.ref (ma 0), .ref (ma 1), .int (nI sN), .ref (ma 2), .int (nI L), .int th, .ref (ma 3), .ref (ma 4), .ref (ma 5), .ref (ma 6), .int nd, .int ct, .int ht, .ref (ma 7), .ref (ma 8), .ref (ma 9), .ref (ma 10), .ref (ma 11), .ref (ma 12), .ref (ma 13), .ref (ma 14), .int sp, .int iw, .int mn])), (ma 0, .inl (G.1, 457, .inl sr))] (fun (r : Int32) (_ : Unit) => r = y (16 + k)) (fun (_ : Unit) => [(q, .inr (8, [.ref (ma 0), .ref (ma 1), .int (nI sN), .ref (ma 2), .int (nI L), .int (nI 0), .ref (ma 3), .ref (ma 4), .ref (ma 5), .ref (ma 6), .int nd, .int ct, .int ht, .ref (ma 7), .ref (ma 8), .ref (ma 9), .ref (ma 10), .ref (ma 11), .ref (ma 12), .ref (ma 13), .ref (ma 14), .int sp, .int iw, .int mn])), (ma 0, .inl (G.1, 457, .inl sr))]) := by
  refine MtI.of (by decide) (Nat.le_of_ble_eq_true rfl) ?_
  intro pr e s9 m9 below meth c9 A ls C hP hD hl
  obtain ⟨hx, hb, hml, hown, hts, hr, hlocks, hA, hAm⟩ := id C
  have hK := hAm.1
  have hS : va_S A s9.heap s9.heap [] := va_S.rf
  have hl : lv_has ls 2 [(0, .ref q), (1, .int (nI k))] := hl
  refine lv_aload_n hx hb dX8_coins_0 rfl (lv_at hl 0 rfl) ?_
  refine lv_iload_n hx hb dX8_coins_1 rfl (lv_at hl 1 rfl) ?_
  refine lv_iconst (v := 0) hx hb dX8_coins_2 (by decide) ?_
  refine lv_iconst (v := 1) hx hb dX8_coins_3 (by decide) ?_
  refine aftI0 C (runS_G (As := [.int (nI k), .int 0, .int 1]) (rest := [.ref q]) C (mX8_in l D G (nI k) 0 1 ) hS hP hD [] rfl (by decide) (ys_X8_in) kw_10_21 kw_10_22 ⟨Nat.le_of_ble_eq_true rfl, Nat.le_of_ble_eq_true rfl⟩ hl.1 (Nat.le_of_ble_eq_true rfl) dX8_coins_4 rfl rfl ⟨Nat.zero_le _, Nat.zero_le _⟩) hS hP hD [] rfl (fun r4 _ H locs hp4 hP hS => ?_)
  refine ro_top (z := bI (¬ (nI k) < 0 ∧ ¬ 1 < (nI k))) hx hp4 ?_
  refine lv_if_eq (tgt := 14) hx hb dX8_coins_7 (by decide) (fun c_7 => ?_) (fun c_7 => ?_)
  · have c_7 := bI_0 c_7
    exact absurd (nin (Nat.zero_le k) (show k ≤ 1 by omega) (by omega)) c_7
  · have c_7 := bI_1 c_7
    refine lv_iconst (v := 0) hx hb dX8_coins_10 (by decide) ?_
    refine lv_goto (tgt := 15) hx hb dX8_coins_11 (by decide) ?_
    refine aftI C (runV_G (As := [.int 0]) (rest := []) (ci := 8) (N := 24) (T := TX8) (q0 := 0) C (mX8_refused l D G q ma sN L th nd ct ht sp iw mn 0 (by omega)) hS hP hD [0] rfl (by decide) rfl rfl (ys_X8_refused) kw_11_0 kw_11_1 kw_11_2 ⟨Nat.le_of_ble_eq_true rfl, Nat.le_of_ble_eq_true rfl⟩ hl.1 (Nat.le_of_ble_eq_true rfl) dX8_coins_15 rfl rfl ⟨Nat.zero_le _, Nat.zero_le _⟩) hS hP hD [0] rfl (fun _ => rfl) (fun r15 _ H locs hp15 hP hD hS => ?_)
    have hP : va_P D vwCl [(q, .inr (8, [.ref (ma 0), .ref (ma 1), .int (nI sN), .ref (ma 2), .int (nI L), .int (nI 0), .ref (ma 3), .ref (ma 4), .ref (ma 5), .ref (ma 6), .int nd, .int ct, .int ht, .ref (ma 7), .ref (ma 8), .ref (ma 9), .ref (ma 10), .ref (ma 11), .ref (ma 12), .ref (ma 13), .ref (ma 14), .int sp, .int iw, .int mn])), (ma 0, .inl (G.1, 457, .inl sr))] H := hP
    have hD : va_D A [(q, .inr (8, [.ref (ma 0), .ref (ma 1), .int (nI sN), .ref (ma 2), .int (nI L), .int (nI 0), .ref (ma 3), .ref (ma 4), .ref (ma 5), .ref (ma 6), .int nd, .int ct, .int ht, .ref (ma 7), .ref (ma 8), .ref (ma 9), .ref (ma 10), .ref (ma 11), .ref (ma 12), .ref (ma 13), .ref (ma 14), .int sp, .int iw, .int mn])), (ma 0, .inl (G.1, 457, .inl sr))] := hD
    refine ro_top (z := bI (0 < 0)) hx hp15 ?_
    refine lv_if_eq (tgt := 23) hx hb dX8_coins_18 (by decide) (fun _ => ?_) (fun h => absurd (by decide) h)
    refine lv_aload_n hx hb dX8_coins_23 rfl (lv_at hl 0 rfl) ?_
    refine va_get (D := D) (ci := 8) (v := .ref (ma 0)) (C := RX8) (T := TX8) (N := 24) hx hb hts inlX8 hown hK hP 0 rfl rfl 0 (by decide) (hts _ kw_5_6) (fun _ h9 => h9) rfl dX8_coins_24 ?_
    refine lv_bipush (v := 16) hx hb dX8_coins_27 (by decide) ?_
    refine lv_iload_n hx hb dX8_coins_29 rfl (lv_at hl 1 rfl) ?_
    refine ro_iadd (z := nI (16 + k)) hx hb (nI_add 16 k) dX8_coins_30 ?_
    refine ro_iald (k := 16 + k) (v := y (16 + k)) hx hb hK hP 1 0 rfl rfl rfl (by omega) (by decide) (by rcases (show k = 0 ∨ k = 1 by omega) with rfl | rfl; exact hR.n16; exact hR.n17) dX8_coins_31 ?_
    exact endI C rfl () rfl hS hP dX8_coins_32
set_option maxHeartbeats 800000 in
set_option maxRecDepth 100000 in
theorem mX8_coins_T1 (l : Launch) (D : va_G) (G : u_G) (q : Nat) (ma : Nat → Nat) (sN L : Nat) (th nd ct ht sp iw mn : Int32) (sr p : Nat → Int32) (x : Nat → Nat) (y : Nat → Int32) (M : Nat) (v : Int32) (hR : RowR sr x y M p) (hM : M ≤ 12) (hbad : ¬ (¬ v < 0 ∧ ¬ 1 < v)) : MtI l D G yX8_coins cX8_coins 2 .int 3 0 0 [.ref q, .int v] [(q, .inr (8, [.ref (ma 0), .ref (ma 1), .int (nI sN), .ref (ma 2), .int (nI L), .int th, .ref (ma 3), .ref (ma 4), .ref (ma 5), .ref (ma 6), .int nd, .int ct, .int ht, .ref (ma 7), .ref (ma 8), .ref (ma 9), .ref (ma 10), .ref (ma 11), .ref (ma 12), .ref (ma 13), .ref (ma 14), .int sp, .int iw, .int mn])), (ma 0, .inl (G.1, 457, .inl sr))] (fun (r : Int32) (_ : Unit) => r = 0) (fun (_ : Unit) => [(q, .inr (8, [.ref (ma 0), .ref (ma 1), .int (nI sN), .ref (ma 2), .int (nI L), .int (nI 1), .ref (ma 3), .ref (ma 4), .ref (ma 5), .ref (ma 6), .int nd, .int ct, .int ht, .ref (ma 7), .ref (ma 8), .ref (ma 9), .ref (ma 10), .ref (ma 11), .ref (ma 12), .ref (ma 13), .ref (ma 14), .int sp, .int iw, .int mn])), (ma 0, .inl (G.1, 457, .inl sr))]) := by
  refine MtI.of (by decide) (Nat.le_of_ble_eq_true rfl) ?_
  intro pr e s9 m9 below meth c9 A ls C hP hD hl
  obtain ⟨hx, hb, hml, hown, hts, hr, hlocks, hA, hAm⟩ := id C
  have hK := hAm.1
  have hS : va_S A s9.heap s9.heap [] := va_S.rf
  have hl : lv_has ls 2 [(0, .ref q), (1, .int v)] := hl
  refine lv_aload_n hx hb dX8_coins_0 rfl (lv_at hl 0 rfl) ?_
  refine lv_iload_n hx hb dX8_coins_1 rfl (lv_at hl 1 rfl) ?_
  refine lv_iconst (v := 0) hx hb dX8_coins_2 (by decide) ?_
  refine lv_iconst (v := 1) hx hb dX8_coins_3 (by decide) ?_
  refine aftI0 C (runS_G (As := [.int v, .int 0, .int 1]) (rest := [.ref q]) C (mX8_in l D G v 0 1 ) hS hP hD [] rfl (by decide) (ys_X8_in) kw_10_21 kw_10_22 ⟨Nat.le_of_ble_eq_true rfl, Nat.le_of_ble_eq_true rfl⟩ hl.1 (Nat.le_of_ble_eq_true rfl) dX8_coins_4 rfl rfl ⟨Nat.zero_le _, Nat.zero_le _⟩) hS hP hD [] rfl (fun r4 _ H locs hp4 hP hS => ?_)
  refine ro_top (z := bI (¬ v < 0 ∧ ¬ 1 < v)) hx hp4 ?_
  refine lv_if_eq (tgt := 14) hx hb dX8_coins_7 (by decide) (fun c_7 => ?_) (fun c_7 => ?_)
  · have c_7 := bI_0 c_7
    refine lv_iconst (v := 1) hx hb dX8_coins_14 (by decide) ?_
    refine aftI C (runV_G (As := [.int 1]) (rest := []) (ci := 8) (N := 24) (T := TX8) (q0 := 0) C (mX8_refused l D G q ma sN L th nd ct ht sp iw mn 1 (by omega)) hS hP hD [0] rfl (by decide) rfl rfl (ys_X8_refused) kw_11_0 kw_11_1 kw_11_2 ⟨Nat.le_of_ble_eq_true rfl, Nat.le_of_ble_eq_true rfl⟩ hl.1 (Nat.le_of_ble_eq_true rfl) dX8_coins_15 rfl rfl ⟨Nat.zero_le _, Nat.zero_le _⟩) hS hP hD [0] rfl (fun _ => rfl) (fun r15 _ H locs hp15 hP hD hS => ?_)
    have hP : va_P D vwCl [(q, .inr (8, [.ref (ma 0), .ref (ma 1), .int (nI sN), .ref (ma 2), .int (nI L), .int (nI 1), .ref (ma 3), .ref (ma 4), .ref (ma 5), .ref (ma 6), .int nd, .int ct, .int ht, .ref (ma 7), .ref (ma 8), .ref (ma 9), .ref (ma 10), .ref (ma 11), .ref (ma 12), .ref (ma 13), .ref (ma 14), .int sp, .int iw, .int mn])), (ma 0, .inl (G.1, 457, .inl sr))] H := hP
    have hD : va_D A [(q, .inr (8, [.ref (ma 0), .ref (ma 1), .int (nI sN), .ref (ma 2), .int (nI L), .int (nI 1), .ref (ma 3), .ref (ma 4), .ref (ma 5), .ref (ma 6), .int nd, .int ct, .int ht, .ref (ma 7), .ref (ma 8), .ref (ma 9), .ref (ma 10), .ref (ma 11), .ref (ma 12), .ref (ma 13), .ref (ma 14), .int sp, .int iw, .int mn])), (ma 0, .inl (G.1, 457, .inl sr))] := hD
    refine ro_top (z := bI (0 < 1)) hx hp15 ?_
    refine lv_if_eq (tgt := 23) hx hb dX8_coins_18 (by decide) (fun h => absurd h (by decide)) (fun _ => ?_)
    refine lv_iconst (v := 0) hx hb dX8_coins_21 (by decide) ?_
    exact endI C rfl () rfl hS hP dX8_coins_22
  · have c_7 := bI_1 c_7
    exact absurd c_7 hbad
set_option maxHeartbeats 800000 in
set_option maxRecDepth 100000 in
theorem mX8_value (l : Launch) (D : va_G) (G : u_G) (q : Nat) (ma : Nat → Nat) (sN L : Nat) (th nd ct ht sp iw mn : Int32) (sr p : Nat → Int32) (x : Nat → Nat) (y : Nat → Int32) (M : Nat) (fl : Nat → Int32)  (hR : RowR sr x y M p) (hM : M ≤ 12) (hfn : x 13 + x 14 ≤ M) (hPR : PR p) : MtI l D G yX8_value cX8_value 1 .int 7 0 0 [.ref q] [(q, .inr (8, [.ref (ma 0), .ref (ma 1), .int (nI sN), .ref (ma 2), .int (nI L), .int th, .ref (ma 3), .ref (ma 4), .ref (ma 5), .ref (ma 6), .int nd, .int ct, .int ht, .ref (ma 7), .ref (ma 8), .ref (ma 9), .ref (ma 10), .ref (ma 11), .ref (ma 12), .ref (ma 13), .ref (ma 14), .int sp, .int iw, .int mn])), (ma 0, .inl (G.1, 457, .inl sr)), (ma 3, .inl (G.1, 169, .inl fl))] (fun (r : Int32) (u : Nat → Int32) => r = V p (x 14) (x 13)) (fun (u : Nat → Int32) => [(q, .inr (8, [.ref (ma 0), .ref (ma 1), .int (nI sN), .ref (ma 2), .int (nI L), .int (nI 0), .ref (ma 3), .ref (ma 4), .ref (ma 5), .ref (ma 6), .int nd, .int ct, .int ht, .ref (ma 7), .ref (ma 8), .ref (ma 9), .ref (ma 10), .ref (ma 11), .ref (ma 12), .ref (ma 13), .ref (ma 14), .int sp, .int iw, .int mn])), (ma 0, .inl (G.1, 457, .inl sr)), (ma 3, .inl (G.1, 169, .inl u))]) := by
  refine MtI.of (by decide) (Nat.le_of_ble_eq_true rfl) ?_
  intro pr e s9 m9 below meth c9 A ls C hP hD hl
  obtain ⟨hx, hb, hml, hown, hts, hr, hlocks, hA, hAm⟩ := id C
  have hK := hAm.1
  have hS : va_S A s9.heap s9.heap [] := va_S.rf
  have hl : lv_has ls 1 [(0, .ref q)] := hl
  refine lv_aload_n hx hb dX8_value_0 rfl (lv_at hl 0 rfl) ?_
  refine lv_iconst (v := 0) hx hb dX8_value_1 (by decide) ?_
  refine va_put (D := D) (ci := 8) (v := .int 0) (ty := .int) (C := RX8) (T := TX8) (N := 24) hx hb hts inlX8 tyX8 tyX8_ok nmX8 hown hK hP hD hS 0 rfl rfl 5 (by decide) (hts _ kw_11_4) (fun _ h9 => h9) rfl (by decide +kernel) rfl rfl (Nat.le_of_ble_eq_true rfl) dX8_value_2 (fun H locs hP hD hS => ?_)
  have hP : va_P D vwCl [(q, .inr (8, [.ref (ma 0), .ref (ma 1), .int (nI sN), .ref (ma 2), .int (nI L), .int 0, .ref (ma 3), .ref (ma 4), .ref (ma 5), .ref (ma 6), .int nd, .int ct, .int ht, .ref (ma 7), .ref (ma 8), .ref (ma 9), .ref (ma 10), .ref (ma 11), .ref (ma 12), .ref (ma 13), .ref (ma 14), .int sp, .int iw, .int mn])), (ma 0, .inl (G.1, 457, .inl sr)), (ma 3, .inl (G.1, 169, .inl fl))] H := hP
  have hD : va_D A [(q, .inr (8, [.ref (ma 0), .ref (ma 1), .int (nI sN), .ref (ma 2), .int (nI L), .int 0, .ref (ma 3), .ref (ma 4), .ref (ma 5), .ref (ma 6), .int nd, .int ct, .int ht, .ref (ma 7), .ref (ma 8), .ref (ma 9), .ref (ma 10), .ref (ma 11), .ref (ma 12), .ref (ma 13), .ref (ma 14), .int sp, .int iw, .int mn])), (ma 0, .inl (G.1, 457, .inl sr)), (ma 3, .inl (G.1, 169, .inl fl))] := hD
  refine lv_aload_n hx hb dX8_value_5 rfl (lv_at hl 0 rfl) ?_
  refine aftV C (runV_G (As := []) (rest := []) (ci := 8) (N := 24) (T := TX8) (q0 := 0) C (mX8_fills l D G q ma sN L 0 nd ct ht sp iw mn sr p M fl hR.n0 hM hR.pp hPR) hS hP hD [0, 1, 2] rfl (by decide) rfl rfl (ys_X8_fills) kw_13_23 kw_14_0 kw_14_1 ⟨Nat.le_of_ble_eq_true rfl, Nat.le_of_ble_eq_true rfl⟩ hl.1 (Nat.le_of_ble_eq_true rfl) dX8_value_6 rfl rfl ⟨Nat.zero_le _, Nat.zero_le _⟩) hS hP hD [0, 1, 2] rfl (fun _ => rfl) (fun u6 H locs hp6 hP hD hS => ?_)
  have hP : va_P D vwCl [(q, .inr (8, [.ref (ma 0), .ref (ma 1), .int (nI sN), .ref (ma 2), .int (nI L), .int 0, .ref (ma 3), .ref (ma 4), .ref (ma 5), .ref (ma 6), .int nd, .int ct, .int ht, .ref (ma 7), .ref (ma 8), .ref (ma 9), .ref (ma 10), .ref (ma 11), .ref (ma 12), .ref (ma 13), .ref (ma 14), .int sp, .int iw, .int mn])), (ma 0, .inl (G.1, 457, .inl sr)), (ma 3, .inl (G.1, 169, .inl u6))] H := hP
  have hD : va_D A [(q, .inr (8, [.ref (ma 0), .ref (ma 1), .int (nI sN), .ref (ma 2), .int (nI L), .int 0, .ref (ma 3), .ref (ma 4), .ref (ma 5), .ref (ma 6), .int nd, .int ct, .int ht, .ref (ma 7), .ref (ma 8), .ref (ma 9), .ref (ma 10), .ref (ma 11), .ref (ma 12), .ref (ma 13), .ref (ma 14), .int sp, .int iw, .int mn])), (ma 0, .inl (G.1, 457, .inl sr)), (ma 3, .inl (G.1, 169, .inl u6))] := hD
  refine lv_aload_n hx hb dX8_value_9 rfl (lv_at hl 0 rfl) ?_
  refine va_get (D := D) (ci := 8) (v := .ref (ma 3)) (C := RX8) (T := TX8) (N := 24) hx hb hts inlX8 hown hK hP 0 rfl rfl 6 (by decide) (hts _ kw_5_9) (fun _ h9 => h9) rfl dX8_value_10 ?_
  refine lv_aload_n hx hb dX8_value_13 rfl (lv_at hl 0 rfl) ?_
  refine va_get (D := D) (ci := 8) (v := .ref (ma 0)) (C := RX8) (T := TX8) (N := 24) hx hb hts inlX8 hown hK hP 0 rfl rfl 0 (by decide) (hts _ kw_5_6) (fun _ h9 => h9) rfl dX8_value_14 ?_
  refine lv_bipush (v := 13) hx hb dX8_value_17 (by decide) ?_
  refine ro_iald (k := 13) (v := nI (x 13)) hx hb hK hP 1 0 rfl rfl rfl (by decide) (by decide) hR.n13 dX8_value_19 ?_
  refine lv_aload_n hx hb dX8_value_20 rfl (lv_at hl 0 rfl) ?_
  refine va_get (D := D) (ci := 8) (v := .ref (ma 0)) (C := RX8) (T := TX8) (N := 24) hx hb hts inlX8 hown hK hP 0 rfl rfl 0 (by decide) (hts _ kw_5_6) (fun _ h9 => h9) rfl dX8_value_21 ?_
  refine lv_bipush (v := 14) hx hb dX8_value_24 (by decide) ?_
  refine ro_iald (k := 14) (v := nI (x 14)) hx hb hK hP 1 0 rfl rfl rfl (by decide) (by decide) hR.n14 dX8_value_26 ?_
  refine aftI0 C (runS_G (As := [.int (nI (x 13)), .int (nI (x 14))]) (rest := [.ref (ma 3)]) C (mX8_place l D G (x 13) (x 14) ) hS hP hD [] rfl (by decide) (ys_X8_place) kw_14_3 kw_14_4 ⟨Nat.le_of_ble_eq_true rfl, Nat.le_of_ble_eq_true rfl⟩ hl.1 (Nat.le_of_ble_eq_true rfl) dX8_value_27 rfl rfl ⟨Nat.zero_le _, Nat.zero_le _⟩) hS hP hD [] rfl (fun r27 _ H locs hp27 hP hS => ?_)
  refine ro_top (z := nI (13 * (x 13) + (x 14))) hx hp27 ?_
  refine ro_iald (k := 13 * (x 13) + (x 14)) (v := V p (x 14) (x 13)) hx hb hK hP 2 0 rfl rfl rfl (by omega) (by decide) (hp6 (x 14) (x 13) hfn) dX8_value_30 ?_
  exact endI C rfl u6 rfl hS hP dX8_value_31
set_option maxHeartbeats 800000 in
set_option maxRecDepth 100000 in
theorem mX8_bestMove (l : Launch) (D : va_G) (G : u_G) (q : Nat) (ma : Nat → Nat) (sN L : Nat) (th nd ct ht sp iw mn : Int32) (sr p : Nat → Int32) (x : Nat → Nat) (y : Nat → Int32) (M : Nat) (fl : Nat → Int32)  (hR : RowR sr x y M p) (hM : M ≤ 12) (hfn : x 13 + x 14 ≤ M) (hPR : PR p) : MtI l D G yX8_bestMove cX8_bestMove 1 .int 7 0 0 [.ref q] [(q, .inr (8, [.ref (ma 0), .ref (ma 1), .int (nI sN), .ref (ma 2), .int (nI L), .int th, .ref (ma 3), .ref (ma 4), .ref (ma 5), .ref (ma 6), .int nd, .int ct, .int ht, .ref (ma 7), .ref (ma 8), .ref (ma 9), .ref (ma 10), .ref (ma 11), .ref (ma 12), .ref (ma 13), .ref (ma 14), .int sp, .int iw, .int mn])), (ma 0, .inl (G.1, 457, .inl sr)), (ma 3, .inl (G.1, 169, .inl fl))] (fun (r : Int32) (u : Nat → Int32) => r = (bm (rV p (V p) (x 13) (x 14)) 4).1) (fun (u : Nat → Int32) => [(q, .inr (8, [.ref (ma 0), .ref (ma 1), .int (nI sN), .ref (ma 2), .int (nI L), .int (nI 0), .ref (ma 3), .ref (ma 4), .ref (ma 5), .ref (ma 6), .int nd, .int ct, .int ht, .ref (ma 7), .ref (ma 8), .ref (ma 9), .ref (ma 10), .ref (ma 11), .ref (ma 12), .ref (ma 13), .ref (ma 14), .int sp, .int iw, .int mn])), (ma 0, .inl (G.1, 457, .inl sr)), (ma 3, .inl (G.1, 169, .inl u))]) := by
  refine MtI.of (by decide) (Nat.le_of_ble_eq_true rfl) ?_
  intro pr e s9 m9 below meth c9 A ls C hP hD hl
  obtain ⟨hx, hb, hml, hown, hts, hr, hlocks, hA, hAm⟩ := id C
  have hK := hAm.1
  have hS : va_S A s9.heap s9.heap [] := va_S.rf
  have hl : lv_has ls 1 [(0, .ref q)] := hl
  refine lv_aload_n hx hb dX8_bestMove_0 rfl (lv_at hl 0 rfl) ?_
  refine lv_iconst (v := 0) hx hb dX8_bestMove_1 (by decide) ?_
  refine va_put (D := D) (ci := 8) (v := .int 0) (ty := .int) (C := RX8) (T := TX8) (N := 24) hx hb hts inlX8 tyX8 tyX8_ok nmX8 hown hK hP hD hS 0 rfl rfl 5 (by decide) (hts _ kw_11_4) (fun _ h9 => h9) rfl (by decide +kernel) rfl rfl (Nat.le_of_ble_eq_true rfl) dX8_bestMove_2 (fun H locs hP hD hS => ?_)
  have hP : va_P D vwCl [(q, .inr (8, [.ref (ma 0), .ref (ma 1), .int (nI sN), .ref (ma 2), .int (nI L), .int 0, .ref (ma 3), .ref (ma 4), .ref (ma 5), .ref (ma 6), .int nd, .int ct, .int ht, .ref (ma 7), .ref (ma 8), .ref (ma 9), .ref (ma 10), .ref (ma 11), .ref (ma 12), .ref (ma 13), .ref (ma 14), .int sp, .int iw, .int mn])), (ma 0, .inl (G.1, 457, .inl sr)), (ma 3, .inl (G.1, 169, .inl fl))] H := hP
  have hD : va_D A [(q, .inr (8, [.ref (ma 0), .ref (ma 1), .int (nI sN), .ref (ma 2), .int (nI L), .int 0, .ref (ma 3), .ref (ma 4), .ref (ma 5), .ref (ma 6), .int nd, .int ct, .int ht, .ref (ma 7), .ref (ma 8), .ref (ma 9), .ref (ma 10), .ref (ma 11), .ref (ma 12), .ref (ma 13), .ref (ma 14), .int sp, .int iw, .int mn])), (ma 0, .inl (G.1, 457, .inl sr)), (ma 3, .inl (G.1, 169, .inl fl))] := hD
  refine lv_aload_n hx hb dX8_bestMove_5 rfl (lv_at hl 0 rfl) ?_
  refine aftV C (runV_G (As := []) (rest := []) (ci := 8) (N := 24) (T := TX8) (q0 := 0) C (mX8_fills l D G q ma sN L 0 nd ct ht sp iw mn sr p M fl hR.n0 hM hR.pp hPR) hS hP hD [0, 1, 2] rfl (by decide) rfl rfl (ys_X8_fills) kw_13_23 kw_14_0 kw_14_1 ⟨Nat.le_of_ble_eq_true rfl, Nat.le_of_ble_eq_true rfl⟩ hl.1 (Nat.le_of_ble_eq_true rfl) dX8_bestMove_6 rfl rfl ⟨Nat.zero_le _, Nat.zero_le _⟩) hS hP hD [0, 1, 2] rfl (fun _ => rfl) (fun u6 H locs hp6 hP hD hS => ?_)
  have hP : va_P D vwCl [(q, .inr (8, [.ref (ma 0), .ref (ma 1), .int (nI sN), .ref (ma 2), .int (nI L), .int 0, .ref (ma 3), .ref (ma 4), .ref (ma 5), .ref (ma 6), .int nd, .int ct, .int ht, .ref (ma 7), .ref (ma 8), .ref (ma 9), .ref (ma 10), .ref (ma 11), .ref (ma 12), .ref (ma 13), .ref (ma 14), .int sp, .int iw, .int mn])), (ma 0, .inl (G.1, 457, .inl sr)), (ma 3, .inl (G.1, 169, .inl u6))] H := hP
  have hD : va_D A [(q, .inr (8, [.ref (ma 0), .ref (ma 1), .int (nI sN), .ref (ma 2), .int (nI L), .int 0, .ref (ma 3), .ref (ma 4), .ref (ma 5), .ref (ma 6), .int nd, .int ct, .int ht, .ref (ma 7), .ref (ma 8), .ref (ma 9), .ref (ma 10), .ref (ma 11), .ref (ma 12), .ref (ma 13), .ref (ma 14), .int sp, .int iw, .int mn])), (ma 0, .inl (G.1, 457, .inl sr)), (ma 3, .inl (G.1, 169, .inl u6))] := hD
  refine lv_aload_n hx hb dX8_bestMove_9 rfl (lv_at hl 0 rfl) ?_
  refine lv_aload_n hx hb dX8_bestMove_10 rfl (lv_at hl 0 rfl) ?_
  refine va_get (D := D) (ci := 8) (v := .ref (ma 0)) (C := RX8) (T := TX8) (N := 24) hx hb hts inlX8 hown hK hP 0 rfl rfl 0 (by decide) (hts _ kw_5_6) (fun _ h9 => h9) rfl dX8_bestMove_11 ?_
  refine lv_bipush (v := 13) hx hb dX8_bestMove_14 (by decide) ?_
  refine ro_iald (k := 13) (v := nI (x 13)) hx hb hK hP 1 0 rfl rfl rfl (by decide) (by decide) hR.n13 dX8_bestMove_16 ?_
  refine lv_aload_n hx hb dX8_bestMove_17 rfl (lv_at hl 0 rfl) ?_
  refine va_get (D := D) (ci := 8) (v := .ref (ma 0)) (C := RX8) (T := TX8) (N := 24) hx hb hts inlX8 hown hK hP 0 rfl rfl 0 (by decide) (hts _ kw_5_6) (fun _ h9 => h9) rfl dX8_bestMove_18 ?_
  refine lv_bipush (v := 14) hx hb dX8_bestMove_21 (by decide) ?_
  refine ro_iald (k := 14) (v := nI (x 14)) hx hb hK hP 1 0 rfl rfl rfl (by decide) (by decide) hR.n14 dX8_bestMove_23 ?_
  refine aftI0 C (runV_G (As := [.int (nI (x 13)), .int (nI (x 14))]) (rest := []) (ci := 8) (N := 24) (T := TX8) (q0 := 0) C (mX8_bestIn l D G q ma sN L 0 nd ct ht sp iw mn sr p M u6 (x 13) (x 14) (by omega) hM hR.pp hPR (fun n' g _ h9 => hp6 n' g h9)) hS hP hD [0, 1, 2] rfl (by decide) rfl rfl (ys_X8_bestIn) kw_14_6 kw_14_7 kw_14_8 ⟨Nat.le_of_ble_eq_true rfl, Nat.le_of_ble_eq_true rfl⟩ hl.1 (Nat.le_of_ble_eq_true rfl) dX8_bestMove_24 rfl rfl ⟨Nat.zero_le _, Nat.zero_le _⟩) hS hP hD [0, 1, 2] rfl (fun r24 _ H locs hp24 hP hS => ?_)
  refine ro_top (z := (bm (rV p (V p) (x 13) (x 14)) 4).1) hx hp24 ?_
  exact endI C rfl u6 rfl hS hP dX8_bestMove_27
set_option maxHeartbeats 800000 in
set_option maxRecDepth 100000 in
theorem mX8_resultOf (l : Launch) (D : va_G) (G : u_G) (q : Nat) (ma : Nat → Nat) (sN L : Nat) (th nd ct ht sp iw mn : Int32) (sr p : Nat → Int32) (x : Nat → Nat) (y : Nat → Int32) (M : Nat) (fl : Nat → Int32) (m : Nat) (hR : RowR sr x y M p) (hM : M ≤ 12) (hfn : x 13 + x 14 ≤ M) (hPR : PR p) (hm : m < 4) : MtI l D G yX8_resultOf cX8_resultOf 2 .int 7 0 0 [.ref q, .int (nI m)] [(q, .inr (8, [.ref (ma 0), .ref (ma 1), .int (nI sN), .ref (ma 2), .int (nI L), .int th, .ref (ma 3), .ref (ma 4), .ref (ma 5), .ref (ma 6), .int nd, .int ct, .int ht, .ref (ma 7), .ref (ma 8), .ref (ma 9), .ref (ma 10), .ref (ma 11), .ref (ma 12), .ref (ma 13), .ref (ma 14), .int sp, .int iw, .int mn])), (ma 0, .inl (G.1, 457, .inl sr)), (ma 3, .inl (G.1, 169, .inl fl))] (fun (r : Int32) (u : Nat → Int32) => r = rV p (V p) (x 13) (x 14) m) (fun (u : Nat → Int32) => [(q, .inr (8, [.ref (ma 0), .ref (ma 1), .int (nI sN), .ref (ma 2), .int (nI L), .int (nI 0), .ref (ma 3), .ref (ma 4), .ref (ma 5), .ref (ma 6), .int nd, .int ct, .int ht, .ref (ma 7), .ref (ma 8), .ref (ma 9), .ref (ma 10), .ref (ma 11), .ref (ma 12), .ref (ma 13), .ref (ma 14), .int sp, .int iw, .int mn])), (ma 0, .inl (G.1, 457, .inl sr)), (ma 3, .inl (G.1, 169, .inl u))]) := by
  refine MtI.of (by decide) (Nat.le_of_ble_eq_true rfl) ?_
  intro pr e s9 m9 below meth c9 A ls C hP hD hl
  obtain ⟨hx, hb, hml, hown, hts, hr, hlocks, hA, hAm⟩ := id C
  have hK := hAm.1
  have hS : va_S A s9.heap s9.heap [] := va_S.rf
  have hl : lv_has ls 2 [(0, .ref q), (1, .int (nI m))] := hl
  have tk9 := tk_le m
  refine lv_aload_n hx hb dX8_resultOf_0 rfl (lv_at hl 0 rfl) ?_
  refine lv_iload_n hx hb dX8_resultOf_1 rfl (lv_at hl 1 rfl) ?_
  refine aftI0 C (runS_G (As := [.int (nI m)]) (rest := [.ref q]) C (mX8_isMove l D G (nI m) ) hS hP hD [] rfl (by decide) (ys_X8_isMove) kw_12_13 kw_12_14 ⟨Nat.le_of_ble_eq_true rfl, Nat.le_of_ble_eq_true rfl⟩ hl.1 (Nat.le_of_ble_eq_true rfl) dX8_resultOf_2 rfl rfl ⟨Nat.zero_le _, Nat.zero_le _⟩) hS hP hD [] rfl (fun r2 _ H locs hp2 hP hS => ?_)
  refine ro_top (z := bI (¬ (nI m) < 0 ∧ ¬ 3 < (nI m))) hx hp2 ?_
  refine lv_if_eq (tgt := 12) hx hb dX8_resultOf_5 (by decide) (fun c_5 => ?_) (fun c_5 => ?_)
  · have c_5 := bI_0 c_5
    exact absurd (nin (Nat.zero_le m) (show m ≤ 3 by omega) (by decide)) c_5
  · have c_5 := bI_1 c_5
    refine lv_iconst (v := 0) hx hb dX8_resultOf_8 (by decide) ?_
    refine lv_goto (tgt := 13) hx hb dX8_resultOf_9 (by decide) ?_
    refine aftI C (runV_G (As := [.int 0]) (rest := []) (ci := 8) (N := 24) (T := TX8) (q0 := 0) C (mX8_refused l D G q ma sN L th nd ct ht sp iw mn 0 (by omega)) hS hP hD [0] rfl (by decide) rfl rfl (ys_X8_refused) kw_11_0 kw_11_1 kw_11_2 ⟨Nat.le_of_ble_eq_true rfl, Nat.le_of_ble_eq_true rfl⟩ hl.1 (Nat.le_of_ble_eq_true rfl) dX8_resultOf_13 rfl rfl ⟨Nat.zero_le _, Nat.zero_le _⟩) hS hP hD [0] rfl (fun _ => rfl) (fun r13 _ H locs hp13 hP hD hS => ?_)
    have hP : va_P D vwCl [(q, .inr (8, [.ref (ma 0), .ref (ma 1), .int (nI sN), .ref (ma 2), .int (nI L), .int (nI 0), .ref (ma 3), .ref (ma 4), .ref (ma 5), .ref (ma 6), .int nd, .int ct, .int ht, .ref (ma 7), .ref (ma 8), .ref (ma 9), .ref (ma 10), .ref (ma 11), .ref (ma 12), .ref (ma 13), .ref (ma 14), .int sp, .int iw, .int mn])), (ma 0, .inl (G.1, 457, .inl sr)), (ma 3, .inl (G.1, 169, .inl fl))] H := hP
    have hD : va_D A [(q, .inr (8, [.ref (ma 0), .ref (ma 1), .int (nI sN), .ref (ma 2), .int (nI L), .int (nI 0), .ref (ma 3), .ref (ma 4), .ref (ma 5), .ref (ma 6), .int nd, .int ct, .int ht, .ref (ma 7), .ref (ma 8), .ref (ma 9), .ref (ma 10), .ref (ma 11), .ref (ma 12), .ref (ma 13), .ref (ma 14), .int sp, .int iw, .int mn])), (ma 0, .inl (G.1, 457, .inl sr)), (ma 3, .inl (G.1, 169, .inl fl))] := hD
    refine ro_top (z := bI (0 < 0)) hx hp13 ?_
    refine lv_if_eq (tgt := 21) hx hb dX8_resultOf_16 (by decide) (fun _ => ?_) (fun h => absurd (by decide) h)
    refine lv_aload_n hx hb dX8_resultOf_21 rfl (lv_at hl 0 rfl) ?_
    refine aftV C (runV_G (As := []) (rest := []) (ci := 8) (N := 24) (T := TX8) (q0 := 0) C (mX8_fills l D G q ma sN L (nI 0) nd ct ht sp iw mn sr p M fl hR.n0 hM hR.pp hPR) hS hP hD [0, 1, 2] rfl (by decide) rfl rfl (ys_X8_fills) kw_13_23 kw_14_0 kw_14_1 ⟨Nat.le_of_ble_eq_true rfl, Nat.le_of_ble_eq_true rfl⟩ hl.1 (Nat.le_of_ble_eq_true rfl) dX8_resultOf_22 rfl rfl ⟨Nat.zero_le _, Nat.zero_le _⟩) hS hP hD [0, 1, 2] rfl (fun _ => rfl) (fun u22 H locs hp22 hP hD hS => ?_)
    have hP : va_P D vwCl [(q, .inr (8, [.ref (ma 0), .ref (ma 1), .int (nI sN), .ref (ma 2), .int (nI L), .int (nI 0), .ref (ma 3), .ref (ma 4), .ref (ma 5), .ref (ma 6), .int nd, .int ct, .int ht, .ref (ma 7), .ref (ma 8), .ref (ma 9), .ref (ma 10), .ref (ma 11), .ref (ma 12), .ref (ma 13), .ref (ma 14), .int sp, .int iw, .int mn])), (ma 0, .inl (G.1, 457, .inl sr)), (ma 3, .inl (G.1, 169, .inl u22))] H := hP
    have hD : va_D A [(q, .inr (8, [.ref (ma 0), .ref (ma 1), .int (nI sN), .ref (ma 2), .int (nI L), .int (nI 0), .ref (ma 3), .ref (ma 4), .ref (ma 5), .ref (ma 6), .int nd, .int ct, .int ht, .ref (ma 7), .ref (ma 8), .ref (ma 9), .ref (ma 10), .ref (ma 11), .ref (ma 12), .ref (ma 13), .ref (ma 14), .int sp, .int iw, .int mn])), (ma 0, .inl (G.1, 457, .inl sr)), (ma 3, .inl (G.1, 169, .inl u22))] := hD
    refine lv_iload_n hx hb dX8_resultOf_25 rfl (lv_at hl 1 rfl) ?_
    refine aftI0 C (runS_G (As := [.int (nI m)]) (rest := []) C (mX8_takes l D G m hm) hS hP hD [] rfl (by decide) (ys_X8_takes) kw_12_16 kw_12_17 ⟨Nat.le_of_ble_eq_true rfl, Nat.le_of_ble_eq_true rfl⟩ hl.1 (Nat.le_of_ble_eq_true rfl) dX8_resultOf_26 rfl rfl ⟨Nat.zero_le _, Nat.zero_le _⟩) hS hP hD [] rfl (fun r26 _ H locs hp26 hP hS => ?_)
    refine ro_top (z := nI (tk m)) hx hp26 ?_
    refine lv_aload_n hx hb dX8_resultOf_29 rfl (lv_at hl 0 rfl) ?_
    refine va_get (D := D) (ci := 8) (v := .ref (ma 0)) (C := RX8) (T := TX8) (N := 24) hx hb hts inlX8 hown hK hP 0 rfl rfl 0 (by decide) (hts _ kw_5_6) (fun _ h9 => h9) rfl dX8_resultOf_30 ?_
    refine lv_bipush (v := 14) hx hb dX8_resultOf_33 (by decide) ?_
    refine ro_iald (k := 14) (v := nI (x 14)) hx hb hK hP 1 0 rfl rfl rfl (by decide) (by decide) hR.n14 dX8_resultOf_35 ?_
    refine lv_icmp_le (tgt := 45) hx hb dX8_resultOf_36 (by decide) (fun c_36 => ?_) (fun c_36 => ?_)
    · have c_36 := nle_t (a := tk m) (b := x 14) (by omega) (by omega) c_36
      refine lv_aload_n hx hb dX8_resultOf_45 rfl (lv_at hl 0 rfl) ?_
      refine lv_aload_n hx hb dX8_resultOf_46 rfl (lv_at hl 0 rfl) ?_
      refine va_get (D := D) (ci := 8) (v := .ref (ma 0)) (C := RX8) (T := TX8) (N := 24) hx hb hts inlX8 hown hK hP 0 rfl rfl 0 (by decide) (hts _ kw_5_6) (fun _ h9 => h9) rfl dX8_resultOf_47 ?_
      refine lv_bipush (v := 13) hx hb dX8_resultOf_50 (by decide) ?_
      refine ro_iald (k := 13) (v := nI (x 13)) hx hb hK hP 1 0 rfl rfl rfl (by decide) (by decide) hR.n13 dX8_resultOf_52 ?_
      refine lv_aload_n hx hb dX8_resultOf_53 rfl (lv_at hl 0 rfl) ?_
      refine va_get (D := D) (ci := 8) (v := .ref (ma 0)) (C := RX8) (T := TX8) (N := 24) hx hb hts inlX8 hown hK hP 0 rfl rfl 0 (by decide) (hts _ kw_5_6) (fun _ h9 => h9) rfl dX8_resultOf_54 ?_
      refine lv_bipush (v := 14) hx hb dX8_resultOf_57 (by decide) ?_
      refine ro_iald (k := 14) (v := nI (x 14)) hx hb hK hP 1 0 rfl rfl rfl (by decide) (by decide) hR.n14 dX8_resultOf_59 ?_
      refine lv_iload_n hx hb dX8_resultOf_60 rfl (lv_at hl 1 rfl) ?_
      refine aftI0 C (runV_G (As := [.int (nI (x 13)), .int (nI (x 14)), .int (nI m)]) (rest := []) (ci := 8) (N := 24) (T := TX8) (q0 := 0) C (mX8_resultIn l D G q ma sN L (nI 0) nd ct ht sp iw mn sr p M u22 (x 13) (x 14) m hm (by omega) hfn hM hR.pp) hS hP hD [0, 1, 2] rfl (by decide) rfl rfl (ys_X8_resultIn) kw_14_10 kw_14_11 kw_14_12 ⟨Nat.le_of_ble_eq_true rfl, Nat.le_of_ble_eq_true rfl⟩ hl.1 (Nat.le_of_ble_eq_true rfl) dX8_resultOf_61 rfl rfl ⟨Nat.zero_le _, Nat.zero_le _⟩) hS hP hD [0, 1, 2] rfl (fun r61 _ H locs hp61 hP hS => ?_)
      refine ro_top (z := cn p (x 13) (x 14) m - u22 (13 * bh (x 13) m + ((x 14) - tk m))) hx hp61 ?_
      refine ro_top (z := rV p (V p) (x 13) (x 14) m) hx (by rw [rV_pos (by omega), hp22 _ _ (by have := tk_pos m; have := bh_le (x 13) m; omega)]) ?_
      exact endI C rfl u22 rfl hS hP dX8_resultOf_64
    · have c_36 := nle_f (a := tk m) (b := x 14) (by omega) (by omega) c_36
      refine lv_sipush (v := (-999)) hx hb dX8_resultOf_39 (by decide) ?_
      refine lv_goto (tgt := 64) hx hb dX8_resultOf_42 (by decide) ?_
      exact endI C rfl u22 (rV_neg (by omega)).symm hS hP dX8_resultOf_64
set_option maxHeartbeats 800000 in
set_option maxRecDepth 100000 in
theorem mX8_resultOf_T1 (l : Launch) (D : va_G) (G : u_G) (q : Nat) (ma : Nat → Nat) (sN L : Nat) (th nd ct ht sp iw mn : Int32) (sr p : Nat → Int32) (x : Nat → Nat) (y : Nat → Int32) (M : Nat) (v : Int32) (hR : RowR sr x y M p) (hM : M ≤ 12) (hbad : ¬ (¬ v < 0 ∧ ¬ 3 < v)) : MtI l D G yX8_resultOf cX8_resultOf 2 .int 3 0 0 [.ref q, .int v] [(q, .inr (8, [.ref (ma 0), .ref (ma 1), .int (nI sN), .ref (ma 2), .int (nI L), .int th, .ref (ma 3), .ref (ma 4), .ref (ma 5), .ref (ma 6), .int nd, .int ct, .int ht, .ref (ma 7), .ref (ma 8), .ref (ma 9), .ref (ma 10), .ref (ma 11), .ref (ma 12), .ref (ma 13), .ref (ma 14), .int sp, .int iw, .int mn])), (ma 0, .inl (G.1, 457, .inl sr))] (fun (r : Int32) (_ : Unit) => r = 0) (fun (_ : Unit) => [(q, .inr (8, [.ref (ma 0), .ref (ma 1), .int (nI sN), .ref (ma 2), .int (nI L), .int (nI 1), .ref (ma 3), .ref (ma 4), .ref (ma 5), .ref (ma 6), .int nd, .int ct, .int ht, .ref (ma 7), .ref (ma 8), .ref (ma 9), .ref (ma 10), .ref (ma 11), .ref (ma 12), .ref (ma 13), .ref (ma 14), .int sp, .int iw, .int mn])), (ma 0, .inl (G.1, 457, .inl sr))]) := by
  refine MtI.of (by decide) (Nat.le_of_ble_eq_true rfl) ?_
  intro pr e s9 m9 below meth c9 A ls C hP hD hl
  obtain ⟨hx, hb, hml, hown, hts, hr, hlocks, hA, hAm⟩ := id C
  have hK := hAm.1
  have hS : va_S A s9.heap s9.heap [] := va_S.rf
  have hl : lv_has ls 2 [(0, .ref q), (1, .int v)] := hl
  refine lv_aload_n hx hb dX8_resultOf_0 rfl (lv_at hl 0 rfl) ?_
  refine lv_iload_n hx hb dX8_resultOf_1 rfl (lv_at hl 1 rfl) ?_
  refine aftI0 C (runS_G (As := [.int v]) (rest := [.ref q]) C (mX8_isMove l D G v ) hS hP hD [] rfl (by decide) (ys_X8_isMove) kw_12_13 kw_12_14 ⟨Nat.le_of_ble_eq_true rfl, Nat.le_of_ble_eq_true rfl⟩ hl.1 (Nat.le_of_ble_eq_true rfl) dX8_resultOf_2 rfl rfl ⟨Nat.zero_le _, Nat.zero_le _⟩) hS hP hD [] rfl (fun r2 _ H locs hp2 hP hS => ?_)
  refine ro_top (z := bI (¬ v < 0 ∧ ¬ 3 < v)) hx hp2 ?_
  refine lv_if_eq (tgt := 12) hx hb dX8_resultOf_5 (by decide) (fun c_5 => ?_) (fun c_5 => ?_)
  · have c_5 := bI_0 c_5
    refine lv_iconst (v := 1) hx hb dX8_resultOf_12 (by decide) ?_
    refine aftI C (runV_G (As := [.int 1]) (rest := []) (ci := 8) (N := 24) (T := TX8) (q0 := 0) C (mX8_refused l D G q ma sN L th nd ct ht sp iw mn 1 (by omega)) hS hP hD [0] rfl (by decide) rfl rfl (ys_X8_refused) kw_11_0 kw_11_1 kw_11_2 ⟨Nat.le_of_ble_eq_true rfl, Nat.le_of_ble_eq_true rfl⟩ hl.1 (Nat.le_of_ble_eq_true rfl) dX8_resultOf_13 rfl rfl ⟨Nat.zero_le _, Nat.zero_le _⟩) hS hP hD [0] rfl (fun _ => rfl) (fun r13 _ H locs hp13 hP hD hS => ?_)
    have hP : va_P D vwCl [(q, .inr (8, [.ref (ma 0), .ref (ma 1), .int (nI sN), .ref (ma 2), .int (nI L), .int (nI 1), .ref (ma 3), .ref (ma 4), .ref (ma 5), .ref (ma 6), .int nd, .int ct, .int ht, .ref (ma 7), .ref (ma 8), .ref (ma 9), .ref (ma 10), .ref (ma 11), .ref (ma 12), .ref (ma 13), .ref (ma 14), .int sp, .int iw, .int mn])), (ma 0, .inl (G.1, 457, .inl sr))] H := hP
    have hD : va_D A [(q, .inr (8, [.ref (ma 0), .ref (ma 1), .int (nI sN), .ref (ma 2), .int (nI L), .int (nI 1), .ref (ma 3), .ref (ma 4), .ref (ma 5), .ref (ma 6), .int nd, .int ct, .int ht, .ref (ma 7), .ref (ma 8), .ref (ma 9), .ref (ma 10), .ref (ma 11), .ref (ma 12), .ref (ma 13), .ref (ma 14), .int sp, .int iw, .int mn])), (ma 0, .inl (G.1, 457, .inl sr))] := hD
    refine ro_top (z := bI (0 < 1)) hx hp13 ?_
    refine lv_if_eq (tgt := 21) hx hb dX8_resultOf_16 (by decide) (fun h => absurd h (by decide)) (fun _ => ?_)
    refine lv_iconst (v := 0) hx hb dX8_resultOf_19 (by decide) ?_
    exact endI C rfl () rfl hS hP dX8_resultOf_20
  · have c_5 := bI_1 c_5
    exact absurd c_5 hbad
set_option maxHeartbeats 800000 in
set_option maxRecDepth 100000 in
theorem mX8_lineAt (l : Launch) (D : va_G) (G : u_G) (q : Nat) (ma : Nat → Nat) (sN L : Nat) (th nd ct ht sp iw mn : Int32) (sr p : Nat → Int32) (x : Nat → Nat) (y : Nat → Int32) (M : Nat) (fl : Nat → Int32) (k : Nat) (hR : RowR sr x y M p) (hM : M ≤ 12) (hfn : x 13 + x 14 ≤ M) (hPR : PR p) (hFL : FLA p fl M) (hk : k < 2 ^ 31) : MtI l D G yX8_lineAt cX8_lineAt 6 .int 5 0 0 [.ref q, .int (nI k)] [(q, .inr (8, [.ref (ma 0), .ref (ma 1), .int (nI sN), .ref (ma 2), .int (nI L), .int th, .ref (ma 3), .ref (ma 4), .ref (ma 5), .ref (ma 6), .int nd, .int ct, .int ht, .ref (ma 7), .ref (ma 8), .ref (ma 9), .ref (ma 10), .ref (ma 11), .ref (ma 12), .ref (ma 13), .ref (ma 14), .int sp, .int iw, .int mn])), (ma 0, .inl (G.1, 457, .inl sr)), (ma 3, .inl (G.1, 169, .inl fl))] (fun (r : Int32) (_ : Unit) => r = lnA p (x 13) (x 14) k) (fun (_ : Unit) => [(q, .inr (8, [.ref (ma 0), .ref (ma 1), .int (nI sN), .ref (ma 2), .int (nI L), .int th, .ref (ma 3), .ref (ma 4), .ref (ma 5), .ref (ma 6), .int nd, .int ct, .int ht, .ref (ma 7), .ref (ma 8), .ref (ma 9), .ref (ma 10), .ref (ma 11), .ref (ma 12), .ref (ma 13), .ref (ma 14), .int sp, .int iw, .int mn])), (ma 0, .inl (G.1, 457, .inl sr)), (ma 3, .inl (G.1, 169, .inl fl))]) := by
  refine MtI.of (by decide) (Nat.le_of_ble_eq_true rfl) ?_
  intro pr e s9 m9 below meth c9 A ls C hP hD hl
  obtain ⟨hx, hb, hml, hown, hts, hr, hlocks, hA, hAm⟩ := id C
  have hK := hAm.1
  have hS : va_S A s9.heap s9.heap [] := va_S.rf
  have hl : lv_has ls 6 [(0, .ref q), (1, .int (nI k))] := hl
  refine lv_aload_n hx hb dX8_lineAt_0 rfl (lv_at hl 0 rfl) ?_
  refine va_get (D := D) (ci := 8) (v := .ref (ma 0)) (C := RX8) (T := TX8) (N := 24) hx hb hts inlX8 hown hK hP 0 rfl rfl 0 (by decide) (hts _ kw_5_6) (fun _ h9 => h9) rfl dX8_lineAt_1 ?_
  refine lv_bipush (v := 13) hx hb dX8_lineAt_4 (by decide) ?_
  refine ro_iald (k := 13) (v := nI (x 13)) hx hb hK hP 1 0 rfl rfl rfl (by decide) (by decide) hR.n13 dX8_lineAt_6 ?_
  refine lv_istore_n (lv' := [(2, .int (nI (x 13))), (0, .ref q), (1, .int (nI k))]) hx hb dX8_lineAt_7 rfl hl (by decide) rfl (fun ls hl => ?_)
  refine lv_aload_n hx hb dX8_lineAt_8 rfl (lv_at hl 1 rfl) ?_
  refine va_get (D := D) (ci := 8) (v := .ref (ma 0)) (C := RX8) (T := TX8) (N := 24) hx hb hts inlX8 hown hK hP 0 rfl rfl 0 (by decide) (hts _ kw_5_6) (fun _ h9 => h9) rfl dX8_lineAt_9 ?_
  refine lv_bipush (v := 14) hx hb dX8_lineAt_12 (by decide) ?_
  refine ro_iald (k := 14) (v := nI (x 14)) hx hb hK hP 1 0 rfl rfl rfl (by decide) (by decide) hR.n14 dX8_lineAt_14 ?_
  refine lv_istore_n (lv' := [(3, .int (nI (x 14))), (2, .int (nI (x 13))), (0, .ref q), (1, .int (nI k))]) hx hb dX8_lineAt_15 rfl hl (by decide) rfl (fun ls hl => ?_)
  refine lv_aload_n hx hb dX8_lineAt_16 rfl (lv_at hl 2 rfl) ?_
  refine lv_iload_n hx hb dX8_lineAt_17 rfl (lv_at hl 1 rfl) ?_
  refine lv_iload_n hx hb dX8_lineAt_18 rfl (lv_at hl 0 rfl) ?_
  refine aftI0 C (runV_G (As := [.int (nI (x 13)), .int (nI (x 14))]) (rest := []) (ci := 8) (N := 24) (T := TX8) (q0 := 0) C (mX8_bestIn l D G q ma sN L th nd ct ht sp iw mn sr p M fl (x 13) (x 14) (by omega) hM hR.pp hPR (fun n' g _ h9 => hFL n' g h9)) hS hP hD [0, 1, 2] rfl (by decide) rfl rfl (ys_X8_bestIn) kw_14_6 kw_14_7 kw_14_8 ⟨Nat.le_of_ble_eq_true rfl, Nat.le_of_ble_eq_true rfl⟩ hl.1 (Nat.le_of_ble_eq_true rfl) dX8_lineAt_19 rfl rfl ⟨Nat.zero_le _, Nat.zero_le _⟩) hS hP hD [0, 1, 2] rfl (fun r19 _ H locs hp19 hP hS => ?_)
  refine ro_top (z := (bm (rV p (V p) (x 13) (x 14)) 4).1) hx hp19 ?_
  refine lv_istore (lv' := [(4, .int ((bm (rV p (V p) (x 13) (x 14)) 4).1)), (3, .int (nI (x 14))), (2, .int (nI (x 13))), (0, .ref q), (1, .int (nI k))]) hx hb dX8_lineAt_22 hl (by decide) rfl (fun ls hl => ?_)
  refine lv_iconst (v := 0) hx hb dX8_lineAt_24 (by decide) ?_
  refine lv_istore (lv' := [(5, .int 0), (4, .int ((bm (rV p (V p) (x 13) (x 14)) 4).1)), (3, .int (nI (x 14))), (2, .int (nI (x 13))), (0, .ref q), (1, .int (nI k))]) hx hb dX8_lineAt_25 hl (by decide) rfl (fun ls hl => ?_)
  have lp27 : ∀ (n27 : Nat) (i : Nat) (F9 : Nat) (N9 : Nat) (hik : i ≤ k) (hF : lpos p (x 13) (x 14) i = (F9, N9)) (_ : k - i < n27) (H : Heap) (locs : List Loc) (ls : Array Slot), va_P D vwCl [(q, .inr (8, [.ref (ma 0), .ref (ma 1), .int (nI sN), .ref (ma 2), .int (nI L), .int th, .ref (ma 3), .ref (ma 4), .ref (ma 5), .ref (ma 6), .int nd, .int ct, .int ht, .ref (ma 7), .ref (ma 8), .ref (ma 9), .ref (ma 10), .ref (ma 11), .ref (ma 12), .ref (ma 13), .ref (ma 14), .int sp, .int iw, .int mn])), (ma 0, .inl (G.1, 457, .inl sr)), (ma 3, .inl (G.1, 169, .inl fl))] H → va_D A [(q, .inr (8, [.ref (ma 0), .ref (ma 1), .int (nI sN), .ref (ma 2), .int (nI L), .int th, .ref (ma 3), .ref (ma 4), .ref (ma 5), .ref (ma 6), .int nd, .int ct, .int ht, .ref (ma 7), .ref (ma 8), .ref (ma 9), .ref (ma 10), .ref (ma 11), .ref (ma 12), .ref (ma 13), .ref (ma 14), .int sp, .int iw, .int mn])), (ma 0, .inl (G.1, 457, .inl sr)), (ma 3, .inl (G.1, 169, .inl fl))] → va_S A s9.heap H locs → lv_has ls 6 [(0, .ref q), (1, .int (nI k)), (2, .int (nI F9)), (3, .int (nI N9)), (4, .int ((bm (rV p (V p) F9 N9) 4).1)), (5, .int (nI i))] → W pr l e (rmG 5 0 0) s9 m9 (List.toArray [.ref q, .int (nI k)]) below meth c9 H locs 0 0 (MQ below (va_Qi (fun (r : Int32) (_ : Unit) => r = lnA p (x 13) (x 14) k) (fun u9 t9 => WB D ((fun (_ : Unit) => [(q, .inr (8, [.ref (ma 0), .ref (ma 1), .int (nI sN), .ref (ma 2), .int (nI L), .int th, .ref (ma 3), .ref (ma 4), .ref (ma 5), .ref (ma 6), .int nd, .int ct, .int ht, .ref (ma 7), .ref (ma 8), .ref (ma 9), .ref (ma 10), .ref (ma 11), .ref (ma 12), .ref (ma 13), .ref (ma 14), .int sp, .int iw, .int mn])), (ma 0, .inl (G.1, 457, .inl sr)), (ma 3, .inl (G.1, 169, .inl fl))]) u9) t9) A) (List.toArray [.ref q, .int (nI k)]) s9 0 0 A) (F0 m9 27 ls []) := by
    intro n27
    induction n27 with
    | zero => intro i F9 N9 hik hF hm; exact absurd hm (Nat.not_lt_zero _)
    | succ n27 ih27 =>
      intro i F9 N9 hik hF hm H locs ls hP hD hS hl
      have hlp := lpos_in' hPR (show x 13 + x 14 ≤ 12 by omega) hF
      refine lv_iload hx hb dX8_lineAt_27 (lv_at hl 5 rfl) ?_
      refine lv_iload_n hx hb dX8_lineAt_29 rfl (lv_at hl 1 rfl) ?_
      refine lv_icmp_ge (tgt := 66) hx hb dX8_lineAt_30 (by decide) (fun c_30 => ?_) (fun c_30 => ?_)
      · have c_30 := nle_t (a := k) (b := i) (by omega) (by omega) c_30
        refine lv_iload_n hx hb dX8_lineAt_66 rfl (lv_at hl 3 rfl) ?_
        refine lv_if_ne (tgt := 76) hx hb dX8_lineAt_67 (by decide) (fun c_67 => ?_) (fun c_67 => ?_)
        · have c_67 := neq_f (a := N9) (b := 0) (by omega) (by omega) c_67
          obtain ⟨b1, b2, b3, b4⟩ := bN_spec hPR (f := F9) (n := N9) (by omega) (by omega)
          have b5 : (bm (rV p (V p) F9 N9) 4).1 = nI (bN p F9 N9) := by rw [b3]
          obtain ⟨mv, hmv⟩ : ∃ z, z = bN p F9 N9 := ⟨_, rfl⟩
          rw [← hmv] at b1 b2 b4 b5
          refine lv_iload hx hb dX8_lineAt_76 (lv_at hl 4 rfl) ?_
          exact endI C rfl () (by rw [← show i = k by omega, lnA_f (by rw [hF]; show ¬ N9 = 0; omega), hF, b5, hmv]) hS hP dX8_lineAt_78
        · have c_67 := neq_t (a := N9) (b := 0) (by omega) (by omega) c_67
          refine lv_sipush (v := (-999)) hx hb dX8_lineAt_70 (by decide) ?_
          refine lv_goto (tgt := 78) hx hb dX8_lineAt_73 (by decide) ?_
          exact endI C rfl () (lnA_end (k := i) (by rw [hF]; show N9 = 0; omega) hik).symm hS hP dX8_lineAt_78
      · have c_30 := nle_f (a := k) (b := i) (by omega) (by omega) c_30
        refine lv_iload_n hx hb dX8_lineAt_33 rfl (lv_at hl 3 rfl) ?_
        refine lv_if_le (tgt := 66) hx hb dX8_lineAt_34 (by decide) (fun c_34 => ?_) (fun c_34 => ?_)
        · have c_34 := nle_t (a := N9) (b := 0) (by omega) (by omega) c_34
          refine lv_iload_n hx hb dX8_lineAt_66 rfl (lv_at hl 3 rfl) ?_
          refine lv_if_ne (tgt := 76) hx hb dX8_lineAt_67 (by decide) (fun c_67 => ?_) (fun c_67 => ?_)
          · have c_67 := neq_f (a := N9) (b := 0) (by omega) (by omega) c_67
            obtain ⟨b1, b2, b3, b4⟩ := bN_spec hPR (f := F9) (n := N9) (by omega) (by omega)
            have b5 : (bm (rV p (V p) F9 N9) 4).1 = nI (bN p F9 N9) := by rw [b3]
            obtain ⟨mv, hmv⟩ : ∃ z, z = bN p F9 N9 := ⟨_, rfl⟩
            rw [← hmv] at b1 b2 b4 b5
            refine lv_iload hx hb dX8_lineAt_76 (lv_at hl 4 rfl) ?_
            exact endI C rfl () (by rw [← show i = k by omega, lnA_f (by rw [hF]; show ¬ N9 = 0; omega), hF, b5, hmv]) hS hP dX8_lineAt_78
          · have c_67 := neq_t (a := N9) (b := 0) (by omega) (by omega) c_67
            refine lv_sipush (v := (-999)) hx hb dX8_lineAt_70 (by decide) ?_
            refine lv_goto (tgt := 78) hx hb dX8_lineAt_73 (by decide) ?_
            exact endI C rfl () (lnA_end (k := i) (by rw [hF]; show N9 = 0; omega) hik).symm hS hP dX8_lineAt_78
        · have c_34 := nle_f (a := N9) (b := 0) (by omega) (by omega) c_34
          obtain ⟨b1, b2, b3, b4⟩ := bN_spec hPR (f := F9) (n := N9) (by omega) (by omega)
          have b5 : (bm (rV p (V p) F9 N9) 4).1 = nI (bN p F9 N9) := by rw [b3]
          obtain ⟨mv, hmv⟩ : ∃ z, z = bN p F9 N9 := ⟨_, rfl⟩
          rw [← hmv] at b1 b2 b4 b5
          refine lv_iload_n hx hb dX8_lineAt_37 rfl (lv_at hl 2 rfl) ?_
          refine lv_iload hx hb dX8_lineAt_38 (lv_at hl 4 rfl) ?_
          refine ro_top (z := nI (mv)) hx b5 ?_
          refine aftI0 C (runS_G (As := [.int (nI F9), .int (nI mv)]) (rest := []) C (mX8_behind l D G F9 mv b1 (by omega)) hS hP hD [] rfl (by decide) (ys_X8_behind) kw_13_3 kw_13_4 ⟨Nat.le_of_ble_eq_true rfl, Nat.le_of_ble_eq_true rfl⟩ hl.1 (Nat.le_of_ble_eq_true rfl) dX8_lineAt_40 rfl rfl ⟨Nat.zero_le _, Nat.zero_le _⟩) hS hP hD [] rfl (fun r40 _ H locs hp40 hP hS => ?_)
          refine ro_top (z := nI (bh F9 mv)) hx hp40 ?_
          refine lv_istore_n (lv' := [(2, .int (nI (bh F9 mv))), (0, .ref q), (1, .int (nI k)), (3, .int (nI N9)), (4, .int ((bm (rV p (V p) F9 N9) 4).1)), (5, .int (nI i))]) hx hb dX8_lineAt_43 rfl hl (by decide) rfl (fun ls hl => ?_)
          refine lv_iload_n hx hb dX8_lineAt_44 rfl (lv_at hl 3 rfl) ?_
          refine lv_iload hx hb dX8_lineAt_45 (lv_at hl 4 rfl) ?_
          refine ro_top (z := nI (mv)) hx b5 ?_
          refine aftI0 C (runS_G (As := [.int (nI mv)]) (rest := [.int (nI N9)]) C (mX8_takes l D G mv b1) hS hP hD [] rfl (by decide) (ys_X8_takes) kw_12_16 kw_12_17 ⟨Nat.le_of_ble_eq_true rfl, Nat.le_of_ble_eq_true rfl⟩ hl.1 (Nat.le_of_ble_eq_true rfl) dX8_lineAt_47 rfl rfl ⟨Nat.zero_le _, Nat.zero_le _⟩) hS hP hD [] rfl (fun r47 _ H locs hp47 hP hS => ?_)
          refine ro_top (z := nI (tk mv)) hx hp47 ?_
          refine ro_isub (z := nI (N9 - (tk mv))) hx hb (pk_sub (a := N9) (b := tk mv) (by omega)) dX8_lineAt_50 ?_
          refine lv_istore_n (lv' := [(3, .int (nI (N9 - (tk mv)))), (2, .int (nI (bh F9 mv))), (0, .ref q), (1, .int (nI k)), (4, .int ((bm (rV p (V p) F9 N9) 4).1)), (5, .int (nI i))]) hx hb dX8_lineAt_51 rfl hl (by decide) rfl (fun ls hl => ?_)
          refine lv_aload_n hx hb dX8_lineAt_52 rfl (lv_at hl 2 rfl) ?_
          refine lv_iload_n hx hb dX8_lineAt_53 rfl (lv_at hl 1 rfl) ?_
          refine lv_iload_n hx hb dX8_lineAt_54 rfl (lv_at hl 0 rfl) ?_
          refine aftI0 C (runV_G (As := [.int (nI (bh F9 mv)), .int (nI (N9 - (tk mv)))]) (rest := []) (ci := 8) (N := 24) (T := TX8) (q0 := 0) C (mX8_bestIn l D G q ma sN L th nd ct ht sp iw mn sr p M fl (bh F9 mv) (N9 - (tk mv)) (by have := bh_le F9 (mv); omega) hM hR.pp hPR (fun n' g _ h9 => hFL n' g h9)) hS hP hD [0, 1, 2] rfl (by decide) rfl rfl (ys_X8_bestIn) kw_14_6 kw_14_7 kw_14_8 ⟨Nat.le_of_ble_eq_true rfl, Nat.le_of_ble_eq_true rfl⟩ hl.1 (Nat.le_of_ble_eq_true rfl) dX8_lineAt_55 rfl rfl ⟨Nat.zero_le _, Nat.zero_le _⟩) hS hP hD [0, 1, 2] rfl (fun r55 _ H locs hp55 hP hS => ?_)
          refine ro_top (z := (bm (rV p (V p) (bh F9 mv) (N9 - (tk mv))) 4).1) hx hp55 ?_
          refine lv_istore (lv' := [(4, .int ((bm (rV p (V p) (bh F9 mv) (N9 - (tk mv))) 4).1)), (3, .int (nI (N9 - (tk mv)))), (2, .int (nI (bh F9 mv))), (0, .ref q), (1, .int (nI k)), (5, .int (nI i))]) hx hb dX8_lineAt_58 hl (by decide) rfl (fun ls hl => ?_)
          refine lv_iinc (v := nI (i + 1)) (lv' := [(5, .int (nI (i + 1))), (4, .int ((bm (rV p (V p) (bh F9 mv) (N9 - (tk mv))) 4).1)), (3, .int (nI (N9 - (tk mv)))), (2, .int (nI (bh F9 mv))), (0, .ref q), (1, .int (nI k))]) hx hb dX8_lineAt_60 hl (k := 5) rfl (nI_add i 1) (by decide) rfl (fun ls hl => ?_)
          refine lv_goto (tgt := 27) hx hb dX8_lineAt_63 (by decide) ?_
          exact ih27 (i + 1) (bh F9 (mv)) (N9 - tk (mv)) (by omega) (by rw [hmv]; exact lpos_go' hF (by omega)) (by omega) _ _ _ hP (hD.fst rfl) hS (lv_sub hl [4, 5, 3, 2, 1, 0] rfl)
  exact lp27 (k - 0 + 1) 0 (x 13) (x 14) (by omega) rfl (Nat.lt_succ_self _) _ _ _ hP (hD.fst rfl) hS (lv_sub hl [4, 5, 3, 2, 1, 0] rfl)
set_option maxHeartbeats 800000 in
set_option maxRecDepth 100000 in
theorem mX8_line (l : Launch) (D : va_G) (G : u_G) (q : Nat) (ma : Nat → Nat) (sN L : Nat) (th nd ct ht sp iw mn : Int32) (sr p : Nat → Int32) (x : Nat → Nat) (y : Nat → Int32) (M : Nat) (fl : Nat → Int32) (k : Nat) (hR : RowR sr x y M p) (hM : M ≤ 12) (hfn : x 13 + x 14 ≤ M) (hPR : PR p) (hk : k < 2 ^ 31) : MtI l D G yX8_line cX8_line 2 .int 7 0 0 [.ref q, .int (nI k)] [(q, .inr (8, [.ref (ma 0), .ref (ma 1), .int (nI sN), .ref (ma 2), .int (nI L), .int th, .ref (ma 3), .ref (ma 4), .ref (ma 5), .ref (ma 6), .int nd, .int ct, .int ht, .ref (ma 7), .ref (ma 8), .ref (ma 9), .ref (ma 10), .ref (ma 11), .ref (ma 12), .ref (ma 13), .ref (ma 14), .int sp, .int iw, .int mn])), (ma 0, .inl (G.1, 457, .inl sr)), (ma 3, .inl (G.1, 169, .inl fl))] (fun (r : Int32) (u : Nat → Int32) => r = lnA p (x 13) (x 14) k) (fun (u : Nat → Int32) => [(q, .inr (8, [.ref (ma 0), .ref (ma 1), .int (nI sN), .ref (ma 2), .int (nI L), .int (nI 0), .ref (ma 3), .ref (ma 4), .ref (ma 5), .ref (ma 6), .int nd, .int ct, .int ht, .ref (ma 7), .ref (ma 8), .ref (ma 9), .ref (ma 10), .ref (ma 11), .ref (ma 12), .ref (ma 13), .ref (ma 14), .int sp, .int iw, .int mn])), (ma 0, .inl (G.1, 457, .inl sr)), (ma 3, .inl (G.1, 169, .inl u))]) := by
  refine MtI.of (by decide) (Nat.le_of_ble_eq_true rfl) ?_
  intro pr e s9 m9 below meth c9 A ls C hP hD hl
  obtain ⟨hx, hb, hml, hown, hts, hr, hlocks, hA, hAm⟩ := id C
  have hK := hAm.1
  have hS : va_S A s9.heap s9.heap [] := va_S.rf
  have hl : lv_has ls 2 [(0, .ref q), (1, .int (nI k))] := hl
  refine lv_aload_n hx hb dX8_line_0 rfl (lv_at hl 0 rfl) ?_
  refine lv_iload_n hx hb dX8_line_1 rfl (lv_at hl 1 rfl) ?_
  refine lv_if_ge (tgt := 9) hx hb dX8_line_2 (by decide) (fun _ => ?_) (fun h => absurd (nI_pos' (by omega)) h)
  refine lv_iconst (v := 0) hx hb dX8_line_9 (by decide) ?_
  refine aftI C (runV_G (As := [.int 0]) (rest := []) (ci := 8) (N := 24) (T := TX8) (q0 := 0) C (mX8_refused l D G q ma sN L th nd ct ht sp iw mn 0 (by omega)) hS hP hD [0] rfl (by decide) rfl rfl (ys_X8_refused) kw_11_0 kw_11_1 kw_11_2 ⟨Nat.le_of_ble_eq_true rfl, Nat.le_of_ble_eq_true rfl⟩ hl.1 (Nat.le_of_ble_eq_true rfl) dX8_line_10 rfl rfl ⟨Nat.zero_le _, Nat.zero_le _⟩) hS hP hD [0] rfl (fun _ => rfl) (fun r10 _ H locs hp10 hP hD hS => ?_)
  have hP : va_P D vwCl [(q, .inr (8, [.ref (ma 0), .ref (ma 1), .int (nI sN), .ref (ma 2), .int (nI L), .int (nI 0), .ref (ma 3), .ref (ma 4), .ref (ma 5), .ref (ma 6), .int nd, .int ct, .int ht, .ref (ma 7), .ref (ma 8), .ref (ma 9), .ref (ma 10), .ref (ma 11), .ref (ma 12), .ref (ma 13), .ref (ma 14), .int sp, .int iw, .int mn])), (ma 0, .inl (G.1, 457, .inl sr)), (ma 3, .inl (G.1, 169, .inl fl))] H := hP
  have hD : va_D A [(q, .inr (8, [.ref (ma 0), .ref (ma 1), .int (nI sN), .ref (ma 2), .int (nI L), .int (nI 0), .ref (ma 3), .ref (ma 4), .ref (ma 5), .ref (ma 6), .int nd, .int ct, .int ht, .ref (ma 7), .ref (ma 8), .ref (ma 9), .ref (ma 10), .ref (ma 11), .ref (ma 12), .ref (ma 13), .ref (ma 14), .int sp, .int iw, .int mn])), (ma 0, .inl (G.1, 457, .inl sr)), (ma 3, .inl (G.1, 169, .inl fl))] := hD
  refine ro_top (z := bI (0 < 0)) hx hp10 ?_
  refine lv_if_eq (tgt := 18) hx hb dX8_line_13 (by decide) (fun _ => ?_) (fun h => absurd (by decide) h)
  refine lv_aload_n hx hb dX8_line_18 rfl (lv_at hl 0 rfl) ?_
  refine aftV C (runV_G (As := []) (rest := []) (ci := 8) (N := 24) (T := TX8) (q0 := 0) C (mX8_fills l D G q ma sN L (nI 0) nd ct ht sp iw mn sr p M fl hR.n0 hM hR.pp hPR) hS hP hD [0, 1, 2] rfl (by decide) rfl rfl (ys_X8_fills) kw_13_23 kw_14_0 kw_14_1 ⟨Nat.le_of_ble_eq_true rfl, Nat.le_of_ble_eq_true rfl⟩ hl.1 (Nat.le_of_ble_eq_true rfl) dX8_line_19 rfl rfl ⟨Nat.zero_le _, Nat.zero_le _⟩) hS hP hD [0, 1, 2] rfl (fun _ => rfl) (fun u19 H locs hp19 hP hD hS => ?_)
  have hP : va_P D vwCl [(q, .inr (8, [.ref (ma 0), .ref (ma 1), .int (nI sN), .ref (ma 2), .int (nI L), .int (nI 0), .ref (ma 3), .ref (ma 4), .ref (ma 5), .ref (ma 6), .int nd, .int ct, .int ht, .ref (ma 7), .ref (ma 8), .ref (ma 9), .ref (ma 10), .ref (ma 11), .ref (ma 12), .ref (ma 13), .ref (ma 14), .int sp, .int iw, .int mn])), (ma 0, .inl (G.1, 457, .inl sr)), (ma 3, .inl (G.1, 169, .inl u19))] H := hP
  have hD : va_D A [(q, .inr (8, [.ref (ma 0), .ref (ma 1), .int (nI sN), .ref (ma 2), .int (nI L), .int (nI 0), .ref (ma 3), .ref (ma 4), .ref (ma 5), .ref (ma 6), .int nd, .int ct, .int ht, .ref (ma 7), .ref (ma 8), .ref (ma 9), .ref (ma 10), .ref (ma 11), .ref (ma 12), .ref (ma 13), .ref (ma 14), .int sp, .int iw, .int mn])), (ma 0, .inl (G.1, 457, .inl sr)), (ma 3, .inl (G.1, 169, .inl u19))] := hD
  refine lv_aload_n hx hb dX8_line_22 rfl (lv_at hl 0 rfl) ?_
  refine lv_iload_n hx hb dX8_line_23 rfl (lv_at hl 1 rfl) ?_
  refine aftI0 C (runV_G (As := [.int (nI k)]) (rest := []) (ci := 8) (N := 24) (T := TX8) (q0 := 0) C (mX8_lineAt l D G q ma sN L (nI 0) nd ct ht sp iw mn sr p x y M u19 k hR hM hfn hPR hp19 hk) hS hP hD [0, 1, 2] rfl (by decide) rfl rfl (ys_X8_lineAt) kw_17_23 kw_18_0 kw_18_1 ⟨Nat.le_of_ble_eq_true rfl, Nat.le_of_ble_eq_true rfl⟩ hl.1 (Nat.le_of_ble_eq_true rfl) dX8_line_24 rfl rfl ⟨Nat.zero_le _, Nat.zero_le _⟩) hS hP hD [0, 1, 2] rfl (fun r24 _ H locs hp24 hP hS => ?_)
  refine ro_top (z := lnA p (x 13) (x 14) k) hx hp24 ?_
  exact endI C rfl u19 rfl hS hP dX8_line_27
set_option maxHeartbeats 800000 in
set_option maxRecDepth 100000 in
theorem mX8_line_T1 (l : Launch) (D : va_G) (G : u_G) (q : Nat) (ma : Nat → Nat) (sN L : Nat) (th nd ct ht sp iw mn : Int32) (sr p : Nat → Int32) (x : Nat → Nat) (y : Nat → Int32) (M : Nat) (v : Int32) (hR : RowR sr x y M p) (hM : M ≤ 12) (hbad : ¬ 0 ≤ v) : MtI l D G yX8_line cX8_line 2 .int 2 0 0 [.ref q, .int v] [(q, .inr (8, [.ref (ma 0), .ref (ma 1), .int (nI sN), .ref (ma 2), .int (nI L), .int th, .ref (ma 3), .ref (ma 4), .ref (ma 5), .ref (ma 6), .int nd, .int ct, .int ht, .ref (ma 7), .ref (ma 8), .ref (ma 9), .ref (ma 10), .ref (ma 11), .ref (ma 12), .ref (ma 13), .ref (ma 14), .int sp, .int iw, .int mn])), (ma 0, .inl (G.1, 457, .inl sr))] (fun (r : Int32) (_ : Unit) => r = 0) (fun (_ : Unit) => [(q, .inr (8, [.ref (ma 0), .ref (ma 1), .int (nI sN), .ref (ma 2), .int (nI L), .int (nI 1), .ref (ma 3), .ref (ma 4), .ref (ma 5), .ref (ma 6), .int nd, .int ct, .int ht, .ref (ma 7), .ref (ma 8), .ref (ma 9), .ref (ma 10), .ref (ma 11), .ref (ma 12), .ref (ma 13), .ref (ma 14), .int sp, .int iw, .int mn])), (ma 0, .inl (G.1, 457, .inl sr))]) := by
  refine MtI.of (by decide) (Nat.le_of_ble_eq_true rfl) ?_
  intro pr e s9 m9 below meth c9 A ls C hP hD hl
  obtain ⟨hx, hb, hml, hown, hts, hr, hlocks, hA, hAm⟩ := id C
  have hK := hAm.1
  have hS : va_S A s9.heap s9.heap [] := va_S.rf
  have hl : lv_has ls 2 [(0, .ref q), (1, .int v)] := hl
  refine lv_aload_n hx hb dX8_line_0 rfl (lv_at hl 0 rfl) ?_
  refine lv_iload_n hx hb dX8_line_1 rfl (lv_at hl 1 rfl) ?_
  refine lv_if_ge (tgt := 9) hx hb dX8_line_2 (by decide) (fun c_2 => ?_) (fun c_2 => ?_)
  · exact absurd c_2 hbad
  · refine lv_iconst (v := 1) hx hb dX8_line_5 (by decide) ?_
    refine lv_goto (tgt := 10) hx hb dX8_line_6 (by decide) ?_
    refine aftI C (runV_G (As := [.int 1]) (rest := []) (ci := 8) (N := 24) (T := TX8) (q0 := 0) C (mX8_refused l D G q ma sN L th nd ct ht sp iw mn 1 (by omega)) hS hP hD [0] rfl (by decide) rfl rfl (ys_X8_refused) kw_11_0 kw_11_1 kw_11_2 ⟨Nat.le_of_ble_eq_true rfl, Nat.le_of_ble_eq_true rfl⟩ hl.1 (Nat.le_of_ble_eq_true rfl) dX8_line_10 rfl rfl ⟨Nat.zero_le _, Nat.zero_le _⟩) hS hP hD [0] rfl (fun _ => rfl) (fun r10 _ H locs hp10 hP hD hS => ?_)
    have hP : va_P D vwCl [(q, .inr (8, [.ref (ma 0), .ref (ma 1), .int (nI sN), .ref (ma 2), .int (nI L), .int (nI 1), .ref (ma 3), .ref (ma 4), .ref (ma 5), .ref (ma 6), .int nd, .int ct, .int ht, .ref (ma 7), .ref (ma 8), .ref (ma 9), .ref (ma 10), .ref (ma 11), .ref (ma 12), .ref (ma 13), .ref (ma 14), .int sp, .int iw, .int mn])), (ma 0, .inl (G.1, 457, .inl sr))] H := hP
    have hD : va_D A [(q, .inr (8, [.ref (ma 0), .ref (ma 1), .int (nI sN), .ref (ma 2), .int (nI L), .int (nI 1), .ref (ma 3), .ref (ma 4), .ref (ma 5), .ref (ma 6), .int nd, .int ct, .int ht, .ref (ma 7), .ref (ma 8), .ref (ma 9), .ref (ma 10), .ref (ma 11), .ref (ma 12), .ref (ma 13), .ref (ma 14), .int sp, .int iw, .int mn])), (ma 0, .inl (G.1, 457, .inl sr))] := hD
    refine ro_top (z := bI (0 < 1)) hx hp10 ?_
    refine lv_if_eq (tgt := 18) hx hb dX8_line_13 (by decide) (fun h => absurd h (by decide)) (fun _ => ?_)
    refine lv_iconst (v := 0) hx hb dX8_line_16 (by decide) ?_
    exact endI C rfl () rfl hS hP dX8_line_17
