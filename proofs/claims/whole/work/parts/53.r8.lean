set_option maxHeartbeats 800000 in
set_option maxRecDepth 100000 in
theorem mX8_setOrder (l : Launch) (D : va_G) (G : u_G) (q : Nat) (ma : Nat → Nat) (sN L : Nat) (th nd ct ht sp iw mn : Int32) (sr p : Nat → Int32) (x : Nat → Nat) (y : Nat → Int32) (M : Nat) (bw : Nat → Nat → Int32) (o : Nat) (hR : RowR sr x y M p) (hM : M ≤ 12) (hsN : sN ≤ 6) (ho : o < 24) : MtI l D G yX8_setOrder cX8_setOrder 3 .int 3 0 0 [.ref q, .int (nI o)] [(q, .inr (8, [.ref (ma 0), .ref (ma 1), .int (nI sN), .ref (ma 2), .int (nI L), .int th, .ref (ma 3), .ref (ma 4), .ref (ma 5), .ref (ma 6), .int nd, .int ct, .int ht, .ref (ma 7), .ref (ma 8), .ref (ma 9), .ref (ma 10), .ref (ma 11), .ref (ma 12), .ref (ma 13), .ref (ma 14), .int sp, .int iw, .int mn])), (ma 0, .inl (G.1, 457, .inl sr)), (ma 1, .inl (G.1, 2742, .inl (bfF bw)))] (fun (r : Int32) (u : Nat → Int32) => r = nI (x 18) ∧ RowR u (va_up x 18 o) y M p) (fun (u : Nat → Int32) => [(q, .inr (8, [.ref (ma 0), .ref (ma 1), .int (nI (svN sN)), .ref (ma 2), .int (nI L), .int (nI 0), .ref (ma 3), .ref (ma 4), .ref (ma 5), .ref (ma 6), .int nd, .int ct, .int ht, .ref (ma 7), .ref (ma 8), .ref (ma 9), .ref (ma 10), .ref (ma 11), .ref (ma 12), .ref (ma 13), .ref (ma 14), .int sp, .int iw, .int mn])), (ma 0, .inl (G.1, 457, .inl u)), (ma 1, .inl (G.1, 2742, .inl (bfF (svR bw sr sN))))]) := by
  refine MtI.of (by decide) (Nat.le_of_ble_eq_true rfl) ?_
  intro pr e s9 m9 below meth c9 A ls C hP hD hl
  obtain ⟨hx, hb, hml, hown, hts, hr, hlocks, hA, hAm⟩ := id C
  have hK := hAm.1
  have hS : va_S A s9.heap s9.heap [] := va_S.rf
  have hl : lv_has ls 3 [(0, .ref q), (1, .int (nI o))] := hl
  refine lv_aload_n hx hb dX8_setOrder_0 rfl (lv_at hl 0 rfl) ?_
  refine lv_iload_n hx hb dX8_setOrder_1 rfl (lv_at hl 1 rfl) ?_
  refine lv_iconst (v := 0) hx hb dX8_setOrder_2 (by decide) ?_
  refine lv_bipush (v := 23) hx hb dX8_setOrder_3 (by decide) ?_
  refine aftI0 C (runS_G (As := [.int (nI o), .int 0, .int 23]) (rest := [.ref q]) C (mX8_in l D G (nI o) 0 23 ) hS hP hD [] rfl (by decide) (ys_X8_in) kw_10_21 kw_10_22 ⟨Nat.le_of_ble_eq_true rfl, Nat.le_of_ble_eq_true rfl⟩ hl.1 (Nat.le_of_ble_eq_true rfl) dX8_setOrder_5 rfl rfl ⟨Nat.zero_le _, Nat.zero_le _⟩) hS hP hD [] rfl (fun r5 _ H locs hp5 hP hS => ?_)
  refine ro_top (z := bI (¬ (nI o) < 0 ∧ ¬ 23 < (nI o))) hx hp5 ?_
  refine lv_if_eq (tgt := 15) hx hb dX8_setOrder_8 (by decide) (fun c_8 => ?_) (fun c_8 => ?_)
  · have c_8 := bI_0 c_8
    exact absurd (nin (Nat.zero_le o) (show o ≤ 23 by omega) (by decide)) c_8
  · have c_8 := bI_1 c_8
    refine lv_iconst (v := 0) hx hb dX8_setOrder_11 (by decide) ?_
    refine lv_goto (tgt := 16) hx hb dX8_setOrder_12 (by decide) ?_
    refine aftI C (runV_G (As := [.int 0]) (rest := []) (ci := 8) (N := 24) (T := TX8) (q0 := 0) C (mX8_refused l D G q ma sN L th nd ct ht sp iw mn 0 (by omega)) hS hP hD [0] rfl (by decide) rfl rfl (ys_X8_refused) kw_11_0 kw_11_1 kw_11_2 ⟨Nat.le_of_ble_eq_true rfl, Nat.le_of_ble_eq_true rfl⟩ hl.1 (Nat.le_of_ble_eq_true rfl) dX8_setOrder_16 rfl rfl ⟨Nat.zero_le _, Nat.zero_le _⟩) hS hP hD [0] rfl (fun _ => rfl) (fun r16 _ H locs hp16 hP hD hS => ?_)
    have hP : va_P D vwCl [(q, .inr (8, [.ref (ma 0), .ref (ma 1), .int (nI sN), .ref (ma 2), .int (nI L), .int (nI 0), .ref (ma 3), .ref (ma 4), .ref (ma 5), .ref (ma 6), .int nd, .int ct, .int ht, .ref (ma 7), .ref (ma 8), .ref (ma 9), .ref (ma 10), .ref (ma 11), .ref (ma 12), .ref (ma 13), .ref (ma 14), .int sp, .int iw, .int mn])), (ma 0, .inl (G.1, 457, .inl sr)), (ma 1, .inl (G.1, 2742, .inl (bfF bw)))] H := hP
    have hD : va_D A [(q, .inr (8, [.ref (ma 0), .ref (ma 1), .int (nI sN), .ref (ma 2), .int (nI L), .int (nI 0), .ref (ma 3), .ref (ma 4), .ref (ma 5), .ref (ma 6), .int nd, .int ct, .int ht, .ref (ma 7), .ref (ma 8), .ref (ma 9), .ref (ma 10), .ref (ma 11), .ref (ma 12), .ref (ma 13), .ref (ma 14), .int sp, .int iw, .int mn])), (ma 0, .inl (G.1, 457, .inl sr)), (ma 1, .inl (G.1, 2742, .inl (bfF bw)))] := hD
    refine ro_top (z := bI (0 < 0)) hx hp16 ?_
    refine lv_if_eq (tgt := 24) hx hb dX8_setOrder_19 (by decide) (fun _ => ?_) (fun h => absurd (by decide) h)
    refine lv_aload_n hx hb dX8_setOrder_24 rfl (lv_at hl 0 rfl) ?_
    refine aftV C (runV_G (As := []) (rest := []) (ci := 8) (N := 24) (T := TX8) (q0 := 0) C (mX8_saves l D G q ma sN L (nI 0) nd ct ht sp iw mn sr bw hsN) hS hP hD [0, 1, 2] rfl (by decide) rfl rfl (ys_X8_saves) kw_11_5 kw_11_6 kw_11_7 ⟨Nat.le_of_ble_eq_true rfl, Nat.le_of_ble_eq_true rfl⟩ hl.1 (Nat.le_of_ble_eq_true rfl) dX8_setOrder_25 rfl rfl ⟨Nat.zero_le _, Nat.zero_le _⟩) hS hP hD [0, 1, 2] rfl (fun _ => rfl) (fun _ H locs hp25 hP hD hS => ?_)
    have hP : va_P D vwCl [(q, .inr (8, [.ref (ma 0), .ref (ma 1), .int (nI (svN sN)), .ref (ma 2), .int (nI L), .int (nI 0), .ref (ma 3), .ref (ma 4), .ref (ma 5), .ref (ma 6), .int nd, .int ct, .int ht, .ref (ma 7), .ref (ma 8), .ref (ma 9), .ref (ma 10), .ref (ma 11), .ref (ma 12), .ref (ma 13), .ref (ma 14), .int sp, .int iw, .int mn])), (ma 0, .inl (G.1, 457, .inl sr)), (ma 1, .inl (G.1, 2742, .inl (bfF (svR bw sr sN))))] H := hP
    have hD : va_D A [(q, .inr (8, [.ref (ma 0), .ref (ma 1), .int (nI (svN sN)), .ref (ma 2), .int (nI L), .int (nI 0), .ref (ma 3), .ref (ma 4), .ref (ma 5), .ref (ma 6), .int nd, .int ct, .int ht, .ref (ma 7), .ref (ma 8), .ref (ma 9), .ref (ma 10), .ref (ma 11), .ref (ma 12), .ref (ma 13), .ref (ma 14), .int sp, .int iw, .int mn])), (ma 0, .inl (G.1, 457, .inl sr)), (ma 1, .inl (G.1, 2742, .inl (bfF (svR bw sr sN))))] := hD
    refine lv_aload_n hx hb dX8_setOrder_28 rfl (lv_at hl 0 rfl) ?_
    refine va_get (D := D) (ci := 8) (v := .ref (ma 0)) (C := RX8) (T := TX8) (N := 24) hx hb hts inlX8 hown hK hP 0 rfl rfl 0 (by decide) (hts _ kw_5_6) (fun _ h9 => h9) rfl dX8_setOrder_29 ?_
    refine lv_bipush (v := 18) hx hb dX8_setOrder_32 (by decide) ?_
    refine ro_iald (k := 18) (v := nI (x 18)) hx hb hK hP 1 0 rfl rfl rfl (by decide) (by decide) hR.n18 dX8_setOrder_34 ?_
    refine lv_istore_n (lv' := [(2, .int (nI (x 18))), (0, .ref q), (1, .int (nI o))]) hx hb dX8_setOrder_35 rfl hl (by decide) rfl (fun ls hl => ?_)
    refine lv_aload_n hx hb dX8_setOrder_36 rfl (lv_at hl 1 rfl) ?_
    refine va_get (D := D) (ci := 8) (v := .ref (ma 0)) (C := RX8) (T := TX8) (N := 24) hx hb hts inlX8 hown hK hP 0 rfl rfl 0 (by decide) (hts _ kw_5_6) (fun _ h9 => h9) rfl dX8_setOrder_37 ?_
    refine lv_bipush (v := 18) hx hb dX8_setOrder_40 (by decide) ?_
    refine lv_iload_n hx hb dX8_setOrder_42 rfl (lv_at hl 2 rfl) ?_
    refine ro_iast (k := 18) hx hb hK hP hD hS 1 0 rfl rfl rfl (by decide) (by decide) dX8_setOrder_43 (fun H locs hP hD hS => ?_)
    have hP : va_P D vwCl [(q, .inr (8, [.ref (ma 0), .ref (ma 1), .int (nI (svN sN)), .ref (ma 2), .int (nI L), .int (nI 0), .ref (ma 3), .ref (ma 4), .ref (ma 5), .ref (ma 6), .int nd, .int ct, .int ht, .ref (ma 7), .ref (ma 8), .ref (ma 9), .ref (ma 10), .ref (ma 11), .ref (ma 12), .ref (ma 13), .ref (ma 14), .int sp, .int iw, .int mn])), (ma 0, .inl (G.1, 457, .inl (upd sr 18 (nI o)))), (ma 1, .inl (G.1, 2742, .inl (bfF (svR bw sr sN))))] H := hP
    have hD : va_D A [(q, .inr (8, [.ref (ma 0), .ref (ma 1), .int (nI (svN sN)), .ref (ma 2), .int (nI L), .int (nI 0), .ref (ma 3), .ref (ma 4), .ref (ma 5), .ref (ma 6), .int nd, .int ct, .int ht, .ref (ma 7), .ref (ma 8), .ref (ma 9), .ref (ma 10), .ref (ma 11), .ref (ma 12), .ref (ma 13), .ref (ma 14), .int sp, .int iw, .int mn])), (ma 0, .inl (G.1, 457, .inl (upd sr 18 (nI o)))), (ma 1, .inl (G.1, 2742, .inl (bfF (svR bw sr sN))))] := hD
    refine lv_iload_n hx hb dX8_setOrder_44 rfl (lv_at hl 0 rfl) ?_
    exact endI C rfl (upd sr 18 (nI o)) ⟨rfl, hR.upX hM (Or.inl rfl)⟩ hS hP dX8_setOrder_45
set_option maxHeartbeats 800000 in
set_option maxRecDepth 100000 in
theorem mX8_setOrder_T1 (l : Launch) (D : va_G) (G : u_G) (q : Nat) (ma : Nat → Nat) (sN L : Nat) (th nd ct ht sp iw mn : Int32) (sr p : Nat → Int32) (x : Nat → Nat) (y : Nat → Int32) (M : Nat) (v : Int32) (hR : RowR sr x y M p) (hM : M ≤ 12) (hbad : ¬ (¬ v < 0 ∧ ¬ 23 < v)) : MtI l D G yX8_setOrder cX8_setOrder 3 .int 3 0 0 [.ref q, .int v] [(q, .inr (8, [.ref (ma 0), .ref (ma 1), .int (nI sN), .ref (ma 2), .int (nI L), .int th, .ref (ma 3), .ref (ma 4), .ref (ma 5), .ref (ma 6), .int nd, .int ct, .int ht, .ref (ma 7), .ref (ma 8), .ref (ma 9), .ref (ma 10), .ref (ma 11), .ref (ma 12), .ref (ma 13), .ref (ma 14), .int sp, .int iw, .int mn])), (ma 0, .inl (G.1, 457, .inl sr))] (fun (r : Int32) (_ : Unit) => r = 0) (fun (_ : Unit) => [(q, .inr (8, [.ref (ma 0), .ref (ma 1), .int (nI sN), .ref (ma 2), .int (nI L), .int (nI 1), .ref (ma 3), .ref (ma 4), .ref (ma 5), .ref (ma 6), .int nd, .int ct, .int ht, .ref (ma 7), .ref (ma 8), .ref (ma 9), .ref (ma 10), .ref (ma 11), .ref (ma 12), .ref (ma 13), .ref (ma 14), .int sp, .int iw, .int mn])), (ma 0, .inl (G.1, 457, .inl sr))]) := by
  refine MtI.of (by decide) (Nat.le_of_ble_eq_true rfl) ?_
  intro pr e s9 m9 below meth c9 A ls C hP hD hl
  obtain ⟨hx, hb, hml, hown, hts, hr, hlocks, hA, hAm⟩ := id C
  have hK := hAm.1
  have hS : va_S A s9.heap s9.heap [] := va_S.rf
  have hl : lv_has ls 3 [(0, .ref q), (1, .int v)] := hl
  refine lv_aload_n hx hb dX8_setOrder_0 rfl (lv_at hl 0 rfl) ?_
  refine lv_iload_n hx hb dX8_setOrder_1 rfl (lv_at hl 1 rfl) ?_
  refine lv_iconst (v := 0) hx hb dX8_setOrder_2 (by decide) ?_
  refine lv_bipush (v := 23) hx hb dX8_setOrder_3 (by decide) ?_
  refine aftI0 C (runS_G (As := [.int v, .int 0, .int 23]) (rest := [.ref q]) C (mX8_in l D G v 0 23 ) hS hP hD [] rfl (by decide) (ys_X8_in) kw_10_21 kw_10_22 ⟨Nat.le_of_ble_eq_true rfl, Nat.le_of_ble_eq_true rfl⟩ hl.1 (Nat.le_of_ble_eq_true rfl) dX8_setOrder_5 rfl rfl ⟨Nat.zero_le _, Nat.zero_le _⟩) hS hP hD [] rfl (fun r5 _ H locs hp5 hP hS => ?_)
  refine ro_top (z := bI (¬ v < 0 ∧ ¬ 23 < v)) hx hp5 ?_
  refine lv_if_eq (tgt := 15) hx hb dX8_setOrder_8 (by decide) (fun c_8 => ?_) (fun c_8 => ?_)
  · have c_8 := bI_0 c_8
    refine lv_iconst (v := 1) hx hb dX8_setOrder_15 (by decide) ?_
    refine aftI C (runV_G (As := [.int 1]) (rest := []) (ci := 8) (N := 24) (T := TX8) (q0 := 0) C (mX8_refused l D G q ma sN L th nd ct ht sp iw mn 1 (by omega)) hS hP hD [0] rfl (by decide) rfl rfl (ys_X8_refused) kw_11_0 kw_11_1 kw_11_2 ⟨Nat.le_of_ble_eq_true rfl, Nat.le_of_ble_eq_true rfl⟩ hl.1 (Nat.le_of_ble_eq_true rfl) dX8_setOrder_16 rfl rfl ⟨Nat.zero_le _, Nat.zero_le _⟩) hS hP hD [0] rfl (fun _ => rfl) (fun r16 _ H locs hp16 hP hD hS => ?_)
    have hP : va_P D vwCl [(q, .inr (8, [.ref (ma 0), .ref (ma 1), .int (nI sN), .ref (ma 2), .int (nI L), .int (nI 1), .ref (ma 3), .ref (ma 4), .ref (ma 5), .ref (ma 6), .int nd, .int ct, .int ht, .ref (ma 7), .ref (ma 8), .ref (ma 9), .ref (ma 10), .ref (ma 11), .ref (ma 12), .ref (ma 13), .ref (ma 14), .int sp, .int iw, .int mn])), (ma 0, .inl (G.1, 457, .inl sr))] H := hP
    have hD : va_D A [(q, .inr (8, [.ref (ma 0), .ref (ma 1), .int (nI sN), .ref (ma 2), .int (nI L), .int (nI 1), .ref (ma 3), .ref (ma 4), .ref (ma 5), .ref (ma 6), .int nd, .int ct, .int ht, .ref (ma 7), .ref (ma 8), .ref (ma 9), .ref (ma 10), .ref (ma 11), .ref (ma 12), .ref (ma 13), .ref (ma 14), .int sp, .int iw, .int mn])), (ma 0, .inl (G.1, 457, .inl sr))] := hD
    refine ro_top (z := bI (0 < 1)) hx hp16 ?_
    refine lv_if_eq (tgt := 24) hx hb dX8_setOrder_19 (by decide) (fun h => absurd h (by decide)) (fun _ => ?_)
    refine lv_iconst (v := 0) hx hb dX8_setOrder_22 (by decide) ?_
    exact endI C rfl () rfl hS hP dX8_setOrder_23
  · have c_8 := bI_1 c_8
    exact absurd c_8 hbad
set_option maxHeartbeats 800000 in
set_option maxRecDepth 100000 in
theorem mX8_setLimit (l : Launch) (D : va_G) (G : u_G) (q : Nat) (ma : Nat → Nat) (sN L : Nat) (th nd ct ht sp iw mn : Int32) (sr p : Nat → Int32) (x : Nat → Nat) (y : Nat → Int32) (M : Nat) (bw : Nat → Nat → Int32) (k : Nat) (hR : RowR sr x y M p) (hM : M ≤ 12) (hsN : sN ≤ 6) (h1 : 1 ≤ k) (h2 : k ≤ 5000) : MtI l D G yX8_setLimit cX8_setLimit 3 .int 3 0 0 [.ref q, .int (nI k)] [(q, .inr (8, [.ref (ma 0), .ref (ma 1), .int (nI sN), .ref (ma 2), .int (nI L), .int th, .ref (ma 3), .ref (ma 4), .ref (ma 5), .ref (ma 6), .int nd, .int ct, .int ht, .ref (ma 7), .ref (ma 8), .ref (ma 9), .ref (ma 10), .ref (ma 11), .ref (ma 12), .ref (ma 13), .ref (ma 14), .int sp, .int iw, .int mn])), (ma 0, .inl (G.1, 457, .inl sr)), (ma 1, .inl (G.1, 2742, .inl (bfF bw)))] (fun (r : Int32) (u : Nat → Int32) => r = nI (x 19) ∧ RowR u (va_up x 19 k) y M p) (fun (u : Nat → Int32) => [(q, .inr (8, [.ref (ma 0), .ref (ma 1), .int (nI (svN sN)), .ref (ma 2), .int (nI L), .int (nI 0), .ref (ma 3), .ref (ma 4), .ref (ma 5), .ref (ma 6), .int nd, .int ct, .int ht, .ref (ma 7), .ref (ma 8), .ref (ma 9), .ref (ma 10), .ref (ma 11), .ref (ma 12), .ref (ma 13), .ref (ma 14), .int sp, .int iw, .int mn])), (ma 0, .inl (G.1, 457, .inl u)), (ma 1, .inl (G.1, 2742, .inl (bfF (svR bw sr sN))))]) := by
  refine MtI.of (by decide) (Nat.le_of_ble_eq_true rfl) ?_
  intro pr e s9 m9 below meth c9 A ls C hP hD hl
  obtain ⟨hx, hb, hml, hown, hts, hr, hlocks, hA, hAm⟩ := id C
  have hK := hAm.1
  have hS : va_S A s9.heap s9.heap [] := va_S.rf
  have hl : lv_has ls 3 [(0, .ref q), (1, .int (nI k))] := hl
  refine lv_aload_n hx hb dX8_setLimit_0 rfl (lv_at hl 0 rfl) ?_
  refine lv_iload_n hx hb dX8_setLimit_1 rfl (lv_at hl 1 rfl) ?_
  refine lv_iconst (v := 1) hx hb dX8_setLimit_2 (by decide) ?_
  refine lv_sipush (v := 5000) hx hb dX8_setLimit_3 (by decide) ?_
  refine aftI0 C (runS_G (As := [.int (nI k), .int 1, .int 5000]) (rest := [.ref q]) C (mX8_in l D G (nI k) 1 5000 ) hS hP hD [] rfl (by decide) (ys_X8_in) kw_10_21 kw_10_22 ⟨Nat.le_of_ble_eq_true rfl, Nat.le_of_ble_eq_true rfl⟩ hl.1 (Nat.le_of_ble_eq_true rfl) dX8_setLimit_6 rfl rfl ⟨Nat.zero_le _, Nat.zero_le _⟩) hS hP hD [] rfl (fun r6 _ H locs hp6 hP hS => ?_)
  refine ro_top (z := bI (¬ (nI k) < 1 ∧ ¬ 5000 < (nI k))) hx hp6 ?_
  refine lv_if_eq (tgt := 16) hx hb dX8_setLimit_9 (by decide) (fun c_9 => ?_) (fun c_9 => ?_)
  · have c_9 := bI_0 c_9
    exact absurd (nin h1 h2 (by decide)) c_9
  · have c_9 := bI_1 c_9
    refine lv_iconst (v := 0) hx hb dX8_setLimit_12 (by decide) ?_
    refine lv_goto (tgt := 17) hx hb dX8_setLimit_13 (by decide) ?_
    refine aftI C (runV_G (As := [.int 0]) (rest := []) (ci := 8) (N := 24) (T := TX8) (q0 := 0) C (mX8_refused l D G q ma sN L th nd ct ht sp iw mn 0 (by omega)) hS hP hD [0] rfl (by decide) rfl rfl (ys_X8_refused) kw_11_0 kw_11_1 kw_11_2 ⟨Nat.le_of_ble_eq_true rfl, Nat.le_of_ble_eq_true rfl⟩ hl.1 (Nat.le_of_ble_eq_true rfl) dX8_setLimit_17 rfl rfl ⟨Nat.zero_le _, Nat.zero_le _⟩) hS hP hD [0] rfl (fun _ => rfl) (fun r17 _ H locs hp17 hP hD hS => ?_)
    have hP : va_P D vwCl [(q, .inr (8, [.ref (ma 0), .ref (ma 1), .int (nI sN), .ref (ma 2), .int (nI L), .int (nI 0), .ref (ma 3), .ref (ma 4), .ref (ma 5), .ref (ma 6), .int nd, .int ct, .int ht, .ref (ma 7), .ref (ma 8), .ref (ma 9), .ref (ma 10), .ref (ma 11), .ref (ma 12), .ref (ma 13), .ref (ma 14), .int sp, .int iw, .int mn])), (ma 0, .inl (G.1, 457, .inl sr)), (ma 1, .inl (G.1, 2742, .inl (bfF bw)))] H := hP
    have hD : va_D A [(q, .inr (8, [.ref (ma 0), .ref (ma 1), .int (nI sN), .ref (ma 2), .int (nI L), .int (nI 0), .ref (ma 3), .ref (ma 4), .ref (ma 5), .ref (ma 6), .int nd, .int ct, .int ht, .ref (ma 7), .ref (ma 8), .ref (ma 9), .ref (ma 10), .ref (ma 11), .ref (ma 12), .ref (ma 13), .ref (ma 14), .int sp, .int iw, .int mn])), (ma 0, .inl (G.1, 457, .inl sr)), (ma 1, .inl (G.1, 2742, .inl (bfF bw)))] := hD
    refine ro_top (z := bI (0 < 0)) hx hp17 ?_
    refine lv_if_eq (tgt := 25) hx hb dX8_setLimit_20 (by decide) (fun _ => ?_) (fun h => absurd (by decide) h)
    refine lv_aload_n hx hb dX8_setLimit_25 rfl (lv_at hl 0 rfl) ?_
    refine aftV C (runV_G (As := []) (rest := []) (ci := 8) (N := 24) (T := TX8) (q0 := 0) C (mX8_saves l D G q ma sN L (nI 0) nd ct ht sp iw mn sr bw hsN) hS hP hD [0, 1, 2] rfl (by decide) rfl rfl (ys_X8_saves) kw_11_5 kw_11_6 kw_11_7 ⟨Nat.le_of_ble_eq_true rfl, Nat.le_of_ble_eq_true rfl⟩ hl.1 (Nat.le_of_ble_eq_true rfl) dX8_setLimit_26 rfl rfl ⟨Nat.zero_le _, Nat.zero_le _⟩) hS hP hD [0, 1, 2] rfl (fun _ => rfl) (fun _ H locs hp26 hP hD hS => ?_)
    have hP : va_P D vwCl [(q, .inr (8, [.ref (ma 0), .ref (ma 1), .int (nI (svN sN)), .ref (ma 2), .int (nI L), .int (nI 0), .ref (ma 3), .ref (ma 4), .ref (ma 5), .ref (ma 6), .int nd, .int ct, .int ht, .ref (ma 7), .ref (ma 8), .ref (ma 9), .ref (ma 10), .ref (ma 11), .ref (ma 12), .ref (ma 13), .ref (ma 14), .int sp, .int iw, .int mn])), (ma 0, .inl (G.1, 457, .inl sr)), (ma 1, .inl (G.1, 2742, .inl (bfF (svR bw sr sN))))] H := hP
    have hD : va_D A [(q, .inr (8, [.ref (ma 0), .ref (ma 1), .int (nI (svN sN)), .ref (ma 2), .int (nI L), .int (nI 0), .ref (ma 3), .ref (ma 4), .ref (ma 5), .ref (ma 6), .int nd, .int ct, .int ht, .ref (ma 7), .ref (ma 8), .ref (ma 9), .ref (ma 10), .ref (ma 11), .ref (ma 12), .ref (ma 13), .ref (ma 14), .int sp, .int iw, .int mn])), (ma 0, .inl (G.1, 457, .inl sr)), (ma 1, .inl (G.1, 2742, .inl (bfF (svR bw sr sN))))] := hD
    refine lv_aload_n hx hb dX8_setLimit_29 rfl (lv_at hl 0 rfl) ?_
    refine va_get (D := D) (ci := 8) (v := .ref (ma 0)) (C := RX8) (T := TX8) (N := 24) hx hb hts inlX8 hown hK hP 0 rfl rfl 0 (by decide) (hts _ kw_5_6) (fun _ h9 => h9) rfl dX8_setLimit_30 ?_
    refine lv_bipush (v := 19) hx hb dX8_setLimit_33 (by decide) ?_
    refine ro_iald (k := 19) (v := nI (x 19)) hx hb hK hP 1 0 rfl rfl rfl (by decide) (by decide) hR.n19 dX8_setLimit_35 ?_
    refine lv_istore_n (lv' := [(2, .int (nI (x 19))), (0, .ref q), (1, .int (nI k))]) hx hb dX8_setLimit_36 rfl hl (by decide) rfl (fun ls hl => ?_)
    refine lv_aload_n hx hb dX8_setLimit_37 rfl (lv_at hl 1 rfl) ?_
    refine va_get (D := D) (ci := 8) (v := .ref (ma 0)) (C := RX8) (T := TX8) (N := 24) hx hb hts inlX8 hown hK hP 0 rfl rfl 0 (by decide) (hts _ kw_5_6) (fun _ h9 => h9) rfl dX8_setLimit_38 ?_
    refine lv_bipush (v := 19) hx hb dX8_setLimit_41 (by decide) ?_
    refine lv_iload_n hx hb dX8_setLimit_43 rfl (lv_at hl 2 rfl) ?_
    refine ro_iast (k := 19) hx hb hK hP hD hS 1 0 rfl rfl rfl (by decide) (by decide) dX8_setLimit_44 (fun H locs hP hD hS => ?_)
    have hP : va_P D vwCl [(q, .inr (8, [.ref (ma 0), .ref (ma 1), .int (nI (svN sN)), .ref (ma 2), .int (nI L), .int (nI 0), .ref (ma 3), .ref (ma 4), .ref (ma 5), .ref (ma 6), .int nd, .int ct, .int ht, .ref (ma 7), .ref (ma 8), .ref (ma 9), .ref (ma 10), .ref (ma 11), .ref (ma 12), .ref (ma 13), .ref (ma 14), .int sp, .int iw, .int mn])), (ma 0, .inl (G.1, 457, .inl (upd sr 19 (nI k)))), (ma 1, .inl (G.1, 2742, .inl (bfF (svR bw sr sN))))] H := hP
    have hD : va_D A [(q, .inr (8, [.ref (ma 0), .ref (ma 1), .int (nI (svN sN)), .ref (ma 2), .int (nI L), .int (nI 0), .ref (ma 3), .ref (ma 4), .ref (ma 5), .ref (ma 6), .int nd, .int ct, .int ht, .ref (ma 7), .ref (ma 8), .ref (ma 9), .ref (ma 10), .ref (ma 11), .ref (ma 12), .ref (ma 13), .ref (ma 14), .int sp, .int iw, .int mn])), (ma 0, .inl (G.1, 457, .inl (upd sr 19 (nI k)))), (ma 1, .inl (G.1, 2742, .inl (bfF (svR bw sr sN))))] := hD
    refine lv_iload_n hx hb dX8_setLimit_45 rfl (lv_at hl 0 rfl) ?_
    exact endI C rfl (upd sr 19 (nI k)) ⟨rfl, hR.upX hM (Or.inr (Or.inl rfl))⟩ hS hP dX8_setLimit_46
set_option maxHeartbeats 800000 in
set_option maxRecDepth 100000 in
theorem mX8_setLimit_T1 (l : Launch) (D : va_G) (G : u_G) (q : Nat) (ma : Nat → Nat) (sN L : Nat) (th nd ct ht sp iw mn : Int32) (sr p : Nat → Int32) (x : Nat → Nat) (y : Nat → Int32) (M : Nat) (v : Int32) (hR : RowR sr x y M p) (hM : M ≤ 12) (hbad : ¬ (¬ v < 1 ∧ ¬ 5000 < v)) : MtI l D G yX8_setLimit cX8_setLimit 3 .int 3 0 0 [.ref q, .int v] [(q, .inr (8, [.ref (ma 0), .ref (ma 1), .int (nI sN), .ref (ma 2), .int (nI L), .int th, .ref (ma 3), .ref (ma 4), .ref (ma 5), .ref (ma 6), .int nd, .int ct, .int ht, .ref (ma 7), .ref (ma 8), .ref (ma 9), .ref (ma 10), .ref (ma 11), .ref (ma 12), .ref (ma 13), .ref (ma 14), .int sp, .int iw, .int mn])), (ma 0, .inl (G.1, 457, .inl sr))] (fun (r : Int32) (_ : Unit) => r = 0) (fun (_ : Unit) => [(q, .inr (8, [.ref (ma 0), .ref (ma 1), .int (nI sN), .ref (ma 2), .int (nI L), .int (nI 1), .ref (ma 3), .ref (ma 4), .ref (ma 5), .ref (ma 6), .int nd, .int ct, .int ht, .ref (ma 7), .ref (ma 8), .ref (ma 9), .ref (ma 10), .ref (ma 11), .ref (ma 12), .ref (ma 13), .ref (ma 14), .int sp, .int iw, .int mn])), (ma 0, .inl (G.1, 457, .inl sr))]) := by
  refine MtI.of (by decide) (Nat.le_of_ble_eq_true rfl) ?_
  intro pr e s9 m9 below meth c9 A ls C hP hD hl
  obtain ⟨hx, hb, hml, hown, hts, hr, hlocks, hA, hAm⟩ := id C
  have hK := hAm.1
  have hS : va_S A s9.heap s9.heap [] := va_S.rf
  have hl : lv_has ls 3 [(0, .ref q), (1, .int v)] := hl
  refine lv_aload_n hx hb dX8_setLimit_0 rfl (lv_at hl 0 rfl) ?_
  refine lv_iload_n hx hb dX8_setLimit_1 rfl (lv_at hl 1 rfl) ?_
  refine lv_iconst (v := 1) hx hb dX8_setLimit_2 (by decide) ?_
  refine lv_sipush (v := 5000) hx hb dX8_setLimit_3 (by decide) ?_
  refine aftI0 C (runS_G (As := [.int v, .int 1, .int 5000]) (rest := [.ref q]) C (mX8_in l D G v 1 5000 ) hS hP hD [] rfl (by decide) (ys_X8_in) kw_10_21 kw_10_22 ⟨Nat.le_of_ble_eq_true rfl, Nat.le_of_ble_eq_true rfl⟩ hl.1 (Nat.le_of_ble_eq_true rfl) dX8_setLimit_6 rfl rfl ⟨Nat.zero_le _, Nat.zero_le _⟩) hS hP hD [] rfl (fun r6 _ H locs hp6 hP hS => ?_)
  refine ro_top (z := bI (¬ v < 1 ∧ ¬ 5000 < v)) hx hp6 ?_
  refine lv_if_eq (tgt := 16) hx hb dX8_setLimit_9 (by decide) (fun c_9 => ?_) (fun c_9 => ?_)
  · have c_9 := bI_0 c_9
    refine lv_iconst (v := 1) hx hb dX8_setLimit_16 (by decide) ?_
    refine aftI C (runV_G (As := [.int 1]) (rest := []) (ci := 8) (N := 24) (T := TX8) (q0 := 0) C (mX8_refused l D G q ma sN L th nd ct ht sp iw mn 1 (by omega)) hS hP hD [0] rfl (by decide) rfl rfl (ys_X8_refused) kw_11_0 kw_11_1 kw_11_2 ⟨Nat.le_of_ble_eq_true rfl, Nat.le_of_ble_eq_true rfl⟩ hl.1 (Nat.le_of_ble_eq_true rfl) dX8_setLimit_17 rfl rfl ⟨Nat.zero_le _, Nat.zero_le _⟩) hS hP hD [0] rfl (fun _ => rfl) (fun r17 _ H locs hp17 hP hD hS => ?_)
    have hP : va_P D vwCl [(q, .inr (8, [.ref (ma 0), .ref (ma 1), .int (nI sN), .ref (ma 2), .int (nI L), .int (nI 1), .ref (ma 3), .ref (ma 4), .ref (ma 5), .ref (ma 6), .int nd, .int ct, .int ht, .ref (ma 7), .ref (ma 8), .ref (ma 9), .ref (ma 10), .ref (ma 11), .ref (ma 12), .ref (ma 13), .ref (ma 14), .int sp, .int iw, .int mn])), (ma 0, .inl (G.1, 457, .inl sr))] H := hP
    have hD : va_D A [(q, .inr (8, [.ref (ma 0), .ref (ma 1), .int (nI sN), .ref (ma 2), .int (nI L), .int (nI 1), .ref (ma 3), .ref (ma 4), .ref (ma 5), .ref (ma 6), .int nd, .int ct, .int ht, .ref (ma 7), .ref (ma 8), .ref (ma 9), .ref (ma 10), .ref (ma 11), .ref (ma 12), .ref (ma 13), .ref (ma 14), .int sp, .int iw, .int mn])), (ma 0, .inl (G.1, 457, .inl sr))] := hD
    refine ro_top (z := bI (0 < 1)) hx hp17 ?_
    refine lv_if_eq (tgt := 25) hx hb dX8_setLimit_20 (by decide) (fun h => absurd h (by decide)) (fun _ => ?_)
    refine lv_iconst (v := 0) hx hb dX8_setLimit_23 (by decide) ?_
    exact endI C rfl () rfl hS hP dX8_setLimit_24
  · have c_9 := bI_1 c_9
    exact absurd c_9 hbad
set_option maxHeartbeats 800000 in
set_option maxRecDepth 100000 in
theorem mX8_useTable (l : Launch) (D : va_G) (G : u_G) (q : Nat) (ma : Nat → Nat) (sN L : Nat) (th nd ct ht sp iw mn : Int32) (sr p : Nat → Int32) (x : Nat → Nat) (y : Nat → Int32) (M : Nat) (bw : Nat → Nat → Int32) (v : Int32) (hR : RowR sr x y M p) (hM : M ≤ 12) (hsN : sN ≤ 6) (hx20 : x 20 < 2 ^ 31) : MtI l D G yX8_useTable cX8_useTable 3 .boolean 2 0 0 [.ref q, .int v] [(q, .inr (8, [.ref (ma 0), .ref (ma 1), .int (nI sN), .ref (ma 2), .int (nI L), .int th, .ref (ma 3), .ref (ma 4), .ref (ma 5), .ref (ma 6), .int nd, .int ct, .int ht, .ref (ma 7), .ref (ma 8), .ref (ma 9), .ref (ma 10), .ref (ma 11), .ref (ma 12), .ref (ma 13), .ref (ma 14), .int sp, .int iw, .int mn])), (ma 0, .inl (G.1, 457, .inl sr)), (ma 1, .inl (G.1, 2742, .inl (bfF bw)))] (fun (r : Int32) (u : Nat → Int32) => r = bI (x 20 = 0) ∧ RowR u (va_up x 20 (if v = 0 then 1 else 0)) y M p) (fun (u : Nat → Int32) => [(q, .inr (8, [.ref (ma 0), .ref (ma 1), .int (nI (svN sN)), .ref (ma 2), .int (nI L), .int (nI 0), .ref (ma 3), .ref (ma 4), .ref (ma 5), .ref (ma 6), .int nd, .int ct, .int ht, .ref (ma 7), .ref (ma 8), .ref (ma 9), .ref (ma 10), .ref (ma 11), .ref (ma 12), .ref (ma 13), .ref (ma 14), .int sp, .int iw, .int mn])), (ma 0, .inl (G.1, 457, .inl u)), (ma 1, .inl (G.1, 2742, .inl (bfF (svR bw sr sN))))]) := by
  refine MtI.of (by decide) (Nat.le_of_ble_eq_true rfl) ?_
  intro pr e s9 m9 below meth c9 A ls C hP hD hl
  obtain ⟨hx, hb, hml, hown, hts, hr, hlocks, hA, hAm⟩ := id C
  have hK := hAm.1
  have hS : va_S A s9.heap s9.heap [] := va_S.rf
  have hl : lv_has ls 3 [(0, .ref q), (1, .int v)] := hl
  refine lv_aload_n hx hb dX8_useTable_0 rfl (lv_at hl 0 rfl) ?_
  refine lv_iconst (v := 0) hx hb dX8_useTable_1 (by decide) ?_
  refine va_put (D := D) (ci := 8) (v := .int 0) (ty := .int) (C := RX8) (T := TX8) (N := 24) hx hb hts inlX8 tyX8 tyX8_ok nmX8 hown hK hP hD hS 0 rfl rfl 5 (by decide) (hts _ kw_11_4) (fun _ h9 => h9) rfl (by decide +kernel) rfl rfl (Nat.le_of_ble_eq_true rfl) dX8_useTable_2 (fun H locs hP hD hS => ?_)
  have hP : va_P D vwCl [(q, .inr (8, [.ref (ma 0), .ref (ma 1), .int (nI sN), .ref (ma 2), .int (nI L), .int 0, .ref (ma 3), .ref (ma 4), .ref (ma 5), .ref (ma 6), .int nd, .int ct, .int ht, .ref (ma 7), .ref (ma 8), .ref (ma 9), .ref (ma 10), .ref (ma 11), .ref (ma 12), .ref (ma 13), .ref (ma 14), .int sp, .int iw, .int mn])), (ma 0, .inl (G.1, 457, .inl sr)), (ma 1, .inl (G.1, 2742, .inl (bfF bw)))] H := hP
  have hD : va_D A [(q, .inr (8, [.ref (ma 0), .ref (ma 1), .int (nI sN), .ref (ma 2), .int (nI L), .int 0, .ref (ma 3), .ref (ma 4), .ref (ma 5), .ref (ma 6), .int nd, .int ct, .int ht, .ref (ma 7), .ref (ma 8), .ref (ma 9), .ref (ma 10), .ref (ma 11), .ref (ma 12), .ref (ma 13), .ref (ma 14), .int sp, .int iw, .int mn])), (ma 0, .inl (G.1, 457, .inl sr)), (ma 1, .inl (G.1, 2742, .inl (bfF bw)))] := hD
  refine lv_aload_n hx hb dX8_useTable_5 rfl (lv_at hl 0 rfl) ?_
  refine aftV C (runV_G (As := []) (rest := []) (ci := 8) (N := 24) (T := TX8) (q0 := 0) C (mX8_saves l D G q ma sN L 0 nd ct ht sp iw mn sr bw hsN) hS hP hD [0, 1, 2] rfl (by decide) rfl rfl (ys_X8_saves) kw_11_5 kw_11_6 kw_11_7 ⟨Nat.le_of_ble_eq_true rfl, Nat.le_of_ble_eq_true rfl⟩ hl.1 (Nat.le_of_ble_eq_true rfl) dX8_useTable_6 rfl rfl ⟨Nat.zero_le _, Nat.zero_le _⟩) hS hP hD [0, 1, 2] rfl (fun _ => rfl) (fun _ H locs hp6 hP hD hS => ?_)
  have hP : va_P D vwCl [(q, .inr (8, [.ref (ma 0), .ref (ma 1), .int (nI (svN sN)), .ref (ma 2), .int (nI L), .int 0, .ref (ma 3), .ref (ma 4), .ref (ma 5), .ref (ma 6), .int nd, .int ct, .int ht, .ref (ma 7), .ref (ma 8), .ref (ma 9), .ref (ma 10), .ref (ma 11), .ref (ma 12), .ref (ma 13), .ref (ma 14), .int sp, .int iw, .int mn])), (ma 0, .inl (G.1, 457, .inl sr)), (ma 1, .inl (G.1, 2742, .inl (bfF (svR bw sr sN))))] H := hP
  have hD : va_D A [(q, .inr (8, [.ref (ma 0), .ref (ma 1), .int (nI (svN sN)), .ref (ma 2), .int (nI L), .int 0, .ref (ma 3), .ref (ma 4), .ref (ma 5), .ref (ma 6), .int nd, .int ct, .int ht, .ref (ma 7), .ref (ma 8), .ref (ma 9), .ref (ma 10), .ref (ma 11), .ref (ma 12), .ref (ma 13), .ref (ma 14), .int sp, .int iw, .int mn])), (ma 0, .inl (G.1, 457, .inl sr)), (ma 1, .inl (G.1, 2742, .inl (bfF (svR bw sr sN))))] := hD
  refine lv_aload_n hx hb dX8_useTable_9 rfl (lv_at hl 0 rfl) ?_
  refine va_get (D := D) (ci := 8) (v := .ref (ma 0)) (C := RX8) (T := TX8) (N := 24) hx hb hts inlX8 hown hK hP 0 rfl rfl 0 (by decide) (hts _ kw_5_6) (fun _ h9 => h9) rfl dX8_useTable_10 ?_
  refine lv_bipush (v := 20) hx hb dX8_useTable_13 (by decide) ?_
  refine ro_iald (k := 20) (v := nI (x 20)) hx hb hK hP 1 0 rfl rfl rfl (by decide) (by decide) hR.n20 dX8_useTable_15 ?_
  refine lv_if_ne (tgt := 23) hx hb dX8_useTable_16 (by decide) (fun c_16 => ?_) (fun c_16 => ?_)
  · have c_16 := neq_f (a := x 20) (b := 0) (by omega) (by omega) c_16
    refine lv_iconst (v := 0) hx hb dX8_useTable_23 (by decide) ?_
    refine lv_istore_n (lv' := [(2, .int 0), (0, .ref q), (1, .int v)]) hx hb dX8_useTable_24 rfl hl (by decide) rfl (fun ls hl => ?_)
    refine lv_aload_n hx hb dX8_useTable_25 rfl (lv_at hl 1 rfl) ?_
    refine va_get (D := D) (ci := 8) (v := .ref (ma 0)) (C := RX8) (T := TX8) (N := 24) hx hb hts inlX8 hown hK hP 0 rfl rfl 0 (by decide) (hts _ kw_5_6) (fun _ h9 => h9) rfl dX8_useTable_26 ?_
    refine lv_bipush (v := 20) hx hb dX8_useTable_29 (by decide) ?_
    refine lv_iload_n hx hb dX8_useTable_31 rfl (lv_at hl 2 rfl) ?_
    refine lv_if_eq (tgt := 39) hx hb dX8_useTable_32 (by decide) (fun c_32 => ?_) (fun c_32 => ?_)
    · refine lv_iconst (v := 1) hx hb dX8_useTable_39 (by decide) ?_
      refine ro_iast (k := 20) hx hb hK hP hD hS 1 0 rfl rfl rfl (by decide) (by decide) dX8_useTable_40 (fun H locs hP hD hS => ?_)
      have hP : va_P D vwCl [(q, .inr (8, [.ref (ma 0), .ref (ma 1), .int (nI (svN sN)), .ref (ma 2), .int (nI L), .int 0, .ref (ma 3), .ref (ma 4), .ref (ma 5), .ref (ma 6), .int nd, .int ct, .int ht, .ref (ma 7), .ref (ma 8), .ref (ma 9), .ref (ma 10), .ref (ma 11), .ref (ma 12), .ref (ma 13), .ref (ma 14), .int sp, .int iw, .int mn])), (ma 0, .inl (G.1, 457, .inl (upd sr 20 1))), (ma 1, .inl (G.1, 2742, .inl (bfF (svR bw sr sN))))] H := hP
      have hD : va_D A [(q, .inr (8, [.ref (ma 0), .ref (ma 1), .int (nI (svN sN)), .ref (ma 2), .int (nI L), .int 0, .ref (ma 3), .ref (ma 4), .ref (ma 5), .ref (ma 6), .int nd, .int ct, .int ht, .ref (ma 7), .ref (ma 8), .ref (ma 9), .ref (ma 10), .ref (ma 11), .ref (ma 12), .ref (ma 13), .ref (ma 14), .int sp, .int iw, .int mn])), (ma 0, .inl (G.1, 457, .inl (upd sr 20 1))), (ma 1, .inl (G.1, 2742, .inl (bfF (svR bw sr sN))))] := hD
      refine lv_iload_n hx hb dX8_useTable_41 rfl (lv_at hl 0 rfl) ?_
      exact endI C rfl (upd sr 20 1) ⟨(by first | exact (bI_t (by omega)).symm | exact (bI_f (by omega)).symm), (by rw [if_pos c_32]; exact hR.upX hM (Or.inr (Or.inr rfl)))⟩ hS hP dX8_useTable_42
    · refine lv_iconst (v := 0) hx hb dX8_useTable_35 (by decide) ?_
      refine lv_goto (tgt := 40) hx hb dX8_useTable_36 (by decide) ?_
      refine ro_iast (k := 20) hx hb hK hP hD hS 1 0 rfl rfl rfl (by decide) (by decide) dX8_useTable_40 (fun H locs hP hD hS => ?_)
      have hP : va_P D vwCl [(q, .inr (8, [.ref (ma 0), .ref (ma 1), .int (nI (svN sN)), .ref (ma 2), .int (nI L), .int 0, .ref (ma 3), .ref (ma 4), .ref (ma 5), .ref (ma 6), .int nd, .int ct, .int ht, .ref (ma 7), .ref (ma 8), .ref (ma 9), .ref (ma 10), .ref (ma 11), .ref (ma 12), .ref (ma 13), .ref (ma 14), .int sp, .int iw, .int mn])), (ma 0, .inl (G.1, 457, .inl (upd sr 20 0))), (ma 1, .inl (G.1, 2742, .inl (bfF (svR bw sr sN))))] H := hP
      have hD : va_D A [(q, .inr (8, [.ref (ma 0), .ref (ma 1), .int (nI (svN sN)), .ref (ma 2), .int (nI L), .int 0, .ref (ma 3), .ref (ma 4), .ref (ma 5), .ref (ma 6), .int nd, .int ct, .int ht, .ref (ma 7), .ref (ma 8), .ref (ma 9), .ref (ma 10), .ref (ma 11), .ref (ma 12), .ref (ma 13), .ref (ma 14), .int sp, .int iw, .int mn])), (ma 0, .inl (G.1, 457, .inl (upd sr 20 0))), (ma 1, .inl (G.1, 2742, .inl (bfF (svR bw sr sN))))] := hD
      refine lv_iload_n hx hb dX8_useTable_41 rfl (lv_at hl 0 rfl) ?_
      exact endI C rfl (upd sr 20 0) ⟨(by first | exact (bI_t (by omega)).symm | exact (bI_f (by omega)).symm), (by rw [if_neg c_32]; exact hR.upX hM (Or.inr (Or.inr rfl)))⟩ hS hP dX8_useTable_42
  · have c_16 := neq_t (a := x 20) (b := 0) (by omega) (by omega) c_16
    refine lv_iconst (v := 1) hx hb dX8_useTable_19 (by decide) ?_
    refine lv_goto (tgt := 24) hx hb dX8_useTable_20 (by decide) ?_
    refine lv_istore_n (lv' := [(2, .int 1), (0, .ref q), (1, .int v)]) hx hb dX8_useTable_24 rfl hl (by decide) rfl (fun ls hl => ?_)
    refine lv_aload_n hx hb dX8_useTable_25 rfl (lv_at hl 1 rfl) ?_
    refine va_get (D := D) (ci := 8) (v := .ref (ma 0)) (C := RX8) (T := TX8) (N := 24) hx hb hts inlX8 hown hK hP 0 rfl rfl 0 (by decide) (hts _ kw_5_6) (fun _ h9 => h9) rfl dX8_useTable_26 ?_
    refine lv_bipush (v := 20) hx hb dX8_useTable_29 (by decide) ?_
    refine lv_iload_n hx hb dX8_useTable_31 rfl (lv_at hl 2 rfl) ?_
    refine lv_if_eq (tgt := 39) hx hb dX8_useTable_32 (by decide) (fun c_32 => ?_) (fun c_32 => ?_)
    · refine lv_iconst (v := 1) hx hb dX8_useTable_39 (by decide) ?_
      refine ro_iast (k := 20) hx hb hK hP hD hS 1 0 rfl rfl rfl (by decide) (by decide) dX8_useTable_40 (fun H locs hP hD hS => ?_)
      have hP : va_P D vwCl [(q, .inr (8, [.ref (ma 0), .ref (ma 1), .int (nI (svN sN)), .ref (ma 2), .int (nI L), .int 0, .ref (ma 3), .ref (ma 4), .ref (ma 5), .ref (ma 6), .int nd, .int ct, .int ht, .ref (ma 7), .ref (ma 8), .ref (ma 9), .ref (ma 10), .ref (ma 11), .ref (ma 12), .ref (ma 13), .ref (ma 14), .int sp, .int iw, .int mn])), (ma 0, .inl (G.1, 457, .inl (upd sr 20 1))), (ma 1, .inl (G.1, 2742, .inl (bfF (svR bw sr sN))))] H := hP
      have hD : va_D A [(q, .inr (8, [.ref (ma 0), .ref (ma 1), .int (nI (svN sN)), .ref (ma 2), .int (nI L), .int 0, .ref (ma 3), .ref (ma 4), .ref (ma 5), .ref (ma 6), .int nd, .int ct, .int ht, .ref (ma 7), .ref (ma 8), .ref (ma 9), .ref (ma 10), .ref (ma 11), .ref (ma 12), .ref (ma 13), .ref (ma 14), .int sp, .int iw, .int mn])), (ma 0, .inl (G.1, 457, .inl (upd sr 20 1))), (ma 1, .inl (G.1, 2742, .inl (bfF (svR bw sr sN))))] := hD
      refine lv_iload_n hx hb dX8_useTable_41 rfl (lv_at hl 0 rfl) ?_
      exact endI C rfl (upd sr 20 1) ⟨(by first | exact (bI_t (by omega)).symm | exact (bI_f (by omega)).symm), (by rw [if_pos c_32]; exact hR.upX hM (Or.inr (Or.inr rfl)))⟩ hS hP dX8_useTable_42
    · refine lv_iconst (v := 0) hx hb dX8_useTable_35 (by decide) ?_
      refine lv_goto (tgt := 40) hx hb dX8_useTable_36 (by decide) ?_
      refine ro_iast (k := 20) hx hb hK hP hD hS 1 0 rfl rfl rfl (by decide) (by decide) dX8_useTable_40 (fun H locs hP hD hS => ?_)
      have hP : va_P D vwCl [(q, .inr (8, [.ref (ma 0), .ref (ma 1), .int (nI (svN sN)), .ref (ma 2), .int (nI L), .int 0, .ref (ma 3), .ref (ma 4), .ref (ma 5), .ref (ma 6), .int nd, .int ct, .int ht, .ref (ma 7), .ref (ma 8), .ref (ma 9), .ref (ma 10), .ref (ma 11), .ref (ma 12), .ref (ma 13), .ref (ma 14), .int sp, .int iw, .int mn])), (ma 0, .inl (G.1, 457, .inl (upd sr 20 0))), (ma 1, .inl (G.1, 2742, .inl (bfF (svR bw sr sN))))] H := hP
      have hD : va_D A [(q, .inr (8, [.ref (ma 0), .ref (ma 1), .int (nI (svN sN)), .ref (ma 2), .int (nI L), .int 0, .ref (ma 3), .ref (ma 4), .ref (ma 5), .ref (ma 6), .int nd, .int ct, .int ht, .ref (ma 7), .ref (ma 8), .ref (ma 9), .ref (ma 10), .ref (ma 11), .ref (ma 12), .ref (ma 13), .ref (ma 14), .int sp, .int iw, .int mn])), (ma 0, .inl (G.1, 457, .inl (upd sr 20 0))), (ma 1, .inl (G.1, 2742, .inl (bfF (svR bw sr sN))))] := hD
      refine lv_iload_n hx hb dX8_useTable_41 rfl (lv_at hl 0 rfl) ?_
      exact endI C rfl (upd sr 20 0) ⟨(by first | exact (bI_t (by omega)).symm | exact (bI_f (by omega)).symm), (by rw [if_neg c_32]; exact hR.upX hM (Or.inr (Or.inr rfl)))⟩ hS hP dX8_useTable_42
set_option maxHeartbeats 800000 in
set_option maxRecDepth 100000 in
theorem mX8_filled (l : Launch) (D : va_G) (G : u_G) (q : Nat) (ma : Nat → Nat) (sN L : Nat) (th nd ct ht sp iw mn : Int32) (sr p : Nat → Int32) (x : Nat → Nat) (y : Nat → Int32) (M : Nat)  (hR : RowR sr x y M p) (hM : M ≤ 12) : MtI l D G yX8_filled cX8_filled 3 .int 1 0 0 [.ref q] [(q, .inr (8, [.ref (ma 0), .ref (ma 1), .int (nI sN), .ref (ma 2), .int (nI L), .int th, .ref (ma 3), .ref (ma 4), .ref (ma 5), .ref (ma 6), .int nd, .int ct, .int ht, .ref (ma 7), .ref (ma 8), .ref (ma 9), .ref (ma 10), .ref (ma 11), .ref (ma 12), .ref (ma 13), .ref (ma 14), .int sp, .int iw, .int mn])), (ma 0, .inl (G.1, 457, .inl sr))] (fun (r : Int32) (_ : Unit) => r = nI (enN (kdY y) 144)) (fun (_ : Unit) => [(q, .inr (8, [.ref (ma 0), .ref (ma 1), .int (nI sN), .ref (ma 2), .int (nI L), .int th, .ref (ma 3), .ref (ma 4), .ref (ma 5), .ref (ma 6), .int nd, .int ct, .int ht, .ref (ma 7), .ref (ma 8), .ref (ma 9), .ref (ma 10), .ref (ma 11), .ref (ma 12), .ref (ma 13), .ref (ma 14), .int sp, .int iw, .int mn])), (ma 0, .inl (G.1, 457, .inl sr))]) := by
  refine MtI.of (by decide) (Nat.le_of_ble_eq_true rfl) ?_
  intro pr e s9 m9 below meth c9 A ls C hP hD hl
  obtain ⟨hx, hb, hml, hown, hts, hr, hlocks, hA, hAm⟩ := id C
  have hK := hAm.1
  have hS : va_S A s9.heap s9.heap [] := va_S.rf
  have hl : lv_has ls 3 [(0, .ref q)] := hl
  refine lv_iconst (v := 0) hx hb dX8_filled_0 (by decide) ?_
  refine lv_istore_n (lv' := [(1, .int 0), (0, .ref q)]) hx hb dX8_filled_1 rfl hl (by decide) rfl (fun ls hl => ?_)
  refine lv_iconst (v := 0) hx hb dX8_filled_2 (by decide) ?_
  refine lv_istore_n (lv' := [(2, .int 0), (1, .int 0), (0, .ref q)]) hx hb dX8_filled_3 rfl hl (by decide) rfl (fun ls hl => ?_)
  have lp4 : ∀ (n4 : Nat) (i : Nat) (hi : i ≤ 144) (_ : 144 - i < n4) (H : Heap) (locs : List Loc) (ls : Array Slot), va_P D vwCl [(q, .inr (8, [.ref (ma 0), .ref (ma 1), .int (nI sN), .ref (ma 2), .int (nI L), .int th, .ref (ma 3), .ref (ma 4), .ref (ma 5), .ref (ma 6), .int nd, .int ct, .int ht, .ref (ma 7), .ref (ma 8), .ref (ma 9), .ref (ma 10), .ref (ma 11), .ref (ma 12), .ref (ma 13), .ref (ma 14), .int sp, .int iw, .int mn])), (ma 0, .inl (G.1, 457, .inl sr))] H → va_D A [(q, .inr (8, [.ref (ma 0), .ref (ma 1), .int (nI sN), .ref (ma 2), .int (nI L), .int th, .ref (ma 3), .ref (ma 4), .ref (ma 5), .ref (ma 6), .int nd, .int ct, .int ht, .ref (ma 7), .ref (ma 8), .ref (ma 9), .ref (ma 10), .ref (ma 11), .ref (ma 12), .ref (ma 13), .ref (ma 14), .int sp, .int iw, .int mn])), (ma 0, .inl (G.1, 457, .inl sr))] → va_S A s9.heap H locs → lv_has ls 3 [(0, .ref q), (1, .int (nI (enN (kdY y) i))), (2, .int (nI i))] → W pr l e (rmG 1 0 0) s9 m9 (List.toArray [.ref q]) below meth c9 H locs 0 0 (MQ below (va_Qi (fun (r : Int32) (_ : Unit) => r = nI (enN (kdY y) 144)) (fun u9 t9 => WB D ((fun (_ : Unit) => [(q, .inr (8, [.ref (ma 0), .ref (ma 1), .int (nI sN), .ref (ma 2), .int (nI L), .int th, .ref (ma 3), .ref (ma 4), .ref (ma 5), .ref (ma 6), .int nd, .int ct, .int ht, .ref (ma 7), .ref (ma 8), .ref (ma 9), .ref (ma 10), .ref (ma 11), .ref (ma 12), .ref (ma 13), .ref (ma 14), .int sp, .int iw, .int mn])), (ma 0, .inl (G.1, 457, .inl sr))]) u9) t9) A) (List.toArray [.ref q]) s9 0 0 A) (F0 m9 4 ls []) := by
    intro n4
    induction n4 with
    | zero => intro i hi hm; exact absurd hm (Nat.not_lt_zero _)
    | succ n4 ih4 =>
      intro i hi hm H locs ls hP hD hS hl
      have e1 := enN_le (kdY y) i
      refine lv_iload_n hx hb dX8_filled_4 rfl (lv_at hl 2 rfl) ?_
      refine lv_sipush (v := 144) hx hb dX8_filled_5 (by decide) ?_
      refine lv_icmp_ge (tgt := 37) hx hb dX8_filled_8 (by decide) (fun c_8 => ?_) (fun c_8 => ?_)
      · have c_8 := nle_t (a := 144) (b := i) (by omega) (by omega) c_8
        refine lv_iload_n hx hb dX8_filled_37 rfl (lv_at hl 1 rfl) ?_
        exact endI C rfl () (by rw [show i = 144 by omega]) hS hP dX8_filled_38
      · have c_8 := nle_f (a := 144) (b := i) (by omega) (by omega) c_8
        refine lv_iload_n hx hb dX8_filled_11 rfl (lv_at hl 1 rfl) ?_
        refine lv_aload_n hx hb dX8_filled_12 rfl (lv_at hl 0 rfl) ?_
        refine va_get (D := D) (ci := 8) (v := .ref (ma 0)) (C := RX8) (T := TX8) (N := 24) hx hb hts inlX8 hown hK hP 0 rfl rfl 0 (by decide) (hts _ kw_5_6) (fun _ h9 => h9) rfl dX8_filled_13 ?_
        refine lv_bipush (v := 25) hx hb dX8_filled_16 (by decide) ?_
        refine lv_iload_n hx hb dX8_filled_18 rfl (lv_at hl 2 rfl) ?_
        refine ro_iadd (z := nI (25 + i)) hx hb (nI_add 25 i) dX8_filled_19 ?_
        refine ro_iald (k := 25 + i) (v := kdY y i) hx hb hK hP 1 0 rfl rfl rfl (by omega) (by decide) (hR.tb (by omega) (by omega)) dX8_filled_20 ?_
        refine lv_if_ne (tgt := 28) hx hb dX8_filled_21 (by decide) (fun c_21 => ?_) (fun c_21 => ?_)
        · refine lv_iconst (v := 1) hx hb dX8_filled_28 (by decide) ?_
          refine ro_iadd (z := nI (enN (kdY y) i + 1)) hx hb (nI_add (enN (kdY y) i) 1) dX8_filled_29 ?_
          refine lv_istore_n (lv' := [(1, .int (nI (enN (kdY y) i + 1))), (0, .ref q), (2, .int (nI i))]) hx hb dX8_filled_30 rfl hl (by decide) rfl (fun ls hl => ?_)
          refine lv_iinc (v := nI (i + 1)) (lv' := [(2, .int (nI (i + 1))), (1, .int (nI (enN (kdY y) i + 1))), (0, .ref q)]) hx hb dX8_filled_31 hl (k := 2) rfl (nI_add i 1) (by decide) rfl (fun ls hl => ?_)
          refine lv_goto (tgt := 4) hx hb dX8_filled_34 (by decide) ?_
          have e9 : enN (kdY y) (i + 1) = enN (kdY y) i + 1 := if_neg c_21
          exact ih4 (i + 1) (by omega) (by omega) _ _ _ hP (hD.fst rfl) hS (lv_sub hl [2, 1, 0] (by rw [e9]; rfl))
        · refine lv_iconst (v := 0) hx hb dX8_filled_24 (by decide) ?_
          refine lv_goto (tgt := 29) hx hb dX8_filled_25 (by decide) ?_
          refine ro_iadd (z := nI (enN (kdY y) i)) hx hb (by simp [nI_add]) dX8_filled_29 ?_
          refine lv_istore_n (lv' := [(1, .int (nI (enN (kdY y) i))), (0, .ref q), (2, .int (nI i))]) hx hb dX8_filled_30 rfl hl (by decide) rfl (fun ls hl => ?_)
          refine lv_iinc (v := nI (i + 1)) (lv' := [(2, .int (nI (i + 1))), (1, .int (nI (enN (kdY y) i))), (0, .ref q)]) hx hb dX8_filled_31 hl (k := 2) rfl (nI_add i 1) (by decide) rfl (fun ls hl => ?_)
          refine lv_goto (tgt := 4) hx hb dX8_filled_34 (by decide) ?_
          have e9 : enN (kdY y) (i + 1) = enN (kdY y) i := if_pos c_21
          exact ih4 (i + 1) (by omega) (by omega) _ _ _ hP (hD.fst rfl) hS (lv_sub hl [2, 1, 0] (by rw [e9]; rfl))
  exact lp4 (144 - 0 + 1) 0 (by omega) (Nat.lt_succ_self _) _ _ _ hP (hD.fst rfl) hS (lv_sub hl [2, 1, 0] rfl)
set_option maxHeartbeats 800000 in
set_option maxRecDepth 100000 in
theorem mX8_entries (l : Launch) (D : va_G) (G : u_G) (q : Nat) (ma : Nat → Nat) (sN L : Nat) (th nd ct ht sp iw mn : Int32) (sr p : Nat → Int32) (x : Nat → Nat) (y : Nat → Int32) (M : Nat)  (hR : RowR sr x y M p) (hM : M ≤ 12) : MtI l D G yX8_entries cX8_entries 1 .int 2 0 0 [.ref q] [(q, .inr (8, [.ref (ma 0), .ref (ma 1), .int (nI sN), .ref (ma 2), .int (nI L), .int th, .ref (ma 3), .ref (ma 4), .ref (ma 5), .ref (ma 6), .int nd, .int ct, .int ht, .ref (ma 7), .ref (ma 8), .ref (ma 9), .ref (ma 10), .ref (ma 11), .ref (ma 12), .ref (ma 13), .ref (ma 14), .int sp, .int iw, .int mn])), (ma 0, .inl (G.1, 457, .inl sr))] (fun (r : Int32) (_ : Unit) => r = nI (enN (kdY y) 144)) (fun (_ : Unit) => [(q, .inr (8, [.ref (ma 0), .ref (ma 1), .int (nI sN), .ref (ma 2), .int (nI L), .int (nI 0), .ref (ma 3), .ref (ma 4), .ref (ma 5), .ref (ma 6), .int nd, .int ct, .int ht, .ref (ma 7), .ref (ma 8), .ref (ma 9), .ref (ma 10), .ref (ma 11), .ref (ma 12), .ref (ma 13), .ref (ma 14), .int sp, .int iw, .int mn])), (ma 0, .inl (G.1, 457, .inl sr))]) := by
  refine MtI.of (by decide) (Nat.le_of_ble_eq_true rfl) ?_
  intro pr e s9 m9 below meth c9 A ls C hP hD hl
  obtain ⟨hx, hb, hml, hown, hts, hr, hlocks, hA, hAm⟩ := id C
  have hK := hAm.1
  have hS : va_S A s9.heap s9.heap [] := va_S.rf
  have hl : lv_has ls 1 [(0, .ref q)] := hl
  refine lv_aload_n hx hb dX8_entries_0 rfl (lv_at hl 0 rfl) ?_
  refine lv_iconst (v := 0) hx hb dX8_entries_1 (by decide) ?_
  refine va_put (D := D) (ci := 8) (v := .int 0) (ty := .int) (C := RX8) (T := TX8) (N := 24) hx hb hts inlX8 tyX8 tyX8_ok nmX8 hown hK hP hD hS 0 rfl rfl 5 (by decide) (hts _ kw_11_4) (fun _ h9 => h9) rfl (by decide +kernel) rfl rfl (Nat.le_of_ble_eq_true rfl) dX8_entries_2 (fun H locs hP hD hS => ?_)
  have hP : va_P D vwCl [(q, .inr (8, [.ref (ma 0), .ref (ma 1), .int (nI sN), .ref (ma 2), .int (nI L), .int 0, .ref (ma 3), .ref (ma 4), .ref (ma 5), .ref (ma 6), .int nd, .int ct, .int ht, .ref (ma 7), .ref (ma 8), .ref (ma 9), .ref (ma 10), .ref (ma 11), .ref (ma 12), .ref (ma 13), .ref (ma 14), .int sp, .int iw, .int mn])), (ma 0, .inl (G.1, 457, .inl sr))] H := hP
  have hD : va_D A [(q, .inr (8, [.ref (ma 0), .ref (ma 1), .int (nI sN), .ref (ma 2), .int (nI L), .int 0, .ref (ma 3), .ref (ma 4), .ref (ma 5), .ref (ma 6), .int nd, .int ct, .int ht, .ref (ma 7), .ref (ma 8), .ref (ma 9), .ref (ma 10), .ref (ma 11), .ref (ma 12), .ref (ma 13), .ref (ma 14), .int sp, .int iw, .int mn])), (ma 0, .inl (G.1, 457, .inl sr))] := hD
  refine lv_aload_n hx hb dX8_entries_5 rfl (lv_at hl 0 rfl) ?_
  refine aftI0 C (runV_G (As := []) (rest := []) (ci := 8) (N := 24) (T := TX8) (q0 := 0) C (mX8_filled l D G q ma sN L 0 nd ct ht sp iw mn sr p x y M hR hM) hS hP hD [0, 1] rfl (by decide) rfl rfl (ys_X8_filled) kw_24_2 kw_24_3 kw_24_4 ⟨Nat.le_of_ble_eq_true rfl, Nat.le_of_ble_eq_true rfl⟩ hl.1 (Nat.le_of_ble_eq_true rfl) dX8_entries_6 rfl rfl ⟨Nat.zero_le _, Nat.zero_le _⟩) hS hP hD [0, 1] rfl (fun r6 _ H locs hp6 hP hS => ?_)
  refine ro_top (z := nI (enN (kdY y) 144)) hx hp6 ?_
  exact endI C rfl () rfl hS hP dX8_entries_9
set_option maxHeartbeats 800000 in
set_option maxRecDepth 100000 in
theorem mX8_valueAt (l : Launch) (D : va_G) (G : u_G) (q : Nat) (ma : Nat → Nat) (sN L : Nat) (th nd ct ht sp iw mn : Int32) (sr p : Nat → Int32) (x : Nat → Nat) (y : Nat → Int32) (M : Nat) (k : Nat) (hR : RowR sr x y M p) (hM : M ≤ 12) (hk : k < 144) : MtI l D G yX8_valueAt cX8_valueAt 2 .int 1 0 0 [.ref q, .int (nI k)] [(q, .inr (8, [.ref (ma 0), .ref (ma 1), .int (nI sN), .ref (ma 2), .int (nI L), .int th, .ref (ma 3), .ref (ma 4), .ref (ma 5), .ref (ma 6), .int nd, .int ct, .int ht, .ref (ma 7), .ref (ma 8), .ref (ma 9), .ref (ma 10), .ref (ma 11), .ref (ma 12), .ref (ma 13), .ref (ma 14), .int sp, .int iw, .int mn])), (ma 0, .inl (G.1, 457, .inl sr))] (fun (r : Int32) (_ : Unit) => r = evA (kdY y) (vlY y) k) (fun (_ : Unit) => [(q, .inr (8, [.ref (ma 0), .ref (ma 1), .int (nI sN), .ref (ma 2), .int (nI L), .int th, .ref (ma 3), .ref (ma 4), .ref (ma 5), .ref (ma 6), .int nd, .int ct, .int ht, .ref (ma 7), .ref (ma 8), .ref (ma 9), .ref (ma 10), .ref (ma 11), .ref (ma 12), .ref (ma 13), .ref (ma 14), .int sp, .int iw, .int mn])), (ma 0, .inl (G.1, 457, .inl sr))]) := by
  refine MtI.of (by decide) (Nat.le_of_ble_eq_true rfl) ?_
  intro pr e s9 m9 below meth c9 A ls C hP hD hl
  obtain ⟨hx, hb, hml, hown, hts, hr, hlocks, hA, hAm⟩ := id C
  have hK := hAm.1
  have hS : va_S A s9.heap s9.heap [] := va_S.rf
  have hl : lv_has ls 2 [(0, .ref q), (1, .int (nI k))] := hl
  refine lv_aload_n hx hb dX8_valueAt_0 rfl (lv_at hl 0 rfl) ?_
  refine va_get (D := D) (ci := 8) (v := .ref (ma 0)) (C := RX8) (T := TX8) (N := 24) hx hb hts inlX8 hown hK hP 0 rfl rfl 0 (by decide) (hts _ kw_5_6) (fun _ h9 => h9) rfl dX8_valueAt_1 ?_
  refine lv_bipush (v := 25) hx hb dX8_valueAt_4 (by decide) ?_
  refine lv_iload_n hx hb dX8_valueAt_6 rfl (lv_at hl 1 rfl) ?_
  refine ro_iadd (z := nI (25 + k)) hx hb (nI_add 25 k) dX8_valueAt_7 ?_
  refine ro_iald (k := 25 + k) (v := kdY y k) hx hb hK hP 1 0 rfl rfl rfl (by omega) (by decide) (hR.tb (by omega) (by omega)) dX8_valueAt_8 ?_
  refine lv_if_ne (tgt := 18) hx hb dX8_valueAt_9 (by decide) (fun c_9 => ?_) (fun c_9 => ?_)
  · refine lv_aload_n hx hb dX8_valueAt_18 rfl (lv_at hl 0 rfl) ?_
    refine va_get (D := D) (ci := 8) (v := .ref (ma 0)) (C := RX8) (T := TX8) (N := 24) hx hb hts inlX8 hown hK hP 0 rfl rfl 0 (by decide) (hts _ kw_5_6) (fun _ h9 => h9) rfl dX8_valueAt_19 ?_
    refine lv_sipush (v := 313) hx hb dX8_valueAt_22 (by decide) ?_
    refine lv_iload_n hx hb dX8_valueAt_25 rfl (lv_at hl 1 rfl) ?_
    refine ro_iadd (z := nI (313 + k)) hx hb (nI_add 313 k) dX8_valueAt_26 ?_
    refine ro_iald (k := 313 + k) (v := vlY y k) hx hb hK hP 1 0 rfl rfl rfl (by omega) (by decide) (hR.tb (by omega) (by omega)) dX8_valueAt_27 ?_
    exact endI C rfl () (if_neg c_9).symm hS hP dX8_valueAt_28
  · refine lv_sipush (v := (-999)) hx hb dX8_valueAt_12 (by decide) ?_
    refine lv_goto (tgt := 28) hx hb dX8_valueAt_15 (by decide) ?_
    exact endI C rfl () (if_pos c_9).symm hS hP dX8_valueAt_28
set_option maxHeartbeats 800000 in
set_option maxRecDepth 100000 in
theorem mX8_entryKind (l : Launch) (D : va_G) (G : u_G) (q : Nat) (ma : Nat → Nat) (sN L : Nat) (th nd ct ht sp iw mn : Int32) (sr p : Nat → Int32) (x : Nat → Nat) (y : Nat → Int32) (M : Nat) (f c : Nat) (hR : RowR sr x y M p) (hM : M ≤ 12) (hf : f < 12) (hc : 1 ≤ c) (hc2 : c ≤ 12) : MtI l D G yX8_entryKind cX8_entryKind 3 .int 3 0 0 [.ref q, .int (nI f), .int (nI c)] [(q, .inr (8, [.ref (ma 0), .ref (ma 1), .int (nI sN), .ref (ma 2), .int (nI L), .int th, .ref (ma 3), .ref (ma 4), .ref (ma 5), .ref (ma 6), .int nd, .int ct, .int ht, .ref (ma 7), .ref (ma 8), .ref (ma 9), .ref (ma 10), .ref (ma 11), .ref (ma 12), .ref (ma 13), .ref (ma 14), .int sp, .int iw, .int mn])), (ma 0, .inl (G.1, 457, .inl sr))] (fun (r : Int32) (_ : Unit) => r = kdY y (f * 12 + c - 1)) (fun (_ : Unit) => [(q, .inr (8, [.ref (ma 0), .ref (ma 1), .int (nI sN), .ref (ma 2), .int (nI L), .int (nI 0), .ref (ma 3), .ref (ma 4), .ref (ma 5), .ref (ma 6), .int nd, .int ct, .int ht, .ref (ma 7), .ref (ma 8), .ref (ma 9), .ref (ma 10), .ref (ma 11), .ref (ma 12), .ref (ma 13), .ref (ma 14), .int sp, .int iw, .int mn])), (ma 0, .inl (G.1, 457, .inl sr))]) := by
  refine MtI.of (by decide) (Nat.le_of_ble_eq_true rfl) ?_
  intro pr e s9 m9 below meth c9 A ls C hP hD hl
  obtain ⟨hx, hb, hml, hown, hts, hr, hlocks, hA, hAm⟩ := id C
  have hK := hAm.1
  have hS : va_S A s9.heap s9.heap [] := va_S.rf
  have hl : lv_has ls 3 [(0, .ref q), (1, .int (nI f)), (2, .int (nI c))] := hl
  refine lv_aload_n hx hb dX8_entryKind_0 rfl (lv_at hl 0 rfl) ?_
  refine lv_iload_n hx hb dX8_entryKind_1 rfl (lv_at hl 1 rfl) ?_
  refine lv_iconst (v := 0) hx hb dX8_entryKind_2 (by decide) ?_
  refine lv_bipush (v := 11) hx hb dX8_entryKind_3 (by decide) ?_
  refine aftI0 C (runS_G (As := [.int (nI f), .int 0, .int 11]) (rest := [.ref q]) C (mX8_in l D G (nI f) 0 11 ) hS hP hD [] rfl (by decide) (ys_X8_in) kw_10_21 kw_10_22 ⟨Nat.le_of_ble_eq_true rfl, Nat.le_of_ble_eq_true rfl⟩ hl.1 (Nat.le_of_ble_eq_true rfl) dX8_entryKind_5 rfl rfl ⟨Nat.zero_le _, Nat.zero_le _⟩) hS hP hD [] rfl (fun r5 _ H locs hp5 hP hS => ?_)
  refine ro_top (z := bI (¬ (nI f) < 0 ∧ ¬ 11 < (nI f))) hx hp5 ?_
  refine lv_if_eq (tgt := 25) hx hb dX8_entryKind_8 (by decide) (fun c_8 => ?_) (fun c_8 => ?_)
  · have c_8 := bI_0 c_8
    exact absurd (nin (Nat.zero_le f) (show f ≤ 11 by omega) (by decide)) c_8
  · have c_8 := bI_1 c_8
    refine lv_iload_n hx hb dX8_entryKind_11 rfl (lv_at hl 2 rfl) ?_
    refine lv_iconst (v := 1) hx hb dX8_entryKind_12 (by decide) ?_
    refine lv_bipush (v := 12) hx hb dX8_entryKind_13 (by decide) ?_
    refine aftI0 C (runS_G (As := [.int (nI c), .int 1, .int 12]) (rest := [.ref q]) C (mX8_in l D G (nI c) 1 12 ) hS hP hD [] rfl (by decide) (ys_X8_in) kw_10_21 kw_10_22 ⟨Nat.le_of_ble_eq_true rfl, Nat.le_of_ble_eq_true rfl⟩ hl.1 (Nat.le_of_ble_eq_true rfl) dX8_entryKind_15 rfl rfl ⟨Nat.zero_le _, Nat.zero_le _⟩) hS hP hD [] rfl (fun r15 _ H locs hp15 hP hS => ?_)
    refine ro_top (z := bI (¬ (nI c) < 1 ∧ ¬ 12 < (nI c))) hx hp15 ?_
    refine lv_if_eq (tgt := 25) hx hb dX8_entryKind_18 (by decide) (fun c_18 => ?_) (fun c_18 => ?_)
    · have c_18 := bI_0 c_18
      exact absurd (nin hc hc2 (by decide)) c_18
    · have c_18 := bI_1 c_18
      refine lv_iconst (v := 0) hx hb dX8_entryKind_21 (by decide) ?_
      refine lv_goto (tgt := 26) hx hb dX8_entryKind_22 (by decide) ?_
      refine aftI C (runV_G (As := [.int 0]) (rest := []) (ci := 8) (N := 24) (T := TX8) (q0 := 0) C (mX8_refused l D G q ma sN L th nd ct ht sp iw mn 0 (by omega)) hS hP hD [0] rfl (by decide) rfl rfl (ys_X8_refused) kw_11_0 kw_11_1 kw_11_2 ⟨Nat.le_of_ble_eq_true rfl, Nat.le_of_ble_eq_true rfl⟩ hl.1 (Nat.le_of_ble_eq_true rfl) dX8_entryKind_26 rfl rfl ⟨Nat.zero_le _, Nat.zero_le _⟩) hS hP hD [0] rfl (fun _ => rfl) (fun r26 _ H locs hp26 hP hD hS => ?_)
      have hP : va_P D vwCl [(q, .inr (8, [.ref (ma 0), .ref (ma 1), .int (nI sN), .ref (ma 2), .int (nI L), .int (nI 0), .ref (ma 3), .ref (ma 4), .ref (ma 5), .ref (ma 6), .int nd, .int ct, .int ht, .ref (ma 7), .ref (ma 8), .ref (ma 9), .ref (ma 10), .ref (ma 11), .ref (ma 12), .ref (ma 13), .ref (ma 14), .int sp, .int iw, .int mn])), (ma 0, .inl (G.1, 457, .inl sr))] H := hP
      have hD : va_D A [(q, .inr (8, [.ref (ma 0), .ref (ma 1), .int (nI sN), .ref (ma 2), .int (nI L), .int (nI 0), .ref (ma 3), .ref (ma 4), .ref (ma 5), .ref (ma 6), .int nd, .int ct, .int ht, .ref (ma 7), .ref (ma 8), .ref (ma 9), .ref (ma 10), .ref (ma 11), .ref (ma 12), .ref (ma 13), .ref (ma 14), .int sp, .int iw, .int mn])), (ma 0, .inl (G.1, 457, .inl sr))] := hD
      refine ro_top (z := bI (0 < 0)) hx hp26 ?_
      refine lv_if_eq (tgt := 34) hx hb dX8_entryKind_29 (by decide) (fun _ => ?_) (fun h => absurd (by decide) h)
      refine lv_aload_n hx hb dX8_entryKind_34 rfl (lv_at hl 0 rfl) ?_
      refine va_get (D := D) (ci := 8) (v := .ref (ma 0)) (C := RX8) (T := TX8) (N := 24) hx hb hts inlX8 hown hK hP 0 rfl rfl 0 (by decide) (hts _ kw_5_6) (fun _ h9 => h9) rfl dX8_entryKind_35 ?_
      refine lv_bipush (v := 25) hx hb dX8_entryKind_38 (by decide) ?_
      refine lv_iload_n hx hb dX8_entryKind_40 rfl (lv_at hl 1 rfl) ?_
      refine lv_iload_n hx hb dX8_entryKind_41 rfl (lv_at hl 2 rfl) ?_
      refine aftI0 C (runS_G (As := [.int (nI f), .int (nI c)]) (rest := [.int 25, .ref (ma 0)]) C (mX8_entry l D G f c (by omega)) hS hP hD [] rfl (by decide) (ys_X8_entry) kw_21_19 kw_21_20 ⟨Nat.le_of_ble_eq_true rfl, Nat.le_of_ble_eq_true rfl⟩ hl.1 (Nat.le_of_ble_eq_true rfl) dX8_entryKind_42 rfl rfl ⟨Nat.zero_le _, Nat.zero_le _⟩) hS hP hD [] rfl (fun r42 _ H locs hp42 hP hS => ?_)
      refine ro_top (z := nI (f * 12 + c - 1)) hx hp42 ?_
      refine ro_iadd (z := nI (25 + (f * 12 + c - 1))) hx hb (nI_add 25 (f * 12 + c - 1)) dX8_entryKind_45 ?_
      refine ro_iald (k := 25 + (f * 12 + c - 1)) (v := kdY y (f * 12 + c - 1)) hx hb hK hP 1 0 rfl rfl rfl (by omega) (by decide) (hR.tb (by omega) (by omega)) dX8_entryKind_46 ?_
      exact endI C rfl () rfl hS hP dX8_entryKind_47
set_option maxHeartbeats 800000 in
set_option maxRecDepth 100000 in
theorem mX8_entryValue (l : Launch) (D : va_G) (G : u_G) (q : Nat) (ma : Nat → Nat) (sN L : Nat) (th nd ct ht sp iw mn : Int32) (sr p : Nat → Int32) (x : Nat → Nat) (y : Nat → Int32) (M : Nat) (f c : Nat) (hR : RowR sr x y M p) (hM : M ≤ 12) (hf : f < 12) (hc : 1 ≤ c) (hc2 : c ≤ 12) : MtI l D G yX8_entryValue cX8_entryValue 3 .int 3 0 0 [.ref q, .int (nI f), .int (nI c)] [(q, .inr (8, [.ref (ma 0), .ref (ma 1), .int (nI sN), .ref (ma 2), .int (nI L), .int th, .ref (ma 3), .ref (ma 4), .ref (ma 5), .ref (ma 6), .int nd, .int ct, .int ht, .ref (ma 7), .ref (ma 8), .ref (ma 9), .ref (ma 10), .ref (ma 11), .ref (ma 12), .ref (ma 13), .ref (ma 14), .int sp, .int iw, .int mn])), (ma 0, .inl (G.1, 457, .inl sr))] (fun (r : Int32) (_ : Unit) => r = evA (kdY y) (vlY y) (f * 12 + c - 1)) (fun (_ : Unit) => [(q, .inr (8, [.ref (ma 0), .ref (ma 1), .int (nI sN), .ref (ma 2), .int (nI L), .int (nI 0), .ref (ma 3), .ref (ma 4), .ref (ma 5), .ref (ma 6), .int nd, .int ct, .int ht, .ref (ma 7), .ref (ma 8), .ref (ma 9), .ref (ma 10), .ref (ma 11), .ref (ma 12), .ref (ma 13), .ref (ma 14), .int sp, .int iw, .int mn])), (ma 0, .inl (G.1, 457, .inl sr))]) := by
  refine MtI.of (by decide) (Nat.le_of_ble_eq_true rfl) ?_
  intro pr e s9 m9 below meth c9 A ls C hP hD hl
  obtain ⟨hx, hb, hml, hown, hts, hr, hlocks, hA, hAm⟩ := id C
  have hK := hAm.1
  have hS : va_S A s9.heap s9.heap [] := va_S.rf
  have hl : lv_has ls 3 [(0, .ref q), (1, .int (nI f)), (2, .int (nI c))] := hl
  refine lv_aload_n hx hb dX8_entryValue_0 rfl (lv_at hl 0 rfl) ?_
  refine lv_iload_n hx hb dX8_entryValue_1 rfl (lv_at hl 1 rfl) ?_
  refine lv_iconst (v := 0) hx hb dX8_entryValue_2 (by decide) ?_
  refine lv_bipush (v := 11) hx hb dX8_entryValue_3 (by decide) ?_
  refine aftI0 C (runS_G (As := [.int (nI f), .int 0, .int 11]) (rest := [.ref q]) C (mX8_in l D G (nI f) 0 11 ) hS hP hD [] rfl (by decide) (ys_X8_in) kw_10_21 kw_10_22 ⟨Nat.le_of_ble_eq_true rfl, Nat.le_of_ble_eq_true rfl⟩ hl.1 (Nat.le_of_ble_eq_true rfl) dX8_entryValue_5 rfl rfl ⟨Nat.zero_le _, Nat.zero_le _⟩) hS hP hD [] rfl (fun r5 _ H locs hp5 hP hS => ?_)
  refine ro_top (z := bI (¬ (nI f) < 0 ∧ ¬ 11 < (nI f))) hx hp5 ?_
  refine lv_if_eq (tgt := 25) hx hb dX8_entryValue_8 (by decide) (fun c_8 => ?_) (fun c_8 => ?_)
  · have c_8 := bI_0 c_8
    exact absurd (nin (Nat.zero_le f) (show f ≤ 11 by omega) (by decide)) c_8
  · have c_8 := bI_1 c_8
    refine lv_iload_n hx hb dX8_entryValue_11 rfl (lv_at hl 2 rfl) ?_
    refine lv_iconst (v := 1) hx hb dX8_entryValue_12 (by decide) ?_
    refine lv_bipush (v := 12) hx hb dX8_entryValue_13 (by decide) ?_
    refine aftI0 C (runS_G (As := [.int (nI c), .int 1, .int 12]) (rest := [.ref q]) C (mX8_in l D G (nI c) 1 12 ) hS hP hD [] rfl (by decide) (ys_X8_in) kw_10_21 kw_10_22 ⟨Nat.le_of_ble_eq_true rfl, Nat.le_of_ble_eq_true rfl⟩ hl.1 (Nat.le_of_ble_eq_true rfl) dX8_entryValue_15 rfl rfl ⟨Nat.zero_le _, Nat.zero_le _⟩) hS hP hD [] rfl (fun r15 _ H locs hp15 hP hS => ?_)
    refine ro_top (z := bI (¬ (nI c) < 1 ∧ ¬ 12 < (nI c))) hx hp15 ?_
    refine lv_if_eq (tgt := 25) hx hb dX8_entryValue_18 (by decide) (fun c_18 => ?_) (fun c_18 => ?_)
    · have c_18 := bI_0 c_18
      exact absurd (nin hc hc2 (by decide)) c_18
    · have c_18 := bI_1 c_18
      refine lv_iconst (v := 0) hx hb dX8_entryValue_21 (by decide) ?_
      refine lv_goto (tgt := 26) hx hb dX8_entryValue_22 (by decide) ?_
      refine aftI C (runV_G (As := [.int 0]) (rest := []) (ci := 8) (N := 24) (T := TX8) (q0 := 0) C (mX8_refused l D G q ma sN L th nd ct ht sp iw mn 0 (by omega)) hS hP hD [0] rfl (by decide) rfl rfl (ys_X8_refused) kw_11_0 kw_11_1 kw_11_2 ⟨Nat.le_of_ble_eq_true rfl, Nat.le_of_ble_eq_true rfl⟩ hl.1 (Nat.le_of_ble_eq_true rfl) dX8_entryValue_26 rfl rfl ⟨Nat.zero_le _, Nat.zero_le _⟩) hS hP hD [0] rfl (fun _ => rfl) (fun r26 _ H locs hp26 hP hD hS => ?_)
      have hP : va_P D vwCl [(q, .inr (8, [.ref (ma 0), .ref (ma 1), .int (nI sN), .ref (ma 2), .int (nI L), .int (nI 0), .ref (ma 3), .ref (ma 4), .ref (ma 5), .ref (ma 6), .int nd, .int ct, .int ht, .ref (ma 7), .ref (ma 8), .ref (ma 9), .ref (ma 10), .ref (ma 11), .ref (ma 12), .ref (ma 13), .ref (ma 14), .int sp, .int iw, .int mn])), (ma 0, .inl (G.1, 457, .inl sr))] H := hP
      have hD : va_D A [(q, .inr (8, [.ref (ma 0), .ref (ma 1), .int (nI sN), .ref (ma 2), .int (nI L), .int (nI 0), .ref (ma 3), .ref (ma 4), .ref (ma 5), .ref (ma 6), .int nd, .int ct, .int ht, .ref (ma 7), .ref (ma 8), .ref (ma 9), .ref (ma 10), .ref (ma 11), .ref (ma 12), .ref (ma 13), .ref (ma 14), .int sp, .int iw, .int mn])), (ma 0, .inl (G.1, 457, .inl sr))] := hD
      refine ro_top (z := bI (0 < 0)) hx hp26 ?_
      refine lv_if_eq (tgt := 34) hx hb dX8_entryValue_29 (by decide) (fun _ => ?_) (fun h => absurd (by decide) h)
      refine lv_aload_n hx hb dX8_entryValue_34 rfl (lv_at hl 0 rfl) ?_
      refine lv_iload_n hx hb dX8_entryValue_35 rfl (lv_at hl 1 rfl) ?_
      refine lv_iload_n hx hb dX8_entryValue_36 rfl (lv_at hl 2 rfl) ?_
      refine aftI0 C (runS_G (As := [.int (nI f), .int (nI c)]) (rest := [.ref q]) C (mX8_entry l D G f c (by omega)) hS hP hD [] rfl (by decide) (ys_X8_entry) kw_21_19 kw_21_20 ⟨Nat.le_of_ble_eq_true rfl, Nat.le_of_ble_eq_true rfl⟩ hl.1 (Nat.le_of_ble_eq_true rfl) dX8_entryValue_37 rfl rfl ⟨Nat.zero_le _, Nat.zero_le _⟩) hS hP hD [] rfl (fun r37 _ H locs hp37 hP hS => ?_)
      refine ro_top (z := nI (f * 12 + c - 1)) hx hp37 ?_
      refine aftI0 C (runV_G (As := [.int (nI (f * 12 + c - 1))]) (rest := []) (ci := 8) (N := 24) (T := TX8) (q0 := 0) C (mX8_valueAt l D G q ma sN L (nI 0) nd ct ht sp iw mn sr p x y M (f * 12 + c - 1) hR hM (by omega)) hS hP hD [0, 1] rfl (by decide) rfl rfl (ys_X8_valueAt) kw_25_6 kw_25_7 kw_25_8 ⟨Nat.le_of_ble_eq_true rfl, Nat.le_of_ble_eq_true rfl⟩ hl.1 (Nat.le_of_ble_eq_true rfl) dX8_entryValue_40 rfl rfl ⟨Nat.zero_le _, Nat.zero_le _⟩) hS hP hD [0, 1] rfl (fun r40 _ H locs hp40 hP hS => ?_)
      refine ro_top (z := evA (kdY y) (vlY y) (f * 12 + c - 1)) hx hp40 ?_
      exact endI C rfl () rfl hS hP dX8_entryValue_43
set_option maxHeartbeats 800000 in
set_option maxRecDepth 100000 in
theorem mX8_entryKind_T1 (l : Launch) (D : va_G) (G : u_G) (q : Nat) (ma : Nat → Nat) (sN L : Nat) (th nd ct ht sp iw mn : Int32) (sr p : Nat → Int32) (x : Nat → Nat) (y : Nat → Int32) (M : Nat) (v w : Int32) (hR : RowR sr x y M p) (hM : M ≤ 12) (hbad : ¬ ((¬ v < 0 ∧ ¬ 11 < v) ∧ ¬ w < 1 ∧ ¬ 12 < w)) : MtI l D G yX8_entryKind cX8_entryKind 3 .int 3 0 0 [.ref q, .int v, .int w] [(q, .inr (8, [.ref (ma 0), .ref (ma 1), .int (nI sN), .ref (ma 2), .int (nI L), .int th, .ref (ma 3), .ref (ma 4), .ref (ma 5), .ref (ma 6), .int nd, .int ct, .int ht, .ref (ma 7), .ref (ma 8), .ref (ma 9), .ref (ma 10), .ref (ma 11), .ref (ma 12), .ref (ma 13), .ref (ma 14), .int sp, .int iw, .int mn])), (ma 0, .inl (G.1, 457, .inl sr))] (fun (r : Int32) (_ : Unit) => r = 0) (fun (_ : Unit) => [(q, .inr (8, [.ref (ma 0), .ref (ma 1), .int (nI sN), .ref (ma 2), .int (nI L), .int (nI 1), .ref (ma 3), .ref (ma 4), .ref (ma 5), .ref (ma 6), .int nd, .int ct, .int ht, .ref (ma 7), .ref (ma 8), .ref (ma 9), .ref (ma 10), .ref (ma 11), .ref (ma 12), .ref (ma 13), .ref (ma 14), .int sp, .int iw, .int mn])), (ma 0, .inl (G.1, 457, .inl sr))]) := by
  refine MtI.of (by decide) (Nat.le_of_ble_eq_true rfl) ?_
  intro pr e s9 m9 below meth c9 A ls C hP hD hl
  obtain ⟨hx, hb, hml, hown, hts, hr, hlocks, hA, hAm⟩ := id C
  have hK := hAm.1
  have hS : va_S A s9.heap s9.heap [] := va_S.rf
  have hl : lv_has ls 3 [(0, .ref q), (1, .int v), (2, .int w)] := hl
  refine lv_aload_n hx hb dX8_entryKind_0 rfl (lv_at hl 0 rfl) ?_
  refine lv_iload_n hx hb dX8_entryKind_1 rfl (lv_at hl 1 rfl) ?_
  refine lv_iconst (v := 0) hx hb dX8_entryKind_2 (by decide) ?_
  refine lv_bipush (v := 11) hx hb dX8_entryKind_3 (by decide) ?_
  refine aftI0 C (runS_G (As := [.int v, .int 0, .int 11]) (rest := [.ref q]) C (mX8_in l D G v 0 11 ) hS hP hD [] rfl (by decide) (ys_X8_in) kw_10_21 kw_10_22 ⟨Nat.le_of_ble_eq_true rfl, Nat.le_of_ble_eq_true rfl⟩ hl.1 (Nat.le_of_ble_eq_true rfl) dX8_entryKind_5 rfl rfl ⟨Nat.zero_le _, Nat.zero_le _⟩) hS hP hD [] rfl (fun r5 _ H locs hp5 hP hS => ?_)
  refine ro_top (z := bI (¬ v < 0 ∧ ¬ 11 < v)) hx hp5 ?_
  refine lv_if_eq (tgt := 25) hx hb dX8_entryKind_8 (by decide) (fun c_8 => ?_) (fun c_8 => ?_)
  · have c_8 := bI_0 c_8
    refine lv_iconst (v := 1) hx hb dX8_entryKind_25 (by decide) ?_
    refine aftI C (runV_G (As := [.int 1]) (rest := []) (ci := 8) (N := 24) (T := TX8) (q0 := 0) C (mX8_refused l D G q ma sN L th nd ct ht sp iw mn 1 (by omega)) hS hP hD [0] rfl (by decide) rfl rfl (ys_X8_refused) kw_11_0 kw_11_1 kw_11_2 ⟨Nat.le_of_ble_eq_true rfl, Nat.le_of_ble_eq_true rfl⟩ hl.1 (Nat.le_of_ble_eq_true rfl) dX8_entryKind_26 rfl rfl ⟨Nat.zero_le _, Nat.zero_le _⟩) hS hP hD [0] rfl (fun _ => rfl) (fun r26 _ H locs hp26 hP hD hS => ?_)
    have hP : va_P D vwCl [(q, .inr (8, [.ref (ma 0), .ref (ma 1), .int (nI sN), .ref (ma 2), .int (nI L), .int (nI 1), .ref (ma 3), .ref (ma 4), .ref (ma 5), .ref (ma 6), .int nd, .int ct, .int ht, .ref (ma 7), .ref (ma 8), .ref (ma 9), .ref (ma 10), .ref (ma 11), .ref (ma 12), .ref (ma 13), .ref (ma 14), .int sp, .int iw, .int mn])), (ma 0, .inl (G.1, 457, .inl sr))] H := hP
    have hD : va_D A [(q, .inr (8, [.ref (ma 0), .ref (ma 1), .int (nI sN), .ref (ma 2), .int (nI L), .int (nI 1), .ref (ma 3), .ref (ma 4), .ref (ma 5), .ref (ma 6), .int nd, .int ct, .int ht, .ref (ma 7), .ref (ma 8), .ref (ma 9), .ref (ma 10), .ref (ma 11), .ref (ma 12), .ref (ma 13), .ref (ma 14), .int sp, .int iw, .int mn])), (ma 0, .inl (G.1, 457, .inl sr))] := hD
    refine ro_top (z := bI (0 < 1)) hx hp26 ?_
    refine lv_if_eq (tgt := 34) hx hb dX8_entryKind_29 (by decide) (fun h => absurd h (by decide)) (fun _ => ?_)
    refine lv_iconst (v := 0) hx hb dX8_entryKind_32 (by decide) ?_
    exact endI C rfl () rfl hS hP dX8_entryKind_33
  · have c_8 := bI_1 c_8
    refine lv_iload_n hx hb dX8_entryKind_11 rfl (lv_at hl 2 rfl) ?_
    refine lv_iconst (v := 1) hx hb dX8_entryKind_12 (by decide) ?_
    refine lv_bipush (v := 12) hx hb dX8_entryKind_13 (by decide) ?_
    refine aftI0 C (runS_G (As := [.int w, .int 1, .int 12]) (rest := [.ref q]) C (mX8_in l D G w 1 12 ) hS hP hD [] rfl (by decide) (ys_X8_in) kw_10_21 kw_10_22 ⟨Nat.le_of_ble_eq_true rfl, Nat.le_of_ble_eq_true rfl⟩ hl.1 (Nat.le_of_ble_eq_true rfl) dX8_entryKind_15 rfl rfl ⟨Nat.zero_le _, Nat.zero_le _⟩) hS hP hD [] rfl (fun r15 _ H locs hp15 hP hS => ?_)
    refine ro_top (z := bI (¬ w < 1 ∧ ¬ 12 < w)) hx hp15 ?_
    refine lv_if_eq (tgt := 25) hx hb dX8_entryKind_18 (by decide) (fun c_18 => ?_) (fun c_18 => ?_)
    · have c_18 := bI_0 c_18
      refine lv_iconst (v := 1) hx hb dX8_entryKind_25 (by decide) ?_
      refine aftI C (runV_G (As := [.int 1]) (rest := []) (ci := 8) (N := 24) (T := TX8) (q0 := 0) C (mX8_refused l D G q ma sN L th nd ct ht sp iw mn 1 (by omega)) hS hP hD [0] rfl (by decide) rfl rfl (ys_X8_refused) kw_11_0 kw_11_1 kw_11_2 ⟨Nat.le_of_ble_eq_true rfl, Nat.le_of_ble_eq_true rfl⟩ hl.1 (Nat.le_of_ble_eq_true rfl) dX8_entryKind_26 rfl rfl ⟨Nat.zero_le _, Nat.zero_le _⟩) hS hP hD [0] rfl (fun _ => rfl) (fun r26 _ H locs hp26 hP hD hS => ?_)
      have hP : va_P D vwCl [(q, .inr (8, [.ref (ma 0), .ref (ma 1), .int (nI sN), .ref (ma 2), .int (nI L), .int (nI 1), .ref (ma 3), .ref (ma 4), .ref (ma 5), .ref (ma 6), .int nd, .int ct, .int ht, .ref (ma 7), .ref (ma 8), .ref (ma 9), .ref (ma 10), .ref (ma 11), .ref (ma 12), .ref (ma 13), .ref (ma 14), .int sp, .int iw, .int mn])), (ma 0, .inl (G.1, 457, .inl sr))] H := hP
      have hD : va_D A [(q, .inr (8, [.ref (ma 0), .ref (ma 1), .int (nI sN), .ref (ma 2), .int (nI L), .int (nI 1), .ref (ma 3), .ref (ma 4), .ref (ma 5), .ref (ma 6), .int nd, .int ct, .int ht, .ref (ma 7), .ref (ma 8), .ref (ma 9), .ref (ma 10), .ref (ma 11), .ref (ma 12), .ref (ma 13), .ref (ma 14), .int sp, .int iw, .int mn])), (ma 0, .inl (G.1, 457, .inl sr))] := hD
      refine ro_top (z := bI (0 < 1)) hx hp26 ?_
      refine lv_if_eq (tgt := 34) hx hb dX8_entryKind_29 (by decide) (fun h => absurd h (by decide)) (fun _ => ?_)
      refine lv_iconst (v := 0) hx hb dX8_entryKind_32 (by decide) ?_
      exact endI C rfl () rfl hS hP dX8_entryKind_33
    · have c_18 := bI_1 c_18
      exact absurd ⟨c_8, c_18⟩ hbad
set_option maxHeartbeats 800000 in
set_option maxRecDepth 100000 in
theorem mX8_entryValue_T1 (l : Launch) (D : va_G) (G : u_G) (q : Nat) (ma : Nat → Nat) (sN L : Nat) (th nd ct ht sp iw mn : Int32) (sr p : Nat → Int32) (x : Nat → Nat) (y : Nat → Int32) (M : Nat) (v w : Int32) (hR : RowR sr x y M p) (hM : M ≤ 12) (hbad : ¬ ((¬ v < 0 ∧ ¬ 11 < v) ∧ ¬ w < 1 ∧ ¬ 12 < w)) : MtI l D G yX8_entryValue cX8_entryValue 3 .int 3 0 0 [.ref q, .int v, .int w] [(q, .inr (8, [.ref (ma 0), .ref (ma 1), .int (nI sN), .ref (ma 2), .int (nI L), .int th, .ref (ma 3), .ref (ma 4), .ref (ma 5), .ref (ma 6), .int nd, .int ct, .int ht, .ref (ma 7), .ref (ma 8), .ref (ma 9), .ref (ma 10), .ref (ma 11), .ref (ma 12), .ref (ma 13), .ref (ma 14), .int sp, .int iw, .int mn])), (ma 0, .inl (G.1, 457, .inl sr))] (fun (r : Int32) (_ : Unit) => r = 0) (fun (_ : Unit) => [(q, .inr (8, [.ref (ma 0), .ref (ma 1), .int (nI sN), .ref (ma 2), .int (nI L), .int (nI 1), .ref (ma 3), .ref (ma 4), .ref (ma 5), .ref (ma 6), .int nd, .int ct, .int ht, .ref (ma 7), .ref (ma 8), .ref (ma 9), .ref (ma 10), .ref (ma 11), .ref (ma 12), .ref (ma 13), .ref (ma 14), .int sp, .int iw, .int mn])), (ma 0, .inl (G.1, 457, .inl sr))]) := by
  refine MtI.of (by decide) (Nat.le_of_ble_eq_true rfl) ?_
  intro pr e s9 m9 below meth c9 A ls C hP hD hl
  obtain ⟨hx, hb, hml, hown, hts, hr, hlocks, hA, hAm⟩ := id C
  have hK := hAm.1
  have hS : va_S A s9.heap s9.heap [] := va_S.rf
  have hl : lv_has ls 3 [(0, .ref q), (1, .int v), (2, .int w)] := hl
  refine lv_aload_n hx hb dX8_entryValue_0 rfl (lv_at hl 0 rfl) ?_
  refine lv_iload_n hx hb dX8_entryValue_1 rfl (lv_at hl 1 rfl) ?_
  refine lv_iconst (v := 0) hx hb dX8_entryValue_2 (by decide) ?_
  refine lv_bipush (v := 11) hx hb dX8_entryValue_3 (by decide) ?_
  refine aftI0 C (runS_G (As := [.int v, .int 0, .int 11]) (rest := [.ref q]) C (mX8_in l D G v 0 11 ) hS hP hD [] rfl (by decide) (ys_X8_in) kw_10_21 kw_10_22 ⟨Nat.le_of_ble_eq_true rfl, Nat.le_of_ble_eq_true rfl⟩ hl.1 (Nat.le_of_ble_eq_true rfl) dX8_entryValue_5 rfl rfl ⟨Nat.zero_le _, Nat.zero_le _⟩) hS hP hD [] rfl (fun r5 _ H locs hp5 hP hS => ?_)
  refine ro_top (z := bI (¬ v < 0 ∧ ¬ 11 < v)) hx hp5 ?_
  refine lv_if_eq (tgt := 25) hx hb dX8_entryValue_8 (by decide) (fun c_8 => ?_) (fun c_8 => ?_)
  · have c_8 := bI_0 c_8
    refine lv_iconst (v := 1) hx hb dX8_entryValue_25 (by decide) ?_
    refine aftI C (runV_G (As := [.int 1]) (rest := []) (ci := 8) (N := 24) (T := TX8) (q0 := 0) C (mX8_refused l D G q ma sN L th nd ct ht sp iw mn 1 (by omega)) hS hP hD [0] rfl (by decide) rfl rfl (ys_X8_refused) kw_11_0 kw_11_1 kw_11_2 ⟨Nat.le_of_ble_eq_true rfl, Nat.le_of_ble_eq_true rfl⟩ hl.1 (Nat.le_of_ble_eq_true rfl) dX8_entryValue_26 rfl rfl ⟨Nat.zero_le _, Nat.zero_le _⟩) hS hP hD [0] rfl (fun _ => rfl) (fun r26 _ H locs hp26 hP hD hS => ?_)
    have hP : va_P D vwCl [(q, .inr (8, [.ref (ma 0), .ref (ma 1), .int (nI sN), .ref (ma 2), .int (nI L), .int (nI 1), .ref (ma 3), .ref (ma 4), .ref (ma 5), .ref (ma 6), .int nd, .int ct, .int ht, .ref (ma 7), .ref (ma 8), .ref (ma 9), .ref (ma 10), .ref (ma 11), .ref (ma 12), .ref (ma 13), .ref (ma 14), .int sp, .int iw, .int mn])), (ma 0, .inl (G.1, 457, .inl sr))] H := hP
    have hD : va_D A [(q, .inr (8, [.ref (ma 0), .ref (ma 1), .int (nI sN), .ref (ma 2), .int (nI L), .int (nI 1), .ref (ma 3), .ref (ma 4), .ref (ma 5), .ref (ma 6), .int nd, .int ct, .int ht, .ref (ma 7), .ref (ma 8), .ref (ma 9), .ref (ma 10), .ref (ma 11), .ref (ma 12), .ref (ma 13), .ref (ma 14), .int sp, .int iw, .int mn])), (ma 0, .inl (G.1, 457, .inl sr))] := hD
    refine ro_top (z := bI (0 < 1)) hx hp26 ?_
    refine lv_if_eq (tgt := 34) hx hb dX8_entryValue_29 (by decide) (fun h => absurd h (by decide)) (fun _ => ?_)
    refine lv_iconst (v := 0) hx hb dX8_entryValue_32 (by decide) ?_
    exact endI C rfl () rfl hS hP dX8_entryValue_33
  · have c_8 := bI_1 c_8
    refine lv_iload_n hx hb dX8_entryValue_11 rfl (lv_at hl 2 rfl) ?_
    refine lv_iconst (v := 1) hx hb dX8_entryValue_12 (by decide) ?_
    refine lv_bipush (v := 12) hx hb dX8_entryValue_13 (by decide) ?_
    refine aftI0 C (runS_G (As := [.int w, .int 1, .int 12]) (rest := [.ref q]) C (mX8_in l D G w 1 12 ) hS hP hD [] rfl (by decide) (ys_X8_in) kw_10_21 kw_10_22 ⟨Nat.le_of_ble_eq_true rfl, Nat.le_of_ble_eq_true rfl⟩ hl.1 (Nat.le_of_ble_eq_true rfl) dX8_entryValue_15 rfl rfl ⟨Nat.zero_le _, Nat.zero_le _⟩) hS hP hD [] rfl (fun r15 _ H locs hp15 hP hS => ?_)
    refine ro_top (z := bI (¬ w < 1 ∧ ¬ 12 < w)) hx hp15 ?_
    refine lv_if_eq (tgt := 25) hx hb dX8_entryValue_18 (by decide) (fun c_18 => ?_) (fun c_18 => ?_)
    · have c_18 := bI_0 c_18
      refine lv_iconst (v := 1) hx hb dX8_entryValue_25 (by decide) ?_
      refine aftI C (runV_G (As := [.int 1]) (rest := []) (ci := 8) (N := 24) (T := TX8) (q0 := 0) C (mX8_refused l D G q ma sN L th nd ct ht sp iw mn 1 (by omega)) hS hP hD [0] rfl (by decide) rfl rfl (ys_X8_refused) kw_11_0 kw_11_1 kw_11_2 ⟨Nat.le_of_ble_eq_true rfl, Nat.le_of_ble_eq_true rfl⟩ hl.1 (Nat.le_of_ble_eq_true rfl) dX8_entryValue_26 rfl rfl ⟨Nat.zero_le _, Nat.zero_le _⟩) hS hP hD [0] rfl (fun _ => rfl) (fun r26 _ H locs hp26 hP hD hS => ?_)
      have hP : va_P D vwCl [(q, .inr (8, [.ref (ma 0), .ref (ma 1), .int (nI sN), .ref (ma 2), .int (nI L), .int (nI 1), .ref (ma 3), .ref (ma 4), .ref (ma 5), .ref (ma 6), .int nd, .int ct, .int ht, .ref (ma 7), .ref (ma 8), .ref (ma 9), .ref (ma 10), .ref (ma 11), .ref (ma 12), .ref (ma 13), .ref (ma 14), .int sp, .int iw, .int mn])), (ma 0, .inl (G.1, 457, .inl sr))] H := hP
      have hD : va_D A [(q, .inr (8, [.ref (ma 0), .ref (ma 1), .int (nI sN), .ref (ma 2), .int (nI L), .int (nI 1), .ref (ma 3), .ref (ma 4), .ref (ma 5), .ref (ma 6), .int nd, .int ct, .int ht, .ref (ma 7), .ref (ma 8), .ref (ma 9), .ref (ma 10), .ref (ma 11), .ref (ma 12), .ref (ma 13), .ref (ma 14), .int sp, .int iw, .int mn])), (ma 0, .inl (G.1, 457, .inl sr))] := hD
      refine ro_top (z := bI (0 < 1)) hx hp26 ?_
      refine lv_if_eq (tgt := 34) hx hb dX8_entryValue_29 (by decide) (fun h => absurd h (by decide)) (fun _ => ?_)
      refine lv_iconst (v := 0) hx hb dX8_entryValue_32 (by decide) ?_
      exact endI C rfl () rfl hS hP dX8_entryValue_33
    · have c_18 := bI_1 c_18
      exact absurd ⟨c_8, c_18⟩ hbad
set_option maxHeartbeats 800000 in
set_option maxRecDepth 100000 in
theorem mX8_order (l : Launch) (D : va_G) (G : u_G) (q : Nat) (ma : Nat → Nat) (sN L : Nat) (th nd ct ht sp iw mn : Int32) (sr p : Nat → Int32) (x : Nat → Nat) (y : Nat → Int32) (M : Nat) (k : Nat) (hR : RowR sr x y M p) (hM : M ≤ 12) (hk : k < 4) (ho : x 18 < 24) : MtI l D G yX8_order cX8_order 2 .int 3 0 0 [.ref q, .int (nI k)] [(q, .inr (8, [.ref (ma 0), .ref (ma 1), .int (nI sN), .ref (ma 2), .int (nI L), .int th, .ref (ma 3), .ref (ma 4), .ref (ma 5), .ref (ma 6), .int nd, .int ct, .int ht, .ref (ma 7), .ref (ma 8), .ref (ma 9), .ref (ma 10), .ref (ma 11), .ref (ma 12), .ref (ma 13), .ref (ma 14), .int sp, .int iw, .int mn])), (ma 0, .inl (G.1, 457, .inl sr))] (fun (r : Int32) (_ : Unit) => r = nI (odf (x 18) k)) (fun (_ : Unit) => [(q, .inr (8, [.ref (ma 0), .ref (ma 1), .int (nI sN), .ref (ma 2), .int (nI L), .int (nI 0), .ref (ma 3), .ref (ma 4), .ref (ma 5), .ref (ma 6), .int nd, .int ct, .int ht, .ref (ma 7), .ref (ma 8), .ref (ma 9), .ref (ma 10), .ref (ma 11), .ref (ma 12), .ref (ma 13), .ref (ma 14), .int sp, .int iw, .int mn])), (ma 0, .inl (G.1, 457, .inl sr))]) := by
  refine MtI.of (by decide) (Nat.le_of_ble_eq_true rfl) ?_
  intro pr e s9 m9 below meth c9 A ls C hP hD hl
  obtain ⟨hx, hb, hml, hown, hts, hr, hlocks, hA, hAm⟩ := id C
  have hK := hAm.1
  have hS : va_S A s9.heap s9.heap [] := va_S.rf
  have hl : lv_has ls 2 [(0, .ref q), (1, .int (nI k))] := hl
  refine lv_aload_n hx hb dX8_order_0 rfl (lv_at hl 0 rfl) ?_
  refine lv_iload_n hx hb dX8_order_1 rfl (lv_at hl 1 rfl) ?_
  refine lv_iconst (v := 0) hx hb dX8_order_2 (by decide) ?_
  refine lv_iconst (v := 3) hx hb dX8_order_3 (by decide) ?_
  refine aftI0 C (runS_G (As := [.int (nI k), .int 0, .int 3]) (rest := [.ref q]) C (mX8_in l D G (nI k) 0 3 ) hS hP hD [] rfl (by decide) (ys_X8_in) kw_10_21 kw_10_22 ⟨Nat.le_of_ble_eq_true rfl, Nat.le_of_ble_eq_true rfl⟩ hl.1 (Nat.le_of_ble_eq_true rfl) dX8_order_4 rfl rfl ⟨Nat.zero_le _, Nat.zero_le _⟩) hS hP hD [] rfl (fun r4 _ H locs hp4 hP hS => ?_)
  refine ro_top (z := bI (¬ (nI k) < 0 ∧ ¬ 3 < (nI k))) hx hp4 ?_
  refine lv_if_eq (tgt := 14) hx hb dX8_order_7 (by decide) (fun c_7 => ?_) (fun c_7 => ?_)
  · have c_7 := bI_0 c_7
    exact absurd (nin (Nat.zero_le k) (show k ≤ 3 by omega) (by decide)) c_7
  · have c_7 := bI_1 c_7
    refine lv_iconst (v := 0) hx hb dX8_order_10 (by decide) ?_
    refine lv_goto (tgt := 15) hx hb dX8_order_11 (by decide) ?_
    refine aftI C (runV_G (As := [.int 0]) (rest := []) (ci := 8) (N := 24) (T := TX8) (q0 := 0) C (mX8_refused l D G q ma sN L th nd ct ht sp iw mn 0 (by omega)) hS hP hD [0] rfl (by decide) rfl rfl (ys_X8_refused) kw_11_0 kw_11_1 kw_11_2 ⟨Nat.le_of_ble_eq_true rfl, Nat.le_of_ble_eq_true rfl⟩ hl.1 (Nat.le_of_ble_eq_true rfl) dX8_order_15 rfl rfl ⟨Nat.zero_le _, Nat.zero_le _⟩) hS hP hD [0] rfl (fun _ => rfl) (fun r15 _ H locs hp15 hP hD hS => ?_)
    have hP : va_P D vwCl [(q, .inr (8, [.ref (ma 0), .ref (ma 1), .int (nI sN), .ref (ma 2), .int (nI L), .int (nI 0), .ref (ma 3), .ref (ma 4), .ref (ma 5), .ref (ma 6), .int nd, .int ct, .int ht, .ref (ma 7), .ref (ma 8), .ref (ma 9), .ref (ma 10), .ref (ma 11), .ref (ma 12), .ref (ma 13), .ref (ma 14), .int sp, .int iw, .int mn])), (ma 0, .inl (G.1, 457, .inl sr))] H := hP
    have hD : va_D A [(q, .inr (8, [.ref (ma 0), .ref (ma 1), .int (nI sN), .ref (ma 2), .int (nI L), .int (nI 0), .ref (ma 3), .ref (ma 4), .ref (ma 5), .ref (ma 6), .int nd, .int ct, .int ht, .ref (ma 7), .ref (ma 8), .ref (ma 9), .ref (ma 10), .ref (ma 11), .ref (ma 12), .ref (ma 13), .ref (ma 14), .int sp, .int iw, .int mn])), (ma 0, .inl (G.1, 457, .inl sr))] := hD
    refine ro_top (z := bI (0 < 0)) hx hp15 ?_
    refine lv_if_eq (tgt := 23) hx hb dX8_order_18 (by decide) (fun _ => ?_) (fun h => absurd (by decide) h)
    refine lv_aload_n hx hb dX8_order_23 rfl (lv_at hl 0 rfl) ?_
    refine va_get (D := D) (ci := 8) (v := .ref (ma 0)) (C := RX8) (T := TX8) (N := 24) hx hb hts inlX8 hown hK hP 0 rfl rfl 0 (by decide) (hts _ kw_5_6) (fun _ h9 => h9) rfl dX8_order_24 ?_
    refine lv_bipush (v := 18) hx hb dX8_order_27 (by decide) ?_
    refine ro_iald (k := 18) (v := nI (x 18)) hx hb hK hP 1 0 rfl rfl rfl (by decide) (by decide) hR.n18 dX8_order_29 ?_
    refine lv_iload_n hx hb dX8_order_30 rfl (lv_at hl 1 rfl) ?_
    refine aftI0 C (runS_G (As := [.int (nI (x 18)), .int (nI k)]) (rest := []) C (mX8_moveOf l D G (x 18) k ho hk) hS hP hD [] rfl (by decide) (ys_X8_moveOf) kw_21_8 kw_21_9 ⟨Nat.le_of_ble_eq_true rfl, Nat.le_of_ble_eq_true rfl⟩ hl.1 (Nat.le_of_ble_eq_true rfl) dX8_order_31 rfl rfl ⟨Nat.zero_le _, Nat.zero_le _⟩) hS hP hD [] rfl (fun r31 _ H locs hp31 hP hS => ?_)
    refine ro_top (z := nI (ordN ((x 18) * 4 + k))) hx hp31 ?_
    exact endI C rfl () rfl hS hP dX8_order_34
set_option maxHeartbeats 800000 in
set_option maxRecDepth 100000 in
theorem mX8_order_T1 (l : Launch) (D : va_G) (G : u_G) (q : Nat) (ma : Nat → Nat) (sN L : Nat) (th nd ct ht sp iw mn : Int32) (sr p : Nat → Int32) (x : Nat → Nat) (y : Nat → Int32) (M : Nat) (v : Int32) (hR : RowR sr x y M p) (hM : M ≤ 12) (hbad : ¬ (¬ v < 0 ∧ ¬ 3 < v)) : MtI l D G yX8_order cX8_order 2 .int 3 0 0 [.ref q, .int v] [(q, .inr (8, [.ref (ma 0), .ref (ma 1), .int (nI sN), .ref (ma 2), .int (nI L), .int th, .ref (ma 3), .ref (ma 4), .ref (ma 5), .ref (ma 6), .int nd, .int ct, .int ht, .ref (ma 7), .ref (ma 8), .ref (ma 9), .ref (ma 10), .ref (ma 11), .ref (ma 12), .ref (ma 13), .ref (ma 14), .int sp, .int iw, .int mn])), (ma 0, .inl (G.1, 457, .inl sr))] (fun (r : Int32) (_ : Unit) => r = 0) (fun (_ : Unit) => [(q, .inr (8, [.ref (ma 0), .ref (ma 1), .int (nI sN), .ref (ma 2), .int (nI L), .int (nI 1), .ref (ma 3), .ref (ma 4), .ref (ma 5), .ref (ma 6), .int nd, .int ct, .int ht, .ref (ma 7), .ref (ma 8), .ref (ma 9), .ref (ma 10), .ref (ma 11), .ref (ma 12), .ref (ma 13), .ref (ma 14), .int sp, .int iw, .int mn])), (ma 0, .inl (G.1, 457, .inl sr))]) := by
  refine MtI.of (by decide) (Nat.le_of_ble_eq_true rfl) ?_
  intro pr e s9 m9 below meth c9 A ls C hP hD hl
  obtain ⟨hx, hb, hml, hown, hts, hr, hlocks, hA, hAm⟩ := id C
  have hK := hAm.1
  have hS : va_S A s9.heap s9.heap [] := va_S.rf
  have hl : lv_has ls 2 [(0, .ref q), (1, .int v)] := hl
  refine lv_aload_n hx hb dX8_order_0 rfl (lv_at hl 0 rfl) ?_
  refine lv_iload_n hx hb dX8_order_1 rfl (lv_at hl 1 rfl) ?_
  refine lv_iconst (v := 0) hx hb dX8_order_2 (by decide) ?_
  refine lv_iconst (v := 3) hx hb dX8_order_3 (by decide) ?_
  refine aftI0 C (runS_G (As := [.int v, .int 0, .int 3]) (rest := [.ref q]) C (mX8_in l D G v 0 3 ) hS hP hD [] rfl (by decide) (ys_X8_in) kw_10_21 kw_10_22 ⟨Nat.le_of_ble_eq_true rfl, Nat.le_of_ble_eq_true rfl⟩ hl.1 (Nat.le_of_ble_eq_true rfl) dX8_order_4 rfl rfl ⟨Nat.zero_le _, Nat.zero_le _⟩) hS hP hD [] rfl (fun r4 _ H locs hp4 hP hS => ?_)
  refine ro_top (z := bI (¬ v < 0 ∧ ¬ 3 < v)) hx hp4 ?_
  refine lv_if_eq (tgt := 14) hx hb dX8_order_7 (by decide) (fun c_7 => ?_) (fun c_7 => ?_)
  · have c_7 := bI_0 c_7
    refine lv_iconst (v := 1) hx hb dX8_order_14 (by decide) ?_
    refine aftI C (runV_G (As := [.int 1]) (rest := []) (ci := 8) (N := 24) (T := TX8) (q0 := 0) C (mX8_refused l D G q ma sN L th nd ct ht sp iw mn 1 (by omega)) hS hP hD [0] rfl (by decide) rfl rfl (ys_X8_refused) kw_11_0 kw_11_1 kw_11_2 ⟨Nat.le_of_ble_eq_true rfl, Nat.le_of_ble_eq_true rfl⟩ hl.1 (Nat.le_of_ble_eq_true rfl) dX8_order_15 rfl rfl ⟨Nat.zero_le _, Nat.zero_le _⟩) hS hP hD [0] rfl (fun _ => rfl) (fun r15 _ H locs hp15 hP hD hS => ?_)
    have hP : va_P D vwCl [(q, .inr (8, [.ref (ma 0), .ref (ma 1), .int (nI sN), .ref (ma 2), .int (nI L), .int (nI 1), .ref (ma 3), .ref (ma 4), .ref (ma 5), .ref (ma 6), .int nd, .int ct, .int ht, .ref (ma 7), .ref (ma 8), .ref (ma 9), .ref (ma 10), .ref (ma 11), .ref (ma 12), .ref (ma 13), .ref (ma 14), .int sp, .int iw, .int mn])), (ma 0, .inl (G.1, 457, .inl sr))] H := hP
    have hD : va_D A [(q, .inr (8, [.ref (ma 0), .ref (ma 1), .int (nI sN), .ref (ma 2), .int (nI L), .int (nI 1), .ref (ma 3), .ref (ma 4), .ref (ma 5), .ref (ma 6), .int nd, .int ct, .int ht, .ref (ma 7), .ref (ma 8), .ref (ma 9), .ref (ma 10), .ref (ma 11), .ref (ma 12), .ref (ma 13), .ref (ma 14), .int sp, .int iw, .int mn])), (ma 0, .inl (G.1, 457, .inl sr))] := hD
    refine ro_top (z := bI (0 < 1)) hx hp15 ?_
    refine lv_if_eq (tgt := 23) hx hb dX8_order_18 (by decide) (fun h => absurd h (by decide)) (fun _ => ?_)
    refine lv_iconst (v := 0) hx hb dX8_order_21 (by decide) ?_
    exact endI C rfl () rfl hS hP dX8_order_22
  · have c_7 := bI_1 c_7
    exact absurd c_7 hbad
