theorem ys_X0_copyFrom : YS yX0_copyFrom cX0_copyFrom 2 none 1 := ⟨kw_6_9, kw_2_15, by decide, by decide, by decide⟩
theorem ys_X0_clear : YS yX0_clear cX0_clear 2 none 0 := ⟨kw_10_7, kw_2_15, by decide, by decide, by decide⟩
theorem ys_X2_copyFrom : YS yX2_copyFrom cX2_copyFrom 2 none 1 := ⟨kw_6_3, kw_2_11, by decide, by decide, by decide⟩
theorem ys_X2_begin : YS yX2_begin cX2_begin 3 none 2 := ⟨kw_18_13, kw_2_11, by decide, by decide, by decide⟩
theorem ys_X2_make : YS yX2_make cX2_make 3 (some .int) 1 := ⟨kw_19_0, kw_2_11, by decide, by decide, by decide⟩
theorem ys_X6_copyFrom : YS yX6_copyFrom cX6_copyFrom 2 none 1 := ⟨kw_5_23, kw_1_12, by decide, by decide, by decide⟩
theorem ys_X4_read : YS yX4_read cX4_read 2 (some .int) 0 := ⟨kw_8_11, kw_1_20, by decide, by decide, by decide⟩
theorem ys_X4_accepts : YS yX4_accepts cX4_accepts 3 (some .boolean) 1 := ⟨kw_8_15, kw_1_20, by decide, by decide, by decide⟩
theorem ys_X4_acceptsComma : YS yX4_acceptsComma cX4_acceptsComma 1 (some .boolean) 0 := ⟨kw_8_19, kw_1_20, by decide, by decide, by decide⟩
theorem ys_X4_isRow : YS yX4_isRow cX4_isRow 1 (some .boolean) 0 := ⟨kw_18_4, kw_1_20, by decide, by decide, by decide⟩
theorem ys_X1_solve : YS yX1_solve cX1_solve 6 none 1 := ⟨kw_6_13, kw_2_0, by decide, by decide, by decide⟩
theorem ys_X1_bestMoveAt : YS yX1_bestMoveAt cX1_bestMoveAt 7 (some .int) 2 := ⟨kw_6_20, kw_2_0, by decide, by decide, by decide⟩
theorem ys_X1_resultAt : YS yX1_resultAt cX1_resultAt 5 (some .int) 3 := ⟨kw_7_0, kw_2_0, by decide, by decide, by decide⟩
theorem ys_X1_valueAt : YS yX1_valueAt cX1_valueAt 3 (some .int) 2 := ⟨kw_7_15, kw_2_0, by decide, by decide, by decide⟩
set_option maxHeartbeats 800000 in
set_option maxRecDepth 100000 in
theorem mX0_copyFrom (l : Launch) (D : va_G) (G : u_G) (a ak av b bk bv : Nat) (a0 a2 a3 b0 b2 b3 : Int32) (a1 b1 : Nat) (kf vf kg vg : Nat → Int32) : MtV l D G yX0_copyFrom cX0_copyFrom 2 2 0 0 [.ref a, .ref b] [(a, .inr (0, [.int a0, .int (nI a1), .int a2, .int a3, .ref ak, .ref av])), (ak, .inl (G.1, 144, .inl kf)), (av, .inl (G.1, 144, .inl vf)), (b, .inr (0, [.int b0, .int (nI b1), .int b2, .int b3, .ref bk, .ref bv])), (bk, .inl (G.1, 144, .inl kg)), (bv, .inl (G.1, 144, .inl vg))] (fun (_ : Unit) => True) (fun (_ : Unit) => [(a, .inr (0, [.int b0, .int (nI b1), .int b2, .int b3, .ref ak, .ref av])), (ak, .inl (G.1, 144, .inl kg)), (av, .inl (G.1, 144, .inl vg)), (b, .inr (0, [.int b0, .int (nI b1), .int b2, .int b3, .ref bk, .ref bv])), (bk, .inl (G.1, 144, .inl kg)), (bv, .inl (G.1, 144, .inl vg))]) := by
  refine MtV.of (by decide) (Nat.le_of_ble_eq_true rfl) ?_
  intro pr e s9 m9 below meth c9 A ls C hP hD hl hin
  obtain ⟨hx, hb, hml, hown, hts, hr, hlocks, hA, hAm⟩ := id C
  have hK := hAm.1
  have hS : va_S A s9.heap s9.heap [] := va_S.rf
  have hl : lv_has ls 2 [(0, .ref a), (1, .ref b)] := hl
  refine lv_aload_n hx hb dX0_copyFrom_0 rfl (lv_at hl 0 rfl) ?_
  refine lv_aload_n hx hb dX0_copyFrom_1 rfl (lv_at hl 1 rfl) ?_
  refine va_get (D := D) (ci := 0) (v := .int b0) (C := RX0) (T := TX0) (N := 6) hx hb hts inlX0 hown hK hP 3 rfl rfl 0 (by decide) (hts _ kw_3_9) (fun _ h9 => h9) rfl dX0_copyFrom_2 ?_
  refine va_put (D := D) (ci := 0) (v := .int b0) (ty := .int) (C := RX0) (T := TX0) (N := 6) hx hb hts inlX0 tyX0 tyX0_ok nmX0 hown hK hP hD hS 0 rfl rfl 0 (by decide) (hts _ kw_3_9) (fun _ h9 => h9) rfl (by decide +kernel) rfl rfl (Nat.le_of_ble_eq_true rfl) dX0_copyFrom_5 (fun H locs hP hD hS => ?_)
  have hP : va_P D vwCl [(a, .inr (0, [.int b0, .int (nI a1), .int a2, .int a3, .ref ak, .ref av])), (ak, .inl (G.1, 144, .inl kf)), (av, .inl (G.1, 144, .inl vf)), (b, .inr (0, [.int b0, .int (nI b1), .int b2, .int b3, .ref bk, .ref bv])), (bk, .inl (G.1, 144, .inl kg)), (bv, .inl (G.1, 144, .inl vg))] H := hP
  have hD : va_D A [(a, .inr (0, [.int b0, .int (nI a1), .int a2, .int a3, .ref ak, .ref av])), (ak, .inl (G.1, 144, .inl kf)), (av, .inl (G.1, 144, .inl vf)), (b, .inr (0, [.int b0, .int (nI b1), .int b2, .int b3, .ref bk, .ref bv])), (bk, .inl (G.1, 144, .inl kg)), (bv, .inl (G.1, 144, .inl vg))] := hD
  refine lv_aload_n hx hb dX0_copyFrom_8 rfl (lv_at hl 0 rfl) ?_
  refine lv_aload_n hx hb dX0_copyFrom_9 rfl (lv_at hl 1 rfl) ?_
  refine va_get (D := D) (ci := 0) (v := .int (nI b1)) (C := RX0) (T := TX0) (N := 6) hx hb hts inlX0 hown hK hP 3 rfl rfl 1 (by decide) (hts _ kw_3_10) (fun _ h9 => h9) rfl dX0_copyFrom_10 ?_
  refine va_put (D := D) (ci := 0) (v := .int (nI b1)) (ty := .int) (C := RX0) (T := TX0) (N := 6) hx hb hts inlX0 tyX0 tyX0_ok nmX0 hown hK hP hD hS 0 rfl rfl 1 (by decide) (hts _ kw_3_10) (fun _ h9 => h9) rfl (by decide +kernel) rfl rfl (Nat.le_of_ble_eq_true rfl) dX0_copyFrom_13 (fun H locs hP hD hS => ?_)
  have hP : va_P D vwCl [(a, .inr (0, [.int b0, .int (nI b1), .int a2, .int a3, .ref ak, .ref av])), (ak, .inl (G.1, 144, .inl kf)), (av, .inl (G.1, 144, .inl vf)), (b, .inr (0, [.int b0, .int (nI b1), .int b2, .int b3, .ref bk, .ref bv])), (bk, .inl (G.1, 144, .inl kg)), (bv, .inl (G.1, 144, .inl vg))] H := hP
  have hD : va_D A [(a, .inr (0, [.int b0, .int (nI b1), .int a2, .int a3, .ref ak, .ref av])), (ak, .inl (G.1, 144, .inl kf)), (av, .inl (G.1, 144, .inl vf)), (b, .inr (0, [.int b0, .int (nI b1), .int b2, .int b3, .ref bk, .ref bv])), (bk, .inl (G.1, 144, .inl kg)), (bv, .inl (G.1, 144, .inl vg))] := hD
  refine lv_aload_n hx hb dX0_copyFrom_16 rfl (lv_at hl 0 rfl) ?_
  refine lv_aload_n hx hb dX0_copyFrom_17 rfl (lv_at hl 1 rfl) ?_
  refine va_get (D := D) (ci := 0) (v := .int b2) (C := RX0) (T := TX0) (N := 6) hx hb hts inlX0 hown hK hP 3 rfl rfl 2 (by decide) (hts _ kw_3_11) (fun _ h9 => h9) rfl dX0_copyFrom_18 ?_
  refine va_put (D := D) (ci := 0) (v := .int b2) (ty := .int) (C := RX0) (T := TX0) (N := 6) hx hb hts inlX0 tyX0 tyX0_ok nmX0 hown hK hP hD hS 0 rfl rfl 2 (by decide) (hts _ kw_3_11) (fun _ h9 => h9) rfl (by decide +kernel) rfl rfl (Nat.le_of_ble_eq_true rfl) dX0_copyFrom_21 (fun H locs hP hD hS => ?_)
  have hP : va_P D vwCl [(a, .inr (0, [.int b0, .int (nI b1), .int b2, .int a3, .ref ak, .ref av])), (ak, .inl (G.1, 144, .inl kf)), (av, .inl (G.1, 144, .inl vf)), (b, .inr (0, [.int b0, .int (nI b1), .int b2, .int b3, .ref bk, .ref bv])), (bk, .inl (G.1, 144, .inl kg)), (bv, .inl (G.1, 144, .inl vg))] H := hP
  have hD : va_D A [(a, .inr (0, [.int b0, .int (nI b1), .int b2, .int a3, .ref ak, .ref av])), (ak, .inl (G.1, 144, .inl kf)), (av, .inl (G.1, 144, .inl vf)), (b, .inr (0, [.int b0, .int (nI b1), .int b2, .int b3, .ref bk, .ref bv])), (bk, .inl (G.1, 144, .inl kg)), (bv, .inl (G.1, 144, .inl vg))] := hD
  refine lv_aload_n hx hb dX0_copyFrom_24 rfl (lv_at hl 0 rfl) ?_
  refine lv_aload_n hx hb dX0_copyFrom_25 rfl (lv_at hl 1 rfl) ?_
  refine va_get (D := D) (ci := 0) (v := .int b3) (C := RX0) (T := TX0) (N := 6) hx hb hts inlX0 hown hK hP 3 rfl rfl 3 (by decide) (hts _ kw_3_12) (fun _ h9 => h9) rfl dX0_copyFrom_26 ?_
  refine va_put (D := D) (ci := 0) (v := .int b3) (ty := .int) (C := RX0) (T := TX0) (N := 6) hx hb hts inlX0 tyX0 tyX0_ok nmX0 hown hK hP hD hS 0 rfl rfl 3 (by decide) (hts _ kw_3_12) (fun _ h9 => h9) rfl (by decide +kernel) rfl rfl (Nat.le_of_ble_eq_true rfl) dX0_copyFrom_29 (fun H locs hP hD hS => ?_)
  have hP : va_P D vwCl [(a, .inr (0, [.int b0, .int (nI b1), .int b2, .int b3, .ref ak, .ref av])), (ak, .inl (G.1, 144, .inl kf)), (av, .inl (G.1, 144, .inl vf)), (b, .inr (0, [.int b0, .int (nI b1), .int b2, .int b3, .ref bk, .ref bv])), (bk, .inl (G.1, 144, .inl kg)), (bv, .inl (G.1, 144, .inl vg))] H := hP
  have hD : va_D A [(a, .inr (0, [.int b0, .int (nI b1), .int b2, .int b3, .ref ak, .ref av])), (ak, .inl (G.1, 144, .inl kf)), (av, .inl (G.1, 144, .inl vf)), (b, .inr (0, [.int b0, .int (nI b1), .int b2, .int b3, .ref bk, .ref bv])), (bk, .inl (G.1, 144, .inl kg)), (bv, .inl (G.1, 144, .inl vg))] := hD
  refine lv_aload_n hx hb dX0_copyFrom_32 rfl (lv_at hl 1 rfl) ?_
  refine va_get (D := D) (ci := 0) (v := .ref bk) (C := RX0) (T := TX0) (N := 6) hx hb hts inlX0 hown hK hP 3 rfl rfl 4 (by decide) (hts _ kw_3_13) (fun _ h9 => h9) rfl dX0_copyFrom_33 ?_
  refine lv_aload_n hx hb dX0_copyFrom_36 rfl (lv_at hl 0 rfl) ?_
  refine va_get (D := D) (ci := 0) (v := .ref ak) (C := RX0) (T := TX0) (N := 6) hx hb hts inlX0 hown hK hP 0 rfl rfl 4 (by decide) (hts _ kw_3_13) (fun _ h9 => h9) rfl dX0_copyFrom_37 ?_
  refine aftV C (runSN_G (As := [.ref bk, .ref ak]) (rest := []) C (mX7_copy l D G bk ak 144 kg kf (by omega)) hS hP hD [4, 1] rfl (by decide) (ys_X7_copy) nw_11 kw_6_4 ⟨Nat.le_of_ble_eq_true rfl, Nat.le_of_ble_eq_true rfl⟩ hl.1 (Nat.le_of_ble_eq_true rfl) dX0_copyFrom_40 rfl rfl ⟨Nat.zero_le _, Nat.zero_le _⟩) hS hP hD [4, 1] rfl (fun _ => rfl) (fun _ H locs hp40 hP hD hS => ?_)
  have hP : va_P D vwCl [(a, .inr (0, [.int b0, .int (nI b1), .int b2, .int b3, .ref ak, .ref av])), (ak, .inl (G.1, 144, .inl kg)), (av, .inl (G.1, 144, .inl vf)), (b, .inr (0, [.int b0, .int (nI b1), .int b2, .int b3, .ref bk, .ref bv])), (bk, .inl (G.1, 144, .inl kg)), (bv, .inl (G.1, 144, .inl vg))] H := hP
  have hD : va_D A [(a, .inr (0, [.int b0, .int (nI b1), .int b2, .int b3, .ref ak, .ref av])), (ak, .inl (G.1, 144, .inl kg)), (av, .inl (G.1, 144, .inl vf)), (b, .inr (0, [.int b0, .int (nI b1), .int b2, .int b3, .ref bk, .ref bv])), (bk, .inl (G.1, 144, .inl kg)), (bv, .inl (G.1, 144, .inl vg))] := hD
  refine lv_aload_n hx hb dX0_copyFrom_43 rfl (lv_at hl 1 rfl) ?_
  refine va_get (D := D) (ci := 0) (v := .ref bv) (C := RX0) (T := TX0) (N := 6) hx hb hts inlX0 hown hK hP 3 rfl rfl 5 (by decide) (hts _ kw_3_14) (fun _ h9 => h9) rfl dX0_copyFrom_44 ?_
  refine lv_aload_n hx hb dX0_copyFrom_47 rfl (lv_at hl 0 rfl) ?_
  refine va_get (D := D) (ci := 0) (v := .ref av) (C := RX0) (T := TX0) (N := 6) hx hb hts inlX0 hown hK hP 0 rfl rfl 5 (by decide) (hts _ kw_3_14) (fun _ h9 => h9) rfl dX0_copyFrom_48 ?_
  refine aftV C (runSN_G (As := [.ref bv, .ref av]) (rest := []) C (mX7_copy l D G bv av 144 vg vf (by omega)) hS hP hD [5, 2] rfl (by decide) (ys_X7_copy) nw_11 kw_6_4 ⟨Nat.le_of_ble_eq_true rfl, Nat.le_of_ble_eq_true rfl⟩ hl.1 (Nat.le_of_ble_eq_true rfl) dX0_copyFrom_51 rfl rfl ⟨Nat.zero_le _, Nat.zero_le _⟩) hS hP hD [5, 2] rfl (fun _ => rfl) (fun _ H locs hp51 hP hD hS => ?_)
  have hP : va_P D vwCl [(a, .inr (0, [.int b0, .int (nI b1), .int b2, .int b3, .ref ak, .ref av])), (ak, .inl (G.1, 144, .inl kg)), (av, .inl (G.1, 144, .inl vg)), (b, .inr (0, [.int b0, .int (nI b1), .int b2, .int b3, .ref bk, .ref bv])), (bk, .inl (G.1, 144, .inl kg)), (bv, .inl (G.1, 144, .inl vg))] H := hP
  have hD : va_D A [(a, .inr (0, [.int b0, .int (nI b1), .int b2, .int b3, .ref ak, .ref av])), (ak, .inl (G.1, 144, .inl kg)), (av, .inl (G.1, 144, .inl vg)), (b, .inr (0, [.int b0, .int (nI b1), .int b2, .int b3, .ref bk, .ref bv])), (bk, .inl (G.1, 144, .inl kg)), (bv, .inl (G.1, 144, .inl vg))] := hD
  exact endV C () trivial hS hP (hD.fst rfl) dX0_copyFrom_54
set_option maxHeartbeats 800000 in
set_option maxRecDepth 100000 in
theorem mX0_clear (l : Launch) (D : va_G) (G : u_G) (a ak av : Nat) (a0 a2 a3 : Int32) (a1 : Nat) (kf vf : Nat → Int32) : MtV l D G yX0_clear cX0_clear 2 2 0 0 [.ref a] [(a, .inr (0, [.int a0, .int (nI a1), .int a2, .int a3, .ref ak, .ref av])), (ak, .inl (G.1, 144, .inl kf)), (av, .inl (G.1, 144, .inl vf))] (fun (_ : Unit) => True) (fun (_ : Unit) => [(a, .inr (0, [.int (-999), .int (nI 0), .int 0, .int 0, .ref ak, .ref av])), (ak, .inl (G.1, 144, .inl zf)), (av, .inl (G.1, 144, .inl zf))]) := by
  refine MtV.of (by decide) (Nat.le_of_ble_eq_true rfl) ?_
  intro pr e s9 m9 below meth c9 A ls C hP hD hl hin
  obtain ⟨hx, hb, hml, hown, hts, hr, hlocks, hA, hAm⟩ := id C
  have hK := hAm.1
  have hS : va_S A s9.heap s9.heap [] := va_S.rf
  have hl : lv_has ls 2 [(0, .ref a)] := hl
  refine lv_aload_n hx hb dX0_clear_0 rfl (lv_at hl 0 rfl) ?_
  refine lv_sipush (v := (-999)) hx hb dX0_clear_1 (by decide) ?_
  refine va_put (D := D) (ci := 0) (v := .int (-999)) (ty := .int) (C := RX0) (T := TX0) (N := 6) hx hb hts inlX0 tyX0 tyX0_ok nmX0 hown hK hP hD hS 0 rfl rfl 0 (by decide) (hts _ kw_3_9) (fun _ h9 => h9) rfl (by decide +kernel) rfl rfl (Nat.le_of_ble_eq_true rfl) dX0_clear_4 (fun H locs hP hD hS => ?_)
  have hP : va_P D vwCl [(a, .inr (0, [.int (-999), .int (nI a1), .int a2, .int a3, .ref ak, .ref av])), (ak, .inl (G.1, 144, .inl kf)), (av, .inl (G.1, 144, .inl vf))] H := hP
  have hD : va_D A [(a, .inr (0, [.int (-999), .int (nI a1), .int a2, .int a3, .ref ak, .ref av])), (ak, .inl (G.1, 144, .inl kf)), (av, .inl (G.1, 144, .inl vf))] := hD
  refine lv_aload_n hx hb dX0_clear_7 rfl (lv_at hl 0 rfl) ?_
  refine lv_iconst (v := 0) hx hb dX0_clear_8 (by decide) ?_
  refine va_put (D := D) (ci := 0) (v := .int 0) (ty := .int) (C := RX0) (T := TX0) (N := 6) hx hb hts inlX0 tyX0 tyX0_ok nmX0 hown hK hP hD hS 0 rfl rfl 1 (by decide) (hts _ kw_3_10) (fun _ h9 => h9) rfl (by decide +kernel) rfl rfl (Nat.le_of_ble_eq_true rfl) dX0_clear_9 (fun H locs hP hD hS => ?_)
  have hP : va_P D vwCl [(a, .inr (0, [.int (-999), .int 0, .int a2, .int a3, .ref ak, .ref av])), (ak, .inl (G.1, 144, .inl kf)), (av, .inl (G.1, 144, .inl vf))] H := hP
  have hD : va_D A [(a, .inr (0, [.int (-999), .int 0, .int a2, .int a3, .ref ak, .ref av])), (ak, .inl (G.1, 144, .inl kf)), (av, .inl (G.1, 144, .inl vf))] := hD
  refine lv_aload_n hx hb dX0_clear_12 rfl (lv_at hl 0 rfl) ?_
  refine lv_iconst (v := 0) hx hb dX0_clear_13 (by decide) ?_
  refine va_put (D := D) (ci := 0) (v := .int 0) (ty := .int) (C := RX0) (T := TX0) (N := 6) hx hb hts inlX0 tyX0 tyX0_ok nmX0 hown hK hP hD hS 0 rfl rfl 2 (by decide) (hts _ kw_3_11) (fun _ h9 => h9) rfl (by decide +kernel) rfl rfl (Nat.le_of_ble_eq_true rfl) dX0_clear_14 (fun H locs hP hD hS => ?_)
  have hP : va_P D vwCl [(a, .inr (0, [.int (-999), .int 0, .int 0, .int a3, .ref ak, .ref av])), (ak, .inl (G.1, 144, .inl kf)), (av, .inl (G.1, 144, .inl vf))] H := hP
  have hD : va_D A [(a, .inr (0, [.int (-999), .int 0, .int 0, .int a3, .ref ak, .ref av])), (ak, .inl (G.1, 144, .inl kf)), (av, .inl (G.1, 144, .inl vf))] := hD
  refine lv_aload_n hx hb dX0_clear_17 rfl (lv_at hl 0 rfl) ?_
  refine lv_iconst (v := 0) hx hb dX0_clear_18 (by decide) ?_
  refine va_put (D := D) (ci := 0) (v := .int 0) (ty := .int) (C := RX0) (T := TX0) (N := 6) hx hb hts inlX0 tyX0 tyX0_ok nmX0 hown hK hP hD hS 0 rfl rfl 3 (by decide) (hts _ kw_3_12) (fun _ h9 => h9) rfl (by decide +kernel) rfl rfl (Nat.le_of_ble_eq_true rfl) dX0_clear_19 (fun H locs hP hD hS => ?_)
  have hP : va_P D vwCl [(a, .inr (0, [.int (-999), .int 0, .int 0, .int 0, .ref ak, .ref av])), (ak, .inl (G.1, 144, .inl kf)), (av, .inl (G.1, 144, .inl vf))] H := hP
  have hD : va_D A [(a, .inr (0, [.int (-999), .int 0, .int 0, .int 0, .ref ak, .ref av])), (ak, .inl (G.1, 144, .inl kf)), (av, .inl (G.1, 144, .inl vf))] := hD
  refine lv_iconst (v := 0) hx hb dX0_clear_22 (by decide) ?_
  refine lv_istore_n (lv' := [(1, .int 0), (0, .ref a)]) hx hb dX0_clear_23 rfl hl (by decide) rfl (fun ls hl => ?_)
  have lp24 : ∀ (n24 : Nat) (i : Nat) (hi : i ≤ 144) (_ : 144 - i < n24) (H : Heap) (locs : List Loc) (ls : Array Slot), va_P D vwCl [(a, .inr (0, [.int (-999), .int 0, .int 0, .int 0, .ref ak, .ref av])), (ak, .inl (G.1, 144, .inl (cpy zf kf i))), (av, .inl (G.1, 144, .inl (cpy zf vf i)))] H → va_D A [(a, .inr (0, [.int (-999), .int 0, .int 0, .int 0, .ref ak, .ref av])), (ak, .inl (G.1, 144, .inl (cpy zf kf i))), (av, .inl (G.1, 144, .inl (cpy zf vf i)))] → va_S A s9.heap H locs → lv_has ls 2 [(0, .ref a), (1, .int (nI i))] → W pr l e (rmG 2 0 0) s9 m9 (List.toArray [.ref a]) below meth c9 H locs 0 0 (MQ below (va_Qv (fun (_ : Unit) => True) (fun u9 t9 => WB D ((fun (_ : Unit) => [(a, .inr (0, [.int (-999), .int (nI 0), .int 0, .int 0, .ref ak, .ref av])), (ak, .inl (G.1, 144, .inl zf)), (av, .inl (G.1, 144, .inl zf))]) u9) t9 ∧ va_D A ((fun (_ : Unit) => [(a, .inr (0, [.int (-999), .int (nI 0), .int 0, .int 0, .ref ak, .ref av])), (ak, .inl (G.1, 144, .inl zf)), (av, .inl (G.1, 144, .inl zf))]) u9)) A) (List.toArray [.ref a]) s9 0 0 A) (F0 m9 24 ls []) := by
    intro n24
    induction n24 with
    | zero => intro i hi hm; exact absurd hm (Nat.not_lt_zero _)
    | succ n24 ih24 =>
      intro i hi hm H locs ls hP hD hS hl
      refine lv_iload_n hx hb dX0_clear_24 rfl (lv_at hl 1 rfl) ?_
      refine lv_sipush (v := 144) hx hb dX0_clear_25 (by decide) ?_
      refine lv_icmp_ge (tgt := 55) hx hb dX0_clear_28 (by decide) (fun c_28 => ?_) (fun c_28 => ?_)
      · have c_28 := nle_t (a := 144) (b := i) (by omega) (by omega) c_28
        exact endV C () trivial hS ((hP.arr 1 (g := zf) rfl (fun j hj => cpy_lt (by omega))).arr 2 (g := zf) rfl (fun j hj => cpy_lt (by omega))) (hD.fst rfl) dX0_clear_55
      · have c_28 := nle_f (a := 144) (b := i) (by omega) (by omega) c_28
        refine lv_aload_n hx hb dX0_clear_31 rfl (lv_at hl 0 rfl) ?_
        refine va_get (D := D) (ci := 0) (v := .ref ak) (C := RX0) (T := TX0) (N := 6) hx hb hts inlX0 hown hK hP 0 rfl rfl 4 (by decide) (hts _ kw_3_13) (fun _ h9 => h9) rfl dX0_clear_32 ?_
        refine lv_iload_n hx hb dX0_clear_35 rfl (lv_at hl 1 rfl) ?_
        refine lv_iconst (v := 0) hx hb dX0_clear_36 (by decide) ?_
        refine aftV C (runSN_G (As := [.ref ak, .int (nI i), .int 0]) (rest := []) C (mX7_put l D G ak 144 (cpy zf kf i) i 0 (by omega) (by omega)) hS hP hD [1] rfl (by decide) (ys_X7_put) nw_13 kw_8_2 ⟨Nat.le_of_ble_eq_true rfl, Nat.le_of_ble_eq_true rfl⟩ hl.1 (Nat.le_of_ble_eq_true rfl) dX0_clear_37 rfl rfl ⟨Nat.zero_le _, Nat.zero_le _⟩) hS hP hD [1] rfl (fun _ => rfl) (fun _ H locs hp37 hP hD hS => ?_)
        have hP : va_P D vwCl [(a, .inr (0, [.int (-999), .int 0, .int 0, .int 0, .ref ak, .ref av])), (ak, .inl (G.1, 144, .inl (upd (cpy zf kf i) i 0))), (av, .inl (G.1, 144, .inl (cpy zf vf i)))] H := hP
        have hD : va_D A [(a, .inr (0, [.int (-999), .int 0, .int 0, .int 0, .ref ak, .ref av])), (ak, .inl (G.1, 144, .inl (upd (cpy zf kf i) i 0))), (av, .inl (G.1, 144, .inl (cpy zf vf i)))] := hD
        refine lv_aload_n hx hb dX0_clear_40 rfl (lv_at hl 0 rfl) ?_
        refine va_get (D := D) (ci := 0) (v := .ref av) (C := RX0) (T := TX0) (N := 6) hx hb hts inlX0 hown hK hP 0 rfl rfl 5 (by decide) (hts _ kw_3_14) (fun _ h9 => h9) rfl dX0_clear_41 ?_
        refine lv_iload_n hx hb dX0_clear_44 rfl (lv_at hl 1 rfl) ?_
        refine lv_iconst (v := 0) hx hb dX0_clear_45 (by decide) ?_
        refine aftV C (runSN_G (As := [.ref av, .int (nI i), .int 0]) (rest := []) C (mX7_put l D G av 144 (cpy zf vf i) i 0 (by omega) (by omega)) hS hP hD [2] rfl (by decide) (ys_X7_put) nw_13 kw_8_2 ⟨Nat.le_of_ble_eq_true rfl, Nat.le_of_ble_eq_true rfl⟩ hl.1 (Nat.le_of_ble_eq_true rfl) dX0_clear_46 rfl rfl ⟨Nat.zero_le _, Nat.zero_le _⟩) hS hP hD [2] rfl (fun _ => rfl) (fun _ H locs hp46 hP hD hS => ?_)
        have hP : va_P D vwCl [(a, .inr (0, [.int (-999), .int 0, .int 0, .int 0, .ref ak, .ref av])), (ak, .inl (G.1, 144, .inl (upd (cpy zf kf i) i 0))), (av, .inl (G.1, 144, .inl (upd (cpy zf vf i) i 0)))] H := hP
        have hD : va_D A [(a, .inr (0, [.int (-999), .int 0, .int 0, .int 0, .ref ak, .ref av])), (ak, .inl (G.1, 144, .inl (upd (cpy zf kf i) i 0))), (av, .inl (G.1, 144, .inl (upd (cpy zf vf i) i 0)))] := hD
        refine lv_iinc (v := nI (i + 1)) (lv' := [(1, .int (nI (i + 1))), (0, .ref a)]) hx hb dX0_clear_49 hl (k := 1) rfl (nI_add i 1) (by decide) rfl (fun ls hl => ?_)
        refine lv_goto (tgt := 24) hx hb dX0_clear_52 (by decide) ?_
        rw [zf_succ, zf_succ] at hP hD
        exact ih24 (i + 1) (by omega) (by omega) _ _ _ hP (hD.fst rfl) hS (lv_sub hl [1, 0] rfl)
  rw [← cpy_zero zf kf, ← cpy_zero zf vf] at hP hD
  exact lp24 (144 - 0 + 1) 0 (by omega) (Nat.lt_succ_self _) _ _ _ hP (hD.fst rfl) hS (lv_sub hl [1, 0] rfl)
set_option maxHeartbeats 800000 in
set_option maxRecDepth 100000 in
theorem mX2_copyFrom (l : Launch) (D : va_G) (G : u_G) (a ap b bp : Nat) (f n t f2 n2 t2 : Nat) (c0 c1 d0 d1 : Int32) (p p2 : Nat → Int32) : MtV l D G yX2_copyFrom cX2_copyFrom 2 2 0 0 [.ref a, .ref b] [(a, .inr (2, [.ref ap, .int (nI f), .int (nI n), .int (nI t), .int c0, .int c1])), (ap, .inl (G.1, 12, .inl p)), (b, .inr (2, [.ref bp, .int (nI f2), .int (nI n2), .int (nI t2), .int d0, .int d1])), (bp, .inl (G.1, 12, .inl p2))] (fun (_ : Unit) => True) (fun (_ : Unit) => [(a, .inr (2, [.ref ap, .int (nI f2), .int (nI n2), .int (nI t2), .int d0, .int d1])), (ap, .inl (G.1, 12, .inl p2)), (b, .inr (2, [.ref bp, .int (nI f2), .int (nI n2), .int (nI t2), .int d0, .int d1])), (bp, .inl (G.1, 12, .inl p2))]) := by
  refine MtV.of (by decide) (Nat.le_of_ble_eq_true rfl) ?_
  intro pr e s9 m9 below meth c9 A ls C hP hD hl hin
  obtain ⟨hx, hb, hml, hown, hts, hr, hlocks, hA, hAm⟩ := id C
  have hK := hAm.1
  have hS : va_S A s9.heap s9.heap [] := va_S.rf
  have hl : lv_has ls 2 [(0, .ref a), (1, .ref b)] := hl
  refine lv_aload_n hx hb dX2_copyFrom_0 rfl (lv_at hl 1 rfl) ?_
  refine va_get (D := D) (ci := 2) (v := .ref bp) (C := RX2) (T := TX2) (N := 6) hx hb hts inlX2 hown hK hP 2 rfl rfl 0 (by decide) (hts _ kw_3_0) (fun _ h9 => h9) rfl dX2_copyFrom_1 ?_
  refine lv_aload_n hx hb dX2_copyFrom_4 rfl (lv_at hl 0 rfl) ?_
  refine va_get (D := D) (ci := 2) (v := .ref ap) (C := RX2) (T := TX2) (N := 6) hx hb hts inlX2 hown hK hP 0 rfl rfl 0 (by decide) (hts _ kw_3_0) (fun _ h9 => h9) rfl dX2_copyFrom_5 ?_
  refine aftV C (runSN_G (As := [.ref bp, .ref ap]) (rest := []) C (mX7_copy l D G bp ap 12 p2 p (by omega)) hS hP hD [3, 1] rfl (by decide) (ys_X7_copy) nw_10 kw_6_4 ⟨Nat.le_of_ble_eq_true rfl, Nat.le_of_ble_eq_true rfl⟩ hl.1 (Nat.le_of_ble_eq_true rfl) dX2_copyFrom_8 rfl rfl ⟨Nat.zero_le _, Nat.zero_le _⟩) hS hP hD [3, 1] rfl (fun _ => rfl) (fun _ H locs hp8 hP hD hS => ?_)
  have hP : va_P D vwCl [(a, .inr (2, [.ref ap, .int (nI f), .int (nI n), .int (nI t), .int c0, .int c1])), (ap, .inl (G.1, 12, .inl p2)), (b, .inr (2, [.ref bp, .int (nI f2), .int (nI n2), .int (nI t2), .int d0, .int d1])), (bp, .inl (G.1, 12, .inl p2))] H := hP
  have hD : va_D A [(a, .inr (2, [.ref ap, .int (nI f), .int (nI n), .int (nI t), .int c0, .int c1])), (ap, .inl (G.1, 12, .inl p2)), (b, .inr (2, [.ref bp, .int (nI f2), .int (nI n2), .int (nI t2), .int d0, .int d1])), (bp, .inl (G.1, 12, .inl p2))] := hD
  refine lv_aload_n hx hb dX2_copyFrom_11 rfl (lv_at hl 0 rfl) ?_
  refine lv_aload_n hx hb dX2_copyFrom_12 rfl (lv_at hl 1 rfl) ?_
  refine va_get (D := D) (ci := 2) (v := .int (nI f2)) (C := RX2) (T := TX2) (N := 6) hx hb hts inlX2 hown hK hP 2 rfl rfl 1 (by decide) (hts _ kw_3_1) (fun _ h9 => h9) rfl dX2_copyFrom_13 ?_
  refine va_put (D := D) (ci := 2) (v := .int (nI f2)) (ty := .int) (C := RX2) (T := TX2) (N := 6) hx hb hts inlX2 tyX2 tyX2_ok nmX2 hown hK hP hD hS 0 rfl rfl 1 (by decide) (hts _ kw_3_1) (fun _ h9 => h9) rfl (by decide +kernel) rfl rfl (Nat.le_of_ble_eq_true rfl) dX2_copyFrom_16 (fun H locs hP hD hS => ?_)
  have hP : va_P D vwCl [(a, .inr (2, [.ref ap, .int (nI f2), .int (nI n), .int (nI t), .int c0, .int c1])), (ap, .inl (G.1, 12, .inl p2)), (b, .inr (2, [.ref bp, .int (nI f2), .int (nI n2), .int (nI t2), .int d0, .int d1])), (bp, .inl (G.1, 12, .inl p2))] H := hP
  have hD : va_D A [(a, .inr (2, [.ref ap, .int (nI f2), .int (nI n), .int (nI t), .int c0, .int c1])), (ap, .inl (G.1, 12, .inl p2)), (b, .inr (2, [.ref bp, .int (nI f2), .int (nI n2), .int (nI t2), .int d0, .int d1])), (bp, .inl (G.1, 12, .inl p2))] := hD
  refine lv_aload_n hx hb dX2_copyFrom_19 rfl (lv_at hl 0 rfl) ?_
  refine lv_aload_n hx hb dX2_copyFrom_20 rfl (lv_at hl 1 rfl) ?_
  refine va_get (D := D) (ci := 2) (v := .int (nI n2)) (C := RX2) (T := TX2) (N := 6) hx hb hts inlX2 hown hK hP 2 rfl rfl 2 (by decide) (hts _ kw_3_2) (fun _ h9 => h9) rfl dX2_copyFrom_21 ?_
  refine va_put (D := D) (ci := 2) (v := .int (nI n2)) (ty := .int) (C := RX2) (T := TX2) (N := 6) hx hb hts inlX2 tyX2 tyX2_ok nmX2 hown hK hP hD hS 0 rfl rfl 2 (by decide) (hts _ kw_3_2) (fun _ h9 => h9) rfl (by decide +kernel) rfl rfl (Nat.le_of_ble_eq_true rfl) dX2_copyFrom_24 (fun H locs hP hD hS => ?_)
  have hP : va_P D vwCl [(a, .inr (2, [.ref ap, .int (nI f2), .int (nI n2), .int (nI t), .int c0, .int c1])), (ap, .inl (G.1, 12, .inl p2)), (b, .inr (2, [.ref bp, .int (nI f2), .int (nI n2), .int (nI t2), .int d0, .int d1])), (bp, .inl (G.1, 12, .inl p2))] H := hP
  have hD : va_D A [(a, .inr (2, [.ref ap, .int (nI f2), .int (nI n2), .int (nI t), .int c0, .int c1])), (ap, .inl (G.1, 12, .inl p2)), (b, .inr (2, [.ref bp, .int (nI f2), .int (nI n2), .int (nI t2), .int d0, .int d1])), (bp, .inl (G.1, 12, .inl p2))] := hD
  refine lv_aload_n hx hb dX2_copyFrom_27 rfl (lv_at hl 0 rfl) ?_
  refine lv_aload_n hx hb dX2_copyFrom_28 rfl (lv_at hl 1 rfl) ?_
  refine va_get (D := D) (ci := 2) (v := .int (nI t2)) (C := RX2) (T := TX2) (N := 6) hx hb hts inlX2 hown hK hP 2 rfl rfl 3 (by decide) (hts _ kw_3_3) (fun _ h9 => h9) rfl dX2_copyFrom_29 ?_
  refine va_put (D := D) (ci := 2) (v := .int (nI t2)) (ty := .int) (C := RX2) (T := TX2) (N := 6) hx hb hts inlX2 tyX2 tyX2_ok nmX2 hown hK hP hD hS 0 rfl rfl 3 (by decide) (hts _ kw_3_3) (fun _ h9 => h9) rfl (by decide +kernel) rfl rfl (Nat.le_of_ble_eq_true rfl) dX2_copyFrom_32 (fun H locs hP hD hS => ?_)
  have hP : va_P D vwCl [(a, .inr (2, [.ref ap, .int (nI f2), .int (nI n2), .int (nI t2), .int c0, .int c1])), (ap, .inl (G.1, 12, .inl p2)), (b, .inr (2, [.ref bp, .int (nI f2), .int (nI n2), .int (nI t2), .int d0, .int d1])), (bp, .inl (G.1, 12, .inl p2))] H := hP
  have hD : va_D A [(a, .inr (2, [.ref ap, .int (nI f2), .int (nI n2), .int (nI t2), .int c0, .int c1])), (ap, .inl (G.1, 12, .inl p2)), (b, .inr (2, [.ref bp, .int (nI f2), .int (nI n2), .int (nI t2), .int d0, .int d1])), (bp, .inl (G.1, 12, .inl p2))] := hD
  refine lv_aload_n hx hb dX2_copyFrom_35 rfl (lv_at hl 0 rfl) ?_
  refine lv_aload_n hx hb dX2_copyFrom_36 rfl (lv_at hl 1 rfl) ?_
  refine va_get (D := D) (ci := 2) (v := .int d0) (C := RX2) (T := TX2) (N := 6) hx hb hts inlX2 hown hK hP 2 rfl rfl 4 (by decide) (hts _ kw_3_4) (fun _ h9 => h9) rfl dX2_copyFrom_37 ?_
  refine va_put (D := D) (ci := 2) (v := .int d0) (ty := .int) (C := RX2) (T := TX2) (N := 6) hx hb hts inlX2 tyX2 tyX2_ok nmX2 hown hK hP hD hS 0 rfl rfl 4 (by decide) (hts _ kw_3_4) (fun _ h9 => h9) rfl (by decide +kernel) rfl rfl (Nat.le_of_ble_eq_true rfl) dX2_copyFrom_40 (fun H locs hP hD hS => ?_)
  have hP : va_P D vwCl [(a, .inr (2, [.ref ap, .int (nI f2), .int (nI n2), .int (nI t2), .int d0, .int c1])), (ap, .inl (G.1, 12, .inl p2)), (b, .inr (2, [.ref bp, .int (nI f2), .int (nI n2), .int (nI t2), .int d0, .int d1])), (bp, .inl (G.1, 12, .inl p2))] H := hP
  have hD : va_D A [(a, .inr (2, [.ref ap, .int (nI f2), .int (nI n2), .int (nI t2), .int d0, .int c1])), (ap, .inl (G.1, 12, .inl p2)), (b, .inr (2, [.ref bp, .int (nI f2), .int (nI n2), .int (nI t2), .int d0, .int d1])), (bp, .inl (G.1, 12, .inl p2))] := hD
  refine lv_aload_n hx hb dX2_copyFrom_43 rfl (lv_at hl 0 rfl) ?_
  refine lv_aload_n hx hb dX2_copyFrom_44 rfl (lv_at hl 1 rfl) ?_
  refine va_get (D := D) (ci := 2) (v := .int d1) (C := RX2) (T := TX2) (N := 6) hx hb hts inlX2 hown hK hP 2 rfl rfl 5 (by decide) (hts _ kw_3_5) (fun _ h9 => h9) rfl dX2_copyFrom_45 ?_
  refine va_put (D := D) (ci := 2) (v := .int d1) (ty := .int) (C := RX2) (T := TX2) (N := 6) hx hb hts inlX2 tyX2 tyX2_ok nmX2 hown hK hP hD hS 0 rfl rfl 5 (by decide) (hts _ kw_3_5) (fun _ h9 => h9) rfl (by decide +kernel) rfl rfl (Nat.le_of_ble_eq_true rfl) dX2_copyFrom_48 (fun H locs hP hD hS => ?_)
  have hP : va_P D vwCl [(a, .inr (2, [.ref ap, .int (nI f2), .int (nI n2), .int (nI t2), .int d0, .int d1])), (ap, .inl (G.1, 12, .inl p2)), (b, .inr (2, [.ref bp, .int (nI f2), .int (nI n2), .int (nI t2), .int d0, .int d1])), (bp, .inl (G.1, 12, .inl p2))] H := hP
  have hD : va_D A [(a, .inr (2, [.ref ap, .int (nI f2), .int (nI n2), .int (nI t2), .int d0, .int d1])), (ap, .inl (G.1, 12, .inl p2)), (b, .inr (2, [.ref bp, .int (nI f2), .int (nI n2), .int (nI t2), .int d0, .int d1])), (bp, .inl (G.1, 12, .inl p2))] := hD
  exact endV C () trivial hS hP (hD.fst rfl) dX2_copyFrom_51
set_option maxHeartbeats 800000 in
set_option maxRecDepth 100000 in
theorem mX2_begin (l : Launch) (D : va_G) (G : u_G) (a ap r : Nat) (f n t k : Nat) (c0 c1 : Int32) (p F : Nat → Int32) : MtV l D G yX2_begin cX2_begin 3 2 0 0 [.ref a, .ref r, .int (nI k)] [(a, .inr (2, [.ref ap, .int (nI f), .int (nI n), .int (nI t), .int c0, .int c1])), (ap, .inl (G.1, 12, .inl p)), (r, .inl (G.1, 12, .inl F))] (fun (_ : Unit) => True) (fun (_ : Unit) => [(a, .inr (2, [.ref ap, .int (nI 0), .int (nI k), .int (nI 0), .int 0, .int 0])), (ap, .inl (G.1, 12, .inl F)), (r, .inl (G.1, 12, .inl F))]) := by
  refine MtV.of (by decide) (Nat.le_of_ble_eq_true rfl) ?_
  intro pr e s9 m9 below meth c9 A ls C hP hD hl hin
  obtain ⟨hx, hb, hml, hown, hts, hr, hlocks, hA, hAm⟩ := id C
  have hK := hAm.1
  have hS : va_S A s9.heap s9.heap [] := va_S.rf
  have hl : lv_has ls 3 [(0, .ref a), (1, .ref r), (2, .int (nI k))] := hl
  refine lv_aload_n hx hb dX2_begin_0 rfl (lv_at hl 1 rfl) ?_
  refine lv_aload_n hx hb dX2_begin_1 rfl (lv_at hl 0 rfl) ?_
  refine va_get (D := D) (ci := 2) (v := .ref ap) (C := RX2) (T := TX2) (N := 6) hx hb hts inlX2 hown hK hP 0 rfl rfl 0 (by decide) (hts _ kw_3_0) (fun _ h9 => h9) rfl dX2_begin_2 ?_
  refine aftV C (runSN_G (As := [.ref r, .ref ap]) (rest := []) C (mX7_copy l D G r ap 12 F p (by omega)) hS hP hD [2, 1] rfl (by decide) (ys_X7_copy) nw_10 kw_6_4 ⟨Nat.le_of_ble_eq_true rfl, Nat.le_of_ble_eq_true rfl⟩ hl.1 (Nat.le_of_ble_eq_true rfl) dX2_begin_5 rfl rfl ⟨Nat.zero_le _, Nat.zero_le _⟩) hS hP hD [2, 1] rfl (fun _ => rfl) (fun _ H locs hp5 hP hD hS => ?_)
  have hP : va_P D vwCl [(a, .inr (2, [.ref ap, .int (nI f), .int (nI n), .int (nI t), .int c0, .int c1])), (ap, .inl (G.1, 12, .inl F)), (r, .inl (G.1, 12, .inl F))] H := hP
  have hD : va_D A [(a, .inr (2, [.ref ap, .int (nI f), .int (nI n), .int (nI t), .int c0, .int c1])), (ap, .inl (G.1, 12, .inl F)), (r, .inl (G.1, 12, .inl F))] := hD
  refine lv_aload_n hx hb dX2_begin_8 rfl (lv_at hl 0 rfl) ?_
  refine lv_iconst (v := 0) hx hb dX2_begin_9 (by decide) ?_
  refine va_put (D := D) (ci := 2) (v := .int 0) (ty := .int) (C := RX2) (T := TX2) (N := 6) hx hb hts inlX2 tyX2 tyX2_ok nmX2 hown hK hP hD hS 0 rfl rfl 1 (by decide) (hts _ kw_3_1) (fun _ h9 => h9) rfl (by decide +kernel) rfl rfl (Nat.le_of_ble_eq_true rfl) dX2_begin_10 (fun H locs hP hD hS => ?_)
  have hP : va_P D vwCl [(a, .inr (2, [.ref ap, .int 0, .int (nI n), .int (nI t), .int c0, .int c1])), (ap, .inl (G.1, 12, .inl F)), (r, .inl (G.1, 12, .inl F))] H := hP
  have hD : va_D A [(a, .inr (2, [.ref ap, .int 0, .int (nI n), .int (nI t), .int c0, .int c1])), (ap, .inl (G.1, 12, .inl F)), (r, .inl (G.1, 12, .inl F))] := hD
  refine lv_aload_n hx hb dX2_begin_13 rfl (lv_at hl 0 rfl) ?_
  refine lv_iload_n hx hb dX2_begin_14 rfl (lv_at hl 2 rfl) ?_
  refine va_put (D := D) (ci := 2) (v := .int (nI k)) (ty := .int) (C := RX2) (T := TX2) (N := 6) hx hb hts inlX2 tyX2 tyX2_ok nmX2 hown hK hP hD hS 0 rfl rfl 2 (by decide) (hts _ kw_3_2) (fun _ h9 => h9) rfl (by decide +kernel) rfl rfl (Nat.le_of_ble_eq_true rfl) dX2_begin_15 (fun H locs hP hD hS => ?_)
  have hP : va_P D vwCl [(a, .inr (2, [.ref ap, .int 0, .int (nI k), .int (nI t), .int c0, .int c1])), (ap, .inl (G.1, 12, .inl F)), (r, .inl (G.1, 12, .inl F))] H := hP
  have hD : va_D A [(a, .inr (2, [.ref ap, .int 0, .int (nI k), .int (nI t), .int c0, .int c1])), (ap, .inl (G.1, 12, .inl F)), (r, .inl (G.1, 12, .inl F))] := hD
  refine lv_aload_n hx hb dX2_begin_18 rfl (lv_at hl 0 rfl) ?_
  refine lv_iconst (v := 0) hx hb dX2_begin_19 (by decide) ?_
  refine va_put (D := D) (ci := 2) (v := .int 0) (ty := .int) (C := RX2) (T := TX2) (N := 6) hx hb hts inlX2 tyX2 tyX2_ok nmX2 hown hK hP hD hS 0 rfl rfl 3 (by decide) (hts _ kw_3_3) (fun _ h9 => h9) rfl (by decide +kernel) rfl rfl (Nat.le_of_ble_eq_true rfl) dX2_begin_20 (fun H locs hP hD hS => ?_)
  have hP : va_P D vwCl [(a, .inr (2, [.ref ap, .int 0, .int (nI k), .int 0, .int c0, .int c1])), (ap, .inl (G.1, 12, .inl F)), (r, .inl (G.1, 12, .inl F))] H := hP
  have hD : va_D A [(a, .inr (2, [.ref ap, .int 0, .int (nI k), .int 0, .int c0, .int c1])), (ap, .inl (G.1, 12, .inl F)), (r, .inl (G.1, 12, .inl F))] := hD
  refine lv_aload_n hx hb dX2_begin_23 rfl (lv_at hl 0 rfl) ?_
  refine lv_iconst (v := 0) hx hb dX2_begin_24 (by decide) ?_
  refine va_put (D := D) (ci := 2) (v := .int 0) (ty := .int) (C := RX2) (T := TX2) (N := 6) hx hb hts inlX2 tyX2 tyX2_ok nmX2 hown hK hP hD hS 0 rfl rfl 4 (by decide) (hts _ kw_3_4) (fun _ h9 => h9) rfl (by decide +kernel) rfl rfl (Nat.le_of_ble_eq_true rfl) dX2_begin_25 (fun H locs hP hD hS => ?_)
  have hP : va_P D vwCl [(a, .inr (2, [.ref ap, .int 0, .int (nI k), .int 0, .int 0, .int c1])), (ap, .inl (G.1, 12, .inl F)), (r, .inl (G.1, 12, .inl F))] H := hP
  have hD : va_D A [(a, .inr (2, [.ref ap, .int 0, .int (nI k), .int 0, .int 0, .int c1])), (ap, .inl (G.1, 12, .inl F)), (r, .inl (G.1, 12, .inl F))] := hD
  refine lv_aload_n hx hb dX2_begin_28 rfl (lv_at hl 0 rfl) ?_
  refine lv_iconst (v := 0) hx hb dX2_begin_29 (by decide) ?_
  refine va_put (D := D) (ci := 2) (v := .int 0) (ty := .int) (C := RX2) (T := TX2) (N := 6) hx hb hts inlX2 tyX2 tyX2_ok nmX2 hown hK hP hD hS 0 rfl rfl 5 (by decide) (hts _ kw_3_5) (fun _ h9 => h9) rfl (by decide +kernel) rfl rfl (Nat.le_of_ble_eq_true rfl) dX2_begin_30 (fun H locs hP hD hS => ?_)
  have hP : va_P D vwCl [(a, .inr (2, [.ref ap, .int 0, .int (nI k), .int 0, .int 0, .int 0])), (ap, .inl (G.1, 12, .inl F)), (r, .inl (G.1, 12, .inl F))] H := hP
  have hD : va_D A [(a, .inr (2, [.ref ap, .int 0, .int (nI k), .int 0, .int 0, .int 0])), (ap, .inl (G.1, 12, .inl F)), (r, .inl (G.1, 12, .inl F))] := hD
  exact endV C () trivial hS hP (hD.fst rfl) dX2_begin_33
set_option maxHeartbeats 800000 in
set_option maxRecDepth 100000 in
theorem mX2_make (l : Launch) (D : va_G) (G : u_G) (a ap : Nat) (f n t m : Nat) (c0 c1 : Int32) (p : Nat → Int32) (hm : m < 4) (hmn : tk m ≤ n) (hfn : f + n ≤ 12) (ht : t ≤ 1) : MtI l D G yX2_make cX2_make 3 .int 3 0 0 [.ref a, .int (nI m)] [(a, .inr (2, [.ref ap, .int (nI f), .int (nI n), .int (nI t), .int c0, .int c1])), (ap, .inl (G.1, 12, .inl p))] (fun (r : Int32) (_ : Unit) => r = cn p f n m) (fun (_ : Unit) => [(a, .inr (2, [.ref ap, .int (nI (bh f m)), .int (nI (n - tk m)), .int (nI (1 - t)), .int (mk0 t c0 (cn p f n m)), .int (mk1 t c1 (cn p f n m))])), (ap, .inl (G.1, 12, .inl p))]) := by
  refine MtI.of (by decide) (Nat.le_of_ble_eq_true rfl) ?_
  intro pr e s9 m9 below meth c9 A ls C hP hD hl
  obtain ⟨hx, hb, hml, hown, hts, hr, hlocks, hA, hAm⟩ := id C
  have hK := hAm.1
  have hS : va_S A s9.heap s9.heap [] := va_S.rf
  have hl : lv_has ls 3 [(0, .ref a), (1, .int (nI m))] := hl
  refine lv_aload_n hx hb dX2_make_0 rfl (lv_at hl 0 rfl) ?_
  refine va_get (D := D) (ci := 2) (v := .ref ap) (C := RX2) (T := TX2) (N := 6) hx hb hts inlX2 hown hK hP 0 rfl rfl 0 (by decide) (hts _ kw_3_0) (fun _ h9 => h9) rfl dX2_make_1 ?_
  refine lv_aload_n hx hb dX2_make_4 rfl (lv_at hl 0 rfl) ?_
  refine va_get (D := D) (ci := 2) (v := .int (nI f)) (C := RX2) (T := TX2) (N := 6) hx hb hts inlX2 hown hK hP 0 rfl rfl 1 (by decide) (hts _ kw_3_1) (fun _ h9 => h9) rfl dX2_make_5 ?_
  refine lv_aload_n hx hb dX2_make_8 rfl (lv_at hl 0 rfl) ?_
  refine va_get (D := D) (ci := 2) (v := .int (nI n)) (C := RX2) (T := TX2) (N := 6) hx hb hts inlX2 hown hK hP 0 rfl rfl 2 (by decide) (hts _ kw_3_2) (fun _ h9 => h9) rfl dX2_make_9 ?_
  refine lv_iload_n hx hb dX2_make_12 rfl (lv_at hl 1 rfl) ?_
  refine aftI0 C (runSN_G (As := [.ref ap, .int (nI f), .int (nI n), .int (nI m)]) (rest := []) C (mX7_gainOf l D G ap p f n m (by omega) (by omega) (by omega)) hS hP hD [1] rfl (by decide) (ys_X7_gainOf) nw_31 kw_7_23 ⟨Nat.le_of_ble_eq_true rfl, Nat.le_of_ble_eq_true rfl⟩ hl.1 (Nat.le_of_ble_eq_true rfl) dX2_make_13 rfl rfl ⟨Nat.zero_le _, Nat.zero_le _⟩) hS hP hD [1] rfl (fun r13 _ H locs hp13 hP hS => ?_)
  refine ro_top (z := cn p f n m) hx hp13 ?_
  refine lv_istore_n (lv' := [(2, .int (cn p f n m)), (0, .ref a), (1, .int (nI m))]) hx hb dX2_make_16 rfl hl (by decide) rfl (fun ls hl => ?_)
  refine lv_aload_n hx hb dX2_make_17 rfl (lv_at hl 1 rfl) ?_
  refine va_get (D := D) (ci := 2) (v := .int (nI t)) (C := RX2) (T := TX2) (N := 6) hx hb hts inlX2 hown hK hP 0 rfl rfl 3 (by decide) (hts _ kw_3_3) (fun _ h9 => h9) rfl dX2_make_18 ?_
  refine lv_if_ne (tgt := 37) hx hb dX2_make_21 (by decide) (fun c_21 => ?_) (fun c_21 => ?_)
  · have c_21 := neq_f (a := t) (b := 0) (by omega) (by omega) c_21
    refine lv_aload_n hx hb dX2_make_37 rfl (lv_at hl 1 rfl) ?_
    refine lv_dup hx hb dX2_make_38 rfl ?_
    refine va_get (D := D) (ci := 2) (v := .int c1) (C := RX2) (T := TX2) (N := 6) hx hb hts inlX2 hown hK hP 0 rfl rfl 5 (by decide) (hts _ kw_3_5) (fun _ h9 => h9) rfl dX2_make_39 ?_
    refine lv_iload_n hx hb dX2_make_42 rfl (lv_at hl 0 rfl) ?_
    refine lv_iadd hx hb dX2_make_43 ?_
    refine va_put (D := D) (ci := 2) (v := .int (c1 + (cn p f n m))) (ty := .int) (C := RX2) (T := TX2) (N := 6) hx hb hts inlX2 tyX2 tyX2_ok nmX2 hown hK hP hD hS 0 rfl rfl 5 (by decide) (hts _ kw_3_5) (fun _ h9 => h9) rfl (by decide +kernel) rfl rfl (Nat.le_of_ble_eq_true rfl) dX2_make_44 (fun H locs hP hD hS => ?_)
    have hP : va_P D vwCl [(a, .inr (2, [.ref ap, .int (nI f), .int (nI n), .int (nI t), .int c0, .int (c1 + (cn p f n m))])), (ap, .inl (G.1, 12, .inl p))] H := hP
    have hD : va_D A [(a, .inr (2, [.ref ap, .int (nI f), .int (nI n), .int (nI t), .int c0, .int (c1 + (cn p f n m))])), (ap, .inl (G.1, 12, .inl p))] := hD
    refine lv_aload_n hx hb dX2_make_47 rfl (lv_at hl 1 rfl) ?_
    refine lv_aload_n hx hb dX2_make_48 rfl (lv_at hl 1 rfl) ?_
    refine va_get (D := D) (ci := 2) (v := .int (nI f)) (C := RX2) (T := TX2) (N := 6) hx hb hts inlX2 hown hK hP 0 rfl rfl 1 (by decide) (hts _ kw_3_1) (fun _ h9 => h9) rfl dX2_make_49 ?_
    refine lv_iload_n hx hb dX2_make_52 rfl (lv_at hl 2 rfl) ?_
    refine aftI0 C (runSN_G (As := [.int (nI f), .int (nI m)]) (rest := [.ref a]) C (mX7_firstAfter l D G f m (by omega) (by omega)) hS hP hD [] rfl (by decide) (ys_X7_firstAfter) nw_32 kw_7_8 ⟨Nat.le_of_ble_eq_true rfl, Nat.le_of_ble_eq_true rfl⟩ hl.1 (Nat.le_of_ble_eq_true rfl) dX2_make_53 rfl rfl ⟨Nat.zero_le _, Nat.zero_le _⟩) hS hP hD [] rfl (fun r53 _ H locs hp53 hP hS => ?_)
    refine ro_top (z := nI (bh f m)) hx hp53 ?_
    refine va_put (D := D) (ci := 2) (v := .int (nI (bh f m))) (ty := .int) (C := RX2) (T := TX2) (N := 6) hx hb hts inlX2 tyX2 tyX2_ok nmX2 hown hK hP hD hS 0 rfl rfl 1 (by decide) (hts _ kw_3_1) (fun _ h9 => h9) rfl (by decide +kernel) rfl rfl (Nat.le_of_ble_eq_true rfl) dX2_make_56 (fun H locs hP hD hS => ?_)
    have hP : va_P D vwCl [(a, .inr (2, [.ref ap, .int (nI (bh f m)), .int (nI n), .int (nI t), .int c0, .int (c1 + (cn p f n m))])), (ap, .inl (G.1, 12, .inl p))] H := hP
    have hD : va_D A [(a, .inr (2, [.ref ap, .int (nI (bh f m)), .int (nI n), .int (nI t), .int c0, .int (c1 + (cn p f n m))])), (ap, .inl (G.1, 12, .inl p))] := hD
    refine lv_aload_n hx hb dX2_make_59 rfl (lv_at hl 1 rfl) ?_
    refine lv_aload_n hx hb dX2_make_60 rfl (lv_at hl 1 rfl) ?_
    refine va_get (D := D) (ci := 2) (v := .int (nI n)) (C := RX2) (T := TX2) (N := 6) hx hb hts inlX2 hown hK hP 0 rfl rfl 2 (by decide) (hts _ kw_3_2) (fun _ h9 => h9) rfl dX2_make_61 ?_
    refine lv_iload_n hx hb dX2_make_64 rfl (lv_at hl 2 rfl) ?_
    refine aftI0 C (runSN_G (As := [.int (nI n), .int (nI m)]) (rest := [.ref a]) C (mX7_leftAfter l D G n m (by omega) (by omega) (by omega)) hS hP hD [] rfl (by decide) (ys_X7_leftAfter) nw_33 kw_7_10 ⟨Nat.le_of_ble_eq_true rfl, Nat.le_of_ble_eq_true rfl⟩ hl.1 (Nat.le_of_ble_eq_true rfl) dX2_make_65 rfl rfl ⟨Nat.zero_le _, Nat.zero_le _⟩) hS hP hD [] rfl (fun r65 _ H locs hp65 hP hS => ?_)
    refine ro_top (z := nI (n - tk m)) hx hp65 ?_
    refine va_put (D := D) (ci := 2) (v := .int (nI (n - tk m))) (ty := .int) (C := RX2) (T := TX2) (N := 6) hx hb hts inlX2 tyX2 tyX2_ok nmX2 hown hK hP hD hS 0 rfl rfl 2 (by decide) (hts _ kw_3_2) (fun _ h9 => h9) rfl (by decide +kernel) rfl rfl (Nat.le_of_ble_eq_true rfl) dX2_make_68 (fun H locs hP hD hS => ?_)
    have hP : va_P D vwCl [(a, .inr (2, [.ref ap, .int (nI (bh f m)), .int (nI (n - tk m)), .int (nI t), .int c0, .int (c1 + (cn p f n m))])), (ap, .inl (G.1, 12, .inl p))] H := hP
    have hD : va_D A [(a, .inr (2, [.ref ap, .int (nI (bh f m)), .int (nI (n - tk m)), .int (nI t), .int c0, .int (c1 + (cn p f n m))])), (ap, .inl (G.1, 12, .inl p))] := hD
    refine lv_aload_n hx hb dX2_make_71 rfl (lv_at hl 1 rfl) ?_
    refine lv_iconst (v := 1) hx hb dX2_make_72 (by decide) ?_
    refine lv_aload_n hx hb dX2_make_73 rfl (lv_at hl 1 rfl) ?_
    refine va_get (D := D) (ci := 2) (v := .int (nI t)) (C := RX2) (T := TX2) (N := 6) hx hb hts inlX2 hown hK hP 0 rfl rfl 3 (by decide) (hts _ kw_3_3) (fun _ h9 => h9) rfl dX2_make_74 ?_
    refine ro_isub (z := nI (1 - t)) hx hb (pk_sub (a := 1) (b := t) (by omega)) dX2_make_77 ?_
    refine va_put (D := D) (ci := 2) (v := .int (nI (1 - t))) (ty := .int) (C := RX2) (T := TX2) (N := 6) hx hb hts inlX2 tyX2 tyX2_ok nmX2 hown hK hP hD hS 0 rfl rfl 3 (by decide) (hts _ kw_3_3) (fun _ h9 => h9) rfl (by decide +kernel) rfl rfl (Nat.le_of_ble_eq_true rfl) dX2_make_78 (fun H locs hP hD hS => ?_)
    have hP : va_P D vwCl [(a, .inr (2, [.ref ap, .int (nI (bh f m)), .int (nI (n - tk m)), .int (nI (1 - t)), .int c0, .int (c1 + (cn p f n m))])), (ap, .inl (G.1, 12, .inl p))] H := hP
    have hD : va_D A [(a, .inr (2, [.ref ap, .int (nI (bh f m)), .int (nI (n - tk m)), .int (nI (1 - t)), .int c0, .int (c1 + (cn p f n m))])), (ap, .inl (G.1, 12, .inl p))] := hD
    refine lv_iload_n hx hb dX2_make_81 rfl (lv_at hl 0 rfl) ?_
    exact endI C rfl () rfl hS (by unfold mk0 mk1; rw [if_neg c_21, if_neg c_21]; exact hP) dX2_make_82
  · have c_21 := neq_t (a := t) (b := 0) (by omega) (by omega) c_21
    refine lv_aload_n hx hb dX2_make_24 rfl (lv_at hl 1 rfl) ?_
    refine lv_dup hx hb dX2_make_25 rfl ?_
    refine va_get (D := D) (ci := 2) (v := .int c0) (C := RX2) (T := TX2) (N := 6) hx hb hts inlX2 hown hK hP 0 rfl rfl 4 (by decide) (hts _ kw_3_4) (fun _ h9 => h9) rfl dX2_make_26 ?_
    refine lv_iload_n hx hb dX2_make_29 rfl (lv_at hl 0 rfl) ?_
    refine lv_iadd hx hb dX2_make_30 ?_
    refine va_put (D := D) (ci := 2) (v := .int (c0 + (cn p f n m))) (ty := .int) (C := RX2) (T := TX2) (N := 6) hx hb hts inlX2 tyX2 tyX2_ok nmX2 hown hK hP hD hS 0 rfl rfl 4 (by decide) (hts _ kw_3_4) (fun _ h9 => h9) rfl (by decide +kernel) rfl rfl (Nat.le_of_ble_eq_true rfl) dX2_make_31 (fun H locs hP hD hS => ?_)
    have hP : va_P D vwCl [(a, .inr (2, [.ref ap, .int (nI f), .int (nI n), .int (nI t), .int (c0 + (cn p f n m)), .int c1])), (ap, .inl (G.1, 12, .inl p))] H := hP
    have hD : va_D A [(a, .inr (2, [.ref ap, .int (nI f), .int (nI n), .int (nI t), .int (c0 + (cn p f n m)), .int c1])), (ap, .inl (G.1, 12, .inl p))] := hD
    refine lv_goto (tgt := 47) hx hb dX2_make_34 (by decide) ?_
    refine lv_aload_n hx hb dX2_make_47 rfl (lv_at hl 1 rfl) ?_
    refine lv_aload_n hx hb dX2_make_48 rfl (lv_at hl 1 rfl) ?_
    refine va_get (D := D) (ci := 2) (v := .int (nI f)) (C := RX2) (T := TX2) (N := 6) hx hb hts inlX2 hown hK hP 0 rfl rfl 1 (by decide) (hts _ kw_3_1) (fun _ h9 => h9) rfl dX2_make_49 ?_
    refine lv_iload_n hx hb dX2_make_52 rfl (lv_at hl 2 rfl) ?_
    refine aftI0 C (runSN_G (As := [.int (nI f), .int (nI m)]) (rest := [.ref a]) C (mX7_firstAfter l D G f m (by omega) (by omega)) hS hP hD [] rfl (by decide) (ys_X7_firstAfter) nw_32 kw_7_8 ⟨Nat.le_of_ble_eq_true rfl, Nat.le_of_ble_eq_true rfl⟩ hl.1 (Nat.le_of_ble_eq_true rfl) dX2_make_53 rfl rfl ⟨Nat.zero_le _, Nat.zero_le _⟩) hS hP hD [] rfl (fun r53 _ H locs hp53 hP hS => ?_)
    refine ro_top (z := nI (bh f m)) hx hp53 ?_
    refine va_put (D := D) (ci := 2) (v := .int (nI (bh f m))) (ty := .int) (C := RX2) (T := TX2) (N := 6) hx hb hts inlX2 tyX2 tyX2_ok nmX2 hown hK hP hD hS 0 rfl rfl 1 (by decide) (hts _ kw_3_1) (fun _ h9 => h9) rfl (by decide +kernel) rfl rfl (Nat.le_of_ble_eq_true rfl) dX2_make_56 (fun H locs hP hD hS => ?_)
    have hP : va_P D vwCl [(a, .inr (2, [.ref ap, .int (nI (bh f m)), .int (nI n), .int (nI t), .int (c0 + (cn p f n m)), .int c1])), (ap, .inl (G.1, 12, .inl p))] H := hP
    have hD : va_D A [(a, .inr (2, [.ref ap, .int (nI (bh f m)), .int (nI n), .int (nI t), .int (c0 + (cn p f n m)), .int c1])), (ap, .inl (G.1, 12, .inl p))] := hD
    refine lv_aload_n hx hb dX2_make_59 rfl (lv_at hl 1 rfl) ?_
    refine lv_aload_n hx hb dX2_make_60 rfl (lv_at hl 1 rfl) ?_
    refine va_get (D := D) (ci := 2) (v := .int (nI n)) (C := RX2) (T := TX2) (N := 6) hx hb hts inlX2 hown hK hP 0 rfl rfl 2 (by decide) (hts _ kw_3_2) (fun _ h9 => h9) rfl dX2_make_61 ?_
    refine lv_iload_n hx hb dX2_make_64 rfl (lv_at hl 2 rfl) ?_
    refine aftI0 C (runSN_G (As := [.int (nI n), .int (nI m)]) (rest := [.ref a]) C (mX7_leftAfter l D G n m (by omega) (by omega) (by omega)) hS hP hD [] rfl (by decide) (ys_X7_leftAfter) nw_33 kw_7_10 ⟨Nat.le_of_ble_eq_true rfl, Nat.le_of_ble_eq_true rfl⟩ hl.1 (Nat.le_of_ble_eq_true rfl) dX2_make_65 rfl rfl ⟨Nat.zero_le _, Nat.zero_le _⟩) hS hP hD [] rfl (fun r65 _ H locs hp65 hP hS => ?_)
    refine ro_top (z := nI (n - tk m)) hx hp65 ?_
    refine va_put (D := D) (ci := 2) (v := .int (nI (n - tk m))) (ty := .int) (C := RX2) (T := TX2) (N := 6) hx hb hts inlX2 tyX2 tyX2_ok nmX2 hown hK hP hD hS 0 rfl rfl 2 (by decide) (hts _ kw_3_2) (fun _ h9 => h9) rfl (by decide +kernel) rfl rfl (Nat.le_of_ble_eq_true rfl) dX2_make_68 (fun H locs hP hD hS => ?_)
    have hP : va_P D vwCl [(a, .inr (2, [.ref ap, .int (nI (bh f m)), .int (nI (n - tk m)), .int (nI t), .int (c0 + (cn p f n m)), .int c1])), (ap, .inl (G.1, 12, .inl p))] H := hP
    have hD : va_D A [(a, .inr (2, [.ref ap, .int (nI (bh f m)), .int (nI (n - tk m)), .int (nI t), .int (c0 + (cn p f n m)), .int c1])), (ap, .inl (G.1, 12, .inl p))] := hD
    refine lv_aload_n hx hb dX2_make_71 rfl (lv_at hl 1 rfl) ?_
    refine lv_iconst (v := 1) hx hb dX2_make_72 (by decide) ?_
    refine lv_aload_n hx hb dX2_make_73 rfl (lv_at hl 1 rfl) ?_
    refine va_get (D := D) (ci := 2) (v := .int (nI t)) (C := RX2) (T := TX2) (N := 6) hx hb hts inlX2 hown hK hP 0 rfl rfl 3 (by decide) (hts _ kw_3_3) (fun _ h9 => h9) rfl dX2_make_74 ?_
    refine ro_isub (z := nI (1 - t)) hx hb (pk_sub (a := 1) (b := t) (by omega)) dX2_make_77 ?_
    refine va_put (D := D) (ci := 2) (v := .int (nI (1 - t))) (ty := .int) (C := RX2) (T := TX2) (N := 6) hx hb hts inlX2 tyX2 tyX2_ok nmX2 hown hK hP hD hS 0 rfl rfl 3 (by decide) (hts _ kw_3_3) (fun _ h9 => h9) rfl (by decide +kernel) rfl rfl (Nat.le_of_ble_eq_true rfl) dX2_make_78 (fun H locs hP hD hS => ?_)
    have hP : va_P D vwCl [(a, .inr (2, [.ref ap, .int (nI (bh f m)), .int (nI (n - tk m)), .int (nI (1 - t)), .int (c0 + (cn p f n m)), .int c1])), (ap, .inl (G.1, 12, .inl p))] H := hP
    have hD : va_D A [(a, .inr (2, [.ref ap, .int (nI (bh f m)), .int (nI (n - tk m)), .int (nI (1 - t)), .int (c0 + (cn p f n m)), .int c1])), (ap, .inl (G.1, 12, .inl p))] := hD
    refine lv_iload_n hx hb dX2_make_81 rfl (lv_at hl 0 rfl) ?_
    exact endI C rfl () rfl hS (by unfold mk0 mk1; rw [if_pos c_21, if_pos c_21]; exact hP) dX2_make_82
set_option maxHeartbeats 800000 in
set_option maxRecDepth 100000 in
theorem mX6_copyFrom (l : Launch) (D : va_G) (G : u_G) (a b : Nat → Nat) (x x2 : Nat → Nat) (y p y2 p2 : Nat → Int32) : MtV l D G yX6_copyFrom cX6_copyFrom 2 3 0 0 [.ref (a 0), .ref (b 0)] [(a 0, .inr (6, [.ref (a 1), .ref (a 3), .int (nI (x 18)), .int (nI (x 19)), .int (bI (x 20 = 0))])), (a 1, .inr (2, [.ref (a 2), .int (nI (x 13)), .int (nI (x 14)), .int (nI (x 15)), .int (y 16), .int (y 17)])), (a 2, .inl (G.1, 12, .inl p)), (a 3, .inr (0, [.int (y 21), .int (nI (x 22)), .int (y 23), .int (y 24), .ref (a 4), .ref (a 5)])), (a 4, .inl (G.1, 144, .inl (kdY y))), (a 5, .inl (G.1, 144, .inl (vlY y))), (b 0, .inr (6, [.ref (b 1), .ref (b 3), .int (nI (x2 18)), .int (nI (x2 19)), .int (bI (x2 20 = 0))])), (b 1, .inr (2, [.ref (b 2), .int (nI (x2 13)), .int (nI (x2 14)), .int (nI (x2 15)), .int (y2 16), .int (y2 17)])), (b 2, .inl (G.1, 12, .inl p2)), (b 3, .inr (0, [.int (y2 21), .int (nI (x2 22)), .int (y2 23), .int (y2 24), .ref (b 4), .ref (b 5)])), (b 4, .inl (G.1, 144, .inl (kdY y2))), (b 5, .inl (G.1, 144, .inl (vlY y2)))] (fun (_ : Unit) => True) (fun (_ : Unit) => [(a 0, .inr (6, [.ref (a 1), .ref (a 3), .int (nI (x2 18)), .int (nI (x2 19)), .int (bI (x2 20 = 0))])), (a 1, .inr (2, [.ref (a 2), .int (nI (x2 13)), .int (nI (x2 14)), .int (nI (x2 15)), .int (y2 16), .int (y2 17)])), (a 2, .inl (G.1, 12, .inl p2)), (a 3, .inr (0, [.int (y2 21), .int (nI (x2 22)), .int (y2 23), .int (y2 24), .ref (a 4), .ref (a 5)])), (a 4, .inl (G.1, 144, .inl (kdY y2))), (a 5, .inl (G.1, 144, .inl (vlY y2))), (b 0, .inr (6, [.ref (b 1), .ref (b 3), .int (nI (x2 18)), .int (nI (x2 19)), .int (bI (x2 20 = 0))])), (b 1, .inr (2, [.ref (b 2), .int (nI (x2 13)), .int (nI (x2 14)), .int (nI (x2 15)), .int (y2 16), .int (y2 17)])), (b 2, .inl (G.1, 12, .inl p2)), (b 3, .inr (0, [.int (y2 21), .int (nI (x2 22)), .int (y2 23), .int (y2 24), .ref (b 4), .ref (b 5)])), (b 4, .inl (G.1, 144, .inl (kdY y2))), (b 5, .inl (G.1, 144, .inl (vlY y2)))]) := by
  refine MtV.of (by decide) (Nat.le_of_ble_eq_true rfl) ?_
  intro pr e s9 m9 below meth c9 A ls C hP hD hl hin
  obtain ⟨hx, hb, hml, hown, hts, hr, hlocks, hA, hAm⟩ := id C
  have hK := hAm.1
  have hS : va_S A s9.heap s9.heap [] := va_S.rf
  have hl : lv_has ls 2 [(0, .ref (a 0)), (1, .ref (b 0))] := hl
  refine lv_aload_n hx hb dX6_copyFrom_0 rfl (lv_at hl 0 rfl) ?_
  refine va_get (D := D) (ci := 6) (v := .ref (a 1)) (C := RX6) (T := TX6) (N := 5) hx hb hts inlX6 hown hK hP 0 rfl rfl 0 (by decide) (hts _ kw_2_12) (fun _ h9 => h9) rfl dX6_copyFrom_1 ?_
  refine lv_aload_n hx hb dX6_copyFrom_4 rfl (lv_at hl 1 rfl) ?_
  refine va_get (D := D) (ci := 6) (v := .ref (b 1)) (C := RX6) (T := TX6) (N := 5) hx hb hts inlX6 hown hK hP 6 rfl rfl 0 (by decide) (hts _ kw_2_12) (fun _ h9 => h9) rfl dX6_copyFrom_5 ?_
  refine aftV C (runV_G (As := [.ref (b 1)]) (rest := []) (ci := 2) (N := 6) (T := TX2) (q0 := 1) C (mX2_copyFrom l D G (a 1) (a 2) (b 1) (b 2) (x 13) (x 14) (x 15) (x2 13) (x2 14) (x2 15) (y 16) (y 17) (y2 16) (y2 17) p p2 ) hS hP hD [1, 2, 7, 8] rfl (by decide) rfl rfl (ys_X2_copyFrom) kw_6_0 kw_6_1 kw_6_2 ⟨Nat.le_of_ble_eq_true rfl, Nat.le_of_ble_eq_true rfl⟩ hl.1 (Nat.le_of_ble_eq_true rfl) dX6_copyFrom_8 rfl rfl ⟨Nat.zero_le _, Nat.zero_le _⟩) hS hP hD [1, 2, 7, 8] rfl (fun _ => rfl) (fun _ H locs hp8 hP hD hS => ?_)
  have hP : va_P D vwCl [(a 0, .inr (6, [.ref (a 1), .ref (a 3), .int (nI (x 18)), .int (nI (x 19)), .int (bI (x 20 = 0))])), (a 1, .inr (2, [.ref (a 2), .int (nI (x2 13)), .int (nI (x2 14)), .int (nI (x2 15)), .int (y2 16), .int (y2 17)])), (a 2, .inl (G.1, 12, .inl p2)), (a 3, .inr (0, [.int (y 21), .int (nI (x 22)), .int (y 23), .int (y 24), .ref (a 4), .ref (a 5)])), (a 4, .inl (G.1, 144, .inl (kdY y))), (a 5, .inl (G.1, 144, .inl (vlY y))), (b 0, .inr (6, [.ref (b 1), .ref (b 3), .int (nI (x2 18)), .int (nI (x2 19)), .int (bI (x2 20 = 0))])), (b 1, .inr (2, [.ref (b 2), .int (nI (x2 13)), .int (nI (x2 14)), .int (nI (x2 15)), .int (y2 16), .int (y2 17)])), (b 2, .inl (G.1, 12, .inl p2)), (b 3, .inr (0, [.int (y2 21), .int (nI (x2 22)), .int (y2 23), .int (y2 24), .ref (b 4), .ref (b 5)])), (b 4, .inl (G.1, 144, .inl (kdY y2))), (b 5, .inl (G.1, 144, .inl (vlY y2)))] H := hP
  have hD : va_D A [(a 0, .inr (6, [.ref (a 1), .ref (a 3), .int (nI (x 18)), .int (nI (x 19)), .int (bI (x 20 = 0))])), (a 1, .inr (2, [.ref (a 2), .int (nI (x2 13)), .int (nI (x2 14)), .int (nI (x2 15)), .int (y2 16), .int (y2 17)])), (a 2, .inl (G.1, 12, .inl p2)), (a 3, .inr (0, [.int (y 21), .int (nI (x 22)), .int (y 23), .int (y 24), .ref (a 4), .ref (a 5)])), (a 4, .inl (G.1, 144, .inl (kdY y))), (a 5, .inl (G.1, 144, .inl (vlY y))), (b 0, .inr (6, [.ref (b 1), .ref (b 3), .int (nI (x2 18)), .int (nI (x2 19)), .int (bI (x2 20 = 0))])), (b 1, .inr (2, [.ref (b 2), .int (nI (x2 13)), .int (nI (x2 14)), .int (nI (x2 15)), .int (y2 16), .int (y2 17)])), (b 2, .inl (G.1, 12, .inl p2)), (b 3, .inr (0, [.int (y2 21), .int (nI (x2 22)), .int (y2 23), .int (y2 24), .ref (b 4), .ref (b 5)])), (b 4, .inl (G.1, 144, .inl (kdY y2))), (b 5, .inl (G.1, 144, .inl (vlY y2)))] := hD
  refine lv_aload_n hx hb dX6_copyFrom_11 rfl (lv_at hl 0 rfl) ?_
  refine va_get (D := D) (ci := 6) (v := .ref (a 3)) (C := RX6) (T := TX6) (N := 5) hx hb hts inlX6 hown hK hP 0 rfl rfl 1 (by decide) (hts _ kw_2_16) (fun _ h9 => h9) rfl dX6_copyFrom_12 ?_
  refine lv_aload_n hx hb dX6_copyFrom_15 rfl (lv_at hl 1 rfl) ?_
  refine va_get (D := D) (ci := 6) (v := .ref (b 3)) (C := RX6) (T := TX6) (N := 5) hx hb hts inlX6 hown hK hP 6 rfl rfl 1 (by decide) (hts _ kw_2_16) (fun _ h9 => h9) rfl dX6_copyFrom_16 ?_
  refine aftV C (runV_G (As := [.ref (b 3)]) (rest := []) (ci := 0) (N := 6) (T := TX0) (q0 := 3) C (mX0_copyFrom l D G (a 3) (a 4) (a 5) (b 3) (b 4) (b 5) (y 21) (y 23) (y 24) (y2 21) (y2 23) (y2 24) (x 22) (x2 22) (kdY y) (vlY y) (kdY y2) (vlY y2) ) hS hP hD [3, 4, 5, 9, 10, 11] rfl (by decide) rfl rfl (ys_X0_copyFrom) kw_6_6 kw_6_7 kw_6_8 ⟨Nat.le_of_ble_eq_true rfl, Nat.le_of_ble_eq_true rfl⟩ hl.1 (Nat.le_of_ble_eq_true rfl) dX6_copyFrom_19 rfl rfl ⟨Nat.zero_le _, Nat.zero_le _⟩) hS hP hD [3, 4, 5, 9, 10, 11] rfl (fun _ => rfl) (fun _ H locs hp19 hP hD hS => ?_)
  have hP : va_P D vwCl [(a 0, .inr (6, [.ref (a 1), .ref (a 3), .int (nI (x 18)), .int (nI (x 19)), .int (bI (x 20 = 0))])), (a 1, .inr (2, [.ref (a 2), .int (nI (x2 13)), .int (nI (x2 14)), .int (nI (x2 15)), .int (y2 16), .int (y2 17)])), (a 2, .inl (G.1, 12, .inl p2)), (a 3, .inr (0, [.int (y2 21), .int (nI (x2 22)), .int (y2 23), .int (y2 24), .ref (a 4), .ref (a 5)])), (a 4, .inl (G.1, 144, .inl (kdY y2))), (a 5, .inl (G.1, 144, .inl (vlY y2))), (b 0, .inr (6, [.ref (b 1), .ref (b 3), .int (nI (x2 18)), .int (nI (x2 19)), .int (bI (x2 20 = 0))])), (b 1, .inr (2, [.ref (b 2), .int (nI (x2 13)), .int (nI (x2 14)), .int (nI (x2 15)), .int (y2 16), .int (y2 17)])), (b 2, .inl (G.1, 12, .inl p2)), (b 3, .inr (0, [.int (y2 21), .int (nI (x2 22)), .int (y2 23), .int (y2 24), .ref (b 4), .ref (b 5)])), (b 4, .inl (G.1, 144, .inl (kdY y2))), (b 5, .inl (G.1, 144, .inl (vlY y2)))] H := hP
  have hD : va_D A [(a 0, .inr (6, [.ref (a 1), .ref (a 3), .int (nI (x 18)), .int (nI (x 19)), .int (bI (x 20 = 0))])), (a 1, .inr (2, [.ref (a 2), .int (nI (x2 13)), .int (nI (x2 14)), .int (nI (x2 15)), .int (y2 16), .int (y2 17)])), (a 2, .inl (G.1, 12, .inl p2)), (a 3, .inr (0, [.int (y2 21), .int (nI (x2 22)), .int (y2 23), .int (y2 24), .ref (a 4), .ref (a 5)])), (a 4, .inl (G.1, 144, .inl (kdY y2))), (a 5, .inl (G.1, 144, .inl (vlY y2))), (b 0, .inr (6, [.ref (b 1), .ref (b 3), .int (nI (x2 18)), .int (nI (x2 19)), .int (bI (x2 20 = 0))])), (b 1, .inr (2, [.ref (b 2), .int (nI (x2 13)), .int (nI (x2 14)), .int (nI (x2 15)), .int (y2 16), .int (y2 17)])), (b 2, .inl (G.1, 12, .inl p2)), (b 3, .inr (0, [.int (y2 21), .int (nI (x2 22)), .int (y2 23), .int (y2 24), .ref (b 4), .ref (b 5)])), (b 4, .inl (G.1, 144, .inl (kdY y2))), (b 5, .inl (G.1, 144, .inl (vlY y2)))] := hD
  refine lv_aload_n hx hb dX6_copyFrom_22 rfl (lv_at hl 0 rfl) ?_
  refine lv_aload_n hx hb dX6_copyFrom_23 rfl (lv_at hl 1 rfl) ?_
  refine va_get (D := D) (ci := 6) (v := .int (nI (x2 18))) (C := RX6) (T := TX6) (N := 5) hx hb hts inlX6 hown hK hP 6 rfl rfl 2 (by decide) (hts _ kw_2_17) (fun _ h9 => h9) rfl dX6_copyFrom_24 ?_
  refine va_put (D := D) (ci := 6) (v := .int (nI (x2 18))) (ty := .int) (C := RX6) (T := TX6) (N := 5) hx hb hts inlX6 tyX6 tyX6_ok nmX6 hown hK hP hD hS 0 rfl rfl 2 (by decide) (hts _ kw_2_17) (fun _ h9 => h9) rfl (by decide +kernel) rfl rfl (Nat.le_of_ble_eq_true rfl) dX6_copyFrom_27 (fun H locs hP hD hS => ?_)
  have hP : va_P D vwCl [(a 0, .inr (6, [.ref (a 1), .ref (a 3), .int (nI (x2 18)), .int (nI (x 19)), .int (bI (x 20 = 0))])), (a 1, .inr (2, [.ref (a 2), .int (nI (x2 13)), .int (nI (x2 14)), .int (nI (x2 15)), .int (y2 16), .int (y2 17)])), (a 2, .inl (G.1, 12, .inl p2)), (a 3, .inr (0, [.int (y2 21), .int (nI (x2 22)), .int (y2 23), .int (y2 24), .ref (a 4), .ref (a 5)])), (a 4, .inl (G.1, 144, .inl (kdY y2))), (a 5, .inl (G.1, 144, .inl (vlY y2))), (b 0, .inr (6, [.ref (b 1), .ref (b 3), .int (nI (x2 18)), .int (nI (x2 19)), .int (bI (x2 20 = 0))])), (b 1, .inr (2, [.ref (b 2), .int (nI (x2 13)), .int (nI (x2 14)), .int (nI (x2 15)), .int (y2 16), .int (y2 17)])), (b 2, .inl (G.1, 12, .inl p2)), (b 3, .inr (0, [.int (y2 21), .int (nI (x2 22)), .int (y2 23), .int (y2 24), .ref (b 4), .ref (b 5)])), (b 4, .inl (G.1, 144, .inl (kdY y2))), (b 5, .inl (G.1, 144, .inl (vlY y2)))] H := hP
  have hD : va_D A [(a 0, .inr (6, [.ref (a 1), .ref (a 3), .int (nI (x2 18)), .int (nI (x 19)), .int (bI (x 20 = 0))])), (a 1, .inr (2, [.ref (a 2), .int (nI (x2 13)), .int (nI (x2 14)), .int (nI (x2 15)), .int (y2 16), .int (y2 17)])), (a 2, .inl (G.1, 12, .inl p2)), (a 3, .inr (0, [.int (y2 21), .int (nI (x2 22)), .int (y2 23), .int (y2 24), .ref (a 4), .ref (a 5)])), (a 4, .inl (G.1, 144, .inl (kdY y2))), (a 5, .inl (G.1, 144, .inl (vlY y2))), (b 0, .inr (6, [.ref (b 1), .ref (b 3), .int (nI (x2 18)), .int (nI (x2 19)), .int (bI (x2 20 = 0))])), (b 1, .inr (2, [.ref (b 2), .int (nI (x2 13)), .int (nI (x2 14)), .int (nI (x2 15)), .int (y2 16), .int (y2 17)])), (b 2, .inl (G.1, 12, .inl p2)), (b 3, .inr (0, [.int (y2 21), .int (nI (x2 22)), .int (y2 23), .int (y2 24), .ref (b 4), .ref (b 5)])), (b 4, .inl (G.1, 144, .inl (kdY y2))), (b 5, .inl (G.1, 144, .inl (vlY y2)))] := hD
  refine lv_aload_n hx hb dX6_copyFrom_30 rfl (lv_at hl 0 rfl) ?_
  refine lv_aload_n hx hb dX6_copyFrom_31 rfl (lv_at hl 1 rfl) ?_
  refine va_get (D := D) (ci := 6) (v := .int (nI (x2 19))) (C := RX6) (T := TX6) (N := 5) hx hb hts inlX6 hown hK hP 6 rfl rfl 3 (by decide) (hts _ kw_2_18) (fun _ h9 => h9) rfl dX6_copyFrom_32 ?_
  refine va_put (D := D) (ci := 6) (v := .int (nI (x2 19))) (ty := .int) (C := RX6) (T := TX6) (N := 5) hx hb hts inlX6 tyX6 tyX6_ok nmX6 hown hK hP hD hS 0 rfl rfl 3 (by decide) (hts _ kw_2_18) (fun _ h9 => h9) rfl (by decide +kernel) rfl rfl (Nat.le_of_ble_eq_true rfl) dX6_copyFrom_35 (fun H locs hP hD hS => ?_)
  have hP : va_P D vwCl [(a 0, .inr (6, [.ref (a 1), .ref (a 3), .int (nI (x2 18)), .int (nI (x2 19)), .int (bI (x 20 = 0))])), (a 1, .inr (2, [.ref (a 2), .int (nI (x2 13)), .int (nI (x2 14)), .int (nI (x2 15)), .int (y2 16), .int (y2 17)])), (a 2, .inl (G.1, 12, .inl p2)), (a 3, .inr (0, [.int (y2 21), .int (nI (x2 22)), .int (y2 23), .int (y2 24), .ref (a 4), .ref (a 5)])), (a 4, .inl (G.1, 144, .inl (kdY y2))), (a 5, .inl (G.1, 144, .inl (vlY y2))), (b 0, .inr (6, [.ref (b 1), .ref (b 3), .int (nI (x2 18)), .int (nI (x2 19)), .int (bI (x2 20 = 0))])), (b 1, .inr (2, [.ref (b 2), .int (nI (x2 13)), .int (nI (x2 14)), .int (nI (x2 15)), .int (y2 16), .int (y2 17)])), (b 2, .inl (G.1, 12, .inl p2)), (b 3, .inr (0, [.int (y2 21), .int (nI (x2 22)), .int (y2 23), .int (y2 24), .ref (b 4), .ref (b 5)])), (b 4, .inl (G.1, 144, .inl (kdY y2))), (b 5, .inl (G.1, 144, .inl (vlY y2)))] H := hP
  have hD : va_D A [(a 0, .inr (6, [.ref (a 1), .ref (a 3), .int (nI (x2 18)), .int (nI (x2 19)), .int (bI (x 20 = 0))])), (a 1, .inr (2, [.ref (a 2), .int (nI (x2 13)), .int (nI (x2 14)), .int (nI (x2 15)), .int (y2 16), .int (y2 17)])), (a 2, .inl (G.1, 12, .inl p2)), (a 3, .inr (0, [.int (y2 21), .int (nI (x2 22)), .int (y2 23), .int (y2 24), .ref (a 4), .ref (a 5)])), (a 4, .inl (G.1, 144, .inl (kdY y2))), (a 5, .inl (G.1, 144, .inl (vlY y2))), (b 0, .inr (6, [.ref (b 1), .ref (b 3), .int (nI (x2 18)), .int (nI (x2 19)), .int (bI (x2 20 = 0))])), (b 1, .inr (2, [.ref (b 2), .int (nI (x2 13)), .int (nI (x2 14)), .int (nI (x2 15)), .int (y2 16), .int (y2 17)])), (b 2, .inl (G.1, 12, .inl p2)), (b 3, .inr (0, [.int (y2 21), .int (nI (x2 22)), .int (y2 23), .int (y2 24), .ref (b 4), .ref (b 5)])), (b 4, .inl (G.1, 144, .inl (kdY y2))), (b 5, .inl (G.1, 144, .inl (vlY y2)))] := hD
  refine lv_aload_n hx hb dX6_copyFrom_38 rfl (lv_at hl 0 rfl) ?_
  refine lv_aload_n hx hb dX6_copyFrom_39 rfl (lv_at hl 1 rfl) ?_
  refine va_get (D := D) (ci := 6) (v := .int (bI (x2 20 = 0))) (C := RX6) (T := TX6) (N := 5) hx hb hts inlX6 hown hK hP 6 rfl rfl 4 (by decide) (hts _ kw_2_19) (fun _ h9 => h9) rfl dX6_copyFrom_40 ?_
  refine va_put (D := D) (ci := 6) (v := .int (bI (x2 20 = 0))) (ty := .boolean) (C := RX6) (T := TX6) (N := 5) hx hb hts inlX6 tyX6 tyX6_ok nmX6 hown hK hP hD hS 0 rfl rfl 4 (by decide) (hts _ kw_2_19) (fun _ h9 => h9) rfl (by decide +kernel) bI_nar bI_fit (Nat.le_of_ble_eq_true rfl) dX6_copyFrom_43 (fun H locs hP hD hS => ?_)
  have hP : va_P D vwCl [(a 0, .inr (6, [.ref (a 1), .ref (a 3), .int (nI (x2 18)), .int (nI (x2 19)), .int (bI (x2 20 = 0))])), (a 1, .inr (2, [.ref (a 2), .int (nI (x2 13)), .int (nI (x2 14)), .int (nI (x2 15)), .int (y2 16), .int (y2 17)])), (a 2, .inl (G.1, 12, .inl p2)), (a 3, .inr (0, [.int (y2 21), .int (nI (x2 22)), .int (y2 23), .int (y2 24), .ref (a 4), .ref (a 5)])), (a 4, .inl (G.1, 144, .inl (kdY y2))), (a 5, .inl (G.1, 144, .inl (vlY y2))), (b 0, .inr (6, [.ref (b 1), .ref (b 3), .int (nI (x2 18)), .int (nI (x2 19)), .int (bI (x2 20 = 0))])), (b 1, .inr (2, [.ref (b 2), .int (nI (x2 13)), .int (nI (x2 14)), .int (nI (x2 15)), .int (y2 16), .int (y2 17)])), (b 2, .inl (G.1, 12, .inl p2)), (b 3, .inr (0, [.int (y2 21), .int (nI (x2 22)), .int (y2 23), .int (y2 24), .ref (b 4), .ref (b 5)])), (b 4, .inl (G.1, 144, .inl (kdY y2))), (b 5, .inl (G.1, 144, .inl (vlY y2)))] H := hP
  have hD : va_D A [(a 0, .inr (6, [.ref (a 1), .ref (a 3), .int (nI (x2 18)), .int (nI (x2 19)), .int (bI (x2 20 = 0))])), (a 1, .inr (2, [.ref (a 2), .int (nI (x2 13)), .int (nI (x2 14)), .int (nI (x2 15)), .int (y2 16), .int (y2 17)])), (a 2, .inl (G.1, 12, .inl p2)), (a 3, .inr (0, [.int (y2 21), .int (nI (x2 22)), .int (y2 23), .int (y2 24), .ref (a 4), .ref (a 5)])), (a 4, .inl (G.1, 144, .inl (kdY y2))), (a 5, .inl (G.1, 144, .inl (vlY y2))), (b 0, .inr (6, [.ref (b 1), .ref (b 3), .int (nI (x2 18)), .int (nI (x2 19)), .int (bI (x2 20 = 0))])), (b 1, .inr (2, [.ref (b 2), .int (nI (x2 13)), .int (nI (x2 14)), .int (nI (x2 15)), .int (y2 16), .int (y2 17)])), (b 2, .inl (G.1, 12, .inl p2)), (b 3, .inr (0, [.int (y2 21), .int (nI (x2 22)), .int (y2 23), .int (y2 24), .ref (b 4), .ref (b 5)])), (b 4, .inl (G.1, 144, .inl (kdY y2))), (b 5, .inl (G.1, 144, .inl (vlY y2)))] := hD
  exact endV C () trivial hS hP (hD.fst rfl) dX6_copyFrom_46
set_option maxHeartbeats 800000 in
set_option maxRecDepth 100000 in
theorem mX4_acceptsComma (l : Launch) (D : va_G) (G : u_G) (q qc qn L cnt num : Nat) (F : Nat → Int32) (t : Nat → Nat) (h1 : 1 ≤ cnt) (h2 : cnt ≤ 12) (h3 : num ≤ 20) : MtI l D G yX4_acceptsComma cX4_acceptsComma 1 .boolean 1 0 0 [.ref q] [(q, .inr (4, [.ref qc, .int (nI L), .ref qn, .int (nI cnt), .int (nI num)])), (qc, .inl (G.1, 60, .inl (tN t))), (qn, .inl (G.1, 12, .inl F))] (fun (r : Int32) (u : Bool × Nat × Nat × (Nat → Int32)) => r = bI (u.1 = true) ∧ u = acc 44 cnt num F) (fun (u : Bool × Nat × Nat × (Nat → Int32)) => [(q, .inr (4, [.ref qc, .int (nI L), .ref qn, .int (nI u.2.1), .int (nI u.2.2.1)])), (qc, .inl (G.1, 60, .inl (tN t))), (qn, .inl (G.1, 12, .inl u.2.2.2))]) := by
  refine MtI.of (by decide) (Nat.le_of_ble_eq_true rfl) ?_
  intro pr e s9 m9 below meth c9 A ls C hP hD hl
  obtain ⟨hx, hb, hml, hown, hts, hr, hlocks, hA, hAm⟩ := id C
  have hK := hAm.1
  have hS : va_S A s9.heap s9.heap [] := va_S.rf
  have hl : lv_has ls 1 [(0, .ref q)] := hl
  refine lv_aload_n hx hb dX4_acceptsComma_0 rfl (lv_at hl 0 rfl) ?_
  refine va_get (D := D) (ci := 4) (v := .int (nI num)) (C := RX4) (T := TX4) (N := 5) hx hb hts inlX4 hown hK hP 0 rfl rfl 4 (by decide) (hts _ kw_4_6) (fun _ h9 => h9) rfl dX4_acceptsComma_1 ?_
  refine lv_if_eq (tgt := 16) hx hb dX4_acceptsComma_4 (by decide) (fun c_4 => ?_) (fun c_4 => ?_)
  · have c_4 := neq_t (a := num) (b := 0) (by omega) (by omega) c_4
    refine lv_iconst (v := 0) hx hb dX4_acceptsComma_16 (by decide) ?_
    exact endI C rfl (false, cnt, num, F) ⟨rfl, (by unfold acc; repeat (first | rw [if_pos (by omega)] | rw [if_neg (by omega)]))⟩ hS hP dX4_acceptsComma_17
  · have c_4 := neq_f (a := num) (b := 0) (by omega) (by omega) c_4
    refine lv_aload_n hx hb dX4_acceptsComma_7 rfl (lv_at hl 0 rfl) ?_
    refine va_get (D := D) (ci := 4) (v := .int (nI cnt)) (C := RX4) (T := TX4) (N := 5) hx hb hts inlX4 hown hK hP 0 rfl rfl 3 (by decide) (hts _ kw_4_5) (fun _ h9 => h9) rfl dX4_acceptsComma_8 ?_
    refine lv_bipush (v := 12) hx hb dX4_acceptsComma_11 (by decide) ?_
    refine lv_icmp_lt (tgt := 18) hx hb dX4_acceptsComma_13 (by decide) (fun c_13 => ?_) (fun c_13 => ?_)
    · have c_13 := nlt_t (a := cnt) (b := 12) (by omega) (by omega) c_13
      refine lv_aload_n hx hb dX4_acceptsComma_18 rfl (lv_at hl 0 rfl) ?_
      refine lv_dup hx hb dX4_acceptsComma_19 rfl ?_
      refine va_get (D := D) (ci := 4) (v := .int (nI cnt)) (C := RX4) (T := TX4) (N := 5) hx hb hts inlX4 hown hK hP 0 rfl rfl 3 (by decide) (hts _ kw_4_5) (fun _ h9 => h9) rfl dX4_acceptsComma_20 ?_
      refine lv_iconst (v := 1) hx hb dX4_acceptsComma_23 (by decide) ?_
      refine ro_iadd (z := nI (cnt + 1)) hx hb (nI_add cnt 1) dX4_acceptsComma_24 ?_
      refine va_put (D := D) (ci := 4) (v := .int (nI (cnt + 1))) (ty := .int) (C := RX4) (T := TX4) (N := 5) hx hb hts inlX4 tyX4 tyX4_ok nmX4 hown hK hP hD hS 0 rfl rfl 3 (by decide) (hts _ kw_4_5) (fun _ h9 => h9) rfl (by decide +kernel) rfl rfl (Nat.le_of_ble_eq_true rfl) dX4_acceptsComma_25 (fun H locs hP hD hS => ?_)
      have hP : va_P D vwCl [(q, .inr (4, [.ref qc, .int (nI L), .ref qn, .int (nI (cnt + 1)), .int (nI num)])), (qc, .inl (G.1, 60, .inl (tN t))), (qn, .inl (G.1, 12, .inl F))] H := hP
      have hD : va_D A [(q, .inr (4, [.ref qc, .int (nI L), .ref qn, .int (nI (cnt + 1)), .int (nI num)])), (qc, .inl (G.1, 60, .inl (tN t))), (qn, .inl (G.1, 12, .inl F))] := hD
      refine lv_aload_n hx hb dX4_acceptsComma_28 rfl (lv_at hl 0 rfl) ?_
      refine lv_iconst (v := 0) hx hb dX4_acceptsComma_29 (by decide) ?_
      refine va_put (D := D) (ci := 4) (v := .int 0) (ty := .int) (C := RX4) (T := TX4) (N := 5) hx hb hts inlX4 tyX4 tyX4_ok nmX4 hown hK hP hD hS 0 rfl rfl 4 (by decide) (hts _ kw_4_6) (fun _ h9 => h9) rfl (by decide +kernel) rfl rfl (Nat.le_of_ble_eq_true rfl) dX4_acceptsComma_30 (fun H locs hP hD hS => ?_)
      have hP : va_P D vwCl [(q, .inr (4, [.ref qc, .int (nI L), .ref qn, .int (nI (cnt + 1)), .int 0])), (qc, .inl (G.1, 60, .inl (tN t))), (qn, .inl (G.1, 12, .inl F))] H := hP
      have hD : va_D A [(q, .inr (4, [.ref qc, .int (nI L), .ref qn, .int (nI (cnt + 1)), .int 0])), (qc, .inl (G.1, 60, .inl (tN t))), (qn, .inl (G.1, 12, .inl F))] := hD
      refine lv_iconst (v := 1) hx hb dX4_acceptsComma_33 (by decide) ?_
      exact endI C rfl (true, cnt + 1, 0, F) ⟨rfl, (by unfold acc; repeat (first | rw [if_pos (by omega)] | rw [if_neg (by omega)]))⟩ hS hP dX4_acceptsComma_34
    · have c_13 := nlt_f (a := cnt) (b := 12) (by omega) (by omega) c_13
      refine lv_iconst (v := 0) hx hb dX4_acceptsComma_16 (by decide) ?_
      exact endI C rfl (false, cnt, num, F) ⟨rfl, (by unfold acc; repeat (first | rw [if_pos (by omega)] | rw [if_neg (by omega)]))⟩ hS hP dX4_acceptsComma_17
set_option maxHeartbeats 800000 in
set_option maxRecDepth 100000 in
theorem mX4_accepts (l : Launch) (D : va_G) (G : u_G) (q qc qn L cnt num c : Nat) (F : Nat → Int32) (t : Nat → Nat) (h1 : 1 ≤ cnt) (h2 : cnt ≤ 12) (h3 : num ≤ 20) (h4 : c < 128) : MtI l D G yX4_accepts cX4_accepts 3 .boolean 2 0 0 [.ref q, .int (nI c)] [(q, .inr (4, [.ref qc, .int (nI L), .ref qn, .int (nI cnt), .int (nI num)])), (qc, .inl (G.1, 60, .inl (tN t))), (qn, .inl (G.1, 12, .inl F))] (fun (r : Int32) (u : Bool × Nat × Nat × (Nat → Int32)) => r = bI (u.1 = true) ∧ u = acc c cnt num F) (fun (u : Bool × Nat × Nat × (Nat → Int32)) => [(q, .inr (4, [.ref qc, .int (nI L), .ref qn, .int (nI u.2.1), .int (nI u.2.2.1)])), (qc, .inl (G.1, 60, .inl (tN t))), (qn, .inl (G.1, 12, .inl u.2.2.2))]) := by
  refine MtI.of (by decide) (Nat.le_of_ble_eq_true rfl) ?_
  intro pr e s9 m9 below meth c9 A ls C hP hD hl
  obtain ⟨hx, hb, hml, hown, hts, hr, hlocks, hA, hAm⟩ := id C
  have hK := hAm.1
  have hS : va_S A s9.heap s9.heap [] := va_S.rf
  have hl : lv_has ls 3 [(0, .ref q), (1, .int (nI c))] := hl
  refine lv_iload_n hx hb dX4_accepts_0 rfl (lv_at hl 1 rfl) ?_
  refine lv_bipush (v := 44) hx hb dX4_accepts_1 (by decide) ?_
  refine lv_icmp_ne (tgt := 11) hx hb dX4_accepts_3 (by decide) (fun c_3 => ?_) (fun c_3 => ?_)
  · have c_3 := neq_f (a := c) (b := 44) (by omega) (by omega) c_3
    refine lv_iload_n hx hb dX4_accepts_11 rfl (lv_at hl 1 rfl) ?_
    refine lv_bipush (v := 48) hx hb dX4_accepts_12 (by decide) ?_
    refine lv_icmp_lt (tgt := 23) hx hb dX4_accepts_14 (by decide) (fun c_14 => ?_) (fun c_14 => ?_)
    · have c_14 := nlt_t (a := c) (b := 48) (by omega) (by omega) c_14
      refine lv_iconst (v := 0) hx hb dX4_accepts_23 (by decide) ?_
      exact endI C rfl (false, cnt, num, F) ⟨rfl, (by unfold acc; repeat (first | rw [if_pos (by omega)] | rw [if_neg (by omega)]))⟩ hS hP dX4_accepts_24
    · have c_14 := nlt_f (a := c) (b := 48) (by omega) (by omega) c_14
      refine lv_iload_n hx hb dX4_accepts_17 rfl (lv_at hl 1 rfl) ?_
      refine lv_bipush (v := 57) hx hb dX4_accepts_18 (by decide) ?_
      refine lv_icmp_le (tgt := 25) hx hb dX4_accepts_20 (by decide) (fun c_20 => ?_) (fun c_20 => ?_)
      · have c_20 := nle_t (a := c) (b := 57) (by omega) (by omega) c_20
        refine lv_aload_n hx hb dX4_accepts_25 rfl (lv_at hl 0 rfl) ?_
        refine va_get (D := D) (ci := 4) (v := .int (nI num)) (C := RX4) (T := TX4) (N := 5) hx hb hts inlX4 hown hK hP 0 rfl rfl 4 (by decide) (hts _ kw_4_6) (fun _ h9 => h9) rfl dX4_accepts_26 ?_
        refine lv_bipush (v := 10) hx hb dX4_accepts_29 (by decide) ?_
        refine ro_imul (z := nI (num * 10)) hx hb (pk_mul num 10) dX4_accepts_31 ?_
        refine lv_iload_n hx hb dX4_accepts_32 rfl (lv_at hl 1 rfl) ?_
        refine ro_iadd (z := nI (num * 10 + c)) hx hb (nI_add (num * 10) c) dX4_accepts_33 ?_
        refine lv_bipush (v := 48) hx hb dX4_accepts_34 (by decide) ?_
        refine ro_isub (z := nI (num * 10 + c - 48)) hx hb (pk_sub (a := num * 10 + c) (b := 48) (by omega)) dX4_accepts_36 ?_
        refine lv_istore_n (lv' := [(2, .int (nI (num * 10 + c - 48))), (0, .ref q), (1, .int (nI c))]) hx hb dX4_accepts_37 rfl hl (by decide) rfl (fun ls hl => ?_)
        refine lv_iload_n hx hb dX4_accepts_38 rfl (lv_at hl 0 rfl) ?_
        refine lv_iconst (v := 1) hx hb dX4_accepts_39 (by decide) ?_
        refine lv_icmp_lt (tgt := 49) hx hb dX4_accepts_40 (by decide) (fun c_40 => ?_) (fun c_40 => ?_)
        · have c_40 := nlt_t (a := num * 10 + c - 48) (b := 1) (by omega) (by omega) c_40
          refine lv_iconst (v := 0) hx hb dX4_accepts_49 (by decide) ?_
          exact endI C rfl (false, cnt, num, F) ⟨rfl, (by unfold acc; repeat (first | rw [if_pos (by omega)] | rw [if_neg (by omega)]))⟩ hS hP dX4_accepts_50
        · have c_40 := nlt_f (a := num * 10 + c - 48) (b := 1) (by omega) (by omega) c_40
          refine lv_iload_n hx hb dX4_accepts_43 rfl (lv_at hl 0 rfl) ?_
          refine lv_bipush (v := 20) hx hb dX4_accepts_44 (by decide) ?_
          refine lv_icmp_le (tgt := 51) hx hb dX4_accepts_46 (by decide) (fun c_46 => ?_) (fun c_46 => ?_)
          · have c_46 := nle_t (a := num * 10 + c - 48) (b := 20) (by omega) (by omega) c_46
            refine lv_aload_n hx hb dX4_accepts_51 rfl (lv_at hl 1 rfl) ?_
            refine lv_iload_n hx hb dX4_accepts_52 rfl (lv_at hl 0 rfl) ?_
            refine va_put (D := D) (ci := 4) (v := .int (nI (num * 10 + c - 48))) (ty := .int) (C := RX4) (T := TX4) (N := 5) hx hb hts inlX4 tyX4 tyX4_ok nmX4 hown hK hP hD hS 0 rfl rfl 4 (by decide) (hts _ kw_4_6) (fun _ h9 => h9) rfl (by decide +kernel) rfl rfl (Nat.le_of_ble_eq_true rfl) dX4_accepts_53 (fun H locs hP hD hS => ?_)
            have hP : va_P D vwCl [(q, .inr (4, [.ref qc, .int (nI L), .ref qn, .int (nI cnt), .int (nI (num * 10 + c - 48))])), (qc, .inl (G.1, 60, .inl (tN t))), (qn, .inl (G.1, 12, .inl F))] H := hP
            have hD : va_D A [(q, .inr (4, [.ref qc, .int (nI L), .ref qn, .int (nI cnt), .int (nI (num * 10 + c - 48))])), (qc, .inl (G.1, 60, .inl (tN t))), (qn, .inl (G.1, 12, .inl F))] := hD
            refine lv_aload_n hx hb dX4_accepts_56 rfl (lv_at hl 1 rfl) ?_
            refine va_get (D := D) (ci := 4) (v := .ref qn) (C := RX4) (T := TX4) (N := 5) hx hb hts inlX4 hown hK hP 0 rfl rfl 2 (by decide) (hts _ kw_4_4) (fun _ h9 => h9) rfl dX4_accepts_57 ?_
            refine lv_aload_n hx hb dX4_accepts_60 rfl (lv_at hl 1 rfl) ?_
            refine va_get (D := D) (ci := 4) (v := .int (nI cnt)) (C := RX4) (T := TX4) (N := 5) hx hb hts inlX4 hown hK hP 0 rfl rfl 3 (by decide) (hts _ kw_4_5) (fun _ h9 => h9) rfl dX4_accepts_61 ?_
            refine lv_iconst (v := 1) hx hb dX4_accepts_64 (by decide) ?_
            refine ro_isub (z := nI (cnt - 1)) hx hb (pk_sub (a := cnt) (b := 1) (by omega)) dX4_accepts_65 ?_
            refine lv_aload_n hx hb dX4_accepts_66 rfl (lv_at hl 1 rfl) ?_
            refine va_get (D := D) (ci := 4) (v := .int (nI (num * 10 + c - 48))) (C := RX4) (T := TX4) (N := 5) hx hb hts inlX4 hown hK hP 0 rfl rfl 4 (by decide) (hts _ kw_4_6) (fun _ h9 => h9) rfl dX4_accepts_67 ?_
            refine aftV C (runSN_G (As := [.ref qn, .int (nI (cnt - 1)), .int (nI (num * 10 + c - 48))]) (rest := []) C (mX7_put l D G qn 12 F (cnt - 1) (nI (num * 10 + c - 48)) (by omega) (by omega)) hS hP hD [2] rfl (by decide) (ys_X7_put) nw_23 kw_8_2 ⟨Nat.le_of_ble_eq_true rfl, Nat.le_of_ble_eq_true rfl⟩ hl.1 (Nat.le_of_ble_eq_true rfl) dX4_accepts_70 rfl rfl ⟨Nat.zero_le _, Nat.zero_le _⟩) hS hP hD [2] rfl (fun _ => rfl) (fun _ H locs hp70 hP hD hS => ?_)
            have hP : va_P D vwCl [(q, .inr (4, [.ref qc, .int (nI L), .ref qn, .int (nI cnt), .int (nI (num * 10 + c - 48))])), (qc, .inl (G.1, 60, .inl (tN t))), (qn, .inl (G.1, 12, .inl (upd F (cnt - 1) (nI (num * 10 + c - 48)))))] H := hP
            have hD : va_D A [(q, .inr (4, [.ref qc, .int (nI L), .ref qn, .int (nI cnt), .int (nI (num * 10 + c - 48))])), (qc, .inl (G.1, 60, .inl (tN t))), (qn, .inl (G.1, 12, .inl (upd F (cnt - 1) (nI (num * 10 + c - 48)))))] := hD
            refine lv_iconst (v := 1) hx hb dX4_accepts_73 (by decide) ?_
            exact endI C rfl (true, cnt, num * 10 + c - 48, upd F (cnt - 1) (nI (num * 10 + c - 48))) ⟨rfl, (by unfold acc; repeat (first | rw [if_pos (by omega)] | rw [if_neg (by omega)]))⟩ hS hP dX4_accepts_74
          · have c_46 := nle_f (a := num * 10 + c - 48) (b := 20) (by omega) (by omega) c_46
            refine lv_iconst (v := 0) hx hb dX4_accepts_49 (by decide) ?_
            exact endI C rfl (false, cnt, num, F) ⟨rfl, (by unfold acc; repeat (first | rw [if_pos (by omega)] | rw [if_neg (by omega)]))⟩ hS hP dX4_accepts_50
      · have c_20 := nle_f (a := c) (b := 57) (by omega) (by omega) c_20
        refine lv_iconst (v := 0) hx hb dX4_accepts_23 (by decide) ?_
        exact endI C rfl (false, cnt, num, F) ⟨rfl, (by unfold acc; repeat (first | rw [if_pos (by omega)] | rw [if_neg (by omega)]))⟩ hS hP dX4_accepts_24
  · have c_3 := neq_t (a := c) (b := 44) (by omega) (by omega) c_3
    refine lv_aload_n hx hb dX4_accepts_6 rfl (lv_at hl 0 rfl) ?_
    refine aftI C (runV_G (As := []) (rest := []) (ci := 4) (N := 5) (T := TX4) (q0 := 0) C (mX4_acceptsComma l D G q qc qn L cnt num F t (by omega) (by omega) (by omega)) hS hP hD [0, 1, 2] rfl (by decide) rfl rfl (ys_X4_acceptsComma) kw_8_16 kw_8_17 kw_8_18 ⟨Nat.le_of_ble_eq_true rfl, Nat.le_of_ble_eq_true rfl⟩ hl.1 (Nat.le_of_ble_eq_true rfl) dX4_accepts_7 rfl rfl ⟨Nat.zero_le _, Nat.zero_le _⟩) hS hP hD [0, 1, 2] rfl (fun _ => rfl) (fun r7 u7 H locs hp7 hP hD hS => ?_)
    have hP : va_P D vwCl [(q, .inr (4, [.ref qc, .int (nI L), .ref qn, .int (nI u7.2.1), .int (nI u7.2.2.1)])), (qc, .inl (G.1, 60, .inl (tN t))), (qn, .inl (G.1, 12, .inl u7.2.2.2))] H := hP
    have hD : va_D A [(q, .inr (4, [.ref qc, .int (nI L), .ref qn, .int (nI u7.2.1), .int (nI u7.2.2.1)])), (qc, .inl (G.1, 60, .inl (tN t))), (qn, .inl (G.1, 12, .inl u7.2.2.2))] := hD
    obtain ⟨hr7, hu7⟩ := hp7
    subst hr7
    exact endI C bI_nar u7 ⟨rfl, hu7.trans (by subst c_3; rfl)⟩ hS hP dX4_accepts_10
set_option maxHeartbeats 800000 in
set_option maxRecDepth 100000 in
theorem mX4_read (l : Launch) (D : va_G) (G : u_G) (q qc qn L cnt num : Nat) (F : Nat → Int32) (t : Nat → Nat) (hL : L ≤ 60) (ht : ∀ k, k < L → t k < 128) : MtI l D G yX4_read cX4_read 2 .int 3 0 0 [.ref q] [(q, .inr (4, [.ref qc, .int (nI L), .ref qn, .int (nI cnt), .int (nI num)])), (qc, .inl (G.1, 60, .inl (tN t))), (qn, .inl (G.1, 12, .inl F))] (fun (r : Int32) (_ : Unit) => r = nI ((rdA t L F).1)) (fun (_ : Unit) => [(q, .inr (4, [.ref qc, .int (nI L), .ref qn, .int (nI ((rdA t L F).2.1)), .int (nI ((rdA t L F).2.2.1))])), (qc, .inl (G.1, 60, .inl (tN t))), (qn, .inl (G.1, 12, .inl ((rdA t L F).2.2.2)))]) := by
  refine MtI.of (by decide) (Nat.le_of_ble_eq_true rfl) ?_
  intro pr e s9 m9 below meth c9 A ls C hP hD hl
  obtain ⟨hx, hb, hml, hown, hts, hr, hlocks, hA, hAm⟩ := id C
  have hK := hAm.1
  have hS : va_S A s9.heap s9.heap [] := va_S.rf
  have hl : lv_has ls 2 [(0, .ref q)] := hl
  refine lv_aload_n hx hb dX4_read_0 rfl (lv_at hl 0 rfl) ?_
  refine lv_iconst (v := 1) hx hb dX4_read_1 (by decide) ?_
  refine va_put (D := D) (ci := 4) (v := .int 1) (ty := .int) (C := RX4) (T := TX4) (N := 5) hx hb hts inlX4 tyX4 tyX4_ok nmX4 hown hK hP hD hS 0 rfl rfl 3 (by decide) (hts _ kw_4_5) (fun _ h9 => h9) rfl (by decide +kernel) rfl rfl (Nat.le_of_ble_eq_true rfl) dX4_read_2 (fun H locs hP hD hS => ?_)
  have hP : va_P D vwCl [(q, .inr (4, [.ref qc, .int (nI L), .ref qn, .int 1, .int (nI num)])), (qc, .inl (G.1, 60, .inl (tN t))), (qn, .inl (G.1, 12, .inl F))] H := hP
  have hD : va_D A [(q, .inr (4, [.ref qc, .int (nI L), .ref qn, .int 1, .int (nI num)])), (qc, .inl (G.1, 60, .inl (tN t))), (qn, .inl (G.1, 12, .inl F))] := hD
  refine lv_aload_n hx hb dX4_read_5 rfl (lv_at hl 0 rfl) ?_
  refine lv_iconst (v := 0) hx hb dX4_read_6 (by decide) ?_
  refine va_put (D := D) (ci := 4) (v := .int 0) (ty := .int) (C := RX4) (T := TX4) (N := 5) hx hb hts inlX4 tyX4 tyX4_ok nmX4 hown hK hP hD hS 0 rfl rfl 4 (by decide) (hts _ kw_4_6) (fun _ h9 => h9) rfl (by decide +kernel) rfl rfl (Nat.le_of_ble_eq_true rfl) dX4_read_7 (fun H locs hP hD hS => ?_)
  have hP : va_P D vwCl [(q, .inr (4, [.ref qc, .int (nI L), .ref qn, .int 1, .int 0])), (qc, .inl (G.1, 60, .inl (tN t))), (qn, .inl (G.1, 12, .inl F))] H := hP
  have hD : va_D A [(q, .inr (4, [.ref qc, .int (nI L), .ref qn, .int 1, .int 0])), (qc, .inl (G.1, 60, .inl (tN t))), (qn, .inl (G.1, 12, .inl F))] := hD
  refine lv_iconst (v := 0) hx hb dX4_read_10 (by decide) ?_
  refine lv_istore_n (lv' := [(1, .int 0), (0, .ref q)]) hx hb dX4_read_11 rfl hl (by decide) rfl (fun ls hl => ?_)
  have lp12 : ∀ (n12 : Nat) (i : Nat) (cn9 : Nat) (nm9 : Nat) (F9 : Nat → Int32) (hi : i ≤ L) (h1 : 1 ≤ cn9) (h2 : cn9 ≤ 12) (h3 : nm9 ≤ 20) (hR : rd t (L - i) i (cn9, nm9, F9) = rdA t L F) (_ : L - i < n12) (H : Heap) (locs : List Loc) (ls : Array Slot), va_P D vwCl [(q, .inr (4, [.ref qc, .int (nI L), .ref qn, .int (nI cn9), .int (nI nm9)])), (qc, .inl (G.1, 60, .inl (tN t))), (qn, .inl (G.1, 12, .inl F9))] H → va_D A [(q, .inr (4, [.ref qc, .int (nI L), .ref qn, .int (nI cn9), .int (nI nm9)])), (qc, .inl (G.1, 60, .inl (tN t))), (qn, .inl (G.1, 12, .inl F9))] → va_S A s9.heap H locs → lv_has ls 2 [(0, .ref q), (1, .int (nI i))] → W pr l e (rmG 3 0 0) s9 m9 (List.toArray [.ref q]) below meth c9 H locs 0 0 (MQ below (va_Qi (fun (r : Int32) (_ : Unit) => r = nI ((rdA t L F).1)) (fun u9 t9 => WB D ((fun (_ : Unit) => [(q, .inr (4, [.ref qc, .int (nI L), .ref qn, .int (nI ((rdA t L F).2.1)), .int (nI ((rdA t L F).2.2.1))])), (qc, .inl (G.1, 60, .inl (tN t))), (qn, .inl (G.1, 12, .inl ((rdA t L F).2.2.2)))]) u9) t9) A) (List.toArray [.ref q]) s9 0 0 A) (F0 m9 12 ls []) := by
    intro n12
    induction n12 with
    | zero => intro i cn9 nm9 F9 hi h1 h2 h3 hR hm; exact absurd hm (Nat.not_lt_zero _)
    | succ n12 ih12 =>
      intro i cn9 nm9 F9 hi h1 h2 h3 hR hm H locs ls hP hD hS hl
      refine lv_iload_n hx hb dX4_read_12 rfl (lv_at hl 1 rfl) ?_
      refine lv_aload_n hx hb dX4_read_13 rfl (lv_at hl 0 rfl) ?_
      refine va_get (D := D) (ci := 4) (v := .int (nI L)) (C := RX4) (T := TX4) (N := 5) hx hb hts inlX4 hown hK hP 0 rfl rfl 1 (by decide) (hts _ kw_4_3) (fun _ h9 => h9) rfl dX4_read_14 ?_
      refine lv_icmp_ge (tgt := 43) hx hb dX4_read_17 (by decide) (fun c_17 => ?_) (fun c_17 => ?_)
      · have c_17 := nle_t (a := L) (b := i) (by omega) (by omega) c_17
        refine lv_aload_n hx hb dX4_read_43 rfl (lv_at hl 0 rfl) ?_
        refine va_get (D := D) (ci := 4) (v := .int (nI L)) (C := RX4) (T := TX4) (N := 5) hx hb hts inlX4 hown hK hP 0 rfl rfl 1 (by decide) (hts _ kw_4_3) (fun _ h9 => h9) rfl dX4_read_44 ?_
        exact endI C rfl () (by rw [← hR, show L - i = 0 by omega]; exact congrArg nI (by show L = i; omega)) hS (by rw [← hR, show L - i = 0 by omega]; exact hP) dX4_read_47
      · have c_17 := nle_f (a := L) (b := i) (by omega) (by omega) c_17
        refine lv_aload_n hx hb dX4_read_20 rfl (lv_at hl 0 rfl) ?_
        refine lv_aload_n hx hb dX4_read_21 rfl (lv_at hl 0 rfl) ?_
        refine va_get (D := D) (ci := 4) (v := .ref qc) (C := RX4) (T := TX4) (N := 5) hx hb hts inlX4 hown hK hP 0 rfl rfl 0 (by decide) (hts _ kw_4_2) (fun _ h9 => h9) rfl dX4_read_22 ?_
        refine lv_iload_n hx hb dX4_read_25 rfl (lv_at hl 1 rfl) ?_
        refine aftI0 C (runSN_G (As := [.ref qc, .int (nI i)]) (rest := [.ref q]) C (mX7_at l D G qc 60 (tN t) i (by omega) (by omega)) hS hP hD [1] rfl (by decide) (ys_X7_at) nw_22 kw_7_21 ⟨Nat.le_of_ble_eq_true rfl, Nat.le_of_ble_eq_true rfl⟩ hl.1 (Nat.le_of_ble_eq_true rfl) dX4_read_26 rfl rfl ⟨Nat.zero_le _, Nat.zero_le _⟩) hS hP hD [1] rfl (fun r26 _ H locs hp26 hP hS => ?_)
        refine ro_top (z := (tN t) i) hx hp26 ?_
        refine ro_top (z := nI (t i)) hx rfl ?_
        refine aftI C (runV_G (As := [.int (nI (t i))]) (rest := []) (ci := 4) (N := 5) (T := TX4) (q0 := 0) C (mX4_accepts l D G q qc qn L cn9 nm9 (t i) F9 t h1 h2 h3 (ht i (by omega))) hS hP hD [0, 1, 2] rfl (by decide) rfl rfl (ys_X4_accepts) kw_8_12 kw_8_13 kw_8_14 ⟨Nat.le_of_ble_eq_true rfl, Nat.le_of_ble_eq_true rfl⟩ hl.1 (Nat.le_of_ble_eq_true rfl) dX4_read_29 rfl rfl ⟨Nat.zero_le _, Nat.zero_le _⟩) hS hP hD [0, 1, 2] rfl (fun _ => rfl) (fun r29 u29 H locs hp29 hP hD hS => ?_)
        have hP : va_P D vwCl [(q, .inr (4, [.ref qc, .int (nI L), .ref qn, .int (nI u29.2.1), .int (nI u29.2.2.1)])), (qc, .inl (G.1, 60, .inl (tN t))), (qn, .inl (G.1, 12, .inl u29.2.2.2))] H := hP
        have hD : va_D A [(q, .inr (4, [.ref qc, .int (nI L), .ref qn, .int (nI u29.2.1), .int (nI u29.2.2.1)])), (qc, .inl (G.1, 60, .inl (tN t))), (qn, .inl (G.1, 12, .inl u29.2.2.2))] := hD
        obtain ⟨hr29, hu29⟩ := hp29
        subst hr29
        refine lv_if_ne (tgt := 37) hx hb dX4_read_32 (by decide) (fun c_32 => ?_) (fun c_32 => ?_)
        · have c_32 := bI_1 c_32
          refine lv_iinc (v := nI (i + 1)) (lv' := [(1, .int (nI (i + 1))), (0, .ref q)]) hx hb dX4_read_37 hl (k := 1) rfl (nI_add i 1) (by decide) rfl (fun ls hl => ?_)
          refine lv_goto (tgt := 12) hx hb dX4_read_40 (by decide) ?_
          exact ih12 (i + 1) u29.2.1 u29.2.2.1 u29.2.2.2 (by omega) (by rw [hu29]; exact (acc_ok (c := t i) (F := F9) h1 h2 h3).1) (by rw [hu29]; exact (acc_ok (c := t i) (F := F9) h1 h2 h3).2.1) (by rw [hu29]; exact (acc_ok (c := t i) (F := F9) h1 h2 h3).2.2) (by rw [hu29]; exact (rd_go (t := t) (L := L) (i := i) (z := (cn9, nm9, F9)) (by omega) (by rw [← hu29]; exact c_32)).symm.trans hR) (by omega) _ _ _ hP (hD.fst rfl) hS (lv_sub hl [1, 0] rfl)
        · have c_32 : ¬ (u29.1 = true) := bI_0 c_32
          refine lv_iload_n hx hb dX4_read_35 rfl (lv_at hl 1 rfl) ?_
          exact endI C rfl () (by rw [← hR, rd_stop (t := t) (L := L) (i := i) (z := (cn9, nm9, F9)) (by omega) (by rw [← hu29]; exact c_32)]) hS (by rw [← hR, rd_stop (t := t) (L := L) (i := i) (z := (cn9, nm9, F9)) (by omega) (by rw [← hu29]; exact c_32), ← hu29]; exact hP) dX4_read_36
  exact lp12 (L - 0 + 1) 0 1 0 F (by omega) (by omega) (by omega) (by omega) rfl (Nat.lt_succ_self _) _ _ _ hP (hD.fst rfl) hS (lv_sub hl [1, 0] rfl)
set_option maxHeartbeats 800000 in
set_option maxRecDepth 100000 in
theorem mX4_isRow (l : Launch) (D : va_G) (G : u_G) (q qc qn L cnt num : Nat) (F : Nat → Int32) (t : Nat → Nat) (hL : L ≤ 60) (ht : ∀ k, k < L → t k < 128) : MtI l D G yX4_isRow cX4_isRow 1 .boolean 4 0 0 [.ref q] [(q, .inr (4, [.ref qc, .int (nI L), .ref qn, .int (nI cnt), .int (nI num)])), (qc, .inl (G.1, 60, .inl (tN t))), (qn, .inl (G.1, 12, .inl F))] (fun (r : Int32) (_ : Unit) => r = bI ((rdA t L F).1 = L ∧ 0 < (rdA t L F).2.2.1)) (fun (_ : Unit) => [(q, .inr (4, [.ref qc, .int (nI L), .ref qn, .int (nI ((rdA t L F).2.1)), .int (nI ((rdA t L F).2.2.1))])), (qc, .inl (G.1, 60, .inl (tN t))), (qn, .inl (G.1, 12, .inl ((rdA t L F).2.2.2)))]) := by
  refine MtI.of (by decide) (Nat.le_of_ble_eq_true rfl) ?_
  intro pr e s9 m9 below meth c9 A ls C hP hD hl
  obtain ⟨hx, hb, hml, hown, hts, hr, hlocks, hA, hAm⟩ := id C
  have hK := hAm.1
  have hS : va_S A s9.heap s9.heap [] := va_S.rf
  have hl : lv_has ls 1 [(0, .ref q)] := hl
  have hq1 := rdA_le t L F
  have hq2 := rdA_num t L F
  refine lv_aload_n hx hb dX4_isRow_0 rfl (lv_at hl 0 rfl) ?_
  refine aftI C (runV_G (As := []) (rest := []) (ci := 4) (N := 5) (T := TX4) (q0 := 0) C (mX4_read l D G q qc qn L cnt num F t hL ht) hS hP hD [0, 1, 2] rfl (by decide) rfl rfl (ys_X4_read) kw_18_5 kw_8_9 kw_8_10 ⟨Nat.le_of_ble_eq_true rfl, Nat.le_of_ble_eq_true rfl⟩ hl.1 (Nat.le_of_ble_eq_true rfl) dX4_isRow_1 rfl rfl ⟨Nat.zero_le _, Nat.zero_le _⟩) hS hP hD [0, 1, 2] rfl (fun _ => rfl) (fun r1 _ H locs hp1 hP hD hS => ?_)
  have hP : va_P D vwCl [(q, .inr (4, [.ref qc, .int (nI L), .ref qn, .int (nI ((rdA t L F).2.1)), .int (nI ((rdA t L F).2.2.1))])), (qc, .inl (G.1, 60, .inl (tN t))), (qn, .inl (G.1, 12, .inl ((rdA t L F).2.2.2)))] H := hP
  have hD : va_D A [(q, .inr (4, [.ref qc, .int (nI L), .ref qn, .int (nI ((rdA t L F).2.1)), .int (nI ((rdA t L F).2.2.1))])), (qc, .inl (G.1, 60, .inl (tN t))), (qn, .inl (G.1, 12, .inl ((rdA t L F).2.2.2)))] := hD
  refine ro_top (z := nI ((rdA t L F).1)) hx hp1 ?_
  refine lv_aload_n hx hb dX4_isRow_4 rfl (lv_at hl 0 rfl) ?_
  refine va_get (D := D) (ci := 4) (v := .int (nI L)) (C := RX4) (T := TX4) (N := 5) hx hb hts inlX4 hown hK hP 0 rfl rfl 1 (by decide) (hts _ kw_4_3) (fun _ h9 => h9) rfl dX4_isRow_5 ?_
  refine lv_icmp_ne (tgt := 22) hx hb dX4_isRow_8 (by decide) (fun c_8 => ?_) (fun c_8 => ?_)
  · have c_8 := neq_f (a := (rdA t L F).1) (b := L) (by omega) (by omega) c_8
    refine lv_iconst (v := 0) hx hb dX4_isRow_22 (by decide) ?_
    exact endI C rfl () (by first | exact (bI_t ⟨by omega, by omega⟩).symm | exact (bI_f (by omega)).symm) hS hP dX4_isRow_23
  · have c_8 := neq_t (a := (rdA t L F).1) (b := L) (by omega) (by omega) c_8
    refine lv_aload_n hx hb dX4_isRow_11 rfl (lv_at hl 0 rfl) ?_
    refine va_get (D := D) (ci := 4) (v := .int (nI ((rdA t L F).2.2.1))) (C := RX4) (T := TX4) (N := 5) hx hb hts inlX4 hown hK hP 0 rfl rfl 4 (by decide) (hts _ kw_4_6) (fun _ h9 => h9) rfl dX4_isRow_12 ?_
    refine lv_if_le (tgt := 22) hx hb dX4_isRow_15 (by decide) (fun c_15 => ?_) (fun c_15 => ?_)
    · have c_15 := nle_t (a := (rdA t L F).2.2.1) (b := 0) (by omega) (by omega) c_15
      refine lv_iconst (v := 0) hx hb dX4_isRow_22 (by decide) ?_
      exact endI C rfl () (by first | exact (bI_t ⟨by omega, by omega⟩).symm | exact (bI_f (by omega)).symm) hS hP dX4_isRow_23
    · have c_15 := nle_f (a := (rdA t L F).2.2.1) (b := 0) (by omega) (by omega) c_15
      refine lv_iconst (v := 1) hx hb dX4_isRow_18 (by decide) ?_
      refine lv_goto (tgt := 23) hx hb dX4_isRow_19 (by decide) ?_
      exact endI C rfl () (by first | exact (bI_t ⟨by omega, by omega⟩).symm | exact (bI_f (by omega)).symm) hS hP dX4_isRow_23
set_option maxHeartbeats 800000 in
set_option maxRecDepth 100000 in
theorem mX1_valueAt (l : Launch) (D : va_G) (G : u_G) (q qp qs f n : Nat) (sv : Nat → Int32) (hfn : f + n ≤ 12) : MtI l D G yX1_valueAt cX1_valueAt 3 .int 3 0 0 [.ref q, .int (nI f), .int (nI n)] [(q, .inr (1, [.ref qp, .ref qs])), (qs, .inl (G.1, 144, .inl sv))] (fun (r : Int32) (_ : Unit) => r = vat sv n f) (fun (_ : Unit) => [(q, .inr (1, [.ref qp, .ref qs])), (qs, .inl (G.1, 144, .inl sv))]) := by
  refine MtI.of (by decide) (Nat.le_of_ble_eq_true rfl) ?_
  intro pr e s9 m9 below meth c9 A ls C hP hD hl
  obtain ⟨hx, hb, hml, hown, hts, hr, hlocks, hA, hAm⟩ := id C
  have hK := hAm.1
  have hS : va_S A s9.heap s9.heap [] := va_S.rf
  have hl : lv_has ls 3 [(0, .ref q), (1, .int (nI f)), (2, .int (nI n))] := hl
  refine lv_iload_n hx hb dX1_valueAt_0 rfl (lv_at hl 2 rfl) ?_
  refine lv_if_le (tgt := 19) hx hb dX1_valueAt_1 (by decide) (fun c_1 => ?_) (fun c_1 => ?_)
  · have c_1 := nle_t (a := n) (b := 0) (by omega) (by omega) c_1
    refine lv_iconst (v := 0) hx hb dX1_valueAt_19 (by decide) ?_
    exact endI C rfl () (by unfold vat; first | rw [if_neg (by omega)] | rw [if_pos (by omega)]) hS hP dX1_valueAt_20
  · have c_1 := nle_f (a := n) (b := 0) (by omega) (by omega) c_1
    refine lv_aload_n hx hb dX1_valueAt_4 rfl (lv_at hl 0 rfl) ?_
    refine va_get (D := D) (ci := 1) (v := .ref qs) (C := RX1) (T := TX1) (N := 2) hx hb hts inlX1 hown hK hP 0 rfl rfl 1 (by decide) (hts _ kw_4_11) (fun _ h9 => h9) rfl dX1_valueAt_5 ?_
    refine lv_iload_n hx hb dX1_valueAt_8 rfl (lv_at hl 1 rfl) ?_
    refine lv_iload_n hx hb dX1_valueAt_9 rfl (lv_at hl 2 rfl) ?_
    refine aftI0 C (runSN_G (As := [.int (nI f), .int (nI n)]) (rest := [.ref qs]) C (mX7_cell l D G f n (by omega) (by omega) (by omega)) hS hP hD [] rfl (by decide) (ys_X7_cell) nw_8 kw_7_16 ⟨Nat.le_of_ble_eq_true rfl, Nat.le_of_ble_eq_true rfl⟩ hl.1 (Nat.le_of_ble_eq_true rfl) dX1_valueAt_10 rfl rfl ⟨Nat.zero_le _, Nat.zero_le _⟩) hS hP hD [] rfl (fun r10 _ H locs hp10 hP hS => ?_)
    refine ro_top (z := nI (f * 12 + n - 1)) hx hp10 ?_
    refine aftI0 C (runSN_G (As := [.ref qs, .int (nI (f * 12 + n - 1))]) (rest := []) C (mX7_at l D G qs 144 sv (f * 12 + n - 1) (by omega) (by omega)) hS hP hD [1] rfl (by decide) (ys_X7_at) nw_9 kw_7_21 ⟨Nat.le_of_ble_eq_true rfl, Nat.le_of_ble_eq_true rfl⟩ hl.1 (Nat.le_of_ble_eq_true rfl) dX1_valueAt_13 rfl rfl ⟨Nat.zero_le _, Nat.zero_le _⟩) hS hP hD [1] rfl (fun r13 _ H locs hp13 hP hS => ?_)
    refine ro_top (z := sv (f * 12 + n - 1)) hx hp13 ?_
    refine lv_goto (tgt := 20) hx hb dX1_valueAt_16 (by decide) ?_
    exact endI C rfl () (by unfold vat; first | rw [if_neg (by omega)] | rw [if_pos (by omega)]) hS hP dX1_valueAt_20
set_option maxHeartbeats 800000 in
set_option maxRecDepth 100000 in
theorem mX1_resultAt (l : Launch) (D : va_G) (G : u_G) (q qp qs f n m : Nat) (p sv : Nat → Int32) (hm : m < 4) (hfn : f + n ≤ 12) : MtI l D G yX1_resultAt cX1_resultAt 5 .int 4 0 0 [.ref q, .int (nI f), .int (nI n), .int (nI m)] [(q, .inr (1, [.ref qp, .ref qs])), (qp, .inl (G.1, 12, .inl p)), (qs, .inl (G.1, 144, .inl sv))] (fun (r : Int32) (_ : Unit) => r = rV p (vat sv) f n m) (fun (_ : Unit) => [(q, .inr (1, [.ref qp, .ref qs])), (qp, .inl (G.1, 12, .inl p)), (qs, .inl (G.1, 144, .inl sv))]) := by
  refine MtI.of (by decide) (Nat.le_of_ble_eq_true rfl) ?_
  intro pr e s9 m9 below meth c9 A ls C hP hD hl
  obtain ⟨hx, hb, hml, hown, hts, hr, hlocks, hA, hAm⟩ := id C
  have hK := hAm.1
  have hS : va_S A s9.heap s9.heap [] := va_S.rf
  have hl : lv_has ls 5 [(0, .ref q), (1, .int (nI f)), (2, .int (nI n)), (3, .int (nI m))] := hl
  have tk1 := tk_pos m
  have tk2 := bh_le f m
  refine lv_iload_n hx hb dX1_resultAt_0 rfl (lv_at hl 3 rfl) ?_
  refine aftI0 C (runSN_G (As := [.int (nI m)]) (rest := []) C (mX7_isMove_n l D G m (by omega)) hS hP hD [] rfl (by decide) (ys_X7_isMove) nw_24 kw_7_1 ⟨Nat.le_of_ble_eq_true rfl, Nat.le_of_ble_eq_true rfl⟩ hl.1 (Nat.le_of_ble_eq_true rfl) dX1_resultAt_1 rfl rfl ⟨Nat.zero_le _, Nat.zero_le _⟩) hS hP hD [] rfl (fun r1 _ H locs hp1 hP hS => ?_)
  refine ro_top (z := 1) hx hp1 ?_
  refine lv_if_eq (tgt := 15) hx hb dX1_resultAt_4 (by decide) (fun h => absurd h (by decide)) (fun _ => ?_)
  refine lv_iload_n hx hb dX1_resultAt_7 rfl (lv_at hl 3 rfl) ?_
  refine lv_iload_n hx hb dX1_resultAt_8 rfl (lv_at hl 2 rfl) ?_
  refine aftI0 C (runSN_G (As := [.int (nI m), .int (nI n)]) (rest := []) C (mX7_isPossible l D G m n (by omega) (by omega)) hS hP hD [] rfl (by decide) (ys_X7_isPossible) nw_25 kw_7_3 ⟨Nat.le_of_ble_eq_true rfl, Nat.le_of_ble_eq_true rfl⟩ hl.1 (Nat.le_of_ble_eq_true rfl) dX1_resultAt_9 rfl rfl ⟨Nat.zero_le _, Nat.zero_le _⟩) hS hP hD [] rfl (fun r9 _ H locs hp9 hP hS => ?_)
  refine ro_top (z := bI (tk m ≤ n)) hx hp9 ?_
  refine lv_if_ne (tgt := 19) hx hb dX1_resultAt_12 (by decide) (fun c_12 => ?_) (fun c_12 => ?_)
  · have c_12 := bI_1 c_12
    refine lv_aload_n hx hb dX1_resultAt_19 rfl (lv_at hl 0 rfl) ?_
    refine lv_iload_n hx hb dX1_resultAt_20 rfl (lv_at hl 1 rfl) ?_
    refine lv_iload_n hx hb dX1_resultAt_21 rfl (lv_at hl 3 rfl) ?_
    refine aftI0 C (runSN_G (As := [.int (nI f), .int (nI m)]) (rest := [.ref q]) C (mX7_firstAfter l D G f m (by omega) (by omega)) hS hP hD [] rfl (by decide) (ys_X7_firstAfter) nw_26 kw_7_8 ⟨Nat.le_of_ble_eq_true rfl, Nat.le_of_ble_eq_true rfl⟩ hl.1 (Nat.le_of_ble_eq_true rfl) dX1_resultAt_22 rfl rfl ⟨Nat.zero_le _, Nat.zero_le _⟩) hS hP hD [] rfl (fun r22 _ H locs hp22 hP hS => ?_)
    refine ro_top (z := nI (bh f m)) hx hp22 ?_
    refine lv_iload_n hx hb dX1_resultAt_25 rfl (lv_at hl 2 rfl) ?_
    refine lv_iload_n hx hb dX1_resultAt_26 rfl (lv_at hl 3 rfl) ?_
    refine aftI0 C (runSN_G (As := [.int (nI n), .int (nI m)]) (rest := [.int (nI (bh f m)), .ref q]) C (mX7_leftAfter l D G n m (by omega) (by omega) (by omega)) hS hP hD [] rfl (by decide) (ys_X7_leftAfter) nw_27 kw_7_10 ⟨Nat.le_of_ble_eq_true rfl, Nat.le_of_ble_eq_true rfl⟩ hl.1 (Nat.le_of_ble_eq_true rfl) dX1_resultAt_27 rfl rfl ⟨Nat.zero_le _, Nat.zero_le _⟩) hS hP hD [] rfl (fun r27 _ H locs hp27 hP hS => ?_)
    refine ro_top (z := nI (n - tk m)) hx hp27 ?_
    refine aftI0 C (runV_G (As := [.int (nI (bh f m)), .int (nI (n - tk m))]) (rest := []) (ci := 1) (N := 2) (T := TX1) (q0 := 0) C (mX1_valueAt l D G q qp qs (bh f m) (n - tk m) sv (by omega)) hS hP hD [0, 2] rfl (by decide) rfl rfl (ys_X1_valueAt) kw_7_12 kw_7_13 kw_7_14 ⟨Nat.le_of_ble_eq_true rfl, Nat.le_of_ble_eq_true rfl⟩ hl.1 (Nat.le_of_ble_eq_true rfl) dX1_resultAt_30 rfl rfl ⟨Nat.zero_le _, Nat.zero_le _⟩) hS hP hD [0, 2] rfl (fun r30 _ H locs hp30 hP hS => ?_)
    refine ro_top (z := vat sv (n - tk m) (bh f m)) hx hp30 ?_
    refine lv_istore (lv' := [(4, .int (vat sv (n - tk m) (bh f m))), (0, .ref q), (1, .int (nI f)), (2, .int (nI n)), (3, .int (nI m))]) hx hb dX1_resultAt_33 hl (by decide) rfl (fun ls hl => ?_)
    refine lv_aload_n hx hb dX1_resultAt_35 rfl (lv_at hl 1 rfl) ?_
    refine va_get (D := D) (ci := 1) (v := .ref qp) (C := RX1) (T := TX1) (N := 2) hx hb hts inlX1 hown hK hP 0 rfl rfl 0 (by decide) (hts _ kw_4_10) (fun _ h9 => h9) rfl dX1_resultAt_36 ?_
    refine lv_iload_n hx hb dX1_resultAt_39 rfl (lv_at hl 2 rfl) ?_
    refine lv_iload_n hx hb dX1_resultAt_40 rfl (lv_at hl 3 rfl) ?_
    refine lv_iload_n hx hb dX1_resultAt_41 rfl (lv_at hl 4 rfl) ?_
    refine aftI0 C (runSN_G (As := [.ref qp, .int (nI f), .int (nI n), .int (nI m)]) (rest := []) C (mX7_gainOf l D G qp p f n m (by omega) (by omega) (by omega)) hS hP hD [1] rfl (by decide) (ys_X7_gainOf) nw_28 kw_7_23 ⟨Nat.le_of_ble_eq_true rfl, Nat.le_of_ble_eq_true rfl⟩ hl.1 (Nat.le_of_ble_eq_true rfl) dX1_resultAt_42 rfl rfl ⟨Nat.zero_le _, Nat.zero_le _⟩) hS hP hD [1] rfl (fun r42 _ H locs hp42 hP hS => ?_)
    refine ro_top (z := cn p f n m) hx hp42 ?_
    refine lv_iload hx hb dX1_resultAt_45 (lv_at hl 0 rfl) ?_
    refine lv_isub hx hb dX1_resultAt_47 ?_
    exact endI C rfl () (rV_pos c_12).symm hS hP dX1_resultAt_48
  · have c_12 : ¬ (tk m ≤ n) := bI_0 c_12
    refine lv_sipush (v := (-999)) hx hb dX1_resultAt_15 (by decide) ?_
    exact endI C rfl () (rV_neg c_12).symm hS hP dX1_resultAt_18
set_option maxHeartbeats 800000 in
set_option maxRecDepth 100000 in
theorem mX1_bestMoveAt (l : Launch) (D : va_G) (G : u_G) (q qp qs f n : Nat) (p sv : Nat → Int32) (hfn : f + n ≤ 12) : MtI l D G yX1_bestMoveAt cX1_bestMoveAt 7 .int 5 0 0 [.ref q, .int (nI f), .int (nI n)] [(q, .inr (1, [.ref qp, .ref qs])), (qp, .inl (G.1, 12, .inl p)), (qs, .inl (G.1, 144, .inl sv))] (fun (r : Int32) (_ : Unit) => r = (bm (rV p (vat sv) f n) 4).1) (fun (_ : Unit) => [(q, .inr (1, [.ref qp, .ref qs])), (qp, .inl (G.1, 12, .inl p)), (qs, .inl (G.1, 144, .inl sv))]) := by
  refine MtI.of (by decide) (Nat.le_of_ble_eq_true rfl) ?_
  intro pr e s9 m9 below meth c9 A ls C hP hD hl
  obtain ⟨hx, hb, hml, hown, hts, hr, hlocks, hA, hAm⟩ := id C
  have hK := hAm.1
  have hS : va_S A s9.heap s9.heap [] := va_S.rf
  have hl : lv_has ls 7 [(0, .ref q), (1, .int (nI f)), (2, .int (nI n))] := hl
  refine lv_sipush (v := (-999)) hx hb dX1_bestMoveAt_0 (by decide) ?_
  refine lv_istore_n (lv' := [(3, .int (-999)), (0, .ref q), (1, .int (nI f)), (2, .int (nI n))]) hx hb dX1_bestMoveAt_3 rfl hl (by decide) rfl (fun ls hl => ?_)
  refine lv_sipush (v := (-999)) hx hb dX1_bestMoveAt_4 (by decide) ?_
  refine lv_istore (lv' := [(4, .int (-999)), (3, .int (-999)), (0, .ref q), (1, .int (nI f)), (2, .int (nI n))]) hx hb dX1_bestMoveAt_7 hl (by decide) rfl (fun ls hl => ?_)
  refine lv_iconst (v := 0) hx hb dX1_bestMoveAt_9 (by decide) ?_
  refine lv_istore (lv' := [(5, .int 0), (4, .int (-999)), (3, .int (-999)), (0, .ref q), (1, .int (nI f)), (2, .int (nI n))]) hx hb dX1_bestMoveAt_10 hl (by decide) rfl (fun ls hl => ?_)
  have lp12 : ∀ (n12 : Nat) (i : Nat) (hi : i ≤ 4) (_ : 4 - i < n12) (H : Heap) (locs : List Loc) (ls : Array Slot), va_P D vwCl [(q, .inr (1, [.ref qp, .ref qs])), (qp, .inl (G.1, 12, .inl p)), (qs, .inl (G.1, 144, .inl sv))] H → va_D A [(q, .inr (1, [.ref qp, .ref qs])), (qp, .inl (G.1, 12, .inl p)), (qs, .inl (G.1, 144, .inl sv))] → va_S A s9.heap H locs → lv_has ls 7 [(0, .ref q), (1, .int (nI f)), (2, .int (nI n)), (3, .int ((bm (rV p (vat sv) f n) i).1)), (4, .int ((bm (rV p (vat sv) f n) i).2)), (5, .int (nI i))] → W pr l e (rmG 5 0 0) s9 m9 (List.toArray [.ref q, .int (nI f), .int (nI n)]) below meth c9 H locs 0 0 (MQ below (va_Qi (fun (r : Int32) (_ : Unit) => r = (bm (rV p (vat sv) f n) 4).1) (fun u9 t9 => WB D ((fun (_ : Unit) => [(q, .inr (1, [.ref qp, .ref qs])), (qp, .inl (G.1, 12, .inl p)), (qs, .inl (G.1, 144, .inl sv))]) u9) t9) A) (List.toArray [.ref q, .int (nI f), .int (nI n)]) s9 0 0 A) (F0 m9 12 ls []) := by
    intro n12
    induction n12 with
    | zero => intro i hi hm; exact absurd hm (Nat.not_lt_zero _)
    | succ n12 ih12 =>
      intro i hi hm H locs ls hP hD hS hl
      refine lv_iload hx hb dX1_bestMoveAt_12 (lv_at hl 5 rfl) ?_
      refine lv_iconst (v := 4) hx hb dX1_bestMoveAt_14 (by decide) ?_
      refine lv_icmp_ge (tgt := 48) hx hb dX1_bestMoveAt_15 (by decide) (fun c_15 => ?_) (fun c_15 => ?_)
      · have c_15 := nle_t (a := 4) (b := i) (by omega) (by omega) c_15
        refine lv_iload_n hx hb dX1_bestMoveAt_48 rfl (lv_at hl 3 rfl) ?_
        exact endI C rfl () (by rw [show i = 4 by omega]) hS hP dX1_bestMoveAt_49
      · have c_15 := nle_f (a := 4) (b := i) (by omega) (by omega) c_15
        refine lv_aload_n hx hb dX1_bestMoveAt_18 rfl (lv_at hl 0 rfl) ?_
        refine lv_iload_n hx hb dX1_bestMoveAt_19 rfl (lv_at hl 1 rfl) ?_
        refine lv_iload_n hx hb dX1_bestMoveAt_20 rfl (lv_at hl 2 rfl) ?_
        refine lv_iload hx hb dX1_bestMoveAt_21 (lv_at hl 5 rfl) ?_
        refine aftI0 C (runV_G (As := [.int (nI f), .int (nI n), .int (nI i)]) (rest := []) (ci := 1) (N := 2) (T := TX1) (q0 := 0) C (mX1_resultAt l D G q qp qs f n i p sv (by omega) (by omega)) hS hP hD [0, 1, 2] rfl (by decide) rfl rfl (ys_X1_resultAt) kw_6_21 kw_6_22 kw_6_23 ⟨Nat.le_of_ble_eq_true rfl, Nat.le_of_ble_eq_true rfl⟩ hl.1 (Nat.le_of_ble_eq_true rfl) dX1_bestMoveAt_23 rfl rfl ⟨Nat.zero_le _, Nat.zero_le _⟩) hS hP hD [0, 1, 2] rfl (fun r23 _ H locs hp23 hP hS => ?_)
        refine ro_top (z := rV p (vat sv) f n i) hx hp23 ?_
        refine lv_istore (lv' := [(6, .int (rV p (vat sv) f n i)), (0, .ref q), (1, .int (nI f)), (2, .int (nI n)), (3, .int ((bm (rV p (vat sv) f n) i).1)), (4, .int ((bm (rV p (vat sv) f n) i).2)), (5, .int (nI i))]) hx hb dX1_bestMoveAt_26 hl (by decide) rfl (fun ls hl => ?_)
        refine lv_iload hx hb dX1_bestMoveAt_28 (lv_at hl 0 rfl) ?_
        refine lv_iload hx hb dX1_bestMoveAt_30 (lv_at hl 5 rfl) ?_
        refine lv_icmp_le (tgt := 42) hx hb dX1_bestMoveAt_32 (by decide) (fun c_32 => ?_) (fun c_32 => ?_)
        · refine lv_iinc (v := nI (i + 1)) (lv' := [(5, .int (nI (i + 1))), (6, .int (rV p (vat sv) f n i)), (0, .ref q), (1, .int (nI f)), (2, .int (nI n)), (3, .int ((bm (rV p (vat sv) f n) i).1)), (4, .int ((bm (rV p (vat sv) f n) i).2))]) hx hb dX1_bestMoveAt_42 hl (k := 6) rfl (nI_add i 1) (by decide) rfl (fun ls hl => ?_)
          refine lv_goto (tgt := 12) hx hb dX1_bestMoveAt_45 (by decide) ?_
          have e9 : bm (rV p (vat sv) f n) (i + 1) = bm (rV p (vat sv) f n) i := if_pos c_32
          exact ih12 (i + 1) (by omega) (by omega) _ _ _ hP (hD.fst rfl) hS (lv_sub hl [2, 3, 4, 5, 6, 0] (by rw [e9]; rfl))
        · refine lv_iload hx hb dX1_bestMoveAt_35 (lv_at hl 0 rfl) ?_
          refine lv_istore (lv' := [(4, .int (rV p (vat sv) f n i)), (6, .int (rV p (vat sv) f n i)), (0, .ref q), (1, .int (nI f)), (2, .int (nI n)), (3, .int ((bm (rV p (vat sv) f n) i).1)), (5, .int (nI i))]) hx hb dX1_bestMoveAt_37 hl (by decide) rfl (fun ls hl => ?_)
          refine lv_iload hx hb dX1_bestMoveAt_39 (lv_at hl 6 rfl) ?_
          refine lv_istore_n (lv' := [(3, .int (nI i)), (4, .int (rV p (vat sv) f n i)), (6, .int (rV p (vat sv) f n i)), (0, .ref q), (1, .int (nI f)), (2, .int (nI n)), (5, .int (nI i))]) hx hb dX1_bestMoveAt_41 rfl hl (by decide) rfl (fun ls hl => ?_)
          refine lv_iinc (v := nI (i + 1)) (lv' := [(5, .int (nI (i + 1))), (3, .int (nI i)), (4, .int (rV p (vat sv) f n i)), (6, .int (rV p (vat sv) f n i)), (0, .ref q), (1, .int (nI f)), (2, .int (nI n))]) hx hb dX1_bestMoveAt_42 hl (k := 6) rfl (nI_add i 1) (by decide) rfl (fun ls hl => ?_)
          refine lv_goto (tgt := 12) hx hb dX1_bestMoveAt_45 (by decide) ?_
          have e9 : bm (rV p (vat sv) f n) (i + 1) = (nI i, rV p (vat sv) f n i) := if_neg c_32
          exact ih12 (i + 1) (by omega) (by omega) _ _ _ hP (hD.fst rfl) hS (lv_sub hl [4, 5, 6, 1, 2, 0] (by rw [e9]; rfl))
  exact lp12 (4 - 0 + 1) 0 (by omega) (Nat.lt_succ_self _) _ _ _ hP (hD.fst rfl) hS (lv_sub hl [3, 4, 5, 2, 1, 0] rfl)
