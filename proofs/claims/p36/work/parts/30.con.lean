theorem ys_X0_init : YS yX0_init cX0_init 1 none 0 := ⟨kw_3_7, kw_2_15, by decide, by decide, by decide⟩
theorem ys_X1_init : YS yX1_init cX1_init 1 none 0 := ⟨kw_4_8, kw_2_0, by decide, by decide, by decide⟩
theorem ys_X2_init : YS yX2_init cX2_init 1 none 0 := ⟨kw_2_21, kw_2_11, by decide, by decide, by decide⟩
theorem ys_X3_init : YS yX3_init cX3_init 2 none 0 := ⟨kw_3_17, kw_1_16, by decide, by decide, by decide⟩
theorem ys_X4_init : YS yX4_init cX4_init 1 none 0 := ⟨kw_4_0, kw_1_20, by decide, by decide, by decide⟩
theorem ys_X5_init : YS yX5_init cX5_init 1 none 0 := ⟨kw_4_13, kw_2_4, by decide, by decide, by decide⟩
theorem ys_X6_init : YS yX6_init cX6_init 1 none 0 := ⟨kw_2_7, kw_1_12, by decide, by decide, by decide⟩
theorem ys_X7_init : YS yX7_init cX7_init 1 none 0 := ⟨kw_1_6, kw_1_2, by decide, by decide, by decide⟩
set_option maxHeartbeats 800000 in
set_option maxRecDepth 100000 in
theorem mX0_init (l : Launch) (D : va_G) (G : u_G) (q : Nat) : MtV l D G yX0_init cX0_init 1 2 2 288 [.ref q] [(q, .inr (0, [.int 0, .int 0, .int 0, .int 0, .null, .null]))] (fun (u : Nat × Nat) => True) (fun (u : Nat × Nat) => [(q, .inr (0, [.int (-999), .int 0, .int 0, .int 0, .ref u.1, .ref u.2])), (u.1, .inl (G.1, 144, .inl zf)), (u.2, .inl (G.1, 144, .inl zf))]) := by
  refine MtV.of (by decide) (Nat.le_of_ble_eq_true rfl) ?_
  intro pr e s9 m9 below meth c9 A ls C hP hD hl hin
  obtain ⟨hx, hb, hml, hown, hts, hr, hlocks, hA, hAm⟩ := id C
  have hK := hAm.1
  have hS : va_S A s9.heap s9.heap [] := va_S.rf
  have hl : lv_has ls 1 [(0, .ref q)] := hl
  refine lv_aload_n hx hb dX0_init_0 rfl (lv_at hl 0 rfl) ?_
  refine W.objInit hx hb hown (hts _ kw_3_8) (hts _ kw_1_8) (hts _ kw_1_9) rfl (by rw [hml]; exact hl.1) rfl dX0_init_1 (Nat.le_of_ble_eq_true rfl) (Nat.le_of_ble_eq_true rfl) ?_
  refine W.eq (g2 := F0 m9 4 ls []) rfl ?_
  refine lv_aload_n hx hb dX0_init_4 rfl (lv_at hl 0 rfl) ?_
  refine lv_sipush (v := (-999)) hx hb dX0_init_5 (by decide) ?_
  refine va_put (D := D) (ci := 0) (v := .int (-999)) (ty := .int) (C := RX0) (T := TX0) (N := 6) hx hb hts inlX0 tyX0 tyX0_ok nmX0 hown hK hP hD hS 0 rfl rfl 0 (by decide) (hts _ kw_3_9) (fun _ h9 => h9) rfl (by decide +kernel) rfl rfl (Nat.le_of_ble_eq_true rfl) dX0_init_8 (fun H locs hP hD hS => ?_)
  have hP : va_P D vwCl [(q, .inr (0, [.int (-999), .int 0, .int 0, .int 0, .null, .null]))] H := hP
  have hD : va_D A [(q, .inr (0, [.int (-999), .int 0, .int 0, .int 0, .null, .null]))] := hD
  refine lv_aload_n hx hb dX0_init_11 rfl (lv_at hl 0 rfl) ?_
  refine lv_iconst (v := 0) hx hb dX0_init_12 (by decide) ?_
  refine va_put (D := D) (ci := 0) (v := .int 0) (ty := .int) (C := RX0) (T := TX0) (N := 6) hx hb hts inlX0 tyX0 tyX0_ok nmX0 hown hK hP hD hS 0 rfl rfl 1 (by decide) (hts _ kw_3_10) (fun _ h9 => h9) rfl (by decide +kernel) rfl rfl (Nat.le_of_ble_eq_true rfl) dX0_init_13 (fun H locs hP hD hS => ?_)
  have hP : va_P D vwCl [(q, .inr (0, [.int (-999), .int 0, .int 0, .int 0, .null, .null]))] H := hP
  have hD : va_D A [(q, .inr (0, [.int (-999), .int 0, .int 0, .int 0, .null, .null]))] := hD
  refine lv_aload_n hx hb dX0_init_16 rfl (lv_at hl 0 rfl) ?_
  refine lv_iconst (v := 0) hx hb dX0_init_17 (by decide) ?_
  refine va_put (D := D) (ci := 0) (v := .int 0) (ty := .int) (C := RX0) (T := TX0) (N := 6) hx hb hts inlX0 tyX0 tyX0_ok nmX0 hown hK hP hD hS 0 rfl rfl 2 (by decide) (hts _ kw_3_11) (fun _ h9 => h9) rfl (by decide +kernel) rfl rfl (Nat.le_of_ble_eq_true rfl) dX0_init_18 (fun H locs hP hD hS => ?_)
  have hP : va_P D vwCl [(q, .inr (0, [.int (-999), .int 0, .int 0, .int 0, .null, .null]))] H := hP
  have hD : va_D A [(q, .inr (0, [.int (-999), .int 0, .int 0, .int 0, .null, .null]))] := hD
  refine lv_aload_n hx hb dX0_init_21 rfl (lv_at hl 0 rfl) ?_
  refine lv_iconst (v := 0) hx hb dX0_init_22 (by decide) ?_
  refine va_put (D := D) (ci := 0) (v := .int 0) (ty := .int) (C := RX0) (T := TX0) (N := 6) hx hb hts inlX0 tyX0 tyX0_ok nmX0 hown hK hP hD hS 0 rfl rfl 3 (by decide) (hts _ kw_3_12) (fun _ h9 => h9) rfl (by decide +kernel) rfl rfl (Nat.le_of_ble_eq_true rfl) dX0_init_23 (fun H locs hP hD hS => ?_)
  have hP : va_P D vwCl [(q, .inr (0, [.int (-999), .int 0, .int 0, .int 0, .null, .null]))] H := hP
  have hD : va_D A [(q, .inr (0, [.int (-999), .int 0, .int 0, .int 0, .null, .null]))] := hD
  refine lv_aload_n hx hb dX0_init_26 rfl (lv_at hl 0 rfl) ?_
  refine lv_sipush (v := 144) hx hb dX0_init_27 (by decide) ?_
  refine ro_newaI (N := 144) C hS hP hD rfl (by decide) (Nat.le_of_ble_eq_true rfl) (Nat.le_of_ble_eq_true rfl) dX0_init_30 (fun q30 H hP hD hS => ?_)
  have hP : va_P D vwCl [(q, .inr (0, [.int (-999), .int 0, .int 0, .int 0, .null, .null])), (q30, .inl (G.1, 144, .inl zf))] H := hP
  have hD : va_D A [(q, .inr (0, [.int (-999), .int 0, .int 0, .int 0, .null, .null])), (q30, .inl (G.1, 144, .inl zf))] := hD
  refine va_putF (D := D) (ci := 0) (v := .ref q30) (ty := (.array .int)) (C := RX0) (T := TX0) (N := 6) hx hb hts inlX0 tyX0 tyX0_ok nmX0 hown hK hP hD hS 0 rfl rfl 4 (by decide) (hts _ kw_3_13) (fun _ h9 => h9) rfl (hin rfl) rfl (by decide +kernel) rfl rfl (Nat.le_of_ble_eq_true rfl) dX0_init_32 (fun H locs hP hD hS => ?_)
  have hP : va_P D vwCl [(q, .inr (0, [.int (-999), .int 0, .int 0, .int 0, .ref q30, .null])), (q30, .inl (G.1, 144, .inl zf))] H := hP
  have hD : va_D A [(q, .inr (0, [.int (-999), .int 0, .int 0, .int 0, .ref q30, .null])), (q30, .inl (G.1, 144, .inl zf))] := hD
  refine lv_aload_n hx hb dX0_init_35 rfl (lv_at hl 0 rfl) ?_
  refine lv_sipush (v := 144) hx hb dX0_init_36 (by decide) ?_
  refine ro_newaI (N := 144) C hS hP hD rfl (by decide) (Nat.le_of_ble_eq_true rfl) (Nat.le_of_ble_eq_true rfl) dX0_init_39 (fun q39 H hP hD hS => ?_)
  have hP : va_P D vwCl [(q, .inr (0, [.int (-999), .int 0, .int 0, .int 0, .ref q30, .null])), (q30, .inl (G.1, 144, .inl zf)), (q39, .inl (G.1, 144, .inl zf))] H := hP
  have hD : va_D A [(q, .inr (0, [.int (-999), .int 0, .int 0, .int 0, .ref q30, .null])), (q30, .inl (G.1, 144, .inl zf)), (q39, .inl (G.1, 144, .inl zf))] := hD
  refine va_putF (D := D) (ci := 0) (v := .ref q39) (ty := (.array .int)) (C := RX0) (T := TX0) (N := 6) hx hb hts inlX0 tyX0 tyX0_ok nmX0 hown hK hP hD hS 0 rfl rfl 5 (by decide) (hts _ kw_3_14) (fun _ h9 => h9) rfl (hin rfl) rfl (by decide +kernel) rfl rfl (Nat.le_of_ble_eq_true rfl) dX0_init_41 (fun H locs hP hD hS => ?_)
  have hP : va_P D vwCl [(q, .inr (0, [.int (-999), .int 0, .int 0, .int 0, .ref q30, .ref q39])), (q30, .inl (G.1, 144, .inl zf)), (q39, .inl (G.1, 144, .inl zf))] H := hP
  have hD : va_D A [(q, .inr (0, [.int (-999), .int 0, .int 0, .int 0, .ref q30, .ref q39])), (q30, .inl (G.1, 144, .inl zf)), (q39, .inl (G.1, 144, .inl zf))] := hD
  exact endV C (q30, q39) trivial hS hP hD dX0_init_44
set_option maxHeartbeats 800000 in
set_option maxRecDepth 100000 in
theorem mX1_init (l : Launch) (D : va_G) (G : u_G) (q : Nat) : MtV l D G yX1_init cX1_init 1 2 2 156 [.ref q] [(q, .inr (1, [.null, .null]))] (fun (u : Nat × Nat) => True) (fun (u : Nat × Nat) => [(q, .inr (1, [.ref u.1, .ref u.2])), (u.1, .inl (G.1, 12, .inl zf)), (u.2, .inl (G.1, 144, .inl zf))]) := by
  refine MtV.of (by decide) (Nat.le_of_ble_eq_true rfl) ?_
  intro pr e s9 m9 below meth c9 A ls C hP hD hl hin
  obtain ⟨hx, hb, hml, hown, hts, hr, hlocks, hA, hAm⟩ := id C
  have hK := hAm.1
  have hS : va_S A s9.heap s9.heap [] := va_S.rf
  have hl : lv_has ls 1 [(0, .ref q)] := hl
  refine lv_aload_n hx hb dX1_init_0 rfl (lv_at hl 0 rfl) ?_
  refine W.objInit hx hb hown (hts _ kw_4_9) (hts _ kw_1_8) (hts _ kw_1_9) rfl (by rw [hml]; exact hl.1) rfl dX1_init_1 (Nat.le_of_ble_eq_true rfl) (Nat.le_of_ble_eq_true rfl) ?_
  refine W.eq (g2 := F0 m9 4 ls []) rfl ?_
  refine lv_aload_n hx hb dX1_init_4 rfl (lv_at hl 0 rfl) ?_
  refine lv_bipush (v := 12) hx hb dX1_init_5 (by decide) ?_
  refine ro_newaI (N := 12) C hS hP hD rfl (by decide) (Nat.le_of_ble_eq_true rfl) (Nat.le_of_ble_eq_true rfl) dX1_init_7 (fun q7 H hP hD hS => ?_)
  have hP : va_P D vwCl [(q, .inr (1, [.null, .null])), (q7, .inl (G.1, 12, .inl zf))] H := hP
  have hD : va_D A [(q, .inr (1, [.null, .null])), (q7, .inl (G.1, 12, .inl zf))] := hD
  refine va_putF (D := D) (ci := 1) (v := .ref q7) (ty := (.array .int)) (C := RX1) (T := TX1) (N := 2) hx hb hts inlX1 tyX1 tyX1_ok nmX1 hown hK hP hD hS 0 rfl rfl 0 (by decide) (hts _ kw_4_10) (fun _ h9 => h9) rfl (hin rfl) rfl (by decide +kernel) rfl rfl (Nat.le_of_ble_eq_true rfl) dX1_init_9 (fun H locs hP hD hS => ?_)
  have hP : va_P D vwCl [(q, .inr (1, [.ref q7, .null])), (q7, .inl (G.1, 12, .inl zf))] H := hP
  have hD : va_D A [(q, .inr (1, [.ref q7, .null])), (q7, .inl (G.1, 12, .inl zf))] := hD
  refine lv_aload_n hx hb dX1_init_12 rfl (lv_at hl 0 rfl) ?_
  refine lv_sipush (v := 144) hx hb dX1_init_13 (by decide) ?_
  refine ro_newaI (N := 144) C hS hP hD rfl (by decide) (Nat.le_of_ble_eq_true rfl) (Nat.le_of_ble_eq_true rfl) dX1_init_16 (fun q16 H hP hD hS => ?_)
  have hP : va_P D vwCl [(q, .inr (1, [.ref q7, .null])), (q7, .inl (G.1, 12, .inl zf)), (q16, .inl (G.1, 144, .inl zf))] H := hP
  have hD : va_D A [(q, .inr (1, [.ref q7, .null])), (q7, .inl (G.1, 12, .inl zf)), (q16, .inl (G.1, 144, .inl zf))] := hD
  refine va_putF (D := D) (ci := 1) (v := .ref q16) (ty := (.array .int)) (C := RX1) (T := TX1) (N := 2) hx hb hts inlX1 tyX1 tyX1_ok nmX1 hown hK hP hD hS 0 rfl rfl 1 (by decide) (hts _ kw_4_11) (fun _ h9 => h9) rfl (hin rfl) rfl (by decide +kernel) rfl rfl (Nat.le_of_ble_eq_true rfl) dX1_init_18 (fun H locs hP hD hS => ?_)
  have hP : va_P D vwCl [(q, .inr (1, [.ref q7, .ref q16])), (q7, .inl (G.1, 12, .inl zf)), (q16, .inl (G.1, 144, .inl zf))] H := hP
  have hD : va_D A [(q, .inr (1, [.ref q7, .ref q16])), (q7, .inl (G.1, 12, .inl zf)), (q16, .inl (G.1, 144, .inl zf))] := hD
  exact endV C (q7, q16) trivial hS hP hD dX1_init_21
set_option maxHeartbeats 800000 in
set_option maxRecDepth 100000 in
theorem mX2_init (l : Launch) (D : va_G) (G : u_G) (q : Nat) : MtV l D G yX2_init cX2_init 1 2 1 12 [.ref q] [(q, .inr (2, [.null, .int 0, .int 0, .int 0, .int 0, .int 0]))] (fun (u : Nat) => True) (fun (u : Nat) => [(q, .inr (2, [.ref u, .int 0, .int 0, .int 0, .int 0, .int 0])), (u, .inl (G.1, 12, .inl zf))]) := by
  refine MtV.of (by decide) (Nat.le_of_ble_eq_true rfl) ?_
  intro pr e s9 m9 below meth c9 A ls C hP hD hl hin
  obtain ⟨hx, hb, hml, hown, hts, hr, hlocks, hA, hAm⟩ := id C
  have hK := hAm.1
  have hS : va_S A s9.heap s9.heap [] := va_S.rf
  have hl : lv_has ls 1 [(0, .ref q)] := hl
  refine lv_aload_n hx hb dX2_init_0 rfl (lv_at hl 0 rfl) ?_
  refine W.objInit hx hb hown (hts _ kw_2_22) (hts _ kw_1_8) (hts _ kw_1_9) rfl (by rw [hml]; exact hl.1) rfl dX2_init_1 (Nat.le_of_ble_eq_true rfl) (Nat.le_of_ble_eq_true rfl) ?_
  refine W.eq (g2 := F0 m9 4 ls []) rfl ?_
  refine lv_aload_n hx hb dX2_init_4 rfl (lv_at hl 0 rfl) ?_
  refine lv_bipush (v := 12) hx hb dX2_init_5 (by decide) ?_
  refine ro_newaI (N := 12) C hS hP hD rfl (by decide) (Nat.le_of_ble_eq_true rfl) (Nat.le_of_ble_eq_true rfl) dX2_init_7 (fun q7 H hP hD hS => ?_)
  have hP : va_P D vwCl [(q, .inr (2, [.null, .int 0, .int 0, .int 0, .int 0, .int 0])), (q7, .inl (G.1, 12, .inl zf))] H := hP
  have hD : va_D A [(q, .inr (2, [.null, .int 0, .int 0, .int 0, .int 0, .int 0])), (q7, .inl (G.1, 12, .inl zf))] := hD
  refine va_putF (D := D) (ci := 2) (v := .ref q7) (ty := (.array .int)) (C := RX2) (T := TX2) (N := 6) hx hb hts inlX2 tyX2 tyX2_ok nmX2 hown hK hP hD hS 0 rfl rfl 0 (by decide) (hts _ kw_3_0) (fun _ h9 => h9) rfl (hin rfl) rfl (by decide +kernel) rfl rfl (Nat.le_of_ble_eq_true rfl) dX2_init_9 (fun H locs hP hD hS => ?_)
  have hP : va_P D vwCl [(q, .inr (2, [.ref q7, .int 0, .int 0, .int 0, .int 0, .int 0])), (q7, .inl (G.1, 12, .inl zf))] H := hP
  have hD : va_D A [(q, .inr (2, [.ref q7, .int 0, .int 0, .int 0, .int 0, .int 0])), (q7, .inl (G.1, 12, .inl zf))] := hD
  refine lv_aload_n hx hb dX2_init_12 rfl (lv_at hl 0 rfl) ?_
  refine lv_iconst (v := 0) hx hb dX2_init_13 (by decide) ?_
  refine va_put (D := D) (ci := 2) (v := .int 0) (ty := .int) (C := RX2) (T := TX2) (N := 6) hx hb hts inlX2 tyX2 tyX2_ok nmX2 hown hK hP hD hS 0 rfl rfl 1 (by decide) (hts _ kw_3_1) (fun _ h9 => h9) rfl (by decide +kernel) rfl rfl (Nat.le_of_ble_eq_true rfl) dX2_init_14 (fun H locs hP hD hS => ?_)
  have hP : va_P D vwCl [(q, .inr (2, [.ref q7, .int 0, .int 0, .int 0, .int 0, .int 0])), (q7, .inl (G.1, 12, .inl zf))] H := hP
  have hD : va_D A [(q, .inr (2, [.ref q7, .int 0, .int 0, .int 0, .int 0, .int 0])), (q7, .inl (G.1, 12, .inl zf))] := hD
  refine lv_aload_n hx hb dX2_init_17 rfl (lv_at hl 0 rfl) ?_
  refine lv_iconst (v := 0) hx hb dX2_init_18 (by decide) ?_
  refine va_put (D := D) (ci := 2) (v := .int 0) (ty := .int) (C := RX2) (T := TX2) (N := 6) hx hb hts inlX2 tyX2 tyX2_ok nmX2 hown hK hP hD hS 0 rfl rfl 2 (by decide) (hts _ kw_3_2) (fun _ h9 => h9) rfl (by decide +kernel) rfl rfl (Nat.le_of_ble_eq_true rfl) dX2_init_19 (fun H locs hP hD hS => ?_)
  have hP : va_P D vwCl [(q, .inr (2, [.ref q7, .int 0, .int 0, .int 0, .int 0, .int 0])), (q7, .inl (G.1, 12, .inl zf))] H := hP
  have hD : va_D A [(q, .inr (2, [.ref q7, .int 0, .int 0, .int 0, .int 0, .int 0])), (q7, .inl (G.1, 12, .inl zf))] := hD
  refine lv_aload_n hx hb dX2_init_22 rfl (lv_at hl 0 rfl) ?_
  refine lv_iconst (v := 0) hx hb dX2_init_23 (by decide) ?_
  refine va_put (D := D) (ci := 2) (v := .int 0) (ty := .int) (C := RX2) (T := TX2) (N := 6) hx hb hts inlX2 tyX2 tyX2_ok nmX2 hown hK hP hD hS 0 rfl rfl 3 (by decide) (hts _ kw_3_3) (fun _ h9 => h9) rfl (by decide +kernel) rfl rfl (Nat.le_of_ble_eq_true rfl) dX2_init_24 (fun H locs hP hD hS => ?_)
  have hP : va_P D vwCl [(q, .inr (2, [.ref q7, .int 0, .int 0, .int 0, .int 0, .int 0])), (q7, .inl (G.1, 12, .inl zf))] H := hP
  have hD : va_D A [(q, .inr (2, [.ref q7, .int 0, .int 0, .int 0, .int 0, .int 0])), (q7, .inl (G.1, 12, .inl zf))] := hD
  refine lv_aload_n hx hb dX2_init_27 rfl (lv_at hl 0 rfl) ?_
  refine lv_iconst (v := 0) hx hb dX2_init_28 (by decide) ?_
  refine va_put (D := D) (ci := 2) (v := .int 0) (ty := .int) (C := RX2) (T := TX2) (N := 6) hx hb hts inlX2 tyX2 tyX2_ok nmX2 hown hK hP hD hS 0 rfl rfl 4 (by decide) (hts _ kw_3_4) (fun _ h9 => h9) rfl (by decide +kernel) rfl rfl (Nat.le_of_ble_eq_true rfl) dX2_init_29 (fun H locs hP hD hS => ?_)
  have hP : va_P D vwCl [(q, .inr (2, [.ref q7, .int 0, .int 0, .int 0, .int 0, .int 0])), (q7, .inl (G.1, 12, .inl zf))] H := hP
  have hD : va_D A [(q, .inr (2, [.ref q7, .int 0, .int 0, .int 0, .int 0, .int 0])), (q7, .inl (G.1, 12, .inl zf))] := hD
  refine lv_aload_n hx hb dX2_init_32 rfl (lv_at hl 0 rfl) ?_
  refine lv_iconst (v := 0) hx hb dX2_init_33 (by decide) ?_
  refine va_put (D := D) (ci := 2) (v := .int 0) (ty := .int) (C := RX2) (T := TX2) (N := 6) hx hb hts inlX2 tyX2 tyX2_ok nmX2 hown hK hP hD hS 0 rfl rfl 5 (by decide) (hts _ kw_3_5) (fun _ h9 => h9) rfl (by decide +kernel) rfl rfl (Nat.le_of_ble_eq_true rfl) dX2_init_34 (fun H locs hP hD hS => ?_)
  have hP : va_P D vwCl [(q, .inr (2, [.ref q7, .int 0, .int 0, .int 0, .int 0, .int 0])), (q7, .inl (G.1, 12, .inl zf))] H := hP
  have hD : va_D A [(q, .inr (2, [.ref q7, .int 0, .int 0, .int 0, .int 0, .int 0])), (q7, .inl (G.1, 12, .inl zf))] := hD
  exact endV C q7 trivial hS hP hD dX2_init_37
set_option maxHeartbeats 800000 in
set_option maxRecDepth 100000 in
theorem mX4_init (l : Launch) (D : va_G) (G : u_G) (q : Nat) : MtV l D G yX4_init cX4_init 1 2 2 72 [.ref q] [(q, .inr (4, [.null, .int 0, .null, .int 0, .int 0]))] (fun (u : Nat × Nat) => True) (fun (u : Nat × Nat) => [(q, .inr (4, [.ref u.1, .int 0, .ref u.2, .int 0, .int 0])), (u.1, .inl (G.1, 60, .inl zf)), (u.2, .inl (G.1, 12, .inl zf))]) := by
  refine MtV.of (by decide) (Nat.le_of_ble_eq_true rfl) ?_
  intro pr e s9 m9 below meth c9 A ls C hP hD hl hin
  obtain ⟨hx, hb, hml, hown, hts, hr, hlocks, hA, hAm⟩ := id C
  have hK := hAm.1
  have hS : va_S A s9.heap s9.heap [] := va_S.rf
  have hl : lv_has ls 1 [(0, .ref q)] := hl
  refine lv_aload_n hx hb dX4_init_0 rfl (lv_at hl 0 rfl) ?_
  refine W.objInit hx hb hown (hts _ kw_4_1) (hts _ kw_1_8) (hts _ kw_1_9) rfl (by rw [hml]; exact hl.1) rfl dX4_init_1 (Nat.le_of_ble_eq_true rfl) (Nat.le_of_ble_eq_true rfl) ?_
  refine W.eq (g2 := F0 m9 4 ls []) rfl ?_
  refine lv_aload_n hx hb dX4_init_4 rfl (lv_at hl 0 rfl) ?_
  refine lv_bipush (v := 60) hx hb dX4_init_5 (by decide) ?_
  refine ro_newaI (N := 60) C hS hP hD rfl (by decide) (Nat.le_of_ble_eq_true rfl) (Nat.le_of_ble_eq_true rfl) dX4_init_7 (fun q7 H hP hD hS => ?_)
  have hP : va_P D vwCl [(q, .inr (4, [.null, .int 0, .null, .int 0, .int 0])), (q7, .inl (G.1, 60, .inl zf))] H := hP
  have hD : va_D A [(q, .inr (4, [.null, .int 0, .null, .int 0, .int 0])), (q7, .inl (G.1, 60, .inl zf))] := hD
  refine va_putF (D := D) (ci := 4) (v := .ref q7) (ty := (.array .int)) (C := RX4) (T := TX4) (N := 5) hx hb hts inlX4 tyX4 tyX4_ok nmX4 hown hK hP hD hS 0 rfl rfl 0 (by decide) (hts _ kw_4_2) (fun _ h9 => h9) rfl (hin rfl) rfl (by decide +kernel) rfl rfl (Nat.le_of_ble_eq_true rfl) dX4_init_9 (fun H locs hP hD hS => ?_)
  have hP : va_P D vwCl [(q, .inr (4, [.ref q7, .int 0, .null, .int 0, .int 0])), (q7, .inl (G.1, 60, .inl zf))] H := hP
  have hD : va_D A [(q, .inr (4, [.ref q7, .int 0, .null, .int 0, .int 0])), (q7, .inl (G.1, 60, .inl zf))] := hD
  refine lv_aload_n hx hb dX4_init_12 rfl (lv_at hl 0 rfl) ?_
  refine lv_iconst (v := 0) hx hb dX4_init_13 (by decide) ?_
  refine va_put (D := D) (ci := 4) (v := .int 0) (ty := .int) (C := RX4) (T := TX4) (N := 5) hx hb hts inlX4 tyX4 tyX4_ok nmX4 hown hK hP hD hS 0 rfl rfl 1 (by decide) (hts _ kw_4_3) (fun _ h9 => h9) rfl (by decide +kernel) rfl rfl (Nat.le_of_ble_eq_true rfl) dX4_init_14 (fun H locs hP hD hS => ?_)
  have hP : va_P D vwCl [(q, .inr (4, [.ref q7, .int 0, .null, .int 0, .int 0])), (q7, .inl (G.1, 60, .inl zf))] H := hP
  have hD : va_D A [(q, .inr (4, [.ref q7, .int 0, .null, .int 0, .int 0])), (q7, .inl (G.1, 60, .inl zf))] := hD
  refine lv_aload_n hx hb dX4_init_17 rfl (lv_at hl 0 rfl) ?_
  refine lv_bipush (v := 12) hx hb dX4_init_18 (by decide) ?_
  refine ro_newaI (N := 12) C hS hP hD rfl (by decide) (Nat.le_of_ble_eq_true rfl) (Nat.le_of_ble_eq_true rfl) dX4_init_20 (fun q20 H hP hD hS => ?_)
  have hP : va_P D vwCl [(q, .inr (4, [.ref q7, .int 0, .null, .int 0, .int 0])), (q7, .inl (G.1, 60, .inl zf)), (q20, .inl (G.1, 12, .inl zf))] H := hP
  have hD : va_D A [(q, .inr (4, [.ref q7, .int 0, .null, .int 0, .int 0])), (q7, .inl (G.1, 60, .inl zf)), (q20, .inl (G.1, 12, .inl zf))] := hD
  refine va_putF (D := D) (ci := 4) (v := .ref q20) (ty := (.array .int)) (C := RX4) (T := TX4) (N := 5) hx hb hts inlX4 tyX4 tyX4_ok nmX4 hown hK hP hD hS 0 rfl rfl 2 (by decide) (hts _ kw_4_4) (fun _ h9 => h9) rfl (hin rfl) rfl (by decide +kernel) rfl rfl (Nat.le_of_ble_eq_true rfl) dX4_init_22 (fun H locs hP hD hS => ?_)
  have hP : va_P D vwCl [(q, .inr (4, [.ref q7, .int 0, .ref q20, .int 0, .int 0])), (q7, .inl (G.1, 60, .inl zf)), (q20, .inl (G.1, 12, .inl zf))] H := hP
  have hD : va_D A [(q, .inr (4, [.ref q7, .int 0, .ref q20, .int 0, .int 0])), (q7, .inl (G.1, 60, .inl zf)), (q20, .inl (G.1, 12, .inl zf))] := hD
  refine lv_aload_n hx hb dX4_init_25 rfl (lv_at hl 0 rfl) ?_
  refine lv_iconst (v := 0) hx hb dX4_init_26 (by decide) ?_
  refine va_put (D := D) (ci := 4) (v := .int 0) (ty := .int) (C := RX4) (T := TX4) (N := 5) hx hb hts inlX4 tyX4 tyX4_ok nmX4 hown hK hP hD hS 0 rfl rfl 3 (by decide) (hts _ kw_4_5) (fun _ h9 => h9) rfl (by decide +kernel) rfl rfl (Nat.le_of_ble_eq_true rfl) dX4_init_27 (fun H locs hP hD hS => ?_)
  have hP : va_P D vwCl [(q, .inr (4, [.ref q7, .int 0, .ref q20, .int 0, .int 0])), (q7, .inl (G.1, 60, .inl zf)), (q20, .inl (G.1, 12, .inl zf))] H := hP
  have hD : va_D A [(q, .inr (4, [.ref q7, .int 0, .ref q20, .int 0, .int 0])), (q7, .inl (G.1, 60, .inl zf)), (q20, .inl (G.1, 12, .inl zf))] := hD
  refine lv_aload_n hx hb dX4_init_30 rfl (lv_at hl 0 rfl) ?_
  refine lv_iconst (v := 0) hx hb dX4_init_31 (by decide) ?_
  refine va_put (D := D) (ci := 4) (v := .int 0) (ty := .int) (C := RX4) (T := TX4) (N := 5) hx hb hts inlX4 tyX4 tyX4_ok nmX4 hown hK hP hD hS 0 rfl rfl 4 (by decide) (hts _ kw_4_6) (fun _ h9 => h9) rfl (by decide +kernel) rfl rfl (Nat.le_of_ble_eq_true rfl) dX4_init_32 (fun H locs hP hD hS => ?_)
  have hP : va_P D vwCl [(q, .inr (4, [.ref q7, .int 0, .ref q20, .int 0, .int 0])), (q7, .inl (G.1, 60, .inl zf)), (q20, .inl (G.1, 12, .inl zf))] H := hP
  have hD : va_D A [(q, .inr (4, [.ref q7, .int 0, .ref q20, .int 0, .int 0])), (q7, .inl (G.1, 60, .inl zf)), (q20, .inl (G.1, 12, .inl zf))] := hD
  exact endV C (q7, q20) trivial hS hP hD dX4_init_35
