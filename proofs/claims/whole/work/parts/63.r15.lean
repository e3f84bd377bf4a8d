set_option maxHeartbeats 800000 in
set_option maxRecDepth 100000 in
theorem mX8_digest (l : Launch) (D : va_G) (G : u_G) (q : Nat) (ma : Nat → Nat) (sN L : Nat) (th nd ct ht sp iw mn : Int32) (sr p : Nat → Int32) (x : Nat → Nat) (y : Nat → Int32) (M : Nat) (fl : Nat → Int32)  (hR : RowR sr x y M p) (hM : M ≤ 12) (hfn : x 13 + x 14 ≤ M) (hPR : PR p) (ho : x 18 < 24) : MtL l D G yX8_digest cX8_digest 4 7 0 0 [.ref q] [(q, .inr (8, [.ref (ma 0), .ref (ma 1), .int (nI sN), .ref (ma 2), .int (nI L), .int th, .ref (ma 3), .ref (ma 4), .ref (ma 5), .ref (ma 6), .int nd, .int ct, .int ht, .ref (ma 7), .ref (ma 8), .ref (ma 9), .ref (ma 10), .ref (ma 11), .ref (ma 12), .ref (ma 13), .ref (ma 14), .int sp, .int iw, .int mn])), (ma 0, .inl (G.1, 457, .inl sr)), (ma 3, .inl (G.1, 169, .inl fl))] (fun (r : Int64) (u : Nat → Int32) => r = dig p x y) (fun (u : Nat → Int32) => [(q, .inr (8, [.ref (ma 0), .ref (ma 1), .int (nI sN), .ref (ma 2), .int (nI L), .int (nI 0), .ref (ma 3), .ref (ma 4), .ref (ma 5), .ref (ma 6), .int nd, .int ct, .int ht, .ref (ma 7), .ref (ma 8), .ref (ma 9), .ref (ma 10), .ref (ma 11), .ref (ma 12), .ref (ma 13), .ref (ma 14), .int sp, .int iw, .int mn])), (ma 0, .inl (G.1, 457, .inl sr)), (ma 3, .inl (G.1, 169, .inl u))]) := by
  refine MtL.of (by decide) (Nat.le_of_ble_eq_true rfl) ?_
  intro pr e s9 m9 below meth c9 A ls C hP hD hl
  obtain ⟨hx, hb, hml, hown, hts, hr, hlocks, hA, hAm⟩ := id C
  have hK := hAm.1
  have hS : va_S A s9.heap s9.heap [] := va_S.rf
  have hl : lv_has ls 4 [(0, .ref q)] := hl
  refine lv_aload_n hx hb dX8_digest_0 rfl (lv_at hl 0 rfl) ?_
  refine lv_iconst (v := 0) hx hb dX8_digest_1 (by decide) ?_
  refine va_put (D := D) (ci := 8) (v := .int 0) (ty := .int) (C := RX8) (T := TX8) (N := 24) hx hb hts inlX8 tyX8 tyX8_ok nmX8 hown hK hP hD hS 0 rfl rfl 5 (by decide) (hts _ kw_11_4) (fun _ h9 => h9) rfl (by decide +kernel) rfl rfl (Nat.le_of_ble_eq_true rfl) dX8_digest_2 (fun H locs hP hD hS => ?_)
  have hP : va_P D vwCl [(q, .inr (8, [.ref (ma 0), .ref (ma 1), .int (nI sN), .ref (ma 2), .int (nI L), .int 0, .ref (ma 3), .ref (ma 4), .ref (ma 5), .ref (ma 6), .int nd, .int ct, .int ht, .ref (ma 7), .ref (ma 8), .ref (ma 9), .ref (ma 10), .ref (ma 11), .ref (ma 12), .ref (ma 13), .ref (ma 14), .int sp, .int iw, .int mn])), (ma 0, .inl (G.1, 457, .inl sr)), (ma 3, .inl (G.1, 169, .inl fl))] H := hP
  have hD : va_D A [(q, .inr (8, [.ref (ma 0), .ref (ma 1), .int (nI sN), .ref (ma 2), .int (nI L), .int 0, .ref (ma 3), .ref (ma 4), .ref (ma 5), .ref (ma 6), .int nd, .int ct, .int ht, .ref (ma 7), .ref (ma 8), .ref (ma 9), .ref (ma 10), .ref (ma 11), .ref (ma 12), .ref (ma 13), .ref (ma 14), .int sp, .int iw, .int mn])), (ma 0, .inl (G.1, 457, .inl sr)), (ma 3, .inl (G.1, 169, .inl fl))] := hD
  refine lv_aload_n hx hb dX8_digest_5 rfl (lv_at hl 0 rfl) ?_
  refine aftV C (runV_G (As := []) (rest := []) (ci := 8) (N := 24) (T := TX8) (q0 := 0) C (mX8_fills l D G q ma sN L 0 nd ct ht sp iw mn sr p M fl hR.n0 hM hR.pp hPR) hS hP hD [0, 1, 2] rfl (by decide) rfl rfl (ys_X8_fills) kw_13_23 kw_14_0 kw_14_1 ⟨Nat.le_of_ble_eq_true rfl, Nat.le_of_ble_eq_true rfl⟩ hl.1 (Nat.le_of_ble_eq_true rfl) dX8_digest_6 rfl rfl ⟨Nat.zero_le _, Nat.zero_le _⟩) hS hP hD [0, 1, 2] rfl (fun _ => rfl) (fun u6 H locs hp6 hP hD hS => ?_)
  have hP : va_P D vwCl [(q, .inr (8, [.ref (ma 0), .ref (ma 1), .int (nI sN), .ref (ma 2), .int (nI L), .int 0, .ref (ma 3), .ref (ma 4), .ref (ma 5), .ref (ma 6), .int nd, .int ct, .int ht, .ref (ma 7), .ref (ma 8), .ref (ma 9), .ref (ma 10), .ref (ma 11), .ref (ma 12), .ref (ma 13), .ref (ma 14), .int sp, .int iw, .int mn])), (ma 0, .inl (G.1, 457, .inl sr)), (ma 3, .inl (G.1, 169, .inl u6))] H := hP
  have hD : va_D A [(q, .inr (8, [.ref (ma 0), .ref (ma 1), .int (nI sN), .ref (ma 2), .int (nI L), .int 0, .ref (ma 3), .ref (ma 4), .ref (ma 5), .ref (ma 6), .int nd, .int ct, .int ht, .ref (ma 7), .ref (ma 8), .ref (ma 9), .ref (ma 10), .ref (ma 11), .ref (ma 12), .ref (ma 13), .ref (ma 14), .int sp, .int iw, .int mn])), (ma 0, .inl (G.1, 457, .inl sr)), (ma 3, .inl (G.1, 169, .inl u6))] := hD
  refine lv_ldc2 (v := 130634) hx hb hown (hts _ kw_32_11) dX8_digest_9 ?_
  refine lv_aload_n hx hb dX8_digest_12 rfl (lv_at hl 0 rfl) ?_
  refine va_get (D := D) (ci := 8) (v := .ref (ma 0)) (C := RX8) (T := TX8) (N := 24) hx hb hts inlX8 hown hK hP 0 rfl rfl 0 (by decide) (hts _ kw_5_6) (fun _ h9 => h9) rfl dX8_digest_13 ?_
  refine lv_bipush (v := 15) hx hb dX8_digest_16 (by decide) ?_
  refine ro_iald (k := 15) (v := nI (x 15)) hx hb hK hP 1 0 rfl rfl rfl (by decide) (by decide) hR.n15 dX8_digest_18 ?_
  refine lv_i2l (v := (nI (x 15)).toInt64) hx hb dX8_digest_19 rfl ?_
  refine lv_ladd hx hb dX8_digest_20 ?_
  refine ro_topL (z := mi 4214 (nI (x 15))) hx (by show (130634 : Int64) + _ = 31 * 4214 + _; rw [show (31 : Int64) * 4214 = 130634 by decide]) ?_
  refine lv_lstore_n (lv' := [(1, .long (mi 4214 (nI (x 15)))), (0, .ref q)]) hx hb dX8_digest_21 rfl hl (by decide) rfl (fun ls hl => ?_)
  refine lv_ldc2 (v := 31) hx hb hown (hts _ kw_32_12) dX8_digest_22 ?_
  refine lv_lload_n hx hb dX8_digest_25 rfl (lv_at hl 0 rfl) ?_
  refine lv_lmul hx hb dX8_digest_26 ?_
  refine lv_aload_n hx hb dX8_digest_27 rfl (lv_at hl 1 rfl) ?_
  refine va_get (D := D) (ci := 8) (v := .ref (ma 0)) (C := RX8) (T := TX8) (N := 24) hx hb hts inlX8 hown hK hP 0 rfl rfl 0 (by decide) (hts _ kw_5_6) (fun _ h9 => h9) rfl dX8_digest_28 ?_
  refine lv_bipush (v := 14) hx hb dX8_digest_31 (by decide) ?_
  refine ro_iald (k := 14) (v := nI (x 14)) hx hb hK hP 1 0 rfl rfl rfl (by decide) (by decide) hR.n14 dX8_digest_33 ?_
  refine lv_i2l (v := (nI (x 14)).toInt64) hx hb dX8_digest_34 rfl ?_
  refine lv_ladd hx hb dX8_digest_35 ?_
  refine ro_topL (z := mi (mi 4214 (nI (x 15))) (nI (x 14))) hx rfl ?_
  refine lv_lstore_n (lv' := [(1, .long (mi (mi 4214 (nI (x 15))) (nI (x 14)))), (0, .ref q)]) hx hb dX8_digest_36 rfl hl (by decide) rfl (fun ls hl => ?_)
  refine lv_ldc2 (v := 31) hx hb hown (hts _ kw_32_12) dX8_digest_37 ?_
  refine lv_lload_n hx hb dX8_digest_40 rfl (lv_at hl 0 rfl) ?_
  refine lv_lmul hx hb dX8_digest_41 ?_
  refine lv_aload_n hx hb dX8_digest_42 rfl (lv_at hl 1 rfl) ?_
  refine va_get (D := D) (ci := 8) (v := .ref (ma 0)) (C := RX8) (T := TX8) (N := 24) hx hb hts inlX8 hown hK hP 0 rfl rfl 0 (by decide) (hts _ kw_5_6) (fun _ h9 => h9) rfl dX8_digest_43 ?_
  refine lv_bipush (v := 16) hx hb dX8_digest_46 (by decide) ?_
  refine ro_iald (k := 16) (v := y 16) hx hb hK hP 1 0 rfl rfl rfl (by decide) (by decide) hR.n16 dX8_digest_48 ?_
  refine lv_i2l (v := (y 16).toInt64) hx hb dX8_digest_49 rfl ?_
  refine lv_ladd hx hb dX8_digest_50 ?_
  refine ro_topL (z := mi (mi (mi 4214 (nI (x 15))) (nI (x 14))) (y 16)) hx rfl ?_
  refine lv_lstore_n (lv' := [(1, .long (mi (mi (mi 4214 (nI (x 15))) (nI (x 14))) (y 16))), (0, .ref q)]) hx hb dX8_digest_51 rfl hl (by decide) rfl (fun ls hl => ?_)
  refine lv_ldc2 (v := 31) hx hb hown (hts _ kw_32_12) dX8_digest_52 ?_
  refine lv_lload_n hx hb dX8_digest_55 rfl (lv_at hl 0 rfl) ?_
  refine lv_lmul hx hb dX8_digest_56 ?_
  refine lv_aload_n hx hb dX8_digest_57 rfl (lv_at hl 1 rfl) ?_
  refine va_get (D := D) (ci := 8) (v := .ref (ma 0)) (C := RX8) (T := TX8) (N := 24) hx hb hts inlX8 hown hK hP 0 rfl rfl 0 (by decide) (hts _ kw_5_6) (fun _ h9 => h9) rfl dX8_digest_58 ?_
  refine lv_bipush (v := 17) hx hb dX8_digest_61 (by decide) ?_
  refine ro_iald (k := 17) (v := y 17) hx hb hK hP 1 0 rfl rfl rfl (by decide) (by decide) hR.n17 dX8_digest_63 ?_
  refine lv_i2l (v := (y 17).toInt64) hx hb dX8_digest_64 rfl ?_
  refine lv_ladd hx hb dX8_digest_65 ?_
  refine ro_topL (z := mi (mi (mi (mi 4214 (nI (x 15))) (nI (x 14))) (y 16)) (y 17)) hx rfl ?_
  refine lv_lstore_n (lv' := [(1, .long (mi (mi (mi (mi 4214 (nI (x 15))) (nI (x 14))) (y 16)) (y 17))), (0, .ref q)]) hx hb dX8_digest_66 rfl hl (by decide) rfl (fun ls hl => ?_)
  refine lv_ldc2 (v := 31) hx hb hown (hts _ kw_32_12) dX8_digest_67 ?_
  refine lv_lload_n hx hb dX8_digest_70 rfl (lv_at hl 0 rfl) ?_
  refine lv_lmul hx hb dX8_digest_71 ?_
  refine lv_aload_n hx hb dX8_digest_72 rfl (lv_at hl 1 rfl) ?_
  refine va_get (D := D) (ci := 8) (v := .ref (ma 3)) (C := RX8) (T := TX8) (N := 24) hx hb hts inlX8 hown hK hP 0 rfl rfl 6 (by decide) (hts _ kw_5_9) (fun _ h9 => h9) rfl dX8_digest_73 ?_
  refine lv_aload_n hx hb dX8_digest_76 rfl (lv_at hl 1 rfl) ?_
  refine va_get (D := D) (ci := 8) (v := .ref (ma 0)) (C := RX8) (T := TX8) (N := 24) hx hb hts inlX8 hown hK hP 0 rfl rfl 0 (by decide) (hts _ kw_5_6) (fun _ h9 => h9) rfl dX8_digest_77 ?_
  refine lv_bipush (v := 13) hx hb dX8_digest_80 (by decide) ?_
  refine ro_iald (k := 13) (v := nI (x 13)) hx hb hK hP 1 0 rfl rfl rfl (by decide) (by decide) hR.n13 dX8_digest_82 ?_
  refine lv_aload_n hx hb dX8_digest_83 rfl (lv_at hl 1 rfl) ?_
  refine va_get (D := D) (ci := 8) (v := .ref (ma 0)) (C := RX8) (T := TX8) (N := 24) hx hb hts inlX8 hown hK hP 0 rfl rfl 0 (by decide) (hts _ kw_5_6) (fun _ h9 => h9) rfl dX8_digest_84 ?_
  refine lv_bipush (v := 14) hx hb dX8_digest_87 (by decide) ?_
  refine ro_iald (k := 14) (v := nI (x 14)) hx hb hK hP 1 0 rfl rfl rfl (by decide) (by decide) hR.n14 dX8_digest_89 ?_
  refine aftI0 C (runS_G (As := [.int (nI (x 13)), .int (nI (x 14))]) (rest := [.ref (ma 3), .long (31 * (mi (mi (mi (mi 4214 (nI (x 15))) (nI (x 14))) (y 16)) (y 17)))]) C (mX8_place l D G (x 13) (x 14) ) hS hP hD [] rfl (by decide) (ys_X8_place) kw_14_3 kw_14_4 ⟨Nat.le_of_ble_eq_true rfl, Nat.le_of_ble_eq_true rfl⟩ hl.1 (Nat.le_of_ble_eq_true rfl) dX8_digest_90 rfl rfl ⟨Nat.zero_le _, Nat.zero_le _⟩) hS hP hD [] rfl (fun r90 _ H locs hp90 hP hS => ?_)
  refine ro_top (z := nI (13 * (x 13) + (x 14))) hx hp90 ?_
  refine ro_iald (k := 13 * (x 13) + (x 14)) (v := V p (x 14) (x 13)) hx hb hK hP 2 0 rfl rfl rfl (by omega) (by decide) (hp6 (x 14) (x 13) hfn) dX8_digest_93 ?_
  refine lv_i2l (v := (V p (x 14) (x 13)).toInt64) hx hb dX8_digest_94 rfl ?_
  refine lv_ladd hx hb dX8_digest_95 ?_
  refine ro_topL (z := mi (mi (mi (mi (mi 4214 (nI (x 15))) (nI (x 14))) (y 16)) (y 17)) (V p (x 14) (x 13))) hx rfl ?_
  refine lv_lstore_n (lv' := [(1, .long (mi (mi (mi (mi (mi 4214 (nI (x 15))) (nI (x 14))) (y 16)) (y 17)) (V p (x 14) (x 13)))), (0, .ref q)]) hx hb dX8_digest_96 rfl hl (by decide) rfl (fun ls hl => ?_)
  refine lv_ldc2 (v := 31) hx hb hown (hts _ kw_32_12) dX8_digest_97 ?_
  refine lv_lload_n hx hb dX8_digest_100 rfl (lv_at hl 0 rfl) ?_
  refine lv_lmul hx hb dX8_digest_101 ?_
  refine lv_aload_n hx hb dX8_digest_102 rfl (lv_at hl 1 rfl) ?_
  refine aftI0 C (runV_G (As := []) (rest := [.long (31 * (mi (mi (mi (mi (mi 4214 (nI (x 15))) (nI (x 14))) (y 16)) (y 17)) (V p (x 14) (x 13))))]) (ci := 8) (N := 24) (T := TX8) (q0 := 0) C (mX8_marginNow l D G q ma sN L 0 nd ct ht sp iw mn sr p x y M u6 hR hM hfn hPR hp6) hS hP hD [0, 1, 2] rfl (by decide) rfl rfl (ys_X8_marginNow) kw_18_16 kw_18_17 kw_18_18 ⟨Nat.le_of_ble_eq_true rfl, Nat.le_of_ble_eq_true rfl⟩ hl.1 (Nat.le_of_ble_eq_true rfl) dX8_digest_103 rfl rfl ⟨Nat.zero_le _, Nat.zero_le _⟩) hS hP hD [0, 1, 2] rfl (fun r103 _ H locs hp103 hP hS => ?_)
  refine ro_top (z := mgA p (x 13) (x 14)) hx hp103 ?_
  refine lv_i2l (v := (mgA p (x 13) (x 14)).toInt64) hx hb dX8_digest_106 rfl ?_
  refine lv_ladd hx hb dX8_digest_107 ?_
  refine ro_topL (z := mi (mi (mi (mi (mi (mi 4214 (nI (x 15))) (nI (x 14))) (y 16)) (y 17)) (V p (x 14) (x 13))) (mgA p (x 13) (x 14))) hx rfl ?_
  refine lv_lstore_n (lv' := [(1, .long (mi (mi (mi (mi (mi (mi 4214 (nI (x 15))) (nI (x 14))) (y 16)) (y 17)) (V p (x 14) (x 13))) (mgA p (x 13) (x 14)))), (0, .ref q)]) hx hb dX8_digest_108 rfl hl (by decide) rfl (fun ls hl => ?_)
  refine lv_ldc2 (v := 31) hx hb hown (hts _ kw_32_12) dX8_digest_109 ?_
  refine lv_lload_n hx hb dX8_digest_112 rfl (lv_at hl 0 rfl) ?_
  refine lv_lmul hx hb dX8_digest_113 ?_
  refine lv_aload_n hx hb dX8_digest_114 rfl (lv_at hl 1 rfl) ?_
  refine va_get (D := D) (ci := 8) (v := .ref (ma 0)) (C := RX8) (T := TX8) (N := 24) hx hb hts inlX8 hown hK hP 0 rfl rfl 0 (by decide) (hts _ kw_5_6) (fun _ h9 => h9) rfl dX8_digest_115 ?_
  refine lv_bipush (v := 21) hx hb dX8_digest_118 (by decide) ?_
  refine ro_iald (k := 21) (v := y 21) hx hb hK hP 1 0 rfl rfl rfl (by decide) (by decide) hR.n21 dX8_digest_120 ?_
  refine lv_i2l (v := (y 21).toInt64) hx hb dX8_digest_121 rfl ?_
  refine lv_ladd hx hb dX8_digest_122 ?_
  refine ro_topL (z := mi (mi (mi (mi (mi (mi (mi 4214 (nI (x 15))) (nI (x 14))) (y 16)) (y 17)) (V p (x 14) (x 13))) (mgA p (x 13) (x 14))) (y 21)) hx rfl ?_
  refine lv_lstore_n (lv' := [(1, .long (mi (mi (mi (mi (mi (mi (mi 4214 (nI (x 15))) (nI (x 14))) (y 16)) (y 17)) (V p (x 14) (x 13))) (mgA p (x 13) (x 14))) (y 21))), (0, .ref q)]) hx hb dX8_digest_123 rfl hl (by decide) rfl (fun ls hl => ?_)
  refine lv_ldc2 (v := 31) hx hb hown (hts _ kw_32_12) dX8_digest_124 ?_
  refine lv_lload_n hx hb dX8_digest_127 rfl (lv_at hl 0 rfl) ?_
  refine lv_lmul hx hb dX8_digest_128 ?_
  refine lv_aload_n hx hb dX8_digest_129 rfl (lv_at hl 1 rfl) ?_
  refine va_get (D := D) (ci := 8) (v := .ref (ma 0)) (C := RX8) (T := TX8) (N := 24) hx hb hts inlX8 hown hK hP 0 rfl rfl 0 (by decide) (hts _ kw_5_6) (fun _ h9 => h9) rfl dX8_digest_130 ?_
  refine lv_bipush (v := 22) hx hb dX8_digest_133 (by decide) ?_
  refine ro_iald (k := 22) (v := nI (x 22)) hx hb hK hP 1 0 rfl rfl rfl (by decide) (by decide) hR.n22 dX8_digest_135 ?_
  refine lv_i2l (v := (nI (x 22)).toInt64) hx hb dX8_digest_136 rfl ?_
  refine lv_ladd hx hb dX8_digest_137 ?_
  refine ro_topL (z := mi (mi (mi (mi (mi (mi (mi (mi 4214 (nI (x 15))) (nI (x 14))) (y 16)) (y 17)) (V p (x 14) (x 13))) (mgA p (x 13) (x 14))) (y 21)) (nI (x 22))) hx rfl ?_
  refine lv_lstore_n (lv' := [(1, .long (mi (mi (mi (mi (mi (mi (mi (mi 4214 (nI (x 15))) (nI (x 14))) (y 16)) (y 17)) (V p (x 14) (x 13))) (mgA p (x 13) (x 14))) (y 21)) (nI (x 22)))), (0, .ref q)]) hx hb dX8_digest_138 rfl hl (by decide) rfl (fun ls hl => ?_)
  refine lv_ldc2 (v := 31) hx hb hown (hts _ kw_32_12) dX8_digest_139 ?_
  refine lv_lload_n hx hb dX8_digest_142 rfl (lv_at hl 0 rfl) ?_
  refine lv_lmul hx hb dX8_digest_143 ?_
  refine lv_aload_n hx hb dX8_digest_144 rfl (lv_at hl 1 rfl) ?_
  refine va_get (D := D) (ci := 8) (v := .ref (ma 0)) (C := RX8) (T := TX8) (N := 24) hx hb hts inlX8 hown hK hP 0 rfl rfl 0 (by decide) (hts _ kw_5_6) (fun _ h9 => h9) rfl dX8_digest_145 ?_
  refine lv_bipush (v := 23) hx hb dX8_digest_148 (by decide) ?_
  refine ro_iald (k := 23) (v := y 23) hx hb hK hP 1 0 rfl rfl rfl (by decide) (by decide) hR.n23 dX8_digest_150 ?_
  refine lv_i2l (v := (y 23).toInt64) hx hb dX8_digest_151 rfl ?_
  refine lv_ladd hx hb dX8_digest_152 ?_
  refine ro_topL (z := mi (mi (mi (mi (mi (mi (mi (mi (mi 4214 (nI (x 15))) (nI (x 14))) (y 16)) (y 17)) (V p (x 14) (x 13))) (mgA p (x 13) (x 14))) (y 21)) (nI (x 22))) (y 23)) hx rfl ?_
  refine lv_lstore_n (lv' := [(1, .long (mi (mi (mi (mi (mi (mi (mi (mi (mi 4214 (nI (x 15))) (nI (x 14))) (y 16)) (y 17)) (V p (x 14) (x 13))) (mgA p (x 13) (x 14))) (y 21)) (nI (x 22))) (y 23))), (0, .ref q)]) hx hb dX8_digest_153 rfl hl (by decide) rfl (fun ls hl => ?_)
  refine lv_ldc2 (v := 31) hx hb hown (hts _ kw_32_12) dX8_digest_154 ?_
  refine lv_lload_n hx hb dX8_digest_157 rfl (lv_at hl 0 rfl) ?_
  refine lv_lmul hx hb dX8_digest_158 ?_
  refine lv_aload_n hx hb dX8_digest_159 rfl (lv_at hl 1 rfl) ?_
  refine va_get (D := D) (ci := 8) (v := .ref (ma 0)) (C := RX8) (T := TX8) (N := 24) hx hb hts inlX8 hown hK hP 0 rfl rfl 0 (by decide) (hts _ kw_5_6) (fun _ h9 => h9) rfl dX8_digest_160 ?_
  refine lv_bipush (v := 24) hx hb dX8_digest_163 (by decide) ?_
  refine ro_iald (k := 24) (v := y 24) hx hb hK hP 1 0 rfl rfl rfl (by decide) (by decide) hR.n24 dX8_digest_165 ?_
  refine lv_i2l (v := (y 24).toInt64) hx hb dX8_digest_166 rfl ?_
  refine lv_ladd hx hb dX8_digest_167 ?_
  refine ro_topL (z := mi (mi (mi (mi (mi (mi (mi (mi (mi (mi 4214 (nI (x 15))) (nI (x 14))) (y 16)) (y 17)) (V p (x 14) (x 13))) (mgA p (x 13) (x 14))) (y 21)) (nI (x 22))) (y 23)) (y 24)) hx rfl ?_
  refine lv_lstore_n (lv' := [(1, .long (mi (mi (mi (mi (mi (mi (mi (mi (mi (mi 4214 (nI (x 15))) (nI (x 14))) (y 16)) (y 17)) (V p (x 14) (x 13))) (mgA p (x 13) (x 14))) (y 21)) (nI (x 22))) (y 23)) (y 24))), (0, .ref q)]) hx hb dX8_digest_168 rfl hl (by decide) rfl (fun ls hl => ?_)
  refine lv_ldc2 (v := 31) hx hb hown (hts _ kw_32_12) dX8_digest_169 ?_
  refine lv_lload_n hx hb dX8_digest_172 rfl (lv_at hl 0 rfl) ?_
  refine lv_lmul hx hb dX8_digest_173 ?_
  refine lv_aload_n hx hb dX8_digest_174 rfl (lv_at hl 1 rfl) ?_
  refine aftI0 C (runV_G (As := []) (rest := [.long (31 * (mi (mi (mi (mi (mi (mi (mi (mi (mi (mi 4214 (nI (x 15))) (nI (x 14))) (y 16)) (y 17)) (V p (x 14) (x 13))) (mgA p (x 13) (x 14))) (y 21)) (nI (x 22))) (y 23)) (y 24)))]) (ci := 8) (N := 24) (T := TX8) (q0 := 0) C (mX8_filled l D G q ma sN L 0 nd ct ht sp iw mn sr p x y M hR hM) hS hP hD [0, 1] rfl (by decide) rfl rfl (ys_X8_filled) kw_24_2 kw_24_3 kw_24_4 ⟨Nat.le_of_ble_eq_true rfl, Nat.le_of_ble_eq_true rfl⟩ hl.1 (Nat.le_of_ble_eq_true rfl) dX8_digest_175 rfl rfl ⟨Nat.zero_le _, Nat.zero_le _⟩) hS hP hD [0, 1] rfl (fun r175 _ H locs hp175 hP hS => ?_)
  refine ro_top (z := nI (enN (kdY y) 144)) hx hp175 ?_
  refine lv_i2l (v := (nI (enN (kdY y) 144)).toInt64) hx hb dX8_digest_178 rfl ?_
  refine lv_ladd hx hb dX8_digest_179 ?_
  refine ro_topL (z := mi (mi (mi (mi (mi (mi (mi (mi (mi (mi (mi 4214 (nI (x 15))) (nI (x 14))) (y 16)) (y 17)) (V p (x 14) (x 13))) (mgA p (x 13) (x 14))) (y 21)) (nI (x 22))) (y 23)) (y 24)) (nI (enN (kdY y) 144))) hx rfl ?_
  obtain ⟨H0, hH0⟩ : ∃ z : Int64, z = mi (mi (mi (mi (mi (mi (mi (mi (mi (mi (mi 4214 (nI (x 15))) (nI (x 14))) (y 16)) (y 17)) (V p (x 14) (x 13))) (mgA p (x 13) (x 14))) (y 21)) (nI (x 22))) (y 23)) (y 24)) (nI (enN (kdY y) 144)) := ⟨_, rfl⟩
  refine ro_topL (z := H0) hx hH0.symm ?_
  refine lv_lstore_n (lv' := [(1, .long H0), (0, .ref q)]) hx hb dX8_digest_180 rfl hl (by decide) rfl (fun ls hl => ?_)
  refine lv_iconst (v := 0) hx hb dX8_digest_181 (by decide) ?_
  refine lv_istore_n (lv' := [(3, .int 0), (1, .long H0), (0, .ref q)]) hx hb dX8_digest_182 rfl hl (by decide) rfl (fun ls hl => ?_)
  have lp183 : ∀ (n183 : Nat) (i : Nat) (hi : i ≤ x 14) (_ : x 14 - i < n183) (H : Heap) (locs : List Loc) (ls : Array Slot), va_P D vwCl [(q, .inr (8, [.ref (ma 0), .ref (ma 1), .int (nI sN), .ref (ma 2), .int (nI L), .int 0, .ref (ma 3), .ref (ma 4), .ref (ma 5), .ref (ma 6), .int nd, .int ct, .int ht, .ref (ma 7), .ref (ma 8), .ref (ma 9), .ref (ma 10), .ref (ma 11), .ref (ma 12), .ref (ma 13), .ref (ma 14), .int sp, .int iw, .int mn])), (ma 0, .inl (G.1, 457, .inl sr)), (ma 3, .inl (G.1, 169, .inl u6))] H → va_D A [(q, .inr (8, [.ref (ma 0), .ref (ma 1), .int (nI sN), .ref (ma 2), .int (nI L), .int 0, .ref (ma 3), .ref (ma 4), .ref (ma 5), .ref (ma 6), .int nd, .int ct, .int ht, .ref (ma 7), .ref (ma 8), .ref (ma 9), .ref (ma 10), .ref (ma 11), .ref (ma 12), .ref (ma 13), .ref (ma 14), .int sp, .int iw, .int mn])), (ma 0, .inl (G.1, 457, .inl sr)), (ma 3, .inl (G.1, 169, .inl u6))] → va_S A s9.heap H locs → lv_has ls 4 [(0, .ref q), (1, .long (mpl p (x 13) H0 i)), (3, .int (nI i))] → W pr l e (rmG 7 0 0) s9 m9 (List.toArray [.ref q]) below meth c9 H locs 0 0 (MQ below (va_Ql (fun (r : Int64) (u : Nat → Int32) => r = dig p x y) (fun u9 t9 => WB D ((fun (u : Nat → Int32) => [(q, .inr (8, [.ref (ma 0), .ref (ma 1), .int (nI sN), .ref (ma 2), .int (nI L), .int (nI 0), .ref (ma 3), .ref (ma 4), .ref (ma 5), .ref (ma 6), .int nd, .int ct, .int ht, .ref (ma 7), .ref (ma 8), .ref (ma 9), .ref (ma 10), .ref (ma 11), .ref (ma 12), .ref (ma 13), .ref (ma 14), .int sp, .int iw, .int mn])), (ma 0, .inl (G.1, 457, .inl sr)), (ma 3, .inl (G.1, 169, .inl u))]) u9) t9) A) (List.toArray [.ref q]) s9 0 0 A) (F0 m9 183 ls []) := by
    intro n183
    induction n183 with
    | zero => intro i hi hm; exact absurd hm (Nat.not_lt_zero _)
    | succ n183 ih183 =>
      intro i hi hm H locs ls hP hD hS hl
      refine lv_iload_n hx hb dX8_digest_183 rfl (lv_at hl 2 rfl) ?_
      refine lv_aload_n hx hb dX8_digest_184 rfl (lv_at hl 0 rfl) ?_
      refine va_get (D := D) (ci := 8) (v := .ref (ma 0)) (C := RX8) (T := TX8) (N := 24) hx hb hts inlX8 hown hK hP 0 rfl rfl 0 (by decide) (hts _ kw_5_6) (fun _ h9 => h9) rfl dX8_digest_185 ?_
      refine lv_bipush (v := 14) hx hb dX8_digest_188 (by decide) ?_
      refine ro_iald (k := 14) (v := nI (x 14)) hx hb hK hP 1 0 rfl rfl rfl (by decide) (by decide) hR.n14 dX8_digest_190 ?_
      refine lv_icmp_ge (tgt := 224) hx hb dX8_digest_191 (by decide) (fun c_191 => ?_) (fun c_191 => ?_)
      · have c_191 := nle_t (a := x 14) (b := i) (by omega) (by omega) c_191
        refine lv_iconst (v := 0) hx hb dX8_digest_224 (by decide) ?_
        refine lv_istore_n (lv' := [(3, .int 0), (0, .ref q), (1, .long (mpl p (x 13) H0 i))]) hx hb dX8_digest_225 rfl hl (by decide) rfl (fun ls hl => ?_)
        have lp226 : ∀ (n226 : Nat) (k : Nat) (F9 : Nat) (N9 : Nat) (hk : k ≤ 12) (hF : lpos p (x 13) (x 14) k = (F9, N9)) (_ : 13 - k < n226) (H : Heap) (locs : List Loc) (ls : Array Slot), va_P D vwCl [(q, .inr (8, [.ref (ma 0), .ref (ma 1), .int (nI sN), .ref (ma 2), .int (nI L), .int 0, .ref (ma 3), .ref (ma 4), .ref (ma 5), .ref (ma 6), .int nd, .int ct, .int ht, .ref (ma 7), .ref (ma 8), .ref (ma 9), .ref (ma 10), .ref (ma 11), .ref (ma 12), .ref (ma 13), .ref (ma 14), .int sp, .int iw, .int mn])), (ma 0, .inl (G.1, 457, .inl sr)), (ma 3, .inl (G.1, 169, .inl u6))] H → va_D A [(q, .inr (8, [.ref (ma 0), .ref (ma 1), .int (nI sN), .ref (ma 2), .int (nI L), .int 0, .ref (ma 3), .ref (ma 4), .ref (ma 5), .ref (ma 6), .int nd, .int ct, .int ht, .ref (ma 7), .ref (ma 8), .ref (ma 9), .ref (ma 10), .ref (ma 11), .ref (ma 12), .ref (ma 13), .ref (ma 14), .int sp, .int iw, .int mn])), (ma 0, .inl (G.1, 457, .inl sr)), (ma 3, .inl (G.1, 169, .inl u6))] → va_S A s9.heap H locs → lv_has ls 4 [(0, .ref q), (1, .long (mln p (x 13) (x 14) (mpl p (x 13) H0 (x 14)) k)), (3, .int (nI k))] → W pr l e (rmG 7 0 0) s9 m9 (List.toArray [.ref q]) below meth c9 H locs 0 0 (MQ below (va_Ql (fun (r : Int64) (u : Nat → Int32) => r = dig p x y) (fun u9 t9 => WB D ((fun (u : Nat → Int32) => [(q, .inr (8, [.ref (ma 0), .ref (ma 1), .int (nI sN), .ref (ma 2), .int (nI L), .int (nI 0), .ref (ma 3), .ref (ma 4), .ref (ma 5), .ref (ma 6), .int nd, .int ct, .int ht, .ref (ma 7), .ref (ma 8), .ref (ma 9), .ref (ma 10), .ref (ma 11), .ref (ma 12), .ref (ma 13), .ref (ma 14), .int sp, .int iw, .int mn])), (ma 0, .inl (G.1, 457, .inl sr)), (ma 3, .inl (G.1, 169, .inl u))]) u9) t9) A) (List.toArray [.ref q]) s9 0 0 A) (F0 m9 226 ls []) := by
          intro n226
          induction n226 with
          | zero => intro k F9 N9 hk hF hm; exact absurd hm (Nat.not_lt_zero _)
          | succ n226 ih226 =>
            intro k F9 N9 hk hF hm H locs ls hP hD hS hl
            have hlp := lpos_in' hPR (show x 13 + x 14 ≤ 12 by omega) hF
            refine lv_aload_n hx hb dX8_digest_226 rfl (lv_at hl 0 rfl) ?_
            refine lv_iload_n hx hb dX8_digest_227 rfl (lv_at hl 2 rfl) ?_
            refine aftI0 C (runV_G (As := [.int (nI k)]) (rest := []) (ci := 8) (N := 24) (T := TX8) (q0 := 0) C (mX8_lineAt l D G q ma sN L 0 nd ct ht sp iw mn sr p x y M u6 k hR hM hfn hPR hp6 (by omega)) hS hP hD [0, 1, 2] rfl (by decide) rfl rfl (ys_X8_lineAt) kw_17_23 kw_18_0 kw_18_1 ⟨Nat.le_of_ble_eq_true rfl, Nat.le_of_ble_eq_true rfl⟩ hl.1 (Nat.le_of_ble_eq_true rfl) dX8_digest_228 rfl rfl ⟨Nat.zero_le _, Nat.zero_le _⟩) hS hP hD [0, 1, 2] rfl (fun r228 _ H locs hp228 hP hS => ?_)
            refine ro_top (z := lnA p (x 13) (x 14) k) hx hp228 ?_
            refine lv_sipush (v := (-999)) hx hb dX8_digest_231 (by decide) ?_
            refine lv_icmp_eq (tgt := 256) hx hb dX8_digest_234 (by decide) (fun c_234 => ?_) (fun c_234 => ?_)
            · have hN9 : N9 = 0 := by
                rcases Nat.eq_zero_or_pos N9 with z | z
                · exact z
                · rw [lnA_f (by rw [hF]; show ¬ N9 = 0; omega), hF] at c_234
                  exact absurd c_234 (nI_n999 (Nat.lt_trans (bN_spec hPR (f := F9) (n := N9) z (by omega)).1 (by decide)))
              have e12 : mln p (x 13) (x 14) (mpl p (x 13) H0 (x 14)) 12 = mln p (x 13) (x 14) (mpl p (x 13) H0 (x 14)) k := by
                obtain ⟨w9, hw9⟩ : ∃ w9, 12 = k + w9 := ⟨12 - k, by omega⟩
                rw [hw9, mln_end (by rw [hF]; exact hN9)]
              refine lv_iconst (v := 0) hx hb dX8_digest_256 (by decide) ?_
              refine lv_istore_n (lv' := [(3, .int 0), (0, .ref q), (1, .long (mln p (x 13) (x 14) (mpl p (x 13) H0 (x 14)) k))]) hx hb dX8_digest_257 rfl hl (by decide) rfl (fun ls hl => ?_)
              have lp258 : ∀ (n258 : Nat) (j : Nat) (hj : j ≤ 4) (_ : 4 - j < n258) (H : Heap) (locs : List Loc) (ls : Array Slot), va_P D vwCl [(q, .inr (8, [.ref (ma 0), .ref (ma 1), .int (nI sN), .ref (ma 2), .int (nI L), .int 0, .ref (ma 3), .ref (ma 4), .ref (ma 5), .ref (ma 6), .int nd, .int ct, .int ht, .ref (ma 7), .ref (ma 8), .ref (ma 9), .ref (ma 10), .ref (ma 11), .ref (ma 12), .ref (ma 13), .ref (ma 14), .int sp, .int iw, .int mn])), (ma 0, .inl (G.1, 457, .inl sr)), (ma 3, .inl (G.1, 169, .inl u6))] H → va_D A [(q, .inr (8, [.ref (ma 0), .ref (ma 1), .int (nI sN), .ref (ma 2), .int (nI L), .int 0, .ref (ma 3), .ref (ma 4), .ref (ma 5), .ref (ma 6), .int nd, .int ct, .int ht, .ref (ma 7), .ref (ma 8), .ref (ma 9), .ref (ma 10), .ref (ma 11), .ref (ma 12), .ref (ma 13), .ref (ma 14), .int sp, .int iw, .int mn])), (ma 0, .inl (G.1, 457, .inl sr)), (ma 3, .inl (G.1, 169, .inl u6))] → va_S A s9.heap H locs → lv_has ls 4 [(0, .ref q), (1, .long (mor (x 18) (mln p (x 13) (x 14) (mpl p (x 13) H0 (x 14)) 12) j)), (3, .int (nI j))] → W pr l e (rmG 7 0 0) s9 m9 (List.toArray [.ref q]) below meth c9 H locs 0 0 (MQ below (va_Ql (fun (r : Int64) (u : Nat → Int32) => r = dig p x y) (fun u9 t9 => WB D ((fun (u : Nat → Int32) => [(q, .inr (8, [.ref (ma 0), .ref (ma 1), .int (nI sN), .ref (ma 2), .int (nI L), .int (nI 0), .ref (ma 3), .ref (ma 4), .ref (ma 5), .ref (ma 6), .int nd, .int ct, .int ht, .ref (ma 7), .ref (ma 8), .ref (ma 9), .ref (ma 10), .ref (ma 11), .ref (ma 12), .ref (ma 13), .ref (ma 14), .int sp, .int iw, .int mn])), (ma 0, .inl (G.1, 457, .inl sr)), (ma 3, .inl (G.1, 169, .inl u))]) u9) t9) A) (List.toArray [.ref q]) s9 0 0 A) (F0 m9 258 ls []) := by
                intro n258
                induction n258 with
                | zero => intro j hj hm; exact absurd hm (Nat.not_lt_zero _)
                | succ n258 ih258 =>
                  intro j hj hm H locs ls hP hD hS hl
                  refine lv_iload_n hx hb dX8_digest_258 rfl (lv_at hl 2 rfl) ?_
                  refine lv_iconst (v := 4) hx hb dX8_digest_259 (by decide) ?_
                  refine lv_icmp_ge (tgt := 288) hx hb dX8_digest_260 (by decide) (fun c_260 => ?_) (fun c_260 => ?_)
                  · have c_260 := nle_t (a := 4) (b := j) (by omega) (by omega) c_260
                    refine lv_iconst (v := 0) hx hb dX8_digest_288 (by decide) ?_
                    refine lv_istore_n (lv' := [(3, .int 0), (0, .ref q), (1, .long (mor (x 18) (mln p (x 13) (x 14) (mpl p (x 13) H0 (x 14)) 12) j))]) hx hb dX8_digest_289 rfl hl (by decide) rfl (fun ls hl => ?_)
                    have lp290 : ∀ (n290 : Nat) (g : Nat) (hg : g ≤ 144) (_ : 144 - g < n290) (H : Heap) (locs : List Loc) (ls : Array Slot), va_P D vwCl [(q, .inr (8, [.ref (ma 0), .ref (ma 1), .int (nI sN), .ref (ma 2), .int (nI L), .int 0, .ref (ma 3), .ref (ma 4), .ref (ma 5), .ref (ma 6), .int nd, .int ct, .int ht, .ref (ma 7), .ref (ma 8), .ref (ma 9), .ref (ma 10), .ref (ma 11), .ref (ma 12), .ref (ma 13), .ref (ma 14), .int sp, .int iw, .int mn])), (ma 0, .inl (G.1, 457, .inl sr)), (ma 3, .inl (G.1, 169, .inl u6))] H → va_D A [(q, .inr (8, [.ref (ma 0), .ref (ma 1), .int (nI sN), .ref (ma 2), .int (nI L), .int 0, .ref (ma 3), .ref (ma 4), .ref (ma 5), .ref (ma 6), .int nd, .int ct, .int ht, .ref (ma 7), .ref (ma 8), .ref (ma 9), .ref (ma 10), .ref (ma 11), .ref (ma 12), .ref (ma 13), .ref (ma 14), .int sp, .int iw, .int mn])), (ma 0, .inl (G.1, 457, .inl sr)), (ma 3, .inl (G.1, 169, .inl u6))] → va_S A s9.heap H locs → lv_has ls 4 [(0, .ref q), (1, .long (mtb (kdY y) (vlY y) (mor (x 18) (mln p (x 13) (x 14) (mpl p (x 13) H0 (x 14)) 12) 4) g)), (3, .int (nI g))] → W pr l e (rmG 7 0 0) s9 m9 (List.toArray [.ref q]) below meth c9 H locs 0 0 (MQ below (va_Ql (fun (r : Int64) (u : Nat → Int32) => r = dig p x y) (fun u9 t9 => WB D ((fun (u : Nat → Int32) => [(q, .inr (8, [.ref (ma 0), .ref (ma 1), .int (nI sN), .ref (ma 2), .int (nI L), .int (nI 0), .ref (ma 3), .ref (ma 4), .ref (ma 5), .ref (ma 6), .int nd, .int ct, .int ht, .ref (ma 7), .ref (ma 8), .ref (ma 9), .ref (ma 10), .ref (ma 11), .ref (ma 12), .ref (ma 13), .ref (ma 14), .int sp, .int iw, .int mn])), (ma 0, .inl (G.1, 457, .inl sr)), (ma 3, .inl (G.1, 169, .inl u))]) u9) t9) A) (List.toArray [.ref q]) s9 0 0 A) (F0 m9 290 ls []) := by
                      intro n290
                      induction n290 with
                      | zero => intro g hg hm; exact absurd hm (Nat.not_lt_zero _)
                      | succ n290 ih290 =>
                        intro g hg hm H locs ls hP hD hS hl
                        refine lv_iload_n hx hb dX8_digest_290 rfl (lv_at hl 2 rfl) ?_
                        refine lv_sipush (v := 144) hx hb dX8_digest_291 (by decide) ?_
                        refine lv_icmp_ge (tgt := 333) hx hb dX8_digest_294 (by decide) (fun c_294 => ?_) (fun c_294 => ?_)
                        · have c_294 := nle_t (a := 144) (b := g) (by omega) (by omega) c_294
                          refine lv_lload_n hx hb dX8_digest_333 rfl (lv_at hl 1 rfl) ?_
                          exact endL C u6 (by rw [show g = 144 by omega, hH0]; rfl) hS hP dX8_digest_334
                        · have c_294 := nle_f (a := 144) (b := g) (by omega) (by omega) c_294
                          refine lv_ldc2 (v := 31) hx hb hown (hts _ kw_32_12) dX8_digest_297 ?_
                          refine lv_lload_n hx hb dX8_digest_300 rfl (lv_at hl 1 rfl) ?_
                          refine lv_lmul hx hb dX8_digest_301 ?_
                          refine lv_aload_n hx hb dX8_digest_302 rfl (lv_at hl 0 rfl) ?_
                          refine va_get (D := D) (ci := 8) (v := .ref (ma 0)) (C := RX8) (T := TX8) (N := 24) hx hb hts inlX8 hown hK hP 0 rfl rfl 0 (by decide) (hts _ kw_5_6) (fun _ h9 => h9) rfl dX8_digest_303 ?_
                          refine lv_bipush (v := 25) hx hb dX8_digest_306 (by decide) ?_
                          refine lv_iload_n hx hb dX8_digest_308 rfl (lv_at hl 2 rfl) ?_
                          refine ro_iadd (z := nI (25 + g)) hx hb (nI_add 25 g) dX8_digest_309 ?_
                          refine ro_iald (k := 25 + g) (v := kdY y g) hx hb hK hP 1 0 rfl rfl rfl (by omega) (by decide) (hR.tb (by omega) (by omega)) dX8_digest_310 ?_
                          refine lv_i2l (v := (kdY y g).toInt64) hx hb dX8_digest_311 rfl ?_
                          refine lv_ladd hx hb dX8_digest_312 ?_
                          refine ro_topL (z := mi (mtb (kdY y) (vlY y) (mor (x 18) (mln p (x 13) (x 14) (mpl p (x 13) H0 (x 14)) 12) 4) g) (kdY y g)) hx rfl ?_
                          refine lv_lstore_n (lv' := [(1, .long (mi (mtb (kdY y) (vlY y) (mor (x 18) (mln p (x 13) (x 14) (mpl p (x 13) H0 (x 14)) 12) 4) g) (kdY y g))), (0, .ref q), (3, .int (nI g))]) hx hb dX8_digest_313 rfl hl (by decide) rfl (fun ls hl => ?_)
                          refine lv_ldc2 (v := 31) hx hb hown (hts _ kw_32_12) dX8_digest_314 ?_
                          refine lv_lload_n hx hb dX8_digest_317 rfl (lv_at hl 0 rfl) ?_
                          refine lv_lmul hx hb dX8_digest_318 ?_
                          refine lv_aload_n hx hb dX8_digest_319 rfl (lv_at hl 1 rfl) ?_
                          refine lv_iload_n hx hb dX8_digest_320 rfl (lv_at hl 2 rfl) ?_
                          refine aftI0 C (runV_G (As := [.int (nI g)]) (rest := [.long (31 * (mi (mtb (kdY y) (vlY y) (mor (x 18) (mln p (x 13) (x 14) (mpl p (x 13) H0 (x 14)) 12) 4) g) (kdY y g)))]) (ci := 8) (N := 24) (T := TX8) (q0 := 0) C (mX8_valueAt l D G q ma sN L 0 nd ct ht sp iw mn sr p x y M g hR hM (by omega)) hS hP hD [0, 1] rfl (by decide) rfl rfl (ys_X8_valueAt) kw_25_6 kw_25_7 kw_25_8 ⟨Nat.le_of_ble_eq_true rfl, Nat.le_of_ble_eq_true rfl⟩ hl.1 (Nat.le_of_ble_eq_true rfl) dX8_digest_321 rfl rfl ⟨Nat.zero_le _, Nat.zero_le _⟩) hS hP hD [0, 1] rfl (fun r321 _ H locs hp321 hP hS => ?_)
                          refine ro_top (z := evA (kdY y) (vlY y) g) hx hp321 ?_
                          refine lv_i2l (v := (evA (kdY y) (vlY y) g).toInt64) hx hb dX8_digest_324 rfl ?_
                          refine lv_ladd hx hb dX8_digest_325 ?_
                          refine ro_topL (z := mi (mi (mtb (kdY y) (vlY y) (mor (x 18) (mln p (x 13) (x 14) (mpl p (x 13) H0 (x 14)) 12) 4) g) (kdY y g)) (evA (kdY y) (vlY y) g)) hx rfl ?_
                          refine lv_lstore_n (lv' := [(1, .long (mi (mi (mtb (kdY y) (vlY y) (mor (x 18) (mln p (x 13) (x 14) (mpl p (x 13) H0 (x 14)) 12) 4) g) (kdY y g)) (evA (kdY y) (vlY y) g))), (0, .ref q), (3, .int (nI g))]) hx hb dX8_digest_326 rfl hl (by decide) rfl (fun ls hl => ?_)
                          refine lv_iinc (v := nI (g + 1)) (lv' := [(3, .int (nI (g + 1))), (1, .long (mi (mi (mtb (kdY y) (vlY y) (mor (x 18) (mln p (x 13) (x 14) (mpl p (x 13) H0 (x 14)) 12) 4) g) (kdY y g)) (evA (kdY y) (vlY y) g))), (0, .ref q)]) hx hb dX8_digest_327 hl (k := 2) rfl (nI_add g 1) (by decide) rfl (fun ls hl => ?_)
                          refine lv_goto (tgt := 290) hx hb dX8_digest_330 (by decide) ?_
                          exact ih290 (g + 1) (by omega) (by omega) _ _ _ hP (hD.fst rfl) hS (lv_sub hl [2, 1, 0] rfl)
                    exact lp290 (144 - 0 + 1) 0 (by omega) (Nat.lt_succ_self _) _ _ _ hP (hD.fst rfl) hS (lv_sub hl [1, 2, 0] (by rw [← show j = 4 by omega]; rfl))
                  · have c_260 := nle_f (a := 4) (b := j) (by omega) (by omega) c_260
                    refine lv_ldc2 (v := 31) hx hb hown (hts _ kw_32_12) dX8_digest_263 ?_
                    refine lv_lload_n hx hb dX8_digest_266 rfl (lv_at hl 1 rfl) ?_
                    refine lv_lmul hx hb dX8_digest_267 ?_
                    refine lv_aload_n hx hb dX8_digest_268 rfl (lv_at hl 0 rfl) ?_
                    refine va_get (D := D) (ci := 8) (v := .ref (ma 0)) (C := RX8) (T := TX8) (N := 24) hx hb hts inlX8 hown hK hP 0 rfl rfl 0 (by decide) (hts _ kw_5_6) (fun _ h9 => h9) rfl dX8_digest_269 ?_
                    refine lv_bipush (v := 18) hx hb dX8_digest_272 (by decide) ?_
                    refine ro_iald (k := 18) (v := nI (x 18)) hx hb hK hP 1 0 rfl rfl rfl (by decide) (by decide) hR.n18 dX8_digest_274 ?_
                    refine lv_iload_n hx hb dX8_digest_275 rfl (lv_at hl 2 rfl) ?_
                    refine aftI0 C (runS_G (As := [.int (nI (x 18)), .int (nI j)]) (rest := [.long (31 * (mor (x 18) (mln p (x 13) (x 14) (mpl p (x 13) H0 (x 14)) 12) j))]) C (mX8_moveOf l D G (x 18) j ho (by omega)) hS hP hD [] rfl (by decide) (ys_X8_moveOf) kw_21_8 kw_21_9 ⟨Nat.le_of_ble_eq_true rfl, Nat.le_of_ble_eq_true rfl⟩ hl.1 (Nat.le_of_ble_eq_true rfl) dX8_digest_276 rfl rfl ⟨Nat.zero_le _, Nat.zero_le _⟩) hS hP hD [] rfl (fun r276 _ H locs hp276 hP hS => ?_)
                    refine ro_top (z := nI (ordN ((x 18) * 4 + j))) hx hp276 ?_
                    refine lv_i2l (v := (nI (ordN ((x 18) * 4 + j))).toInt64) hx hb dX8_digest_279 rfl ?_
                    refine lv_ladd hx hb dX8_digest_280 ?_
                    refine ro_topL (z := mi (mor (x 18) (mln p (x 13) (x 14) (mpl p (x 13) H0 (x 14)) 12) j) (nI (ordN ((x 18) * 4 + j)))) hx rfl ?_
                    refine lv_lstore_n (lv' := [(1, .long (mi (mor (x 18) (mln p (x 13) (x 14) (mpl p (x 13) H0 (x 14)) 12) j) (nI (ordN ((x 18) * 4 + j))))), (0, .ref q), (3, .int (nI j))]) hx hb dX8_digest_281 rfl hl (by decide) rfl (fun ls hl => ?_)
                    refine lv_iinc (v := nI (j + 1)) (lv' := [(3, .int (nI (j + 1))), (1, .long (mi (mor (x 18) (mln p (x 13) (x 14) (mpl p (x 13) H0 (x 14)) 12) j) (nI (ordN ((x 18) * 4 + j))))), (0, .ref q)]) hx hb dX8_digest_282 hl (k := 2) rfl (nI_add j 1) (by decide) rfl (fun ls hl => ?_)
                    refine lv_goto (tgt := 258) hx hb dX8_digest_285 (by decide) ?_
                    exact ih258 (j + 1) (by omega) (by omega) _ _ _ hP (hD.fst rfl) hS (lv_sub hl [2, 1, 0] rfl)
              exact lp258 (4 - 0 + 1) 0 (by omega) (Nat.lt_succ_self _) _ _ _ hP (hD.fst rfl) hS (lv_sub hl [1, 2, 0] (by rw [← e12]; rfl))
            · have hN9 : ¬ N9 = 0 := fun h9 => c_234 (lnA_t (by rw [hF]; exact h9))
              refine lv_ldc2 (v := 31) hx hb hown (hts _ kw_32_12) dX8_digest_237 ?_
              refine lv_lload_n hx hb dX8_digest_240 rfl (lv_at hl 1 rfl) ?_
              refine lv_lmul hx hb dX8_digest_241 ?_
              refine lv_aload_n hx hb dX8_digest_242 rfl (lv_at hl 0 rfl) ?_
              refine lv_iload_n hx hb dX8_digest_243 rfl (lv_at hl 2 rfl) ?_
              refine aftI0 C (runV_G (As := [.int (nI k)]) (rest := [.long (31 * (mln p (x 13) (x 14) (mpl p (x 13) H0 (x 14)) k))]) (ci := 8) (N := 24) (T := TX8) (q0 := 0) C (mX8_lineAt l D G q ma sN L 0 nd ct ht sp iw mn sr p x y M u6 k hR hM hfn hPR hp6 (by omega)) hS hP hD [0, 1, 2] rfl (by decide) rfl rfl (ys_X8_lineAt) kw_17_23 kw_18_0 kw_18_1 ⟨Nat.le_of_ble_eq_true rfl, Nat.le_of_ble_eq_true rfl⟩ hl.1 (Nat.le_of_ble_eq_true rfl) dX8_digest_244 rfl rfl ⟨Nat.zero_le _, Nat.zero_le _⟩) hS hP hD [0, 1, 2] rfl (fun r244 _ H locs hp244 hP hS => ?_)
              refine ro_top (z := lnA p (x 13) (x 14) k) hx hp244 ?_
              refine lv_i2l (v := (lnA p (x 13) (x 14) k).toInt64) hx hb dX8_digest_247 rfl ?_
              refine lv_ladd hx hb dX8_digest_248 ?_
              refine ro_topL (z := mi (mln p (x 13) (x 14) (mpl p (x 13) H0 (x 14)) k) (lnA p (x 13) (x 14) k)) hx rfl ?_
              refine lv_lstore_n (lv' := [(1, .long (mi (mln p (x 13) (x 14) (mpl p (x 13) H0 (x 14)) k) (lnA p (x 13) (x 14) k))), (0, .ref q), (3, .int (nI k))]) hx hb dX8_digest_249 rfl hl (by decide) rfl (fun ls hl => ?_)
              refine lv_iinc (v := nI (k + 1)) (lv' := [(3, .int (nI (k + 1))), (1, .long (mi (mln p (x 13) (x 14) (mpl p (x 13) H0 (x 14)) k) (lnA p (x 13) (x 14) k))), (0, .ref q)]) hx hb dX8_digest_250 hl (k := 2) rfl (nI_add k 1) (by decide) rfl (fun ls hl => ?_)
              refine lv_goto (tgt := 226) hx hb dX8_digest_253 (by decide) ?_
              have e9 : mln p (x 13) (x 14) (mpl p (x 13) H0 (x 14)) (k + 1) = mi (mln p (x 13) (x 14) (mpl p (x 13) H0 (x 14)) k) (lnA p (x 13) (x 14) k) := by rw [mln_go' hF hN9, lnA_f (by rw [hF]; exact hN9), hF]
              exact ih226 (k + 1) (bh F9 (bN p F9 N9)) (N9 - tk (bN p F9 N9)) (by omega) (lpos_go' hF hN9) (by omega) _ _ _ hP (hD.fst rfl) hS (lv_sub hl [2, 1, 0] (by rw [e9]; rfl))
        exact lp226 (13 - 0 + 1) 0 (x 13) (x 14) (by omega) rfl (Nat.lt_succ_self _) _ _ _ hP (hD.fst rfl) hS (lv_sub hl [1, 2, 0] (by rw [show i = x 14 by omega]; rfl))
      · have c_191 := nle_f (a := x 14) (b := i) (by omega) (by omega) c_191
        refine lv_ldc2 (v := 31) hx hb hown (hts _ kw_32_12) dX8_digest_194 ?_
        refine lv_lload_n hx hb dX8_digest_197 rfl (lv_at hl 1 rfl) ?_
        refine lv_lmul hx hb dX8_digest_198 ?_
        refine lv_aload_n hx hb dX8_digest_199 rfl (lv_at hl 0 rfl) ?_
        refine va_get (D := D) (ci := 8) (v := .ref (ma 0)) (C := RX8) (T := TX8) (N := 24) hx hb hts inlX8 hown hK hP 0 rfl rfl 0 (by decide) (hts _ kw_5_6) (fun _ h9 => h9) rfl dX8_digest_200 ?_
        refine lv_iconst (v := 1) hx hb dX8_digest_203 (by decide) ?_
        refine lv_aload_n hx hb dX8_digest_204 rfl (lv_at hl 0 rfl) ?_
        refine va_get (D := D) (ci := 8) (v := .ref (ma 0)) (C := RX8) (T := TX8) (N := 24) hx hb hts inlX8 hown hK hP 0 rfl rfl 0 (by decide) (hts _ kw_5_6) (fun _ h9 => h9) rfl dX8_digest_205 ?_
        refine lv_bipush (v := 13) hx hb dX8_digest_208 (by decide) ?_
        refine ro_iald (k := 13) (v := nI (x 13)) hx hb hK hP 1 0 rfl rfl rfl (by decide) (by decide) hR.n13 dX8_digest_210 ?_
        refine ro_iadd (z := nI (1 + x 13)) hx hb (nI_add 1 (x 13)) dX8_digest_211 ?_
        refine lv_iload_n hx hb dX8_digest_212 rfl (lv_at hl 2 rfl) ?_
        refine ro_iadd (z := nI (1 + x 13 + i)) hx hb (nI_add (1 + x 13) i) dX8_digest_213 ?_
        refine ro_iald (k := 1 + x 13 + i) (v := p (x 13 + i)) hx hb hK hP 1 0 rfl rfl rfl (by omega) (by decide) ((congrArg sr (by omega)).trans (hR.pp (x 13 + i) (by omega))) dX8_digest_214 ?_
        refine lv_i2l (v := (p (x 13 + i)).toInt64) hx hb dX8_digest_215 rfl ?_
        refine lv_ladd hx hb dX8_digest_216 ?_
        refine ro_topL (z := mi (mpl p (x 13) H0 i) (p (x 13 + i))) hx rfl ?_
        refine lv_lstore_n (lv' := [(1, .long (mi (mpl p (x 13) H0 i) (p (x 13 + i)))), (0, .ref q), (3, .int (nI i))]) hx hb dX8_digest_217 rfl hl (by decide) rfl (fun ls hl => ?_)
        refine lv_iinc (v := nI (i + 1)) (lv' := [(3, .int (nI (i + 1))), (1, .long (mi (mpl p (x 13) H0 i) (p (x 13 + i)))), (0, .ref q)]) hx hb dX8_digest_218 hl (k := 2) rfl (nI_add i 1) (by decide) rfl (fun ls hl => ?_)
        refine lv_goto (tgt := 183) hx hb dX8_digest_221 (by decide) ?_
        exact ih183 (i + 1) (by omega) (by omega) _ _ _ hP (hD.fst rfl) hS (lv_sub hl [2, 1, 0] rfl)
  exact lp183 (x 14 - 0 + 1) 0 (by omega) (Nat.lt_succ_self _) _ _ _ hP (hD.fst rfl) hS (lv_sub hl [2, 1, 0] rfl)
