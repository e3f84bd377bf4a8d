set_option maxHeartbeats 800000 in
set_option maxRecDepth 100000 in
theorem mX8_hitShare (l : Launch) (D : va_G) (G : u_G) (q : Nat) (ma : Nat → Nat) (sN L : Nat) (th nd ct ht sp iw mn : Int32) (sr p : Nat → Int32) (x : Nat → Nat) (y : Nat → Int32) (M : Nat)  (hR : RowR sr x y M p) (hM : M ≤ 12) (hn : x 22 < 2 ^ 31) : MtD l D G yX8_hitShare cX8_hitShare 1 1 [.ref q] [(q, .inr (8, [.ref (ma 0), .ref (ma 1), .int (nI sN), .ref (ma 2), .int (nI L), .int th, .ref (ma 3), .ref (ma 4), .ref (ma 5), .ref (ma 6), .int nd, .int ct, .int ht, .ref (ma 7), .ref (ma 8), .ref (ma 9), .ref (ma 10), .ref (ma 11), .ref (ma 12), .ref (ma 13), .ref (ma 14), .int sp, .int iw, .int mn])), (ma 0, .inl (G.1, 457, .inl sr))] [(q, .inr (8, [.ref (ma 0), .ref (ma 1), .int (nI sN), .ref (ma 2), .int (nI L), .int (nI 0), .ref (ma 3), .ref (ma 4), .ref (ma 5), .ref (ma 6), .int nd, .int ct, .int ht, .ref (ma 7), .ref (ma 8), .ref (ma 9), .ref (ma 10), .ref (ma 11), .ref (ma 12), .ref (ma 13), .ref (ma 14), .int sp, .int iw, .int mn])), (ma 0, .inl (G.1, 457, .inl sr))] (hsP (x 22) (y 24)) := by
  refine MtD.of (by decide) (Nat.le_of_ble_eq_true rfl) ?_
  intro pr e s9 m9 below meth c9 A ls hCx hP hD hl hd0
  have C := hCx s9.drawn
  obtain ⟨hx, hb, hml, hown, hts, hr, hlocks, hA, hAm⟩ := id C
  have hK := hAm.1
  have hS : va_S A s9.heap s9.heap [] := va_S.rf
  have hl : lv_has ls 1 [(0, .ref q)] := hl
  refine lv_aload_n hx hb dX8_hitShare_0 rfl (lv_at hl 0 rfl) ?_
  refine lv_iconst (v := 0) hx hb dX8_hitShare_1 (by decide) ?_
  refine va_put (D := D) (ci := 8) (v := .int 0) (ty := .int) (C := RX8) (T := TX8) (N := 24) hx hb hts inlX8 tyX8 tyX8_ok nmX8 hown hK hP hD hS 0 rfl rfl 5 (by decide) (hts _ kw_11_4) (fun _ h9 => h9) rfl (by decide +kernel) rfl rfl (Nat.le_of_ble_eq_true rfl) dX8_hitShare_2 (fun H locs hP hD hS => ?_)
  have hP : va_P D vwCl [(q, .inr (8, [.ref (ma 0), .ref (ma 1), .int (nI sN), .ref (ma 2), .int (nI L), .int 0, .ref (ma 3), .ref (ma 4), .ref (ma 5), .ref (ma 6), .int nd, .int ct, .int ht, .ref (ma 7), .ref (ma 8), .ref (ma 9), .ref (ma 10), .ref (ma 11), .ref (ma 12), .ref (ma 13), .ref (ma 14), .int sp, .int iw, .int mn])), (ma 0, .inl (G.1, 457, .inl sr))] H := hP
  have hD : va_D A [(q, .inr (8, [.ref (ma 0), .ref (ma 1), .int (nI sN), .ref (ma 2), .int (nI L), .int 0, .ref (ma 3), .ref (ma 4), .ref (ma 5), .ref (ma 6), .int nd, .int ct, .int ht, .ref (ma 7), .ref (ma 8), .ref (ma 9), .ref (ma 10), .ref (ma 11), .ref (ma 12), .ref (ma 13), .ref (ma 14), .int sp, .int iw, .int mn])), (ma 0, .inl (G.1, 457, .inl sr))] := hD
  refine lv_aload_n hx hb dX8_hitShare_5 rfl (lv_at hl 0 rfl) ?_
  refine va_get (D := D) (ci := 8) (v := .ref (ma 0)) (C := RX8) (T := TX8) (N := 24) hx hb hts inlX8 hown hK hP 0 rfl rfl 0 (by decide) (hts _ kw_5_6) (fun _ h9 => h9) rfl dX8_hitShare_6 ?_
  refine lv_bipush (v := 22) hx hb dX8_hitShare_9 (by decide) ?_
  refine ro_iald (k := 22) (v := nI (x 22)) hx hb hK hP 1 0 rfl rfl rfl (by decide) (by decide) hR.n22 dX8_hitShare_11 ?_
  refine lv_if_ne (tgt := 19) hx hb dX8_hitShare_12 (by decide) (fun c_12 => ?_) (fun c_12 => ?_)
  · have c_12 := neq_f (a := x 22) (b := 0) (by omega) (by omega) c_12
    refine lv_aload_n hx hb dX8_hitShare_19 rfl (lv_at hl 0 rfl) ?_
    refine va_get (D := D) (ci := 8) (v := .ref (ma 0)) (C := RX8) (T := TX8) (N := 24) hx hb hts inlX8 hown hK hP 0 rfl rfl 0 (by decide) (hts _ kw_5_6) (fun _ h9 => h9) rfl dX8_hitShare_20 ?_
    refine lv_bipush (v := 24) hx hb dX8_hitShare_23 (by decide) ?_
    refine ro_iald (k := 24) (v := y 24) hx hb hK hP 1 0 rfl rfl rfl (by decide) (by decide) hR.n24 dX8_hitShare_25 ?_
    refine lv_i2d hx hb dX8_hitShare_26 ?_
    refine lv_aload_n hx hb dX8_hitShare_27 rfl (lv_at hl 0 rfl) ?_
    refine va_get (D := D) (ci := 8) (v := .ref (ma 0)) (C := RX8) (T := TX8) (N := 24) hx hb hts inlX8 hown hK hP 0 rfl rfl 0 (by decide) (hts _ kw_5_6) (fun _ h9 => h9) rfl dX8_hitShare_28 ?_
    refine lv_bipush (v := 22) hx hb dX8_hitShare_31 (by decide) ?_
    refine ro_iald (k := 22) (v := nI (x 22)) hx hb hK hP 1 0 rfl rfl rfl (by decide) (by decide) hR.n22 dX8_hitShare_33 ?_
    refine lv_i2d hx hb dX8_hitShare_34 ?_
    refine lv_ddiv_any hd0 lw_bits hx hb dX8_hitShare_35 (fun rd dd hal hd0 => ?_)
    have C := hCx dd
    refine W.endD hd0 ?_
    exact endD C (by unfold hsP; rw [if_neg (by omega)]; exact hal) hS hP dX8_hitShare_36
  · have c_12 := neq_t (a := x 22) (b := 0) (by omega) (by omega) c_12
    refine lv_dconst0 hx hb dX8_hitShare_15 ?_
    refine lv_goto (tgt := 36) hx hb dX8_hitShare_16 (by decide) ?_
    refine W.endD hd0 ?_
    exact endD C (by unfold hsP; rw [if_pos (by omega)]) hS hP dX8_hitShare_36
