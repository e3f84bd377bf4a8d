theorem ys_X7_hitShare : YS yX7_hitShare cX7_hitShare 2 (some .double) 0 := ⟨kw_9_5, kw_1_2, by decide, by decide, by decide⟩
set_option maxHeartbeats 800000 in
set_option maxRecDepth 100000 in
theorem mX7_hitShare (l : Launch) (D : va_G) (G : u_G) (q : Nat) (sa ha ta fa ea : Nat → Nat) (x : Nat → Nat) (y p : Nat → Int32)  (hn : x 22 < 2 ^ 31) : MtD l D G yX7_hitShare cX7_hitShare 2 1 [.ref q] [(q, .inr (7, [.ref (sa 0), .ref (ha 0), .ref (ta 0), .ref (fa 0), .ref (ea 0)])), (sa 0, .inr (6, [.ref (sa 1), .ref (sa 3), .int (nI (x 18)), .int (nI (x 19)), .int (bI (x 20 = 0))])), (sa 1, .inr (2, [.ref (sa 2), .int (nI (x 13)), .int (nI (x 14)), .int (nI (x 15)), .int (y 16), .int (y 17)])), (sa 2, .inl (G.1, 12, .inl p)), (sa 3, .inr (0, [.int (y 21), .int (nI (x 22)), .int (y 23), .int (y 24), .ref (sa 4), .ref (sa 5)])), (sa 4, .inl (G.1, 144, .inl (kdY y))), (sa 5, .inl (G.1, 144, .inl (vlY y)))] [(q, .inr (7, [.ref (sa 0), .ref (ha 0), .ref (ta 0), .ref (fa 0), .ref (ea 0)])), (sa 0, .inr (6, [.ref (sa 1), .ref (sa 3), .int (nI (x 18)), .int (nI (x 19)), .int (bI (x 20 = 0))])), (sa 1, .inr (2, [.ref (sa 2), .int (nI (x 13)), .int (nI (x 14)), .int (nI (x 15)), .int (y 16), .int (y 17)])), (sa 2, .inl (G.1, 12, .inl p)), (sa 3, .inr (0, [.int (y 21), .int (nI (x 22)), .int (y 23), .int (y 24), .ref (sa 4), .ref (sa 5)])), (sa 4, .inl (G.1, 144, .inl (kdY y))), (sa 5, .inl (G.1, 144, .inl (vlY y)))] (hsP (x 22) (y 24)) := by
  refine MtD.of (by decide) (Nat.le_of_ble_eq_true rfl) ?_
  intro pr e s9 m9 below meth c9 A ls hCx hP hD hl hd0
  have C := hCx s9.drawn
  obtain ⟨hx, hb, hml, hown, hts, hr, hlocks, hA, hAm⟩ := id C
  have hK := hAm.1
  have hS : va_S A s9.heap s9.heap [] := va_S.rf
  have hl : lv_has ls 2 [(0, .ref q)] := hl
  refine lv_aload_n hx hb dX7_hitShare_0 rfl (lv_at hl 0 rfl) ?_
  refine va_get (D := D) (ci := 7) (v := .ref (sa 0)) (C := RX7) (T := TX7) (N := 5) hx hb hts inlX7 hown hK hP 0 rfl rfl 0 (by decide) (hts _ kw_1_13) (fun _ h9 => h9) rfl dX7_hitShare_1 ?_
  refine va_get (D := D) (ci := 6) (v := .ref (sa 3)) (C := RX6) (T := TX6) (N := 5) hx hb hts inlX6 hown hK hP 1 rfl rfl 1 (by decide) (hts _ kw_9_0) (fun _ h9 => h9) rfl dX7_hitShare_4 ?_
  refine va_get (D := D) (ci := 0) (v := .int (nI (x 22))) (C := RX0) (T := TX0) (N := 6) hx hb hts inlX0 hown hK hP 4 rfl rfl 1 (by decide) (hts _ kw_9_6) (fun _ h9 => h9) rfl dX7_hitShare_7 ?_
  refine lv_istore_n (lv' := [(1, .int (nI (x 22))), (0, .ref q)]) hx hb dX7_hitShare_10 rfl hl (by decide) rfl (fun ls hl => ?_)
  refine lv_iload_n hx hb dX7_hitShare_11 rfl (lv_at hl 0 rfl) ?_
  refine lv_if_le (tgt := 32) hx hb dX7_hitShare_12 (by decide) (fun c_12 => ?_) (fun c_12 => ?_)
  · have c_12 := nle_t (a := x 22) (b := 0) (by omega) (by omega) c_12
    refine lv_dconst0 hx hb dX7_hitShare_32 ?_
    refine W.endD hd0 ?_
    exact endD C (by unfold hsP; rw [if_pos (by omega)]) hS hP dX7_hitShare_33
  · have c_12 := nle_f (a := x 22) (b := 0) (by omega) (by omega) c_12
    refine lv_aload_n hx hb dX7_hitShare_15 rfl (lv_at hl 1 rfl) ?_
    refine va_get (D := D) (ci := 7) (v := .ref (sa 0)) (C := RX7) (T := TX7) (N := 5) hx hb hts inlX7 hown hK hP 0 rfl rfl 0 (by decide) (hts _ kw_1_13) (fun _ h9 => h9) rfl dX7_hitShare_16 ?_
    refine va_get (D := D) (ci := 6) (v := .ref (sa 3)) (C := RX6) (T := TX6) (N := 5) hx hb hts inlX6 hown hK hP 1 rfl rfl 1 (by decide) (hts _ kw_9_0) (fun _ h9 => h9) rfl dX7_hitShare_19 ?_
    refine va_get (D := D) (ci := 0) (v := .int (y 24)) (C := RX0) (T := TX0) (N := 6) hx hb hts inlX0 hown hK hP 4 rfl rfl 3 (by decide) (hts _ kw_9_7) (fun _ h9 => h9) rfl dX7_hitShare_22 ?_
    refine lv_i2d hx hb dX7_hitShare_25 ?_
    refine lv_iload_n hx hb dX7_hitShare_26 rfl (lv_at hl 0 rfl) ?_
    refine lv_i2d hx hb dX7_hitShare_27 ?_
    refine lv_ddiv_any hd0 lw_bits hx hb dX7_hitShare_28 (fun rd dd hal hd0 => ?_)
    have C := hCx dd
    refine lv_goto (tgt := 33) hx hb dX7_hitShare_29 (by decide) ?_
    refine W.endD hd0 ?_
    exact endD C (by unfold hsP; rw [if_neg (by omega)]; exact hal) hS hP dX7_hitShare_33
