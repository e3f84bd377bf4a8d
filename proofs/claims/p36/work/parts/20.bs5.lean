set_option maxHeartbeats 800000 in
set_option maxRecDepth 100000 in
theorem mX7_clearText (l : Launch) (D : va_G) (G : u_G) (q : Nat) (sa ha ta fa ea : Nat → Nat) (L cnt num : Nat) (F : Nat → Int32) (t : Nat → Nat)  : MtI l D G yX7_clearText cX7_clearText 2 .int 1 0 0 [.ref q] [(q, .inr (7, [.ref (sa 0), .ref (ha 0), .ref (ta 0), .ref (fa 0), .ref (ea 0)])), (ta 0, .inr (4, [.ref (ta 1), .int (nI L), .ref (ta 2), .int (nI cnt), .int (nI num)])), (ta 1, .inl (G.1, 60, .inl (tN t))), (ta 2, .inl (G.1, 12, .inl F))] (fun (r : Int32) (_ : Unit) => r = nI L) (fun (_ : Unit) => [(q, .inr (7, [.ref (sa 0), .ref (ha 0), .ref (ta 0), .ref (fa 0), .ref (ea 0)])), (ta 0, .inr (4, [.ref (ta 1), .int (nI 0), .ref (ta 2), .int (nI cnt), .int (nI num)])), (ta 1, .inl (G.1, 60, .inl (tN t))), (ta 2, .inl (G.1, 12, .inl F))]) := by
  refine MtI.of (by decide) (Nat.le_of_ble_eq_true rfl) ?_
  intro pr e s9 m9 below meth c9 A ls C hP hD hl
  obtain ⟨hx, hb, hml, hown, hts, hr, hlocks, hA, hAm⟩ := id C
  have hK := hAm.1
  have hS : va_S A s9.heap s9.heap [] := va_S.rf
  have hl : lv_has ls 2 [(0, .ref q)] := hl
  refine lv_aload_n hx hb dX7_clearText_0 rfl (lv_at hl 0 rfl) ?_
  refine va_get (D := D) (ci := 7) (v := .ref (ta 0)) (C := RX7) (T := TX7) (N := 5) hx hb hts inlX7 hown hK hP 0 rfl rfl 2 (by decide) (hts _ kw_1_21) (fun _ h9 => h9) rfl dX7_clearText_1 ?_
  refine va_get (D := D) (ci := 4) (v := .int (nI L)) (C := RX4) (T := TX4) (N := 5) hx hb hts inlX4 hown hK hP 1 rfl rfl 1 (by decide) (hts _ kw_17_6) (fun _ h9 => h9) rfl dX7_clearText_4 ?_
  refine lv_istore_n (lv' := [(1, .int (nI L)), (0, .ref q)]) hx hb dX7_clearText_7 rfl hl (by decide) rfl (fun ls hl => ?_)
  refine lv_aload_n hx hb dX7_clearText_8 rfl (lv_at hl 1 rfl) ?_
  refine va_get (D := D) (ci := 7) (v := .ref (ta 0)) (C := RX7) (T := TX7) (N := 5) hx hb hts inlX7 hown hK hP 0 rfl rfl 2 (by decide) (hts _ kw_1_21) (fun _ h9 => h9) rfl dX7_clearText_9 ?_
  refine lv_iconst (v := 0) hx hb dX7_clearText_12 (by decide) ?_
  refine va_put (D := D) (ci := 4) (v := .int 0) (ty := .int) (C := RX4) (T := TX4) (N := 5) hx hb hts inlX4 tyX4 tyX4_ok nmX4 hown hK hP hD hS 1 rfl rfl 1 (by decide) (hts _ kw_17_6) (fun _ h9 => h9) rfl (by decide +kernel) rfl rfl (Nat.le_of_ble_eq_true rfl) dX7_clearText_13 (fun H locs hP hD hS => ?_)
  have hP : va_P D vwCl [(q, .inr (7, [.ref (sa 0), .ref (ha 0), .ref (ta 0), .ref (fa 0), .ref (ea 0)])), (ta 0, .inr (4, [.ref (ta 1), .int 0, .ref (ta 2), .int (nI cnt), .int (nI num)])), (ta 1, .inl (G.1, 60, .inl (tN t))), (ta 2, .inl (G.1, 12, .inl F))] H := hP
  have hD : va_D A [(q, .inr (7, [.ref (sa 0), .ref (ha 0), .ref (ta 0), .ref (fa 0), .ref (ea 0)])), (ta 0, .inr (4, [.ref (ta 1), .int 0, .ref (ta 2), .int (nI cnt), .int (nI num)])), (ta 1, .inl (G.1, 60, .inl (tN t))), (ta 2, .inl (G.1, 12, .inl F))] := hD
  refine lv_iload_n hx hb dX7_clearText_16 rfl (lv_at hl 0 rfl) ?_
  exact endI C rfl () rfl hS hP dX7_clearText_17
set_option maxHeartbeats 800000 in
set_option maxRecDepth 100000 in
theorem mX7_firstError (l : Launch) (D : va_G) (G : u_G) (q : Nat) (sa ha ta fa ea : Nat → Nat) (L cnt num : Nat) (F : Nat → Int32) (t : Nat → Nat)  (hL : L ≤ 60) (ht : ∀ k, k < L → t k < 128) : MtI l D G yX7_firstError cX7_firstError 1 .int 4 0 0 [.ref q] [(q, .inr (7, [.ref (sa 0), .ref (ha 0), .ref (ta 0), .ref (fa 0), .ref (ea 0)])), (ta 0, .inr (4, [.ref (ta 1), .int (nI L), .ref (ta 2), .int (nI cnt), .int (nI num)])), (ta 1, .inl (G.1, 60, .inl (tN t))), (ta 2, .inl (G.1, 12, .inl F))] (fun (r : Int32) (_ : Unit) => r = nI ((rdA t L F).1)) (fun (_ : Unit) => [(q, .inr (7, [.ref (sa 0), .ref (ha 0), .ref (ta 0), .ref (fa 0), .ref (ea 0)])), (ta 0, .inr (4, [.ref (ta 1), .int (nI L), .ref (ta 2), .int (nI ((rdA t L F).2.1)), .int (nI ((rdA t L F).2.2.1))])), (ta 1, .inl (G.1, 60, .inl (tN t))), (ta 2, .inl (G.1, 12, .inl ((rdA t L F).2.2.2)))]) := by
  refine MtI.of (by decide) (Nat.le_of_ble_eq_true rfl) ?_
  intro pr e s9 m9 below meth c9 A ls C hP hD hl
  obtain ⟨hx, hb, hml, hown, hts, hr, hlocks, hA, hAm⟩ := id C
  have hK := hAm.1
  have hS : va_S A s9.heap s9.heap [] := va_S.rf
  have hl : lv_has ls 1 [(0, .ref q)] := hl
  refine lv_aload_n hx hb dX7_firstError_0 rfl (lv_at hl 0 rfl) ?_
  refine va_get (D := D) (ci := 7) (v := .ref (ta 0)) (C := RX7) (T := TX7) (N := 5) hx hb hts inlX7 hown hK hP 0 rfl rfl 2 (by decide) (hts _ kw_1_21) (fun _ h9 => h9) rfl dX7_firstError_1 ?_
  refine aftI C (runV_G (As := []) (rest := []) (ci := 4) (N := 5) (T := TX4) (q0 := 1) C (mX4_read l D G (ta 0) (ta 1) (ta 2) L cnt num F t hL ht) hS hP hD [1, 2, 3] rfl (by decide) rfl rfl (ys_X4_read) kw_8_8 kw_8_9 kw_8_10 ⟨Nat.le_of_ble_eq_true rfl, Nat.le_of_ble_eq_true rfl⟩ hl.1 (Nat.le_of_ble_eq_true rfl) dX7_firstError_4 rfl rfl ⟨Nat.zero_le _, Nat.zero_le _⟩) hS hP hD [1, 2, 3] rfl (fun _ => rfl) (fun r4 _ H locs hp4 hP hD hS => ?_)
  have hP : va_P D vwCl [(q, .inr (7, [.ref (sa 0), .ref (ha 0), .ref (ta 0), .ref (fa 0), .ref (ea 0)])), (ta 0, .inr (4, [.ref (ta 1), .int (nI L), .ref (ta 2), .int (nI ((rdA t L F).2.1)), .int (nI ((rdA t L F).2.2.1))])), (ta 1, .inl (G.1, 60, .inl (tN t))), (ta 2, .inl (G.1, 12, .inl ((rdA t L F).2.2.2)))] H := hP
  have hD : va_D A [(q, .inr (7, [.ref (sa 0), .ref (ha 0), .ref (ta 0), .ref (fa 0), .ref (ea 0)])), (ta 0, .inr (4, [.ref (ta 1), .int (nI L), .ref (ta 2), .int (nI ((rdA t L F).2.1)), .int (nI ((rdA t L F).2.2.1))])), (ta 1, .inl (G.1, 60, .inl (tN t))), (ta 2, .inl (G.1, 12, .inl ((rdA t L F).2.2.2)))] := hD
  refine ro_top (z := nI ((rdA t L F).1)) hx hp4 ?_
  exact endI C rfl () rfl hS hP dX7_firstError_7
set_option maxHeartbeats 800000 in
set_option maxRecDepth 100000 in
theorem mX7_savedStates (l : Launch) (D : va_G) (G : u_G) (q : Nat) (sa ha ta fa ea : Nat → Nat) (og cg : Nat) (a : Nat → Nat → Nat) : MtI l D G yX7_savedStates cX7_savedStates 1 .int 1 0 0 [.ref q] [(q, .inr (7, [.ref (sa 0), .ref (ha 0), .ref (ta 0), .ref (fa 0), .ref (ea 0)])), (ha 0, .inr (3, [.ref (ha 1), .int (nI og), .int (nI cg)])), (ha 1, .inl (G.2.1, 6, .inr (.inr (.inr (.inr (sqf a))))))] (fun (r : Int32) (_ : Unit) => r = nI cg) (fun (_ : Unit) => [(q, .inr (7, [.ref (sa 0), .ref (ha 0), .ref (ta 0), .ref (fa 0), .ref (ea 0)])), (ha 0, .inr (3, [.ref (ha 1), .int (nI og), .int (nI cg)])), (ha 1, .inl (G.2.1, 6, .inr (.inr (.inr (.inr (sqf a))))))]) := by
  refine MtI.of (by decide) (Nat.le_of_ble_eq_true rfl) ?_
  intro pr e s9 m9 below meth c9 A ls C hP hD hl
  obtain ⟨hx, hb, hml, hown, hts, hr, hlocks, hA, hAm⟩ := id C
  have hK := hAm.1
  have hS : va_S A s9.heap s9.heap [] := va_S.rf
  have hl : lv_has ls 1 [(0, .ref q)] := hl
  refine lv_aload_n hx hb dX7_savedStates_0 rfl (lv_at hl 0 rfl) ?_
  refine va_get (D := D) (ci := 7) (v := .ref (ha 0)) (C := RX7) (T := TX7) (N := 5) hx hb hts inlX7 hown hK hP 0 rfl rfl 1 (by decide) (hts _ kw_1_17) (fun _ h9 => h9) rfl dX7_savedStates_1 ?_
  refine va_get (D := D) (ci := 3) (v := .int (nI cg)) (C := RX3) (T := TX3) (N := 3) hx hb hts inlX3 hown hK hP 1 rfl rfl 2 (by decide) (hts _ kw_5_10) (fun _ h9 => h9) rfl dX7_savedStates_4 ?_
  exact endI C rfl () rfl hS hP dX7_savedStates_7
