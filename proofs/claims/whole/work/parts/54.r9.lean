set_option maxHeartbeats 800000 in
set_option maxRecDepth 100000 in
theorem mX8_undo (l : Launch) (D : va_G) (G : u_G) (q : Nat) (ma : Nat → Nat) (sN L : Nat) (th nd ct ht sp iw mn : Int32) (sr p : Nat → Int32) (x : Nat → Nat) (y : Nat → Int32) (M : Nat) (bw : Nat → Nat → Int32)  (hsN : sN ≤ 6) (h1 : 1 ≤ sN) : MtI l D G yX8_undo cX8_undo 2 .int 2 0 0 [.ref q] [(q, .inr (8, [.ref (ma 0), .ref (ma 1), .int (nI sN), .ref (ma 2), .int (nI L), .int th, .ref (ma 3), .ref (ma 4), .ref (ma 5), .ref (ma 6), .int nd, .int ct, .int ht, .ref (ma 7), .ref (ma 8), .ref (ma 9), .ref (ma 10), .ref (ma 11), .ref (ma 12), .ref (ma 13), .ref (ma 14), .int sp, .int iw, .int mn])), (ma 0, .inl (G.1, 457, .inl sr)), (ma 1, .inl (G.1, 2742, .inl (bfF bw)))] (fun (r : Int32) (_ : Unit) => r = nI (sN - 1)) (fun (_ : Unit) => [(q, .inr (8, [.ref (ma 0), .ref (ma 1), .int (nI (sN - 1)), .ref (ma 2), .int (nI L), .int (nI 0), .ref (ma 3), .ref (ma 4), .ref (ma 5), .ref (ma 6), .int nd, .int ct, .int ht, .ref (ma 7), .ref (ma 8), .ref (ma 9), .ref (ma 10), .ref (ma 11), .ref (ma 12), .ref (ma 13), .ref (ma 14), .int sp, .int iw, .int mn])), (ma 0, .inl (G.1, 457, .inl (bw (sN - 1)))), (ma 1, .inl (G.1, 2742, .inl (bfF bw)))]) := by
  refine MtI.of (by decide) (Nat.le_of_ble_eq_true rfl) ?_
  intro pr e s9 m9 below meth c9 A ls C hP hD hl
  obtain ⟨hx, hb, hml, hown, hts, hr, hlocks, hA, hAm⟩ := id C
  have hK := hAm.1
  have hS : va_S A s9.heap s9.heap [] := va_S.rf
  have hl : lv_has ls 2 [(0, .ref q)] := hl
  refine lv_aload_n hx hb dX8_undo_0 rfl (lv_at hl 0 rfl) ?_
  refine lv_aload_n hx hb dX8_undo_1 rfl (lv_at hl 0 rfl) ?_
  refine va_get (D := D) (ci := 8) (v := .int (nI sN)) (C := RX8) (T := TX8) (N := 24) hx hb hts inlX8 hown hK hP 0 rfl rfl 2 (by decide) (hts _ kw_11_9) (fun _ h9 => h9) rfl dX8_undo_2 ?_
  refine lv_if_ne (tgt := 12) hx hb dX8_undo_5 (by decide) (fun c_5 => ?_) (fun c_5 => ?_)
  · have c_5 := neq_f (a := sN) (b := 0) (by omega) (by omega) c_5
    refine lv_iconst (v := 0) hx hb dX8_undo_12 (by decide) ?_
    refine aftI C (runV_G (As := [.int 0]) (rest := []) (ci := 8) (N := 24) (T := TX8) (q0 := 0) C (mX8_refused l D G q ma sN L th nd ct ht sp iw mn 0 (by omega)) hS hP hD [0] rfl (by decide) rfl rfl (ys_X8_refused) kw_11_0 kw_11_1 kw_11_2 ⟨Nat.le_of_ble_eq_true rfl, Nat.le_of_ble_eq_true rfl⟩ hl.1 (Nat.le_of_ble_eq_true rfl) dX8_undo_13 rfl rfl ⟨Nat.zero_le _, Nat.zero_le _⟩) hS hP hD [0] rfl (fun _ => rfl) (fun r13 _ H locs hp13 hP hD hS => ?_)
    have hP : va_P D vwCl [(q, .inr (8, [.ref (ma 0), .ref (ma 1), .int (nI sN), .ref (ma 2), .int (nI L), .int (nI 0), .ref (ma 3), .ref (ma 4), .ref (ma 5), .ref (ma 6), .int nd, .int ct, .int ht, .ref (ma 7), .ref (ma 8), .ref (ma 9), .ref (ma 10), .ref (ma 11), .ref (ma 12), .ref (ma 13), .ref (ma 14), .int sp, .int iw, .int mn])), (ma 0, .inl (G.1, 457, .inl sr)), (ma 1, .inl (G.1, 2742, .inl (bfF bw)))] H := hP
    have hD : va_D A [(q, .inr (8, [.ref (ma 0), .ref (ma 1), .int (nI sN), .ref (ma 2), .int (nI L), .int (nI 0), .ref (ma 3), .ref (ma 4), .ref (ma 5), .ref (ma 6), .int nd, .int ct, .int ht, .ref (ma 7), .ref (ma 8), .ref (ma 9), .ref (ma 10), .ref (ma 11), .ref (ma 12), .ref (ma 13), .ref (ma 14), .int sp, .int iw, .int mn])), (ma 0, .inl (G.1, 457, .inl sr)), (ma 1, .inl (G.1, 2742, .inl (bfF bw)))] := hD
    refine ro_top (z := bI (0 < 0)) hx hp13 ?_
    refine lv_if_eq (tgt := 21) hx hb dX8_undo_16 (by decide) (fun _ => ?_) (fun h => absurd (by decide) h)
    refine lv_aload_n hx hb dX8_undo_21 rfl (lv_at hl 0 rfl) ?_
    refine lv_dup hx hb dX8_undo_22 rfl ?_
    refine va_get (D := D) (ci := 8) (v := .int (nI sN)) (C := RX8) (T := TX8) (N := 24) hx hb hts inlX8 hown hK hP 0 rfl rfl 2 (by decide) (hts _ kw_11_9) (fun _ h9 => h9) rfl dX8_undo_23 ?_
    refine lv_iconst (v := 1) hx hb dX8_undo_26 (by decide) ?_
    refine ro_isub (z := nI (sN - 1)) hx hb (pk_sub (a := sN) (b := 1) (by omega)) dX8_undo_27 ?_
    refine va_put (D := D) (ci := 8) (v := .int (nI (sN - 1))) (ty := .int) (C := RX8) (T := TX8) (N := 24) hx hb hts inlX8 tyX8 tyX8_ok nmX8 hown hK hP hD hS 0 rfl rfl 2 (by decide) (hts _ kw_11_9) (fun _ h9 => h9) rfl (by decide +kernel) rfl rfl (Nat.le_of_ble_eq_true rfl) dX8_undo_28 (fun H locs hP hD hS => ?_)
    have hP : va_P D vwCl [(q, .inr (8, [.ref (ma 0), .ref (ma 1), .int (nI (sN - 1)), .ref (ma 2), .int (nI L), .int (nI 0), .ref (ma 3), .ref (ma 4), .ref (ma 5), .ref (ma 6), .int nd, .int ct, .int ht, .ref (ma 7), .ref (ma 8), .ref (ma 9), .ref (ma 10), .ref (ma 11), .ref (ma 12), .ref (ma 13), .ref (ma 14), .int sp, .int iw, .int mn])), (ma 0, .inl (G.1, 457, .inl sr)), (ma 1, .inl (G.1, 2742, .inl (bfF bw)))] H := hP
    have hD : va_D A [(q, .inr (8, [.ref (ma 0), .ref (ma 1), .int (nI (sN - 1)), .ref (ma 2), .int (nI L), .int (nI 0), .ref (ma 3), .ref (ma 4), .ref (ma 5), .ref (ma 6), .int nd, .int ct, .int ht, .ref (ma 7), .ref (ma 8), .ref (ma 9), .ref (ma 10), .ref (ma 11), .ref (ma 12), .ref (ma 13), .ref (ma 14), .int sp, .int iw, .int mn])), (ma 0, .inl (G.1, 457, .inl sr)), (ma 1, .inl (G.1, 2742, .inl (bfF bw)))] := hD
    refine lv_iconst (v := 0) hx hb dX8_undo_31 (by decide) ?_
    refine lv_istore_n (lv' := [(1, .int 0), (0, .ref q)]) hx hb dX8_undo_32 rfl hl (by decide) rfl (fun ls hl => ?_)
    have lp33 : ∀ (n33 : Nat) (i : Nat) (hi : i ≤ 457) (_ : 457 - i < n33) (H : Heap) (locs : List Loc) (ls : Array Slot), va_P D vwCl [(q, .inr (8, [.ref (ma 0), .ref (ma 1), .int (nI (sN - 1)), .ref (ma 2), .int (nI L), .int (nI 0), .ref (ma 3), .ref (ma 4), .ref (ma 5), .ref (ma 6), .int nd, .int ct, .int ht, .ref (ma 7), .ref (ma 8), .ref (ma 9), .ref (ma 10), .ref (ma 11), .ref (ma 12), .ref (ma 13), .ref (ma 14), .int sp, .int iw, .int mn])), (ma 0, .inl (G.1, 457, .inl (cpy (bw (sN - 1)) sr i))), (ma 1, .inl (G.1, 2742, .inl (bfF bw)))] H → va_D A [(q, .inr (8, [.ref (ma 0), .ref (ma 1), .int (nI (sN - 1)), .ref (ma 2), .int (nI L), .int (nI 0), .ref (ma 3), .ref (ma 4), .ref (ma 5), .ref (ma 6), .int nd, .int ct, .int ht, .ref (ma 7), .ref (ma 8), .ref (ma 9), .ref (ma 10), .ref (ma 11), .ref (ma 12), .ref (ma 13), .ref (ma 14), .int sp, .int iw, .int mn])), (ma 0, .inl (G.1, 457, .inl (cpy (bw (sN - 1)) sr i))), (ma 1, .inl (G.1, 2742, .inl (bfF bw)))] → va_S A s9.heap H locs → lv_has ls 2 [(0, .ref q), (1, .int (nI i))] → W pr l e (rmG 2 0 0) s9 m9 (List.toArray [.ref q]) below meth c9 H locs 0 0 (MQ below (va_Qi (fun (r : Int32) (_ : Unit) => r = nI (sN - 1)) (fun u9 t9 => WB D ((fun (_ : Unit) => [(q, .inr (8, [.ref (ma 0), .ref (ma 1), .int (nI (sN - 1)), .ref (ma 2), .int (nI L), .int (nI 0), .ref (ma 3), .ref (ma 4), .ref (ma 5), .ref (ma 6), .int nd, .int ct, .int ht, .ref (ma 7), .ref (ma 8), .ref (ma 9), .ref (ma 10), .ref (ma 11), .ref (ma 12), .ref (ma 13), .ref (ma 14), .int sp, .int iw, .int mn])), (ma 0, .inl (G.1, 457, .inl (bw (sN - 1)))), (ma 1, .inl (G.1, 2742, .inl (bfF bw)))]) u9) t9) A) (List.toArray [.ref q]) s9 0 0 A) (F0 m9 33 ls []) := by
      intro n33
      induction n33 with
      | zero => intro i hi hm; exact absurd hm (Nat.not_lt_zero _)
      | succ n33 ih33 =>
        intro i hi hm H locs ls hP hD hS hl
        refine lv_iload_n hx hb dX8_undo_33 rfl (lv_at hl 1 rfl) ?_
        refine lv_sipush (v := 457) hx hb dX8_undo_34 (by decide) ?_
        refine lv_icmp_ge (tgt := 67) hx hb dX8_undo_37 (by decide) (fun c_37 => ?_) (fun c_37 => ?_)
        · have c_37 := nle_t (a := 457) (b := i) (by omega) (by omega) c_37
          refine lv_aload_n hx hb dX8_undo_67 rfl (lv_at hl 0 rfl) ?_
          refine va_get (D := D) (ci := 8) (v := .int (nI (sN - 1))) (C := RX8) (T := TX8) (N := 24) hx hb hts inlX8 hown hK hP 0 rfl rfl 2 (by decide) (hts _ kw_11_9) (fun _ h9 => h9) rfl dX8_undo_68 ?_
          exact endI C rfl () rfl hS (hP.arr 1 (g := bw (sN - 1)) rfl (fun j hj => cpy_lt (by omega))) dX8_undo_71
        · have c_37 := nle_f (a := 457) (b := i) (by omega) (by omega) c_37
          refine lv_aload_n hx hb dX8_undo_40 rfl (lv_at hl 0 rfl) ?_
          refine va_get (D := D) (ci := 8) (v := .ref (ma 0)) (C := RX8) (T := TX8) (N := 24) hx hb hts inlX8 hown hK hP 0 rfl rfl 0 (by decide) (hts _ kw_5_6) (fun _ h9 => h9) rfl dX8_undo_41 ?_
          refine lv_iload_n hx hb dX8_undo_44 rfl (lv_at hl 1 rfl) ?_
          refine lv_aload_n hx hb dX8_undo_45 rfl (lv_at hl 0 rfl) ?_
          refine va_get (D := D) (ci := 8) (v := .ref (ma 1)) (C := RX8) (T := TX8) (N := 24) hx hb hts inlX8 hown hK hP 0 rfl rfl 1 (by decide) (hts _ kw_5_7) (fun _ h9 => h9) rfl dX8_undo_46 ?_
          refine lv_sipush (v := 457) hx hb dX8_undo_49 (by decide) ?_
          refine lv_aload_n hx hb dX8_undo_52 rfl (lv_at hl 0 rfl) ?_
          refine va_get (D := D) (ci := 8) (v := .int (nI (sN - 1))) (C := RX8) (T := TX8) (N := 24) hx hb hts inlX8 hown hK hP 0 rfl rfl 2 (by decide) (hts _ kw_11_9) (fun _ h9 => h9) rfl dX8_undo_53 ?_
          refine ro_imul (z := nI (457 * (sN - 1))) hx hb (pk_mul 457 (sN - 1)) dX8_undo_56 ?_
          refine lv_iload_n hx hb dX8_undo_57 rfl (lv_at hl 1 rfl) ?_
          refine ro_iadd (z := nI (457 * (sN - 1) + i)) hx hb (nI_add (457 * (sN - 1)) i) dX8_undo_58 ?_
          refine ro_iald (k := 457 * (sN - 1) + i) (v := bw (sN - 1) i) hx hb hK hP 2 0 rfl rfl rfl (by omega) (by decide) (bf_row (by omega)) dX8_undo_59 ?_
          refine ro_iast (k := i) hx hb hK hP hD hS 1 0 rfl rfl rfl (by omega) (by decide) dX8_undo_60 (fun H locs hP hD hS => ?_)
          have hP : va_P D vwCl [(q, .inr (8, [.ref (ma 0), .ref (ma 1), .int (nI (sN - 1)), .ref (ma 2), .int (nI L), .int (nI 0), .ref (ma 3), .ref (ma 4), .ref (ma 5), .ref (ma 6), .int nd, .int ct, .int ht, .ref (ma 7), .ref (ma 8), .ref (ma 9), .ref (ma 10), .ref (ma 11), .ref (ma 12), .ref (ma 13), .ref (ma 14), .int sp, .int iw, .int mn])), (ma 0, .inl (G.1, 457, .inl (upd (cpy (bw (sN - 1)) sr i) i (bw (sN - 1) i)))), (ma 1, .inl (G.1, 2742, .inl (bfF bw)))] H := hP
          have hD : va_D A [(q, .inr (8, [.ref (ma 0), .ref (ma 1), .int (nI (sN - 1)), .ref (ma 2), .int (nI L), .int (nI 0), .ref (ma 3), .ref (ma 4), .ref (ma 5), .ref (ma 6), .int nd, .int ct, .int ht, .ref (ma 7), .ref (ma 8), .ref (ma 9), .ref (ma 10), .ref (ma 11), .ref (ma 12), .ref (ma 13), .ref (ma 14), .int sp, .int iw, .int mn])), (ma 0, .inl (G.1, 457, .inl (upd (cpy (bw (sN - 1)) sr i) i (bw (sN - 1) i)))), (ma 1, .inl (G.1, 2742, .inl (bfF bw)))] := hD
          refine lv_iinc (v := nI (i + 1)) (lv' := [(1, .int (nI (i + 1))), (0, .ref q)]) hx hb dX8_undo_61 hl (k := 1) rfl (nI_add i 1) (by decide) rfl (fun ls hl => ?_)
          refine lv_goto (tgt := 33) hx hb dX8_undo_64 (by decide) ?_
          rw [cpy_succ] at hP hD
          exact ih33 (i + 1) (by omega) (by omega) _ _ _ hP (hD.fst rfl) hS (lv_sub hl [1, 0] rfl)
    rw [← cpy_zero (bw (sN - 1)) sr] at hP hD
    exact lp33 (457 - 0 + 1) 0 (by omega) (Nat.lt_succ_self _) _ _ _ hP (hD.fst rfl) hS (lv_sub hl [1, 0] rfl)
  · have c_5 := neq_t (a := sN) (b := 0) (by omega) (by omega) c_5
    omega
set_option maxHeartbeats 800000 in
set_option maxRecDepth 100000 in
theorem mX8_undo_T1 (l : Launch) (D : va_G) (G : u_G) (q : Nat) (ma : Nat → Nat) (sN L : Nat) (th nd ct ht sp iw mn : Int32) (sr p : Nat → Int32) (x : Nat → Nat) (y : Nat → Int32) (M : Nat)  (hR : RowR sr x y M p) (hM : M ≤ 12) (hc : sN = 0) : MtI l D G yX8_undo cX8_undo 2 .int 3 0 0 [.ref q] [(q, .inr (8, [.ref (ma 0), .ref (ma 1), .int (nI sN), .ref (ma 2), .int (nI L), .int th, .ref (ma 3), .ref (ma 4), .ref (ma 5), .ref (ma 6), .int nd, .int ct, .int ht, .ref (ma 7), .ref (ma 8), .ref (ma 9), .ref (ma 10), .ref (ma 11), .ref (ma 12), .ref (ma 13), .ref (ma 14), .int sp, .int iw, .int mn])), (ma 0, .inl (G.1, 457, .inl sr))] (fun (r : Int32) (_ : Unit) => r = 0) (fun (_ : Unit) => [(q, .inr (8, [.ref (ma 0), .ref (ma 1), .int (nI sN), .ref (ma 2), .int (nI L), .int (nI 1), .ref (ma 3), .ref (ma 4), .ref (ma 5), .ref (ma 6), .int nd, .int ct, .int ht, .ref (ma 7), .ref (ma 8), .ref (ma 9), .ref (ma 10), .ref (ma 11), .ref (ma 12), .ref (ma 13), .ref (ma 14), .int sp, .int iw, .int mn])), (ma 0, .inl (G.1, 457, .inl sr))]) := by
  refine MtI.of (by decide) (Nat.le_of_ble_eq_true rfl) ?_
  intro pr e s9 m9 below meth c9 A ls C hP hD hl
  obtain ⟨hx, hb, hml, hown, hts, hr, hlocks, hA, hAm⟩ := id C
  have hK := hAm.1
  have hS : va_S A s9.heap s9.heap [] := va_S.rf
  have hl : lv_has ls 2 [(0, .ref q)] := hl
  refine lv_aload_n hx hb dX8_undo_0 rfl (lv_at hl 0 rfl) ?_
  refine lv_aload_n hx hb dX8_undo_1 rfl (lv_at hl 0 rfl) ?_
  refine va_get (D := D) (ci := 8) (v := .int (nI sN)) (C := RX8) (T := TX8) (N := 24) hx hb hts inlX8 hown hK hP 0 rfl rfl 2 (by decide) (hts _ kw_11_9) (fun _ h9 => h9) rfl dX8_undo_2 ?_
  refine lv_if_ne (tgt := 12) hx hb dX8_undo_5 (by decide) (fun c_5 => ?_) (fun c_5 => ?_)
  · have c_5 := neq_f (a := sN) (b := 0) (by omega) (by omega) c_5
    omega
  · have c_5 := neq_t (a := sN) (b := 0) (by omega) (by omega) c_5
    refine lv_iconst (v := 1) hx hb dX8_undo_8 (by decide) ?_
    refine lv_goto (tgt := 13) hx hb dX8_undo_9 (by decide) ?_
    refine aftI C (runV_G (As := [.int 1]) (rest := []) (ci := 8) (N := 24) (T := TX8) (q0 := 0) C (mX8_refused l D G q ma sN L th nd ct ht sp iw mn 1 (by omega)) hS hP hD [0] rfl (by decide) rfl rfl (ys_X8_refused) kw_11_0 kw_11_1 kw_11_2 ⟨Nat.le_of_ble_eq_true rfl, Nat.le_of_ble_eq_true rfl⟩ hl.1 (Nat.le_of_ble_eq_true rfl) dX8_undo_13 rfl rfl ⟨Nat.zero_le _, Nat.zero_le _⟩) hS hP hD [0] rfl (fun _ => rfl) (fun r13 _ H locs hp13 hP hD hS => ?_)
    have hP : va_P D vwCl [(q, .inr (8, [.ref (ma 0), .ref (ma 1), .int (nI sN), .ref (ma 2), .int (nI L), .int (nI 1), .ref (ma 3), .ref (ma 4), .ref (ma 5), .ref (ma 6), .int nd, .int ct, .int ht, .ref (ma 7), .ref (ma 8), .ref (ma 9), .ref (ma 10), .ref (ma 11), .ref (ma 12), .ref (ma 13), .ref (ma 14), .int sp, .int iw, .int mn])), (ma 0, .inl (G.1, 457, .inl sr))] H := hP
    have hD : va_D A [(q, .inr (8, [.ref (ma 0), .ref (ma 1), .int (nI sN), .ref (ma 2), .int (nI L), .int (nI 1), .ref (ma 3), .ref (ma 4), .ref (ma 5), .ref (ma 6), .int nd, .int ct, .int ht, .ref (ma 7), .ref (ma 8), .ref (ma 9), .ref (ma 10), .ref (ma 11), .ref (ma 12), .ref (ma 13), .ref (ma 14), .int sp, .int iw, .int mn])), (ma 0, .inl (G.1, 457, .inl sr))] := hD
    refine ro_top (z := bI (0 < 1)) hx hp13 ?_
    refine lv_if_eq (tgt := 21) hx hb dX8_undo_16 (by decide) (fun h => absurd h (by decide)) (fun _ => ?_)
    refine lv_iconst (v := 0) hx hb dX8_undo_19 (by decide) ?_
    exact endI C rfl () rfl hS hP dX8_undo_20
set_option maxHeartbeats 800000 in
set_option maxRecDepth 100000 in
theorem mX8_append (l : Launch) (D : va_G) (G : u_G) (q : Nat) (ma : Nat → Nat) (sN L : Nat) (th nd ct ht sp iw mn : Int32) (t : Nat → Nat) (c : Nat) (h1 : 33 ≤ c) (h2 : c ≤ 126) (hL : L < 60) : MtI l D G yX8_append cX8_append 2 .int 3 0 0 [.ref q, .int (nI c)] [(q, .inr (8, [.ref (ma 0), .ref (ma 1), .int (nI sN), .ref (ma 2), .int (nI L), .int th, .ref (ma 3), .ref (ma 4), .ref (ma 5), .ref (ma 6), .int nd, .int ct, .int ht, .ref (ma 7), .ref (ma 8), .ref (ma 9), .ref (ma 10), .ref (ma 11), .ref (ma 12), .ref (ma 13), .ref (ma 14), .int sp, .int iw, .int mn])), (ma 2, .inl (G.1, 60, .inl (tN t)))] (fun (r : Int32) (_ : Unit) => r = nI (L + 1)) (fun (_ : Unit) => [(q, .inr (8, [.ref (ma 0), .ref (ma 1), .int (nI sN), .ref (ma 2), .int (nI (L + 1)), .int (nI 0), .ref (ma 3), .ref (ma 4), .ref (ma 5), .ref (ma 6), .int nd, .int ct, .int ht, .ref (ma 7), .ref (ma 8), .ref (ma 9), .ref (ma 10), .ref (ma 11), .ref (ma 12), .ref (ma 13), .ref (ma 14), .int sp, .int iw, .int mn])), (ma 2, .inl (G.1, 60, .inl (tN (va_up t L c))))]) := by
  refine MtI.of (by decide) (Nat.le_of_ble_eq_true rfl) ?_
  intro pr e s9 m9 below meth c9 A ls C hP hD hl
  obtain ⟨hx, hb, hml, hown, hts, hr, hlocks, hA, hAm⟩ := id C
  have hK := hAm.1
  have hS : va_S A s9.heap s9.heap [] := va_S.rf
  have hl : lv_has ls 2 [(0, .ref q), (1, .int (nI c))] := hl
  refine lv_aload_n hx hb dX8_append_0 rfl (lv_at hl 0 rfl) ?_
  refine lv_iload_n hx hb dX8_append_1 rfl (lv_at hl 1 rfl) ?_
  refine lv_bipush (v := 33) hx hb dX8_append_2 (by decide) ?_
  refine lv_bipush (v := 126) hx hb dX8_append_4 (by decide) ?_
  refine aftI0 C (runS_G (As := [.int (nI c), .int 33, .int 126]) (rest := [.ref q]) C (mX8_in l D G (nI c) 33 126 ) hS hP hD [] rfl (by decide) (ys_X8_in) kw_10_21 kw_10_22 ⟨Nat.le_of_ble_eq_true rfl, Nat.le_of_ble_eq_true rfl⟩ hl.1 (Nat.le_of_ble_eq_true rfl) dX8_append_6 rfl rfl ⟨Nat.zero_le _, Nat.zero_le _⟩) hS hP hD [] rfl (fun r6 _ H locs hp6 hP hS => ?_)
  refine ro_top (z := bI (¬ (nI c) < 33 ∧ ¬ 126 < (nI c))) hx hp6 ?_
  refine lv_if_ne (tgt := 16) hx hb dX8_append_9 (by decide) (fun c_9 => ?_) (fun c_9 => ?_)
  · have c_9 := bI_1 c_9
    refine lv_aload_n hx hb dX8_append_16 rfl (lv_at hl 0 rfl) ?_
    refine va_get (D := D) (ci := 8) (v := .int (nI L)) (C := RX8) (T := TX8) (N := 24) hx hb hts inlX8 hown hK hP 0 rfl rfl 4 (by decide) (hts _ kw_10_6) (fun _ h9 => h9) rfl dX8_append_17 ?_
    refine lv_bipush (v := 60) hx hb dX8_append_20 (by decide) ?_
    refine lv_icmp_ne (tgt := 29) hx hb dX8_append_22 (by decide) (fun c_22 => ?_) (fun c_22 => ?_)
    · have c_22 := neq_f (a := L) (b := 60) (by omega) (by omega) c_22
      refine lv_iconst (v := 0) hx hb dX8_append_29 (by decide) ?_
      refine aftI C (runV_G (As := [.int 0]) (rest := []) (ci := 8) (N := 24) (T := TX8) (q0 := 0) C (mX8_refused l D G q ma sN L th nd ct ht sp iw mn 0 (by omega)) hS hP hD [0] rfl (by decide) rfl rfl (ys_X8_refused) kw_11_0 kw_11_1 kw_11_2 ⟨Nat.le_of_ble_eq_true rfl, Nat.le_of_ble_eq_true rfl⟩ hl.1 (Nat.le_of_ble_eq_true rfl) dX8_append_30 rfl rfl ⟨Nat.zero_le _, Nat.zero_le _⟩) hS hP hD [0] rfl (fun _ => rfl) (fun r30 _ H locs hp30 hP hD hS => ?_)
      have hP : va_P D vwCl [(q, .inr (8, [.ref (ma 0), .ref (ma 1), .int (nI sN), .ref (ma 2), .int (nI L), .int (nI 0), .ref (ma 3), .ref (ma 4), .ref (ma 5), .ref (ma 6), .int nd, .int ct, .int ht, .ref (ma 7), .ref (ma 8), .ref (ma 9), .ref (ma 10), .ref (ma 11), .ref (ma 12), .ref (ma 13), .ref (ma 14), .int sp, .int iw, .int mn])), (ma 2, .inl (G.1, 60, .inl (tN t)))] H := hP
      have hD : va_D A [(q, .inr (8, [.ref (ma 0), .ref (ma 1), .int (nI sN), .ref (ma 2), .int (nI L), .int (nI 0), .ref (ma 3), .ref (ma 4), .ref (ma 5), .ref (ma 6), .int nd, .int ct, .int ht, .ref (ma 7), .ref (ma 8), .ref (ma 9), .ref (ma 10), .ref (ma 11), .ref (ma 12), .ref (ma 13), .ref (ma 14), .int sp, .int iw, .int mn])), (ma 2, .inl (G.1, 60, .inl (tN t)))] := hD
      refine ro_top (z := bI (0 < 0)) hx hp30 ?_
      refine lv_if_eq (tgt := 38) hx hb dX8_append_33 (by decide) (fun _ => ?_) (fun h => absurd (by decide) h)
      refine lv_aload_n hx hb dX8_append_38 rfl (lv_at hl 0 rfl) ?_
      refine va_get (D := D) (ci := 8) (v := .ref (ma 2)) (C := RX8) (T := TX8) (N := 24) hx hb hts inlX8 hown hK hP 0 rfl rfl 3 (by decide) (hts _ kw_5_8) (fun _ h9 => h9) rfl dX8_append_39 ?_
      refine lv_aload_n hx hb dX8_append_42 rfl (lv_at hl 0 rfl) ?_
      refine va_get (D := D) (ci := 8) (v := .int (nI L)) (C := RX8) (T := TX8) (N := 24) hx hb hts inlX8 hown hK hP 0 rfl rfl 4 (by decide) (hts _ kw_10_6) (fun _ h9 => h9) rfl dX8_append_43 ?_
      refine lv_iload_n hx hb dX8_append_46 rfl (lv_at hl 1 rfl) ?_
      refine ro_iast (k := L) hx hb hK hP hD hS 1 0 rfl rfl rfl (by omega) (by decide) dX8_append_47 (fun H locs hP hD hS => ?_)
      have hP : va_P D vwCl [(q, .inr (8, [.ref (ma 0), .ref (ma 1), .int (nI sN), .ref (ma 2), .int (nI L), .int (nI 0), .ref (ma 3), .ref (ma 4), .ref (ma 5), .ref (ma 6), .int nd, .int ct, .int ht, .ref (ma 7), .ref (ma 8), .ref (ma 9), .ref (ma 10), .ref (ma 11), .ref (ma 12), .ref (ma 13), .ref (ma 14), .int sp, .int iw, .int mn])), (ma 2, .inl (G.1, 60, .inl (upd (tN t) L (nI c))))] H := hP
      have hD : va_D A [(q, .inr (8, [.ref (ma 0), .ref (ma 1), .int (nI sN), .ref (ma 2), .int (nI L), .int (nI 0), .ref (ma 3), .ref (ma 4), .ref (ma 5), .ref (ma 6), .int nd, .int ct, .int ht, .ref (ma 7), .ref (ma 8), .ref (ma 9), .ref (ma 10), .ref (ma 11), .ref (ma 12), .ref (ma 13), .ref (ma 14), .int sp, .int iw, .int mn])), (ma 2, .inl (G.1, 60, .inl (upd (tN t) L (nI c))))] := hD
      refine lv_aload_n hx hb dX8_append_48 rfl (lv_at hl 0 rfl) ?_
      refine lv_dup hx hb dX8_append_49 rfl ?_
      refine va_get (D := D) (ci := 8) (v := .int (nI L)) (C := RX8) (T := TX8) (N := 24) hx hb hts inlX8 hown hK hP 0 rfl rfl 4 (by decide) (hts _ kw_10_6) (fun _ h9 => h9) rfl dX8_append_50 ?_
      refine lv_iconst (v := 1) hx hb dX8_append_53 (by decide) ?_
      refine ro_iadd (z := nI (L + 1)) hx hb (nI_add L 1) dX8_append_54 ?_
      refine va_put (D := D) (ci := 8) (v := .int (nI (L + 1))) (ty := .int) (C := RX8) (T := TX8) (N := 24) hx hb hts inlX8 tyX8 tyX8_ok nmX8 hown hK hP hD hS 0 rfl rfl 4 (by decide) (hts _ kw_10_6) (fun _ h9 => h9) rfl (by decide +kernel) rfl rfl (Nat.le_of_ble_eq_true rfl) dX8_append_55 (fun H locs hP hD hS => ?_)
      have hP : va_P D vwCl [(q, .inr (8, [.ref (ma 0), .ref (ma 1), .int (nI sN), .ref (ma 2), .int (nI (L + 1)), .int (nI 0), .ref (ma 3), .ref (ma 4), .ref (ma 5), .ref (ma 6), .int nd, .int ct, .int ht, .ref (ma 7), .ref (ma 8), .ref (ma 9), .ref (ma 10), .ref (ma 11), .ref (ma 12), .ref (ma 13), .ref (ma 14), .int sp, .int iw, .int mn])), (ma 2, .inl (G.1, 60, .inl (upd (tN t) L (nI c))))] H := hP
      have hD : va_D A [(q, .inr (8, [.ref (ma 0), .ref (ma 1), .int (nI sN), .ref (ma 2), .int (nI (L + 1)), .int (nI 0), .ref (ma 3), .ref (ma 4), .ref (ma 5), .ref (ma 6), .int nd, .int ct, .int ht, .ref (ma 7), .ref (ma 8), .ref (ma 9), .ref (ma 10), .ref (ma 11), .ref (ma 12), .ref (ma 13), .ref (ma 14), .int sp, .int iw, .int mn])), (ma 2, .inl (G.1, 60, .inl (upd (tN t) L (nI c))))] := hD
      refine lv_aload_n hx hb dX8_append_58 rfl (lv_at hl 0 rfl) ?_
      refine va_get (D := D) (ci := 8) (v := .int (nI (L + 1))) (C := RX8) (T := TX8) (N := 24) hx hb hts inlX8 hown hK hP 0 rfl rfl 4 (by decide) (hts _ kw_10_6) (fun _ h9 => h9) rfl dX8_append_59 ?_
      exact endI C rfl () rfl hS (by rw [← tN_up]; exact hP) dX8_append_62
    · have c_22 := neq_t (a := L) (b := 60) (by omega) (by omega) c_22
      omega
  · have c_9 : ¬ (¬ (nI c) < 33 ∧ ¬ 126 < (nI c)) := bI_0 c_9
    exact absurd (nin h1 h2 (by decide)) c_9
set_option maxHeartbeats 800000 in
set_option maxRecDepth 100000 in
theorem mX8_append_T1 (l : Launch) (D : va_G) (G : u_G) (q : Nat) (ma : Nat → Nat) (sN L : Nat) (th nd ct ht sp iw mn : Int32) (t : Nat → Nat) (v : Int32) (hbad : ¬ (¬ v < 33 ∧ ¬ 126 < v)) : MtI l D G yX8_append cX8_append 2 .int 3 0 0 [.ref q, .int v] [(q, .inr (8, [.ref (ma 0), .ref (ma 1), .int (nI sN), .ref (ma 2), .int (nI L), .int th, .ref (ma 3), .ref (ma 4), .ref (ma 5), .ref (ma 6), .int nd, .int ct, .int ht, .ref (ma 7), .ref (ma 8), .ref (ma 9), .ref (ma 10), .ref (ma 11), .ref (ma 12), .ref (ma 13), .ref (ma 14), .int sp, .int iw, .int mn])), (ma 2, .inl (G.1, 60, .inl (tN t)))] (fun (r : Int32) (_ : Unit) => r = 0) (fun (_ : Unit) => [(q, .inr (8, [.ref (ma 0), .ref (ma 1), .int (nI sN), .ref (ma 2), .int (nI L), .int (nI 1), .ref (ma 3), .ref (ma 4), .ref (ma 5), .ref (ma 6), .int nd, .int ct, .int ht, .ref (ma 7), .ref (ma 8), .ref (ma 9), .ref (ma 10), .ref (ma 11), .ref (ma 12), .ref (ma 13), .ref (ma 14), .int sp, .int iw, .int mn])), (ma 2, .inl (G.1, 60, .inl (tN t)))]) := by
  refine MtI.of (by decide) (Nat.le_of_ble_eq_true rfl) ?_
  intro pr e s9 m9 below meth c9 A ls C hP hD hl
  obtain ⟨hx, hb, hml, hown, hts, hr, hlocks, hA, hAm⟩ := id C
  have hK := hAm.1
  have hS : va_S A s9.heap s9.heap [] := va_S.rf
  have hl : lv_has ls 2 [(0, .ref q), (1, .int v)] := hl
  refine lv_aload_n hx hb dX8_append_0 rfl (lv_at hl 0 rfl) ?_
  refine lv_iload_n hx hb dX8_append_1 rfl (lv_at hl 1 rfl) ?_
  refine lv_bipush (v := 33) hx hb dX8_append_2 (by decide) ?_
  refine lv_bipush (v := 126) hx hb dX8_append_4 (by decide) ?_
  refine aftI0 C (runS_G (As := [.int v, .int 33, .int 126]) (rest := [.ref q]) C (mX8_in l D G v 33 126 ) hS hP hD [] rfl (by decide) (ys_X8_in) kw_10_21 kw_10_22 ⟨Nat.le_of_ble_eq_true rfl, Nat.le_of_ble_eq_true rfl⟩ hl.1 (Nat.le_of_ble_eq_true rfl) dX8_append_6 rfl rfl ⟨Nat.zero_le _, Nat.zero_le _⟩) hS hP hD [] rfl (fun r6 _ H locs hp6 hP hS => ?_)
  refine ro_top (z := bI (¬ v < 33 ∧ ¬ 126 < v)) hx hp6 ?_
  refine lv_if_ne (tgt := 16) hx hb dX8_append_9 (by decide) (fun c_9 => ?_) (fun c_9 => ?_)
  · have c_9 := bI_1 c_9
    exact absurd c_9 hbad
  · have c_9 : ¬ (¬ v < 33 ∧ ¬ 126 < v) := bI_0 c_9
    refine lv_iconst (v := 1) hx hb dX8_append_12 (by decide) ?_
    refine lv_goto (tgt := 30) hx hb dX8_append_13 (by decide) ?_
    refine aftI C (runV_G (As := [.int 1]) (rest := []) (ci := 8) (N := 24) (T := TX8) (q0 := 0) C (mX8_refused l D G q ma sN L th nd ct ht sp iw mn 1 (by omega)) hS hP hD [0] rfl (by decide) rfl rfl (ys_X8_refused) kw_11_0 kw_11_1 kw_11_2 ⟨Nat.le_of_ble_eq_true rfl, Nat.le_of_ble_eq_true rfl⟩ hl.1 (Nat.le_of_ble_eq_true rfl) dX8_append_30 rfl rfl ⟨Nat.zero_le _, Nat.zero_le _⟩) hS hP hD [0] rfl (fun _ => rfl) (fun r30 _ H locs hp30 hP hD hS => ?_)
    have hP : va_P D vwCl [(q, .inr (8, [.ref (ma 0), .ref (ma 1), .int (nI sN), .ref (ma 2), .int (nI L), .int (nI 1), .ref (ma 3), .ref (ma 4), .ref (ma 5), .ref (ma 6), .int nd, .int ct, .int ht, .ref (ma 7), .ref (ma 8), .ref (ma 9), .ref (ma 10), .ref (ma 11), .ref (ma 12), .ref (ma 13), .ref (ma 14), .int sp, .int iw, .int mn])), (ma 2, .inl (G.1, 60, .inl (tN t)))] H := hP
    have hD : va_D A [(q, .inr (8, [.ref (ma 0), .ref (ma 1), .int (nI sN), .ref (ma 2), .int (nI L), .int (nI 1), .ref (ma 3), .ref (ma 4), .ref (ma 5), .ref (ma 6), .int nd, .int ct, .int ht, .ref (ma 7), .ref (ma 8), .ref (ma 9), .ref (ma 10), .ref (ma 11), .ref (ma 12), .ref (ma 13), .ref (ma 14), .int sp, .int iw, .int mn])), (ma 2, .inl (G.1, 60, .inl (tN t)))] := hD
    refine ro_top (z := bI (0 < 1)) hx hp30 ?_
    refine lv_if_eq (tgt := 38) hx hb dX8_append_33 (by decide) (fun h => absurd h (by decide)) (fun _ => ?_)
    refine lv_iconst (v := 0) hx hb dX8_append_36 (by decide) ?_
    exact endI C rfl () rfl hS hP dX8_append_37
set_option maxHeartbeats 800000 in
set_option maxRecDepth 100000 in
theorem mX8_append_T2 (l : Launch) (D : va_G) (G : u_G) (q : Nat) (ma : Nat → Nat) (sN L : Nat) (th nd ct ht sp iw mn : Int32) (t : Nat → Nat) (c : Nat) (h1 : 33 ≤ c) (h2 : c ≤ 126) (hL : L = 60) : MtI l D G yX8_append cX8_append 2 .int 3 0 0 [.ref q, .int (nI c)] [(q, .inr (8, [.ref (ma 0), .ref (ma 1), .int (nI sN), .ref (ma 2), .int (nI L), .int th, .ref (ma 3), .ref (ma 4), .ref (ma 5), .ref (ma 6), .int nd, .int ct, .int ht, .ref (ma 7), .ref (ma 8), .ref (ma 9), .ref (ma 10), .ref (ma 11), .ref (ma 12), .ref (ma 13), .ref (ma 14), .int sp, .int iw, .int mn])), (ma 2, .inl (G.1, 60, .inl (tN t)))] (fun (r : Int32) (_ : Unit) => r = 0) (fun (_ : Unit) => [(q, .inr (8, [.ref (ma 0), .ref (ma 1), .int (nI sN), .ref (ma 2), .int (nI L), .int (nI 2), .ref (ma 3), .ref (ma 4), .ref (ma 5), .ref (ma 6), .int nd, .int ct, .int ht, .ref (ma 7), .ref (ma 8), .ref (ma 9), .ref (ma 10), .ref (ma 11), .ref (ma 12), .ref (ma 13), .ref (ma 14), .int sp, .int iw, .int mn])), (ma 2, .inl (G.1, 60, .inl (tN t)))]) := by
  refine MtI.of (by decide) (Nat.le_of_ble_eq_true rfl) ?_
  intro pr e s9 m9 below meth c9 A ls C hP hD hl
  obtain ⟨hx, hb, hml, hown, hts, hr, hlocks, hA, hAm⟩ := id C
  have hK := hAm.1
  have hS : va_S A s9.heap s9.heap [] := va_S.rf
  have hl : lv_has ls 2 [(0, .ref q), (1, .int (nI c))] := hl
  refine lv_aload_n hx hb dX8_append_0 rfl (lv_at hl 0 rfl) ?_
  refine lv_iload_n hx hb dX8_append_1 rfl (lv_at hl 1 rfl) ?_
  refine lv_bipush (v := 33) hx hb dX8_append_2 (by decide) ?_
  refine lv_bipush (v := 126) hx hb dX8_append_4 (by decide) ?_
  refine aftI0 C (runS_G (As := [.int (nI c), .int 33, .int 126]) (rest := [.ref q]) C (mX8_in l D G (nI c) 33 126 ) hS hP hD [] rfl (by decide) (ys_X8_in) kw_10_21 kw_10_22 ⟨Nat.le_of_ble_eq_true rfl, Nat.le_of_ble_eq_true rfl⟩ hl.1 (Nat.le_of_ble_eq_true rfl) dX8_append_6 rfl rfl ⟨Nat.zero_le _, Nat.zero_le _⟩) hS hP hD [] rfl (fun r6 _ H locs hp6 hP hS => ?_)
  refine ro_top (z := bI (¬ (nI c) < 33 ∧ ¬ 126 < (nI c))) hx hp6 ?_
  refine lv_if_ne (tgt := 16) hx hb dX8_append_9 (by decide) (fun c_9 => ?_) (fun c_9 => ?_)
  · have c_9 := bI_1 c_9
    refine lv_aload_n hx hb dX8_append_16 rfl (lv_at hl 0 rfl) ?_
    refine va_get (D := D) (ci := 8) (v := .int (nI L)) (C := RX8) (T := TX8) (N := 24) hx hb hts inlX8 hown hK hP 0 rfl rfl 4 (by decide) (hts _ kw_10_6) (fun _ h9 => h9) rfl dX8_append_17 ?_
    refine lv_bipush (v := 60) hx hb dX8_append_20 (by decide) ?_
    refine lv_icmp_ne (tgt := 29) hx hb dX8_append_22 (by decide) (fun c_22 => ?_) (fun c_22 => ?_)
    · have c_22 := neq_f (a := L) (b := 60) (by omega) (by omega) c_22
      omega
    · have c_22 := neq_t (a := L) (b := 60) (by omega) (by omega) c_22
      refine lv_iconst (v := 2) hx hb dX8_append_25 (by decide) ?_
      refine lv_goto (tgt := 30) hx hb dX8_append_26 (by decide) ?_
      refine aftI C (runV_G (As := [.int 2]) (rest := []) (ci := 8) (N := 24) (T := TX8) (q0 := 0) C (mX8_refused l D G q ma sN L th nd ct ht sp iw mn 2 (by omega)) hS hP hD [0] rfl (by decide) rfl rfl (ys_X8_refused) kw_11_0 kw_11_1 kw_11_2 ⟨Nat.le_of_ble_eq_true rfl, Nat.le_of_ble_eq_true rfl⟩ hl.1 (Nat.le_of_ble_eq_true rfl) dX8_append_30 rfl rfl ⟨Nat.zero_le _, Nat.zero_le _⟩) hS hP hD [0] rfl (fun _ => rfl) (fun r30 _ H locs hp30 hP hD hS => ?_)
      have hP : va_P D vwCl [(q, .inr (8, [.ref (ma 0), .ref (ma 1), .int (nI sN), .ref (ma 2), .int (nI L), .int (nI 2), .ref (ma 3), .ref (ma 4), .ref (ma 5), .ref (ma 6), .int nd, .int ct, .int ht, .ref (ma 7), .ref (ma 8), .ref (ma 9), .ref (ma 10), .ref (ma 11), .ref (ma 12), .ref (ma 13), .ref (ma 14), .int sp, .int iw, .int mn])), (ma 2, .inl (G.1, 60, .inl (tN t)))] H := hP
      have hD : va_D A [(q, .inr (8, [.ref (ma 0), .ref (ma 1), .int (nI sN), .ref (ma 2), .int (nI L), .int (nI 2), .ref (ma 3), .ref (ma 4), .ref (ma 5), .ref (ma 6), .int nd, .int ct, .int ht, .ref (ma 7), .ref (ma 8), .ref (ma 9), .ref (ma 10), .ref (ma 11), .ref (ma 12), .ref (ma 13), .ref (ma 14), .int sp, .int iw, .int mn])), (ma 2, .inl (G.1, 60, .inl (tN t)))] := hD
      refine ro_top (z := bI (0 < 2)) hx hp30 ?_
      refine lv_if_eq (tgt := 38) hx hb dX8_append_33 (by decide) (fun h => absurd h (by decide)) (fun _ => ?_)
      refine lv_iconst (v := 0) hx hb dX8_append_36 (by decide) ?_
      exact endI C rfl () rfl hS hP dX8_append_37
  · have c_9 : ¬ (¬ (nI c) < 33 ∧ ¬ 126 < (nI c)) := bI_0 c_9
    exact absurd (nin h1 h2 (by decide)) c_9
set_option maxHeartbeats 800000 in
set_option maxRecDepth 100000 in
theorem mX8_firstError (l : Launch) (D : va_G) (G : u_G) (q : Nat) (ma : Nat → Nat) (sN L : Nat) (th nd ct ht sp iw mn : Int32) (t : Nat → Nat) (F : Nat → Int32)  (hL : L ≤ 60) (htx : ∀ k, k < L → t k < 128) : MtI l D G yX8_firstError cX8_firstError 1 .int 4 0 0 [.ref q] [(q, .inr (8, [.ref (ma 0), .ref (ma 1), .int (nI sN), .ref (ma 2), .int (nI L), .int th, .ref (ma 3), .ref (ma 4), .ref (ma 5), .ref (ma 6), .int nd, .int ct, .int ht, .ref (ma 7), .ref (ma 8), .ref (ma 9), .ref (ma 10), .ref (ma 11), .ref (ma 12), .ref (ma 13), .ref (ma 14), .int sp, .int iw, .int mn])), (ma 2, .inl (G.1, 60, .inl (tN t)))] (fun (r : Int32) (u : Int32 × Nat) => r = nI (rdA t L F).1) (fun (u : Int32 × Nat) => [(q, .inr (8, [.ref (ma 0), .ref (ma 1), .int (nI sN), .ref (ma 2), .int (nI L), .int (nI 0), .ref (ma 3), .ref (ma 4), .ref (ma 5), .ref (ma 6), .int nd, .int ct, .int ht, .ref (ma 7), .ref (ma 8), .ref (ma 9), .ref (ma 10), .ref (ma 11), .ref (ma 12), .ref (ma 13), .ref (ma 14), .int (nI ((rdA t L F).1)), .int u.1, .int (nI u.2)])), (ma 2, .inl (G.1, 60, .inl (tN t)))]) := by
  refine MtI.of (by decide) (Nat.le_of_ble_eq_true rfl) ?_
  intro pr e s9 m9 below meth c9 A ls C hP hD hl
  obtain ⟨hx, hb, hml, hown, hts, hr, hlocks, hA, hAm⟩ := id C
  have hK := hAm.1
  have hS : va_S A s9.heap s9.heap [] := va_S.rf
  have hl : lv_has ls 1 [(0, .ref q)] := hl
  refine lv_aload_n hx hb dX8_firstError_0 rfl (lv_at hl 0 rfl) ?_
  refine lv_iconst (v := 0) hx hb dX8_firstError_1 (by decide) ?_
  refine va_put (D := D) (ci := 8) (v := .int 0) (ty := .int) (C := RX8) (T := TX8) (N := 24) hx hb hts inlX8 tyX8 tyX8_ok nmX8 hown hK hP hD hS 0 rfl rfl 5 (by decide) (hts _ kw_11_4) (fun _ h9 => h9) rfl (by decide +kernel) rfl rfl (Nat.le_of_ble_eq_true rfl) dX8_firstError_2 (fun H locs hP hD hS => ?_)
  have hP : va_P D vwCl [(q, .inr (8, [.ref (ma 0), .ref (ma 1), .int (nI sN), .ref (ma 2), .int (nI L), .int 0, .ref (ma 3), .ref (ma 4), .ref (ma 5), .ref (ma 6), .int nd, .int ct, .int ht, .ref (ma 7), .ref (ma 8), .ref (ma 9), .ref (ma 10), .ref (ma 11), .ref (ma 12), .ref (ma 13), .ref (ma 14), .int sp, .int iw, .int mn])), (ma 2, .inl (G.1, 60, .inl (tN t)))] H := hP
  have hD : va_D A [(q, .inr (8, [.ref (ma 0), .ref (ma 1), .int (nI sN), .ref (ma 2), .int (nI L), .int 0, .ref (ma 3), .ref (ma 4), .ref (ma 5), .ref (ma 6), .int nd, .int ct, .int ht, .ref (ma 7), .ref (ma 8), .ref (ma 9), .ref (ma 10), .ref (ma 11), .ref (ma 12), .ref (ma 13), .ref (ma 14), .int sp, .int iw, .int mn])), (ma 2, .inl (G.1, 60, .inl (tN t)))] := hD
  refine lv_aload_n hx hb dX8_firstError_5 rfl (lv_at hl 0 rfl) ?_
  refine lv_iconst (v := 0) hx hb dX8_firstError_6 (by decide) ?_
  refine aftI C (runV_G (As := [.int 0]) (rest := []) (ci := 8) (N := 24) (T := TX8) (q0 := 0) C (mX8_isWhole l D G q ma sN L 0 nd ct ht sp iw mn t F hL htx) hS hP hD [0, 1] rfl (by decide) rfl rfl (ys_X8_isWhole) kw_10_7 kw_10_8 kw_10_9 ⟨Nat.le_of_ble_eq_true rfl, Nat.le_of_ble_eq_true rfl⟩ hl.1 (Nat.le_of_ble_eq_true rfl) dX8_firstError_7 rfl rfl ⟨Nat.zero_le _, Nat.zero_le _⟩) hS hP hD [0, 1] rfl (fun _ => rfl) (fun r7 u7 H locs hp7 hP hD hS => ?_)
  have hP : va_P D vwCl [(q, .inr (8, [.ref (ma 0), .ref (ma 1), .int (nI sN), .ref (ma 2), .int (nI L), .int 0, .ref (ma 3), .ref (ma 4), .ref (ma 5), .ref (ma 6), .int nd, .int ct, .int ht, .ref (ma 7), .ref (ma 8), .ref (ma 9), .ref (ma 10), .ref (ma 11), .ref (ma 12), .ref (ma 13), .ref (ma 14), .int (nI ((rdA t L F).1)), .int u7.1, .int (nI u7.2)])), (ma 2, .inl (G.1, 60, .inl (tN t)))] H := hP
  have hD : va_D A [(q, .inr (8, [.ref (ma 0), .ref (ma 1), .int (nI sN), .ref (ma 2), .int (nI L), .int 0, .ref (ma 3), .ref (ma 4), .ref (ma 5), .ref (ma 6), .int nd, .int ct, .int ht, .ref (ma 7), .ref (ma 8), .ref (ma 9), .ref (ma 10), .ref (ma 11), .ref (ma 12), .ref (ma 13), .ref (ma 14), .int (nI ((rdA t L F).1)), .int u7.1, .int (nI u7.2)])), (ma 2, .inl (G.1, 60, .inl (tN t)))] := hD
  refine ro_top (z := bI ((rdA t L F).1 = L ∧ 0 < (rdA t L F).2.2.1)) hx hp7.1 ?_
  refine lv_if_eq (tgt := 20) hx hb dX8_firstError_10 (by decide) (fun c_10 => ?_) (fun c_10 => ?_)
  · have c_10 := bI_0 c_10
    refine lv_aload_n hx hb dX8_firstError_20 rfl (lv_at hl 0 rfl) ?_
    refine va_get (D := D) (ci := 8) (v := .int (nI ((rdA t L F).1))) (C := RX8) (T := TX8) (N := 24) hx hb hts inlX8 hown hK hP 0 rfl rfl 21 (by decide) (hts _ kw_10_11) (fun _ h9 => h9) rfl dX8_firstError_21 ?_
    exact endI C rfl u7 rfl hS hP dX8_firstError_24
  · have c_10 := bI_1 c_10
    refine lv_aload_n hx hb dX8_firstError_13 rfl (lv_at hl 0 rfl) ?_
    refine va_get (D := D) (ci := 8) (v := .int (nI L)) (C := RX8) (T := TX8) (N := 24) hx hb hts inlX8 hown hK hP 0 rfl rfl 4 (by decide) (hts _ kw_10_6) (fun _ h9 => h9) rfl dX8_firstError_14 ?_
    refine lv_goto (tgt := 24) hx hb dX8_firstError_17 (by decide) ?_
    exact endI C rfl u7 (congrArg nI c_10.1.symm) hS hP dX8_firstError_24
set_option maxHeartbeats 800000 in
set_option maxRecDepth 100000 in
theorem mX8_load_T1 (l : Launch) (D : va_G) (G : u_G) (q : Nat) (ma : Nat → Nat) (sN L : Nat) (th nd ct ht sp iw mn : Int32) (sr p : Nat → Int32) (x : Nat → Nat) (y : Nat → Int32) (M : Nat) (t : Nat → Nat) (F : Nat → Int32)  (hL : L ≤ 60) (htx : ∀ k, k < L → t k < 128) (hbad : ¬ ((rdA t L F).1 = L ∧ 0 < (rdA t L F).2.2.1)) : MtI l D G yX8_load cX8_load 3 .int 4 0 0 [.ref q] [(q, .inr (8, [.ref (ma 0), .ref (ma 1), .int (nI sN), .ref (ma 2), .int (nI L), .int th, .ref (ma 3), .ref (ma 4), .ref (ma 5), .ref (ma 6), .int nd, .int ct, .int ht, .ref (ma 7), .ref (ma 8), .ref (ma 9), .ref (ma 10), .ref (ma 11), .ref (ma 12), .ref (ma 13), .ref (ma 14), .int sp, .int iw, .int mn])), (ma 0, .inl (G.1, 457, .inl sr)), (ma 2, .inl (G.1, 60, .inl (tN t)))] (fun (r : Int32) (u : Int32 × Nat) => r = 0) (fun (u : Int32 × Nat) => [(q, .inr (8, [.ref (ma 0), .ref (ma 1), .int (nI sN), .ref (ma 2), .int (nI L), .int (nI 1), .ref (ma 3), .ref (ma 4), .ref (ma 5), .ref (ma 6), .int nd, .int ct, .int ht, .ref (ma 7), .ref (ma 8), .ref (ma 9), .ref (ma 10), .ref (ma 11), .ref (ma 12), .ref (ma 13), .ref (ma 14), .int (nI ((rdA t L F).1)), .int u.1, .int (nI u.2)])), (ma 0, .inl (G.1, 457, .inl sr)), (ma 2, .inl (G.1, 60, .inl (tN t)))]) := by
  refine MtI.of (by decide) (Nat.le_of_ble_eq_true rfl) ?_
  intro pr e s9 m9 below meth c9 A ls C hP hD hl
  obtain ⟨hx, hb, hml, hown, hts, hr, hlocks, hA, hAm⟩ := id C
  have hK := hAm.1
  have hS : va_S A s9.heap s9.heap [] := va_S.rf
  have hl : lv_has ls 3 [(0, .ref q)] := hl
  refine lv_aload_n hx hb dX8_load_0 rfl (lv_at hl 0 rfl) ?_
  refine lv_aload_n hx hb dX8_load_1 rfl (lv_at hl 0 rfl) ?_
  refine lv_iconst (v := 0) hx hb dX8_load_2 (by decide) ?_
  refine aftI C (runV_G (As := [.int 0]) (rest := [.ref q]) (ci := 8) (N := 24) (T := TX8) (q0 := 0) C (mX8_isWhole l D G q ma sN L th nd ct ht sp iw mn t F hL htx) hS hP hD [0, 2] rfl (by decide) rfl rfl (ys_X8_isWhole) kw_10_7 kw_10_8 kw_10_9 ⟨Nat.le_of_ble_eq_true rfl, Nat.le_of_ble_eq_true rfl⟩ hl.1 (Nat.le_of_ble_eq_true rfl) dX8_load_3 rfl rfl ⟨Nat.zero_le _, Nat.zero_le _⟩) hS hP hD [0, 2] rfl (fun _ => rfl) (fun r3 u3 H locs hp3 hP hD hS => ?_)
  have hP : va_P D vwCl [(q, .inr (8, [.ref (ma 0), .ref (ma 1), .int (nI sN), .ref (ma 2), .int (nI L), .int th, .ref (ma 3), .ref (ma 4), .ref (ma 5), .ref (ma 6), .int nd, .int ct, .int ht, .ref (ma 7), .ref (ma 8), .ref (ma 9), .ref (ma 10), .ref (ma 11), .ref (ma 12), .ref (ma 13), .ref (ma 14), .int (nI ((rdA t L F).1)), .int u3.1, .int (nI u3.2)])), (ma 0, .inl (G.1, 457, .inl sr)), (ma 2, .inl (G.1, 60, .inl (tN t)))] H := hP
  have hD : va_D A [(q, .inr (8, [.ref (ma 0), .ref (ma 1), .int (nI sN), .ref (ma 2), .int (nI L), .int th, .ref (ma 3), .ref (ma 4), .ref (ma 5), .ref (ma 6), .int nd, .int ct, .int ht, .ref (ma 7), .ref (ma 8), .ref (ma 9), .ref (ma 10), .ref (ma 11), .ref (ma 12), .ref (ma 13), .ref (ma 14), .int (nI ((rdA t L F).1)), .int u3.1, .int (nI u3.2)])), (ma 0, .inl (G.1, 457, .inl sr)), (ma 2, .inl (G.1, 60, .inl (tN t)))] := hD
  refine ro_top (z := bI ((rdA t L F).1 = L ∧ 0 < (rdA t L F).2.2.1)) hx hp3.1 ?_
  refine lv_if_eq (tgt := 13) hx hb dX8_load_6 (by decide) (fun c_6 => ?_) (fun c_6 => ?_)
  · have c_6 := bI_0 c_6
    refine lv_iconst (v := 1) hx hb dX8_load_13 (by decide) ?_
    refine aftI C (runV_G (As := [.int 1]) (rest := []) (ci := 8) (N := 24) (T := TX8) (q0 := 0) C (mX8_refused l D G q ma sN L th nd ct ht (nI ((rdA t L F).1)) u3.1 (nI u3.2) 1 (by omega)) hS hP hD [0] rfl (by decide) rfl rfl (ys_X8_refused) kw_11_0 kw_11_1 kw_11_2 ⟨Nat.le_of_ble_eq_true rfl, Nat.le_of_ble_eq_true rfl⟩ hl.1 (Nat.le_of_ble_eq_true rfl) dX8_load_14 rfl rfl ⟨Nat.zero_le _, Nat.zero_le _⟩) hS hP hD [0] rfl (fun _ => rfl) (fun r14 _ H locs hp14 hP hD hS => ?_)
    have hP : va_P D vwCl [(q, .inr (8, [.ref (ma 0), .ref (ma 1), .int (nI sN), .ref (ma 2), .int (nI L), .int (nI 1), .ref (ma 3), .ref (ma 4), .ref (ma 5), .ref (ma 6), .int nd, .int ct, .int ht, .ref (ma 7), .ref (ma 8), .ref (ma 9), .ref (ma 10), .ref (ma 11), .ref (ma 12), .ref (ma 13), .ref (ma 14), .int (nI ((rdA t L F).1)), .int u3.1, .int (nI u3.2)])), (ma 0, .inl (G.1, 457, .inl sr)), (ma 2, .inl (G.1, 60, .inl (tN t)))] H := hP
    have hD : va_D A [(q, .inr (8, [.ref (ma 0), .ref (ma 1), .int (nI sN), .ref (ma 2), .int (nI L), .int (nI 1), .ref (ma 3), .ref (ma 4), .ref (ma 5), .ref (ma 6), .int nd, .int ct, .int ht, .ref (ma 7), .ref (ma 8), .ref (ma 9), .ref (ma 10), .ref (ma 11), .ref (ma 12), .ref (ma 13), .ref (ma 14), .int (nI ((rdA t L F).1)), .int u3.1, .int (nI u3.2)])), (ma 0, .inl (G.1, 457, .inl sr)), (ma 2, .inl (G.1, 60, .inl (tN t)))] := hD
    refine ro_top (z := bI (0 < 1)) hx hp14 ?_
    refine lv_if_eq (tgt := 22) hx hb dX8_load_17 (by decide) (fun h => absurd h (by decide)) (fun _ => ?_)
    refine lv_iconst (v := 0) hx hb dX8_load_20 (by decide) ?_
    exact endI C rfl u3 rfl hS hP dX8_load_21
  · have c_6 := bI_1 c_6
    exact absurd c_6 hbad
set_option maxHeartbeats 800000 in
set_option maxRecDepth 100000 in
theorem mX8_load (l : Launch) (D : va_G) (G : u_G) (q : Nat) (ma : Nat → Nat) (sN L : Nat) (th nd ct ht sp iw mn : Int32) (sr p : Nat → Int32) (x : Nat → Nat) (y : Nat → Int32) (M : Nat) (bw : Nat → Nat → Int32) (t : Nat → Nat) (F : Nat → Int32)  (hR : RowR sr x y M p) (hM : M ≤ 12) (hsN : sN ≤ 6) (hL : L ≤ 60) (htx : ∀ k, k < L → t k < 128) (hv1 : (rdA t L F).1 = L) (hv2 : 0 < (rdA t L F).2.2.1) : MtI l D G yX8_load cX8_load 3 .int 4 0 0 [.ref q] [(q, .inr (8, [.ref (ma 0), .ref (ma 1), .int (nI sN), .ref (ma 2), .int (nI L), .int th, .ref (ma 3), .ref (ma 4), .ref (ma 5), .ref (ma 6), .int nd, .int ct, .int ht, .ref (ma 7), .ref (ma 8), .ref (ma 9), .ref (ma 10), .ref (ma 11), .ref (ma 12), .ref (ma 13), .ref (ma 14), .int sp, .int iw, .int mn])), (ma 0, .inl (G.1, 457, .inl sr)), (ma 2, .inl (G.1, 60, .inl (tN t))), (ma 1, .inl (G.1, 2742, .inl (bfF bw)))] (fun (r : Int32) (u : Int32 × (Nat → Int32)) => r = nI (rdA t L F).2.1 ∧ RowR u.2 (ldX x (rdA t L F).2.1) (ldY y) (rdA t L F).2.1 (rdA t L F).2.2.2) (fun (u : Int32 × (Nat → Int32)) => [(q, .inr (8, [.ref (ma 0), .ref (ma 1), .int (nI (svN sN)), .ref (ma 2), .int (nI 0), .int (nI 0), .ref (ma 3), .ref (ma 4), .ref (ma 5), .ref (ma 6), .int nd, .int ct, .int ht, .ref (ma 7), .ref (ma 8), .ref (ma 9), .ref (ma 10), .ref (ma 11), .ref (ma 12), .ref (ma 13), .ref (ma 14), .int (nI ((rdA t L F).1)), .int u.1, .int (nI ((rdA t L F).2.1))])), (ma 0, .inl (G.1, 457, .inl u.2)), (ma 2, .inl (G.1, 60, .inl (tN t))), (ma 1, .inl (G.1, 2742, .inl (bfF (svR bw sr sN))))]) := by
  refine MtI.of (by decide) (Nat.le_of_ble_eq_true rfl) ?_
  intro pr e s9 m9 below meth c9 A ls C hP hD hl
  obtain ⟨hx, hb, hml, hown, hts, hr, hlocks, hA, hAm⟩ := id C
  have hK := hAm.1
  have hS : va_S A s9.heap s9.heap [] := va_S.rf
  have hl : lv_has ls 3 [(0, .ref q)] := hl
  have hq2 := rdA_num t L F
  refine lv_aload_n hx hb dX8_load_0 rfl (lv_at hl 0 rfl) ?_
  refine lv_aload_n hx hb dX8_load_1 rfl (lv_at hl 0 rfl) ?_
  refine lv_iconst (v := 0) hx hb dX8_load_2 (by decide) ?_
  refine aftI C (runV_G (As := [.int 0]) (rest := [.ref q]) (ci := 8) (N := 24) (T := TX8) (q0 := 0) C (mX8_isWhole l D G q ma sN L th nd ct ht sp iw mn t F hL htx) hS hP hD [0, 2] rfl (by decide) rfl rfl (ys_X8_isWhole) kw_10_7 kw_10_8 kw_10_9 ⟨Nat.le_of_ble_eq_true rfl, Nat.le_of_ble_eq_true rfl⟩ hl.1 (Nat.le_of_ble_eq_true rfl) dX8_load_3 rfl rfl ⟨Nat.zero_le _, Nat.zero_le _⟩) hS hP hD [0, 2] rfl (fun _ => rfl) (fun r3 u3 H locs hp3 hP hD hS => ?_)
  have hP : va_P D vwCl [(q, .inr (8, [.ref (ma 0), .ref (ma 1), .int (nI sN), .ref (ma 2), .int (nI L), .int th, .ref (ma 3), .ref (ma 4), .ref (ma 5), .ref (ma 6), .int nd, .int ct, .int ht, .ref (ma 7), .ref (ma 8), .ref (ma 9), .ref (ma 10), .ref (ma 11), .ref (ma 12), .ref (ma 13), .ref (ma 14), .int (nI ((rdA t L F).1)), .int u3.1, .int (nI u3.2)])), (ma 0, .inl (G.1, 457, .inl sr)), (ma 2, .inl (G.1, 60, .inl (tN t))), (ma 1, .inl (G.1, 2742, .inl (bfF bw)))] H := hP
  have hD : va_D A [(q, .inr (8, [.ref (ma 0), .ref (ma 1), .int (nI sN), .ref (ma 2), .int (nI L), .int th, .ref (ma 3), .ref (ma 4), .ref (ma 5), .ref (ma 6), .int nd, .int ct, .int ht, .ref (ma 7), .ref (ma 8), .ref (ma 9), .ref (ma 10), .ref (ma 11), .ref (ma 12), .ref (ma 13), .ref (ma 14), .int (nI ((rdA t L F).1)), .int u3.1, .int (nI u3.2)])), (ma 0, .inl (G.1, 457, .inl sr)), (ma 2, .inl (G.1, 60, .inl (tN t))), (ma 1, .inl (G.1, 2742, .inl (bfF bw)))] := hD
  refine ro_top (z := bI ((rdA t L F).1 = L ∧ 0 < (rdA t L F).2.2.1)) hx hp3.1 ?_
  refine lv_if_eq (tgt := 13) hx hb dX8_load_6 (by decide) (fun c_6 => ?_) (fun c_6 => ?_)
  · have c_6 := bI_0 c_6
    exact absurd ⟨hv1, hv2⟩ c_6
  · have c_6 := bI_1 c_6
    refine lv_iconst (v := 0) hx hb dX8_load_9 (by decide) ?_
    refine lv_goto (tgt := 14) hx hb dX8_load_10 (by decide) ?_
    refine aftI C (runV_G (As := [.int 0]) (rest := []) (ci := 8) (N := 24) (T := TX8) (q0 := 0) C (mX8_refused l D G q ma sN L th nd ct ht (nI ((rdA t L F).1)) u3.1 (nI u3.2) 0 (by omega)) hS hP hD [0] rfl (by decide) rfl rfl (ys_X8_refused) kw_11_0 kw_11_1 kw_11_2 ⟨Nat.le_of_ble_eq_true rfl, Nat.le_of_ble_eq_true rfl⟩ hl.1 (Nat.le_of_ble_eq_true rfl) dX8_load_14 rfl rfl ⟨Nat.zero_le _, Nat.zero_le _⟩) hS hP hD [0] rfl (fun _ => rfl) (fun r14 _ H locs hp14 hP hD hS => ?_)
    have hP : va_P D vwCl [(q, .inr (8, [.ref (ma 0), .ref (ma 1), .int (nI sN), .ref (ma 2), .int (nI L), .int (nI 0), .ref (ma 3), .ref (ma 4), .ref (ma 5), .ref (ma 6), .int nd, .int ct, .int ht, .ref (ma 7), .ref (ma 8), .ref (ma 9), .ref (ma 10), .ref (ma 11), .ref (ma 12), .ref (ma 13), .ref (ma 14), .int (nI ((rdA t L F).1)), .int u3.1, .int (nI u3.2)])), (ma 0, .inl (G.1, 457, .inl sr)), (ma 2, .inl (G.1, 60, .inl (tN t))), (ma 1, .inl (G.1, 2742, .inl (bfF bw)))] H := hP
    have hD : va_D A [(q, .inr (8, [.ref (ma 0), .ref (ma 1), .int (nI sN), .ref (ma 2), .int (nI L), .int (nI 0), .ref (ma 3), .ref (ma 4), .ref (ma 5), .ref (ma 6), .int nd, .int ct, .int ht, .ref (ma 7), .ref (ma 8), .ref (ma 9), .ref (ma 10), .ref (ma 11), .ref (ma 12), .ref (ma 13), .ref (ma 14), .int (nI ((rdA t L F).1)), .int u3.1, .int (nI u3.2)])), (ma 0, .inl (G.1, 457, .inl sr)), (ma 2, .inl (G.1, 60, .inl (tN t))), (ma 1, .inl (G.1, 2742, .inl (bfF bw)))] := hD
    refine ro_top (z := bI (0 < 0)) hx hp14 ?_
    refine lv_if_eq (tgt := 22) hx hb dX8_load_17 (by decide) (fun _ => ?_) (fun h => absurd (by decide) h)
    refine lv_aload_n hx hb dX8_load_22 rfl (lv_at hl 0 rfl) ?_
    refine aftV C (runV_G (As := []) (rest := []) (ci := 8) (N := 24) (T := TX8) (q0 := 0) C (mX8_saves l D G q ma sN L (nI 0) nd ct ht (nI ((rdA t L F).1)) u3.1 (nI u3.2) sr bw hsN) hS hP hD [0, 1, 3] rfl (by decide) rfl rfl (ys_X8_saves) kw_11_5 kw_11_6 kw_11_7 ⟨Nat.le_of_ble_eq_true rfl, Nat.le_of_ble_eq_true rfl⟩ hl.1 (Nat.le_of_ble_eq_true rfl) dX8_load_23 rfl rfl ⟨Nat.zero_le _, Nat.zero_le _⟩) hS hP hD [0, 1, 3] rfl (fun _ => rfl) (fun _ H locs hp23 hP hD hS => ?_)
    have hP : va_P D vwCl [(q, .inr (8, [.ref (ma 0), .ref (ma 1), .int (nI (svN sN)), .ref (ma 2), .int (nI L), .int (nI 0), .ref (ma 3), .ref (ma 4), .ref (ma 5), .ref (ma 6), .int nd, .int ct, .int ht, .ref (ma 7), .ref (ma 8), .ref (ma 9), .ref (ma 10), .ref (ma 11), .ref (ma 12), .ref (ma 13), .ref (ma 14), .int (nI ((rdA t L F).1)), .int u3.1, .int (nI u3.2)])), (ma 0, .inl (G.1, 457, .inl sr)), (ma 2, .inl (G.1, 60, .inl (tN t))), (ma 1, .inl (G.1, 2742, .inl (bfF (svR bw sr sN))))] H := hP
    have hD : va_D A [(q, .inr (8, [.ref (ma 0), .ref (ma 1), .int (nI (svN sN)), .ref (ma 2), .int (nI L), .int (nI 0), .ref (ma 3), .ref (ma 4), .ref (ma 5), .ref (ma 6), .int nd, .int ct, .int ht, .ref (ma 7), .ref (ma 8), .ref (ma 9), .ref (ma 10), .ref (ma 11), .ref (ma 12), .ref (ma 13), .ref (ma 14), .int (nI ((rdA t L F).1)), .int u3.1, .int (nI u3.2)])), (ma 0, .inl (G.1, 457, .inl sr)), (ma 2, .inl (G.1, 60, .inl (tN t))), (ma 1, .inl (G.1, 2742, .inl (bfF (svR bw sr sN))))] := hD
    refine lv_aload_n hx hb dX8_load_26 rfl (lv_at hl 0 rfl) ?_
    refine lv_iconst (v := 1) hx hb dX8_load_27 (by decide) ?_
    refine aftI C (runV_G (As := [.int 1]) (rest := []) (ci := 8) (N := 24) (T := TX8) (q0 := 0) C (mX8_isWhole_k l D G q ma (svN sN) L (nI 0) nd ct ht (nI ((rdA t L F).1)) u3.1 (nI u3.2) t F sr hL htx hv1 hv2) hS hP hD [0, 2, 1] rfl (by decide) rfl rfl (ys_X8_isWhole) kw_10_7 kw_10_8 kw_10_9 ⟨Nat.le_of_ble_eq_true rfl, Nat.le_of_ble_eq_true rfl⟩ hl.1 (Nat.le_of_ble_eq_true rfl) dX8_load_28 rfl rfl ⟨Nat.zero_le _, Nat.zero_le _⟩) hS hP hD [0, 2, 1] rfl (fun _ => rfl) (fun r28 u28 H locs hp28 hP hD hS => ?_)
    have hP : va_P D vwCl [(q, .inr (8, [.ref (ma 0), .ref (ma 1), .int (nI (svN sN)), .ref (ma 2), .int (nI L), .int (nI 0), .ref (ma 3), .ref (ma 4), .ref (ma 5), .ref (ma 6), .int nd, .int ct, .int ht, .ref (ma 7), .ref (ma 8), .ref (ma 9), .ref (ma 10), .ref (ma 11), .ref (ma 12), .ref (ma 13), .ref (ma 14), .int (nI ((rdA t L F).1)), .int u28.1, .int (nI ((rdA t L F).2.1))])), (ma 0, .inl (G.1, 457, .inl u28.2)), (ma 2, .inl (G.1, 60, .inl (tN t))), (ma 1, .inl (G.1, 2742, .inl (bfF (svR bw sr sN))))] H := hP
    have hD : va_D A [(q, .inr (8, [.ref (ma 0), .ref (ma 1), .int (nI (svN sN)), .ref (ma 2), .int (nI L), .int (nI 0), .ref (ma 3), .ref (ma 4), .ref (ma 5), .ref (ma 6), .int nd, .int ct, .int ht, .ref (ma 7), .ref (ma 8), .ref (ma 9), .ref (ma 10), .ref (ma 11), .ref (ma 12), .ref (ma 13), .ref (ma 14), .int (nI ((rdA t L F).1)), .int u28.1, .int (nI ((rdA t L F).2.1))])), (ma 0, .inl (G.1, 457, .inl u28.2)), (ma 2, .inl (G.1, 60, .inl (tN t))), (ma 1, .inl (G.1, 2742, .inl (bfF (svR bw sr sN))))] := hD
    obtain ⟨hr28, hK28⟩ := hp28
    refine ro_top (z := 1) hx hr28 ?_
    refine lv_istore_n (lv' := [(1, .int 1), (0, .ref q)]) hx hb dX8_load_31 rfl hl (by decide) rfl (fun ls hl => ?_)
    refine lv_aload_n hx hb dX8_load_32 rfl (lv_at hl 1 rfl) ?_
    refine va_get (D := D) (ci := 8) (v := .int (nI ((rdA t L F).2.1))) (C := RX8) (T := TX8) (N := 24) hx hb hts inlX8 hown hK hP 0 rfl rfl 23 (by decide) (hts _ kw_10_5) (fun _ h9 => h9) rfl dX8_load_33 ?_
    refine lv_istore_n (lv' := [(2, .int (nI ((rdA t L F).2.1))), (1, .int 1), (0, .ref q)]) hx hb dX8_load_36 rfl hl (by decide) rfl (fun ls hl => ?_)
    have lp37 : ∀ (n37 : Nat) (k : Nat) (r9v : Nat → Int32) (hk1 : (rdA t L F).2.1 ≤ k) (hk2 : k ≤ 12) (hKP : KP r9v sr (rdA t L F).2.2.2 (rdA t L F).2.1) (_ : 12 - k < n37) (H : Heap) (locs : List Loc) (ls : Array Slot), va_P D vwCl [(q, .inr (8, [.ref (ma 0), .ref (ma 1), .int (nI (svN sN)), .ref (ma 2), .int (nI L), .int (nI 0), .ref (ma 3), .ref (ma 4), .ref (ma 5), .ref (ma 6), .int nd, .int ct, .int ht, .ref (ma 7), .ref (ma 8), .ref (ma 9), .ref (ma 10), .ref (ma 11), .ref (ma 12), .ref (ma 13), .ref (ma 14), .int (nI ((rdA t L F).1)), .int u28.1, .int (nI ((rdA t L F).2.1))])), (ma 0, .inl (G.1, 457, .inl r9v)), (ma 2, .inl (G.1, 60, .inl (tN t))), (ma 1, .inl (G.1, 2742, .inl (bfF (svR bw sr sN))))] H → va_D A [(q, .inr (8, [.ref (ma 0), .ref (ma 1), .int (nI (svN sN)), .ref (ma 2), .int (nI L), .int (nI 0), .ref (ma 3), .ref (ma 4), .ref (ma 5), .ref (ma 6), .int nd, .int ct, .int ht, .ref (ma 7), .ref (ma 8), .ref (ma 9), .ref (ma 10), .ref (ma 11), .ref (ma 12), .ref (ma 13), .ref (ma 14), .int (nI ((rdA t L F).1)), .int u28.1, .int (nI ((rdA t L F).2.1))])), (ma 0, .inl (G.1, 457, .inl r9v)), (ma 2, .inl (G.1, 60, .inl (tN t))), (ma 1, .inl (G.1, 2742, .inl (bfF (svR bw sr sN))))] → va_S A s9.heap H locs → lv_has ls 3 [(0, .ref q), (2, .int (nI k))] → W pr l e (rmG 4 0 0) s9 m9 (List.toArray [.ref q]) below meth c9 H locs 0 0 (MQ below (va_Qi (fun (r : Int32) (u : Int32 × (Nat → Int32)) => r = nI (rdA t L F).2.1 ∧ RowR u.2 (ldX x (rdA t L F).2.1) (ldY y) (rdA t L F).2.1 (rdA t L F).2.2.2) (fun u9 t9 => WB D ((fun (u : Int32 × (Nat → Int32)) => [(q, .inr (8, [.ref (ma 0), .ref (ma 1), .int (nI (svN sN)), .ref (ma 2), .int (nI 0), .int (nI 0), .ref (ma 3), .ref (ma 4), .ref (ma 5), .ref (ma 6), .int nd, .int ct, .int ht, .ref (ma 7), .ref (ma 8), .ref (ma 9), .ref (ma 10), .ref (ma 11), .ref (ma 12), .ref (ma 13), .ref (ma 14), .int (nI ((rdA t L F).1)), .int u.1, .int (nI ((rdA t L F).2.1))])), (ma 0, .inl (G.1, 457, .inl u.2)), (ma 2, .inl (G.1, 60, .inl (tN t))), (ma 1, .inl (G.1, 2742, .inl (bfF (svR bw sr sN))))]) u9) t9) A) (List.toArray [.ref q]) s9 0 0 A) (F0 m9 37 ls []) := by
      intro n37
      induction n37 with
      | zero => intro k r9v hk1 hk2 hKP hm; exact absurd hm (Nat.not_lt_zero _)
      | succ n37 ih37 =>
        intro k r9v hk1 hk2 hKP hm H locs ls hP hD hS hl
        refine lv_iload_n hx hb dX8_load_37 rfl (lv_at hl 1 rfl) ?_
        refine lv_bipush (v := 12) hx hb dX8_load_38 (by decide) ?_
        refine lv_icmp_ge (tgt := 58) hx hb dX8_load_40 (by decide) (fun c_40 => ?_) (fun c_40 => ?_)
        · have c_40 := nle_t (a := 12) (b := k) (by omega) (by omega) c_40
          refine lv_aload_n hx hb dX8_load_58 rfl (lv_at hl 0 rfl) ?_
          refine va_get (D := D) (ci := 8) (v := .ref (ma 0)) (C := RX8) (T := TX8) (N := 24) hx hb hts inlX8 hown hK hP 0 rfl rfl 0 (by decide) (hts _ kw_5_6) (fun _ h9 => h9) rfl dX8_load_59 ?_
          refine lv_iconst (v := 0) hx hb dX8_load_62 (by decide) ?_
          refine lv_aload_n hx hb dX8_load_63 rfl (lv_at hl 0 rfl) ?_
          refine va_get (D := D) (ci := 8) (v := .int (nI ((rdA t L F).2.1))) (C := RX8) (T := TX8) (N := 24) hx hb hts inlX8 hown hK hP 0 rfl rfl 23 (by decide) (hts _ kw_10_5) (fun _ h9 => h9) rfl dX8_load_64 ?_
          refine ro_iast (k := 0) hx hb hK hP hD hS 1 0 rfl rfl rfl (by decide) (by decide) dX8_load_67 (fun H locs hP hD hS => ?_)
          have hP : va_P D vwCl [(q, .inr (8, [.ref (ma 0), .ref (ma 1), .int (nI (svN sN)), .ref (ma 2), .int (nI L), .int (nI 0), .ref (ma 3), .ref (ma 4), .ref (ma 5), .ref (ma 6), .int nd, .int ct, .int ht, .ref (ma 7), .ref (ma 8), .ref (ma 9), .ref (ma 10), .ref (ma 11), .ref (ma 12), .ref (ma 13), .ref (ma 14), .int (nI ((rdA t L F).1)), .int u28.1, .int (nI ((rdA t L F).2.1))])), (ma 0, .inl (G.1, 457, .inl (upd r9v 0 (nI ((rdA t L F).2.1))))), (ma 2, .inl (G.1, 60, .inl (tN t))), (ma 1, .inl (G.1, 2742, .inl (bfF (svR bw sr sN))))] H := hP
          have hD : va_D A [(q, .inr (8, [.ref (ma 0), .ref (ma 1), .int (nI (svN sN)), .ref (ma 2), .int (nI L), .int (nI 0), .ref (ma 3), .ref (ma 4), .ref (ma 5), .ref (ma 6), .int nd, .int ct, .int ht, .ref (ma 7), .ref (ma 8), .ref (ma 9), .ref (ma 10), .ref (ma 11), .ref (ma 12), .ref (ma 13), .ref (ma 14), .int (nI ((rdA t L F).1)), .int u28.1, .int (nI ((rdA t L F).2.1))])), (ma 0, .inl (G.1, 457, .inl (upd r9v 0 (nI ((rdA t L F).2.1))))), (ma 2, .inl (G.1, 60, .inl (tN t))), (ma 1, .inl (G.1, 2742, .inl (bfF (svR bw sr sN))))] := hD
          refine lv_aload_n hx hb dX8_load_68 rfl (lv_at hl 0 rfl) ?_
          refine va_get (D := D) (ci := 8) (v := .ref (ma 0)) (C := RX8) (T := TX8) (N := 24) hx hb hts inlX8 hown hK hP 0 rfl rfl 0 (by decide) (hts _ kw_5_6) (fun _ h9 => h9) rfl dX8_load_69 ?_
          refine lv_bipush (v := 13) hx hb dX8_load_72 (by decide) ?_
          refine lv_iconst (v := 0) hx hb dX8_load_74 (by decide) ?_
          refine ro_iast (k := 13) hx hb hK hP hD hS 1 0 rfl rfl rfl (by decide) (by decide) dX8_load_75 (fun H locs hP hD hS => ?_)
          have hP : va_P D vwCl [(q, .inr (8, [.ref (ma 0), .ref (ma 1), .int (nI (svN sN)), .ref (ma 2), .int (nI L), .int (nI 0), .ref (ma 3), .ref (ma 4), .ref (ma 5), .ref (ma 6), .int nd, .int ct, .int ht, .ref (ma 7), .ref (ma 8), .ref (ma 9), .ref (ma 10), .ref (ma 11), .ref (ma 12), .ref (ma 13), .ref (ma 14), .int (nI ((rdA t L F).1)), .int u28.1, .int (nI ((rdA t L F).2.1))])), (ma 0, .inl (G.1, 457, .inl (upd (upd r9v 0 (nI ((rdA t L F).2.1))) 13 0))), (ma 2, .inl (G.1, 60, .inl (tN t))), (ma 1, .inl (G.1, 2742, .inl (bfF (svR bw sr sN))))] H := hP
          have hD : va_D A [(q, .inr (8, [.ref (ma 0), .ref (ma 1), .int (nI (svN sN)), .ref (ma 2), .int (nI L), .int (nI 0), .ref (ma 3), .ref (ma 4), .ref (ma 5), .ref (ma 6), .int nd, .int ct, .int ht, .ref (ma 7), .ref (ma 8), .ref (ma 9), .ref (ma 10), .ref (ma 11), .ref (ma 12), .ref (ma 13), .ref (ma 14), .int (nI ((rdA t L F).1)), .int u28.1, .int (nI ((rdA t L F).2.1))])), (ma 0, .inl (G.1, 457, .inl (upd (upd r9v 0 (nI ((rdA t L F).2.1))) 13 0))), (ma 2, .inl (G.1, 60, .inl (tN t))), (ma 1, .inl (G.1, 2742, .inl (bfF (svR bw sr sN))))] := hD
          refine lv_aload_n hx hb dX8_load_76 rfl (lv_at hl 0 rfl) ?_
          refine va_get (D := D) (ci := 8) (v := .ref (ma 0)) (C := RX8) (T := TX8) (N := 24) hx hb hts inlX8 hown hK hP 0 rfl rfl 0 (by decide) (hts _ kw_5_6) (fun _ h9 => h9) rfl dX8_load_77 ?_
          refine lv_bipush (v := 14) hx hb dX8_load_80 (by decide) ?_
          refine lv_aload_n hx hb dX8_load_82 rfl (lv_at hl 0 rfl) ?_
          refine va_get (D := D) (ci := 8) (v := .int (nI ((rdA t L F).2.1))) (C := RX8) (T := TX8) (N := 24) hx hb hts inlX8 hown hK hP 0 rfl rfl 23 (by decide) (hts _ kw_10_5) (fun _ h9 => h9) rfl dX8_load_83 ?_
          refine ro_iast (k := 14) hx hb hK hP hD hS 1 0 rfl rfl rfl (by decide) (by decide) dX8_load_86 (fun H locs hP hD hS => ?_)
          have hP : va_P D vwCl [(q, .inr (8, [.ref (ma 0), .ref (ma 1), .int (nI (svN sN)), .ref (ma 2), .int (nI L), .int (nI 0), .ref (ma 3), .ref (ma 4), .ref (ma 5), .ref (ma 6), .int nd, .int ct, .int ht, .ref (ma 7), .ref (ma 8), .ref (ma 9), .ref (ma 10), .ref (ma 11), .ref (ma 12), .ref (ma 13), .ref (ma 14), .int (nI ((rdA t L F).1)), .int u28.1, .int (nI ((rdA t L F).2.1))])), (ma 0, .inl (G.1, 457, .inl (upd (upd (upd r9v 0 (nI ((rdA t L F).2.1))) 13 0) 14 (nI ((rdA t L F).2.1))))), (ma 2, .inl (G.1, 60, .inl (tN t))), (ma 1, .inl (G.1, 2742, .inl (bfF (svR bw sr sN))))] H := hP
          have hD : va_D A [(q, .inr (8, [.ref (ma 0), .ref (ma 1), .int (nI (svN sN)), .ref (ma 2), .int (nI L), .int (nI 0), .ref (ma 3), .ref (ma 4), .ref (ma 5), .ref (ma 6), .int nd, .int ct, .int ht, .ref (ma 7), .ref (ma 8), .ref (ma 9), .ref (ma 10), .ref (ma 11), .ref (ma 12), .ref (ma 13), .ref (ma 14), .int (nI ((rdA t L F).1)), .int u28.1, .int (nI ((rdA t L F).2.1))])), (ma 0, .inl (G.1, 457, .inl (upd (upd (upd r9v 0 (nI ((rdA t L F).2.1))) 13 0) 14 (nI ((rdA t L F).2.1))))), (ma 2, .inl (G.1, 60, .inl (tN t))), (ma 1, .inl (G.1, 2742, .inl (bfF (svR bw sr sN))))] := hD
          refine lv_aload_n hx hb dX8_load_87 rfl (lv_at hl 0 rfl) ?_
          refine va_get (D := D) (ci := 8) (v := .ref (ma 0)) (C := RX8) (T := TX8) (N := 24) hx hb hts inlX8 hown hK hP 0 rfl rfl 0 (by decide) (hts _ kw_5_6) (fun _ h9 => h9) rfl dX8_load_88 ?_
          refine lv_bipush (v := 15) hx hb dX8_load_91 (by decide) ?_
          refine lv_iconst (v := 0) hx hb dX8_load_93 (by decide) ?_
          refine ro_iast (k := 15) hx hb hK hP hD hS 1 0 rfl rfl rfl (by decide) (by decide) dX8_load_94 (fun H locs hP hD hS => ?_)
          have hP : va_P D vwCl [(q, .inr (8, [.ref (ma 0), .ref (ma 1), .int (nI (svN sN)), .ref (ma 2), .int (nI L), .int (nI 0), .ref (ma 3), .ref (ma 4), .ref (ma 5), .ref (ma 6), .int nd, .int ct, .int ht, .ref (ma 7), .ref (ma 8), .ref (ma 9), .ref (ma 10), .ref (ma 11), .ref (ma 12), .ref (ma 13), .ref (ma 14), .int (nI ((rdA t L F).1)), .int u28.1, .int (nI ((rdA t L F).2.1))])), (ma 0, .inl (G.1, 457, .inl (upd (upd (upd (upd r9v 0 (nI ((rdA t L F).2.1))) 13 0) 14 (nI ((rdA t L F).2.1))) 15 0))), (ma 2, .inl (G.1, 60, .inl (tN t))), (ma 1, .inl (G.1, 2742, .inl (bfF (svR bw sr sN))))] H := hP
          have hD : va_D A [(q, .inr (8, [.ref (ma 0), .ref (ma 1), .int (nI (svN sN)), .ref (ma 2), .int (nI L), .int (nI 0), .ref (ma 3), .ref (ma 4), .ref (ma 5), .ref (ma 6), .int nd, .int ct, .int ht, .ref (ma 7), .ref (ma 8), .ref (ma 9), .ref (ma 10), .ref (ma 11), .ref (ma 12), .ref (ma 13), .ref (ma 14), .int (nI ((rdA t L F).1)), .int u28.1, .int (nI ((rdA t L F).2.1))])), (ma 0, .inl (G.1, 457, .inl (upd (upd (upd (upd r9v 0 (nI ((rdA t L F).2.1))) 13 0) 14 (nI ((rdA t L F).2.1))) 15 0))), (ma 2, .inl (G.1, 60, .inl (tN t))), (ma 1, .inl (G.1, 2742, .inl (bfF (svR bw sr sN))))] := hD
          refine lv_aload_n hx hb dX8_load_95 rfl (lv_at hl 0 rfl) ?_
          refine va_get (D := D) (ci := 8) (v := .ref (ma 0)) (C := RX8) (T := TX8) (N := 24) hx hb hts inlX8 hown hK hP 0 rfl rfl 0 (by decide) (hts _ kw_5_6) (fun _ h9 => h9) rfl dX8_load_96 ?_
          refine lv_bipush (v := 16) hx hb dX8_load_99 (by decide) ?_
          refine lv_iconst (v := 0) hx hb dX8_load_101 (by decide) ?_
          refine ro_iast (k := 16) hx hb hK hP hD hS 1 0 rfl rfl rfl (by decide) (by decide) dX8_load_102 (fun H locs hP hD hS => ?_)
          have hP : va_P D vwCl [(q, .inr (8, [.ref (ma 0), .ref (ma 1), .int (nI (svN sN)), .ref (ma 2), .int (nI L), .int (nI 0), .ref (ma 3), .ref (ma 4), .ref (ma 5), .ref (ma 6), .int nd, .int ct, .int ht, .ref (ma 7), .ref (ma 8), .ref (ma 9), .ref (ma 10), .ref (ma 11), .ref (ma 12), .ref (ma 13), .ref (ma 14), .int (nI ((rdA t L F).1)), .int u28.1, .int (nI ((rdA t L F).2.1))])), (ma 0, .inl (G.1, 457, .inl (upd (upd (upd (upd (upd r9v 0 (nI ((rdA t L F).2.1))) 13 0) 14 (nI ((rdA t L F).2.1))) 15 0) 16 0))), (ma 2, .inl (G.1, 60, .inl (tN t))), (ma 1, .inl (G.1, 2742, .inl (bfF (svR bw sr sN))))] H := hP
          have hD : va_D A [(q, .inr (8, [.ref (ma 0), .ref (ma 1), .int (nI (svN sN)), .ref (ma 2), .int (nI L), .int (nI 0), .ref (ma 3), .ref (ma 4), .ref (ma 5), .ref (ma 6), .int nd, .int ct, .int ht, .ref (ma 7), .ref (ma 8), .ref (ma 9), .ref (ma 10), .ref (ma 11), .ref (ma 12), .ref (ma 13), .ref (ma 14), .int (nI ((rdA t L F).1)), .int u28.1, .int (nI ((rdA t L F).2.1))])), (ma 0, .inl (G.1, 457, .inl (upd (upd (upd (upd (upd r9v 0 (nI ((rdA t L F).2.1))) 13 0) 14 (nI ((rdA t L F).2.1))) 15 0) 16 0))), (ma 2, .inl (G.1, 60, .inl (tN t))), (ma 1, .inl (G.1, 2742, .inl (bfF (svR bw sr sN))))] := hD
          refine lv_aload_n hx hb dX8_load_103 rfl (lv_at hl 0 rfl) ?_
          refine va_get (D := D) (ci := 8) (v := .ref (ma 0)) (C := RX8) (T := TX8) (N := 24) hx hb hts inlX8 hown hK hP 0 rfl rfl 0 (by decide) (hts _ kw_5_6) (fun _ h9 => h9) rfl dX8_load_104 ?_
          refine lv_bipush (v := 17) hx hb dX8_load_107 (by decide) ?_
          refine lv_iconst (v := 0) hx hb dX8_load_109 (by decide) ?_
          refine ro_iast (k := 17) hx hb hK hP hD hS 1 0 rfl rfl rfl (by decide) (by decide) dX8_load_110 (fun H locs hP hD hS => ?_)
          have hP : va_P D vwCl [(q, .inr (8, [.ref (ma 0), .ref (ma 1), .int (nI (svN sN)), .ref (ma 2), .int (nI L), .int (nI 0), .ref (ma 3), .ref (ma 4), .ref (ma 5), .ref (ma 6), .int nd, .int ct, .int ht, .ref (ma 7), .ref (ma 8), .ref (ma 9), .ref (ma 10), .ref (ma 11), .ref (ma 12), .ref (ma 13), .ref (ma 14), .int (nI ((rdA t L F).1)), .int u28.1, .int (nI ((rdA t L F).2.1))])), (ma 0, .inl (G.1, 457, .inl (upd (upd (upd (upd (upd (upd r9v 0 (nI ((rdA t L F).2.1))) 13 0) 14 (nI ((rdA t L F).2.1))) 15 0) 16 0) 17 0))), (ma 2, .inl (G.1, 60, .inl (tN t))), (ma 1, .inl (G.1, 2742, .inl (bfF (svR bw sr sN))))] H := hP
          have hD : va_D A [(q, .inr (8, [.ref (ma 0), .ref (ma 1), .int (nI (svN sN)), .ref (ma 2), .int (nI L), .int (nI 0), .ref (ma 3), .ref (ma 4), .ref (ma 5), .ref (ma 6), .int nd, .int ct, .int ht, .ref (ma 7), .ref (ma 8), .ref (ma 9), .ref (ma 10), .ref (ma 11), .ref (ma 12), .ref (ma 13), .ref (ma 14), .int (nI ((rdA t L F).1)), .int u28.1, .int (nI ((rdA t L F).2.1))])), (ma 0, .inl (G.1, 457, .inl (upd (upd (upd (upd (upd (upd r9v 0 (nI ((rdA t L F).2.1))) 13 0) 14 (nI ((rdA t L F).2.1))) 15 0) 16 0) 17 0))), (ma 2, .inl (G.1, 60, .inl (tN t))), (ma 1, .inl (G.1, 2742, .inl (bfF (svR bw sr sN))))] := hD
          refine lv_aload_n hx hb dX8_load_111 rfl (lv_at hl 0 rfl) ?_
          refine lv_iconst (v := 0) hx hb dX8_load_112 (by decide) ?_
          refine va_put (D := D) (ci := 8) (v := .int 0) (ty := .int) (C := RX8) (T := TX8) (N := 24) hx hb hts inlX8 tyX8 tyX8_ok nmX8 hown hK hP hD hS 0 rfl rfl 4 (by decide) (hts _ kw_10_6) (fun _ h9 => h9) rfl (by decide +kernel) rfl rfl (Nat.le_of_ble_eq_true rfl) dX8_load_113 (fun H locs hP hD hS => ?_)
          have hP : va_P D vwCl [(q, .inr (8, [.ref (ma 0), .ref (ma 1), .int (nI (svN sN)), .ref (ma 2), .int 0, .int (nI 0), .ref (ma 3), .ref (ma 4), .ref (ma 5), .ref (ma 6), .int nd, .int ct, .int ht, .ref (ma 7), .ref (ma 8), .ref (ma 9), .ref (ma 10), .ref (ma 11), .ref (ma 12), .ref (ma 13), .ref (ma 14), .int (nI ((rdA t L F).1)), .int u28.1, .int (nI ((rdA t L F).2.1))])), (ma 0, .inl (G.1, 457, .inl (upd (upd (upd (upd (upd (upd r9v 0 (nI ((rdA t L F).2.1))) 13 0) 14 (nI ((rdA t L F).2.1))) 15 0) 16 0) 17 0))), (ma 2, .inl (G.1, 60, .inl (tN t))), (ma 1, .inl (G.1, 2742, .inl (bfF (svR bw sr sN))))] H := hP
          have hD : va_D A [(q, .inr (8, [.ref (ma 0), .ref (ma 1), .int (nI (svN sN)), .ref (ma 2), .int 0, .int (nI 0), .ref (ma 3), .ref (ma 4), .ref (ma 5), .ref (ma 6), .int nd, .int ct, .int ht, .ref (ma 7), .ref (ma 8), .ref (ma 9), .ref (ma 10), .ref (ma 11), .ref (ma 12), .ref (ma 13), .ref (ma 14), .int (nI ((rdA t L F).1)), .int u28.1, .int (nI ((rdA t L F).2.1))])), (ma 0, .inl (G.1, 457, .inl (upd (upd (upd (upd (upd (upd r9v 0 (nI ((rdA t L F).2.1))) 13 0) 14 (nI ((rdA t L F).2.1))) 15 0) 16 0) 17 0))), (ma 2, .inl (G.1, 60, .inl (tN t))), (ma 1, .inl (G.1, 2742, .inl (bfF (svR bw sr sN))))] := hD
          refine lv_aload_n hx hb dX8_load_116 rfl (lv_at hl 0 rfl) ?_
          refine va_get (D := D) (ci := 8) (v := .int (nI ((rdA t L F).2.1))) (C := RX8) (T := TX8) (N := 24) hx hb hts inlX8 hown hK hP 0 rfl rfl 23 (by decide) (hts _ kw_10_5) (fun _ h9 => h9) rfl dX8_load_117 ?_
          exact endI C rfl (u28.1, upd (upd (upd (upd (upd (upd r9v 0 (nI ((rdA t L F).2.1))) 13 0) 14 (nI ((rdA t L F).2.1))) 15 0) 16 0) 17 0) ⟨rfl, hR.ld (by omega) hKP⟩ hS hP dX8_load_120
        · have c_40 := nle_f (a := 12) (b := k) (by omega) (by omega) c_40
          refine lv_aload_n hx hb dX8_load_43 rfl (lv_at hl 0 rfl) ?_
          refine va_get (D := D) (ci := 8) (v := .ref (ma 0)) (C := RX8) (T := TX8) (N := 24) hx hb hts inlX8 hown hK hP 0 rfl rfl 0 (by decide) (hts _ kw_5_6) (fun _ h9 => h9) rfl dX8_load_44 ?_
          refine lv_iconst (v := 1) hx hb dX8_load_47 (by decide) ?_
          refine lv_iload_n hx hb dX8_load_48 rfl (lv_at hl 1 rfl) ?_
          refine ro_iadd (z := nI (1 + k)) hx hb (nI_add 1 k) dX8_load_49 ?_
          refine lv_iconst (v := 0) hx hb dX8_load_50 (by decide) ?_
          refine ro_iast (k := 1 + k) hx hb hK hP hD hS 1 0 rfl rfl rfl (by omega) (by decide) dX8_load_51 (fun H locs hP hD hS => ?_)
          have hP : va_P D vwCl [(q, .inr (8, [.ref (ma 0), .ref (ma 1), .int (nI (svN sN)), .ref (ma 2), .int (nI L), .int (nI 0), .ref (ma 3), .ref (ma 4), .ref (ma 5), .ref (ma 6), .int nd, .int ct, .int ht, .ref (ma 7), .ref (ma 8), .ref (ma 9), .ref (ma 10), .ref (ma 11), .ref (ma 12), .ref (ma 13), .ref (ma 14), .int (nI ((rdA t L F).1)), .int u28.1, .int (nI ((rdA t L F).2.1))])), (ma 0, .inl (G.1, 457, .inl (upd r9v (1 + k) 0))), (ma 2, .inl (G.1, 60, .inl (tN t))), (ma 1, .inl (G.1, 2742, .inl (bfF (svR bw sr sN))))] H := hP
          have hD : va_D A [(q, .inr (8, [.ref (ma 0), .ref (ma 1), .int (nI (svN sN)), .ref (ma 2), .int (nI L), .int (nI 0), .ref (ma 3), .ref (ma 4), .ref (ma 5), .ref (ma 6), .int nd, .int ct, .int ht, .ref (ma 7), .ref (ma 8), .ref (ma 9), .ref (ma 10), .ref (ma 11), .ref (ma 12), .ref (ma 13), .ref (ma 14), .int (nI ((rdA t L F).1)), .int u28.1, .int (nI ((rdA t L F).2.1))])), (ma 0, .inl (G.1, 457, .inl (upd r9v (1 + k) 0))), (ma 2, .inl (G.1, 60, .inl (tN t))), (ma 1, .inl (G.1, 2742, .inl (bfF (svR bw sr sN))))] := hD
          refine lv_iinc (v := nI (k + 1)) (lv' := [(2, .int (nI (k + 1))), (0, .ref q)]) hx hb dX8_load_52 hl (k := 1) rfl (nI_add k 1) (by decide) rfl (fun ls hl => ?_)
          refine lv_goto (tgt := 37) hx hb dX8_load_55 (by decide) ?_
          exact ih37 (k + 1) (upd r9v (1 + k) 0) (by omega) (by omega) (KP_zr hKP hk1 (by omega)) (by omega) _ _ _ hP (hD.fst rfl) hS (lv_sub hl [1, 0] rfl)
    exact lp37 (12 - ((rdA t L F).2.1) + 1) ((rdA t L F).2.1) u28.2 (Nat.le_refl _) (by omega) hK28 (Nat.lt_succ_self _) _ _ _ hP (hD.fst rfl) hS (lv_sub hl [2, 0] rfl)
set_option maxHeartbeats 800000 in
set_option maxRecDepth 100000 in
theorem mX8_playBest (l : Launch) (D : va_G) (G : u_G) (q : Nat) (ma : Nat → Nat) (sN L : Nat) (th nd ct ht sp iw mn : Int32) (sr p : Nat → Int32) (x : Nat → Nat) (y : Nat → Int32) (M : Nat) (bw : Nat → Nat → Int32) (fl : Nat → Int32) (k : Nat) (hR : RowR sr x y M p) (hM : M ≤ 12) (hfn : x 13 + x 14 ≤ M) (hPR : PR p) (hsN : sN ≤ 6) (ht9 : x 15 ≤ 1) (h1 : 1 ≤ k) (h2 : k ≤ 12) : MtI l D G yX8_playBest cX8_playBest 4 .int 7 0 0 [.ref q, .int (nI k)] [(q, .inr (8, [.ref (ma 0), .ref (ma 1), .int (nI sN), .ref (ma 2), .int (nI L), .int th, .ref (ma 3), .ref (ma 4), .ref (ma 5), .ref (ma 6), .int nd, .int ct, .int ht, .ref (ma 7), .ref (ma 8), .ref (ma 9), .ref (ma 10), .ref (ma 11), .ref (ma 12), .ref (ma 13), .ref (ma 14), .int sp, .int iw, .int mn])), (ma 0, .inl (G.1, 457, .inl sr)), (ma 3, .inl (G.1, 169, .inl fl)), (ma 1, .inl (G.1, 2742, .inl (bfF bw)))] (fun (r : Int32) (u : (Nat → Int32) × (Nat → Int32)) => r = nI (plN p x y k) ∧ RowR u.1 (plS p x y k).1 (plS p x y k).2 M p) (fun (u : (Nat → Int32) × (Nat → Int32)) => [(q, .inr (8, [.ref (ma 0), .ref (ma 1), .int (nI (svN sN)), .ref (ma 2), .int (nI L), .int (nI 0), .ref (ma 3), .ref (ma 4), .ref (ma 5), .ref (ma 6), .int nd, .int ct, .int ht, .ref (ma 7), .ref (ma 8), .ref (ma 9), .ref (ma 10), .ref (ma 11), .ref (ma 12), .ref (ma 13), .ref (ma 14), .int sp, .int iw, .int mn])), (ma 0, .inl (G.1, 457, .inl u.1)), (ma 3, .inl (G.1, 169, .inl u.2)), (ma 1, .inl (G.1, 2742, .inl (bfF (svR bw sr sN))))]) := by
  refine MtI.of (by decide) (Nat.le_of_ble_eq_true rfl) ?_
  intro pr e s9 m9 below meth c9 A ls C hP hD hl
  obtain ⟨hx, hb, hml, hown, hts, hr, hlocks, hA, hAm⟩ := id C
  have hK := hAm.1
  have hS : va_S A s9.heap s9.heap [] := va_S.rf
  have hl : lv_has ls 4 [(0, .ref q), (1, .int (nI k))] := hl
  refine lv_aload_n hx hb dX8_playBest_0 rfl (lv_at hl 0 rfl) ?_
  refine lv_iload_n hx hb dX8_playBest_1 rfl (lv_at hl 1 rfl) ?_
  refine lv_iconst (v := 1) hx hb dX8_playBest_2 (by decide) ?_
  refine lv_bipush (v := 12) hx hb dX8_playBest_3 (by decide) ?_
  refine aftI0 C (runS_G (As := [.int (nI k), .int 1, .int 12]) (rest := [.ref q]) C (mX8_in l D G (nI k) 1 12 ) hS hP hD [] rfl (by decide) (ys_X8_in) kw_10_21 kw_10_22 ⟨Nat.le_of_ble_eq_true rfl, Nat.le_of_ble_eq_true rfl⟩ hl.1 (Nat.le_of_ble_eq_true rfl) dX8_playBest_5 rfl rfl ⟨Nat.zero_le _, Nat.zero_le _⟩) hS hP hD [] rfl (fun r5 _ H locs hp5 hP hS => ?_)
  refine ro_top (z := bI (¬ (nI k) < 1 ∧ ¬ 12 < (nI k))) hx hp5 ?_
  refine lv_if_eq (tgt := 15) hx hb dX8_playBest_8 (by decide) (fun c_8 => ?_) (fun c_8 => ?_)
  · have c_8 := bI_0 c_8
    exact absurd (nin h1 h2 (by decide)) c_8
  · have c_8 := bI_1 c_8
    refine lv_iconst (v := 0) hx hb dX8_playBest_11 (by decide) ?_
    refine lv_goto (tgt := 16) hx hb dX8_playBest_12 (by decide) ?_
    refine aftI C (runV_G (As := [.int 0]) (rest := []) (ci := 8) (N := 24) (T := TX8) (q0 := 0) C (mX8_refused l D G q ma sN L th nd ct ht sp iw mn 0 (by omega)) hS hP hD [0] rfl (by decide) rfl rfl (ys_X8_refused) kw_11_0 kw_11_1 kw_11_2 ⟨Nat.le_of_ble_eq_true rfl, Nat.le_of_ble_eq_true rfl⟩ hl.1 (Nat.le_of_ble_eq_true rfl) dX8_playBest_16 rfl rfl ⟨Nat.zero_le _, Nat.zero_le _⟩) hS hP hD [0] rfl (fun _ => rfl) (fun r16 _ H locs hp16 hP hD hS => ?_)
    have hP : va_P D vwCl [(q, .inr (8, [.ref (ma 0), .ref (ma 1), .int (nI sN), .ref (ma 2), .int (nI L), .int (nI 0), .ref (ma 3), .ref (ma 4), .ref (ma 5), .ref (ma 6), .int nd, .int ct, .int ht, .ref (ma 7), .ref (ma 8), .ref (ma 9), .ref (ma 10), .ref (ma 11), .ref (ma 12), .ref (ma 13), .ref (ma 14), .int sp, .int iw, .int mn])), (ma 0, .inl (G.1, 457, .inl sr)), (ma 3, .inl (G.1, 169, .inl fl)), (ma 1, .inl (G.1, 2742, .inl (bfF bw)))] H := hP
    have hD : va_D A [(q, .inr (8, [.ref (ma 0), .ref (ma 1), .int (nI sN), .ref (ma 2), .int (nI L), .int (nI 0), .ref (ma 3), .ref (ma 4), .ref (ma 5), .ref (ma 6), .int nd, .int ct, .int ht, .ref (ma 7), .ref (ma 8), .ref (ma 9), .ref (ma 10), .ref (ma 11), .ref (ma 12), .ref (ma 13), .ref (ma 14), .int sp, .int iw, .int mn])), (ma 0, .inl (G.1, 457, .inl sr)), (ma 3, .inl (G.1, 169, .inl fl)), (ma 1, .inl (G.1, 2742, .inl (bfF bw)))] := hD
    refine ro_top (z := bI (0 < 0)) hx hp16 ?_
    refine lv_if_eq (tgt := 24) hx hb dX8_playBest_19 (by decide) (fun _ => ?_) (fun h => absurd (by decide) h)
    refine lv_aload_n hx hb dX8_playBest_24 rfl (lv_at hl 0 rfl) ?_
    refine aftV C (runV_G (As := []) (rest := []) (ci := 8) (N := 24) (T := TX8) (q0 := 0) C (mX8_saves l D G q ma sN L (nI 0) nd ct ht sp iw mn sr bw hsN) hS hP hD [0, 1, 3] rfl (by decide) rfl rfl (ys_X8_saves) kw_11_5 kw_11_6 kw_11_7 ⟨Nat.le_of_ble_eq_true rfl, Nat.le_of_ble_eq_true rfl⟩ hl.1 (Nat.le_of_ble_eq_true rfl) dX8_playBest_25 rfl rfl ⟨Nat.zero_le _, Nat.zero_le _⟩) hS hP hD [0, 1, 3] rfl (fun _ => rfl) (fun _ H locs hp25 hP hD hS => ?_)
    have hP : va_P D vwCl [(q, .inr (8, [.ref (ma 0), .ref (ma 1), .int (nI (svN sN)), .ref (ma 2), .int (nI L), .int (nI 0), .ref (ma 3), .ref (ma 4), .ref (ma 5), .ref (ma 6), .int nd, .int ct, .int ht, .ref (ma 7), .ref (ma 8), .ref (ma 9), .ref (ma 10), .ref (ma 11), .ref (ma 12), .ref (ma 13), .ref (ma 14), .int sp, .int iw, .int mn])), (ma 0, .inl (G.1, 457, .inl sr)), (ma 3, .inl (G.1, 169, .inl fl)), (ma 1, .inl (G.1, 2742, .inl (bfF (svR bw sr sN))))] H := hP
    have hD : va_D A [(q, .inr (8, [.ref (ma 0), .ref (ma 1), .int (nI (svN sN)), .ref (ma 2), .int (nI L), .int (nI 0), .ref (ma 3), .ref (ma 4), .ref (ma 5), .ref (ma 6), .int nd, .int ct, .int ht, .ref (ma 7), .ref (ma 8), .ref (ma 9), .ref (ma 10), .ref (ma 11), .ref (ma 12), .ref (ma 13), .ref (ma 14), .int sp, .int iw, .int mn])), (ma 0, .inl (G.1, 457, .inl sr)), (ma 3, .inl (G.1, 169, .inl fl)), (ma 1, .inl (G.1, 2742, .inl (bfF (svR bw sr sN))))] := hD
    refine lv_aload_n hx hb dX8_playBest_28 rfl (lv_at hl 0 rfl) ?_
    refine aftV C (runV_G (As := []) (rest := []) (ci := 8) (N := 24) (T := TX8) (q0 := 0) C (mX8_fills l D G q ma (svN sN) L (nI 0) nd ct ht sp iw mn sr p M fl hR.n0 hM hR.pp hPR) hS hP hD [0, 1, 2] rfl (by decide) rfl rfl (ys_X8_fills) kw_13_23 kw_14_0 kw_14_1 ⟨Nat.le_of_ble_eq_true rfl, Nat.le_of_ble_eq_true rfl⟩ hl.1 (Nat.le_of_ble_eq_true rfl) dX8_playBest_29 rfl rfl ⟨Nat.zero_le _, Nat.zero_le _⟩) hS hP hD [0, 1, 2] rfl (fun _ => rfl) (fun u29 H locs hp29 hP hD hS => ?_)
    have hP : va_P D vwCl [(q, .inr (8, [.ref (ma 0), .ref (ma 1), .int (nI (svN sN)), .ref (ma 2), .int (nI L), .int (nI 0), .ref (ma 3), .ref (ma 4), .ref (ma 5), .ref (ma 6), .int nd, .int ct, .int ht, .ref (ma 7), .ref (ma 8), .ref (ma 9), .ref (ma 10), .ref (ma 11), .ref (ma 12), .ref (ma 13), .ref (ma 14), .int sp, .int iw, .int mn])), (ma 0, .inl (G.1, 457, .inl sr)), (ma 3, .inl (G.1, 169, .inl u29)), (ma 1, .inl (G.1, 2742, .inl (bfF (svR bw sr sN))))] H := hP
    have hD : va_D A [(q, .inr (8, [.ref (ma 0), .ref (ma 1), .int (nI (svN sN)), .ref (ma 2), .int (nI L), .int (nI 0), .ref (ma 3), .ref (ma 4), .ref (ma 5), .ref (ma 6), .int nd, .int ct, .int ht, .ref (ma 7), .ref (ma 8), .ref (ma 9), .ref (ma 10), .ref (ma 11), .ref (ma 12), .ref (ma 13), .ref (ma 14), .int sp, .int iw, .int mn])), (ma 0, .inl (G.1, 457, .inl sr)), (ma 3, .inl (G.1, 169, .inl u29)), (ma 1, .inl (G.1, 2742, .inl (bfF (svR bw sr sN))))] := hD
    refine lv_iconst (v := 0) hx hb dX8_playBest_32 (by decide) ?_
    refine lv_istore_n (lv' := [(2, .int 0), (0, .ref q), (1, .int (nI k))]) hx hb dX8_playBest_33 rfl hl (by decide) rfl (fun ls hl => ?_)
    have lp34 : ∀ (n34 : Nat) (i : Nat) (X9 : Nat → Nat) (Y9 : Nat → Int32) (r9v : Nat → Int32) (hi : i ≤ k) (hR9 : RowR r9v X9 Y9 M p) (hS9 : plS p x y i = (X9, Y9)) (hN9 : plN p x y i = i) (hin : X9 13 + X9 14 ≤ x 13 + x 14) (hX15 : X9 15 ≤ 1) (_ : k - i < n34) (H : Heap) (locs : List Loc) (ls : Array Slot), va_P D vwCl [(q, .inr (8, [.ref (ma 0), .ref (ma 1), .int (nI (svN sN)), .ref (ma 2), .int (nI L), .int (nI 0), .ref (ma 3), .ref (ma 4), .ref (ma 5), .ref (ma 6), .int nd, .int ct, .int ht, .ref (ma 7), .ref (ma 8), .ref (ma 9), .ref (ma 10), .ref (ma 11), .ref (ma 12), .ref (ma 13), .ref (ma 14), .int sp, .int iw, .int mn])), (ma 0, .inl (G.1, 457, .inl r9v)), (ma 3, .inl (G.1, 169, .inl u29)), (ma 1, .inl (G.1, 2742, .inl (bfF (svR bw sr sN))))] H → va_D A [(q, .inr (8, [.ref (ma 0), .ref (ma 1), .int (nI (svN sN)), .ref (ma 2), .int (nI L), .int (nI 0), .ref (ma 3), .ref (ma 4), .ref (ma 5), .ref (ma 6), .int nd, .int ct, .int ht, .ref (ma 7), .ref (ma 8), .ref (ma 9), .ref (ma 10), .ref (ma 11), .ref (ma 12), .ref (ma 13), .ref (ma 14), .int sp, .int iw, .int mn])), (ma 0, .inl (G.1, 457, .inl r9v)), (ma 3, .inl (G.1, 169, .inl u29)), (ma 1, .inl (G.1, 2742, .inl (bfF (svR bw sr sN))))] → va_S A s9.heap H locs → lv_has ls 4 [(0, .ref q), (1, .int (nI k)), (2, .int (nI i))] → W pr l e (rmG 7 0 0) s9 m9 (List.toArray [.ref q, .int (nI k)]) below meth c9 H locs 0 0 (MQ below (va_Qi (fun (r : Int32) (u : (Nat → Int32) × (Nat → Int32)) => r = nI (plN p x y k) ∧ RowR u.1 (plS p x y k).1 (plS p x y k).2 M p) (fun u9 t9 => WB D ((fun (u : (Nat → Int32) × (Nat → Int32)) => [(q, .inr (8, [.ref (ma 0), .ref (ma 1), .int (nI (svN sN)), .ref (ma 2), .int (nI L), .int (nI 0), .ref (ma 3), .ref (ma 4), .ref (ma 5), .ref (ma 6), .int nd, .int ct, .int ht, .ref (ma 7), .ref (ma 8), .ref (ma 9), .ref (ma 10), .ref (ma 11), .ref (ma 12), .ref (ma 13), .ref (ma 14), .int sp, .int iw, .int mn])), (ma 0, .inl (G.1, 457, .inl u.1)), (ma 3, .inl (G.1, 169, .inl u.2)), (ma 1, .inl (G.1, 2742, .inl (bfF (svR bw sr sN))))]) u9) t9) A) (List.toArray [.ref q, .int (nI k)]) s9 0 0 A) (F0 m9 34 ls []) := by
      intro n34
      induction n34 with
      | zero => intro i X9 Y9 r9v hi hR9 hS9 hN9 hin hX15 hm; exact absurd hm (Nat.not_lt_zero _)
      | succ n34 ih34 =>
        intro i X9 Y9 r9v hi hR9 hS9 hN9 hin hX15 hm H locs ls hP hD hS hl
        refine lv_iload_n hx hb dX8_playBest_34 rfl (lv_at hl 2 rfl) ?_
        refine lv_iload_n hx hb dX8_playBest_35 rfl (lv_at hl 1 rfl) ?_
        refine lv_icmp_ge (tgt := 78) hx hb dX8_playBest_36 (by decide) (fun c_36 => ?_) (fun c_36 => ?_)
        · have c_36 := nle_t (a := k) (b := i) (by omega) (by omega) c_36
          refine lv_iload_n hx hb dX8_playBest_78 rfl (lv_at hl 2 rfl) ?_
          exact endI C rfl (r9v, u29) ⟨(by rw [← (show i = k by omega), hN9]), (by rw [← (show i = k by omega), hS9]; exact hR9)⟩ hS hP dX8_playBest_79
        · have c_36 := nle_f (a := k) (b := i) (by omega) (by omega) c_36
          refine lv_aload_n hx hb dX8_playBest_39 rfl (lv_at hl 0 rfl) ?_
          refine va_get (D := D) (ci := 8) (v := .ref (ma 0)) (C := RX8) (T := TX8) (N := 24) hx hb hts inlX8 hown hK hP 0 rfl rfl 0 (by decide) (hts _ kw_5_6) (fun _ h9 => h9) rfl dX8_playBest_40 ?_
          refine lv_bipush (v := 14) hx hb dX8_playBest_43 (by decide) ?_
          refine ro_iald (k := 14) (v := nI (X9 14)) hx hb hK hP 1 0 rfl rfl rfl (by decide) (by decide) hR9.n14 dX8_playBest_45 ?_
          refine lv_if_le (tgt := 78) hx hb dX8_playBest_46 (by decide) (fun c_46 => ?_) (fun c_46 => ?_)
          · have c_46 := nle_t (a := X9 14) (b := 0) (by omega) (by omega) c_46
            refine lv_iload_n hx hb dX8_playBest_78 rfl (lv_at hl 2 rfl) ?_
            exact endI C rfl (r9v, u29) ⟨(by obtain ⟨j, hj⟩ : ∃ j, k = i + j := ⟨k - i, by omega⟩; rw [hj, (plS_end hS9 (by omega) j).2, hN9]), (by obtain ⟨j, hj⟩ : ∃ j, k = i + j := ⟨k - i, by omega⟩; rw [hj, (plS_end hS9 (by omega) j).1]; exact hR9)⟩ hS hP dX8_playBest_79
          · have c_46 := nle_f (a := X9 14) (b := 0) (by omega) (by omega) c_46
            obtain ⟨b1, b2, b3, b4⟩ := bN_spec hPR (f := X9 13) (n := X9 14) (by omega) (by omega)
            have b5 : (bm (rV p (V p) (X9 13) (X9 14)) 4).1 = nI (bN p (X9 13) (X9 14)) := by rw [b3]
            obtain ⟨mv, hmv⟩ : ∃ z, z = bN p (X9 13) (X9 14) := ⟨_, rfl⟩
            rw [← hmv] at b1 b2 b4 b5
            refine lv_aload_n hx hb dX8_playBest_49 rfl (lv_at hl 0 rfl) ?_
            refine lv_aload_n hx hb dX8_playBest_50 rfl (lv_at hl 0 rfl) ?_
            refine lv_aload_n hx hb dX8_playBest_51 rfl (lv_at hl 0 rfl) ?_
            refine va_get (D := D) (ci := 8) (v := .ref (ma 0)) (C := RX8) (T := TX8) (N := 24) hx hb hts inlX8 hown hK hP 0 rfl rfl 0 (by decide) (hts _ kw_5_6) (fun _ h9 => h9) rfl dX8_playBest_52 ?_
            refine lv_bipush (v := 13) hx hb dX8_playBest_55 (by decide) ?_
            refine ro_iald (k := 13) (v := nI (X9 13)) hx hb hK hP 1 0 rfl rfl rfl (by decide) (by decide) hR9.n13 dX8_playBest_57 ?_
            refine lv_aload_n hx hb dX8_playBest_58 rfl (lv_at hl 0 rfl) ?_
            refine va_get (D := D) (ci := 8) (v := .ref (ma 0)) (C := RX8) (T := TX8) (N := 24) hx hb hts inlX8 hown hK hP 0 rfl rfl 0 (by decide) (hts _ kw_5_6) (fun _ h9 => h9) rfl dX8_playBest_59 ?_
            refine lv_bipush (v := 14) hx hb dX8_playBest_62 (by decide) ?_
            refine ro_iald (k := 14) (v := nI (X9 14)) hx hb hK hP 1 0 rfl rfl rfl (by decide) (by decide) hR9.n14 dX8_playBest_64 ?_
            refine aftI0 C (runV_G (As := [.int (nI (X9 13)), .int (nI (X9 14))]) (rest := [.ref q]) (ci := 8) (N := 24) (T := TX8) (q0 := 0) C (mX8_bestIn l D G q ma (svN sN) L (nI 0) nd ct ht sp iw mn r9v p M u29 (X9 13) (X9 14) (by omega) hM hR9.pp hPR (fun n' g _ h9 => hp29 n' g h9)) hS hP hD [0, 1, 2] rfl (by decide) rfl rfl (ys_X8_bestIn) kw_14_6 kw_14_7 kw_14_8 ⟨Nat.le_of_ble_eq_true rfl, Nat.le_of_ble_eq_true rfl⟩ hl.1 (Nat.le_of_ble_eq_true rfl) dX8_playBest_65 rfl rfl ⟨Nat.zero_le _, Nat.zero_le _⟩) hS hP hD [0, 1, 2] rfl (fun r65 _ H locs hp65 hP hS => ?_)
            refine ro_top (z := (bm (rV p (V p) (X9 13) (X9 14)) 4).1) hx hp65 ?_
            refine ro_top (z := nI mv) hx b5 ?_
            refine aftI C (runV_G (As := [.int (nI mv)]) (rest := []) (ci := 8) (N := 24) (T := TX8) (q0 := 0) C (mX8_plays l D G q ma (svN sN) L (nI 0) nd ct ht sp iw mn r9v p X9 Y9 M mv hR9 hM b1 b2 (by omega) hX15) hS hP hD [0, 1] rfl (by decide) rfl rfl (ys_X8_plays) kw_12_19 kw_12_20 kw_12_21 ⟨Nat.le_of_ble_eq_true rfl, Nat.le_of_ble_eq_true rfl⟩ hl.1 (Nat.le_of_ble_eq_true rfl) dX8_playBest_68 rfl rfl ⟨Nat.zero_le _, Nat.zero_le _⟩) hS hP hD [0, 1] rfl (fun _ => rfl) (fun r68 u68 H locs hp68 hP hD hS => ?_)
            have hP : va_P D vwCl [(q, .inr (8, [.ref (ma 0), .ref (ma 1), .int (nI (svN sN)), .ref (ma 2), .int (nI L), .int (nI 0), .ref (ma 3), .ref (ma 4), .ref (ma 5), .ref (ma 6), .int nd, .int ct, .int ht, .ref (ma 7), .ref (ma 8), .ref (ma 9), .ref (ma 10), .ref (ma 11), .ref (ma 12), .ref (ma 13), .ref (ma 14), .int sp, .int iw, .int mn])), (ma 0, .inl (G.1, 457, .inl u68)), (ma 3, .inl (G.1, 169, .inl u29)), (ma 1, .inl (G.1, 2742, .inl (bfF (svR bw sr sN))))] H := hP
            have hD : va_D A [(q, .inr (8, [.ref (ma 0), .ref (ma 1), .int (nI (svN sN)), .ref (ma 2), .int (nI L), .int (nI 0), .ref (ma 3), .ref (ma 4), .ref (ma 5), .ref (ma 6), .int nd, .int ct, .int ht, .ref (ma 7), .ref (ma 8), .ref (ma 9), .ref (ma 10), .ref (ma 11), .ref (ma 12), .ref (ma 13), .ref (ma 14), .int sp, .int iw, .int mn])), (ma 0, .inl (G.1, 457, .inl u68)), (ma 3, .inl (G.1, 169, .inl u29)), (ma 1, .inl (G.1, 2742, .inl (bfF (svR bw sr sN))))] := hD
            refine ro_top (z := cn p (X9 13) (X9 14) mv) hx hp68.1 ?_
            refine lv_istore_n (lv' := [(3, .int (cn p (X9 13) (X9 14) mv)), (0, .ref q), (1, .int (nI k)), (2, .int (nI i))]) hx hb dX8_playBest_71 rfl hl (by decide) rfl (fun ls hl => ?_)
            refine lv_iinc (v := nI (i + 1)) (lv' := [(2, .int (nI (i + 1))), (3, .int (cn p (X9 13) (X9 14) mv)), (0, .ref q), (1, .int (nI k))]) hx hb dX8_playBest_72 hl (k := 3) rfl (nI_add i 1) (by decide) rfl (fun ls hl => ?_)
            refine lv_goto (tgt := 34) hx hb dX8_playBest_75 (by decide) ?_
            exact ih34 (i + 1) (mvX X9 mv) (mvY p X9 Y9 mv) u68 (by omega) hp68.2 (by rw [hmv]; exact plS_go hS9 (by omega)) (plN_go hS9 (by omega)) (by show bh (X9 13) mv + (X9 14 - tk mv) ≤ _; have := bh_le (X9 13) mv; omega) (by show 1 - X9 15 ≤ 1; omega) (by omega) _ _ _ hP (hD.fst rfl) hS (lv_sub hl [2, 3, 0] rfl)
    exact lp34 (k - 0 + 1) 0 x y sr (by omega) hR rfl rfl (Nat.le_refl _) ht9 (Nat.lt_succ_self _) _ _ _ hP (hD.fst rfl) hS (lv_sub hl [1, 2, 0] rfl)
set_option maxHeartbeats 800000 in
set_option maxRecDepth 100000 in
theorem mX8_playBest_T1 (l : Launch) (D : va_G) (G : u_G) (q : Nat) (ma : Nat → Nat) (sN L : Nat) (th nd ct ht sp iw mn : Int32) (sr p : Nat → Int32) (x : Nat → Nat) (y : Nat → Int32) (M : Nat) (v : Int32) (hR : RowR sr x y M p) (hM : M ≤ 12) (hbad : ¬ (¬ v < 1 ∧ ¬ 12 < v)) : MtI l D G yX8_playBest cX8_playBest 4 .int 3 0 0 [.ref q, .int v] [(q, .inr (8, [.ref (ma 0), .ref (ma 1), .int (nI sN), .ref (ma 2), .int (nI L), .int th, .ref (ma 3), .ref (ma 4), .ref (ma 5), .ref (ma 6), .int nd, .int ct, .int ht, .ref (ma 7), .ref (ma 8), .ref (ma 9), .ref (ma 10), .ref (ma 11), .ref (ma 12), .ref (ma 13), .ref (ma 14), .int sp, .int iw, .int mn])), (ma 0, .inl (G.1, 457, .inl sr))] (fun (r : Int32) (_ : Unit) => r = 0) (fun (_ : Unit) => [(q, .inr (8, [.ref (ma 0), .ref (ma 1), .int (nI sN), .ref (ma 2), .int (nI L), .int (nI 1), .ref (ma 3), .ref (ma 4), .ref (ma 5), .ref (ma 6), .int nd, .int ct, .int ht, .ref (ma 7), .ref (ma 8), .ref (ma 9), .ref (ma 10), .ref (ma 11), .ref (ma 12), .ref (ma 13), .ref (ma 14), .int sp, .int iw, .int mn])), (ma 0, .inl (G.1, 457, .inl sr))]) := by
  refine MtI.of (by decide) (Nat.le_of_ble_eq_true rfl) ?_
  intro pr e s9 m9 below meth c9 A ls C hP hD hl
  obtain ⟨hx, hb, hml, hown, hts, hr, hlocks, hA, hAm⟩ := id C
  have hK := hAm.1
  have hS : va_S A s9.heap s9.heap [] := va_S.rf
  have hl : lv_has ls 4 [(0, .ref q), (1, .int v)] := hl
  refine lv_aload_n hx hb dX8_playBest_0 rfl (lv_at hl 0 rfl) ?_
  refine lv_iload_n hx hb dX8_playBest_1 rfl (lv_at hl 1 rfl) ?_
  refine lv_iconst (v := 1) hx hb dX8_playBest_2 (by decide) ?_
  refine lv_bipush (v := 12) hx hb dX8_playBest_3 (by decide) ?_
  refine aftI0 C (runS_G (As := [.int v, .int 1, .int 12]) (rest := [.ref q]) C (mX8_in l D G v 1 12 ) hS hP hD [] rfl (by decide) (ys_X8_in) kw_10_21 kw_10_22 ⟨Nat.le_of_ble_eq_true rfl, Nat.le_of_ble_eq_true rfl⟩ hl.1 (Nat.le_of_ble_eq_true rfl) dX8_playBest_5 rfl rfl ⟨Nat.zero_le _, Nat.zero_le _⟩) hS hP hD [] rfl (fun r5 _ H locs hp5 hP hS => ?_)
  refine ro_top (z := bI (¬ v < 1 ∧ ¬ 12 < v)) hx hp5 ?_
  refine lv_if_eq (tgt := 15) hx hb dX8_playBest_8 (by decide) (fun c_8 => ?_) (fun c_8 => ?_)
  · have c_8 := bI_0 c_8
    refine lv_iconst (v := 1) hx hb dX8_playBest_15 (by decide) ?_
    refine aftI C (runV_G (As := [.int 1]) (rest := []) (ci := 8) (N := 24) (T := TX8) (q0 := 0) C (mX8_refused l D G q ma sN L th nd ct ht sp iw mn 1 (by omega)) hS hP hD [0] rfl (by decide) rfl rfl (ys_X8_refused) kw_11_0 kw_11_1 kw_11_2 ⟨Nat.le_of_ble_eq_true rfl, Nat.le_of_ble_eq_true rfl⟩ hl.1 (Nat.le_of_ble_eq_true rfl) dX8_playBest_16 rfl rfl ⟨Nat.zero_le _, Nat.zero_le _⟩) hS hP hD [0] rfl (fun _ => rfl) (fun r16 _ H locs hp16 hP hD hS => ?_)
    have hP : va_P D vwCl [(q, .inr (8, [.ref (ma 0), .ref (ma 1), .int (nI sN), .ref (ma 2), .int (nI L), .int (nI 1), .ref (ma 3), .ref (ma 4), .ref (ma 5), .ref (ma 6), .int nd, .int ct, .int ht, .ref (ma 7), .ref (ma 8), .ref (ma 9), .ref (ma 10), .ref (ma 11), .ref (ma 12), .ref (ma 13), .ref (ma 14), .int sp, .int iw, .int mn])), (ma 0, .inl (G.1, 457, .inl sr))] H := hP
    have hD : va_D A [(q, .inr (8, [.ref (ma 0), .ref (ma 1), .int (nI sN), .ref (ma 2), .int (nI L), .int (nI 1), .ref (ma 3), .ref (ma 4), .ref (ma 5), .ref (ma 6), .int nd, .int ct, .int ht, .ref (ma 7), .ref (ma 8), .ref (ma 9), .ref (ma 10), .ref (ma 11), .ref (ma 12), .ref (ma 13), .ref (ma 14), .int sp, .int iw, .int mn])), (ma 0, .inl (G.1, 457, .inl sr))] := hD
    refine ro_top (z := bI (0 < 1)) hx hp16 ?_
    refine lv_if_eq (tgt := 24) hx hb dX8_playBest_19 (by decide) (fun h => absurd h (by decide)) (fun _ => ?_)
    refine lv_iconst (v := 0) hx hb dX8_playBest_22 (by decide) ?_
    exact endI C rfl () rfl hS hP dX8_playBest_23
  · have c_8 := bI_1 c_8
    exact absurd c_8 hbad
