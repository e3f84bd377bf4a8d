theorem ys_X8_play : YS yX8_play cX8_play 2 (some .int) 1 := ⟨kw_12_12, kw_1_5, by decide, by decide, by decide⟩
theorem ys_X8_playBest : YS yX8_playBest cX8_playBest 4 (some .int) 1 := ⟨kw_13_22, kw_1_5, by decide, by decide, by decide⟩
set_option maxHeartbeats 800000 in
set_option maxRecDepth 100000 in
theorem mX8_saves (l : Launch) (D : va_G) (G : u_G) (q : Nat) (ma : Nat → Nat) (sN L : Nat) (th nd ct ht sp iw mn : Int32) (sr : Nat → Int32) (bw : Nat → Nat → Int32)  (hsN : sN ≤ 6) : MtV l D G yX8_saves cX8_saves 2 1 0 0 [.ref q] [(q, .inr (8, [.ref (ma 0), .ref (ma 1), .int (nI sN), .ref (ma 2), .int (nI L), .int th, .ref (ma 3), .ref (ma 4), .ref (ma 5), .ref (ma 6), .int nd, .int ct, .int ht, .ref (ma 7), .ref (ma 8), .ref (ma 9), .ref (ma 10), .ref (ma 11), .ref (ma 12), .ref (ma 13), .ref (ma 14), .int sp, .int iw, .int mn])), (ma 0, .inl (G.1, 457, .inl sr)), (ma 1, .inl (G.1, 2742, .inl (bfF bw)))] (fun (_ : Unit) => True) (fun (_ : Unit) => [(q, .inr (8, [.ref (ma 0), .ref (ma 1), .int (nI (svN sN)), .ref (ma 2), .int (nI L), .int th, .ref (ma 3), .ref (ma 4), .ref (ma 5), .ref (ma 6), .int nd, .int ct, .int ht, .ref (ma 7), .ref (ma 8), .ref (ma 9), .ref (ma 10), .ref (ma 11), .ref (ma 12), .ref (ma 13), .ref (ma 14), .int sp, .int iw, .int mn])), (ma 0, .inl (G.1, 457, .inl sr)), (ma 1, .inl (G.1, 2742, .inl (bfF (svR bw sr sN))))]) := by
  refine MtV.of (by decide) (Nat.le_of_ble_eq_true rfl) ?_
  intro pr e s9 m9 below meth c9 A ls C hP hD hl hin
  obtain ⟨hx, hb, hml, hown, hts, hr, hlocks, hA, hAm⟩ := id C
  have hK := hAm.1
  have hS : va_S A s9.heap s9.heap [] := va_S.rf
  have hl : lv_has ls 2 [(0, .ref q)] := hl
  refine lv_aload_n hx hb dX8_saves_0 rfl (lv_at hl 0 rfl) ?_
  refine va_get (D := D) (ci := 8) (v := .int (nI sN)) (C := RX8) (T := TX8) (N := 24) hx hb hts inlX8 hown hK hP 0 rfl rfl 2 (by decide) (hts _ kw_11_9) (fun _ h9 => h9) rfl dX8_saves_1 ?_
  refine lv_bipush (v := 6) hx hb dX8_saves_4 (by decide) ?_
  refine lv_icmp_ne (tgt := 50) hx hb dX8_saves_6 (by decide) (fun c_6 => ?_) (fun c_6 => ?_)
  · have c_6 := neq_f (a := sN) (b := 6) (by omega) (by omega) c_6
    refine lv_iconst (v := 0) hx hb dX8_saves_50 (by decide) ?_
    refine lv_istore_n (lv' := [(1, .int 0), (0, .ref q)]) hx hb dX8_saves_51 rfl hl (by decide) rfl (fun ls hl => ?_)
    have lp52 : ∀ (n52 : Nat) (k : Nat) (hk : k ≤ 457) (_ : 457 - k < n52) (H : Heap) (locs : List Loc) (ls : Array Slot), va_P D vwCl [(q, .inr (8, [.ref (ma 0), .ref (ma 1), .int (nI sN), .ref (ma 2), .int (nI L), .int th, .ref (ma 3), .ref (ma 4), .ref (ma 5), .ref (ma 6), .int nd, .int ct, .int ht, .ref (ma 7), .ref (ma 8), .ref (ma 9), .ref (ma 10), .ref (ma 11), .ref (ma 12), .ref (ma 13), .ref (ma 14), .int sp, .int iw, .int mn])), (ma 0, .inl (G.1, 457, .inl sr)), (ma 1, .inl (G.1, 2742, .inl (cpyA sr (bfF bw) (457 * (sN)) k)))] H → va_D A [(q, .inr (8, [.ref (ma 0), .ref (ma 1), .int (nI sN), .ref (ma 2), .int (nI L), .int th, .ref (ma 3), .ref (ma 4), .ref (ma 5), .ref (ma 6), .int nd, .int ct, .int ht, .ref (ma 7), .ref (ma 8), .ref (ma 9), .ref (ma 10), .ref (ma 11), .ref (ma 12), .ref (ma 13), .ref (ma 14), .int sp, .int iw, .int mn])), (ma 0, .inl (G.1, 457, .inl sr)), (ma 1, .inl (G.1, 2742, .inl (cpyA sr (bfF bw) (457 * (sN)) k)))] → va_S A s9.heap H locs → lv_has ls 2 [(0, .ref q), (1, .int (nI k))] → W pr l e (rmG 1 0 0) s9 m9 (List.toArray [.ref q]) below meth c9 H locs 0 0 (MQ below (va_Qv (fun (_ : Unit) => True) (fun u9 t9 => WB D ((fun (_ : Unit) => [(q, .inr (8, [.ref (ma 0), .ref (ma 1), .int (nI (svN sN)), .ref (ma 2), .int (nI L), .int th, .ref (ma 3), .ref (ma 4), .ref (ma 5), .ref (ma 6), .int nd, .int ct, .int ht, .ref (ma 7), .ref (ma 8), .ref (ma 9), .ref (ma 10), .ref (ma 11), .ref (ma 12), .ref (ma 13), .ref (ma 14), .int sp, .int iw, .int mn])), (ma 0, .inl (G.1, 457, .inl sr)), (ma 1, .inl (G.1, 2742, .inl (bfF (svR bw sr sN))))]) u9) t9 ∧ va_D A ((fun (_ : Unit) => [(q, .inr (8, [.ref (ma 0), .ref (ma 1), .int (nI (svN sN)), .ref (ma 2), .int (nI L), .int th, .ref (ma 3), .ref (ma 4), .ref (ma 5), .ref (ma 6), .int nd, .int ct, .int ht, .ref (ma 7), .ref (ma 8), .ref (ma 9), .ref (ma 10), .ref (ma 11), .ref (ma 12), .ref (ma 13), .ref (ma 14), .int sp, .int iw, .int mn])), (ma 0, .inl (G.1, 457, .inl sr)), (ma 1, .inl (G.1, 2742, .inl (bfF (svR bw sr sN))))]) u9)) A) (List.toArray [.ref q]) s9 0 0 A) (F0 m9 52 ls []) := by
      intro n52
      induction n52 with
      | zero => intro k hk hm; exact absurd hm (Nat.not_lt_zero _)
      | succ n52 ih52 =>
        intro k hk hm H locs ls hP hD hS hl
        refine lv_iload_n hx hb dX8_saves_52 rfl (lv_at hl 1 rfl) ?_
        refine lv_sipush (v := 457) hx hb dX8_saves_53 (by decide) ?_
        refine lv_icmp_ge (tgt := 86) hx hb dX8_saves_56 (by decide) (fun c_56 => ?_) (fun c_56 => ?_)
        · have c_56 := nle_t (a := 457) (b := k) (by omega) (by omega) c_56
          refine lv_aload_n hx hb dX8_saves_86 rfl (lv_at hl 0 rfl) ?_
          refine lv_dup hx hb dX8_saves_87 rfl ?_
          refine va_get (D := D) (ci := 8) (v := .int (nI sN)) (C := RX8) (T := TX8) (N := 24) hx hb hts inlX8 hown hK hP 0 rfl rfl 2 (by decide) (hts _ kw_11_9) (fun _ h9 => h9) rfl dX8_saves_88 ?_
          refine lv_iconst (v := 1) hx hb dX8_saves_91 (by decide) ?_
          refine ro_iadd (z := nI (sN + 1)) hx hb (nI_add sN 1) dX8_saves_92 ?_
          refine va_put (D := D) (ci := 8) (v := .int (nI (sN + 1))) (ty := .int) (C := RX8) (T := TX8) (N := 24) hx hb hts inlX8 tyX8 tyX8_ok nmX8 hown hK hP hD hS 0 rfl rfl 2 (by decide) (hts _ kw_11_9) (fun _ h9 => h9) rfl (by decide +kernel) rfl rfl (Nat.le_of_ble_eq_true rfl) dX8_saves_93 (fun H locs hP hD hS => ?_)
          have hP : va_P D vwCl [(q, .inr (8, [.ref (ma 0), .ref (ma 1), .int (nI (sN + 1)), .ref (ma 2), .int (nI L), .int th, .ref (ma 3), .ref (ma 4), .ref (ma 5), .ref (ma 6), .int nd, .int ct, .int ht, .ref (ma 7), .ref (ma 8), .ref (ma 9), .ref (ma 10), .ref (ma 11), .ref (ma 12), .ref (ma 13), .ref (ma 14), .int sp, .int iw, .int mn])), (ma 0, .inl (G.1, 457, .inl sr)), (ma 1, .inl (G.1, 2742, .inl (cpyA sr (bfF bw) (457 * (sN)) k)))] H := hP
          have hD : va_D A [(q, .inr (8, [.ref (ma 0), .ref (ma 1), .int (nI (sN + 1)), .ref (ma 2), .int (nI L), .int th, .ref (ma 3), .ref (ma 4), .ref (ma 5), .ref (ma 6), .int nd, .int ct, .int ht, .ref (ma 7), .ref (ma 8), .ref (ma 9), .ref (ma 10), .ref (ma 11), .ref (ma 12), .ref (ma 13), .ref (ma 14), .int sp, .int iw, .int mn])), (ma 0, .inl (G.1, 457, .inl sr)), (ma 1, .inl (G.1, 2742, .inl (cpyA sr (bfF bw) (457 * (sN)) k)))] := hD
          exact endV C () trivial hS (by rw [svN_n c_6]; obtain rfl : k = 457 := (by omega); exact hP.arr 2 (g := bfF (svR bw sr sN)) rfl (fun j hj => sv_eqN hj (by omega))) (hD.fst rfl) dX8_saves_96
        · have c_56 := nle_f (a := 457) (b := k) (by omega) (by omega) c_56
          refine lv_aload_n hx hb dX8_saves_59 rfl (lv_at hl 0 rfl) ?_
          refine va_get (D := D) (ci := 8) (v := .ref (ma 1)) (C := RX8) (T := TX8) (N := 24) hx hb hts inlX8 hown hK hP 0 rfl rfl 1 (by decide) (hts _ kw_5_7) (fun _ h9 => h9) rfl dX8_saves_60 ?_
          refine lv_sipush (v := 457) hx hb dX8_saves_63 (by decide) ?_
          refine lv_aload_n hx hb dX8_saves_66 rfl (lv_at hl 0 rfl) ?_
          refine va_get (D := D) (ci := 8) (v := .int (nI sN)) (C := RX8) (T := TX8) (N := 24) hx hb hts inlX8 hown hK hP 0 rfl rfl 2 (by decide) (hts _ kw_11_9) (fun _ h9 => h9) rfl dX8_saves_67 ?_
          refine ro_imul (z := nI (457 * sN)) hx hb (pk_mul 457 sN) dX8_saves_70 ?_
          refine lv_iload_n hx hb dX8_saves_71 rfl (lv_at hl 1 rfl) ?_
          refine ro_iadd (z := nI (457 * sN + k)) hx hb (nI_add (457 * sN) k) dX8_saves_72 ?_
          refine lv_aload_n hx hb dX8_saves_73 rfl (lv_at hl 0 rfl) ?_
          refine va_get (D := D) (ci := 8) (v := .ref (ma 0)) (C := RX8) (T := TX8) (N := 24) hx hb hts inlX8 hown hK hP 0 rfl rfl 0 (by decide) (hts _ kw_5_6) (fun _ h9 => h9) rfl dX8_saves_74 ?_
          refine lv_iload_n hx hb dX8_saves_77 rfl (lv_at hl 1 rfl) ?_
          refine ro_iald (k := k) (v := sr k) hx hb hK hP 1 0 rfl rfl rfl (by omega) (by decide) rfl dX8_saves_78 ?_
          refine ro_iast (k := 457 * sN + k) hx hb hK hP hD hS 2 0 rfl rfl rfl (by omega) (by decide) dX8_saves_79 (fun H locs hP hD hS => ?_)
          have hP : va_P D vwCl [(q, .inr (8, [.ref (ma 0), .ref (ma 1), .int (nI sN), .ref (ma 2), .int (nI L), .int th, .ref (ma 3), .ref (ma 4), .ref (ma 5), .ref (ma 6), .int nd, .int ct, .int ht, .ref (ma 7), .ref (ma 8), .ref (ma 9), .ref (ma 10), .ref (ma 11), .ref (ma 12), .ref (ma 13), .ref (ma 14), .int sp, .int iw, .int mn])), (ma 0, .inl (G.1, 457, .inl sr)), (ma 1, .inl (G.1, 2742, .inl (upd (cpyA sr (bfF bw) (457 * (sN)) k) (457 * sN + k) (sr k))))] H := hP
          have hD : va_D A [(q, .inr (8, [.ref (ma 0), .ref (ma 1), .int (nI sN), .ref (ma 2), .int (nI L), .int th, .ref (ma 3), .ref (ma 4), .ref (ma 5), .ref (ma 6), .int nd, .int ct, .int ht, .ref (ma 7), .ref (ma 8), .ref (ma 9), .ref (ma 10), .ref (ma 11), .ref (ma 12), .ref (ma 13), .ref (ma 14), .int sp, .int iw, .int mn])), (ma 0, .inl (G.1, 457, .inl sr)), (ma 1, .inl (G.1, 2742, .inl (upd (cpyA sr (bfF bw) (457 * (sN)) k) (457 * sN + k) (sr k))))] := hD
          refine lv_iinc (v := nI (k + 1)) (lv' := [(1, .int (nI (k + 1))), (0, .ref q)]) hx hb dX8_saves_80 hl (k := 1) rfl (nI_add k 1) (by decide) rfl (fun ls hl => ?_)
          refine lv_goto (tgt := 52) hx hb dX8_saves_83 (by decide) ?_
          rw [cpyA_succ] at hP hD
          exact ih52 (k + 1) (by omega) (by omega) _ _ _ hP (hD.fst rfl) hS (lv_sub hl [1, 0] rfl)
    rw [← cpyA_zero sr (bfF bw) (457 * (sN))] at hP hD
    exact lp52 (457 - 0 + 1) 0 (by omega) (Nat.lt_succ_self _) _ _ _ hP (hD.fst rfl) hS (lv_sub hl [1, 0] rfl)
  · have c_6 := neq_t (a := sN) (b := 6) (by omega) (by omega) c_6
    refine lv_iconst (v := 0) hx hb dX8_saves_9 (by decide) ?_
    refine lv_istore_n (lv' := [(1, .int 0), (0, .ref q)]) hx hb dX8_saves_10 rfl hl (by decide) rfl (fun ls hl => ?_)
    have lp11 : ∀ (n11 : Nat) (i : Nat) (hi : i ≤ 2285) (_ : 2285 - i < n11) (H : Heap) (locs : List Loc) (ls : Array Slot), va_P D vwCl [(q, .inr (8, [.ref (ma 0), .ref (ma 1), .int (nI sN), .ref (ma 2), .int (nI L), .int th, .ref (ma 3), .ref (ma 4), .ref (ma 5), .ref (ma 6), .int nd, .int ct, .int ht, .ref (ma 7), .ref (ma 8), .ref (ma 9), .ref (ma 10), .ref (ma 11), .ref (ma 12), .ref (ma 13), .ref (ma 14), .int sp, .int iw, .int mn])), (ma 0, .inl (G.1, 457, .inl sr)), (ma 1, .inl (G.1, 2742, .inl (cpy (fun j => bfF bw (457 + j)) (bfF bw) i)))] H → va_D A [(q, .inr (8, [.ref (ma 0), .ref (ma 1), .int (nI sN), .ref (ma 2), .int (nI L), .int th, .ref (ma 3), .ref (ma 4), .ref (ma 5), .ref (ma 6), .int nd, .int ct, .int ht, .ref (ma 7), .ref (ma 8), .ref (ma 9), .ref (ma 10), .ref (ma 11), .ref (ma 12), .ref (ma 13), .ref (ma 14), .int sp, .int iw, .int mn])), (ma 0, .inl (G.1, 457, .inl sr)), (ma 1, .inl (G.1, 2742, .inl (cpy (fun j => bfF bw (457 + j)) (bfF bw) i)))] → va_S A s9.heap H locs → lv_has ls 2 [(0, .ref q), (1, .int (nI i))] → W pr l e (rmG 1 0 0) s9 m9 (List.toArray [.ref q]) below meth c9 H locs 0 0 (MQ below (va_Qv (fun (_ : Unit) => True) (fun u9 t9 => WB D ((fun (_ : Unit) => [(q, .inr (8, [.ref (ma 0), .ref (ma 1), .int (nI (svN sN)), .ref (ma 2), .int (nI L), .int th, .ref (ma 3), .ref (ma 4), .ref (ma 5), .ref (ma 6), .int nd, .int ct, .int ht, .ref (ma 7), .ref (ma 8), .ref (ma 9), .ref (ma 10), .ref (ma 11), .ref (ma 12), .ref (ma 13), .ref (ma 14), .int sp, .int iw, .int mn])), (ma 0, .inl (G.1, 457, .inl sr)), (ma 1, .inl (G.1, 2742, .inl (bfF (svR bw sr sN))))]) u9) t9 ∧ va_D A ((fun (_ : Unit) => [(q, .inr (8, [.ref (ma 0), .ref (ma 1), .int (nI (svN sN)), .ref (ma 2), .int (nI L), .int th, .ref (ma 3), .ref (ma 4), .ref (ma 5), .ref (ma 6), .int nd, .int ct, .int ht, .ref (ma 7), .ref (ma 8), .ref (ma 9), .ref (ma 10), .ref (ma 11), .ref (ma 12), .ref (ma 13), .ref (ma 14), .int sp, .int iw, .int mn])), (ma 0, .inl (G.1, 457, .inl sr)), (ma 1, .inl (G.1, 2742, .inl (bfF (svR bw sr sN))))]) u9)) A) (List.toArray [.ref q]) s9 0 0 A) (F0 m9 11 ls []) := by
      intro n11
      induction n11 with
      | zero => intro i hi hm; exact absurd hm (Nat.not_lt_zero _)
      | succ n11 ih11 =>
        intro i hi hm H locs ls hP hD hS hl
        refine lv_iload_n hx hb dX8_saves_11 rfl (lv_at hl 1 rfl) ?_
        refine lv_sipush (v := 2285) hx hb dX8_saves_12 (by decide) ?_
        refine lv_icmp_ge (tgt := 40) hx hb dX8_saves_15 (by decide) (fun c_15 => ?_) (fun c_15 => ?_)
        · have c_15 := nle_t (a := 2285) (b := i) (by omega) (by omega) c_15
          refine lv_aload_n hx hb dX8_saves_40 rfl (lv_at hl 0 rfl) ?_
          refine lv_dup hx hb dX8_saves_41 rfl ?_
          refine va_get (D := D) (ci := 8) (v := .int (nI sN)) (C := RX8) (T := TX8) (N := 24) hx hb hts inlX8 hown hK hP 0 rfl rfl 2 (by decide) (hts _ kw_11_9) (fun _ h9 => h9) rfl dX8_saves_42 ?_
          refine lv_iconst (v := 1) hx hb dX8_saves_45 (by decide) ?_
          refine ro_isub (z := nI (sN - 1)) hx hb (pk_sub (a := sN) (b := 1) (by omega)) dX8_saves_46 ?_
          refine va_put (D := D) (ci := 8) (v := .int (nI (sN - 1))) (ty := .int) (C := RX8) (T := TX8) (N := 24) hx hb hts inlX8 tyX8 tyX8_ok nmX8 hown hK hP hD hS 0 rfl rfl 2 (by decide) (hts _ kw_11_9) (fun _ h9 => h9) rfl (by decide +kernel) rfl rfl (Nat.le_of_ble_eq_true rfl) dX8_saves_47 (fun H locs hP hD hS => ?_)
          have hP : va_P D vwCl [(q, .inr (8, [.ref (ma 0), .ref (ma 1), .int (nI (sN - 1)), .ref (ma 2), .int (nI L), .int th, .ref (ma 3), .ref (ma 4), .ref (ma 5), .ref (ma 6), .int nd, .int ct, .int ht, .ref (ma 7), .ref (ma 8), .ref (ma 9), .ref (ma 10), .ref (ma 11), .ref (ma 12), .ref (ma 13), .ref (ma 14), .int sp, .int iw, .int mn])), (ma 0, .inl (G.1, 457, .inl sr)), (ma 1, .inl (G.1, 2742, .inl (cpy (fun j => bfF bw (457 + j)) (bfF bw) i)))] H := hP
          have hD : va_D A [(q, .inr (8, [.ref (ma 0), .ref (ma 1), .int (nI (sN - 1)), .ref (ma 2), .int (nI L), .int th, .ref (ma 3), .ref (ma 4), .ref (ma 5), .ref (ma 6), .int nd, .int ct, .int ht, .ref (ma 7), .ref (ma 8), .ref (ma 9), .ref (ma 10), .ref (ma 11), .ref (ma 12), .ref (ma 13), .ref (ma 14), .int sp, .int iw, .int mn])), (ma 0, .inl (G.1, 457, .inl sr)), (ma 1, .inl (G.1, 2742, .inl (cpy (fun j => bfF bw (457 + j)) (bfF bw) i)))] := hD
          refine lv_iconst (v := 0) hx hb dX8_saves_50 (by decide) ?_
          refine lv_istore_n (lv' := [(1, .int 0), (0, .ref q)]) hx hb dX8_saves_51 rfl hl (by decide) rfl (fun ls hl => ?_)
          have lp52 : ∀ (n52 : Nat) (k : Nat) (hk : k ≤ 457) (_ : 457 - k < n52) (H : Heap) (locs : List Loc) (ls : Array Slot), va_P D vwCl [(q, .inr (8, [.ref (ma 0), .ref (ma 1), .int (nI (sN - 1)), .ref (ma 2), .int (nI L), .int th, .ref (ma 3), .ref (ma 4), .ref (ma 5), .ref (ma 6), .int nd, .int ct, .int ht, .ref (ma 7), .ref (ma 8), .ref (ma 9), .ref (ma 10), .ref (ma 11), .ref (ma 12), .ref (ma 13), .ref (ma 14), .int sp, .int iw, .int mn])), (ma 0, .inl (G.1, 457, .inl sr)), (ma 1, .inl (G.1, 2742, .inl (cpyA sr (cpy (fun j => bfF bw (457 + j)) (bfF bw) i) (457 * (sN - 1)) k)))] H → va_D A [(q, .inr (8, [.ref (ma 0), .ref (ma 1), .int (nI (sN - 1)), .ref (ma 2), .int (nI L), .int th, .ref (ma 3), .ref (ma 4), .ref (ma 5), .ref (ma 6), .int nd, .int ct, .int ht, .ref (ma 7), .ref (ma 8), .ref (ma 9), .ref (ma 10), .ref (ma 11), .ref (ma 12), .ref (ma 13), .ref (ma 14), .int sp, .int iw, .int mn])), (ma 0, .inl (G.1, 457, .inl sr)), (ma 1, .inl (G.1, 2742, .inl (cpyA sr (cpy (fun j => bfF bw (457 + j)) (bfF bw) i) (457 * (sN - 1)) k)))] → va_S A s9.heap H locs → lv_has ls 2 [(0, .ref q), (1, .int (nI k))] → W pr l e (rmG 1 0 0) s9 m9 (List.toArray [.ref q]) below meth c9 H locs 0 0 (MQ below (va_Qv (fun (_ : Unit) => True) (fun u9 t9 => WB D ((fun (_ : Unit) => [(q, .inr (8, [.ref (ma 0), .ref (ma 1), .int (nI (svN sN)), .ref (ma 2), .int (nI L), .int th, .ref (ma 3), .ref (ma 4), .ref (ma 5), .ref (ma 6), .int nd, .int ct, .int ht, .ref (ma 7), .ref (ma 8), .ref (ma 9), .ref (ma 10), .ref (ma 11), .ref (ma 12), .ref (ma 13), .ref (ma 14), .int sp, .int iw, .int mn])), (ma 0, .inl (G.1, 457, .inl sr)), (ma 1, .inl (G.1, 2742, .inl (bfF (svR bw sr sN))))]) u9) t9 ∧ va_D A ((fun (_ : Unit) => [(q, .inr (8, [.ref (ma 0), .ref (ma 1), .int (nI (svN sN)), .ref (ma 2), .int (nI L), .int th, .ref (ma 3), .ref (ma 4), .ref (ma 5), .ref (ma 6), .int nd, .int ct, .int ht, .ref (ma 7), .ref (ma 8), .ref (ma 9), .ref (ma 10), .ref (ma 11), .ref (ma 12), .ref (ma 13), .ref (ma 14), .int sp, .int iw, .int mn])), (ma 0, .inl (G.1, 457, .inl sr)), (ma 1, .inl (G.1, 2742, .inl (bfF (svR bw sr sN))))]) u9)) A) (List.toArray [.ref q]) s9 0 0 A) (F0 m9 52 ls []) := by
            intro n52
            induction n52 with
            | zero => intro k hk hm; exact absurd hm (Nat.not_lt_zero _)
            | succ n52 ih52 =>
              intro k hk hm H locs ls hP hD hS hl
              refine lv_iload_n hx hb dX8_saves_52 rfl (lv_at hl 1 rfl) ?_
              refine lv_sipush (v := 457) hx hb dX8_saves_53 (by decide) ?_
              refine lv_icmp_ge (tgt := 86) hx hb dX8_saves_56 (by decide) (fun c_56 => ?_) (fun c_56 => ?_)
              · have c_56 := nle_t (a := 457) (b := k) (by omega) (by omega) c_56
                refine lv_aload_n hx hb dX8_saves_86 rfl (lv_at hl 0 rfl) ?_
                refine lv_dup hx hb dX8_saves_87 rfl ?_
                refine va_get (D := D) (ci := 8) (v := .int (nI (sN - 1))) (C := RX8) (T := TX8) (N := 24) hx hb hts inlX8 hown hK hP 0 rfl rfl 2 (by decide) (hts _ kw_11_9) (fun _ h9 => h9) rfl dX8_saves_88 ?_
                refine lv_iconst (v := 1) hx hb dX8_saves_91 (by decide) ?_
                refine ro_iadd (z := nI (sN - 1 + 1)) hx hb (nI_add (sN - 1) 1) dX8_saves_92 ?_
                refine va_put (D := D) (ci := 8) (v := .int (nI (sN - 1 + 1))) (ty := .int) (C := RX8) (T := TX8) (N := 24) hx hb hts inlX8 tyX8 tyX8_ok nmX8 hown hK hP hD hS 0 rfl rfl 2 (by decide) (hts _ kw_11_9) (fun _ h9 => h9) rfl (by decide +kernel) rfl rfl (Nat.le_of_ble_eq_true rfl) dX8_saves_93 (fun H locs hP hD hS => ?_)
                have hP : va_P D vwCl [(q, .inr (8, [.ref (ma 0), .ref (ma 1), .int (nI (sN - 1 + 1)), .ref (ma 2), .int (nI L), .int th, .ref (ma 3), .ref (ma 4), .ref (ma 5), .ref (ma 6), .int nd, .int ct, .int ht, .ref (ma 7), .ref (ma 8), .ref (ma 9), .ref (ma 10), .ref (ma 11), .ref (ma 12), .ref (ma 13), .ref (ma 14), .int sp, .int iw, .int mn])), (ma 0, .inl (G.1, 457, .inl sr)), (ma 1, .inl (G.1, 2742, .inl (cpyA sr (cpy (fun j => bfF bw (457 + j)) (bfF bw) i) (457 * (sN - 1)) k)))] H := hP
                have hD : va_D A [(q, .inr (8, [.ref (ma 0), .ref (ma 1), .int (nI (sN - 1 + 1)), .ref (ma 2), .int (nI L), .int th, .ref (ma 3), .ref (ma 4), .ref (ma 5), .ref (ma 6), .int nd, .int ct, .int ht, .ref (ma 7), .ref (ma 8), .ref (ma 9), .ref (ma 10), .ref (ma 11), .ref (ma 12), .ref (ma 13), .ref (ma 14), .int sp, .int iw, .int mn])), (ma 0, .inl (G.1, 457, .inl sr)), (ma 1, .inl (G.1, 2742, .inl (cpyA sr (cpy (fun j => bfF bw (457 + j)) (bfF bw) i) (457 * (sN - 1)) k)))] := hD
                exact endV C () trivial hS (by obtain rfl : sN = 6 := c_6; obtain rfl : i = 2285 := (by omega); obtain rfl : k = 457 := (by omega); exact hP.arr 2 (g := bfF (svR bw sr 6)) rfl (fun j hj => sv_eq6 hj)) (hD.fst rfl) dX8_saves_96
              · have c_56 := nle_f (a := 457) (b := k) (by omega) (by omega) c_56
                refine lv_aload_n hx hb dX8_saves_59 rfl (lv_at hl 0 rfl) ?_
                refine va_get (D := D) (ci := 8) (v := .ref (ma 1)) (C := RX8) (T := TX8) (N := 24) hx hb hts inlX8 hown hK hP 0 rfl rfl 1 (by decide) (hts _ kw_5_7) (fun _ h9 => h9) rfl dX8_saves_60 ?_
                refine lv_sipush (v := 457) hx hb dX8_saves_63 (by decide) ?_
                refine lv_aload_n hx hb dX8_saves_66 rfl (lv_at hl 0 rfl) ?_
                refine va_get (D := D) (ci := 8) (v := .int (nI (sN - 1))) (C := RX8) (T := TX8) (N := 24) hx hb hts inlX8 hown hK hP 0 rfl rfl 2 (by decide) (hts _ kw_11_9) (fun _ h9 => h9) rfl dX8_saves_67 ?_
                refine ro_imul (z := nI (457 * (sN - 1))) hx hb (pk_mul 457 (sN - 1)) dX8_saves_70 ?_
                refine lv_iload_n hx hb dX8_saves_71 rfl (lv_at hl 1 rfl) ?_
                refine ro_iadd (z := nI (457 * (sN - 1) + k)) hx hb (nI_add (457 * (sN - 1)) k) dX8_saves_72 ?_
                refine lv_aload_n hx hb dX8_saves_73 rfl (lv_at hl 0 rfl) ?_
                refine va_get (D := D) (ci := 8) (v := .ref (ma 0)) (C := RX8) (T := TX8) (N := 24) hx hb hts inlX8 hown hK hP 0 rfl rfl 0 (by decide) (hts _ kw_5_6) (fun _ h9 => h9) rfl dX8_saves_74 ?_
                refine lv_iload_n hx hb dX8_saves_77 rfl (lv_at hl 1 rfl) ?_
                refine ro_iald (k := k) (v := sr k) hx hb hK hP 1 0 rfl rfl rfl (by omega) (by decide) rfl dX8_saves_78 ?_
                refine ro_iast (k := 457 * (sN - 1) + k) hx hb hK hP hD hS 2 0 rfl rfl rfl (by omega) (by decide) dX8_saves_79 (fun H locs hP hD hS => ?_)
                have hP : va_P D vwCl [(q, .inr (8, [.ref (ma 0), .ref (ma 1), .int (nI (sN - 1)), .ref (ma 2), .int (nI L), .int th, .ref (ma 3), .ref (ma 4), .ref (ma 5), .ref (ma 6), .int nd, .int ct, .int ht, .ref (ma 7), .ref (ma 8), .ref (ma 9), .ref (ma 10), .ref (ma 11), .ref (ma 12), .ref (ma 13), .ref (ma 14), .int sp, .int iw, .int mn])), (ma 0, .inl (G.1, 457, .inl sr)), (ma 1, .inl (G.1, 2742, .inl (upd (cpyA sr (cpy (fun j => bfF bw (457 + j)) (bfF bw) i) (457 * (sN - 1)) k) (457 * (sN - 1) + k) (sr k))))] H := hP
                have hD : va_D A [(q, .inr (8, [.ref (ma 0), .ref (ma 1), .int (nI (sN - 1)), .ref (ma 2), .int (nI L), .int th, .ref (ma 3), .ref (ma 4), .ref (ma 5), .ref (ma 6), .int nd, .int ct, .int ht, .ref (ma 7), .ref (ma 8), .ref (ma 9), .ref (ma 10), .ref (ma 11), .ref (ma 12), .ref (ma 13), .ref (ma 14), .int sp, .int iw, .int mn])), (ma 0, .inl (G.1, 457, .inl sr)), (ma 1, .inl (G.1, 2742, .inl (upd (cpyA sr (cpy (fun j => bfF bw (457 + j)) (bfF bw) i) (457 * (sN - 1)) k) (457 * (sN - 1) + k) (sr k))))] := hD
                refine lv_iinc (v := nI (k + 1)) (lv' := [(1, .int (nI (k + 1))), (0, .ref q)]) hx hb dX8_saves_80 hl (k := 1) rfl (nI_add k 1) (by decide) rfl (fun ls hl => ?_)
                refine lv_goto (tgt := 52) hx hb dX8_saves_83 (by decide) ?_
                rw [cpyA_succ] at hP hD
                exact ih52 (k + 1) (by omega) (by omega) _ _ _ hP (hD.fst rfl) hS (lv_sub hl [1, 0] rfl)
          rw [← cpyA_zero sr (cpy (fun j => bfF bw (457 + j)) (bfF bw) i) (457 * (sN - 1))] at hP hD
          exact lp52 (457 - 0 + 1) 0 (by omega) (Nat.lt_succ_self _) _ _ _ hP (hD.fst rfl) hS (lv_sub hl [1, 0] rfl)
        · have c_15 := nle_f (a := 2285) (b := i) (by omega) (by omega) c_15
          refine lv_aload_n hx hb dX8_saves_18 rfl (lv_at hl 0 rfl) ?_
          refine va_get (D := D) (ci := 8) (v := .ref (ma 1)) (C := RX8) (T := TX8) (N := 24) hx hb hts inlX8 hown hK hP 0 rfl rfl 1 (by decide) (hts _ kw_5_7) (fun _ h9 => h9) rfl dX8_saves_19 ?_
          refine lv_iload_n hx hb dX8_saves_22 rfl (lv_at hl 1 rfl) ?_
          refine lv_aload_n hx hb dX8_saves_23 rfl (lv_at hl 0 rfl) ?_
          refine va_get (D := D) (ci := 8) (v := .ref (ma 1)) (C := RX8) (T := TX8) (N := 24) hx hb hts inlX8 hown hK hP 0 rfl rfl 1 (by decide) (hts _ kw_5_7) (fun _ h9 => h9) rfl dX8_saves_24 ?_
          refine lv_sipush (v := 457) hx hb dX8_saves_27 (by decide) ?_
          refine lv_iload_n hx hb dX8_saves_30 rfl (lv_at hl 1 rfl) ?_
          refine ro_iadd (z := nI (457 + i)) hx hb (nI_add 457 i) dX8_saves_31 ?_
          refine ro_iald (k := 457 + i) (v := (fun j => bfF bw (457 + j)) i) hx hb hK hP 2 0 rfl rfl rfl (by omega) (by decide) (if_neg (by omega)) dX8_saves_32 ?_
          refine ro_iast (k := i) hx hb hK hP hD hS 2 0 rfl rfl rfl (by omega) (by decide) dX8_saves_33 (fun H locs hP hD hS => ?_)
          have hP : va_P D vwCl [(q, .inr (8, [.ref (ma 0), .ref (ma 1), .int (nI sN), .ref (ma 2), .int (nI L), .int th, .ref (ma 3), .ref (ma 4), .ref (ma 5), .ref (ma 6), .int nd, .int ct, .int ht, .ref (ma 7), .ref (ma 8), .ref (ma 9), .ref (ma 10), .ref (ma 11), .ref (ma 12), .ref (ma 13), .ref (ma 14), .int sp, .int iw, .int mn])), (ma 0, .inl (G.1, 457, .inl sr)), (ma 1, .inl (G.1, 2742, .inl (upd (cpy (fun j => bfF bw (457 + j)) (bfF bw) i) i ((fun j => bfF bw (457 + j)) i))))] H := hP
          have hD : va_D A [(q, .inr (8, [.ref (ma 0), .ref (ma 1), .int (nI sN), .ref (ma 2), .int (nI L), .int th, .ref (ma 3), .ref (ma 4), .ref (ma 5), .ref (ma 6), .int nd, .int ct, .int ht, .ref (ma 7), .ref (ma 8), .ref (ma 9), .ref (ma 10), .ref (ma 11), .ref (ma 12), .ref (ma 13), .ref (ma 14), .int sp, .int iw, .int mn])), (ma 0, .inl (G.1, 457, .inl sr)), (ma 1, .inl (G.1, 2742, .inl (upd (cpy (fun j => bfF bw (457 + j)) (bfF bw) i) i ((fun j => bfF bw (457 + j)) i))))] := hD
          refine lv_iinc (v := nI (i + 1)) (lv' := [(1, .int (nI (i + 1))), (0, .ref q)]) hx hb dX8_saves_34 hl (k := 1) rfl (nI_add i 1) (by decide) rfl (fun ls hl => ?_)
          refine lv_goto (tgt := 11) hx hb dX8_saves_37 (by decide) ?_
          rw [cpy_succ] at hP hD
          exact ih11 (i + 1) (by omega) (by omega) _ _ _ hP (hD.fst rfl) hS (lv_sub hl [1, 0] rfl)
    rw [← cpy_zero (fun j => bfF bw (457 + j)) (bfF bw)] at hP hD
    exact lp11 (2285 - 0 + 1) 0 (by omega) (Nat.lt_succ_self _) _ _ _ hP (hD.fst rfl) hS (lv_sub hl [1, 0] rfl)
set_option maxHeartbeats 800000 in
set_option maxRecDepth 100000 in
theorem mX8_plays (l : Launch) (D : va_G) (G : u_G) (q : Nat) (ma : Nat → Nat) (sN L : Nat) (th nd ct ht sp iw mn : Int32) (sr p : Nat → Int32) (x : Nat → Nat) (y : Nat → Int32) (M : Nat) (m : Nat) (hR : RowR sr x y M p) (hM : M ≤ 12) (hm : m < 4) (hmn : tk m ≤ x 14) (hfn : x 13 + x 14 ≤ M) (ht9 : x 15 ≤ 1) : MtI l D G yX8_plays cX8_plays 3 .int 3 0 0 [.ref q, .int (nI m)] [(q, .inr (8, [.ref (ma 0), .ref (ma 1), .int (nI sN), .ref (ma 2), .int (nI L), .int th, .ref (ma 3), .ref (ma 4), .ref (ma 5), .ref (ma 6), .int nd, .int ct, .int ht, .ref (ma 7), .ref (ma 8), .ref (ma 9), .ref (ma 10), .ref (ma 11), .ref (ma 12), .ref (ma 13), .ref (ma 14), .int sp, .int iw, .int mn])), (ma 0, .inl (G.1, 457, .inl sr))] (fun (r : Int32) (u : Nat → Int32) => r = cn p (x 13) (x 14) m ∧ RowR u (mvX x m) (mvY p x y m) M p) (fun (u : Nat → Int32) => [(q, .inr (8, [.ref (ma 0), .ref (ma 1), .int (nI sN), .ref (ma 2), .int (nI L), .int th, .ref (ma 3), .ref (ma 4), .ref (ma 5), .ref (ma 6), .int nd, .int ct, .int ht, .ref (ma 7), .ref (ma 8), .ref (ma 9), .ref (ma 10), .ref (ma 11), .ref (ma 12), .ref (ma 13), .ref (ma 14), .int sp, .int iw, .int mn])), (ma 0, .inl (G.1, 457, .inl u))]) := by
  refine MtI.of (by decide) (Nat.le_of_ble_eq_true rfl) ?_
  intro pr e s9 m9 below meth c9 A ls C hP hD hl
  obtain ⟨hx, hb, hml, hown, hts, hr, hlocks, hA, hAm⟩ := id C
  have hK := hAm.1
  have hS : va_S A s9.heap s9.heap [] := va_S.rf
  have hl : lv_has ls 3 [(0, .ref q), (1, .int (nI m))] := hl
  refine lv_aload_n hx hb dX8_plays_0 rfl (lv_at hl 0 rfl) ?_
  refine lv_aload_n hx hb dX8_plays_1 rfl (lv_at hl 0 rfl) ?_
  refine va_get (D := D) (ci := 8) (v := .ref (ma 0)) (C := RX8) (T := TX8) (N := 24) hx hb hts inlX8 hown hK hP 0 rfl rfl 0 (by decide) (hts _ kw_5_6) (fun _ h9 => h9) rfl dX8_plays_2 ?_
  refine lv_bipush (v := 13) hx hb dX8_plays_5 (by decide) ?_
  refine ro_iald (k := 13) (v := nI (x 13)) hx hb hK hP 1 0 rfl rfl rfl (by decide) (by decide) hR.n13 dX8_plays_7 ?_
  refine lv_aload_n hx hb dX8_plays_8 rfl (lv_at hl 0 rfl) ?_
  refine va_get (D := D) (ci := 8) (v := .ref (ma 0)) (C := RX8) (T := TX8) (N := 24) hx hb hts inlX8 hown hK hP 0 rfl rfl 0 (by decide) (hts _ kw_5_6) (fun _ h9 => h9) rfl dX8_plays_9 ?_
  refine lv_bipush (v := 14) hx hb dX8_plays_12 (by decide) ?_
  refine ro_iald (k := 14) (v := nI (x 14)) hx hb hK hP 1 0 rfl rfl rfl (by decide) (by decide) hR.n14 dX8_plays_14 ?_
  refine lv_iload_n hx hb dX8_plays_15 rfl (lv_at hl 1 rfl) ?_
  refine aftI0 C (runV_G (As := [.int (nI (x 13)), .int (nI (x 14)), .int (nI m)]) (rest := []) (ci := 8) (N := 24) (T := TX8) (q0 := 0) C (mX8_coinsOf l D G q ma sN L th nd ct ht sp iw mn sr p M (x 13) (x 14) m hm hmn hfn hM hR.pp) hS hP hD [0, 1] rfl (by decide) rfl rfl (ys_X8_coinsOf) kw_12_23 kw_13_0 kw_13_1 ⟨Nat.le_of_ble_eq_true rfl, Nat.le_of_ble_eq_true rfl⟩ hl.1 (Nat.le_of_ble_eq_true rfl) dX8_plays_16 rfl rfl ⟨Nat.zero_le _, Nat.zero_le _⟩) hS hP hD [0, 1] rfl (fun r16 _ H locs hp16 hP hS => ?_)
  refine ro_top (z := cn p (x 13) (x 14) m) hx hp16 ?_
  refine lv_istore_n (lv' := [(2, .int (cn p (x 13) (x 14) m)), (0, .ref q), (1, .int (nI m))]) hx hb dX8_plays_19 rfl hl (by decide) rfl (fun ls hl => ?_)
  refine lv_aload_n hx hb dX8_plays_20 rfl (lv_at hl 1 rfl) ?_
  refine va_get (D := D) (ci := 8) (v := .ref (ma 0)) (C := RX8) (T := TX8) (N := 24) hx hb hts inlX8 hown hK hP 0 rfl rfl 0 (by decide) (hts _ kw_5_6) (fun _ h9 => h9) rfl dX8_plays_21 ?_
  refine lv_bipush (v := 16) hx hb dX8_plays_24 (by decide) ?_
  refine lv_aload_n hx hb dX8_plays_26 rfl (lv_at hl 1 rfl) ?_
  refine va_get (D := D) (ci := 8) (v := .ref (ma 0)) (C := RX8) (T := TX8) (N := 24) hx hb hts inlX8 hown hK hP 0 rfl rfl 0 (by decide) (hts _ kw_5_6) (fun _ h9 => h9) rfl dX8_plays_27 ?_
  refine lv_bipush (v := 15) hx hb dX8_plays_30 (by decide) ?_
  refine ro_iald (k := 15) (v := nI (x 15)) hx hb hK hP 1 0 rfl rfl rfl (by decide) (by decide) hR.n15 dX8_plays_32 ?_
  refine ro_iadd (z := nI (16 + x 15)) hx hb (nI_add 16 (x 15)) dX8_plays_33 ?_
  refine lv_dup2_11 hx hb dX8_plays_34 rfl rfl ?_
  refine ro_iald (k := 16 + x 15) (v := sr (16 + x 15)) hx hb hK hP 1 0 rfl rfl rfl (by omega) (by decide) rfl dX8_plays_35 ?_
  refine lv_iload_n hx hb dX8_plays_36 rfl (lv_at hl 0 rfl) ?_
  refine lv_iadd hx hb dX8_plays_37 ?_
  refine ro_iast (k := 16 + x 15) hx hb hK hP hD hS 1 0 rfl rfl rfl (by omega) (by decide) dX8_plays_38 (fun H locs hP hD hS => ?_)
  have hP : va_P D vwCl [(q, .inr (8, [.ref (ma 0), .ref (ma 1), .int (nI sN), .ref (ma 2), .int (nI L), .int th, .ref (ma 3), .ref (ma 4), .ref (ma 5), .ref (ma 6), .int nd, .int ct, .int ht, .ref (ma 7), .ref (ma 8), .ref (ma 9), .ref (ma 10), .ref (ma 11), .ref (ma 12), .ref (ma 13), .ref (ma 14), .int sp, .int iw, .int mn])), (ma 0, .inl (G.1, 457, .inl (upd sr (16 + x 15) ((sr (16 + x 15)) + (cn p (x 13) (x 14) m)))))] H := hP
  have hD : va_D A [(q, .inr (8, [.ref (ma 0), .ref (ma 1), .int (nI sN), .ref (ma 2), .int (nI L), .int th, .ref (ma 3), .ref (ma 4), .ref (ma 5), .ref (ma 6), .int nd, .int ct, .int ht, .ref (ma 7), .ref (ma 8), .ref (ma 9), .ref (ma 10), .ref (ma 11), .ref (ma 12), .ref (ma 13), .ref (ma 14), .int sp, .int iw, .int mn])), (ma 0, .inl (G.1, 457, .inl (upd sr (16 + x 15) ((sr (16 + x 15)) + (cn p (x 13) (x 14) m)))))] := hD
  refine lv_aload_n hx hb dX8_plays_39 rfl (lv_at hl 1 rfl) ?_
  refine va_get (D := D) (ci := 8) (v := .ref (ma 0)) (C := RX8) (T := TX8) (N := 24) hx hb hts inlX8 hown hK hP 0 rfl rfl 0 (by decide) (hts _ kw_5_6) (fun _ h9 => h9) rfl dX8_plays_40 ?_
  refine lv_bipush (v := 13) hx hb dX8_plays_43 (by decide) ?_
  refine lv_aload_n hx hb dX8_plays_45 rfl (lv_at hl 1 rfl) ?_
  refine va_get (D := D) (ci := 8) (v := .ref (ma 0)) (C := RX8) (T := TX8) (N := 24) hx hb hts inlX8 hown hK hP 0 rfl rfl 0 (by decide) (hts _ kw_5_6) (fun _ h9 => h9) rfl dX8_plays_46 ?_
  refine lv_bipush (v := 13) hx hb dX8_plays_49 (by decide) ?_
  refine ro_iald (k := 13) (v := nI (x 13)) hx hb hK hP 1 0 rfl rfl rfl (by decide) (by decide) (by rw [pk_un (by omega)]; exact hR.n13) dX8_plays_51 ?_
  refine lv_iload_n hx hb dX8_plays_52 rfl (lv_at hl 2 rfl) ?_
  refine aftI0 C (runS_G (As := [.int (nI (x 13)), .int (nI m)]) (rest := [.int 13, .ref (ma 0)]) C (mX8_behind l D G (x 13) m (by omega) (by omega)) hS hP hD [] rfl (by decide) (ys_X8_behind) kw_13_3 kw_13_4 ⟨Nat.le_of_ble_eq_true rfl, Nat.le_of_ble_eq_true rfl⟩ hl.1 (Nat.le_of_ble_eq_true rfl) dX8_plays_53 rfl rfl ⟨Nat.zero_le _, Nat.zero_le _⟩) hS hP hD [] rfl (fun r53 _ H locs hp53 hP hS => ?_)
  refine ro_top (z := nI (bh (x 13) m)) hx hp53 ?_
  refine ro_iast (k := 13) hx hb hK hP hD hS 1 0 rfl rfl rfl (by decide) (by decide) dX8_plays_56 (fun H locs hP hD hS => ?_)
  have hP : va_P D vwCl [(q, .inr (8, [.ref (ma 0), .ref (ma 1), .int (nI sN), .ref (ma 2), .int (nI L), .int th, .ref (ma 3), .ref (ma 4), .ref (ma 5), .ref (ma 6), .int nd, .int ct, .int ht, .ref (ma 7), .ref (ma 8), .ref (ma 9), .ref (ma 10), .ref (ma 11), .ref (ma 12), .ref (ma 13), .ref (ma 14), .int sp, .int iw, .int mn])), (ma 0, .inl (G.1, 457, .inl (upd (upd sr (16 + x 15) ((sr (16 + x 15)) + (cn p (x 13) (x 14) m))) 13 (nI (bh (x 13) m)))))] H := hP
  have hD : va_D A [(q, .inr (8, [.ref (ma 0), .ref (ma 1), .int (nI sN), .ref (ma 2), .int (nI L), .int th, .ref (ma 3), .ref (ma 4), .ref (ma 5), .ref (ma 6), .int nd, .int ct, .int ht, .ref (ma 7), .ref (ma 8), .ref (ma 9), .ref (ma 10), .ref (ma 11), .ref (ma 12), .ref (ma 13), .ref (ma 14), .int sp, .int iw, .int mn])), (ma 0, .inl (G.1, 457, .inl (upd (upd sr (16 + x 15) ((sr (16 + x 15)) + (cn p (x 13) (x 14) m))) 13 (nI (bh (x 13) m)))))] := hD
  refine lv_aload_n hx hb dX8_plays_57 rfl (lv_at hl 1 rfl) ?_
  refine va_get (D := D) (ci := 8) (v := .ref (ma 0)) (C := RX8) (T := TX8) (N := 24) hx hb hts inlX8 hown hK hP 0 rfl rfl 0 (by decide) (hts _ kw_5_6) (fun _ h9 => h9) rfl dX8_plays_58 ?_
  refine lv_bipush (v := 14) hx hb dX8_plays_61 (by decide) ?_
  refine lv_dup2_11 hx hb dX8_plays_63 rfl rfl ?_
  refine ro_iald (k := 14) (v := nI (x 14)) hx hb hK hP 1 0 rfl rfl rfl (by decide) (by decide) (by rw [pk_un (by omega), pk_un (by omega)]; exact hR.n14) dX8_plays_64 ?_
  refine lv_iload_n hx hb dX8_plays_65 rfl (lv_at hl 2 rfl) ?_
  refine aftI0 C (runS_G (As := [.int (nI m)]) (rest := [.int (nI (x 14)), .int 14, .ref (ma 0)]) C (mX8_takes l D G m (by omega)) hS hP hD [] rfl (by decide) (ys_X8_takes) kw_12_16 kw_12_17 ⟨Nat.le_of_ble_eq_true rfl, Nat.le_of_ble_eq_true rfl⟩ hl.1 (Nat.le_of_ble_eq_true rfl) dX8_plays_66 rfl rfl ⟨Nat.zero_le _, Nat.zero_le _⟩) hS hP hD [] rfl (fun r66 _ H locs hp66 hP hS => ?_)
  refine ro_top (z := nI (tk m)) hx hp66 ?_
  refine ro_isub (z := nI (x 14 - (tk m))) hx hb (pk_sub (a := x 14) (b := tk m) (by omega)) dX8_plays_69 ?_
  refine ro_iast (k := 14) hx hb hK hP hD hS 1 0 rfl rfl rfl (by decide) (by decide) dX8_plays_70 (fun H locs hP hD hS => ?_)
  have hP : va_P D vwCl [(q, .inr (8, [.ref (ma 0), .ref (ma 1), .int (nI sN), .ref (ma 2), .int (nI L), .int th, .ref (ma 3), .ref (ma 4), .ref (ma 5), .ref (ma 6), .int nd, .int ct, .int ht, .ref (ma 7), .ref (ma 8), .ref (ma 9), .ref (ma 10), .ref (ma 11), .ref (ma 12), .ref (ma 13), .ref (ma 14), .int sp, .int iw, .int mn])), (ma 0, .inl (G.1, 457, .inl (upd (upd (upd sr (16 + x 15) ((sr (16 + x 15)) + (cn p (x 13) (x 14) m))) 13 (nI (bh (x 13) m))) 14 (nI (x 14 - (tk m))))))] H := hP
  have hD : va_D A [(q, .inr (8, [.ref (ma 0), .ref (ma 1), .int (nI sN), .ref (ma 2), .int (nI L), .int th, .ref (ma 3), .ref (ma 4), .ref (ma 5), .ref (ma 6), .int nd, .int ct, .int ht, .ref (ma 7), .ref (ma 8), .ref (ma 9), .ref (ma 10), .ref (ma 11), .ref (ma 12), .ref (ma 13), .ref (ma 14), .int sp, .int iw, .int mn])), (ma 0, .inl (G.1, 457, .inl (upd (upd (upd sr (16 + x 15) ((sr (16 + x 15)) + (cn p (x 13) (x 14) m))) 13 (nI (bh (x 13) m))) 14 (nI (x 14 - (tk m))))))] := hD
  refine lv_aload_n hx hb dX8_plays_71 rfl (lv_at hl 1 rfl) ?_
  refine va_get (D := D) (ci := 8) (v := .ref (ma 0)) (C := RX8) (T := TX8) (N := 24) hx hb hts inlX8 hown hK hP 0 rfl rfl 0 (by decide) (hts _ kw_5_6) (fun _ h9 => h9) rfl dX8_plays_72 ?_
  refine lv_bipush (v := 15) hx hb dX8_plays_75 (by decide) ?_
  refine lv_iconst (v := 1) hx hb dX8_plays_77 (by decide) ?_
  refine lv_aload_n hx hb dX8_plays_78 rfl (lv_at hl 1 rfl) ?_
  refine va_get (D := D) (ci := 8) (v := .ref (ma 0)) (C := RX8) (T := TX8) (N := 24) hx hb hts inlX8 hown hK hP 0 rfl rfl 0 (by decide) (hts _ kw_5_6) (fun _ h9 => h9) rfl dX8_plays_79 ?_
  refine lv_bipush (v := 15) hx hb dX8_plays_82 (by decide) ?_
  refine ro_iald (k := 15) (v := nI (x 15)) hx hb hK hP 1 0 rfl rfl rfl (by decide) (by decide) (by rw [pk_un (by omega), pk_un (by omega), pk_un (by omega)]; exact hR.n15) dX8_plays_84 ?_
  refine ro_isub (z := nI (1 - (x 15))) hx hb (pk_sub (a := 1) (b := x 15) (by omega)) dX8_plays_85 ?_
  refine ro_iast (k := 15) hx hb hK hP hD hS 1 0 rfl rfl rfl (by decide) (by decide) dX8_plays_86 (fun H locs hP hD hS => ?_)
  have hP : va_P D vwCl [(q, .inr (8, [.ref (ma 0), .ref (ma 1), .int (nI sN), .ref (ma 2), .int (nI L), .int th, .ref (ma 3), .ref (ma 4), .ref (ma 5), .ref (ma 6), .int nd, .int ct, .int ht, .ref (ma 7), .ref (ma 8), .ref (ma 9), .ref (ma 10), .ref (ma 11), .ref (ma 12), .ref (ma 13), .ref (ma 14), .int sp, .int iw, .int mn])), (ma 0, .inl (G.1, 457, .inl (upd (upd (upd (upd sr (16 + x 15) ((sr (16 + x 15)) + (cn p (x 13) (x 14) m))) 13 (nI (bh (x 13) m))) 14 (nI (x 14 - (tk m)))) 15 (nI (1 - (x 15))))))] H := hP
  have hD : va_D A [(q, .inr (8, [.ref (ma 0), .ref (ma 1), .int (nI sN), .ref (ma 2), .int (nI L), .int th, .ref (ma 3), .ref (ma 4), .ref (ma 5), .ref (ma 6), .int nd, .int ct, .int ht, .ref (ma 7), .ref (ma 8), .ref (ma 9), .ref (ma 10), .ref (ma 11), .ref (ma 12), .ref (ma 13), .ref (ma 14), .int sp, .int iw, .int mn])), (ma 0, .inl (G.1, 457, .inl (upd (upd (upd (upd sr (16 + x 15) ((sr (16 + x 15)) + (cn p (x 13) (x 14) m))) 13 (nI (bh (x 13) m))) 14 (nI (x 14 - (tk m)))) 15 (nI (1 - (x 15))))))] := hD
  refine lv_iload_n hx hb dX8_plays_87 rfl (lv_at hl 0 rfl) ?_
  exact endI C rfl (upd (upd (upd (upd sr (16 + x 15) ((sr (16 + x 15)) + (cn p (x 13) (x 14) m))) 13 (nI (bh (x 13) m))) 14 (nI (x 14 - (tk m)))) 15 (nI (1 - (x 15)))) ⟨rfl, hR.mv hM ht9 m⟩ hS hP dX8_plays_88
set_option maxHeartbeats 800000 in
set_option maxRecDepth 100000 in
theorem mX8_play (l : Launch) (D : va_G) (G : u_G) (q : Nat) (ma : Nat → Nat) (sN L : Nat) (th nd ct ht sp iw mn : Int32) (sr p : Nat → Int32) (x : Nat → Nat) (y : Nat → Int32) (M : Nat) (bw : Nat → Nat → Int32) (m : Nat) (hR : RowR sr x y M p) (hM : M ≤ 12) (hsN : sN ≤ 6) (hm : m < 4) (hmn : tk m ≤ x 14) (hfn : x 13 + x 14 ≤ M) (ht9 : x 15 ≤ 1) : MtI l D G yX8_play cX8_play 2 .int 4 0 0 [.ref q, .int (nI m)] [(q, .inr (8, [.ref (ma 0), .ref (ma 1), .int (nI sN), .ref (ma 2), .int (nI L), .int th, .ref (ma 3), .ref (ma 4), .ref (ma 5), .ref (ma 6), .int nd, .int ct, .int ht, .ref (ma 7), .ref (ma 8), .ref (ma 9), .ref (ma 10), .ref (ma 11), .ref (ma 12), .ref (ma 13), .ref (ma 14), .int sp, .int iw, .int mn])), (ma 0, .inl (G.1, 457, .inl sr)), (ma 1, .inl (G.1, 2742, .inl (bfF bw)))] (fun (r : Int32) (u : Nat → Int32) => r = cn p (x 13) (x 14) m ∧ RowR u (mvX x m) (mvY p x y m) M p) (fun (u : Nat → Int32) => [(q, .inr (8, [.ref (ma 0), .ref (ma 1), .int (nI (svN sN)), .ref (ma 2), .int (nI L), .int (nI 0), .ref (ma 3), .ref (ma 4), .ref (ma 5), .ref (ma 6), .int nd, .int ct, .int ht, .ref (ma 7), .ref (ma 8), .ref (ma 9), .ref (ma 10), .ref (ma 11), .ref (ma 12), .ref (ma 13), .ref (ma 14), .int sp, .int iw, .int mn])), (ma 0, .inl (G.1, 457, .inl u)), (ma 1, .inl (G.1, 2742, .inl (bfF (svR bw sr sN))))]) := by
  refine MtI.of (by decide) (Nat.le_of_ble_eq_true rfl) ?_
  intro pr e s9 m9 below meth c9 A ls C hP hD hl
  obtain ⟨hx, hb, hml, hown, hts, hr, hlocks, hA, hAm⟩ := id C
  have hK := hAm.1
  have hS : va_S A s9.heap s9.heap [] := va_S.rf
  have hl : lv_has ls 2 [(0, .ref q), (1, .int (nI m))] := hl
  refine lv_aload_n hx hb dX8_play_0 rfl (lv_at hl 0 rfl) ?_
  refine lv_iload_n hx hb dX8_play_1 rfl (lv_at hl 1 rfl) ?_
  refine aftI0 C (runS_G (As := [.int (nI m)]) (rest := [.ref q]) C (mX8_isMove l D G (nI m) ) hS hP hD [] rfl (by decide) (ys_X8_isMove) kw_12_13 kw_12_14 ⟨Nat.le_of_ble_eq_true rfl, Nat.le_of_ble_eq_true rfl⟩ hl.1 (Nat.le_of_ble_eq_true rfl) dX8_play_2 rfl rfl ⟨Nat.zero_le _, Nat.zero_le _⟩) hS hP hD [] rfl (fun r2 _ H locs hp2 hP hS => ?_)
  refine ro_top (z := bI (¬ (nI m) < 0 ∧ ¬ 3 < (nI m))) hx hp2 ?_
  refine lv_if_ne (tgt := 12) hx hb dX8_play_5 (by decide) (fun c_5 => ?_) (fun c_5 => ?_)
  · have c_5 := bI_1 c_5
    refine lv_iload_n hx hb dX8_play_12 rfl (lv_at hl 1 rfl) ?_
    refine aftI0 C (runS_G (As := [.int (nI m)]) (rest := [.ref q]) C (mX8_takes l D G m hm) hS hP hD [] rfl (by decide) (ys_X8_takes) kw_12_16 kw_12_17 ⟨Nat.le_of_ble_eq_true rfl, Nat.le_of_ble_eq_true rfl⟩ hl.1 (Nat.le_of_ble_eq_true rfl) dX8_play_13 rfl rfl ⟨Nat.zero_le _, Nat.zero_le _⟩) hS hP hD [] rfl (fun r13 _ H locs hp13 hP hS => ?_)
    refine ro_top (z := nI (tk m)) hx hp13 ?_
    refine lv_aload_n hx hb dX8_play_16 rfl (lv_at hl 0 rfl) ?_
    refine va_get (D := D) (ci := 8) (v := .ref (ma 0)) (C := RX8) (T := TX8) (N := 24) hx hb hts inlX8 hown hK hP 0 rfl rfl 0 (by decide) (hts _ kw_5_6) (fun _ h9 => h9) rfl dX8_play_17 ?_
    refine lv_bipush (v := 14) hx hb dX8_play_20 (by decide) ?_
    refine ro_iald (k := 14) (v := nI (x 14)) hx hb hK hP 1 0 rfl rfl rfl (by decide) (by decide) hR.n14 dX8_play_22 ?_
    refine lv_icmp_le (tgt := 30) hx hb dX8_play_23 (by decide) (fun c_23 => ?_) (fun c_23 => ?_)
    · have c_23 := nle_t (a := tk m) (b := x 14) (by omega) (by omega) c_23
      refine lv_iconst (v := 0) hx hb dX8_play_30 (by decide) ?_
      refine aftI C (runV_G (As := [.int 0]) (rest := []) (ci := 8) (N := 24) (T := TX8) (q0 := 0) C (mX8_refused l D G q ma sN L th nd ct ht sp iw mn 0 (by omega)) hS hP hD [0] rfl (by decide) rfl rfl (ys_X8_refused) kw_11_0 kw_11_1 kw_11_2 ⟨Nat.le_of_ble_eq_true rfl, Nat.le_of_ble_eq_true rfl⟩ hl.1 (Nat.le_of_ble_eq_true rfl) dX8_play_31 rfl rfl ⟨Nat.zero_le _, Nat.zero_le _⟩) hS hP hD [0] rfl (fun _ => rfl) (fun r31 _ H locs hp31 hP hD hS => ?_)
      have hP : va_P D vwCl [(q, .inr (8, [.ref (ma 0), .ref (ma 1), .int (nI sN), .ref (ma 2), .int (nI L), .int (nI 0), .ref (ma 3), .ref (ma 4), .ref (ma 5), .ref (ma 6), .int nd, .int ct, .int ht, .ref (ma 7), .ref (ma 8), .ref (ma 9), .ref (ma 10), .ref (ma 11), .ref (ma 12), .ref (ma 13), .ref (ma 14), .int sp, .int iw, .int mn])), (ma 0, .inl (G.1, 457, .inl sr)), (ma 1, .inl (G.1, 2742, .inl (bfF bw)))] H := hP
      have hD : va_D A [(q, .inr (8, [.ref (ma 0), .ref (ma 1), .int (nI sN), .ref (ma 2), .int (nI L), .int (nI 0), .ref (ma 3), .ref (ma 4), .ref (ma 5), .ref (ma 6), .int nd, .int ct, .int ht, .ref (ma 7), .ref (ma 8), .ref (ma 9), .ref (ma 10), .ref (ma 11), .ref (ma 12), .ref (ma 13), .ref (ma 14), .int sp, .int iw, .int mn])), (ma 0, .inl (G.1, 457, .inl sr)), (ma 1, .inl (G.1, 2742, .inl (bfF bw)))] := hD
      refine ro_top (z := bI (0 < 0)) hx hp31 ?_
      refine lv_if_eq (tgt := 39) hx hb dX8_play_34 (by decide) (fun _ => ?_) (fun h => absurd (by decide) h)
      refine lv_aload_n hx hb dX8_play_39 rfl (lv_at hl 0 rfl) ?_
      refine aftV C (runV_G (As := []) (rest := []) (ci := 8) (N := 24) (T := TX8) (q0 := 0) C (mX8_saves l D G q ma sN L (nI 0) nd ct ht sp iw mn sr bw hsN) hS hP hD [0, 1, 2] rfl (by decide) rfl rfl (ys_X8_saves) kw_11_5 kw_11_6 kw_11_7 ⟨Nat.le_of_ble_eq_true rfl, Nat.le_of_ble_eq_true rfl⟩ hl.1 (Nat.le_of_ble_eq_true rfl) dX8_play_40 rfl rfl ⟨Nat.zero_le _, Nat.zero_le _⟩) hS hP hD [0, 1, 2] rfl (fun _ => rfl) (fun _ H locs hp40 hP hD hS => ?_)
      have hP : va_P D vwCl [(q, .inr (8, [.ref (ma 0), .ref (ma 1), .int (nI (svN sN)), .ref (ma 2), .int (nI L), .int (nI 0), .ref (ma 3), .ref (ma 4), .ref (ma 5), .ref (ma 6), .int nd, .int ct, .int ht, .ref (ma 7), .ref (ma 8), .ref (ma 9), .ref (ma 10), .ref (ma 11), .ref (ma 12), .ref (ma 13), .ref (ma 14), .int sp, .int iw, .int mn])), (ma 0, .inl (G.1, 457, .inl sr)), (ma 1, .inl (G.1, 2742, .inl (bfF (svR bw sr sN))))] H := hP
      have hD : va_D A [(q, .inr (8, [.ref (ma 0), .ref (ma 1), .int (nI (svN sN)), .ref (ma 2), .int (nI L), .int (nI 0), .ref (ma 3), .ref (ma 4), .ref (ma 5), .ref (ma 6), .int nd, .int ct, .int ht, .ref (ma 7), .ref (ma 8), .ref (ma 9), .ref (ma 10), .ref (ma 11), .ref (ma 12), .ref (ma 13), .ref (ma 14), .int sp, .int iw, .int mn])), (ma 0, .inl (G.1, 457, .inl sr)), (ma 1, .inl (G.1, 2742, .inl (bfF (svR bw sr sN))))] := hD
      refine lv_aload_n hx hb dX8_play_43 rfl (lv_at hl 0 rfl) ?_
      refine lv_iload_n hx hb dX8_play_44 rfl (lv_at hl 1 rfl) ?_
      refine aftI C (runV_G (As := [.int (nI m)]) (rest := []) (ci := 8) (N := 24) (T := TX8) (q0 := 0) C (mX8_plays l D G q ma (svN sN) L (nI 0) nd ct ht sp iw mn sr p x y M m hR hM hm hmn hfn ht9) hS hP hD [0, 1] rfl (by decide) rfl rfl (ys_X8_plays) kw_12_19 kw_12_20 kw_12_21 ⟨Nat.le_of_ble_eq_true rfl, Nat.le_of_ble_eq_true rfl⟩ hl.1 (Nat.le_of_ble_eq_true rfl) dX8_play_45 rfl rfl ⟨Nat.zero_le _, Nat.zero_le _⟩) hS hP hD [0, 1] rfl (fun _ => rfl) (fun r45 u45 H locs hp45 hP hD hS => ?_)
      have hP : va_P D vwCl [(q, .inr (8, [.ref (ma 0), .ref (ma 1), .int (nI (svN sN)), .ref (ma 2), .int (nI L), .int (nI 0), .ref (ma 3), .ref (ma 4), .ref (ma 5), .ref (ma 6), .int nd, .int ct, .int ht, .ref (ma 7), .ref (ma 8), .ref (ma 9), .ref (ma 10), .ref (ma 11), .ref (ma 12), .ref (ma 13), .ref (ma 14), .int sp, .int iw, .int mn])), (ma 0, .inl (G.1, 457, .inl u45)), (ma 1, .inl (G.1, 2742, .inl (bfF (svR bw sr sN))))] H := hP
      have hD : va_D A [(q, .inr (8, [.ref (ma 0), .ref (ma 1), .int (nI (svN sN)), .ref (ma 2), .int (nI L), .int (nI 0), .ref (ma 3), .ref (ma 4), .ref (ma 5), .ref (ma 6), .int nd, .int ct, .int ht, .ref (ma 7), .ref (ma 8), .ref (ma 9), .ref (ma 10), .ref (ma 11), .ref (ma 12), .ref (ma 13), .ref (ma 14), .int sp, .int iw, .int mn])), (ma 0, .inl (G.1, 457, .inl u45)), (ma 1, .inl (G.1, 2742, .inl (bfF (svR bw sr sN))))] := hD
      exact endI C rfl u45 hp45 hS hP dX8_play_48
    · have c_23 := nle_f (a := tk m) (b := x 14) (by omega) (by omega) c_23
      omega
  · have c_5 : ¬ (¬ (nI m) < 0 ∧ ¬ 3 < (nI m)) := bI_0 c_5
    exact absurd (nin (Nat.zero_le m) (show m ≤ 3 by omega) (by decide)) c_5
set_option maxHeartbeats 800000 in
set_option maxRecDepth 100000 in
theorem mX8_play_T1 (l : Launch) (D : va_G) (G : u_G) (q : Nat) (ma : Nat → Nat) (sN L : Nat) (th nd ct ht sp iw mn : Int32) (sr p : Nat → Int32) (x : Nat → Nat) (y : Nat → Int32) (M : Nat) (v : Int32) (hR : RowR sr x y M p) (hM : M ≤ 12) (hbad : ¬ (¬ v < 0 ∧ ¬ 3 < v)) : MtI l D G yX8_play cX8_play 2 .int 3 0 0 [.ref q, .int v] [(q, .inr (8, [.ref (ma 0), .ref (ma 1), .int (nI sN), .ref (ma 2), .int (nI L), .int th, .ref (ma 3), .ref (ma 4), .ref (ma 5), .ref (ma 6), .int nd, .int ct, .int ht, .ref (ma 7), .ref (ma 8), .ref (ma 9), .ref (ma 10), .ref (ma 11), .ref (ma 12), .ref (ma 13), .ref (ma 14), .int sp, .int iw, .int mn])), (ma 0, .inl (G.1, 457, .inl sr))] (fun (r : Int32) (_ : Unit) => r = 0) (fun (_ : Unit) => [(q, .inr (8, [.ref (ma 0), .ref (ma 1), .int (nI sN), .ref (ma 2), .int (nI L), .int (nI 1), .ref (ma 3), .ref (ma 4), .ref (ma 5), .ref (ma 6), .int nd, .int ct, .int ht, .ref (ma 7), .ref (ma 8), .ref (ma 9), .ref (ma 10), .ref (ma 11), .ref (ma 12), .ref (ma 13), .ref (ma 14), .int sp, .int iw, .int mn])), (ma 0, .inl (G.1, 457, .inl sr))]) := by
  refine MtI.of (by decide) (Nat.le_of_ble_eq_true rfl) ?_
  intro pr e s9 m9 below meth c9 A ls C hP hD hl
  obtain ⟨hx, hb, hml, hown, hts, hr, hlocks, hA, hAm⟩ := id C
  have hK := hAm.1
  have hS : va_S A s9.heap s9.heap [] := va_S.rf
  have hl : lv_has ls 2 [(0, .ref q), (1, .int v)] := hl
  refine lv_aload_n hx hb dX8_play_0 rfl (lv_at hl 0 rfl) ?_
  refine lv_iload_n hx hb dX8_play_1 rfl (lv_at hl 1 rfl) ?_
  refine aftI0 C (runS_G (As := [.int v]) (rest := [.ref q]) C (mX8_isMove l D G v ) hS hP hD [] rfl (by decide) (ys_X8_isMove) kw_12_13 kw_12_14 ⟨Nat.le_of_ble_eq_true rfl, Nat.le_of_ble_eq_true rfl⟩ hl.1 (Nat.le_of_ble_eq_true rfl) dX8_play_2 rfl rfl ⟨Nat.zero_le _, Nat.zero_le _⟩) hS hP hD [] rfl (fun r2 _ H locs hp2 hP hS => ?_)
  refine ro_top (z := bI (¬ v < 0 ∧ ¬ 3 < v)) hx hp2 ?_
  refine lv_if_ne (tgt := 12) hx hb dX8_play_5 (by decide) (fun c_5 => ?_) (fun c_5 => ?_)
  · have c_5 := bI_1 c_5
    exact absurd c_5 hbad
  · have c_5 : ¬ (¬ v < 0 ∧ ¬ 3 < v) := bI_0 c_5
    refine lv_iconst (v := 1) hx hb dX8_play_8 (by decide) ?_
    refine lv_goto (tgt := 31) hx hb dX8_play_9 (by decide) ?_
    refine aftI C (runV_G (As := [.int 1]) (rest := []) (ci := 8) (N := 24) (T := TX8) (q0 := 0) C (mX8_refused l D G q ma sN L th nd ct ht sp iw mn 1 (by omega)) hS hP hD [0] rfl (by decide) rfl rfl (ys_X8_refused) kw_11_0 kw_11_1 kw_11_2 ⟨Nat.le_of_ble_eq_true rfl, Nat.le_of_ble_eq_true rfl⟩ hl.1 (Nat.le_of_ble_eq_true rfl) dX8_play_31 rfl rfl ⟨Nat.zero_le _, Nat.zero_le _⟩) hS hP hD [0] rfl (fun _ => rfl) (fun r31 _ H locs hp31 hP hD hS => ?_)
    have hP : va_P D vwCl [(q, .inr (8, [.ref (ma 0), .ref (ma 1), .int (nI sN), .ref (ma 2), .int (nI L), .int (nI 1), .ref (ma 3), .ref (ma 4), .ref (ma 5), .ref (ma 6), .int nd, .int ct, .int ht, .ref (ma 7), .ref (ma 8), .ref (ma 9), .ref (ma 10), .ref (ma 11), .ref (ma 12), .ref (ma 13), .ref (ma 14), .int sp, .int iw, .int mn])), (ma 0, .inl (G.1, 457, .inl sr))] H := hP
    have hD : va_D A [(q, .inr (8, [.ref (ma 0), .ref (ma 1), .int (nI sN), .ref (ma 2), .int (nI L), .int (nI 1), .ref (ma 3), .ref (ma 4), .ref (ma 5), .ref (ma 6), .int nd, .int ct, .int ht, .ref (ma 7), .ref (ma 8), .ref (ma 9), .ref (ma 10), .ref (ma 11), .ref (ma 12), .ref (ma 13), .ref (ma 14), .int sp, .int iw, .int mn])), (ma 0, .inl (G.1, 457, .inl sr))] := hD
    refine ro_top (z := bI (0 < 1)) hx hp31 ?_
    refine lv_if_eq (tgt := 39) hx hb dX8_play_34 (by decide) (fun h => absurd h (by decide)) (fun _ => ?_)
    refine lv_iconst (v := 0) hx hb dX8_play_37 (by decide) ?_
    exact endI C rfl () rfl hS hP dX8_play_38
set_option maxHeartbeats 800000 in
set_option maxRecDepth 100000 in
theorem mX8_play_T2 (l : Launch) (D : va_G) (G : u_G) (q : Nat) (ma : Nat → Nat) (sN L : Nat) (th nd ct ht sp iw mn : Int32) (sr p : Nat → Int32) (x : Nat → Nat) (y : Nat → Int32) (M : Nat) (m : Nat) (hR : RowR sr x y M p) (hM : M ≤ 12) (hm : m < 4) (hbad : x 14 < tk m) (hfn : x 13 + x 14 ≤ M) : MtI l D G yX8_play cX8_play 2 .int 3 0 0 [.ref q, .int (nI m)] [(q, .inr (8, [.ref (ma 0), .ref (ma 1), .int (nI sN), .ref (ma 2), .int (nI L), .int th, .ref (ma 3), .ref (ma 4), .ref (ma 5), .ref (ma 6), .int nd, .int ct, .int ht, .ref (ma 7), .ref (ma 8), .ref (ma 9), .ref (ma 10), .ref (ma 11), .ref (ma 12), .ref (ma 13), .ref (ma 14), .int sp, .int iw, .int mn])), (ma 0, .inl (G.1, 457, .inl sr))] (fun (r : Int32) (_ : Unit) => r = 0) (fun (_ : Unit) => [(q, .inr (8, [.ref (ma 0), .ref (ma 1), .int (nI sN), .ref (ma 2), .int (nI L), .int (nI 2), .ref (ma 3), .ref (ma 4), .ref (ma 5), .ref (ma 6), .int nd, .int ct, .int ht, .ref (ma 7), .ref (ma 8), .ref (ma 9), .ref (ma 10), .ref (ma 11), .ref (ma 12), .ref (ma 13), .ref (ma 14), .int sp, .int iw, .int mn])), (ma 0, .inl (G.1, 457, .inl sr))]) := by
  refine MtI.of (by decide) (Nat.le_of_ble_eq_true rfl) ?_
  intro pr e s9 m9 below meth c9 A ls C hP hD hl
  obtain ⟨hx, hb, hml, hown, hts, hr, hlocks, hA, hAm⟩ := id C
  have hK := hAm.1
  have hS : va_S A s9.heap s9.heap [] := va_S.rf
  have hl : lv_has ls 2 [(0, .ref q), (1, .int (nI m))] := hl
  have tk9 := tk_le m
  refine lv_aload_n hx hb dX8_play_0 rfl (lv_at hl 0 rfl) ?_
  refine lv_iload_n hx hb dX8_play_1 rfl (lv_at hl 1 rfl) ?_
  refine aftI0 C (runS_G (As := [.int (nI m)]) (rest := [.ref q]) C (mX8_isMove l D G (nI m) ) hS hP hD [] rfl (by decide) (ys_X8_isMove) kw_12_13 kw_12_14 ⟨Nat.le_of_ble_eq_true rfl, Nat.le_of_ble_eq_true rfl⟩ hl.1 (Nat.le_of_ble_eq_true rfl) dX8_play_2 rfl rfl ⟨Nat.zero_le _, Nat.zero_le _⟩) hS hP hD [] rfl (fun r2 _ H locs hp2 hP hS => ?_)
  refine ro_top (z := bI (¬ (nI m) < 0 ∧ ¬ 3 < (nI m))) hx hp2 ?_
  refine lv_if_ne (tgt := 12) hx hb dX8_play_5 (by decide) (fun c_5 => ?_) (fun c_5 => ?_)
  · have c_5 := bI_1 c_5
    refine lv_iload_n hx hb dX8_play_12 rfl (lv_at hl 1 rfl) ?_
    refine aftI0 C (runS_G (As := [.int (nI m)]) (rest := [.ref q]) C (mX8_takes l D G m hm) hS hP hD [] rfl (by decide) (ys_X8_takes) kw_12_16 kw_12_17 ⟨Nat.le_of_ble_eq_true rfl, Nat.le_of_ble_eq_true rfl⟩ hl.1 (Nat.le_of_ble_eq_true rfl) dX8_play_13 rfl rfl ⟨Nat.zero_le _, Nat.zero_le _⟩) hS hP hD [] rfl (fun r13 _ H locs hp13 hP hS => ?_)
    refine ro_top (z := nI (tk m)) hx hp13 ?_
    refine lv_aload_n hx hb dX8_play_16 rfl (lv_at hl 0 rfl) ?_
    refine va_get (D := D) (ci := 8) (v := .ref (ma 0)) (C := RX8) (T := TX8) (N := 24) hx hb hts inlX8 hown hK hP 0 rfl rfl 0 (by decide) (hts _ kw_5_6) (fun _ h9 => h9) rfl dX8_play_17 ?_
    refine lv_bipush (v := 14) hx hb dX8_play_20 (by decide) ?_
    refine ro_iald (k := 14) (v := nI (x 14)) hx hb hK hP 1 0 rfl rfl rfl (by decide) (by decide) hR.n14 dX8_play_22 ?_
    refine lv_icmp_le (tgt := 30) hx hb dX8_play_23 (by decide) (fun c_23 => ?_) (fun c_23 => ?_)
    · have c_23 := nle_t (a := tk m) (b := x 14) (by omega) (by omega) c_23
      omega
    · have c_23 := nle_f (a := tk m) (b := x 14) (by omega) (by omega) c_23
      refine lv_iconst (v := 2) hx hb dX8_play_26 (by decide) ?_
      refine lv_goto (tgt := 31) hx hb dX8_play_27 (by decide) ?_
      refine aftI C (runV_G (As := [.int 2]) (rest := []) (ci := 8) (N := 24) (T := TX8) (q0 := 0) C (mX8_refused l D G q ma sN L th nd ct ht sp iw mn 2 (by omega)) hS hP hD [0] rfl (by decide) rfl rfl (ys_X8_refused) kw_11_0 kw_11_1 kw_11_2 ⟨Nat.le_of_ble_eq_true rfl, Nat.le_of_ble_eq_true rfl⟩ hl.1 (Nat.le_of_ble_eq_true rfl) dX8_play_31 rfl rfl ⟨Nat.zero_le _, Nat.zero_le _⟩) hS hP hD [0] rfl (fun _ => rfl) (fun r31 _ H locs hp31 hP hD hS => ?_)
      have hP : va_P D vwCl [(q, .inr (8, [.ref (ma 0), .ref (ma 1), .int (nI sN), .ref (ma 2), .int (nI L), .int (nI 2), .ref (ma 3), .ref (ma 4), .ref (ma 5), .ref (ma 6), .int nd, .int ct, .int ht, .ref (ma 7), .ref (ma 8), .ref (ma 9), .ref (ma 10), .ref (ma 11), .ref (ma 12), .ref (ma 13), .ref (ma 14), .int sp, .int iw, .int mn])), (ma 0, .inl (G.1, 457, .inl sr))] H := hP
      have hD : va_D A [(q, .inr (8, [.ref (ma 0), .ref (ma 1), .int (nI sN), .ref (ma 2), .int (nI L), .int (nI 2), .ref (ma 3), .ref (ma 4), .ref (ma 5), .ref (ma 6), .int nd, .int ct, .int ht, .ref (ma 7), .ref (ma 8), .ref (ma 9), .ref (ma 10), .ref (ma 11), .ref (ma 12), .ref (ma 13), .ref (ma 14), .int sp, .int iw, .int mn])), (ma 0, .inl (G.1, 457, .inl sr))] := hD
      refine ro_top (z := bI (0 < 2)) hx hp31 ?_
      refine lv_if_eq (tgt := 39) hx hb dX8_play_34 (by decide) (fun h => absurd h (by decide)) (fun _ => ?_)
      refine lv_iconst (v := 0) hx hb dX8_play_37 (by decide) ?_
      exact endI C rfl () rfl hS hP dX8_play_38
  · have c_5 : ¬ (¬ (nI m) < 0 ∧ ¬ 3 < (nI m)) := bI_0 c_5
    exact absurd (nin (Nat.zero_le m) (show m ≤ 3 by omega) (by decide)) c_5
