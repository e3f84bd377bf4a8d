theorem ys_X8_next : YS yX8_next cX8_next 1 (some .int) 0 := ⟨kw_10_20, kw_1_5, by decide, by decide, by decide⟩
theorem ys_X8_number : YS yX8_number cX8_number 4 none 1 := ⟨kw_10_16, kw_1_5, by decide, by decide, by decide⟩
theorem ys_X8_isWhole : YS yX8_isWhole cX8_isWhole 3 (some .boolean) 1 := ⟨kw_10_10, kw_1_5, by decide, by decide, by decide⟩
theorem ys_X8_saves : YS yX8_saves cX8_saves 2 none 0 := ⟨kw_11_8, kw_1_5, by decide, by decide, by decide⟩
theorem ys_X8_load : YS yX8_load cX8_load 3 (some .int) 0 := ⟨kw_10_4, kw_1_5, by decide, by decide, by decide⟩
theorem ys_X8_plays : YS yX8_plays cX8_plays 3 (some .int) 1 := ⟨kw_12_22, kw_1_5, by decide, by decide, by decide⟩
theorem ys_X8_lineAt : YS yX8_lineAt cX8_lineAt 6 (some .int) 1 := ⟨kw_18_2, kw_1_5, by decide, by decide, by decide⟩
theorem ys_X8_marginNow : YS yX8_marginNow cX8_marginNow 5 (some .int) 0 := ⟨kw_18_19, kw_1_5, by decide, by decide, by decide⟩
theorem ys_X8_firstError : YS yX8_firstError cX8_firstError 1 (some .int) 0 := ⟨kw_30_1, kw_1_5, by decide, by decide, by decide⟩
theorem ys_X8_append : YS yX8_append cX8_append 2 (some .int) 1 := ⟨kw_29_8, kw_1_5, by decide, by decide, by decide⟩
theorem ys_X8_clearText : YS yX8_clearText cX8_clearText 2 (some .int) 0 := ⟨kw_29_16, kw_1_5, by decide, by decide, by decide⟩
set_option maxHeartbeats 800000 in
set_option maxRecDepth 100000 in
theorem mX8_next (l : Launch) (D : va_G) (G : u_G) (q : Nat) (ma : Nat → Nat) (sN L : Nat) (th nd ct ht sp iw mn : Int32) (t : Nat → Nat) (i : Nat) (hL : L ≤ 60) (hi : i ≤ 60) : MtI l D G yX8_next cX8_next 1 .int 1 0 0 [.ref q] [(q, .inr (8, [.ref (ma 0), .ref (ma 1), .int (nI sN), .ref (ma 2), .int (nI L), .int th, .ref (ma 3), .ref (ma 4), .ref (ma 5), .ref (ma 6), .int nd, .int ct, .int ht, .ref (ma 7), .ref (ma 8), .ref (ma 9), .ref (ma 10), .ref (ma 11), .ref (ma 12), .ref (ma 13), .ref (ma 14), .int (nI i), .int iw, .int mn])), (ma 2, .inl (G.1, 60, .inl (tN t)))] (fun (r : Int32) (_ : Unit) => r = nI (nx t L i)) (fun (_ : Unit) => [(q, .inr (8, [.ref (ma 0), .ref (ma 1), .int (nI sN), .ref (ma 2), .int (nI L), .int th, .ref (ma 3), .ref (ma 4), .ref (ma 5), .ref (ma 6), .int nd, .int ct, .int ht, .ref (ma 7), .ref (ma 8), .ref (ma 9), .ref (ma 10), .ref (ma 11), .ref (ma 12), .ref (ma 13), .ref (ma 14), .int (nI i), .int iw, .int mn])), (ma 2, .inl (G.1, 60, .inl (tN t)))]) := by
  refine MtI.of (by decide) (Nat.le_of_ble_eq_true rfl) ?_
  intro pr e s9 m9 below meth c9 A ls C hP hD hl
  obtain ⟨hx, hb, hml, hown, hts, hr, hlocks, hA, hAm⟩ := id C
  have hK := hAm.1
  have hS : va_S A s9.heap s9.heap [] := va_S.rf
  have hl : lv_has ls 1 [(0, .ref q)] := hl
  refine lv_aload_n hx hb dX8_next_0 rfl (lv_at hl 0 rfl) ?_
  refine va_get (D := D) (ci := 8) (v := .int (nI i)) (C := RX8) (T := TX8) (N := 24) hx hb hts inlX8 hown hK hP 0 rfl rfl 21 (by decide) (hts _ kw_10_11) (fun _ h9 => h9) rfl dX8_next_1 ?_
  refine lv_aload_n hx hb dX8_next_4 rfl (lv_at hl 0 rfl) ?_
  refine va_get (D := D) (ci := 8) (v := .int (nI L)) (C := RX8) (T := TX8) (N := 24) hx hb hts inlX8 hown hK hP 0 rfl rfl 4 (by decide) (hts _ kw_10_6) (fun _ h9 => h9) rfl dX8_next_5 ?_
  refine lv_icmp_ge (tgt := 23) hx hb dX8_next_8 (by decide) (fun c_8 => ?_) (fun c_8 => ?_)
  · have c_8 := nle_t (a := L) (b := i) (by omega) (by omega) c_8
    refine lv_iconst (v := 0) hx hb dX8_next_23 (by decide) ?_
    exact endI C rfl () (congrArg nI (if_neg (by omega))).symm hS hP dX8_next_24
  · have c_8 := nle_f (a := L) (b := i) (by omega) (by omega) c_8
    refine lv_aload_n hx hb dX8_next_11 rfl (lv_at hl 0 rfl) ?_
    refine va_get (D := D) (ci := 8) (v := .ref (ma 2)) (C := RX8) (T := TX8) (N := 24) hx hb hts inlX8 hown hK hP 0 rfl rfl 3 (by decide) (hts _ kw_5_8) (fun _ h9 => h9) rfl dX8_next_12 ?_
    refine lv_aload_n hx hb dX8_next_15 rfl (lv_at hl 0 rfl) ?_
    refine va_get (D := D) (ci := 8) (v := .int (nI i)) (C := RX8) (T := TX8) (N := 24) hx hb hts inlX8 hown hK hP 0 rfl rfl 21 (by decide) (hts _ kw_10_11) (fun _ h9 => h9) rfl dX8_next_16 ?_
    refine ro_iald (k := i) (v := nI (t i)) hx hb hK hP 1 0 rfl rfl rfl (by omega) (by decide) rfl dX8_next_19 ?_
    refine lv_goto (tgt := 24) hx hb dX8_next_20 (by decide) ?_
    exact endI C rfl () (congrArg nI (if_pos (by omega))).symm hS hP dX8_next_24
set_option maxHeartbeats 800000 in
set_option maxRecDepth 100000 in
theorem mX8_number (l : Launch) (D : va_G) (G : u_G) (q : Nat) (ma : Nat → Nat) (sN L : Nat) (th nd ct ht sp iw mn : Int32) (t : Nat → Nat) (i c : Nat) (hL : L ≤ 60) (htx : ∀ k, k < L → t k < 128) (hi : i ≤ 59 + 1) (hc : c ≤ 11) : MtV l D G yX8_number cX8_number 4 2 0 0 [.ref q, .int 0] [(q, .inr (8, [.ref (ma 0), .ref (ma 1), .int (nI sN), .ref (ma 2), .int (nI L), .int th, .ref (ma 3), .ref (ma 4), .ref (ma 5), .ref (ma 6), .int nd, .int ct, .int ht, .ref (ma 7), .ref (ma 8), .ref (ma 9), .ref (ma 10), .ref (ma 11), .ref (ma 12), .ref (ma 13), .ref (ma 14), .int (nI i), .int 0, .int (nI c)])), (ma 2, .inl (G.1, 60, .inl (tN t)))] (fun (u : Bool × Nat × Nat × Nat) => u = nmA t L i c) (fun (u : Bool × Nat × Nat × Nat) => [(q, .inr (8, [.ref (ma 0), .ref (ma 1), .int (nI sN), .ref (ma 2), .int (nI L), .int th, .ref (ma 3), .ref (ma 4), .ref (ma 5), .ref (ma 6), .int nd, .int ct, .int ht, .ref (ma 7), .ref (ma 8), .ref (ma 9), .ref (ma 10), .ref (ma 11), .ref (ma 12), .ref (ma 13), .ref (ma 14), .int (nI u.2.1), .int (bI (u.1 = true)), .int (nI u.2.2.1)])), (ma 2, .inl (G.1, 60, .inl (tN t)))]) := by
  refine MtV.of (by decide) (Nat.le_of_ble_eq_true rfl) ?_
  intro pr e s9 m9 below meth c9 A ls C hP hD hl hin
  obtain ⟨hx, hb, hml, hown, hts, hr, hlocks, hA, hAm⟩ := id C
  have hK := hAm.1
  have hS : va_S A s9.heap s9.heap [] := va_S.rf
  have hl : lv_has ls 4 [(0, .ref q), (1, .int 0)] := hl
  refine lv_aload_n hx hb dX8_number_0 rfl (lv_at hl 0 rfl) ?_
  refine aftI0 C (runV_G (As := []) (rest := []) (ci := 8) (N := 24) (T := TX8) (q0 := 0) C (mX8_next l D G q ma sN L th nd ct ht sp 0 (nI c) t i hL (by omega)) hS hP hD [0, 1] rfl (by decide) rfl rfl (ys_X8_next) kw_10_17 kw_10_18 kw_10_19 ⟨Nat.le_of_ble_eq_true rfl, Nat.le_of_ble_eq_true rfl⟩ hl.1 (Nat.le_of_ble_eq_true rfl) dX8_number_1 rfl rfl ⟨Nat.zero_le _, Nat.zero_le _⟩) hS hP hD [0, 1] rfl (fun r1 _ H locs hp1 hP hS => ?_)
  refine ro_top (z := nI (nx t L i)) hx hp1 ?_
  refine lv_bipush (v := 48) hx hb dX8_number_4 (by decide) ?_
  refine lv_isub hx hb dX8_number_6 ?_
  refine lv_istore_n (lv' := [(2, .int ((nI (nx t L i)) - 48)), (0, .ref q), (1, .int 0)]) hx hb dX8_number_7 rfl hl (by decide) rfl (fun ls hl => ?_)
  refine lv_aload_n hx hb dX8_number_8 rfl (lv_at hl 1 rfl) ?_
  refine lv_aload_n hx hb dX8_number_9 rfl (lv_at hl 1 rfl) ?_
  refine va_get (D := D) (ci := 8) (v := .int 0) (C := RX8) (T := TX8) (N := 24) hx hb hts inlX8 hown hK hP 0 rfl rfl 22 (by decide) (hts _ kw_10_12) (fun _ h9 => h9) rfl dX8_number_10 ?_
  refine lv_if_ne (tgt := 26) hx hb dX8_number_13 (by decide) (fun h => absurd (by decide) h) (fun _ => ?_)
  refine lv_iload_n hx hb dX8_number_16 rfl (lv_at hl 0 rfl) ?_
  refine lv_iconst (v := 1) hx hb dX8_number_17 (by decide) ?_
  refine lv_bipush (v := 9) hx hb dX8_number_18 (by decide) ?_
  refine aftI0 C (runS_G (As := [.int ((nI (nx t L i)) - 48), .int 1, .int 9]) (rest := [.ref q]) C (mX8_in l D G ((nI (nx t L i)) - 48) 1 9 ) hS hP hD [] rfl (by decide) (ys_X8_in) kw_10_21 kw_10_22 ⟨Nat.le_of_ble_eq_true rfl, Nat.le_of_ble_eq_true rfl⟩ hl.1 (Nat.le_of_ble_eq_true rfl) dX8_number_20 rfl rfl ⟨Nat.zero_le _, Nat.zero_le _⟩) hS hP hD [] rfl (fun r20 _ H locs hp20 hP hS => ?_)
  refine ro_top (z := bI (¬ ((nI (nx t L i)) - 48) < 1 ∧ ¬ 9 < ((nI (nx t L i)) - 48))) hx hp20 ?_
  refine lv_if_ne (tgt := 30) hx hb dX8_number_23 (by decide) (fun c_23 => ?_) (fun c_23 => ?_)
  · have c_23 := bI_1 c_23
    have hd1 := (nm_iff (nx_lt htx)).mp c_23
    have hiL : i < L := by
                    rcases Nat.lt_or_ge i L with z | z
                    · exact z
                    · have e9 : nx t L i = 0 := if_neg (by omega)
                      omega
    have hx1 : nx t L (i + 1) < 128 := nx_lt htx
    refine lv_iconst (v := 0) hx hb dX8_number_30 (by decide) ?_
    refine va_put (D := D) (ci := 8) (v := .int 0) (ty := .boolean) (C := RX8) (T := TX8) (N := 24) hx hb hts inlX8 tyX8 tyX8_ok nmX8 hown hK hP hD hS 0 rfl rfl 22 (by decide) (hts _ kw_10_12) (fun _ h9 => h9) rfl (by decide +kernel) rfl rfl (Nat.le_of_ble_eq_true rfl) dX8_number_31 (fun H locs hP hD hS => ?_)
    have hP : va_P D vwCl [(q, .inr (8, [.ref (ma 0), .ref (ma 1), .int (nI sN), .ref (ma 2), .int (nI L), .int th, .ref (ma 3), .ref (ma 4), .ref (ma 5), .ref (ma 6), .int nd, .int ct, .int ht, .ref (ma 7), .ref (ma 8), .ref (ma 9), .ref (ma 10), .ref (ma 11), .ref (ma 12), .ref (ma 13), .ref (ma 14), .int (nI i), .int 0, .int (nI c)])), (ma 2, .inl (G.1, 60, .inl (tN t)))] H := hP
    have hD : va_D A [(q, .inr (8, [.ref (ma 0), .ref (ma 1), .int (nI sN), .ref (ma 2), .int (nI L), .int th, .ref (ma 3), .ref (ma 4), .ref (ma 5), .ref (ma 6), .int nd, .int ct, .int ht, .ref (ma 7), .ref (ma 8), .ref (ma 9), .ref (ma 10), .ref (ma 11), .ref (ma 12), .ref (ma 13), .ref (ma 14), .int (nI i), .int 0, .int (nI c)])), (ma 2, .inl (G.1, 60, .inl (tN t)))] := hD
    refine lv_aload_n hx hb dX8_number_34 rfl (lv_at hl 1 rfl) ?_
    refine va_get (D := D) (ci := 8) (v := .int 0) (C := RX8) (T := TX8) (N := 24) hx hb hts inlX8 hown hK hP 0 rfl rfl 22 (by decide) (hts _ kw_10_12) (fun _ h9 => h9) rfl dX8_number_35 ?_
    refine lv_if_eq (tgt := 42) hx hb dX8_number_38 (by decide) (fun _ => ?_) (fun h => absurd (by decide) h)
    refine lv_aload_n hx hb dX8_number_42 rfl (lv_at hl 1 rfl) ?_
    refine lv_dup hx hb dX8_number_43 rfl ?_
    refine va_get (D := D) (ci := 8) (v := .int (nI i)) (C := RX8) (T := TX8) (N := 24) hx hb hts inlX8 hown hK hP 0 rfl rfl 21 (by decide) (hts _ kw_10_11) (fun _ h9 => h9) rfl dX8_number_44 ?_
    refine lv_iconst (v := 1) hx hb dX8_number_47 (by decide) ?_
    refine ro_iadd (z := nI (i + 1)) hx hb (nI_add i 1) dX8_number_48 ?_
    refine va_put (D := D) (ci := 8) (v := .int (nI (i + 1))) (ty := .int) (C := RX8) (T := TX8) (N := 24) hx hb hts inlX8 tyX8 tyX8_ok nmX8 hown hK hP hD hS 0 rfl rfl 21 (by decide) (hts _ kw_10_11) (fun _ h9 => h9) rfl (by decide +kernel) rfl rfl (Nat.le_of_ble_eq_true rfl) dX8_number_49 (fun H locs hP hD hS => ?_)
    have hP : va_P D vwCl [(q, .inr (8, [.ref (ma 0), .ref (ma 1), .int (nI sN), .ref (ma 2), .int (nI L), .int th, .ref (ma 3), .ref (ma 4), .ref (ma 5), .ref (ma 6), .int nd, .int ct, .int ht, .ref (ma 7), .ref (ma 8), .ref (ma 9), .ref (ma 10), .ref (ma 11), .ref (ma 12), .ref (ma 13), .ref (ma 14), .int (nI (i + 1)), .int 0, .int (nI c)])), (ma 2, .inl (G.1, 60, .inl (tN t)))] H := hP
    have hD : va_D A [(q, .inr (8, [.ref (ma 0), .ref (ma 1), .int (nI sN), .ref (ma 2), .int (nI L), .int th, .ref (ma 3), .ref (ma 4), .ref (ma 5), .ref (ma 6), .int nd, .int ct, .int ht, .ref (ma 7), .ref (ma 8), .ref (ma 9), .ref (ma 10), .ref (ma 11), .ref (ma 12), .ref (ma 13), .ref (ma 14), .int (nI (i + 1)), .int 0, .int (nI c)])), (ma 2, .inl (G.1, 60, .inl (tN t)))] := hD
    refine lv_bipush (v := 10) hx hb dX8_number_52 (by decide) ?_
    refine lv_iload_n hx hb dX8_number_54 rfl (lv_at hl 0 rfl) ?_
    refine ro_top (z := nI (nx t L i - 48)) hx (pk_sub (b := 48) (by omega)) ?_
    refine ro_imul (z := nI (10 * (nx t L i - 48))) hx hb (pk_mul 10 (nx t L i - 48)) dX8_number_55 ?_
    refine lv_aload_n hx hb dX8_number_56 rfl (lv_at hl 1 rfl) ?_
    refine aftI0 C (runV_G (As := []) (rest := [.int (nI (10 * (nx t L i - 48)))]) (ci := 8) (N := 24) (T := TX8) (q0 := 0) C (mX8_next l D G q ma sN L th nd ct ht sp 0 (nI c) t (i + 1) hL (by omega)) hS hP hD [0, 1] rfl (by decide) rfl rfl (ys_X8_next) kw_10_17 kw_10_18 kw_10_19 ⟨Nat.le_of_ble_eq_true rfl, Nat.le_of_ble_eq_true rfl⟩ hl.1 (Nat.le_of_ble_eq_true rfl) dX8_number_57 rfl rfl ⟨Nat.zero_le _, Nat.zero_le _⟩) hS hP hD [0, 1] rfl (fun r57 _ H locs hp57 hP hS => ?_)
    refine ro_top (z := nI (nx t L (i + 1))) hx hp57 ?_
    refine ro_iadd (z := nI (10 * (nx t L i - 48) + (nx t L (i + 1)))) hx hb (nI_add (10 * (nx t L i - 48)) (nx t L (i + 1))) dX8_number_60 ?_
    refine lv_bipush (v := 48) hx hb dX8_number_61 (by decide) ?_
    refine lv_isub hx hb dX8_number_63 ?_
    refine lv_istore_n (lv' := [(3, .int ((nI (10 * (nx t L i - 48) + (nx t L (i + 1)))) - 48)), (2, .int ((nI (nx t L i)) - 48)), (0, .ref q), (1, .int 0)]) hx hb dX8_number_64 rfl hl (by decide) rfl (fun ls hl => ?_)
    refine lv_aload_n hx hb dX8_number_65 rfl (lv_at hl 2 rfl) ?_
    refine aftI0 C (runV_G (As := []) (rest := []) (ci := 8) (N := 24) (T := TX8) (q0 := 0) C (mX8_next l D G q ma sN L th nd ct ht sp 0 (nI c) t (i + 1) hL (by omega)) hS hP hD [0, 1] rfl (by decide) rfl rfl (ys_X8_next) kw_10_17 kw_10_18 kw_10_19 ⟨Nat.le_of_ble_eq_true rfl, Nat.le_of_ble_eq_true rfl⟩ hl.1 (Nat.le_of_ble_eq_true rfl) dX8_number_66 rfl rfl ⟨Nat.zero_le _, Nat.zero_le _⟩) hS hP hD [0, 1] rfl (fun r66 _ H locs hp66 hP hS => ?_)
    refine ro_top (z := nI (nx t L (i + 1))) hx hp66 ?_
    refine lv_bipush (v := 48) hx hb dX8_number_69 (by decide) ?_
    refine lv_bipush (v := 57) hx hb dX8_number_71 (by decide) ?_
    refine aftI0 C (runS_G (As := [.int (nI (nx t L (i + 1))), .int 48, .int 57]) (rest := []) C (mX8_in l D G (nI (nx t L (i + 1))) 48 57 ) hS hP hD [] rfl (by decide) (ys_X8_in) kw_10_21 kw_10_22 ⟨Nat.le_of_ble_eq_true rfl, Nat.le_of_ble_eq_true rfl⟩ hl.1 (Nat.le_of_ble_eq_true rfl) dX8_number_73 rfl rfl ⟨Nat.zero_le _, Nat.zero_le _⟩) hS hP hD [] rfl (fun r73 _ H locs hp73 hP hS => ?_)
    refine ro_top (z := bI (¬ (nI (nx t L (i + 1))) < 48 ∧ ¬ 57 < (nI (nx t L (i + 1))))) hx hp73 ?_
    refine lv_if_eq (tgt := 97) hx hb dX8_number_76 (by decide) (fun c_76 => ?_) (fun c_76 => ?_)
    · have c_76 := bI_0 c_76
      refine lv_iload_n hx hb dX8_number_97 rfl (lv_at hl 3 rfl) ?_
      refine lv_if_eq (tgt := 113) hx hb dX8_number_98 (by decide) (fun _ => ?_) (fun h => absurd (by decide) h)
      refine lv_aload_n hx hb dX8_number_113 rfl (lv_at hl 2 rfl) ?_
      refine lv_dup hx hb dX8_number_114 rfl ?_
      refine va_get (D := D) (ci := 8) (v := .int (nI c)) (C := RX8) (T := TX8) (N := 24) hx hb hts inlX8 hown hK hP 0 rfl rfl 23 (by decide) (hts _ kw_10_5) (fun _ h9 => h9) rfl dX8_number_115 ?_
      refine lv_iconst (v := 1) hx hb dX8_number_118 (by decide) ?_
      refine ro_iadd (z := nI (c + 1)) hx hb (nI_add c 1) dX8_number_119 ?_
      refine va_put (D := D) (ci := 8) (v := .int (nI (c + 1))) (ty := .int) (C := RX8) (T := TX8) (N := 24) hx hb hts inlX8 tyX8 tyX8_ok nmX8 hown hK hP hD hS 0 rfl rfl 23 (by decide) (hts _ kw_10_5) (fun _ h9 => h9) rfl (by decide +kernel) rfl rfl (Nat.le_of_ble_eq_true rfl) dX8_number_120 (fun H locs hP hD hS => ?_)
      have hP : va_P D vwCl [(q, .inr (8, [.ref (ma 0), .ref (ma 1), .int (nI sN), .ref (ma 2), .int (nI L), .int th, .ref (ma 3), .ref (ma 4), .ref (ma 5), .ref (ma 6), .int nd, .int ct, .int ht, .ref (ma 7), .ref (ma 8), .ref (ma 9), .ref (ma 10), .ref (ma 11), .ref (ma 12), .ref (ma 13), .ref (ma 14), .int (nI (i + 1)), .int 0, .int (nI (c + 1))])), (ma 2, .inl (G.1, 60, .inl (tN t)))] H := hP
      have hD : va_D A [(q, .inr (8, [.ref (ma 0), .ref (ma 1), .int (nI sN), .ref (ma 2), .int (nI L), .int th, .ref (ma 3), .ref (ma 4), .ref (ma 5), .ref (ma 6), .int nd, .int ct, .int ht, .ref (ma 7), .ref (ma 8), .ref (ma 9), .ref (ma 10), .ref (ma 11), .ref (ma 12), .ref (ma 13), .ref (ma 14), .int (nI (i + 1)), .int 0, .int (nI (c + 1))])), (ma 2, .inl (G.1, 60, .inl (tN t)))] := hD
      exact endV C (false, i + 1, c + 1, nx t L i - 48) ((if_pos hd1).trans (if_neg (fun h9 => c_76 ((nm_iff2 (nx_lt htx)).mpr ⟨h9.1, h9.2.1⟩)))).symm hS hP (hD.fst rfl) dX8_number_123
    · have c_76 := bI_1 c_76
      have hd2 := (nm_iff2 hx1).mp c_76
      refine lv_iload_n hx hb dX8_number_79 rfl (lv_at hl 0 rfl) ?_
      refine ro_top (z := nI (10 * (nx t L i - 48) + nx t L (i + 1) - 48)) hx (pk_sub (a := 10 * (nx t L i - 48) + nx t L (i + 1)) (b := 48) (by omega)) ?_
      refine lv_bipush (v := 20) hx hb dX8_number_80 (by decide) ?_
      refine lv_icmp_gt (tgt := 97) hx hb dX8_number_82 (by decide) (fun c_82 => ?_) (fun c_82 => ?_)
      · have c_82 := nlt_t (a := 20) (b := 10 * (nx t L i - 48) + nx t L (i + 1) - 48) (by omega) (by omega) c_82
        refine lv_iload_n hx hb dX8_number_97 rfl (lv_at hl 3 rfl) ?_
        refine lv_if_eq (tgt := 113) hx hb dX8_number_98 (by decide) (fun _ => ?_) (fun h => absurd (by decide) h)
        refine lv_aload_n hx hb dX8_number_113 rfl (lv_at hl 2 rfl) ?_
        refine lv_dup hx hb dX8_number_114 rfl ?_
        refine va_get (D := D) (ci := 8) (v := .int (nI c)) (C := RX8) (T := TX8) (N := 24) hx hb hts inlX8 hown hK hP 0 rfl rfl 23 (by decide) (hts _ kw_10_5) (fun _ h9 => h9) rfl dX8_number_115 ?_
        refine lv_iconst (v := 1) hx hb dX8_number_118 (by decide) ?_
        refine ro_iadd (z := nI (c + 1)) hx hb (nI_add c 1) dX8_number_119 ?_
        refine va_put (D := D) (ci := 8) (v := .int (nI (c + 1))) (ty := .int) (C := RX8) (T := TX8) (N := 24) hx hb hts inlX8 tyX8 tyX8_ok nmX8 hown hK hP hD hS 0 rfl rfl 23 (by decide) (hts _ kw_10_5) (fun _ h9 => h9) rfl (by decide +kernel) rfl rfl (Nat.le_of_ble_eq_true rfl) dX8_number_120 (fun H locs hP hD hS => ?_)
        have hP : va_P D vwCl [(q, .inr (8, [.ref (ma 0), .ref (ma 1), .int (nI sN), .ref (ma 2), .int (nI L), .int th, .ref (ma 3), .ref (ma 4), .ref (ma 5), .ref (ma 6), .int nd, .int ct, .int ht, .ref (ma 7), .ref (ma 8), .ref (ma 9), .ref (ma 10), .ref (ma 11), .ref (ma 12), .ref (ma 13), .ref (ma 14), .int (nI (i + 1)), .int 0, .int (nI (c + 1))])), (ma 2, .inl (G.1, 60, .inl (tN t)))] H := hP
        have hD : va_D A [(q, .inr (8, [.ref (ma 0), .ref (ma 1), .int (nI sN), .ref (ma 2), .int (nI L), .int th, .ref (ma 3), .ref (ma 4), .ref (ma 5), .ref (ma 6), .int nd, .int ct, .int ht, .ref (ma 7), .ref (ma 8), .ref (ma 9), .ref (ma 10), .ref (ma 11), .ref (ma 12), .ref (ma 13), .ref (ma 14), .int (nI (i + 1)), .int 0, .int (nI (c + 1))])), (ma 2, .inl (G.1, 60, .inl (tN t)))] := hD
        exact endV C (false, i + 1, c + 1, nx t L i - 48) ((if_pos hd1).trans (if_neg (fun h9 => by omega))).symm hS hP (hD.fst rfl) dX8_number_123
      · have c_82 := nlt_f (a := 20) (b := 10 * (nx t L i - 48) + nx t L (i + 1) - 48) (by omega) (by omega) c_82
        refine lv_iload_n hx hb dX8_number_85 rfl (lv_at hl 0 rfl) ?_
        refine lv_istore_n (lv' := [(2, .int ((nI (10 * (nx t L i - 48) + (nx t L (i + 1)))) - 48)), (3, .int ((nI (10 * (nx t L i - 48) + (nx t L (i + 1)))) - 48)), (0, .ref q), (1, .int 0)]) hx hb dX8_number_86 rfl hl (by decide) rfl (fun ls hl => ?_)
        refine lv_aload_n hx hb dX8_number_87 rfl (lv_at hl 2 rfl) ?_
        refine lv_dup hx hb dX8_number_88 rfl ?_
        refine va_get (D := D) (ci := 8) (v := .int (nI (i + 1))) (C := RX8) (T := TX8) (N := 24) hx hb hts inlX8 hown hK hP 0 rfl rfl 21 (by decide) (hts _ kw_10_11) (fun _ h9 => h9) rfl dX8_number_89 ?_
        refine lv_iconst (v := 1) hx hb dX8_number_92 (by decide) ?_
        refine ro_iadd (z := nI (i + 1 + 1)) hx hb (nI_add (i + 1) 1) dX8_number_93 ?_
        refine va_put (D := D) (ci := 8) (v := .int (nI (i + 1 + 1))) (ty := .int) (C := RX8) (T := TX8) (N := 24) hx hb hts inlX8 tyX8 tyX8_ok nmX8 hown hK hP hD hS 0 rfl rfl 21 (by decide) (hts _ kw_10_11) (fun _ h9 => h9) rfl (by decide +kernel) rfl rfl (Nat.le_of_ble_eq_true rfl) dX8_number_94 (fun H locs hP hD hS => ?_)
        have hP : va_P D vwCl [(q, .inr (8, [.ref (ma 0), .ref (ma 1), .int (nI sN), .ref (ma 2), .int (nI L), .int th, .ref (ma 3), .ref (ma 4), .ref (ma 5), .ref (ma 6), .int nd, .int ct, .int ht, .ref (ma 7), .ref (ma 8), .ref (ma 9), .ref (ma 10), .ref (ma 11), .ref (ma 12), .ref (ma 13), .ref (ma 14), .int (nI (i + 1 + 1)), .int 0, .int (nI c)])), (ma 2, .inl (G.1, 60, .inl (tN t)))] H := hP
        have hD : va_D A [(q, .inr (8, [.ref (ma 0), .ref (ma 1), .int (nI sN), .ref (ma 2), .int (nI L), .int th, .ref (ma 3), .ref (ma 4), .ref (ma 5), .ref (ma 6), .int nd, .int ct, .int ht, .ref (ma 7), .ref (ma 8), .ref (ma 9), .ref (ma 10), .ref (ma 11), .ref (ma 12), .ref (ma 13), .ref (ma 14), .int (nI (i + 1 + 1)), .int 0, .int (nI c)])), (ma 2, .inl (G.1, 60, .inl (tN t)))] := hD
        refine lv_iload_n hx hb dX8_number_97 rfl (lv_at hl 3 rfl) ?_
        refine lv_if_eq (tgt := 113) hx hb dX8_number_98 (by decide) (fun _ => ?_) (fun h => absurd (by decide) h)
        refine lv_aload_n hx hb dX8_number_113 rfl (lv_at hl 2 rfl) ?_
        refine lv_dup hx hb dX8_number_114 rfl ?_
        refine va_get (D := D) (ci := 8) (v := .int (nI c)) (C := RX8) (T := TX8) (N := 24) hx hb hts inlX8 hown hK hP 0 rfl rfl 23 (by decide) (hts _ kw_10_5) (fun _ h9 => h9) rfl dX8_number_115 ?_
        refine lv_iconst (v := 1) hx hb dX8_number_118 (by decide) ?_
        refine ro_iadd (z := nI (c + 1)) hx hb (nI_add c 1) dX8_number_119 ?_
        refine va_put (D := D) (ci := 8) (v := .int (nI (c + 1))) (ty := .int) (C := RX8) (T := TX8) (N := 24) hx hb hts inlX8 tyX8 tyX8_ok nmX8 hown hK hP hD hS 0 rfl rfl 23 (by decide) (hts _ kw_10_5) (fun _ h9 => h9) rfl (by decide +kernel) rfl rfl (Nat.le_of_ble_eq_true rfl) dX8_number_120 (fun H locs hP hD hS => ?_)
        have hP : va_P D vwCl [(q, .inr (8, [.ref (ma 0), .ref (ma 1), .int (nI sN), .ref (ma 2), .int (nI L), .int th, .ref (ma 3), .ref (ma 4), .ref (ma 5), .ref (ma 6), .int nd, .int ct, .int ht, .ref (ma 7), .ref (ma 8), .ref (ma 9), .ref (ma 10), .ref (ma 11), .ref (ma 12), .ref (ma 13), .ref (ma 14), .int (nI (i + 1 + 1)), .int 0, .int (nI (c + 1))])), (ma 2, .inl (G.1, 60, .inl (tN t)))] H := hP
        have hD : va_D A [(q, .inr (8, [.ref (ma 0), .ref (ma 1), .int (nI sN), .ref (ma 2), .int (nI L), .int th, .ref (ma 3), .ref (ma 4), .ref (ma 5), .ref (ma 6), .int nd, .int ct, .int ht, .ref (ma 7), .ref (ma 8), .ref (ma 9), .ref (ma 10), .ref (ma 11), .ref (ma 12), .ref (ma 13), .ref (ma 14), .int (nI (i + 1 + 1)), .int 0, .int (nI (c + 1))])), (ma 2, .inl (G.1, 60, .inl (tN t)))] := hD
        exact endV C (false, i + 2, c + 1, 10 * (nx t L i - 48) + nx t L (i + 1) - 48) ((if_pos hd1).trans (if_pos ⟨by omega, by omega, by omega⟩)).symm hS hP (hD.fst rfl) dX8_number_123
  · have c_23 : ¬ (¬ ((nI (nx t L i)) - 48) < 1 ∧ ¬ 9 < ((nI (nx t L i)) - 48)) := bI_0 c_23
    refine lv_iconst (v := 1) hx hb dX8_number_26 (by decide) ?_
    refine lv_goto (tgt := 31) hx hb dX8_number_27 (by decide) ?_
    refine va_put (D := D) (ci := 8) (v := .int 1) (ty := .boolean) (C := RX8) (T := TX8) (N := 24) hx hb hts inlX8 tyX8 tyX8_ok nmX8 hown hK hP hD hS 0 rfl rfl 22 (by decide) (hts _ kw_10_12) (fun _ h9 => h9) rfl (by decide +kernel) rfl rfl (Nat.le_of_ble_eq_true rfl) dX8_number_31 (fun H locs hP hD hS => ?_)
    have hP : va_P D vwCl [(q, .inr (8, [.ref (ma 0), .ref (ma 1), .int (nI sN), .ref (ma 2), .int (nI L), .int th, .ref (ma 3), .ref (ma 4), .ref (ma 5), .ref (ma 6), .int nd, .int ct, .int ht, .ref (ma 7), .ref (ma 8), .ref (ma 9), .ref (ma 10), .ref (ma 11), .ref (ma 12), .ref (ma 13), .ref (ma 14), .int (nI i), .int 1, .int (nI c)])), (ma 2, .inl (G.1, 60, .inl (tN t)))] H := hP
    have hD : va_D A [(q, .inr (8, [.ref (ma 0), .ref (ma 1), .int (nI sN), .ref (ma 2), .int (nI L), .int th, .ref (ma 3), .ref (ma 4), .ref (ma 5), .ref (ma 6), .int nd, .int ct, .int ht, .ref (ma 7), .ref (ma 8), .ref (ma 9), .ref (ma 10), .ref (ma 11), .ref (ma 12), .ref (ma 13), .ref (ma 14), .int (nI i), .int 1, .int (nI c)])), (ma 2, .inl (G.1, 60, .inl (tN t)))] := hD
    refine lv_aload_n hx hb dX8_number_34 rfl (lv_at hl 1 rfl) ?_
    refine va_get (D := D) (ci := 8) (v := .int 1) (C := RX8) (T := TX8) (N := 24) hx hb hts inlX8 hown hK hP 0 rfl rfl 22 (by decide) (hts _ kw_10_12) (fun _ h9 => h9) rfl dX8_number_35 ?_
    refine lv_if_eq (tgt := 42) hx hb dX8_number_38 (by decide) (fun h => absurd h (by decide)) (fun _ => ?_)
    exact endV C (true, i, c, 0) (nmA_bad (fun h9 => c_23 ((nm_iff (nx_lt htx)).mpr h9))).symm hS hP (hD.fst rfl) dX8_number_41
set_option maxHeartbeats 800000 in
set_option maxRecDepth 100000 in
theorem mX8_number_k (l : Launch) (D : va_G) (G : u_G) (q : Nat) (ma : Nat → Nat) (sN L : Nat) (th nd ct ht sp iw mn : Int32) (t : Nat → Nat) (i c : Nat) (sr : Nat → Int32) (hL : L ≤ 60) (htx : ∀ k, k < L → t k < 128) (hi : i ≤ 59 + 1) (hc : c ≤ 11) : MtV l D G yX8_number cX8_number 4 2 0 0 [.ref q, .int 1] [(q, .inr (8, [.ref (ma 0), .ref (ma 1), .int (nI sN), .ref (ma 2), .int (nI L), .int th, .ref (ma 3), .ref (ma 4), .ref (ma 5), .ref (ma 6), .int nd, .int ct, .int ht, .ref (ma 7), .ref (ma 8), .ref (ma 9), .ref (ma 10), .ref (ma 11), .ref (ma 12), .ref (ma 13), .ref (ma 14), .int (nI i), .int 0, .int (nI c)])), (ma 2, .inl (G.1, 60, .inl (tN t))), (ma 0, .inl (G.1, 457, .inl sr))] (fun (u : Bool × Nat × Nat × Nat) => u = nmA t L i c) (fun (u : Bool × Nat × Nat × Nat) => [(q, .inr (8, [.ref (ma 0), .ref (ma 1), .int (nI sN), .ref (ma 2), .int (nI L), .int th, .ref (ma 3), .ref (ma 4), .ref (ma 5), .ref (ma 6), .int nd, .int ct, .int ht, .ref (ma 7), .ref (ma 8), .ref (ma 9), .ref (ma 10), .ref (ma 11), .ref (ma 12), .ref (ma 13), .ref (ma 14), .int (nI u.2.1), .int (bI (u.1 = true)), .int (nI u.2.2.1)])), (ma 2, .inl (G.1, 60, .inl (tN t))), (ma 0, .inl (G.1, 457, .inl (nmS u sr c)))]) := by
  refine MtV.of (by decide) (Nat.le_of_ble_eq_true rfl) ?_
  intro pr e s9 m9 below meth c9 A ls C hP hD hl hin
  obtain ⟨hx, hb, hml, hown, hts, hr, hlocks, hA, hAm⟩ := id C
  have hK := hAm.1
  have hS : va_S A s9.heap s9.heap [] := va_S.rf
  have hl : lv_has ls 4 [(0, .ref q), (1, .int 1)] := hl
  refine lv_aload_n hx hb dX8_number_0 rfl (lv_at hl 0 rfl) ?_
  refine aftI0 C (runV_G (As := []) (rest := []) (ci := 8) (N := 24) (T := TX8) (q0 := 0) C (mX8_next l D G q ma sN L th nd ct ht sp 0 (nI c) t i hL (by omega)) hS hP hD [0, 1] rfl (by decide) rfl rfl (ys_X8_next) kw_10_17 kw_10_18 kw_10_19 ⟨Nat.le_of_ble_eq_true rfl, Nat.le_of_ble_eq_true rfl⟩ hl.1 (Nat.le_of_ble_eq_true rfl) dX8_number_1 rfl rfl ⟨Nat.zero_le _, Nat.zero_le _⟩) hS hP hD [0, 1] rfl (fun r1 _ H locs hp1 hP hS => ?_)
  refine ro_top (z := nI (nx t L i)) hx hp1 ?_
  refine lv_bipush (v := 48) hx hb dX8_number_4 (by decide) ?_
  refine lv_isub hx hb dX8_number_6 ?_
  refine lv_istore_n (lv' := [(2, .int ((nI (nx t L i)) - 48)), (0, .ref q), (1, .int 1)]) hx hb dX8_number_7 rfl hl (by decide) rfl (fun ls hl => ?_)
  refine lv_aload_n hx hb dX8_number_8 rfl (lv_at hl 1 rfl) ?_
  refine lv_aload_n hx hb dX8_number_9 rfl (lv_at hl 1 rfl) ?_
  refine va_get (D := D) (ci := 8) (v := .int 0) (C := RX8) (T := TX8) (N := 24) hx hb hts inlX8 hown hK hP 0 rfl rfl 22 (by decide) (hts _ kw_10_12) (fun _ h9 => h9) rfl dX8_number_10 ?_
  refine lv_if_ne (tgt := 26) hx hb dX8_number_13 (by decide) (fun h => absurd (by decide) h) (fun _ => ?_)
  refine lv_iload_n hx hb dX8_number_16 rfl (lv_at hl 0 rfl) ?_
  refine lv_iconst (v := 1) hx hb dX8_number_17 (by decide) ?_
  refine lv_bipush (v := 9) hx hb dX8_number_18 (by decide) ?_
  refine aftI0 C (runS_G (As := [.int ((nI (nx t L i)) - 48), .int 1, .int 9]) (rest := [.ref q]) C (mX8_in l D G ((nI (nx t L i)) - 48) 1 9 ) hS hP hD [] rfl (by decide) (ys_X8_in) kw_10_21 kw_10_22 ⟨Nat.le_of_ble_eq_true rfl, Nat.le_of_ble_eq_true rfl⟩ hl.1 (Nat.le_of_ble_eq_true rfl) dX8_number_20 rfl rfl ⟨Nat.zero_le _, Nat.zero_le _⟩) hS hP hD [] rfl (fun r20 _ H locs hp20 hP hS => ?_)
  refine ro_top (z := bI (¬ ((nI (nx t L i)) - 48) < 1 ∧ ¬ 9 < ((nI (nx t L i)) - 48))) hx hp20 ?_
  refine lv_if_ne (tgt := 30) hx hb dX8_number_23 (by decide) (fun c_23 => ?_) (fun c_23 => ?_)
  · have c_23 := bI_1 c_23
    have hd1 := (nm_iff (nx_lt htx)).mp c_23
    have hiL : i < L := by
                    rcases Nat.lt_or_ge i L with z | z
                    · exact z
                    · have e9 : nx t L i = 0 := if_neg (by omega)
                      omega
    have hx1 : nx t L (i + 1) < 128 := nx_lt htx
    refine lv_iconst (v := 0) hx hb dX8_number_30 (by decide) ?_
    refine va_put (D := D) (ci := 8) (v := .int 0) (ty := .boolean) (C := RX8) (T := TX8) (N := 24) hx hb hts inlX8 tyX8 tyX8_ok nmX8 hown hK hP hD hS 0 rfl rfl 22 (by decide) (hts _ kw_10_12) (fun _ h9 => h9) rfl (by decide +kernel) rfl rfl (Nat.le_of_ble_eq_true rfl) dX8_number_31 (fun H locs hP hD hS => ?_)
    have hP : va_P D vwCl [(q, .inr (8, [.ref (ma 0), .ref (ma 1), .int (nI sN), .ref (ma 2), .int (nI L), .int th, .ref (ma 3), .ref (ma 4), .ref (ma 5), .ref (ma 6), .int nd, .int ct, .int ht, .ref (ma 7), .ref (ma 8), .ref (ma 9), .ref (ma 10), .ref (ma 11), .ref (ma 12), .ref (ma 13), .ref (ma 14), .int (nI i), .int 0, .int (nI c)])), (ma 2, .inl (G.1, 60, .inl (tN t))), (ma 0, .inl (G.1, 457, .inl sr))] H := hP
    have hD : va_D A [(q, .inr (8, [.ref (ma 0), .ref (ma 1), .int (nI sN), .ref (ma 2), .int (nI L), .int th, .ref (ma 3), .ref (ma 4), .ref (ma 5), .ref (ma 6), .int nd, .int ct, .int ht, .ref (ma 7), .ref (ma 8), .ref (ma 9), .ref (ma 10), .ref (ma 11), .ref (ma 12), .ref (ma 13), .ref (ma 14), .int (nI i), .int 0, .int (nI c)])), (ma 2, .inl (G.1, 60, .inl (tN t))), (ma 0, .inl (G.1, 457, .inl sr))] := hD
    refine lv_aload_n hx hb dX8_number_34 rfl (lv_at hl 1 rfl) ?_
    refine va_get (D := D) (ci := 8) (v := .int 0) (C := RX8) (T := TX8) (N := 24) hx hb hts inlX8 hown hK hP 0 rfl rfl 22 (by decide) (hts _ kw_10_12) (fun _ h9 => h9) rfl dX8_number_35 ?_
    refine lv_if_eq (tgt := 42) hx hb dX8_number_38 (by decide) (fun _ => ?_) (fun h => absurd (by decide) h)
    refine lv_aload_n hx hb dX8_number_42 rfl (lv_at hl 1 rfl) ?_
    refine lv_dup hx hb dX8_number_43 rfl ?_
    refine va_get (D := D) (ci := 8) (v := .int (nI i)) (C := RX8) (T := TX8) (N := 24) hx hb hts inlX8 hown hK hP 0 rfl rfl 21 (by decide) (hts _ kw_10_11) (fun _ h9 => h9) rfl dX8_number_44 ?_
    refine lv_iconst (v := 1) hx hb dX8_number_47 (by decide) ?_
    refine ro_iadd (z := nI (i + 1)) hx hb (nI_add i 1) dX8_number_48 ?_
    refine va_put (D := D) (ci := 8) (v := .int (nI (i + 1))) (ty := .int) (C := RX8) (T := TX8) (N := 24) hx hb hts inlX8 tyX8 tyX8_ok nmX8 hown hK hP hD hS 0 rfl rfl 21 (by decide) (hts _ kw_10_11) (fun _ h9 => h9) rfl (by decide +kernel) rfl rfl (Nat.le_of_ble_eq_true rfl) dX8_number_49 (fun H locs hP hD hS => ?_)
    have hP : va_P D vwCl [(q, .inr (8, [.ref (ma 0), .ref (ma 1), .int (nI sN), .ref (ma 2), .int (nI L), .int th, .ref (ma 3), .ref (ma 4), .ref (ma 5), .ref (ma 6), .int nd, .int ct, .int ht, .ref (ma 7), .ref (ma 8), .ref (ma 9), .ref (ma 10), .ref (ma 11), .ref (ma 12), .ref (ma 13), .ref (ma 14), .int (nI (i + 1)), .int 0, .int (nI c)])), (ma 2, .inl (G.1, 60, .inl (tN t))), (ma 0, .inl (G.1, 457, .inl sr))] H := hP
    have hD : va_D A [(q, .inr (8, [.ref (ma 0), .ref (ma 1), .int (nI sN), .ref (ma 2), .int (nI L), .int th, .ref (ma 3), .ref (ma 4), .ref (ma 5), .ref (ma 6), .int nd, .int ct, .int ht, .ref (ma 7), .ref (ma 8), .ref (ma 9), .ref (ma 10), .ref (ma 11), .ref (ma 12), .ref (ma 13), .ref (ma 14), .int (nI (i + 1)), .int 0, .int (nI c)])), (ma 2, .inl (G.1, 60, .inl (tN t))), (ma 0, .inl (G.1, 457, .inl sr))] := hD
    refine lv_bipush (v := 10) hx hb dX8_number_52 (by decide) ?_
    refine lv_iload_n hx hb dX8_number_54 rfl (lv_at hl 0 rfl) ?_
    refine ro_top (z := nI (nx t L i - 48)) hx (pk_sub (b := 48) (by omega)) ?_
    refine ro_imul (z := nI (10 * (nx t L i - 48))) hx hb (pk_mul 10 (nx t L i - 48)) dX8_number_55 ?_
    refine lv_aload_n hx hb dX8_number_56 rfl (lv_at hl 1 rfl) ?_
    refine aftI0 C (runV_G (As := []) (rest := [.int (nI (10 * (nx t L i - 48)))]) (ci := 8) (N := 24) (T := TX8) (q0 := 0) C (mX8_next l D G q ma sN L th nd ct ht sp 0 (nI c) t (i + 1) hL (by omega)) hS hP hD [0, 1] rfl (by decide) rfl rfl (ys_X8_next) kw_10_17 kw_10_18 kw_10_19 ⟨Nat.le_of_ble_eq_true rfl, Nat.le_of_ble_eq_true rfl⟩ hl.1 (Nat.le_of_ble_eq_true rfl) dX8_number_57 rfl rfl ⟨Nat.zero_le _, Nat.zero_le _⟩) hS hP hD [0, 1] rfl (fun r57 _ H locs hp57 hP hS => ?_)
    refine ro_top (z := nI (nx t L (i + 1))) hx hp57 ?_
    refine ro_iadd (z := nI (10 * (nx t L i - 48) + (nx t L (i + 1)))) hx hb (nI_add (10 * (nx t L i - 48)) (nx t L (i + 1))) dX8_number_60 ?_
    refine lv_bipush (v := 48) hx hb dX8_number_61 (by decide) ?_
    refine lv_isub hx hb dX8_number_63 ?_
    refine lv_istore_n (lv' := [(3, .int ((nI (10 * (nx t L i - 48) + (nx t L (i + 1)))) - 48)), (2, .int ((nI (nx t L i)) - 48)), (0, .ref q), (1, .int 1)]) hx hb dX8_number_64 rfl hl (by decide) rfl (fun ls hl => ?_)
    refine lv_aload_n hx hb dX8_number_65 rfl (lv_at hl 2 rfl) ?_
    refine aftI0 C (runV_G (As := []) (rest := []) (ci := 8) (N := 24) (T := TX8) (q0 := 0) C (mX8_next l D G q ma sN L th nd ct ht sp 0 (nI c) t (i + 1) hL (by omega)) hS hP hD [0, 1] rfl (by decide) rfl rfl (ys_X8_next) kw_10_17 kw_10_18 kw_10_19 ⟨Nat.le_of_ble_eq_true rfl, Nat.le_of_ble_eq_true rfl⟩ hl.1 (Nat.le_of_ble_eq_true rfl) dX8_number_66 rfl rfl ⟨Nat.zero_le _, Nat.zero_le _⟩) hS hP hD [0, 1] rfl (fun r66 _ H locs hp66 hP hS => ?_)
    refine ro_top (z := nI (nx t L (i + 1))) hx hp66 ?_
    refine lv_bipush (v := 48) hx hb dX8_number_69 (by decide) ?_
    refine lv_bipush (v := 57) hx hb dX8_number_71 (by decide) ?_
    refine aftI0 C (runS_G (As := [.int (nI (nx t L (i + 1))), .int 48, .int 57]) (rest := []) C (mX8_in l D G (nI (nx t L (i + 1))) 48 57 ) hS hP hD [] rfl (by decide) (ys_X8_in) kw_10_21 kw_10_22 ⟨Nat.le_of_ble_eq_true rfl, Nat.le_of_ble_eq_true rfl⟩ hl.1 (Nat.le_of_ble_eq_true rfl) dX8_number_73 rfl rfl ⟨Nat.zero_le _, Nat.zero_le _⟩) hS hP hD [] rfl (fun r73 _ H locs hp73 hP hS => ?_)
    refine ro_top (z := bI (¬ (nI (nx t L (i + 1))) < 48 ∧ ¬ 57 < (nI (nx t L (i + 1))))) hx hp73 ?_
    refine lv_if_eq (tgt := 97) hx hb dX8_number_76 (by decide) (fun c_76 => ?_) (fun c_76 => ?_)
    · have c_76 := bI_0 c_76
      refine lv_iload_n hx hb dX8_number_97 rfl (lv_at hl 3 rfl) ?_
      refine lv_if_eq (tgt := 113) hx hb dX8_number_98 (by decide) (fun h => absurd h (by decide)) (fun _ => ?_)
      refine lv_aload_n hx hb dX8_number_101 rfl (lv_at hl 2 rfl) ?_
      refine va_get (D := D) (ci := 8) (v := .ref (ma 0)) (C := RX8) (T := TX8) (N := 24) hx hb hts inlX8 hown hK hP 0 rfl rfl 0 (by decide) (hts _ kw_5_6) (fun _ h9 => h9) rfl dX8_number_102 ?_
      refine lv_iconst (v := 1) hx hb dX8_number_105 (by decide) ?_
      refine lv_aload_n hx hb dX8_number_106 rfl (lv_at hl 2 rfl) ?_
      refine va_get (D := D) (ci := 8) (v := .int (nI c)) (C := RX8) (T := TX8) (N := 24) hx hb hts inlX8 hown hK hP 0 rfl rfl 23 (by decide) (hts _ kw_10_5) (fun _ h9 => h9) rfl dX8_number_107 ?_
      refine ro_iadd (z := nI (1 + c)) hx hb (nI_add 1 c) dX8_number_110 ?_
      refine lv_iload_n hx hb dX8_number_111 rfl (lv_at hl 1 rfl) ?_
      refine ro_top (z := nI (nx t L i - 48)) hx (pk_sub (b := 48) (by omega)) ?_
      refine ro_iast (k := 1 + c) hx hb hK hP hD hS 2 0 rfl rfl rfl (by omega) (by decide) dX8_number_112 (fun H locs hP hD hS => ?_)
      have hP : va_P D vwCl [(q, .inr (8, [.ref (ma 0), .ref (ma 1), .int (nI sN), .ref (ma 2), .int (nI L), .int th, .ref (ma 3), .ref (ma 4), .ref (ma 5), .ref (ma 6), .int nd, .int ct, .int ht, .ref (ma 7), .ref (ma 8), .ref (ma 9), .ref (ma 10), .ref (ma 11), .ref (ma 12), .ref (ma 13), .ref (ma 14), .int (nI (i + 1)), .int 0, .int (nI c)])), (ma 2, .inl (G.1, 60, .inl (tN t))), (ma 0, .inl (G.1, 457, .inl (upd sr (1 + c) (nI (nx t L i - 48)))))] H := hP
      have hD : va_D A [(q, .inr (8, [.ref (ma 0), .ref (ma 1), .int (nI sN), .ref (ma 2), .int (nI L), .int th, .ref (ma 3), .ref (ma 4), .ref (ma 5), .ref (ma 6), .int nd, .int ct, .int ht, .ref (ma 7), .ref (ma 8), .ref (ma 9), .ref (ma 10), .ref (ma 11), .ref (ma 12), .ref (ma 13), .ref (ma 14), .int (nI (i + 1)), .int 0, .int (nI c)])), (ma 2, .inl (G.1, 60, .inl (tN t))), (ma 0, .inl (G.1, 457, .inl (upd sr (1 + c) (nI (nx t L i - 48)))))] := hD
      refine lv_aload_n hx hb dX8_number_113 rfl (lv_at hl 2 rfl) ?_
      refine lv_dup hx hb dX8_number_114 rfl ?_
      refine va_get (D := D) (ci := 8) (v := .int (nI c)) (C := RX8) (T := TX8) (N := 24) hx hb hts inlX8 hown hK hP 0 rfl rfl 23 (by decide) (hts _ kw_10_5) (fun _ h9 => h9) rfl dX8_number_115 ?_
      refine lv_iconst (v := 1) hx hb dX8_number_118 (by decide) ?_
      refine ro_iadd (z := nI (c + 1)) hx hb (nI_add c 1) dX8_number_119 ?_
      refine va_put (D := D) (ci := 8) (v := .int (nI (c + 1))) (ty := .int) (C := RX8) (T := TX8) (N := 24) hx hb hts inlX8 tyX8 tyX8_ok nmX8 hown hK hP hD hS 0 rfl rfl 23 (by decide) (hts _ kw_10_5) (fun _ h9 => h9) rfl (by decide +kernel) rfl rfl (Nat.le_of_ble_eq_true rfl) dX8_number_120 (fun H locs hP hD hS => ?_)
      have hP : va_P D vwCl [(q, .inr (8, [.ref (ma 0), .ref (ma 1), .int (nI sN), .ref (ma 2), .int (nI L), .int th, .ref (ma 3), .ref (ma 4), .ref (ma 5), .ref (ma 6), .int nd, .int ct, .int ht, .ref (ma 7), .ref (ma 8), .ref (ma 9), .ref (ma 10), .ref (ma 11), .ref (ma 12), .ref (ma 13), .ref (ma 14), .int (nI (i + 1)), .int 0, .int (nI (c + 1))])), (ma 2, .inl (G.1, 60, .inl (tN t))), (ma 0, .inl (G.1, 457, .inl (upd sr (1 + c) (nI (nx t L i - 48)))))] H := hP
      have hD : va_D A [(q, .inr (8, [.ref (ma 0), .ref (ma 1), .int (nI sN), .ref (ma 2), .int (nI L), .int th, .ref (ma 3), .ref (ma 4), .ref (ma 5), .ref (ma 6), .int nd, .int ct, .int ht, .ref (ma 7), .ref (ma 8), .ref (ma 9), .ref (ma 10), .ref (ma 11), .ref (ma 12), .ref (ma 13), .ref (ma 14), .int (nI (i + 1)), .int 0, .int (nI (c + 1))])), (ma 2, .inl (G.1, 60, .inl (tN t))), (ma 0, .inl (G.1, 457, .inl (upd sr (1 + c) (nI (nx t L i - 48)))))] := hD
      exact endV C (false, i + 1, c + 1, nx t L i - 48) ((if_pos hd1).trans (if_neg (fun h9 => c_76 ((nm_iff2 (nx_lt htx)).mpr ⟨h9.1, h9.2.1⟩)))).symm hS hP (hD.fst rfl) dX8_number_123
    · have c_76 := bI_1 c_76
      have hd2 := (nm_iff2 hx1).mp c_76
      refine lv_iload_n hx hb dX8_number_79 rfl (lv_at hl 0 rfl) ?_
      refine ro_top (z := nI (10 * (nx t L i - 48) + nx t L (i + 1) - 48)) hx (pk_sub (a := 10 * (nx t L i - 48) + nx t L (i + 1)) (b := 48) (by omega)) ?_
      refine lv_bipush (v := 20) hx hb dX8_number_80 (by decide) ?_
      refine lv_icmp_gt (tgt := 97) hx hb dX8_number_82 (by decide) (fun c_82 => ?_) (fun c_82 => ?_)
      · have c_82 := nlt_t (a := 20) (b := 10 * (nx t L i - 48) + nx t L (i + 1) - 48) (by omega) (by omega) c_82
        refine lv_iload_n hx hb dX8_number_97 rfl (lv_at hl 3 rfl) ?_
        refine lv_if_eq (tgt := 113) hx hb dX8_number_98 (by decide) (fun h => absurd h (by decide)) (fun _ => ?_)
        refine lv_aload_n hx hb dX8_number_101 rfl (lv_at hl 2 rfl) ?_
        refine va_get (D := D) (ci := 8) (v := .ref (ma 0)) (C := RX8) (T := TX8) (N := 24) hx hb hts inlX8 hown hK hP 0 rfl rfl 0 (by decide) (hts _ kw_5_6) (fun _ h9 => h9) rfl dX8_number_102 ?_
        refine lv_iconst (v := 1) hx hb dX8_number_105 (by decide) ?_
        refine lv_aload_n hx hb dX8_number_106 rfl (lv_at hl 2 rfl) ?_
        refine va_get (D := D) (ci := 8) (v := .int (nI c)) (C := RX8) (T := TX8) (N := 24) hx hb hts inlX8 hown hK hP 0 rfl rfl 23 (by decide) (hts _ kw_10_5) (fun _ h9 => h9) rfl dX8_number_107 ?_
        refine ro_iadd (z := nI (1 + c)) hx hb (nI_add 1 c) dX8_number_110 ?_
        refine lv_iload_n hx hb dX8_number_111 rfl (lv_at hl 1 rfl) ?_
        refine ro_top (z := nI (nx t L i - 48)) hx (pk_sub (b := 48) (by omega)) ?_
        refine ro_iast (k := 1 + c) hx hb hK hP hD hS 2 0 rfl rfl rfl (by omega) (by decide) dX8_number_112 (fun H locs hP hD hS => ?_)
        have hP : va_P D vwCl [(q, .inr (8, [.ref (ma 0), .ref (ma 1), .int (nI sN), .ref (ma 2), .int (nI L), .int th, .ref (ma 3), .ref (ma 4), .ref (ma 5), .ref (ma 6), .int nd, .int ct, .int ht, .ref (ma 7), .ref (ma 8), .ref (ma 9), .ref (ma 10), .ref (ma 11), .ref (ma 12), .ref (ma 13), .ref (ma 14), .int (nI (i + 1)), .int 0, .int (nI c)])), (ma 2, .inl (G.1, 60, .inl (tN t))), (ma 0, .inl (G.1, 457, .inl (upd sr (1 + c) (nI (nx t L i - 48)))))] H := hP
        have hD : va_D A [(q, .inr (8, [.ref (ma 0), .ref (ma 1), .int (nI sN), .ref (ma 2), .int (nI L), .int th, .ref (ma 3), .ref (ma 4), .ref (ma 5), .ref (ma 6), .int nd, .int ct, .int ht, .ref (ma 7), .ref (ma 8), .ref (ma 9), .ref (ma 10), .ref (ma 11), .ref (ma 12), .ref (ma 13), .ref (ma 14), .int (nI (i + 1)), .int 0, .int (nI c)])), (ma 2, .inl (G.1, 60, .inl (tN t))), (ma 0, .inl (G.1, 457, .inl (upd sr (1 + c) (nI (nx t L i - 48)))))] := hD
        refine lv_aload_n hx hb dX8_number_113 rfl (lv_at hl 2 rfl) ?_
        refine lv_dup hx hb dX8_number_114 rfl ?_
        refine va_get (D := D) (ci := 8) (v := .int (nI c)) (C := RX8) (T := TX8) (N := 24) hx hb hts inlX8 hown hK hP 0 rfl rfl 23 (by decide) (hts _ kw_10_5) (fun _ h9 => h9) rfl dX8_number_115 ?_
        refine lv_iconst (v := 1) hx hb dX8_number_118 (by decide) ?_
        refine ro_iadd (z := nI (c + 1)) hx hb (nI_add c 1) dX8_number_119 ?_
        refine va_put (D := D) (ci := 8) (v := .int (nI (c + 1))) (ty := .int) (C := RX8) (T := TX8) (N := 24) hx hb hts inlX8 tyX8 tyX8_ok nmX8 hown hK hP hD hS 0 rfl rfl 23 (by decide) (hts _ kw_10_5) (fun _ h9 => h9) rfl (by decide +kernel) rfl rfl (Nat.le_of_ble_eq_true rfl) dX8_number_120 (fun H locs hP hD hS => ?_)
        have hP : va_P D vwCl [(q, .inr (8, [.ref (ma 0), .ref (ma 1), .int (nI sN), .ref (ma 2), .int (nI L), .int th, .ref (ma 3), .ref (ma 4), .ref (ma 5), .ref (ma 6), .int nd, .int ct, .int ht, .ref (ma 7), .ref (ma 8), .ref (ma 9), .ref (ma 10), .ref (ma 11), .ref (ma 12), .ref (ma 13), .ref (ma 14), .int (nI (i + 1)), .int 0, .int (nI (c + 1))])), (ma 2, .inl (G.1, 60, .inl (tN t))), (ma 0, .inl (G.1, 457, .inl (upd sr (1 + c) (nI (nx t L i - 48)))))] H := hP
        have hD : va_D A [(q, .inr (8, [.ref (ma 0), .ref (ma 1), .int (nI sN), .ref (ma 2), .int (nI L), .int th, .ref (ma 3), .ref (ma 4), .ref (ma 5), .ref (ma 6), .int nd, .int ct, .int ht, .ref (ma 7), .ref (ma 8), .ref (ma 9), .ref (ma 10), .ref (ma 11), .ref (ma 12), .ref (ma 13), .ref (ma 14), .int (nI (i + 1)), .int 0, .int (nI (c + 1))])), (ma 2, .inl (G.1, 60, .inl (tN t))), (ma 0, .inl (G.1, 457, .inl (upd sr (1 + c) (nI (nx t L i - 48)))))] := hD
        exact endV C (false, i + 1, c + 1, nx t L i - 48) ((if_pos hd1).trans (if_neg (fun h9 => by omega))).symm hS hP (hD.fst rfl) dX8_number_123
      · have c_82 := nlt_f (a := 20) (b := 10 * (nx t L i - 48) + nx t L (i + 1) - 48) (by omega) (by omega) c_82
        refine lv_iload_n hx hb dX8_number_85 rfl (lv_at hl 0 rfl) ?_
        refine lv_istore_n (lv' := [(2, .int ((nI (10 * (nx t L i - 48) + (nx t L (i + 1)))) - 48)), (3, .int ((nI (10 * (nx t L i - 48) + (nx t L (i + 1)))) - 48)), (0, .ref q), (1, .int 1)]) hx hb dX8_number_86 rfl hl (by decide) rfl (fun ls hl => ?_)
        refine lv_aload_n hx hb dX8_number_87 rfl (lv_at hl 2 rfl) ?_
        refine lv_dup hx hb dX8_number_88 rfl ?_
        refine va_get (D := D) (ci := 8) (v := .int (nI (i + 1))) (C := RX8) (T := TX8) (N := 24) hx hb hts inlX8 hown hK hP 0 rfl rfl 21 (by decide) (hts _ kw_10_11) (fun _ h9 => h9) rfl dX8_number_89 ?_
        refine lv_iconst (v := 1) hx hb dX8_number_92 (by decide) ?_
        refine ro_iadd (z := nI (i + 1 + 1)) hx hb (nI_add (i + 1) 1) dX8_number_93 ?_
        refine va_put (D := D) (ci := 8) (v := .int (nI (i + 1 + 1))) (ty := .int) (C := RX8) (T := TX8) (N := 24) hx hb hts inlX8 tyX8 tyX8_ok nmX8 hown hK hP hD hS 0 rfl rfl 21 (by decide) (hts _ kw_10_11) (fun _ h9 => h9) rfl (by decide +kernel) rfl rfl (Nat.le_of_ble_eq_true rfl) dX8_number_94 (fun H locs hP hD hS => ?_)
        have hP : va_P D vwCl [(q, .inr (8, [.ref (ma 0), .ref (ma 1), .int (nI sN), .ref (ma 2), .int (nI L), .int th, .ref (ma 3), .ref (ma 4), .ref (ma 5), .ref (ma 6), .int nd, .int ct, .int ht, .ref (ma 7), .ref (ma 8), .ref (ma 9), .ref (ma 10), .ref (ma 11), .ref (ma 12), .ref (ma 13), .ref (ma 14), .int (nI (i + 1 + 1)), .int 0, .int (nI c)])), (ma 2, .inl (G.1, 60, .inl (tN t))), (ma 0, .inl (G.1, 457, .inl sr))] H := hP
        have hD : va_D A [(q, .inr (8, [.ref (ma 0), .ref (ma 1), .int (nI sN), .ref (ma 2), .int (nI L), .int th, .ref (ma 3), .ref (ma 4), .ref (ma 5), .ref (ma 6), .int nd, .int ct, .int ht, .ref (ma 7), .ref (ma 8), .ref (ma 9), .ref (ma 10), .ref (ma 11), .ref (ma 12), .ref (ma 13), .ref (ma 14), .int (nI (i + 1 + 1)), .int 0, .int (nI c)])), (ma 2, .inl (G.1, 60, .inl (tN t))), (ma 0, .inl (G.1, 457, .inl sr))] := hD
        refine lv_iload_n hx hb dX8_number_97 rfl (lv_at hl 3 rfl) ?_
        refine lv_if_eq (tgt := 113) hx hb dX8_number_98 (by decide) (fun h => absurd h (by decide)) (fun _ => ?_)
        refine lv_aload_n hx hb dX8_number_101 rfl (lv_at hl 2 rfl) ?_
        refine va_get (D := D) (ci := 8) (v := .ref (ma 0)) (C := RX8) (T := TX8) (N := 24) hx hb hts inlX8 hown hK hP 0 rfl rfl 0 (by decide) (hts _ kw_5_6) (fun _ h9 => h9) rfl dX8_number_102 ?_
        refine lv_iconst (v := 1) hx hb dX8_number_105 (by decide) ?_
        refine lv_aload_n hx hb dX8_number_106 rfl (lv_at hl 2 rfl) ?_
        refine va_get (D := D) (ci := 8) (v := .int (nI c)) (C := RX8) (T := TX8) (N := 24) hx hb hts inlX8 hown hK hP 0 rfl rfl 23 (by decide) (hts _ kw_10_5) (fun _ h9 => h9) rfl dX8_number_107 ?_
        refine ro_iadd (z := nI (1 + c)) hx hb (nI_add 1 c) dX8_number_110 ?_
        refine lv_iload_n hx hb dX8_number_111 rfl (lv_at hl 0 rfl) ?_
        refine ro_top (z := nI (10 * (nx t L i - 48) + nx t L (i + 1) - 48)) hx (pk_sub (a := 10 * (nx t L i - 48) + nx t L (i + 1)) (b := 48) (by omega)) ?_
        refine ro_iast (k := 1 + c) hx hb hK hP hD hS 2 0 rfl rfl rfl (by omega) (by decide) dX8_number_112 (fun H locs hP hD hS => ?_)
        have hP : va_P D vwCl [(q, .inr (8, [.ref (ma 0), .ref (ma 1), .int (nI sN), .ref (ma 2), .int (nI L), .int th, .ref (ma 3), .ref (ma 4), .ref (ma 5), .ref (ma 6), .int nd, .int ct, .int ht, .ref (ma 7), .ref (ma 8), .ref (ma 9), .ref (ma 10), .ref (ma 11), .ref (ma 12), .ref (ma 13), .ref (ma 14), .int (nI (i + 1 + 1)), .int 0, .int (nI c)])), (ma 2, .inl (G.1, 60, .inl (tN t))), (ma 0, .inl (G.1, 457, .inl (upd sr (1 + c) (nI (10 * (nx t L i - 48) + nx t L (i + 1) - 48)))))] H := hP
        have hD : va_D A [(q, .inr (8, [.ref (ma 0), .ref (ma 1), .int (nI sN), .ref (ma 2), .int (nI L), .int th, .ref (ma 3), .ref (ma 4), .ref (ma 5), .ref (ma 6), .int nd, .int ct, .int ht, .ref (ma 7), .ref (ma 8), .ref (ma 9), .ref (ma 10), .ref (ma 11), .ref (ma 12), .ref (ma 13), .ref (ma 14), .int (nI (i + 1 + 1)), .int 0, .int (nI c)])), (ma 2, .inl (G.1, 60, .inl (tN t))), (ma 0, .inl (G.1, 457, .inl (upd sr (1 + c) (nI (10 * (nx t L i - 48) + nx t L (i + 1) - 48)))))] := hD
        refine lv_aload_n hx hb dX8_number_113 rfl (lv_at hl 2 rfl) ?_
        refine lv_dup hx hb dX8_number_114 rfl ?_
        refine va_get (D := D) (ci := 8) (v := .int (nI c)) (C := RX8) (T := TX8) (N := 24) hx hb hts inlX8 hown hK hP 0 rfl rfl 23 (by decide) (hts _ kw_10_5) (fun _ h9 => h9) rfl dX8_number_115 ?_
        refine lv_iconst (v := 1) hx hb dX8_number_118 (by decide) ?_
        refine ro_iadd (z := nI (c + 1)) hx hb (nI_add c 1) dX8_number_119 ?_
        refine va_put (D := D) (ci := 8) (v := .int (nI (c + 1))) (ty := .int) (C := RX8) (T := TX8) (N := 24) hx hb hts inlX8 tyX8 tyX8_ok nmX8 hown hK hP hD hS 0 rfl rfl 23 (by decide) (hts _ kw_10_5) (fun _ h9 => h9) rfl (by decide +kernel) rfl rfl (Nat.le_of_ble_eq_true rfl) dX8_number_120 (fun H locs hP hD hS => ?_)
        have hP : va_P D vwCl [(q, .inr (8, [.ref (ma 0), .ref (ma 1), .int (nI sN), .ref (ma 2), .int (nI L), .int th, .ref (ma 3), .ref (ma 4), .ref (ma 5), .ref (ma 6), .int nd, .int ct, .int ht, .ref (ma 7), .ref (ma 8), .ref (ma 9), .ref (ma 10), .ref (ma 11), .ref (ma 12), .ref (ma 13), .ref (ma 14), .int (nI (i + 1 + 1)), .int 0, .int (nI (c + 1))])), (ma 2, .inl (G.1, 60, .inl (tN t))), (ma 0, .inl (G.1, 457, .inl (upd sr (1 + c) (nI (10 * (nx t L i - 48) + nx t L (i + 1) - 48)))))] H := hP
        have hD : va_D A [(q, .inr (8, [.ref (ma 0), .ref (ma 1), .int (nI sN), .ref (ma 2), .int (nI L), .int th, .ref (ma 3), .ref (ma 4), .ref (ma 5), .ref (ma 6), .int nd, .int ct, .int ht, .ref (ma 7), .ref (ma 8), .ref (ma 9), .ref (ma 10), .ref (ma 11), .ref (ma 12), .ref (ma 13), .ref (ma 14), .int (nI (i + 1 + 1)), .int 0, .int (nI (c + 1))])), (ma 2, .inl (G.1, 60, .inl (tN t))), (ma 0, .inl (G.1, 457, .inl (upd sr (1 + c) (nI (10 * (nx t L i - 48) + nx t L (i + 1) - 48)))))] := hD
        exact endV C (false, i + 2, c + 1, 10 * (nx t L i - 48) + nx t L (i + 1) - 48) ((if_pos hd1).trans (if_pos ⟨by omega, by omega, by omega⟩)).symm hS hP (hD.fst rfl) dX8_number_123
  · have c_23 : ¬ (¬ ((nI (nx t L i)) - 48) < 1 ∧ ¬ 9 < ((nI (nx t L i)) - 48)) := bI_0 c_23
    refine lv_iconst (v := 1) hx hb dX8_number_26 (by decide) ?_
    refine lv_goto (tgt := 31) hx hb dX8_number_27 (by decide) ?_
    refine va_put (D := D) (ci := 8) (v := .int 1) (ty := .boolean) (C := RX8) (T := TX8) (N := 24) hx hb hts inlX8 tyX8 tyX8_ok nmX8 hown hK hP hD hS 0 rfl rfl 22 (by decide) (hts _ kw_10_12) (fun _ h9 => h9) rfl (by decide +kernel) rfl rfl (Nat.le_of_ble_eq_true rfl) dX8_number_31 (fun H locs hP hD hS => ?_)
    have hP : va_P D vwCl [(q, .inr (8, [.ref (ma 0), .ref (ma 1), .int (nI sN), .ref (ma 2), .int (nI L), .int th, .ref (ma 3), .ref (ma 4), .ref (ma 5), .ref (ma 6), .int nd, .int ct, .int ht, .ref (ma 7), .ref (ma 8), .ref (ma 9), .ref (ma 10), .ref (ma 11), .ref (ma 12), .ref (ma 13), .ref (ma 14), .int (nI i), .int 1, .int (nI c)])), (ma 2, .inl (G.1, 60, .inl (tN t))), (ma 0, .inl (G.1, 457, .inl sr))] H := hP
    have hD : va_D A [(q, .inr (8, [.ref (ma 0), .ref (ma 1), .int (nI sN), .ref (ma 2), .int (nI L), .int th, .ref (ma 3), .ref (ma 4), .ref (ma 5), .ref (ma 6), .int nd, .int ct, .int ht, .ref (ma 7), .ref (ma 8), .ref (ma 9), .ref (ma 10), .ref (ma 11), .ref (ma 12), .ref (ma 13), .ref (ma 14), .int (nI i), .int 1, .int (nI c)])), (ma 2, .inl (G.1, 60, .inl (tN t))), (ma 0, .inl (G.1, 457, .inl sr))] := hD
    refine lv_aload_n hx hb dX8_number_34 rfl (lv_at hl 1 rfl) ?_
    refine va_get (D := D) (ci := 8) (v := .int 1) (C := RX8) (T := TX8) (N := 24) hx hb hts inlX8 hown hK hP 0 rfl rfl 22 (by decide) (hts _ kw_10_12) (fun _ h9 => h9) rfl dX8_number_35 ?_
    refine lv_if_eq (tgt := 42) hx hb dX8_number_38 (by decide) (fun h => absurd h (by decide)) (fun _ => ?_)
    exact endV C (true, i, c, 0) (nmA_bad (fun h9 => c_23 ((nm_iff (nx_lt htx)).mpr h9))).symm hS hP (hD.fst rfl) dX8_number_41
