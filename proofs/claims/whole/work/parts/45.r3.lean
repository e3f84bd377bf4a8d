set_option maxHeartbeats 800000 in
set_option maxRecDepth 100000 in
theorem mX8_isWhole (l : Launch) (D : va_G) (G : u_G) (q : Nat) (ma : Nat → Nat) (sN L : Nat) (th nd ct ht sp iw mn : Int32) (t : Nat → Nat) (F : Nat → Int32)  (hL : L ≤ 60) (htx : ∀ k, k < L → t k < 128) : MtI l D G yX8_isWhole cX8_isWhole 3 .boolean 3 0 0 [.ref q, .int 0] [(q, .inr (8, [.ref (ma 0), .ref (ma 1), .int (nI sN), .ref (ma 2), .int (nI L), .int th, .ref (ma 3), .ref (ma 4), .ref (ma 5), .ref (ma 6), .int nd, .int ct, .int ht, .ref (ma 7), .ref (ma 8), .ref (ma 9), .ref (ma 10), .ref (ma 11), .ref (ma 12), .ref (ma 13), .ref (ma 14), .int sp, .int iw, .int mn])), (ma 2, .inl (G.1, 60, .inl (tN t)))] (fun (r : Int32) (u : Int32 × Nat) => r = bI ((rdA t L F).1 = L ∧ 0 < (rdA t L F).2.2.1) ∧ (0 < (rdA t L F).2.2.1 → u.2 = (rdA t L F).2.1)) (fun (u : Int32 × Nat) => [(q, .inr (8, [.ref (ma 0), .ref (ma 1), .int (nI sN), .ref (ma 2), .int (nI L), .int th, .ref (ma 3), .ref (ma 4), .ref (ma 5), .ref (ma 6), .int nd, .int ct, .int ht, .ref (ma 7), .ref (ma 8), .ref (ma 9), .ref (ma 10), .ref (ma 11), .ref (ma 12), .ref (ma 13), .ref (ma 14), .int (nI ((rdA t L F).1)), .int u.1, .int (nI u.2)])), (ma 2, .inl (G.1, 60, .inl (tN t)))]) := by
  refine MtI.of (by decide) (Nat.le_of_ble_eq_true rfl) ?_
  intro pr e s9 m9 below meth c9 A ls C hP hD hl
  obtain ⟨hx, hb, hml, hown, hts, hr, hlocks, hA, hAm⟩ := id C
  have hK := hAm.1
  have hS : va_S A s9.heap s9.heap [] := va_S.rf
  have hl : lv_has ls 3 [(0, .ref q), (1, .int 0)] := hl
  refine lv_aload_n hx hb dX8_isWhole_0 rfl (lv_at hl 0 rfl) ?_
  refine lv_iconst (v := 0) hx hb dX8_isWhole_1 (by decide) ?_
  refine va_put (D := D) (ci := 8) (v := .int 0) (ty := .int) (C := RX8) (T := TX8) (N := 24) hx hb hts inlX8 tyX8 tyX8_ok nmX8 hown hK hP hD hS 0 rfl rfl 21 (by decide) (hts _ kw_10_11) (fun _ h9 => h9) rfl (by decide +kernel) rfl rfl (Nat.le_of_ble_eq_true rfl) dX8_isWhole_2 (fun H locs hP hD hS => ?_)
  have hP : va_P D vwCl [(q, .inr (8, [.ref (ma 0), .ref (ma 1), .int (nI sN), .ref (ma 2), .int (nI L), .int th, .ref (ma 3), .ref (ma 4), .ref (ma 5), .ref (ma 6), .int nd, .int ct, .int ht, .ref (ma 7), .ref (ma 8), .ref (ma 9), .ref (ma 10), .ref (ma 11), .ref (ma 12), .ref (ma 13), .ref (ma 14), .int 0, .int iw, .int mn])), (ma 2, .inl (G.1, 60, .inl (tN t)))] H := hP
  have hD : va_D A [(q, .inr (8, [.ref (ma 0), .ref (ma 1), .int (nI sN), .ref (ma 2), .int (nI L), .int th, .ref (ma 3), .ref (ma 4), .ref (ma 5), .ref (ma 6), .int nd, .int ct, .int ht, .ref (ma 7), .ref (ma 8), .ref (ma 9), .ref (ma 10), .ref (ma 11), .ref (ma 12), .ref (ma 13), .ref (ma 14), .int 0, .int iw, .int mn])), (ma 2, .inl (G.1, 60, .inl (tN t)))] := hD
  refine lv_aload_n hx hb dX8_isWhole_5 rfl (lv_at hl 0 rfl) ?_
  refine lv_iconst (v := 0) hx hb dX8_isWhole_6 (by decide) ?_
  refine va_put (D := D) (ci := 8) (v := .int 0) (ty := .boolean) (C := RX8) (T := TX8) (N := 24) hx hb hts inlX8 tyX8 tyX8_ok nmX8 hown hK hP hD hS 0 rfl rfl 22 (by decide) (hts _ kw_10_12) (fun _ h9 => h9) rfl (by decide +kernel) rfl rfl (Nat.le_of_ble_eq_true rfl) dX8_isWhole_7 (fun H locs hP hD hS => ?_)
  have hP : va_P D vwCl [(q, .inr (8, [.ref (ma 0), .ref (ma 1), .int (nI sN), .ref (ma 2), .int (nI L), .int th, .ref (ma 3), .ref (ma 4), .ref (ma 5), .ref (ma 6), .int nd, .int ct, .int ht, .ref (ma 7), .ref (ma 8), .ref (ma 9), .ref (ma 10), .ref (ma 11), .ref (ma 12), .ref (ma 13), .ref (ma 14), .int 0, .int 0, .int mn])), (ma 2, .inl (G.1, 60, .inl (tN t)))] H := hP
  have hD : va_D A [(q, .inr (8, [.ref (ma 0), .ref (ma 1), .int (nI sN), .ref (ma 2), .int (nI L), .int th, .ref (ma 3), .ref (ma 4), .ref (ma 5), .ref (ma 6), .int nd, .int ct, .int ht, .ref (ma 7), .ref (ma 8), .ref (ma 9), .ref (ma 10), .ref (ma 11), .ref (ma 12), .ref (ma 13), .ref (ma 14), .int 0, .int 0, .int mn])), (ma 2, .inl (G.1, 60, .inl (tN t)))] := hD
  refine lv_aload_n hx hb dX8_isWhole_10 rfl (lv_at hl 0 rfl) ?_
  refine lv_iconst (v := 0) hx hb dX8_isWhole_11 (by decide) ?_
  refine va_put (D := D) (ci := 8) (v := .int 0) (ty := .int) (C := RX8) (T := TX8) (N := 24) hx hb hts inlX8 tyX8 tyX8_ok nmX8 hown hK hP hD hS 0 rfl rfl 23 (by decide) (hts _ kw_10_5) (fun _ h9 => h9) rfl (by decide +kernel) rfl rfl (Nat.le_of_ble_eq_true rfl) dX8_isWhole_12 (fun H locs hP hD hS => ?_)
  have hP : va_P D vwCl [(q, .inr (8, [.ref (ma 0), .ref (ma 1), .int (nI sN), .ref (ma 2), .int (nI L), .int th, .ref (ma 3), .ref (ma 4), .ref (ma 5), .ref (ma 6), .int nd, .int ct, .int ht, .ref (ma 7), .ref (ma 8), .ref (ma 9), .ref (ma 10), .ref (ma 11), .ref (ma 12), .ref (ma 13), .ref (ma 14), .int 0, .int 0, .int 0])), (ma 2, .inl (G.1, 60, .inl (tN t)))] H := hP
  have hD : va_D A [(q, .inr (8, [.ref (ma 0), .ref (ma 1), .int (nI sN), .ref (ma 2), .int (nI L), .int th, .ref (ma 3), .ref (ma 4), .ref (ma 5), .ref (ma 6), .int nd, .int ct, .int ht, .ref (ma 7), .ref (ma 8), .ref (ma 9), .ref (ma 10), .ref (ma 11), .ref (ma 12), .ref (ma 13), .ref (ma 14), .int 0, .int 0, .int 0])), (ma 2, .inl (G.1, 60, .inl (tN t)))] := hD
  refine lv_iconst (v := 1) hx hb dX8_isWhole_15 (by decide) ?_
  refine lv_istore_n (lv' := [(2, .int 1), (0, .ref q), (1, .int 0)]) hx hb dX8_isWhole_16 rfl hl (by decide) rfl (fun ls hl => ?_)
  have lp17 : ∀ (n17 : Nat) (i : Nat) (c : Nat) (F9 : Nat → Int32) (w : Int32) (hi : i ≤ L) (hc : c ≤ 11) (hR : rd t (L - i) i (c + 1, 0, F9) = rdA t L F) (_ : 61 - i < n17) (H : Heap) (locs : List Loc) (ls : Array Slot), va_P D vwCl [(q, .inr (8, [.ref (ma 0), .ref (ma 1), .int (nI sN), .ref (ma 2), .int (nI L), .int th, .ref (ma 3), .ref (ma 4), .ref (ma 5), .ref (ma 6), .int nd, .int ct, .int ht, .ref (ma 7), .ref (ma 8), .ref (ma 9), .ref (ma 10), .ref (ma 11), .ref (ma 12), .ref (ma 13), .ref (ma 14), .int (nI i), .int 0, .int (nI c)])), (ma 2, .inl (G.1, 60, .inl (tN t)))] H → va_D A [(q, .inr (8, [.ref (ma 0), .ref (ma 1), .int (nI sN), .ref (ma 2), .int (nI L), .int th, .ref (ma 3), .ref (ma 4), .ref (ma 5), .ref (ma 6), .int nd, .int ct, .int ht, .ref (ma 7), .ref (ma 8), .ref (ma 9), .ref (ma 10), .ref (ma 11), .ref (ma 12), .ref (ma 13), .ref (ma 14), .int (nI i), .int 0, .int (nI c)])), (ma 2, .inl (G.1, 60, .inl (tN t)))] → va_S A s9.heap H locs → lv_has ls 3 [(0, .ref q), (1, .int 0), (2, .int 1)] → W pr l e (rmG 3 0 0) s9 m9 (List.toArray [.ref q, .int 0]) below meth c9 H locs 0 0 (MQ below (va_Qi (fun (r : Int32) (u : Int32 × Nat) => r = bI ((rdA t L F).1 = L ∧ 0 < (rdA t L F).2.2.1) ∧ (0 < (rdA t L F).2.2.1 → u.2 = (rdA t L F).2.1)) (fun u9 t9 => WB D ((fun (u : Int32 × Nat) => [(q, .inr (8, [.ref (ma 0), .ref (ma 1), .int (nI sN), .ref (ma 2), .int (nI L), .int th, .ref (ma 3), .ref (ma 4), .ref (ma 5), .ref (ma 6), .int nd, .int ct, .int ht, .ref (ma 7), .ref (ma 8), .ref (ma 9), .ref (ma 10), .ref (ma 11), .ref (ma 12), .ref (ma 13), .ref (ma 14), .int (nI ((rdA t L F).1)), .int u.1, .int (nI u.2)])), (ma 2, .inl (G.1, 60, .inl (tN t)))]) u9) t9) A) (List.toArray [.ref q, .int 0]) s9 0 0 A) (F0 m9 17 ls []) := by
    intro n17
    induction n17 with
    | zero => intro i c F9 w hi hc hR hm; exact absurd hm (Nat.not_lt_zero _)
    | succ n17 ih17 =>
      intro i c F9 w hi hc hR hm H locs ls hP hD hS hl
      refine lv_iload_n hx hb dX8_isWhole_17 rfl (lv_at hl 2 rfl) ?_
      refine lv_if_eq (tgt := 118) hx hb dX8_isWhole_18 (by decide) (fun h => absurd h (by decide)) (fun _ => ?_)
      refine lv_aload_n hx hb dX8_isWhole_21 rfl (lv_at hl 0 rfl) ?_
      refine lv_iload_n hx hb dX8_isWhole_22 rfl (lv_at hl 1 rfl) ?_
      refine aftV C (runV_G (As := [.int 0]) (rest := []) (ci := 8) (N := 24) (T := TX8) (q0 := 0) C (mX8_number l D G q ma sN L th nd ct ht sp iw mn t i c hL htx (by omega) (by omega)) hS hP hD [0, 1] rfl (by decide) rfl rfl (ys_X8_number) kw_10_13 kw_10_14 kw_10_15 ⟨Nat.le_of_ble_eq_true rfl, Nat.le_of_ble_eq_true rfl⟩ hl.1 (Nat.le_of_ble_eq_true rfl) dX8_isWhole_23 rfl rfl ⟨Nat.zero_le _, Nat.zero_le _⟩) hS hP hD [0, 1] rfl (fun _ => rfl) (fun u23 H locs hp23 hP hD hS => ?_)
      have hP : va_P D vwCl [(q, .inr (8, [.ref (ma 0), .ref (ma 1), .int (nI sN), .ref (ma 2), .int (nI L), .int th, .ref (ma 3), .ref (ma 4), .ref (ma 5), .ref (ma 6), .int nd, .int ct, .int ht, .ref (ma 7), .ref (ma 8), .ref (ma 9), .ref (ma 10), .ref (ma 11), .ref (ma 12), .ref (ma 13), .ref (ma 14), .int (nI u23.2.1), .int (bI (u23.1 = true)), .int (nI u23.2.2.1)])), (ma 2, .inl (G.1, 60, .inl (tN t)))] H := hP
      have hD : va_D A [(q, .inr (8, [.ref (ma 0), .ref (ma 1), .int (nI sN), .ref (ma 2), .int (nI L), .int th, .ref (ma 3), .ref (ma 4), .ref (ma 5), .ref (ma 6), .int nd, .int ct, .int ht, .ref (ma 7), .ref (ma 8), .ref (ma 9), .ref (ma 10), .ref (ma 11), .ref (ma 12), .ref (ma 13), .ref (ma 14), .int (nI u23.2.1), .int (bI (u23.1 = true)), .int (nI u23.2.2.1)])), (ma 2, .inl (G.1, 60, .inl (tN t)))] := hD
      refine lv_aload_n hx hb dX8_isWhole_26 rfl (lv_at hl 0 rfl) ?_
      refine va_get (D := D) (ci := 8) (v := .int (bI (u23.1 = true))) (C := RX8) (T := TX8) (N := 24) hx hb hts inlX8 hown hK hP 0 rfl rfl 22 (by decide) (hts _ kw_10_12) (fun _ h9 => h9) rfl dX8_isWhole_27 ?_
      refine lv_if_ne (tgt := 48) hx hb dX8_isWhole_30 (by decide) (fun c_30 => ?_) (fun c_30 => ?_)
      · have c_30 := bI_1 c_30
        have hB := nm_bad' F9 hi hp23 c_30
        rw [hR] at hB
        refine lv_iconst (v := 0) hx hb dX8_isWhole_48 (by decide) ?_
        refine lv_istore_n (lv' := [(2, .int 0), (0, .ref q), (1, .int 0)]) hx hb dX8_isWhole_49 rfl hl (by decide) rfl (fun ls hl => ?_)
        refine lv_iload_n hx hb dX8_isWhole_50 rfl (lv_at hl 0 rfl) ?_
        refine lv_if_eq (tgt := 17) hx hb dX8_isWhole_51 (by decide) (fun _ => ?_) (fun h => absurd (by decide) h)
        refine lv_iload_n hx hb dX8_isWhole_17 rfl (lv_at hl 0 rfl) ?_
        refine lv_if_eq (tgt := 118) hx hb dX8_isWhole_18 (by decide) (fun _ => ?_) (fun h => absurd (by decide) h)
        refine lv_aload_n hx hb dX8_isWhole_118 rfl (lv_at hl 1 rfl) ?_
        refine va_get (D := D) (ci := 8) (v := .int (bI (u23.1 = true))) (C := RX8) (T := TX8) (N := 24) hx hb hts inlX8 hown hK hP 0 rfl rfl 22 (by decide) (hts _ kw_10_12) (fun _ h9 => h9) rfl dX8_isWhole_119 ?_
        refine lv_if_ne (tgt := 129) hx hb dX8_isWhole_122 (by decide) (fun c_122 => ?_) (fun c_122 => ?_)
        · have c_122 := bI_1 c_122
          refine lv_iconst (v := 0) hx hb dX8_isWhole_129 (by decide) ?_
          exact endI C rfl (bI (u23.1 = true), u23.2.2.1) ⟨(by rw [hB.1]; exact (bI_f (fun h9 => Nat.lt_irrefl 0 h9.2)).symm), (by rw [hB.1]; exact fun h9 => absurd h9 (Nat.lt_irrefl 0))⟩ hS (by rw [hB.1, ← hB.2.1]; exact hP) dX8_isWhole_130
        · have c_122 : ¬ (u23.1 = true) := bI_0 c_122
          exact absurd c_30 c_122
      · have c_30 : ¬ (u23.1 = true) := bI_0 c_30
        obtain ⟨g1, g2, g3, g4, g5, g6, g7⟩ := nm_good' F9 hp23 c_30
        rw [hR, g6.symm] at g1
        refine lv_aload_n hx hb dX8_isWhole_33 rfl (lv_at hl 0 rfl) ?_
        refine va_get (D := D) (ci := 8) (v := .int (nI u23.2.1)) (C := RX8) (T := TX8) (N := 24) hx hb hts inlX8 hown hK hP 0 rfl rfl 21 (by decide) (hts _ kw_10_11) (fun _ h9 => h9) rfl dX8_isWhole_34 ?_
        refine lv_aload_n hx hb dX8_isWhole_37 rfl (lv_at hl 0 rfl) ?_
        refine va_get (D := D) (ci := 8) (v := .int (nI L)) (C := RX8) (T := TX8) (N := 24) hx hb hts inlX8 hown hK hP 0 rfl rfl 4 (by decide) (hts _ kw_10_6) (fun _ h9 => h9) rfl dX8_isWhole_38 ?_
        refine lv_icmp_ge (tgt := 48) hx hb dX8_isWhole_41 (by decide) (fun c_41 => ?_) (fun c_41 => ?_)
        · have c_41 := nle_t (a := L) (b := u23.2.1) (by omega) (by omega) c_41
          have hE := rd_end (t := t) (L := L) (j := u23.2.1) (c := u23.2.2.1) (v := u23.2.2.2) (F := upd F9 c (nI u23.2.2.2)) c_41
          rw [← g1] at hE
          refine lv_iconst (v := 0) hx hb dX8_isWhole_48 (by decide) ?_
          refine lv_istore_n (lv' := [(2, .int 0), (0, .ref q), (1, .int 0)]) hx hb dX8_isWhole_49 rfl hl (by decide) rfl (fun ls hl => ?_)
          refine lv_iload_n hx hb dX8_isWhole_50 rfl (lv_at hl 0 rfl) ?_
          refine lv_if_eq (tgt := 17) hx hb dX8_isWhole_51 (by decide) (fun _ => ?_) (fun h => absurd (by decide) h)
          refine lv_iload_n hx hb dX8_isWhole_17 rfl (lv_at hl 0 rfl) ?_
          refine lv_if_eq (tgt := 118) hx hb dX8_isWhole_18 (by decide) (fun _ => ?_) (fun h => absurd (by decide) h)
          refine lv_aload_n hx hb dX8_isWhole_118 rfl (lv_at hl 1 rfl) ?_
          refine va_get (D := D) (ci := 8) (v := .int (bI (u23.1 = true))) (C := RX8) (T := TX8) (N := 24) hx hb hts inlX8 hown hK hP 0 rfl rfl 22 (by decide) (hts _ kw_10_12) (fun _ h9 => h9) rfl dX8_isWhole_119 ?_
          refine lv_if_ne (tgt := 129) hx hb dX8_isWhole_122 (by decide) (fun c_122 => ?_) (fun c_122 => ?_)
          · have c_122 := bI_1 c_122
            exact absurd c_122 c_30
          · have c_122 : ¬ (u23.1 = true) := bI_0 c_122
            refine lv_iconst (v := 1) hx hb dX8_isWhole_125 (by decide) ?_
            refine lv_goto (tgt := 130) hx hb dX8_isWhole_126 (by decide) ?_
            exact endI C rfl (bI (u23.1 = true), u23.2.2.1) ⟨(by rw [hE]; exact (bI_t ⟨by show u23.2.1 = L; omega, g4⟩).symm), (by rw [hE]; exact fun _ => rfl)⟩ hS (by rw [hE]; exact hP) dX8_isWhole_130
        · have c_41 := nle_f (a := L) (b := u23.2.1) (by omega) (by omega) c_41
          have hx7 : nx t L u23.2.1 < 128 := nx_lt htx
          refine lv_iconst (v := 1) hx hb dX8_isWhole_44 (by decide) ?_
          refine lv_goto (tgt := 49) hx hb dX8_isWhole_45 (by decide) ?_
          refine lv_istore_n (lv' := [(2, .int 1), (0, .ref q), (1, .int 0)]) hx hb dX8_isWhole_49 rfl hl (by decide) rfl (fun ls hl => ?_)
          refine lv_iload_n hx hb dX8_isWhole_50 rfl (lv_at hl 0 rfl) ?_
          refine lv_if_eq (tgt := 17) hx hb dX8_isWhole_51 (by decide) (fun h => absurd h (by decide)) (fun _ => ?_)
          refine lv_aload_n hx hb dX8_isWhole_54 rfl (lv_at hl 1 rfl) ?_
          refine lv_aload_n hx hb dX8_isWhole_55 rfl (lv_at hl 1 rfl) ?_
          refine aftI0 C (runV_G (As := []) (rest := [.ref q]) (ci := 8) (N := 24) (T := TX8) (q0 := 0) C (mX8_next l D G q ma sN L th nd ct ht sp (bI (u23.1 = true)) (nI u23.2.2.1) t u23.2.1 hL (by omega)) hS hP hD [0, 1] rfl (by decide) rfl rfl (ys_X8_next) kw_10_17 kw_10_18 kw_10_19 ⟨Nat.le_of_ble_eq_true rfl, Nat.le_of_ble_eq_true rfl⟩ hl.1 (Nat.le_of_ble_eq_true rfl) dX8_isWhole_56 rfl rfl ⟨Nat.zero_le _, Nat.zero_le _⟩) hS hP hD [0, 1] rfl (fun r56 _ H locs hp56 hP hS => ?_)
          refine ro_top (z := nI (nx t L u23.2.1)) hx hp56 ?_
          refine lv_bipush (v := 44) hx hb dX8_isWhole_59 (by decide) ?_
          refine lv_icmp_ne (tgt := 73) hx hb dX8_isWhole_61 (by decide) (fun c_61 => ?_) (fun c_61 => ?_)
          · have c_61 := neq_f (a := nx t L u23.2.1) (b := 44) (by omega) (by omega) c_61
            have hE := rd_no (t := t) (L := L) (j := u23.2.1) (c := c) (v := u23.2.2.2) (F := upd F9 c (nI u23.2.2.2)) c_41 c_61 (fun a b => g7 a b)
            rw [g6] at g1
            rw [hE] at g1
            refine lv_iconst (v := 1) hx hb dX8_isWhole_73 (by decide) ?_
            refine lv_goto (tgt := 78) hx hb dX8_isWhole_74 (by decide) ?_
            refine va_put (D := D) (ci := 8) (v := .int 1) (ty := .boolean) (C := RX8) (T := TX8) (N := 24) hx hb hts inlX8 tyX8 tyX8_ok nmX8 hown hK hP hD hS 0 rfl rfl 22 (by decide) (hts _ kw_10_12) (fun _ h9 => h9) rfl (by decide +kernel) rfl rfl (Nat.le_of_ble_eq_true rfl) dX8_isWhole_78 (fun H locs hP hD hS => ?_)
            have hP : va_P D vwCl [(q, .inr (8, [.ref (ma 0), .ref (ma 1), .int (nI sN), .ref (ma 2), .int (nI L), .int th, .ref (ma 3), .ref (ma 4), .ref (ma 5), .ref (ma 6), .int nd, .int ct, .int ht, .ref (ma 7), .ref (ma 8), .ref (ma 9), .ref (ma 10), .ref (ma 11), .ref (ma 12), .ref (ma 13), .ref (ma 14), .int (nI u23.2.1), .int 1, .int (nI u23.2.2.1)])), (ma 2, .inl (G.1, 60, .inl (tN t)))] H := hP
            have hD : va_D A [(q, .inr (8, [.ref (ma 0), .ref (ma 1), .int (nI sN), .ref (ma 2), .int (nI L), .int th, .ref (ma 3), .ref (ma 4), .ref (ma 5), .ref (ma 6), .int nd, .int ct, .int ht, .ref (ma 7), .ref (ma 8), .ref (ma 9), .ref (ma 10), .ref (ma 11), .ref (ma 12), .ref (ma 13), .ref (ma 14), .int (nI u23.2.1), .int 1, .int (nI u23.2.2.1)])), (ma 2, .inl (G.1, 60, .inl (tN t)))] := hD
            refine lv_aload_n hx hb dX8_isWhole_81 rfl (lv_at hl 1 rfl) ?_
            refine lv_dup hx hb dX8_isWhole_82 rfl ?_
            refine va_get (D := D) (ci := 8) (v := .int (nI u23.2.1)) (C := RX8) (T := TX8) (N := 24) hx hb hts inlX8 hown hK hP 0 rfl rfl 21 (by decide) (hts _ kw_10_11) (fun _ h9 => h9) rfl dX8_isWhole_83 ?_
            refine lv_aload_n hx hb dX8_isWhole_86 rfl (lv_at hl 1 rfl) ?_
            refine va_get (D := D) (ci := 8) (v := .int 1) (C := RX8) (T := TX8) (N := 24) hx hb hts inlX8 hown hK hP 0 rfl rfl 22 (by decide) (hts _ kw_10_12) (fun _ h9 => h9) rfl dX8_isWhole_87 ?_
            refine lv_if_eq (tgt := 97) hx hb dX8_isWhole_90 (by decide) (fun h => absurd h (by decide)) (fun _ => ?_)
            refine lv_iconst (v := 0) hx hb dX8_isWhole_93 (by decide) ?_
            refine lv_goto (tgt := 98) hx hb dX8_isWhole_94 (by decide) ?_
            refine ro_iadd (z := nI u23.2.1) hx hb (by simp [nI_add]) dX8_isWhole_98 ?_
            refine va_put (D := D) (ci := 8) (v := .int (nI u23.2.1)) (ty := .int) (C := RX8) (T := TX8) (N := 24) hx hb hts inlX8 tyX8 tyX8_ok nmX8 hown hK hP hD hS 0 rfl rfl 21 (by decide) (hts _ kw_10_11) (fun _ h9 => h9) rfl (by decide +kernel) rfl rfl (Nat.le_of_ble_eq_true rfl) dX8_isWhole_99 (fun H locs hP hD hS => ?_)
            have hP : va_P D vwCl [(q, .inr (8, [.ref (ma 0), .ref (ma 1), .int (nI sN), .ref (ma 2), .int (nI L), .int th, .ref (ma 3), .ref (ma 4), .ref (ma 5), .ref (ma 6), .int nd, .int ct, .int ht, .ref (ma 7), .ref (ma 8), .ref (ma 9), .ref (ma 10), .ref (ma 11), .ref (ma 12), .ref (ma 13), .ref (ma 14), .int (nI u23.2.1), .int 1, .int (nI u23.2.2.1)])), (ma 2, .inl (G.1, 60, .inl (tN t)))] H := hP
            have hD : va_D A [(q, .inr (8, [.ref (ma 0), .ref (ma 1), .int (nI sN), .ref (ma 2), .int (nI L), .int th, .ref (ma 3), .ref (ma 4), .ref (ma 5), .ref (ma 6), .int nd, .int ct, .int ht, .ref (ma 7), .ref (ma 8), .ref (ma 9), .ref (ma 10), .ref (ma 11), .ref (ma 12), .ref (ma 13), .ref (ma 14), .int (nI u23.2.1), .int 1, .int (nI u23.2.2.1)])), (ma 2, .inl (G.1, 60, .inl (tN t)))] := hD
            refine lv_aload_n hx hb dX8_isWhole_102 rfl (lv_at hl 1 rfl) ?_
            refine va_get (D := D) (ci := 8) (v := .int 1) (C := RX8) (T := TX8) (N := 24) hx hb hts inlX8 hown hK hP 0 rfl rfl 22 (by decide) (hts _ kw_10_12) (fun _ h9 => h9) rfl dX8_isWhole_103 ?_
            refine lv_if_ne (tgt := 113) hx hb dX8_isWhole_106 (by decide) (fun _ => ?_) (fun h => absurd h (by decide))
            refine lv_iconst (v := 0) hx hb dX8_isWhole_113 (by decide) ?_
            refine lv_istore_n (lv' := [(2, .int 0), (0, .ref q), (1, .int 0)]) hx hb dX8_isWhole_114 rfl hl (by decide) rfl (fun ls hl => ?_)
            refine lv_goto (tgt := 17) hx hb dX8_isWhole_115 (by decide) ?_
            refine lv_iload_n hx hb dX8_isWhole_17 rfl (lv_at hl 0 rfl) ?_
            refine lv_if_eq (tgt := 118) hx hb dX8_isWhole_18 (by decide) (fun _ => ?_) (fun h => absurd (by decide) h)
            refine lv_aload_n hx hb dX8_isWhole_118 rfl (lv_at hl 1 rfl) ?_
            refine va_get (D := D) (ci := 8) (v := .int 1) (C := RX8) (T := TX8) (N := 24) hx hb hts inlX8 hown hK hP 0 rfl rfl 22 (by decide) (hts _ kw_10_12) (fun _ h9 => h9) rfl dX8_isWhole_119 ?_
            refine lv_if_ne (tgt := 129) hx hb dX8_isWhole_122 (by decide) (fun _ => ?_) (fun h => absurd h (by decide))
            refine lv_iconst (v := 0) hx hb dX8_isWhole_129 (by decide) ?_
            exact endI C rfl (1, u23.2.2.1) ⟨(by rw [g1]; exact (bI_f (fun h9 => by have h8 : u23.2.1 = L := h9.1; omega)).symm), (by rw [g1]; exact fun _ => g6)⟩ hS (by rw [g1]; exact hP) dX8_isWhole_130
          · have c_61 := neq_t (a := nx t L u23.2.1) (b := 44) (by omega) (by omega) c_61
            refine lv_aload_n hx hb dX8_isWhole_64 rfl (lv_at hl 1 rfl) ?_
            refine va_get (D := D) (ci := 8) (v := .int (nI u23.2.2.1)) (C := RX8) (T := TX8) (N := 24) hx hb hts inlX8 hown hK hP 0 rfl rfl 23 (by decide) (hts _ kw_10_5) (fun _ h9 => h9) rfl dX8_isWhole_65 ?_
            refine lv_bipush (v := 12) hx hb dX8_isWhole_68 (by decide) ?_
            refine lv_icmp_ne (tgt := 77) hx hb dX8_isWhole_70 (by decide) (fun c_70 => ?_) (fun c_70 => ?_)
            · have c_70 := neq_f (a := u23.2.2.1) (b := 12) (by omega) (by omega) c_70
              have hE := rd_comma (t := t) (L := L) (j := u23.2.1) (c := u23.2.2.1) (v := u23.2.2.2) (F := upd F9 c (nI u23.2.2.2)) c_41 c_61 g4 (by omega)
              rw [hE] at g1
              refine lv_iconst (v := 0) hx hb dX8_isWhole_77 (by decide) ?_
              refine va_put (D := D) (ci := 8) (v := .int 0) (ty := .boolean) (C := RX8) (T := TX8) (N := 24) hx hb hts inlX8 tyX8 tyX8_ok nmX8 hown hK hP hD hS 0 rfl rfl 22 (by decide) (hts _ kw_10_12) (fun _ h9 => h9) rfl (by decide +kernel) rfl rfl (Nat.le_of_ble_eq_true rfl) dX8_isWhole_78 (fun H locs hP hD hS => ?_)
              have hP : va_P D vwCl [(q, .inr (8, [.ref (ma 0), .ref (ma 1), .int (nI sN), .ref (ma 2), .int (nI L), .int th, .ref (ma 3), .ref (ma 4), .ref (ma 5), .ref (ma 6), .int nd, .int ct, .int ht, .ref (ma 7), .ref (ma 8), .ref (ma 9), .ref (ma 10), .ref (ma 11), .ref (ma 12), .ref (ma 13), .ref (ma 14), .int (nI u23.2.1), .int 0, .int (nI u23.2.2.1)])), (ma 2, .inl (G.1, 60, .inl (tN t)))] H := hP
              have hD : va_D A [(q, .inr (8, [.ref (ma 0), .ref (ma 1), .int (nI sN), .ref (ma 2), .int (nI L), .int th, .ref (ma 3), .ref (ma 4), .ref (ma 5), .ref (ma 6), .int nd, .int ct, .int ht, .ref (ma 7), .ref (ma 8), .ref (ma 9), .ref (ma 10), .ref (ma 11), .ref (ma 12), .ref (ma 13), .ref (ma 14), .int (nI u23.2.1), .int 0, .int (nI u23.2.2.1)])), (ma 2, .inl (G.1, 60, .inl (tN t)))] := hD
              refine lv_aload_n hx hb dX8_isWhole_81 rfl (lv_at hl 1 rfl) ?_
              refine lv_dup hx hb dX8_isWhole_82 rfl ?_
              refine va_get (D := D) (ci := 8) (v := .int (nI u23.2.1)) (C := RX8) (T := TX8) (N := 24) hx hb hts inlX8 hown hK hP 0 rfl rfl 21 (by decide) (hts _ kw_10_11) (fun _ h9 => h9) rfl dX8_isWhole_83 ?_
              refine lv_aload_n hx hb dX8_isWhole_86 rfl (lv_at hl 1 rfl) ?_
              refine va_get (D := D) (ci := 8) (v := .int 0) (C := RX8) (T := TX8) (N := 24) hx hb hts inlX8 hown hK hP 0 rfl rfl 22 (by decide) (hts _ kw_10_12) (fun _ h9 => h9) rfl dX8_isWhole_87 ?_
              refine lv_if_eq (tgt := 97) hx hb dX8_isWhole_90 (by decide) (fun _ => ?_) (fun h => absurd (by decide) h)
              refine lv_iconst (v := 1) hx hb dX8_isWhole_97 (by decide) ?_
              refine ro_iadd (z := nI (u23.2.1 + 1)) hx hb (nI_add u23.2.1 1) dX8_isWhole_98 ?_
              refine va_put (D := D) (ci := 8) (v := .int (nI (u23.2.1 + 1))) (ty := .int) (C := RX8) (T := TX8) (N := 24) hx hb hts inlX8 tyX8 tyX8_ok nmX8 hown hK hP hD hS 0 rfl rfl 21 (by decide) (hts _ kw_10_11) (fun _ h9 => h9) rfl (by decide +kernel) rfl rfl (Nat.le_of_ble_eq_true rfl) dX8_isWhole_99 (fun H locs hP hD hS => ?_)
              have hP : va_P D vwCl [(q, .inr (8, [.ref (ma 0), .ref (ma 1), .int (nI sN), .ref (ma 2), .int (nI L), .int th, .ref (ma 3), .ref (ma 4), .ref (ma 5), .ref (ma 6), .int nd, .int ct, .int ht, .ref (ma 7), .ref (ma 8), .ref (ma 9), .ref (ma 10), .ref (ma 11), .ref (ma 12), .ref (ma 13), .ref (ma 14), .int (nI (u23.2.1 + 1)), .int 0, .int (nI u23.2.2.1)])), (ma 2, .inl (G.1, 60, .inl (tN t)))] H := hP
              have hD : va_D A [(q, .inr (8, [.ref (ma 0), .ref (ma 1), .int (nI sN), .ref (ma 2), .int (nI L), .int th, .ref (ma 3), .ref (ma 4), .ref (ma 5), .ref (ma 6), .int nd, .int ct, .int ht, .ref (ma 7), .ref (ma 8), .ref (ma 9), .ref (ma 10), .ref (ma 11), .ref (ma 12), .ref (ma 13), .ref (ma 14), .int (nI (u23.2.1 + 1)), .int 0, .int (nI u23.2.2.1)])), (ma 2, .inl (G.1, 60, .inl (tN t)))] := hD
              refine lv_aload_n hx hb dX8_isWhole_102 rfl (lv_at hl 1 rfl) ?_
              refine va_get (D := D) (ci := 8) (v := .int 0) (C := RX8) (T := TX8) (N := 24) hx hb hts inlX8 hown hK hP 0 rfl rfl 22 (by decide) (hts _ kw_10_12) (fun _ h9 => h9) rfl dX8_isWhole_103 ?_
              refine lv_if_ne (tgt := 113) hx hb dX8_isWhole_106 (by decide) (fun h => absurd (by decide) h) (fun _ => ?_)
              refine lv_iconst (v := 1) hx hb dX8_isWhole_109 (by decide) ?_
              refine lv_goto (tgt := 114) hx hb dX8_isWhole_110 (by decide) ?_
              refine lv_istore_n (lv' := [(2, .int 1), (0, .ref q), (1, .int 0)]) hx hb dX8_isWhole_114 rfl hl (by decide) rfl (fun ls hl => ?_)
              refine lv_goto (tgt := 17) hx hb dX8_isWhole_115 (by decide) ?_
              exact ih17 (u23.2.1 + 1) u23.2.2.1 (upd F9 c (nI u23.2.2.2)) 0 (by omega) (by omega) (by rw [← g1]) (by omega) _ _ _ hP (hD.fst rfl) hS (lv_sub hl [1, 2, 0] rfl)
            · have c_70 := neq_t (a := u23.2.2.1) (b := 12) (by omega) (by omega) c_70
              have hE := rd_many (t := t) (L := L) (j := u23.2.1) (c := u23.2.2.1) (v := u23.2.2.2) (F := upd F9 c (nI u23.2.2.2)) c_41 c_61 (by omega)
              rw [hE] at g1
              refine lv_iconst (v := 1) hx hb dX8_isWhole_73 (by decide) ?_
              refine lv_goto (tgt := 78) hx hb dX8_isWhole_74 (by decide) ?_
              refine va_put (D := D) (ci := 8) (v := .int 1) (ty := .boolean) (C := RX8) (T := TX8) (N := 24) hx hb hts inlX8 tyX8 tyX8_ok nmX8 hown hK hP hD hS 0 rfl rfl 22 (by decide) (hts _ kw_10_12) (fun _ h9 => h9) rfl (by decide +kernel) rfl rfl (Nat.le_of_ble_eq_true rfl) dX8_isWhole_78 (fun H locs hP hD hS => ?_)
              have hP : va_P D vwCl [(q, .inr (8, [.ref (ma 0), .ref (ma 1), .int (nI sN), .ref (ma 2), .int (nI L), .int th, .ref (ma 3), .ref (ma 4), .ref (ma 5), .ref (ma 6), .int nd, .int ct, .int ht, .ref (ma 7), .ref (ma 8), .ref (ma 9), .ref (ma 10), .ref (ma 11), .ref (ma 12), .ref (ma 13), .ref (ma 14), .int (nI u23.2.1), .int 1, .int (nI u23.2.2.1)])), (ma 2, .inl (G.1, 60, .inl (tN t)))] H := hP
              have hD : va_D A [(q, .inr (8, [.ref (ma 0), .ref (ma 1), .int (nI sN), .ref (ma 2), .int (nI L), .int th, .ref (ma 3), .ref (ma 4), .ref (ma 5), .ref (ma 6), .int nd, .int ct, .int ht, .ref (ma 7), .ref (ma 8), .ref (ma 9), .ref (ma 10), .ref (ma 11), .ref (ma 12), .ref (ma 13), .ref (ma 14), .int (nI u23.2.1), .int 1, .int (nI u23.2.2.1)])), (ma 2, .inl (G.1, 60, .inl (tN t)))] := hD
              refine lv_aload_n hx hb dX8_isWhole_81 rfl (lv_at hl 1 rfl) ?_
              refine lv_dup hx hb dX8_isWhole_82 rfl ?_
              refine va_get (D := D) (ci := 8) (v := .int (nI u23.2.1)) (C := RX8) (T := TX8) (N := 24) hx hb hts inlX8 hown hK hP 0 rfl rfl 21 (by decide) (hts _ kw_10_11) (fun _ h9 => h9) rfl dX8_isWhole_83 ?_
              refine lv_aload_n hx hb dX8_isWhole_86 rfl (lv_at hl 1 rfl) ?_
              refine va_get (D := D) (ci := 8) (v := .int 1) (C := RX8) (T := TX8) (N := 24) hx hb hts inlX8 hown hK hP 0 rfl rfl 22 (by decide) (hts _ kw_10_12) (fun _ h9 => h9) rfl dX8_isWhole_87 ?_
              refine lv_if_eq (tgt := 97) hx hb dX8_isWhole_90 (by decide) (fun h => absurd h (by decide)) (fun _ => ?_)
              refine lv_iconst (v := 0) hx hb dX8_isWhole_93 (by decide) ?_
              refine lv_goto (tgt := 98) hx hb dX8_isWhole_94 (by decide) ?_
              refine ro_iadd (z := nI u23.2.1) hx hb (by simp [nI_add]) dX8_isWhole_98 ?_
              refine va_put (D := D) (ci := 8) (v := .int (nI u23.2.1)) (ty := .int) (C := RX8) (T := TX8) (N := 24) hx hb hts inlX8 tyX8 tyX8_ok nmX8 hown hK hP hD hS 0 rfl rfl 21 (by decide) (hts _ kw_10_11) (fun _ h9 => h9) rfl (by decide +kernel) rfl rfl (Nat.le_of_ble_eq_true rfl) dX8_isWhole_99 (fun H locs hP hD hS => ?_)
              have hP : va_P D vwCl [(q, .inr (8, [.ref (ma 0), .ref (ma 1), .int (nI sN), .ref (ma 2), .int (nI L), .int th, .ref (ma 3), .ref (ma 4), .ref (ma 5), .ref (ma 6), .int nd, .int ct, .int ht, .ref (ma 7), .ref (ma 8), .ref (ma 9), .ref (ma 10), .ref (ma 11), .ref (ma 12), .ref (ma 13), .ref (ma 14), .int (nI u23.2.1), .int 1, .int (nI u23.2.2.1)])), (ma 2, .inl (G.1, 60, .inl (tN t)))] H := hP
              have hD : va_D A [(q, .inr (8, [.ref (ma 0), .ref (ma 1), .int (nI sN), .ref (ma 2), .int (nI L), .int th, .ref (ma 3), .ref (ma 4), .ref (ma 5), .ref (ma 6), .int nd, .int ct, .int ht, .ref (ma 7), .ref (ma 8), .ref (ma 9), .ref (ma 10), .ref (ma 11), .ref (ma 12), .ref (ma 13), .ref (ma 14), .int (nI u23.2.1), .int 1, .int (nI u23.2.2.1)])), (ma 2, .inl (G.1, 60, .inl (tN t)))] := hD
              refine lv_aload_n hx hb dX8_isWhole_102 rfl (lv_at hl 1 rfl) ?_
              refine va_get (D := D) (ci := 8) (v := .int 1) (C := RX8) (T := TX8) (N := 24) hx hb hts inlX8 hown hK hP 0 rfl rfl 22 (by decide) (hts _ kw_10_12) (fun _ h9 => h9) rfl dX8_isWhole_103 ?_
              refine lv_if_ne (tgt := 113) hx hb dX8_isWhole_106 (by decide) (fun _ => ?_) (fun h => absurd h (by decide))
              refine lv_iconst (v := 0) hx hb dX8_isWhole_113 (by decide) ?_
              refine lv_istore_n (lv' := [(2, .int 0), (0, .ref q), (1, .int 0)]) hx hb dX8_isWhole_114 rfl hl (by decide) rfl (fun ls hl => ?_)
              refine lv_goto (tgt := 17) hx hb dX8_isWhole_115 (by decide) ?_
              refine lv_iload_n hx hb dX8_isWhole_17 rfl (lv_at hl 0 rfl) ?_
              refine lv_if_eq (tgt := 118) hx hb dX8_isWhole_18 (by decide) (fun _ => ?_) (fun h => absurd (by decide) h)
              refine lv_aload_n hx hb dX8_isWhole_118 rfl (lv_at hl 1 rfl) ?_
              refine va_get (D := D) (ci := 8) (v := .int 1) (C := RX8) (T := TX8) (N := 24) hx hb hts inlX8 hown hK hP 0 rfl rfl 22 (by decide) (hts _ kw_10_12) (fun _ h9 => h9) rfl dX8_isWhole_119 ?_
              refine lv_if_ne (tgt := 129) hx hb dX8_isWhole_122 (by decide) (fun _ => ?_) (fun h => absurd h (by decide))
              refine lv_iconst (v := 0) hx hb dX8_isWhole_129 (by decide) ?_
              exact endI C rfl (1, u23.2.2.1) ⟨(by rw [g1]; exact (bI_f (fun h9 => by have h8 : u23.2.1 = L := h9.1; omega)).symm), (by rw [g1]; exact fun _ => rfl)⟩ hS (by rw [g1]; exact hP) dX8_isWhole_130
  exact lp17 (61 - 0 + 1) 0 0 F 0 (by omega) (by omega) rfl (Nat.lt_succ_self _) _ _ _ hP (hD.fst rfl) hS (lv_sub hl [1, 2, 0] rfl)
set_option maxHeartbeats 800000 in
set_option maxRecDepth 100000 in
theorem mX8_isWhole_k (l : Launch) (D : va_G) (G : u_G) (q : Nat) (ma : Nat → Nat) (sN L : Nat) (th nd ct ht sp iw mn : Int32) (t : Nat → Nat) (F : Nat → Int32) (sr : Nat → Int32)  (hL : L ≤ 60) (htx : ∀ k, k < L → t k < 128) (hv1 : (rdA t L F).1 = L) (hv2 : 0 < (rdA t L F).2.2.1) : MtI l D G yX8_isWhole cX8_isWhole 3 .boolean 3 0 0 [.ref q, .int 1] [(q, .inr (8, [.ref (ma 0), .ref (ma 1), .int (nI sN), .ref (ma 2), .int (nI L), .int th, .ref (ma 3), .ref (ma 4), .ref (ma 5), .ref (ma 6), .int nd, .int ct, .int ht, .ref (ma 7), .ref (ma 8), .ref (ma 9), .ref (ma 10), .ref (ma 11), .ref (ma 12), .ref (ma 13), .ref (ma 14), .int sp, .int iw, .int mn])), (ma 2, .inl (G.1, 60, .inl (tN t))), (ma 0, .inl (G.1, 457, .inl sr))] (fun (r : Int32) (u : Int32 × (Nat → Int32)) => r = 1 ∧ KP u.2 sr (rdA t L F).2.2.2 (rdA t L F).2.1) (fun (u : Int32 × (Nat → Int32)) => [(q, .inr (8, [.ref (ma 0), .ref (ma 1), .int (nI sN), .ref (ma 2), .int (nI L), .int th, .ref (ma 3), .ref (ma 4), .ref (ma 5), .ref (ma 6), .int nd, .int ct, .int ht, .ref (ma 7), .ref (ma 8), .ref (ma 9), .ref (ma 10), .ref (ma 11), .ref (ma 12), .ref (ma 13), .ref (ma 14), .int (nI ((rdA t L F).1)), .int u.1, .int (nI ((rdA t L F).2.1))])), (ma 2, .inl (G.1, 60, .inl (tN t))), (ma 0, .inl (G.1, 457, .inl u.2))]) := by
  refine MtI.of (by decide) (Nat.le_of_ble_eq_true rfl) ?_
  intro pr e s9 m9 below meth c9 A ls C hP hD hl
  obtain ⟨hx, hb, hml, hown, hts, hr, hlocks, hA, hAm⟩ := id C
  have hK := hAm.1
  have hS : va_S A s9.heap s9.heap [] := va_S.rf
  have hl : lv_has ls 3 [(0, .ref q), (1, .int 1)] := hl
  refine lv_aload_n hx hb dX8_isWhole_0 rfl (lv_at hl 0 rfl) ?_
  refine lv_iconst (v := 0) hx hb dX8_isWhole_1 (by decide) ?_
  refine va_put (D := D) (ci := 8) (v := .int 0) (ty := .int) (C := RX8) (T := TX8) (N := 24) hx hb hts inlX8 tyX8 tyX8_ok nmX8 hown hK hP hD hS 0 rfl rfl 21 (by decide) (hts _ kw_10_11) (fun _ h9 => h9) rfl (by decide +kernel) rfl rfl (Nat.le_of_ble_eq_true rfl) dX8_isWhole_2 (fun H locs hP hD hS => ?_)
  have hP : va_P D vwCl [(q, .inr (8, [.ref (ma 0), .ref (ma 1), .int (nI sN), .ref (ma 2), .int (nI L), .int th, .ref (ma 3), .ref (ma 4), .ref (ma 5), .ref (ma 6), .int nd, .int ct, .int ht, .ref (ma 7), .ref (ma 8), .ref (ma 9), .ref (ma 10), .ref (ma 11), .ref (ma 12), .ref (ma 13), .ref (ma 14), .int 0, .int iw, .int mn])), (ma 2, .inl (G.1, 60, .inl (tN t))), (ma 0, .inl (G.1, 457, .inl sr))] H := hP
  have hD : va_D A [(q, .inr (8, [.ref (ma 0), .ref (ma 1), .int (nI sN), .ref (ma 2), .int (nI L), .int th, .ref (ma 3), .ref (ma 4), .ref (ma 5), .ref (ma 6), .int nd, .int ct, .int ht, .ref (ma 7), .ref (ma 8), .ref (ma 9), .ref (ma 10), .ref (ma 11), .ref (ma 12), .ref (ma 13), .ref (ma 14), .int 0, .int iw, .int mn])), (ma 2, .inl (G.1, 60, .inl (tN t))), (ma 0, .inl (G.1, 457, .inl sr))] := hD
  refine lv_aload_n hx hb dX8_isWhole_5 rfl (lv_at hl 0 rfl) ?_
  refine lv_iconst (v := 0) hx hb dX8_isWhole_6 (by decide) ?_
  refine va_put (D := D) (ci := 8) (v := .int 0) (ty := .boolean) (C := RX8) (T := TX8) (N := 24) hx hb hts inlX8 tyX8 tyX8_ok nmX8 hown hK hP hD hS 0 rfl rfl 22 (by decide) (hts _ kw_10_12) (fun _ h9 => h9) rfl (by decide +kernel) rfl rfl (Nat.le_of_ble_eq_true rfl) dX8_isWhole_7 (fun H locs hP hD hS => ?_)
  have hP : va_P D vwCl [(q, .inr (8, [.ref (ma 0), .ref (ma 1), .int (nI sN), .ref (ma 2), .int (nI L), .int th, .ref (ma 3), .ref (ma 4), .ref (ma 5), .ref (ma 6), .int nd, .int ct, .int ht, .ref (ma 7), .ref (ma 8), .ref (ma 9), .ref (ma 10), .ref (ma 11), .ref (ma 12), .ref (ma 13), .ref (ma 14), .int 0, .int 0, .int mn])), (ma 2, .inl (G.1, 60, .inl (tN t))), (ma 0, .inl (G.1, 457, .inl sr))] H := hP
  have hD : va_D A [(q, .inr (8, [.ref (ma 0), .ref (ma 1), .int (nI sN), .ref (ma 2), .int (nI L), .int th, .ref (ma 3), .ref (ma 4), .ref (ma 5), .ref (ma 6), .int nd, .int ct, .int ht, .ref (ma 7), .ref (ma 8), .ref (ma 9), .ref (ma 10), .ref (ma 11), .ref (ma 12), .ref (ma 13), .ref (ma 14), .int 0, .int 0, .int mn])), (ma 2, .inl (G.1, 60, .inl (tN t))), (ma 0, .inl (G.1, 457, .inl sr))] := hD
  refine lv_aload_n hx hb dX8_isWhole_10 rfl (lv_at hl 0 rfl) ?_
  refine lv_iconst (v := 0) hx hb dX8_isWhole_11 (by decide) ?_
  refine va_put (D := D) (ci := 8) (v := .int 0) (ty := .int) (C := RX8) (T := TX8) (N := 24) hx hb hts inlX8 tyX8 tyX8_ok nmX8 hown hK hP hD hS 0 rfl rfl 23 (by decide) (hts _ kw_10_5) (fun _ h9 => h9) rfl (by decide +kernel) rfl rfl (Nat.le_of_ble_eq_true rfl) dX8_isWhole_12 (fun H locs hP hD hS => ?_)
  have hP : va_P D vwCl [(q, .inr (8, [.ref (ma 0), .ref (ma 1), .int (nI sN), .ref (ma 2), .int (nI L), .int th, .ref (ma 3), .ref (ma 4), .ref (ma 5), .ref (ma 6), .int nd, .int ct, .int ht, .ref (ma 7), .ref (ma 8), .ref (ma 9), .ref (ma 10), .ref (ma 11), .ref (ma 12), .ref (ma 13), .ref (ma 14), .int 0, .int 0, .int 0])), (ma 2, .inl (G.1, 60, .inl (tN t))), (ma 0, .inl (G.1, 457, .inl sr))] H := hP
  have hD : va_D A [(q, .inr (8, [.ref (ma 0), .ref (ma 1), .int (nI sN), .ref (ma 2), .int (nI L), .int th, .ref (ma 3), .ref (ma 4), .ref (ma 5), .ref (ma 6), .int nd, .int ct, .int ht, .ref (ma 7), .ref (ma 8), .ref (ma 9), .ref (ma 10), .ref (ma 11), .ref (ma 12), .ref (ma 13), .ref (ma 14), .int 0, .int 0, .int 0])), (ma 2, .inl (G.1, 60, .inl (tN t))), (ma 0, .inl (G.1, 457, .inl sr))] := hD
  refine lv_iconst (v := 1) hx hb dX8_isWhole_15 (by decide) ?_
  refine lv_istore_n (lv' := [(2, .int 1), (0, .ref q), (1, .int 1)]) hx hb dX8_isWhole_16 rfl hl (by decide) rfl (fun ls hl => ?_)
  have lp17 : ∀ (n17 : Nat) (i : Nat) (c : Nat) (F9 : Nat → Int32) (w : Int32) (s1 : Nat → Int32) (hi : i ≤ L) (hc : c ≤ 11) (hR : rd t (L - i) i (c + 1, 0, F9) = rdA t L F) (hKP : KP s1 sr F9 c) (_ : 61 - i < n17) (H : Heap) (locs : List Loc) (ls : Array Slot), va_P D vwCl [(q, .inr (8, [.ref (ma 0), .ref (ma 1), .int (nI sN), .ref (ma 2), .int (nI L), .int th, .ref (ma 3), .ref (ma 4), .ref (ma 5), .ref (ma 6), .int nd, .int ct, .int ht, .ref (ma 7), .ref (ma 8), .ref (ma 9), .ref (ma 10), .ref (ma 11), .ref (ma 12), .ref (ma 13), .ref (ma 14), .int (nI i), .int 0, .int (nI c)])), (ma 2, .inl (G.1, 60, .inl (tN t))), (ma 0, .inl (G.1, 457, .inl s1))] H → va_D A [(q, .inr (8, [.ref (ma 0), .ref (ma 1), .int (nI sN), .ref (ma 2), .int (nI L), .int th, .ref (ma 3), .ref (ma 4), .ref (ma 5), .ref (ma 6), .int nd, .int ct, .int ht, .ref (ma 7), .ref (ma 8), .ref (ma 9), .ref (ma 10), .ref (ma 11), .ref (ma 12), .ref (ma 13), .ref (ma 14), .int (nI i), .int 0, .int (nI c)])), (ma 2, .inl (G.1, 60, .inl (tN t))), (ma 0, .inl (G.1, 457, .inl s1))] → va_S A s9.heap H locs → lv_has ls 3 [(0, .ref q), (1, .int 1), (2, .int 1)] → W pr l e (rmG 3 0 0) s9 m9 (List.toArray [.ref q, .int 1]) below meth c9 H locs 0 0 (MQ below (va_Qi (fun (r : Int32) (u : Int32 × (Nat → Int32)) => r = 1 ∧ KP u.2 sr (rdA t L F).2.2.2 (rdA t L F).2.1) (fun u9 t9 => WB D ((fun (u : Int32 × (Nat → Int32)) => [(q, .inr (8, [.ref (ma 0), .ref (ma 1), .int (nI sN), .ref (ma 2), .int (nI L), .int th, .ref (ma 3), .ref (ma 4), .ref (ma 5), .ref (ma 6), .int nd, .int ct, .int ht, .ref (ma 7), .ref (ma 8), .ref (ma 9), .ref (ma 10), .ref (ma 11), .ref (ma 12), .ref (ma 13), .ref (ma 14), .int (nI ((rdA t L F).1)), .int u.1, .int (nI ((rdA t L F).2.1))])), (ma 2, .inl (G.1, 60, .inl (tN t))), (ma 0, .inl (G.1, 457, .inl u.2))]) u9) t9) A) (List.toArray [.ref q, .int 1]) s9 0 0 A) (F0 m9 17 ls []) := by
    intro n17
    induction n17 with
    | zero => intro i c F9 w s1 hi hc hR hKP hm; exact absurd hm (Nat.not_lt_zero _)
    | succ n17 ih17 =>
      intro i c F9 w s1 hi hc hR hKP hm H locs ls hP hD hS hl
      refine lv_iload_n hx hb dX8_isWhole_17 rfl (lv_at hl 2 rfl) ?_
      refine lv_if_eq (tgt := 118) hx hb dX8_isWhole_18 (by decide) (fun h => absurd h (by decide)) (fun _ => ?_)
      refine lv_aload_n hx hb dX8_isWhole_21 rfl (lv_at hl 0 rfl) ?_
      refine lv_iload_n hx hb dX8_isWhole_22 rfl (lv_at hl 1 rfl) ?_
      refine aftV C (runV_G (As := [.int 1]) (rest := []) (ci := 8) (N := 24) (T := TX8) (q0 := 0) C (mX8_number_k l D G q ma sN L th nd ct ht sp iw mn t i c s1 hL htx (by omega) (by omega)) hS hP hD [0, 1, 2] rfl (by decide) rfl rfl (ys_X8_number) kw_10_13 kw_10_14 kw_10_15 ⟨Nat.le_of_ble_eq_true rfl, Nat.le_of_ble_eq_true rfl⟩ hl.1 (Nat.le_of_ble_eq_true rfl) dX8_isWhole_23 rfl rfl ⟨Nat.zero_le _, Nat.zero_le _⟩) hS hP hD [0, 1, 2] rfl (fun _ => rfl) (fun u23 H locs hp23 hP hD hS => ?_)
      have hP : va_P D vwCl [(q, .inr (8, [.ref (ma 0), .ref (ma 1), .int (nI sN), .ref (ma 2), .int (nI L), .int th, .ref (ma 3), .ref (ma 4), .ref (ma 5), .ref (ma 6), .int nd, .int ct, .int ht, .ref (ma 7), .ref (ma 8), .ref (ma 9), .ref (ma 10), .ref (ma 11), .ref (ma 12), .ref (ma 13), .ref (ma 14), .int (nI u23.2.1), .int (bI (u23.1 = true)), .int (nI u23.2.2.1)])), (ma 2, .inl (G.1, 60, .inl (tN t))), (ma 0, .inl (G.1, 457, .inl (nmS u23 s1 c)))] H := hP
      have hD : va_D A [(q, .inr (8, [.ref (ma 0), .ref (ma 1), .int (nI sN), .ref (ma 2), .int (nI L), .int th, .ref (ma 3), .ref (ma 4), .ref (ma 5), .ref (ma 6), .int nd, .int ct, .int ht, .ref (ma 7), .ref (ma 8), .ref (ma 9), .ref (ma 10), .ref (ma 11), .ref (ma 12), .ref (ma 13), .ref (ma 14), .int (nI u23.2.1), .int (bI (u23.1 = true)), .int (nI u23.2.2.1)])), (ma 2, .inl (G.1, 60, .inl (tN t))), (ma 0, .inl (G.1, 457, .inl (nmS u23 s1 c)))] := hD
      refine lv_aload_n hx hb dX8_isWhole_26 rfl (lv_at hl 0 rfl) ?_
      refine va_get (D := D) (ci := 8) (v := .int (bI (u23.1 = true))) (C := RX8) (T := TX8) (N := 24) hx hb hts inlX8 hown hK hP 0 rfl rfl 22 (by decide) (hts _ kw_10_12) (fun _ h9 => h9) rfl dX8_isWhole_27 ?_
      refine lv_if_ne (tgt := 48) hx hb dX8_isWhole_30 (by decide) (fun c_30 => ?_) (fun c_30 => ?_)
      · have c_30 := bI_1 c_30
        exact absurd hv2 (by rw [← hR, (nm_bad' F9 hi hp23 c_30).1]; exact Nat.lt_irrefl 0)
      · have c_30 : ¬ (u23.1 = true) := bI_0 c_30
        obtain ⟨g1, g2, g3, g4, g5, g6, g7⟩ := nm_good' F9 hp23 c_30
        rw [hR, g6.symm] at g1
        have hKP2 := KP_nm hc hKP c_30
        refine lv_aload_n hx hb dX8_isWhole_33 rfl (lv_at hl 0 rfl) ?_
        refine va_get (D := D) (ci := 8) (v := .int (nI u23.2.1)) (C := RX8) (T := TX8) (N := 24) hx hb hts inlX8 hown hK hP 0 rfl rfl 21 (by decide) (hts _ kw_10_11) (fun _ h9 => h9) rfl dX8_isWhole_34 ?_
        refine lv_aload_n hx hb dX8_isWhole_37 rfl (lv_at hl 0 rfl) ?_
        refine va_get (D := D) (ci := 8) (v := .int (nI L)) (C := RX8) (T := TX8) (N := 24) hx hb hts inlX8 hown hK hP 0 rfl rfl 4 (by decide) (hts _ kw_10_6) (fun _ h9 => h9) rfl dX8_isWhole_38 ?_
        refine lv_icmp_ge (tgt := 48) hx hb dX8_isWhole_41 (by decide) (fun c_41 => ?_) (fun c_41 => ?_)
        · have c_41 := nle_t (a := L) (b := u23.2.1) (by omega) (by omega) c_41
          have hE := rd_end (t := t) (L := L) (j := u23.2.1) (c := u23.2.2.1) (v := u23.2.2.2) (F := upd F9 c (nI u23.2.2.2)) c_41
          rw [← g1] at hE
          refine lv_iconst (v := 0) hx hb dX8_isWhole_48 (by decide) ?_
          refine lv_istore_n (lv' := [(2, .int 0), (0, .ref q), (1, .int 1)]) hx hb dX8_isWhole_49 rfl hl (by decide) rfl (fun ls hl => ?_)
          refine lv_iload_n hx hb dX8_isWhole_50 rfl (lv_at hl 0 rfl) ?_
          refine lv_if_eq (tgt := 17) hx hb dX8_isWhole_51 (by decide) (fun _ => ?_) (fun h => absurd (by decide) h)
          refine lv_iload_n hx hb dX8_isWhole_17 rfl (lv_at hl 0 rfl) ?_
          refine lv_if_eq (tgt := 118) hx hb dX8_isWhole_18 (by decide) (fun _ => ?_) (fun h => absurd (by decide) h)
          refine lv_aload_n hx hb dX8_isWhole_118 rfl (lv_at hl 1 rfl) ?_
          refine va_get (D := D) (ci := 8) (v := .int (bI (u23.1 = true))) (C := RX8) (T := TX8) (N := 24) hx hb hts inlX8 hown hK hP 0 rfl rfl 22 (by decide) (hts _ kw_10_12) (fun _ h9 => h9) rfl dX8_isWhole_119 ?_
          refine lv_if_ne (tgt := 129) hx hb dX8_isWhole_122 (by decide) (fun c_122 => ?_) (fun c_122 => ?_)
          · have c_122 := bI_1 c_122
            exact absurd c_122 c_30
          · have c_122 : ¬ (u23.1 = true) := bI_0 c_122
            refine lv_iconst (v := 1) hx hb dX8_isWhole_125 (by decide) ?_
            refine lv_goto (tgt := 130) hx hb dX8_isWhole_126 (by decide) ?_
            exact endI C rfl (bI (u23.1 = true), nmS u23 s1 c) ⟨rfl, (by rw [hE]; dsimp only; rw [g6]; exact hKP2)⟩ hS (by rw [hE]; exact hP) dX8_isWhole_130
        · have c_41 := nle_f (a := L) (b := u23.2.1) (by omega) (by omega) c_41
          have hx7 : nx t L u23.2.1 < 128 := nx_lt htx
          refine lv_iconst (v := 1) hx hb dX8_isWhole_44 (by decide) ?_
          refine lv_goto (tgt := 49) hx hb dX8_isWhole_45 (by decide) ?_
          refine lv_istore_n (lv' := [(2, .int 1), (0, .ref q), (1, .int 1)]) hx hb dX8_isWhole_49 rfl hl (by decide) rfl (fun ls hl => ?_)
          refine lv_iload_n hx hb dX8_isWhole_50 rfl (lv_at hl 0 rfl) ?_
          refine lv_if_eq (tgt := 17) hx hb dX8_isWhole_51 (by decide) (fun h => absurd h (by decide)) (fun _ => ?_)
          refine lv_aload_n hx hb dX8_isWhole_54 rfl (lv_at hl 1 rfl) ?_
          refine lv_aload_n hx hb dX8_isWhole_55 rfl (lv_at hl 1 rfl) ?_
          refine aftI0 C (runV_G (As := []) (rest := [.ref q]) (ci := 8) (N := 24) (T := TX8) (q0 := 0) C (mX8_next l D G q ma sN L th nd ct ht sp (bI (u23.1 = true)) (nI u23.2.2.1) t u23.2.1 hL (by omega)) hS hP hD [0, 1] rfl (by decide) rfl rfl (ys_X8_next) kw_10_17 kw_10_18 kw_10_19 ⟨Nat.le_of_ble_eq_true rfl, Nat.le_of_ble_eq_true rfl⟩ hl.1 (Nat.le_of_ble_eq_true rfl) dX8_isWhole_56 rfl rfl ⟨Nat.zero_le _, Nat.zero_le _⟩) hS hP hD [0, 1] rfl (fun r56 _ H locs hp56 hP hS => ?_)
          refine ro_top (z := nI (nx t L u23.2.1)) hx hp56 ?_
          refine lv_bipush (v := 44) hx hb dX8_isWhole_59 (by decide) ?_
          refine lv_icmp_ne (tgt := 73) hx hb dX8_isWhole_61 (by decide) (fun c_61 => ?_) (fun c_61 => ?_)
          · have c_61 := neq_f (a := nx t L u23.2.1) (b := 44) (by omega) (by omega) c_61
            exact absurd hv1 (by have hE := rd_no (t := t) (L := L) (j := u23.2.1) (c := c) (v := u23.2.2.2) (F := upd F9 c (nI u23.2.2.2)) c_41 c_61 (fun a b => g7 a b); rw [g6] at g1; rw [hE] at g1; rw [g1]; show ¬ u23.2.1 = L; omega)
          · have c_61 := neq_t (a := nx t L u23.2.1) (b := 44) (by omega) (by omega) c_61
            refine lv_aload_n hx hb dX8_isWhole_64 rfl (lv_at hl 1 rfl) ?_
            refine va_get (D := D) (ci := 8) (v := .int (nI u23.2.2.1)) (C := RX8) (T := TX8) (N := 24) hx hb hts inlX8 hown hK hP 0 rfl rfl 23 (by decide) (hts _ kw_10_5) (fun _ h9 => h9) rfl dX8_isWhole_65 ?_
            refine lv_bipush (v := 12) hx hb dX8_isWhole_68 (by decide) ?_
            refine lv_icmp_ne (tgt := 77) hx hb dX8_isWhole_70 (by decide) (fun c_70 => ?_) (fun c_70 => ?_)
            · have c_70 := neq_f (a := u23.2.2.1) (b := 12) (by omega) (by omega) c_70
              have hE := rd_comma (t := t) (L := L) (j := u23.2.1) (c := u23.2.2.1) (v := u23.2.2.2) (F := upd F9 c (nI u23.2.2.2)) c_41 c_61 g4 (by omega)
              rw [hE] at g1
              refine lv_iconst (v := 0) hx hb dX8_isWhole_77 (by decide) ?_
              refine va_put (D := D) (ci := 8) (v := .int 0) (ty := .boolean) (C := RX8) (T := TX8) (N := 24) hx hb hts inlX8 tyX8 tyX8_ok nmX8 hown hK hP hD hS 0 rfl rfl 22 (by decide) (hts _ kw_10_12) (fun _ h9 => h9) rfl (by decide +kernel) rfl rfl (Nat.le_of_ble_eq_true rfl) dX8_isWhole_78 (fun H locs hP hD hS => ?_)
              have hP : va_P D vwCl [(q, .inr (8, [.ref (ma 0), .ref (ma 1), .int (nI sN), .ref (ma 2), .int (nI L), .int th, .ref (ma 3), .ref (ma 4), .ref (ma 5), .ref (ma 6), .int nd, .int ct, .int ht, .ref (ma 7), .ref (ma 8), .ref (ma 9), .ref (ma 10), .ref (ma 11), .ref (ma 12), .ref (ma 13), .ref (ma 14), .int (nI u23.2.1), .int 0, .int (nI u23.2.2.1)])), (ma 2, .inl (G.1, 60, .inl (tN t))), (ma 0, .inl (G.1, 457, .inl (nmS u23 s1 c)))] H := hP
              have hD : va_D A [(q, .inr (8, [.ref (ma 0), .ref (ma 1), .int (nI sN), .ref (ma 2), .int (nI L), .int th, .ref (ma 3), .ref (ma 4), .ref (ma 5), .ref (ma 6), .int nd, .int ct, .int ht, .ref (ma 7), .ref (ma 8), .ref (ma 9), .ref (ma 10), .ref (ma 11), .ref (ma 12), .ref (ma 13), .ref (ma 14), .int (nI u23.2.1), .int 0, .int (nI u23.2.2.1)])), (ma 2, .inl (G.1, 60, .inl (tN t))), (ma 0, .inl (G.1, 457, .inl (nmS u23 s1 c)))] := hD
              refine lv_aload_n hx hb dX8_isWhole_81 rfl (lv_at hl 1 rfl) ?_
              refine lv_dup hx hb dX8_isWhole_82 rfl ?_
              refine va_get (D := D) (ci := 8) (v := .int (nI u23.2.1)) (C := RX8) (T := TX8) (N := 24) hx hb hts inlX8 hown hK hP 0 rfl rfl 21 (by decide) (hts _ kw_10_11) (fun _ h9 => h9) rfl dX8_isWhole_83 ?_
              refine lv_aload_n hx hb dX8_isWhole_86 rfl (lv_at hl 1 rfl) ?_
              refine va_get (D := D) (ci := 8) (v := .int 0) (C := RX8) (T := TX8) (N := 24) hx hb hts inlX8 hown hK hP 0 rfl rfl 22 (by decide) (hts _ kw_10_12) (fun _ h9 => h9) rfl dX8_isWhole_87 ?_
              refine lv_if_eq (tgt := 97) hx hb dX8_isWhole_90 (by decide) (fun _ => ?_) (fun h => absurd (by decide) h)
              refine lv_iconst (v := 1) hx hb dX8_isWhole_97 (by decide) ?_
              refine ro_iadd (z := nI (u23.2.1 + 1)) hx hb (nI_add u23.2.1 1) dX8_isWhole_98 ?_
              refine va_put (D := D) (ci := 8) (v := .int (nI (u23.2.1 + 1))) (ty := .int) (C := RX8) (T := TX8) (N := 24) hx hb hts inlX8 tyX8 tyX8_ok nmX8 hown hK hP hD hS 0 rfl rfl 21 (by decide) (hts _ kw_10_11) (fun _ h9 => h9) rfl (by decide +kernel) rfl rfl (Nat.le_of_ble_eq_true rfl) dX8_isWhole_99 (fun H locs hP hD hS => ?_)
              have hP : va_P D vwCl [(q, .inr (8, [.ref (ma 0), .ref (ma 1), .int (nI sN), .ref (ma 2), .int (nI L), .int th, .ref (ma 3), .ref (ma 4), .ref (ma 5), .ref (ma 6), .int nd, .int ct, .int ht, .ref (ma 7), .ref (ma 8), .ref (ma 9), .ref (ma 10), .ref (ma 11), .ref (ma 12), .ref (ma 13), .ref (ma 14), .int (nI (u23.2.1 + 1)), .int 0, .int (nI u23.2.2.1)])), (ma 2, .inl (G.1, 60, .inl (tN t))), (ma 0, .inl (G.1, 457, .inl (nmS u23 s1 c)))] H := hP
              have hD : va_D A [(q, .inr (8, [.ref (ma 0), .ref (ma 1), .int (nI sN), .ref (ma 2), .int (nI L), .int th, .ref (ma 3), .ref (ma 4), .ref (ma 5), .ref (ma 6), .int nd, .int ct, .int ht, .ref (ma 7), .ref (ma 8), .ref (ma 9), .ref (ma 10), .ref (ma 11), .ref (ma 12), .ref (ma 13), .ref (ma 14), .int (nI (u23.2.1 + 1)), .int 0, .int (nI u23.2.2.1)])), (ma 2, .inl (G.1, 60, .inl (tN t))), (ma 0, .inl (G.1, 457, .inl (nmS u23 s1 c)))] := hD
              refine lv_aload_n hx hb dX8_isWhole_102 rfl (lv_at hl 1 rfl) ?_
              refine va_get (D := D) (ci := 8) (v := .int 0) (C := RX8) (T := TX8) (N := 24) hx hb hts inlX8 hown hK hP 0 rfl rfl 22 (by decide) (hts _ kw_10_12) (fun _ h9 => h9) rfl dX8_isWhole_103 ?_
              refine lv_if_ne (tgt := 113) hx hb dX8_isWhole_106 (by decide) (fun h => absurd (by decide) h) (fun _ => ?_)
              refine lv_iconst (v := 1) hx hb dX8_isWhole_109 (by decide) ?_
              refine lv_goto (tgt := 114) hx hb dX8_isWhole_110 (by decide) ?_
              refine lv_istore_n (lv' := [(2, .int 1), (0, .ref q), (1, .int 1)]) hx hb dX8_isWhole_114 rfl hl (by decide) rfl (fun ls hl => ?_)
              refine lv_goto (tgt := 17) hx hb dX8_isWhole_115 (by decide) ?_
              exact ih17 (u23.2.1 + 1) u23.2.2.1 (upd F9 c (nI u23.2.2.2)) 0 (nmS u23 s1 c) (by omega) (by omega) (by rw [← g1]) (by rw [g6]; exact hKP2) (by omega) _ _ _ hP (hD.fst rfl) hS (lv_sub hl [1, 2, 0] rfl)
            · have c_70 := neq_t (a := u23.2.2.1) (b := 12) (by omega) (by omega) c_70
              exact absurd hv1 (by have hE := rd_many (t := t) (L := L) (j := u23.2.1) (c := u23.2.2.1) (v := u23.2.2.2) (F := upd F9 c (nI u23.2.2.2)) c_41 c_61 (by omega); rw [hE] at g1; rw [g1]; show ¬ u23.2.1 = L; omega)
  exact lp17 (61 - 0 + 1) 0 0 F 0 sr (by omega) (by omega) rfl ⟨fun k h9 => absurd h9 (Nat.not_lt_zero k), fun k _ => rfl⟩ (Nat.lt_succ_self _) _ _ _ hP (hD.fst rfl) hS (lv_sub hl [1, 2, 0] rfl)
