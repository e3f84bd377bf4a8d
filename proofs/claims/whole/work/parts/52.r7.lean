set_option maxHeartbeats 800000 in
set_option maxRecDepth 100000 in
theorem mX8_marginNow (l : Launch) (D : va_G) (G : u_G) (q : Nat) (ma : Nat → Nat) (sN L : Nat) (th nd ct ht sp iw mn : Int32) (sr p : Nat → Int32) (x : Nat → Nat) (y : Nat → Int32) (M : Nat) (fl : Nat → Int32)  (hR : RowR sr x y M p) (hM : M ≤ 12) (hfn : x 13 + x 14 ≤ M) (hPR : PR p) (hFL : FLA p fl M) : MtI l D G yX8_marginNow cX8_marginNow 5 .int 5 0 0 [.ref q] [(q, .inr (8, [.ref (ma 0), .ref (ma 1), .int (nI sN), .ref (ma 2), .int (nI L), .int th, .ref (ma 3), .ref (ma 4), .ref (ma 5), .ref (ma 6), .int nd, .int ct, .int ht, .ref (ma 7), .ref (ma 8), .ref (ma 9), .ref (ma 10), .ref (ma 11), .ref (ma 12), .ref (ma 13), .ref (ma 14), .int sp, .int iw, .int mn])), (ma 0, .inl (G.1, 457, .inl sr)), (ma 3, .inl (G.1, 169, .inl fl))] (fun (r : Int32) (_ : Unit) => r = mgA p (x 13) (x 14)) (fun (_ : Unit) => [(q, .inr (8, [.ref (ma 0), .ref (ma 1), .int (nI sN), .ref (ma 2), .int (nI L), .int th, .ref (ma 3), .ref (ma 4), .ref (ma 5), .ref (ma 6), .int nd, .int ct, .int ht, .ref (ma 7), .ref (ma 8), .ref (ma 9), .ref (ma 10), .ref (ma 11), .ref (ma 12), .ref (ma 13), .ref (ma 14), .int sp, .int iw, .int mn])), (ma 0, .inl (G.1, 457, .inl sr)), (ma 3, .inl (G.1, 169, .inl fl))]) := by
  refine MtI.of (by decide) (Nat.le_of_ble_eq_true rfl) ?_
  intro pr e s9 m9 below meth c9 A ls C hP hD hl
  obtain ⟨hx, hb, hml, hown, hts, hr, hlocks, hA, hAm⟩ := id C
  have hK := hAm.1
  have hS : va_S A s9.heap s9.heap [] := va_S.rf
  have hl : lv_has ls 5 [(0, .ref q)] := hl
  refine lv_aload_n hx hb dX8_marginNow_0 rfl (lv_at hl 0 rfl) ?_
  refine lv_aload_n hx hb dX8_marginNow_1 rfl (lv_at hl 0 rfl) ?_
  refine va_get (D := D) (ci := 8) (v := .ref (ma 0)) (C := RX8) (T := TX8) (N := 24) hx hb hts inlX8 hown hK hP 0 rfl rfl 0 (by decide) (hts _ kw_5_6) (fun _ h9 => h9) rfl dX8_marginNow_2 ?_
  refine lv_bipush (v := 13) hx hb dX8_marginNow_5 (by decide) ?_
  refine ro_iald (k := 13) (v := nI (x 13)) hx hb hK hP 1 0 rfl rfl rfl (by decide) (by decide) hR.n13 dX8_marginNow_7 ?_
  refine lv_aload_n hx hb dX8_marginNow_8 rfl (lv_at hl 0 rfl) ?_
  refine va_get (D := D) (ci := 8) (v := .ref (ma 0)) (C := RX8) (T := TX8) (N := 24) hx hb hts inlX8 hown hK hP 0 rfl rfl 0 (by decide) (hts _ kw_5_6) (fun _ h9 => h9) rfl dX8_marginNow_9 ?_
  refine lv_bipush (v := 14) hx hb dX8_marginNow_12 (by decide) ?_
  refine ro_iald (k := 14) (v := nI (x 14)) hx hb hK hP 1 0 rfl rfl rfl (by decide) (by decide) hR.n14 dX8_marginNow_14 ?_
  refine aftI0 C (runV_G (As := [.int (nI (x 13)), .int (nI (x 14))]) (rest := []) (ci := 8) (N := 24) (T := TX8) (q0 := 0) C (mX8_bestIn l D G q ma sN L th nd ct ht sp iw mn sr p M fl (x 13) (x 14) (by omega) hM hR.pp hPR (fun n' g _ h9 => hFL n' g h9)) hS hP hD [0, 1, 2] rfl (by decide) rfl rfl (ys_X8_bestIn) kw_14_6 kw_14_7 kw_14_8 ⟨Nat.le_of_ble_eq_true rfl, Nat.le_of_ble_eq_true rfl⟩ hl.1 (Nat.le_of_ble_eq_true rfl) dX8_marginNow_15 rfl rfl ⟨Nat.zero_le _, Nat.zero_le _⟩) hS hP hD [0, 1, 2] rfl (fun r15 _ H locs hp15 hP hS => ?_)
  refine ro_top (z := (bm (rV p (V p) (x 13) (x 14)) 4).1) hx hp15 ?_
  refine lv_istore_n (lv' := [(1, .int ((bm (rV p (V p) (x 13) (x 14)) 4).1)), (0, .ref q)]) hx hb dX8_marginNow_18 rfl hl (by decide) rfl (fun ls hl => ?_)
  refine lv_sipush (v := (-999)) hx hb dX8_marginNow_19 (by decide) ?_
  refine lv_istore_n (lv' := [(2, .int (-999)), (1, .int ((bm (rV p (V p) (x 13) (x 14)) 4).1)), (0, .ref q)]) hx hb dX8_marginNow_22 rfl hl (by decide) rfl (fun ls hl => ?_)
  refine lv_iconst (v := 0) hx hb dX8_marginNow_23 (by decide) ?_
  refine lv_istore_n (lv' := [(3, .int 0), (2, .int (-999)), (1, .int ((bm (rV p (V p) (x 13) (x 14)) 4).1)), (0, .ref q)]) hx hb dX8_marginNow_24 rfl hl (by decide) rfl (fun ls hl => ?_)
  have lp25 : ∀ (n25 : Nat) (i : Nat) (hi : i ≤ 4) (_ : 4 - i < n25) (H : Heap) (locs : List Loc) (ls : Array Slot), va_P D vwCl [(q, .inr (8, [.ref (ma 0), .ref (ma 1), .int (nI sN), .ref (ma 2), .int (nI L), .int th, .ref (ma 3), .ref (ma 4), .ref (ma 5), .ref (ma 6), .int nd, .int ct, .int ht, .ref (ma 7), .ref (ma 8), .ref (ma 9), .ref (ma 10), .ref (ma 11), .ref (ma 12), .ref (ma 13), .ref (ma 14), .int sp, .int iw, .int mn])), (ma 0, .inl (G.1, 457, .inl sr)), (ma 3, .inl (G.1, 169, .inl fl))] H → va_D A [(q, .inr (8, [.ref (ma 0), .ref (ma 1), .int (nI sN), .ref (ma 2), .int (nI L), .int th, .ref (ma 3), .ref (ma 4), .ref (ma 5), .ref (ma 6), .int nd, .int ct, .int ht, .ref (ma 7), .ref (ma 8), .ref (ma 9), .ref (ma 10), .ref (ma 11), .ref (ma 12), .ref (ma 13), .ref (ma 14), .int sp, .int iw, .int mn])), (ma 0, .inl (G.1, 457, .inl sr)), (ma 3, .inl (G.1, 169, .inl fl))] → va_S A s9.heap H locs → lv_has ls 5 [(0, .ref q), (1, .int ((bm (rV p (V p) (x 13) (x 14)) 4).1)), (2, .int (mgn (rV p (V p) (x 13) (x 14)) (x 14) (bm (rV p (V p) (x 13) (x 14)) 4).1 i)), (3, .int (nI i))] → W pr l e (rmG 5 0 0) s9 m9 (List.toArray [.ref q]) below meth c9 H locs 0 0 (MQ below (va_Qi (fun (r : Int32) (_ : Unit) => r = mgA p (x 13) (x 14)) (fun u9 t9 => WB D ((fun (_ : Unit) => [(q, .inr (8, [.ref (ma 0), .ref (ma 1), .int (nI sN), .ref (ma 2), .int (nI L), .int th, .ref (ma 3), .ref (ma 4), .ref (ma 5), .ref (ma 6), .int nd, .int ct, .int ht, .ref (ma 7), .ref (ma 8), .ref (ma 9), .ref (ma 10), .ref (ma 11), .ref (ma 12), .ref (ma 13), .ref (ma 14), .int sp, .int iw, .int mn])), (ma 0, .inl (G.1, 457, .inl sr)), (ma 3, .inl (G.1, 169, .inl fl))]) u9) t9) A) (List.toArray [.ref q]) s9 0 0 A) (F0 m9 25 ls []) := by
    intro n25
    induction n25 with
    | zero => intro i hi hm; exact absurd hm (Nat.not_lt_zero _)
    | succ n25 ih25 =>
      intro i hi hm H locs ls hP hD hS hl
      have tki := tk_le i
      refine lv_iload_n hx hb dX8_marginNow_25 rfl (lv_at hl 3 rfl) ?_
      refine lv_iconst (v := 4) hx hb dX8_marginNow_26 (by decide) ?_
      refine lv_icmp_ge (tgt := 95) hx hb dX8_marginNow_27 (by decide) (fun c_27 => ?_) (fun c_27 => ?_)
      · have c_27 := nle_t (a := 4) (b := i) (by omega) (by omega) c_27
        refine lv_iload_n hx hb dX8_marginNow_95 rfl (lv_at hl 2 rfl) ?_
        refine lv_sipush (v := (-999)) hx hb dX8_marginNow_96 (by decide) ?_
        refine lv_icmp_ne (tgt := 108) hx hb dX8_marginNow_99 (by decide) (fun c_99 => ?_) (fun c_99 => ?_)
        · have h4 : i = 4 := by omega
          have e4 : mgn (rV p (V p) (x 13) (x 14)) (x 14) (bm (rV p (V p) (x 13) (x 14)) 4).1 i = mgn (rV p (V p) (x 13) (x 14)) (x 14) (bm (rV p (V p) (x 13) (x 14)) 4).1 4 := by rw [h4]
          have eA : mgA p (x 13) (x 14) = V p (x 14) (x 13) - mgn (rV p (V p) (x 13) (x 14)) (x 14) (bm (rV p (V p) (x 13) (x 14)) 4).1 i := by rw [e4]; exact mgA_is (fun h9 => c_99 (e4.trans h9))
          have h14 : 1 ≤ x 14 := by
            rcases Nat.eq_zero_or_pos (x 14) with z | z
            · refine absurd (e4.trans ?_) c_99
              rw [z]
              exact mgn_n0 4
            · exact z
          obtain ⟨b1, b2, b3, b4⟩ := bN_spec hPR (f := x 13) (n := x 14) h14 (by omega)
          have b5 : (bm (rV p (V p) (x 13) (x 14)) 4).1 = nI (bN p (x 13) (x 14)) := by rw [b3]
          obtain ⟨mv, hmv⟩ : ∃ z, z = bN p (x 13) (x 14) := ⟨_, rfl⟩
          rw [← hmv] at b1 b2 b4 b5
          refine lv_aload_n hx hb dX8_marginNow_108 rfl (lv_at hl 0 rfl) ?_
          refine lv_aload_n hx hb dX8_marginNow_109 rfl (lv_at hl 0 rfl) ?_
          refine va_get (D := D) (ci := 8) (v := .ref (ma 0)) (C := RX8) (T := TX8) (N := 24) hx hb hts inlX8 hown hK hP 0 rfl rfl 0 (by decide) (hts _ kw_5_6) (fun _ h9 => h9) rfl dX8_marginNow_110 ?_
          refine lv_bipush (v := 13) hx hb dX8_marginNow_113 (by decide) ?_
          refine ro_iald (k := 13) (v := nI (x 13)) hx hb hK hP 1 0 rfl rfl rfl (by decide) (by decide) hR.n13 dX8_marginNow_115 ?_
          refine lv_aload_n hx hb dX8_marginNow_116 rfl (lv_at hl 0 rfl) ?_
          refine va_get (D := D) (ci := 8) (v := .ref (ma 0)) (C := RX8) (T := TX8) (N := 24) hx hb hts inlX8 hown hK hP 0 rfl rfl 0 (by decide) (hts _ kw_5_6) (fun _ h9 => h9) rfl dX8_marginNow_117 ?_
          refine lv_bipush (v := 14) hx hb dX8_marginNow_120 (by decide) ?_
          refine ro_iald (k := 14) (v := nI (x 14)) hx hb hK hP 1 0 rfl rfl rfl (by decide) (by decide) hR.n14 dX8_marginNow_122 ?_
          refine lv_iload_n hx hb dX8_marginNow_123 rfl (lv_at hl 1 rfl) ?_
          refine ro_top (z := nI (mv)) hx b5 ?_
          refine aftI0 C (runV_G (As := [.int (nI (x 13)), .int (nI (x 14)), .int (nI mv)]) (rest := []) (ci := 8) (N := 24) (T := TX8) (q0 := 0) C (mX8_resultIn l D G q ma sN L th nd ct ht sp iw mn sr p M fl (x 13) (x 14) mv b1 b2 hfn hM hR.pp) hS hP hD [0, 1, 2] rfl (by decide) rfl rfl (ys_X8_resultIn) kw_14_10 kw_14_11 kw_14_12 ⟨Nat.le_of_ble_eq_true rfl, Nat.le_of_ble_eq_true rfl⟩ hl.1 (Nat.le_of_ble_eq_true rfl) dX8_marginNow_124 rfl rfl ⟨Nat.zero_le _, Nat.zero_le _⟩) hS hP hD [0, 1, 2] rfl (fun r124 _ H locs hp124 hP hS => ?_)
          refine ro_top (z := cn p (x 13) (x 14) mv - fl (13 * bh (x 13) mv + ((x 14) - tk mv))) hx hp124 ?_
          refine ro_top (z := V p (x 14) (x 13)) hx (by rw [b4, rV_pos b2, hFL _ _ (by have := tk_pos mv; have := bh_le (x 13) mv; omega)]) ?_
          refine lv_iload_n hx hb dX8_marginNow_127 rfl (lv_at hl 2 rfl) ?_
          refine lv_isub hx hb dX8_marginNow_128 ?_
          exact endI C rfl () eA.symm hS hP dX8_marginNow_129
        · have h4 : i = 4 := by omega
          have e4 : mgn (rV p (V p) (x 13) (x 14)) (x 14) (bm (rV p (V p) (x 13) (x 14)) 4).1 i = mgn (rV p (V p) (x 13) (x 14)) (x 14) (bm (rV p (V p) (x 13) (x 14)) 4).1 4 := by rw [h4]
          have eA : mgA p (x 13) (x 14) = -999 := mgA_no (e4.symm.trans c_99)
          refine lv_sipush (v := (-999)) hx hb dX8_marginNow_102 (by decide) ?_
          refine lv_goto (tgt := 129) hx hb dX8_marginNow_105 (by decide) ?_
          exact endI C rfl () eA.symm hS hP dX8_marginNow_129
      · have c_27 := nle_f (a := 4) (b := i) (by omega) (by omega) c_27
        refine lv_iload_n hx hb dX8_marginNow_30 rfl (lv_at hl 3 rfl) ?_
        refine aftI0 C (runS_G (As := [.int (nI i)]) (rest := []) C (mX8_takes l D G i (by omega)) hS hP hD [] rfl (by decide) (ys_X8_takes) kw_12_16 kw_12_17 ⟨Nat.le_of_ble_eq_true rfl, Nat.le_of_ble_eq_true rfl⟩ hl.1 (Nat.le_of_ble_eq_true rfl) dX8_marginNow_31 rfl rfl ⟨Nat.zero_le _, Nat.zero_le _⟩) hS hP hD [] rfl (fun r31 _ H locs hp31 hP hS => ?_)
        refine ro_top (z := nI (tk i)) hx hp31 ?_
        refine lv_aload_n hx hb dX8_marginNow_34 rfl (lv_at hl 0 rfl) ?_
        refine va_get (D := D) (ci := 8) (v := .ref (ma 0)) (C := RX8) (T := TX8) (N := 24) hx hb hts inlX8 hown hK hP 0 rfl rfl 0 (by decide) (hts _ kw_5_6) (fun _ h9 => h9) rfl dX8_marginNow_35 ?_
        refine lv_bipush (v := 14) hx hb dX8_marginNow_38 (by decide) ?_
        refine ro_iald (k := 14) (v := nI (x 14)) hx hb hK hP 1 0 rfl rfl rfl (by decide) (by decide) hR.n14 dX8_marginNow_40 ?_
        refine lv_icmp_gt (tgt := 49) hx hb dX8_marginNow_41 (by decide) (fun c_41 => ?_) (fun c_41 => ?_)
        · have c_41 := nlt_t (a := x 14) (b := tk i) (by omega) (by omega) c_41
          refine lv_sipush (v := (-999)) hx hb dX8_marginNow_49 (by decide) ?_
          refine lv_goto (tgt := 74) hx hb dX8_marginNow_52 (by decide) ?_
          refine lv_istore (lv' := [(4, .int (-999)), (0, .ref q), (1, .int ((bm (rV p (V p) (x 13) (x 14)) 4).1)), (2, .int (mgn (rV p (V p) (x 13) (x 14)) (x 14) (bm (rV p (V p) (x 13) (x 14)) 4).1 i)), (3, .int (nI i))]) hx hb dX8_marginNow_74 hl (by decide) rfl (fun ls hl => ?_)
          refine lv_iload hx hb dX8_marginNow_76 (lv_at hl 0 rfl) ?_
          refine lv_iload_n hx hb dX8_marginNow_78 rfl (lv_at hl 3 rfl) ?_
          refine lv_icmp_le (tgt := 87) hx hb dX8_marginNow_79 (by decide) (fun c_79 => ?_) (fun c_79 => ?_)
          · refine lv_iload_n hx hb dX8_marginNow_87 rfl (lv_at hl 3 rfl) ?_
            refine lv_istore_n (lv' := [(2, .int (mgn (rV p (V p) (x 13) (x 14)) (x 14) (bm (rV p (V p) (x 13) (x 14)) 4).1 i)), (4, .int (-999)), (0, .ref q), (1, .int ((bm (rV p (V p) (x 13) (x 14)) 4).1)), (3, .int (nI i))]) hx hb dX8_marginNow_88 rfl hl (by decide) rfl (fun ls hl => ?_)
            refine lv_iinc (v := nI (i + 1)) (lv' := [(3, .int (nI (i + 1))), (2, .int (mgn (rV p (V p) (x 13) (x 14)) (x 14) (bm (rV p (V p) (x 13) (x 14)) 4).1 i)), (4, .int (-999)), (0, .ref q), (1, .int ((bm (rV p (V p) (x 13) (x 14)) 4).1))]) hx hb dX8_marginNow_89 hl (k := 4) rfl (nI_add i 1) (by decide) rfl (fun ls hl => ?_)
            refine lv_goto (tgt := 25) hx hb dX8_marginNow_92 (by decide) ?_
            have e9 : mgn (rV p (V p) (x 13) (x 14)) (x 14) (bm (rV p (V p) (x 13) (x 14)) 4).1 (i + 1) = mgn (rV p (V p) (x 13) (x 14)) (x 14) (bm (rV p (V p) (x 13) (x 14)) 4).1 i := mgn_no (Or.inr (by omega))
            exact ih25 (i + 1) (by omega) (by omega) _ _ _ hP (hD.fst rfl) hS (lv_sub hl [3, 4, 1, 0] (by rw [e9]; rfl))
          · exact absurd (mgn_ge _ _ _ _) c_79
        · have c_41 := nlt_f (a := x 14) (b := tk i) (by omega) (by omega) c_41
          refine lv_iload_n hx hb dX8_marginNow_44 rfl (lv_at hl 3 rfl) ?_
          refine lv_iload_n hx hb dX8_marginNow_45 rfl (lv_at hl 1 rfl) ?_
          refine lv_icmp_ne (tgt := 55) hx hb dX8_marginNow_46 (by decide) (fun c_46 => ?_) (fun c_46 => ?_)
          · refine lv_aload_n hx hb dX8_marginNow_55 rfl (lv_at hl 0 rfl) ?_
            refine lv_aload_n hx hb dX8_marginNow_56 rfl (lv_at hl 0 rfl) ?_
            refine va_get (D := D) (ci := 8) (v := .ref (ma 0)) (C := RX8) (T := TX8) (N := 24) hx hb hts inlX8 hown hK hP 0 rfl rfl 0 (by decide) (hts _ kw_5_6) (fun _ h9 => h9) rfl dX8_marginNow_57 ?_
            refine lv_bipush (v := 13) hx hb dX8_marginNow_60 (by decide) ?_
            refine ro_iald (k := 13) (v := nI (x 13)) hx hb hK hP 1 0 rfl rfl rfl (by decide) (by decide) hR.n13 dX8_marginNow_62 ?_
            refine lv_aload_n hx hb dX8_marginNow_63 rfl (lv_at hl 0 rfl) ?_
            refine va_get (D := D) (ci := 8) (v := .ref (ma 0)) (C := RX8) (T := TX8) (N := 24) hx hb hts inlX8 hown hK hP 0 rfl rfl 0 (by decide) (hts _ kw_5_6) (fun _ h9 => h9) rfl dX8_marginNow_64 ?_
            refine lv_bipush (v := 14) hx hb dX8_marginNow_67 (by decide) ?_
            refine ro_iald (k := 14) (v := nI (x 14)) hx hb hK hP 1 0 rfl rfl rfl (by decide) (by decide) hR.n14 dX8_marginNow_69 ?_
            refine lv_iload_n hx hb dX8_marginNow_70 rfl (lv_at hl 3 rfl) ?_
            refine aftI0 C (runV_G (As := [.int (nI (x 13)), .int (nI (x 14)), .int (nI i)]) (rest := []) (ci := 8) (N := 24) (T := TX8) (q0 := 0) C (mX8_resultIn l D G q ma sN L th nd ct ht sp iw mn sr p M fl (x 13) (x 14) i (by omega) (by omega) hfn hM hR.pp) hS hP hD [0, 1, 2] rfl (by decide) rfl rfl (ys_X8_resultIn) kw_14_10 kw_14_11 kw_14_12 ⟨Nat.le_of_ble_eq_true rfl, Nat.le_of_ble_eq_true rfl⟩ hl.1 (Nat.le_of_ble_eq_true rfl) dX8_marginNow_71 rfl rfl ⟨Nat.zero_le _, Nat.zero_le _⟩) hS hP hD [0, 1, 2] rfl (fun r71 _ H locs hp71 hP hS => ?_)
            refine ro_top (z := cn p (x 13) (x 14) i - fl (13 * bh (x 13) i + ((x 14) - tk i))) hx hp71 ?_
            refine ro_top (z := rV p (V p) (x 13) (x 14) i) hx (by rw [rV_pos (by omega), hFL _ _ (by have := tk_pos i; have := bh_le (x 13) i; omega)]) ?_
            refine lv_istore (lv' := [(4, .int (rV p (V p) (x 13) (x 14) i)), (0, .ref q), (1, .int ((bm (rV p (V p) (x 13) (x 14)) 4).1)), (2, .int (mgn (rV p (V p) (x 13) (x 14)) (x 14) (bm (rV p (V p) (x 13) (x 14)) 4).1 i)), (3, .int (nI i))]) hx hb dX8_marginNow_74 hl (by decide) rfl (fun ls hl => ?_)
            refine lv_iload hx hb dX8_marginNow_76 (lv_at hl 0 rfl) ?_
            refine lv_iload_n hx hb dX8_marginNow_78 rfl (lv_at hl 3 rfl) ?_
            refine lv_icmp_le (tgt := 87) hx hb dX8_marginNow_79 (by decide) (fun c_79 => ?_) (fun c_79 => ?_)
            · refine lv_iload_n hx hb dX8_marginNow_87 rfl (lv_at hl 3 rfl) ?_
              refine lv_istore_n (lv' := [(2, .int (mgn (rV p (V p) (x 13) (x 14)) (x 14) (bm (rV p (V p) (x 13) (x 14)) 4).1 i)), (4, .int (rV p (V p) (x 13) (x 14) i)), (0, .ref q), (1, .int ((bm (rV p (V p) (x 13) (x 14)) 4).1)), (3, .int (nI i))]) hx hb dX8_marginNow_88 rfl hl (by decide) rfl (fun ls hl => ?_)
              refine lv_iinc (v := nI (i + 1)) (lv' := [(3, .int (nI (i + 1))), (2, .int (mgn (rV p (V p) (x 13) (x 14)) (x 14) (bm (rV p (V p) (x 13) (x 14)) 4).1 i)), (4, .int (rV p (V p) (x 13) (x 14) i)), (0, .ref q), (1, .int ((bm (rV p (V p) (x 13) (x 14)) 4).1))]) hx hb dX8_marginNow_89 hl (k := 4) rfl (nI_add i 1) (by decide) rfl (fun ls hl => ?_)
              refine lv_goto (tgt := 25) hx hb dX8_marginNow_92 (by decide) ?_
              have e9 : mgn (rV p (V p) (x 13) (x 14)) (x 14) (bm (rV p (V p) (x 13) (x 14)) 4).1 (i + 1) = mgn (rV p (V p) (x 13) (x 14)) (x 14) (bm (rV p (V p) (x 13) (x 14)) 4).1 i := mgn_keep c_46 (by omega) c_79
              exact ih25 (i + 1) (by omega) (by omega) _ _ _ hP (hD.fst rfl) hS (lv_sub hl [3, 4, 1, 0] (by rw [e9]; rfl))
            · refine lv_iload hx hb dX8_marginNow_82 (lv_at hl 0 rfl) ?_
              refine lv_goto (tgt := 88) hx hb dX8_marginNow_84 (by decide) ?_
              refine lv_istore_n (lv' := [(2, .int (rV p (V p) (x 13) (x 14) i)), (4, .int (rV p (V p) (x 13) (x 14) i)), (0, .ref q), (1, .int ((bm (rV p (V p) (x 13) (x 14)) 4).1)), (3, .int (nI i))]) hx hb dX8_marginNow_88 rfl hl (by decide) rfl (fun ls hl => ?_)
              refine lv_iinc (v := nI (i + 1)) (lv' := [(3, .int (nI (i + 1))), (2, .int (rV p (V p) (x 13) (x 14) i)), (4, .int (rV p (V p) (x 13) (x 14) i)), (0, .ref q), (1, .int ((bm (rV p (V p) (x 13) (x 14)) 4).1))]) hx hb dX8_marginNow_89 hl (k := 4) rfl (nI_add i 1) (by decide) rfl (fun ls hl => ?_)
              refine lv_goto (tgt := 25) hx hb dX8_marginNow_92 (by decide) ?_
              have e9 : mgn (rV p (V p) (x 13) (x 14)) (x 14) (bm (rV p (V p) (x 13) (x 14)) 4).1 (i + 1) = rV p (V p) (x 13) (x 14) i := mgn_new c_46 (by omega) c_79
              exact ih25 (i + 1) (by omega) (by omega) _ _ _ hP (hD.fst rfl) hS (lv_sub hl [3, 4, 1, 0] (by rw [e9]; rfl))
          · refine lv_sipush (v := (-999)) hx hb dX8_marginNow_49 (by decide) ?_
            refine lv_goto (tgt := 74) hx hb dX8_marginNow_52 (by decide) ?_
            refine lv_istore (lv' := [(4, .int (-999)), (0, .ref q), (1, .int ((bm (rV p (V p) (x 13) (x 14)) 4).1)), (2, .int (mgn (rV p (V p) (x 13) (x 14)) (x 14) (bm (rV p (V p) (x 13) (x 14)) 4).1 i)), (3, .int (nI i))]) hx hb dX8_marginNow_74 hl (by decide) rfl (fun ls hl => ?_)
            refine lv_iload hx hb dX8_marginNow_76 (lv_at hl 0 rfl) ?_
            refine lv_iload_n hx hb dX8_marginNow_78 rfl (lv_at hl 3 rfl) ?_
            refine lv_icmp_le (tgt := 87) hx hb dX8_marginNow_79 (by decide) (fun c_79 => ?_) (fun c_79 => ?_)
            · refine lv_iload_n hx hb dX8_marginNow_87 rfl (lv_at hl 3 rfl) ?_
              refine lv_istore_n (lv' := [(2, .int (mgn (rV p (V p) (x 13) (x 14)) (x 14) (bm (rV p (V p) (x 13) (x 14)) 4).1 i)), (4, .int (-999)), (0, .ref q), (1, .int ((bm (rV p (V p) (x 13) (x 14)) 4).1)), (3, .int (nI i))]) hx hb dX8_marginNow_88 rfl hl (by decide) rfl (fun ls hl => ?_)
              refine lv_iinc (v := nI (i + 1)) (lv' := [(3, .int (nI (i + 1))), (2, .int (mgn (rV p (V p) (x 13) (x 14)) (x 14) (bm (rV p (V p) (x 13) (x 14)) 4).1 i)), (4, .int (-999)), (0, .ref q), (1, .int ((bm (rV p (V p) (x 13) (x 14)) 4).1))]) hx hb dX8_marginNow_89 hl (k := 4) rfl (nI_add i 1) (by decide) rfl (fun ls hl => ?_)
              refine lv_goto (tgt := 25) hx hb dX8_marginNow_92 (by decide) ?_
              have e9 : mgn (rV p (V p) (x 13) (x 14)) (x 14) (bm (rV p (V p) (x 13) (x 14)) 4).1 (i + 1) = mgn (rV p (V p) (x 13) (x 14)) (x 14) (bm (rV p (V p) (x 13) (x 14)) 4).1 i := mgn_no (Or.inl c_46)
              exact ih25 (i + 1) (by omega) (by omega) _ _ _ hP (hD.fst rfl) hS (lv_sub hl [3, 4, 1, 0] (by rw [e9]; rfl))
            · exact absurd (mgn_ge _ _ _ _) c_79
  exact lp25 (4 - 0 + 1) 0 (by omega) (Nat.lt_succ_self _) _ _ _ hP (hD.fst rfl) hS (lv_sub hl [3, 2, 1, 0] rfl)
set_option maxHeartbeats 800000 in
set_option maxRecDepth 100000 in
theorem mX8_margin (l : Launch) (D : va_G) (G : u_G) (q : Nat) (ma : Nat → Nat) (sN L : Nat) (th nd ct ht sp iw mn : Int32) (sr p : Nat → Int32) (x : Nat → Nat) (y : Nat → Int32) (M : Nat) (fl : Nat → Int32)  (hR : RowR sr x y M p) (hM : M ≤ 12) (hfn : x 13 + x 14 ≤ M) (hPR : PR p) : MtI l D G yX8_margin cX8_margin 1 .int 7 0 0 [.ref q] [(q, .inr (8, [.ref (ma 0), .ref (ma 1), .int (nI sN), .ref (ma 2), .int (nI L), .int th, .ref (ma 3), .ref (ma 4), .ref (ma 5), .ref (ma 6), .int nd, .int ct, .int ht, .ref (ma 7), .ref (ma 8), .ref (ma 9), .ref (ma 10), .ref (ma 11), .ref (ma 12), .ref (ma 13), .ref (ma 14), .int sp, .int iw, .int mn])), (ma 0, .inl (G.1, 457, .inl sr)), (ma 3, .inl (G.1, 169, .inl fl))] (fun (r : Int32) (u : Nat → Int32) => r = mgA p (x 13) (x 14)) (fun (u : Nat → Int32) => [(q, .inr (8, [.ref (ma 0), .ref (ma 1), .int (nI sN), .ref (ma 2), .int (nI L), .int (nI 0), .ref (ma 3), .ref (ma 4), .ref (ma 5), .ref (ma 6), .int nd, .int ct, .int ht, .ref (ma 7), .ref (ma 8), .ref (ma 9), .ref (ma 10), .ref (ma 11), .ref (ma 12), .ref (ma 13), .ref (ma 14), .int sp, .int iw, .int mn])), (ma 0, .inl (G.1, 457, .inl sr)), (ma 3, .inl (G.1, 169, .inl u))]) := by
  refine MtI.of (by decide) (Nat.le_of_ble_eq_true rfl) ?_
  intro pr e s9 m9 below meth c9 A ls C hP hD hl
  obtain ⟨hx, hb, hml, hown, hts, hr, hlocks, hA, hAm⟩ := id C
  have hK := hAm.1
  have hS : va_S A s9.heap s9.heap [] := va_S.rf
  have hl : lv_has ls 1 [(0, .ref q)] := hl
  refine lv_aload_n hx hb dX8_margin_0 rfl (lv_at hl 0 rfl) ?_
  refine lv_iconst (v := 0) hx hb dX8_margin_1 (by decide) ?_
  refine va_put (D := D) (ci := 8) (v := .int 0) (ty := .int) (C := RX8) (T := TX8) (N := 24) hx hb hts inlX8 tyX8 tyX8_ok nmX8 hown hK hP hD hS 0 rfl rfl 5 (by decide) (hts _ kw_11_4) (fun _ h9 => h9) rfl (by decide +kernel) rfl rfl (Nat.le_of_ble_eq_true rfl) dX8_margin_2 (fun H locs hP hD hS => ?_)
  have hP : va_P D vwCl [(q, .inr (8, [.ref (ma 0), .ref (ma 1), .int (nI sN), .ref (ma 2), .int (nI L), .int 0, .ref (ma 3), .ref (ma 4), .ref (ma 5), .ref (ma 6), .int nd, .int ct, .int ht, .ref (ma 7), .ref (ma 8), .ref (ma 9), .ref (ma 10), .ref (ma 11), .ref (ma 12), .ref (ma 13), .ref (ma 14), .int sp, .int iw, .int mn])), (ma 0, .inl (G.1, 457, .inl sr)), (ma 3, .inl (G.1, 169, .inl fl))] H := hP
  have hD : va_D A [(q, .inr (8, [.ref (ma 0), .ref (ma 1), .int (nI sN), .ref (ma 2), .int (nI L), .int 0, .ref (ma 3), .ref (ma 4), .ref (ma 5), .ref (ma 6), .int nd, .int ct, .int ht, .ref (ma 7), .ref (ma 8), .ref (ma 9), .ref (ma 10), .ref (ma 11), .ref (ma 12), .ref (ma 13), .ref (ma 14), .int sp, .int iw, .int mn])), (ma 0, .inl (G.1, 457, .inl sr)), (ma 3, .inl (G.1, 169, .inl fl))] := hD
  refine lv_aload_n hx hb dX8_margin_5 rfl (lv_at hl 0 rfl) ?_
  refine aftV C (runV_G (As := []) (rest := []) (ci := 8) (N := 24) (T := TX8) (q0 := 0) C (mX8_fills l D G q ma sN L 0 nd ct ht sp iw mn sr p M fl hR.n0 hM hR.pp hPR) hS hP hD [0, 1, 2] rfl (by decide) rfl rfl (ys_X8_fills) kw_13_23 kw_14_0 kw_14_1 ⟨Nat.le_of_ble_eq_true rfl, Nat.le_of_ble_eq_true rfl⟩ hl.1 (Nat.le_of_ble_eq_true rfl) dX8_margin_6 rfl rfl ⟨Nat.zero_le _, Nat.zero_le _⟩) hS hP hD [0, 1, 2] rfl (fun _ => rfl) (fun u6 H locs hp6 hP hD hS => ?_)
  have hP : va_P D vwCl [(q, .inr (8, [.ref (ma 0), .ref (ma 1), .int (nI sN), .ref (ma 2), .int (nI L), .int 0, .ref (ma 3), .ref (ma 4), .ref (ma 5), .ref (ma 6), .int nd, .int ct, .int ht, .ref (ma 7), .ref (ma 8), .ref (ma 9), .ref (ma 10), .ref (ma 11), .ref (ma 12), .ref (ma 13), .ref (ma 14), .int sp, .int iw, .int mn])), (ma 0, .inl (G.1, 457, .inl sr)), (ma 3, .inl (G.1, 169, .inl u6))] H := hP
  have hD : va_D A [(q, .inr (8, [.ref (ma 0), .ref (ma 1), .int (nI sN), .ref (ma 2), .int (nI L), .int 0, .ref (ma 3), .ref (ma 4), .ref (ma 5), .ref (ma 6), .int nd, .int ct, .int ht, .ref (ma 7), .ref (ma 8), .ref (ma 9), .ref (ma 10), .ref (ma 11), .ref (ma 12), .ref (ma 13), .ref (ma 14), .int sp, .int iw, .int mn])), (ma 0, .inl (G.1, 457, .inl sr)), (ma 3, .inl (G.1, 169, .inl u6))] := hD
  refine lv_aload_n hx hb dX8_margin_9 rfl (lv_at hl 0 rfl) ?_
  refine aftI0 C (runV_G (As := []) (rest := []) (ci := 8) (N := 24) (T := TX8) (q0 := 0) C (mX8_marginNow l D G q ma sN L 0 nd ct ht sp iw mn sr p x y M u6 hR hM hfn hPR hp6) hS hP hD [0, 1, 2] rfl (by decide) rfl rfl (ys_X8_marginNow) kw_18_16 kw_18_17 kw_18_18 ⟨Nat.le_of_ble_eq_true rfl, Nat.le_of_ble_eq_true rfl⟩ hl.1 (Nat.le_of_ble_eq_true rfl) dX8_margin_10 rfl rfl ⟨Nat.zero_le _, Nat.zero_le _⟩) hS hP hD [0, 1, 2] rfl (fun r10 _ H locs hp10 hP hS => ?_)
  refine ro_top (z := mgA p (x 13) (x 14)) hx hp10 ?_
  exact endI C rfl u6 rfl hS hP dX8_margin_13
