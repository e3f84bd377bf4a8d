theorem ys_X3_save : YS yX3_save cX3_save 3 none 1 := ⟨kw_18_9, kw_1_16, by decide, by decide, by decide⟩
theorem ys_X3_restore : YS yX3_restore cX3_restore 3 none 1 := ⟨kw_5_15, kw_1_16, by decide, by decide, by decide⟩
theorem ys_X3_stateAt : YS yX3_stateAt cX3_stateAt 3 (some (.object "BoundSearch$State")) 1 := ⟨kw_5_19, kw_1_16, by decide, by decide, by decide⟩
set_option maxHeartbeats 800000 in
set_option maxRecDepth 100000 in
theorem mX1_solve (l : Launch) (D : va_G) (G : u_G) (q qp qs g gp : Nat) (f0 n0 t0 : Nat) (d0 d1 : Int32) (p0 sv p : Nat → Int32) (hfn : f0 + n0 ≤ 12) (hPR : PR p) : MtV l D G yX1_solve cX1_solve 6 6 0 0 [.ref q, .ref g] [(q, .inr (1, [.ref qp, .ref qs])), (qp, .inl (G.1, 12, .inl p0)), (qs, .inl (G.1, 144, .inl sv)), (g, .inr (2, [.ref gp, .int (nI f0), .int (nI n0), .int (nI t0), .int d0, .int d1])), (gp, .inl (G.1, 12, .inl p))] (fun (u : Nat → Int32) => SV p u (f0 + n0)) (fun (u : Nat → Int32) => [(q, .inr (1, [.ref qp, .ref qs])), (qp, .inl (G.1, 12, .inl p)), (qs, .inl (G.1, 144, .inl u)), (g, .inr (2, [.ref gp, .int (nI f0), .int (nI n0), .int (nI t0), .int d0, .int d1])), (gp, .inl (G.1, 12, .inl p))]) := by
  refine MtV.of (by decide) (Nat.le_of_ble_eq_true rfl) ?_
  intro pr e s9 m9 below meth c9 A ls C hP hD hl hin
  obtain ⟨hx, hb, hml, hown, hts, hr, hlocks, hA, hAm⟩ := id C
  have hK := hAm.1
  have hS : va_S A s9.heap s9.heap [] := va_S.rf
  have hl : lv_has ls 6 [(0, .ref q), (1, .ref g)] := hl
  refine lv_aload_n hx hb dX1_solve_0 rfl (lv_at hl 1 rfl) ?_
  refine va_get (D := D) (ci := 2) (v := .ref gp) (C := RX2) (T := TX2) (N := 6) hx hb hts inlX2 hown hK hP 3 rfl rfl 0 (by decide) (hts _ kw_6_14) (fun _ h9 => h9) rfl dX1_solve_1 ?_
  refine lv_aload_n hx hb dX1_solve_4 rfl (lv_at hl 0 rfl) ?_
  refine va_get (D := D) (ci := 1) (v := .ref qp) (C := RX1) (T := TX1) (N := 2) hx hb hts inlX1 hown hK hP 0 rfl rfl 0 (by decide) (hts _ kw_4_10) (fun _ h9 => h9) rfl dX1_solve_5 ?_
  refine aftV C (runSN_G (As := [.ref gp, .ref qp]) (rest := []) C (mX7_copy l D G gp qp 12 p p0 (by omega)) hS hP hD [4, 1] rfl (by decide) (ys_X7_copy) nw_29 kw_6_4 ⟨Nat.le_of_ble_eq_true rfl, Nat.le_of_ble_eq_true rfl⟩ hl.1 (Nat.le_of_ble_eq_true rfl) dX1_solve_8 rfl rfl ⟨Nat.zero_le _, Nat.zero_le _⟩) hS hP hD [4, 1] rfl (fun _ => rfl) (fun _ H locs hp8 hP hD hS => ?_)
  have hP : va_P D vwCl [(q, .inr (1, [.ref qp, .ref qs])), (qp, .inl (G.1, 12, .inl p)), (qs, .inl (G.1, 144, .inl sv)), (g, .inr (2, [.ref gp, .int (nI f0), .int (nI n0), .int (nI t0), .int d0, .int d1])), (gp, .inl (G.1, 12, .inl p))] H := hP
  have hD : va_D A [(q, .inr (1, [.ref qp, .ref qs])), (qp, .inl (G.1, 12, .inl p)), (qs, .inl (G.1, 144, .inl sv)), (g, .inr (2, [.ref gp, .int (nI f0), .int (nI n0), .int (nI t0), .int d0, .int d1])), (gp, .inl (G.1, 12, .inl p))] := hD
  refine lv_aload_n hx hb dX1_solve_11 rfl (lv_at hl 1 rfl) ?_
  refine va_get (D := D) (ci := 2) (v := .int (nI f0)) (C := RX2) (T := TX2) (N := 6) hx hb hts inlX2 hown hK hP 3 rfl rfl 1 (by decide) (hts _ kw_6_15) (fun _ h9 => h9) rfl dX1_solve_12 ?_
  refine lv_aload_n hx hb dX1_solve_15 rfl (lv_at hl 1 rfl) ?_
  refine va_get (D := D) (ci := 2) (v := .int (nI n0)) (C := RX2) (T := TX2) (N := 6) hx hb hts inlX2 hown hK hP 3 rfl rfl 2 (by decide) (hts _ kw_6_16) (fun _ h9 => h9) rfl dX1_solve_16 ?_
  refine ro_iadd (z := nI (f0 + n0)) hx hb (nI_add f0 n0) dX1_solve_19 ?_
  refine lv_istore_n (lv' := [(2, .int (nI (f0 + n0))), (0, .ref q), (1, .ref g)]) hx hb dX1_solve_20 rfl hl (by decide) rfl (fun ls hl => ?_)
  refine lv_iconst (v := 1) hx hb dX1_solve_21 (by decide) ?_
  refine lv_istore_n (lv' := [(3, .int 1), (2, .int (nI (f0 + n0))), (0, .ref q), (1, .ref g)]) hx hb dX1_solve_22 rfl hl (by decide) rfl (fun ls hl => ?_)
  have lp23 : ∀ (n23 : Nat) (c : Nat) (sv9 : Nat → Int32) (h1 : 1 ≤ c) (h2 : c ≤ 13) (hSv : SVp p sv9 (f0 + n0) c 0) (_ : 13 - c < n23) (H : Heap) (locs : List Loc) (ls : Array Slot), va_P D vwCl [(q, .inr (1, [.ref qp, .ref qs])), (qp, .inl (G.1, 12, .inl p)), (qs, .inl (G.1, 144, .inl sv9)), (g, .inr (2, [.ref gp, .int (nI f0), .int (nI n0), .int (nI t0), .int d0, .int d1])), (gp, .inl (G.1, 12, .inl p))] H → va_D A [(q, .inr (1, [.ref qp, .ref qs])), (qp, .inl (G.1, 12, .inl p)), (qs, .inl (G.1, 144, .inl sv9)), (g, .inr (2, [.ref gp, .int (nI f0), .int (nI n0), .int (nI t0), .int d0, .int d1])), (gp, .inl (G.1, 12, .inl p))] → va_S A s9.heap H locs → lv_has ls 6 [(0, .ref q), (1, .ref g), (2, .int (nI (f0 + n0))), (3, .int (nI c))] → W pr l e (rmG 6 0 0) s9 m9 (List.toArray [.ref q, .ref g]) below meth c9 H locs 0 0 (MQ below (va_Qv (fun (u : Nat → Int32) => SV p u (f0 + n0)) (fun u9 t9 => WB D ((fun (u : Nat → Int32) => [(q, .inr (1, [.ref qp, .ref qs])), (qp, .inl (G.1, 12, .inl p)), (qs, .inl (G.1, 144, .inl u)), (g, .inr (2, [.ref gp, .int (nI f0), .int (nI n0), .int (nI t0), .int d0, .int d1])), (gp, .inl (G.1, 12, .inl p))]) u9) t9 ∧ va_D A ((fun (u : Nat → Int32) => [(q, .inr (1, [.ref qp, .ref qs])), (qp, .inl (G.1, 12, .inl p)), (qs, .inl (G.1, 144, .inl u)), (g, .inr (2, [.ref gp, .int (nI f0), .int (nI n0), .int (nI t0), .int d0, .int d1])), (gp, .inl (G.1, 12, .inl p))]) u9)) A) (List.toArray [.ref q, .ref g]) s9 0 0 A) (F0 m9 23 ls []) := by
    intro n23
    induction n23 with
    | zero => intro c sv9 h1 h2 hSv hm; exact absurd hm (Nat.not_lt_zero _)
    | succ n23 ih23 =>
      intro c sv9 h1 h2 hSv hm H locs ls hP hD hS hl
      refine lv_iload_n hx hb dX1_solve_23 rfl (lv_at hl 3 rfl) ?_
      refine lv_bipush (v := 12) hx hb dX1_solve_24 (by decide) ?_
      refine lv_icmp_gt (tgt := 90) hx hb dX1_solve_26 (by decide) (fun c_26 => ?_) (fun c_26 => ?_)
      · have c_26 := nlt_t (a := 12) (b := c) (by omega) (by omega) c_26
        exact endV C sv9 (SVp_done hSv (by omega) (by omega)) hS hP (hD.fst rfl) dX1_solve_90
      · have c_26 := nlt_f (a := 12) (b := c) (by omega) (by omega) c_26
        refine lv_iconst (v := 0) hx hb dX1_solve_29 (by decide) ?_
        refine lv_istore (lv' := [(4, .int 0), (0, .ref q), (1, .ref g), (2, .int (nI (f0 + n0))), (3, .int (nI c))]) hx hb dX1_solve_30 hl (by decide) rfl (fun ls hl => ?_)
        have lp32 : ∀ (n32 : Nat) (f9 : Nat) (sw : Nat → Int32) (h3 : f9 ≤ 12) (hSw : SVp p sw (f0 + n0) c f9) (_ : 12 - f9 < n32) (H : Heap) (locs : List Loc) (ls : Array Slot), va_P D vwCl [(q, .inr (1, [.ref qp, .ref qs])), (qp, .inl (G.1, 12, .inl p)), (qs, .inl (G.1, 144, .inl sw)), (g, .inr (2, [.ref gp, .int (nI f0), .int (nI n0), .int (nI t0), .int d0, .int d1])), (gp, .inl (G.1, 12, .inl p))] H → va_D A [(q, .inr (1, [.ref qp, .ref qs])), (qp, .inl (G.1, 12, .inl p)), (qs, .inl (G.1, 144, .inl sw)), (g, .inr (2, [.ref gp, .int (nI f0), .int (nI n0), .int (nI t0), .int d0, .int d1])), (gp, .inl (G.1, 12, .inl p))] → va_S A s9.heap H locs → lv_has ls 6 [(0, .ref q), (1, .ref g), (2, .int (nI (f0 + n0))), (3, .int (nI c)), (4, .int (nI f9))] → W pr l e (rmG 6 0 0) s9 m9 (List.toArray [.ref q, .ref g]) below meth c9 H locs 0 0 (MQ below (va_Qv (fun (u : Nat → Int32) => SV p u (f0 + n0)) (fun u9 t9 => WB D ((fun (u : Nat → Int32) => [(q, .inr (1, [.ref qp, .ref qs])), (qp, .inl (G.1, 12, .inl p)), (qs, .inl (G.1, 144, .inl u)), (g, .inr (2, [.ref gp, .int (nI f0), .int (nI n0), .int (nI t0), .int d0, .int d1])), (gp, .inl (G.1, 12, .inl p))]) u9) t9 ∧ va_D A ((fun (u : Nat → Int32) => [(q, .inr (1, [.ref qp, .ref qs])), (qp, .inl (G.1, 12, .inl p)), (qs, .inl (G.1, 144, .inl u)), (g, .inr (2, [.ref gp, .int (nI f0), .int (nI n0), .int (nI t0), .int d0, .int d1])), (gp, .inl (G.1, 12, .inl p))]) u9)) A) (List.toArray [.ref q, .ref g]) s9 0 0 A) (F0 m9 32 ls []) := by
          intro n32
          induction n32 with
          | zero => intro f9 sw h3 hSw hm; exact absurd hm (Nat.not_lt_zero _)
          | succ n32 ih32 =>
            intro f9 sw h3 hSw hm H locs ls hP hD hS hl
            refine lv_iload hx hb dX1_solve_32 (lv_at hl 4 rfl) ?_
            refine lv_bipush (v := 12) hx hb dX1_solve_34 (by decide) ?_
            refine lv_icmp_ge (tgt := 84) hx hb dX1_solve_36 (by decide) (fun c_36 => ?_) (fun c_36 => ?_)
            · have c_36 := nle_t (a := 12) (b := f9) (by omega) (by omega) c_36
              refine lv_iinc (v := nI (c + 1)) (lv' := [(3, .int (nI (c + 1))), (0, .ref q), (1, .ref g), (2, .int (nI (f0 + n0))), (4, .int (nI f9))]) hx hb dX1_solve_84 hl (k := 3) rfl (nI_add c 1) (by decide) rfl (fun ls hl => ?_)
              refine lv_goto (tgt := 23) hx hb dX1_solve_87 (by decide) ?_
              exact ih23 (c + 1) sw (by omega) (by omega) (SVp_next hSw (by omega)) (by omega) _ _ _ hP (hD.fst rfl) hS (lv_sub hl [1, 2, 3, 0] rfl)
            · have c_36 := nle_f (a := 12) (b := f9) (by omega) (by omega) c_36
              refine lv_iload hx hb dX1_solve_39 (lv_at hl 4 rfl) ?_
              refine lv_iload_n hx hb dX1_solve_41 rfl (lv_at hl 3 rfl) ?_
              refine ro_iadd (z := nI (f9 + c)) hx hb (nI_add f9 c) dX1_solve_42 ?_
              refine lv_iload_n hx hb dX1_solve_43 rfl (lv_at hl 2 rfl) ?_
              refine lv_icmp_gt (tgt := 84) hx hb dX1_solve_44 (by decide) (fun c_44 => ?_) (fun c_44 => ?_)
              · have c_44 := nlt_t (a := f0 + n0) (b := f9 + c) (by omega) (by omega) c_44
                refine lv_iinc (v := nI (c + 1)) (lv' := [(3, .int (nI (c + 1))), (0, .ref q), (1, .ref g), (2, .int (nI (f0 + n0))), (4, .int (nI f9))]) hx hb dX1_solve_84 hl (k := 3) rfl (nI_add c 1) (by decide) rfl (fun ls hl => ?_)
                refine lv_goto (tgt := 23) hx hb dX1_solve_87 (by decide) ?_
                exact ih23 (c + 1) sw (by omega) (by omega) (SVp_next hSw (by omega)) (by omega) _ _ _ hP (hD.fst rfl) hS (lv_sub hl [1, 2, 3, 0] rfl)
              · have c_44 := nlt_f (a := f0 + n0) (b := f9 + c) (by omega) (by omega) c_44
                refine lv_aload_n hx hb dX1_solve_47 rfl (lv_at hl 0 rfl) ?_
                refine lv_iload hx hb dX1_solve_48 (lv_at hl 4 rfl) ?_
                refine lv_iload_n hx hb dX1_solve_50 rfl (lv_at hl 3 rfl) ?_
                refine aftI0 C (runV_G (As := [.int (nI f9), .int (nI c)]) (rest := []) (ci := 1) (N := 2) (T := TX1) (q0 := 0) C (mX1_bestMoveAt l D G q qp qs f9 c p sw (by omega)) hS hP hD [0, 1, 2] rfl (by decide) rfl rfl (ys_X1_bestMoveAt) kw_6_17 kw_6_18 kw_6_19 ⟨Nat.le_of_ble_eq_true rfl, Nat.le_of_ble_eq_true rfl⟩ hl.1 (Nat.le_of_ble_eq_true rfl) dX1_solve_51 rfl rfl ⟨Nat.zero_le _, Nat.zero_le _⟩) hS hP hD [0, 1, 2] rfl (fun r51 _ H locs hp51 hP hS => ?_)
                refine ro_top (z := (bm (rV p (vat sw) f9 c) 4).1) hx hp51 ?_
                obtain ⟨mv, hm4, hmc, hbm, hVm⟩ := V_best hPR (n := c) (f := f9) (by omega) (by omega)
                refine ro_top (z := nI mv) hx (by rw [SVp_rV hSw (by omega), hbm]) ?_
                refine lv_istore (lv' := [(5, .int (nI mv)), (0, .ref q), (1, .ref g), (2, .int (nI (f0 + n0))), (3, .int (nI c)), (4, .int (nI f9))]) hx hb dX1_solve_54 hl (by decide) rfl (fun ls hl => ?_)
                refine lv_aload_n hx hb dX1_solve_56 rfl (lv_at hl 1 rfl) ?_
                refine va_get (D := D) (ci := 1) (v := .ref qs) (C := RX1) (T := TX1) (N := 2) hx hb hts inlX1 hown hK hP 0 rfl rfl 1 (by decide) (hts _ kw_4_11) (fun _ h9 => h9) rfl dX1_solve_57 ?_
                refine lv_iload hx hb dX1_solve_60 (lv_at hl 5 rfl) ?_
                refine lv_iload_n hx hb dX1_solve_62 rfl (lv_at hl 4 rfl) ?_
                refine aftI0 C (runSN_G (As := [.int (nI f9), .int (nI c)]) (rest := [.ref qs]) C (mX7_cell l D G f9 c (by omega) (by omega) (by omega)) hS hP hD [] rfl (by decide) (ys_X7_cell) nw_8 kw_7_16 ⟨Nat.le_of_ble_eq_true rfl, Nat.le_of_ble_eq_true rfl⟩ hl.1 (Nat.le_of_ble_eq_true rfl) dX1_solve_63 rfl rfl ⟨Nat.zero_le _, Nat.zero_le _⟩) hS hP hD [] rfl (fun r63 _ H locs hp63 hP hS => ?_)
                refine ro_top (z := nI (f9 * 12 + c - 1)) hx hp63 ?_
                refine lv_aload_n hx hb dX1_solve_66 rfl (lv_at hl 1 rfl) ?_
                refine lv_iload hx hb dX1_solve_67 (lv_at hl 5 rfl) ?_
                refine lv_iload_n hx hb dX1_solve_69 rfl (lv_at hl 4 rfl) ?_
                refine lv_iload hx hb dX1_solve_70 (lv_at hl 0 rfl) ?_
                refine aftI0 C (runV_G (As := [.int (nI f9), .int (nI c), .int (nI mv)]) (rest := [.int (nI (f9 * 12 + c - 1)), .ref qs]) (ci := 1) (N := 2) (T := TX1) (q0 := 0) C (mX1_resultAt l D G q qp qs f9 c mv p sw (by omega) (by omega)) hS hP hD [0, 1, 2] rfl (by decide) rfl rfl (ys_X1_resultAt) kw_6_21 kw_6_22 kw_6_23 ⟨Nat.le_of_ble_eq_true rfl, Nat.le_of_ble_eq_true rfl⟩ hl.1 (Nat.le_of_ble_eq_true rfl) dX1_solve_72 rfl rfl ⟨Nat.zero_le _, Nat.zero_le _⟩) hS hP hD [0, 1, 2] rfl (fun r72 _ H locs hp72 hP hS => ?_)
                refine ro_top (z := rV p (vat sw) f9 c mv) hx hp72 ?_
                refine aftV C (runSN_G (As := [.ref qs, .int (nI (f9 * 12 + c - 1)), .int (rV p (vat sw) f9 c mv)]) (rest := []) C (mX7_put l D G qs 144 sw (f9 * 12 + c - 1) (rV p (vat sw) f9 c mv) (by omega) (by omega)) hS hP hD [2] rfl (by decide) (ys_X7_put) nw_30 kw_8_2 ⟨Nat.le_of_ble_eq_true rfl, Nat.le_of_ble_eq_true rfl⟩ hl.1 (Nat.le_of_ble_eq_true rfl) dX1_solve_75 rfl rfl ⟨Nat.zero_le _, Nat.zero_le _⟩) hS hP hD [2] rfl (fun _ => rfl) (fun _ H locs hp75 hP hD hS => ?_)
                have hP : va_P D vwCl [(q, .inr (1, [.ref qp, .ref qs])), (qp, .inl (G.1, 12, .inl p)), (qs, .inl (G.1, 144, .inl (upd sw (f9 * 12 + c - 1) (rV p (vat sw) f9 c mv)))), (g, .inr (2, [.ref gp, .int (nI f0), .int (nI n0), .int (nI t0), .int d0, .int d1])), (gp, .inl (G.1, 12, .inl p))] H := hP
                have hD : va_D A [(q, .inr (1, [.ref qp, .ref qs])), (qp, .inl (G.1, 12, .inl p)), (qs, .inl (G.1, 144, .inl (upd sw (f9 * 12 + c - 1) (rV p (vat sw) f9 c mv)))), (g, .inr (2, [.ref gp, .int (nI f0), .int (nI n0), .int (nI t0), .int d0, .int d1])), (gp, .inl (G.1, 12, .inl p))] := hD
                refine lv_iinc (v := nI (f9 + 1)) (lv' := [(4, .int (nI (f9 + 1))), (5, .int (nI mv)), (0, .ref q), (1, .ref g), (2, .int (nI (f0 + n0))), (3, .int (nI c))]) hx hb dX1_solve_78 hl (k := 5) rfl (nI_add f9 1) (by decide) rfl (fun ls hl => ?_)
                refine lv_goto (tgt := 32) hx hb dX1_solve_81 (by decide) ?_
                exact ih32 (f9 + 1) (upd sw (f9 * 12 + c - 1) (rV p (vat sw) f9 c mv)) (by omega) (SVp_step hSw (by omega) (by omega) (by omega) (by rw [SVp_rV hSw (by omega), hVm])) (by omega) _ _ _ hP (hD.fst rfl) hS (lv_sub hl [2, 3, 4, 5, 0] rfl)
        exact lp32 (12 - 0 + 1) 0 sv9 (by omega) hSv (Nat.lt_succ_self _) _ _ _ hP (hD.fst rfl) hS (lv_sub hl [1, 2, 3, 4, 0] rfl)
  exact lp23 (13 - 1 + 1) 1 sv (by omega) (by omega) SVp_zero (Nat.lt_succ_self _) _ _ _ hP (hD.fst rfl) hS (lv_sub hl [2, 3, 1, 0] rfl)
set_option maxHeartbeats 800000 in
set_option maxRecDepth 100000 in
theorem mX3_stateAt (l : Launch) (D : va_G) (G : u_G) (q qa o c k : Nat) (a : Nat → Nat → Nat) (hk : k < 12) : MtR l D G yX3_stateAt cX3_stateAt 3 ("BoundSearch$State") 1 [.ref q, .int (nI k)] [(q, .inr (3, [.ref qa, .int (nI o), .int (nI c)])), (qa, .inl (G.2.1, 6, .inr (.inr (.inr (.inr (sqf a))))))] (a (ri k) 0) := by
  refine MtR.of (by decide) (Nat.le_of_ble_eq_true rfl) ?_
  intro pr e s9 m9 below meth c9 A ls C hP hD hl
  obtain ⟨hx, hb, hml, hown, hts, hr, hlocks, hA, hAm⟩ := id C
  have hK := hAm.1
  have hS : va_S A s9.heap s9.heap [] := va_S.rf
  have hl : lv_has ls 3 [(0, .ref q), (1, .int (nI k))] := hl
  have hri : ri k = if k < 6 then k else k - 6 := rfl
  refine lv_iload_n hx hb dX3_stateAt_0 rfl (lv_at hl 1 rfl) ?_
  refine lv_bipush (v := 6) hx hb dX3_stateAt_1 (by decide) ?_
  refine lv_icmp_ge (tgt := 10) hx hb dX3_stateAt_3 (by decide) (fun c_3 => ?_) (fun c_3 => ?_)
  · have c_3 := nle_t (a := 6) (b := k) (by omega) (by omega) c_3
    refine lv_iload_n hx hb dX3_stateAt_10 rfl (lv_at hl 1 rfl) ?_
    refine lv_bipush (v := 6) hx hb dX3_stateAt_11 (by decide) ?_
    refine ro_isub (z := nI (k - 6)) hx hb (pk_sub (a := k) (b := 6) (by omega)) dX3_stateAt_13 ?_
    refine lv_istore_n (lv' := [(2, .int (nI (k - 6))), (0, .ref q), (1, .int (nI k))]) hx hb dX3_stateAt_14 rfl hl (by decide) rfl (fun ls hl => ?_)
    refine lv_iload_n hx hb dX3_stateAt_15 rfl (lv_at hl 0 rfl) ?_
    refine lv_if_lt (tgt := 37) hx hb dX3_stateAt_16 (by decide) (fun h => absurd h (nI_pos (by omega))) (fun _ => ?_)
    refine lv_iload_n hx hb dX3_stateAt_19 rfl (lv_at hl 0 rfl) ?_
    refine lv_aload_n hx hb dX3_stateAt_20 rfl (lv_at hl 1 rfl) ?_
    refine va_get (D := D) (ci := 3) (v := .ref qa) (C := RX3) (T := TX3) (N := 3) hx hb hts inlX3 hown hK hP 0 rfl rfl 0 (by decide) (hts _ kw_3_20) (fun _ h9 => h9) rfl dX3_stateAt_21 ?_
    refine va_alen (v := nI 6) hx hb hK hP 1 1 rfl rfl rfl dX3_stateAt_24 ?_
    refine lv_icmp_ge (tgt := 37) hx hb dX3_stateAt_25 (by decide) (fun c_25 => ?_) (fun c_25 => ?_)
    · have c_25 := nle_t (a := 6) (b := k - 6) (by omega) (by omega) c_25
      omega
    · have c_25 := nle_f (a := 6) (b := k - 6) (by omega) (by omega) c_25
      refine lv_aload_n hx hb dX3_stateAt_28 rfl (lv_at hl 1 rfl) ?_
      refine va_get (D := D) (ci := 3) (v := .ref qa) (C := RX3) (T := TX3) (N := 3) hx hb hts inlX3 hown hK hP 0 rfl rfl 0 (by decide) (hts _ kw_3_20) (fun _ h9 => h9) rfl dX3_stateAt_29 ?_
      refine lv_iload_n hx hb dX3_stateAt_32 rfl (lv_at hl 0 rfl) ?_
      have hri2 : ri k = k - 6 := by rw [hri]; first | rw [if_pos (by omega)] | rw [if_neg (by omega)]
      refine ro_top (z := nI (ri k)) hx (congrArg nI hri2.symm) ?_
      have hri3 := ri_lt hk
      refine va_aldq hx hb hK hP 1 1 rfl rfl (vp_in_nI (by omega) (by decide)) dX3_stateAt_33 ?_
      rw [nI_clamp (show ri k < 2 ^ 31 by omega)]
      refine W.eq (g2 := F0 m9 34 ls [.ref (a (ri k) 0)]) rfl ?_
      refine lv_goto (tgt := 38) hx hb dX3_stateAt_34 (by decide) ?_
      exact endR C hS hP dX3_stateAt_38
  · have c_3 := nle_f (a := 6) (b := k) (by omega) (by omega) c_3
    refine lv_iload_n hx hb dX3_stateAt_6 rfl (lv_at hl 1 rfl) ?_
    refine lv_goto (tgt := 14) hx hb dX3_stateAt_7 (by decide) ?_
    refine lv_istore_n (lv' := [(2, .int (nI k)), (0, .ref q), (1, .int (nI k))]) hx hb dX3_stateAt_14 rfl hl (by decide) rfl (fun ls hl => ?_)
    refine lv_iload_n hx hb dX3_stateAt_15 rfl (lv_at hl 0 rfl) ?_
    refine lv_if_lt (tgt := 37) hx hb dX3_stateAt_16 (by decide) (fun h => absurd h (nI_pos (by omega))) (fun _ => ?_)
    refine lv_iload_n hx hb dX3_stateAt_19 rfl (lv_at hl 0 rfl) ?_
    refine lv_aload_n hx hb dX3_stateAt_20 rfl (lv_at hl 1 rfl) ?_
    refine va_get (D := D) (ci := 3) (v := .ref qa) (C := RX3) (T := TX3) (N := 3) hx hb hts inlX3 hown hK hP 0 rfl rfl 0 (by decide) (hts _ kw_3_20) (fun _ h9 => h9) rfl dX3_stateAt_21 ?_
    refine va_alen (v := nI 6) hx hb hK hP 1 1 rfl rfl rfl dX3_stateAt_24 ?_
    refine lv_icmp_ge (tgt := 37) hx hb dX3_stateAt_25 (by decide) (fun c_25 => ?_) (fun c_25 => ?_)
    · have c_25 := nle_t (a := 6) (b := k) (by omega) (by omega) c_25
      omega
    · have c_25 := nle_f (a := 6) (b := k) (by omega) (by omega) c_25
      refine lv_aload_n hx hb dX3_stateAt_28 rfl (lv_at hl 1 rfl) ?_
      refine va_get (D := D) (ci := 3) (v := .ref qa) (C := RX3) (T := TX3) (N := 3) hx hb hts inlX3 hown hK hP 0 rfl rfl 0 (by decide) (hts _ kw_3_20) (fun _ h9 => h9) rfl dX3_stateAt_29 ?_
      refine lv_iload_n hx hb dX3_stateAt_32 rfl (lv_at hl 0 rfl) ?_
      have hri2 : ri k = k := by rw [hri]; first | rw [if_pos (by omega)] | rw [if_neg (by omega)]
      refine ro_top (z := nI (ri k)) hx (congrArg nI hri2.symm) ?_
      have hri3 := ri_lt hk
      refine va_aldq hx hb hK hP 1 1 rfl rfl (vp_in_nI (by omega) (by decide)) dX3_stateAt_33 ?_
      rw [nI_clamp (show ri k < 2 ^ 31 by omega)]
      refine W.eq (g2 := F0 m9 34 ls [.ref (a (ri k) 0)]) rfl ?_
      refine lv_goto (tgt := 38) hx hb dX3_stateAt_34 (by decide) ?_
      exact endR C hS hP dX3_stateAt_38
set_option maxHeartbeats 800000 in
set_option maxRecDepth 100000 in
theorem mX3_save (l : Launch) (D : va_G) (G : u_G) (q qa o c : Nat) (a : Nat → Nat → Nat) (b : Nat → Nat) (x : Nat → Nat) (y p : Nat → Int32) (xs : Nat → Nat → Nat) (ys ps : Nat → Nat → Int32) (ho : o < 6) (hc : c ≤ 6) : MtV l D G yX3_save cX3_save 3 4 0 0 [.ref q, .ref (b 0)] ([(q, .inr (3, [.ref qa, .int (nI o), .int (nI c)])), (qa, .inl (G.2.1, 6, .inr (.inr (.inr (.inr (sqf a)))))), (b 0, .inr (6, [.ref (b 1), .ref (b 3), .int (nI (x 18)), .int (nI (x 19)), .int (bI (x 20 = 0))])), (b 1, .inr (2, [.ref (b 2), .int (nI (x 13)), .int (nI (x 14)), .int (nI (x 15)), .int (y 16), .int (y 17)])), (b 2, .inl (G.1, 12, .inl p)), (b 3, .inr (0, [.int (y 21), .int (nI (x 22)), .int (y 23), .int (y 24), .ref (b 4), .ref (b 5)])), (b 4, .inl (G.1, 144, .inl (kdY y))), (b 5, .inl (G.1, 144, .inl (vlY y)))] ++ svw G a xs ys ps) (fun (_ : Unit) => True) (fun (_ : Unit) => ([(q, .inr (3, [.ref qa, .int (nI (svO o c)), .int (nI (svC c))])), (qa, .inl (G.2.1, 6, .inr (.inr (.inr (.inr (sqf a)))))), (b 0, .inr (6, [.ref (b 1), .ref (b 3), .int (nI (x 18)), .int (nI (x 19)), .int (bI (x 20 = 0))])), (b 1, .inr (2, [.ref (b 2), .int (nI (x 13)), .int (nI (x 14)), .int (nI (x 15)), .int (y 16), .int (y 17)])), (b 2, .inl (G.1, 12, .inl p)), (b 3, .inr (0, [.int (y 21), .int (nI (x 22)), .int (y 23), .int (y 24), .ref (b 4), .ref (b 5)])), (b 4, .inl (G.1, 144, .inl (kdY y))), (b 5, .inl (G.1, 144, .inl (vlY y)))] ++ svw G a (sx xs (ri (o + c)) x) (sx ys (ri (o + c)) y) (sx ps (ri (o + c)) p))) := by
  refine MtV.of (by decide) (Nat.le_of_ble_eq_true rfl) ?_
  intro pr e s9 m9 below meth c9 A ls C hP hD hl hin
  obtain ⟨hx, hb, hml, hown, hts, hr, hlocks, hA, hAm⟩ := id C
  have hK := hAm.1
  have hS : va_S A s9.heap s9.heap [] := va_S.rf
  have hl : lv_has ls 3 [(0, .ref q), (1, .ref (b 0))] := hl
  obtain ⟨j, hj, hje⟩ : ∃ j, j < 6 ∧ ri (o + c) = j := ⟨_, ri_lt (by omega), rfl⟩
  rw [hje]
  refine lv_aload_n hx hb dX3_save_0 rfl (lv_at hl 0 rfl) ?_
  refine lv_aload_n hx hb dX3_save_1 rfl (lv_at hl 0 rfl) ?_
  refine va_get (D := D) (ci := 3) (v := .int (nI o)) (C := RX3) (T := TX3) (N := 3) hx hb hts inlX3 hown hK hP 0 rfl rfl 1 (by decide) (hts _ kw_3_21) (fun _ h9 => h9) rfl dX3_save_2 ?_
  refine lv_aload_n hx hb dX3_save_5 rfl (lv_at hl 0 rfl) ?_
  refine va_get (D := D) (ci := 3) (v := .int (nI c)) (C := RX3) (T := TX3) (N := 3) hx hb hts inlX3 hown hK hP 0 rfl rfl 2 (by decide) (hts _ kw_3_22) (fun _ h9 => h9) rfl dX3_save_6 ?_
  refine ro_iadd (z := nI (o + c)) hx hb (nI_add o c) dX3_save_9 ?_
  refine aftR C (runV_G (As := [.int (nI (o + c))]) (rest := []) (ci := 3) (N := 3) (T := TX3) (q0 := 0) C (mX3_stateAt l D G q qa o c (o + c) a (by omega)) hS hP hD [0, 1] rfl (by decide) rfl rfl (ys_X3_stateAt) kw_5_16 kw_5_17 kw_5_18 ⟨Nat.le_of_ble_eq_true rfl, Nat.le_of_ble_eq_true rfl⟩ hl.1 (Nat.le_of_ble_eq_true rfl) dX3_save_10 rfl rfl ⟨Nat.zero_le _, Nat.zero_le _⟩) hS hP hD [0, 1] rfl (fun H locs hP hS => ?_)
  rw [hje]
  refine lv_astore_n (lv' := [(2, .ref (a j 0)), (0, .ref q), (1, .ref (b 0))]) hx hb dX3_save_13 rfl hl (by decide) rfl (fun ls hl => ?_)
  refine lv_aload_n hx hb dX3_save_14 rfl (lv_at hl 0 rfl) ?_
  refine lv_ifnull hx hb dX3_save_15 ?_
  refine lv_aload_n hx hb dX3_save_18 rfl (lv_at hl 0 rfl) ?_
  refine lv_aload_n hx hb dX3_save_19 rfl (lv_at hl 2 rfl) ?_
  refine aftV C (runV_G (As := [.ref (b 0)]) (rest := []) (ci := 6) (N := 5) (T := TX6) (q0 := 8 + 6 * j) (bq := a j 0) (fs := [.ref (a j 1), .ref (a j 3), .int (nI (xs j 18)), .int (nI (xs j 19)), .int (bI (xs j 20 = 0))]) C (mX6_copyFrom l D G (a j) b (xs j) x (ys j) (ps j) y p) hS hP hD (svI 8 j ++ [2, 3, 4, 5, 6, 7]) (by rcases six hj with rfl | rfl | rfl | rfl | rfl | rfl <;> rfl) (by rcases six hj with rfl | rfl | rfl | rfl | rfl | rfl <;> decide) (by rcases six hj with rfl | rfl | rfl | rfl | rfl | rfl <;> rfl) rfl ys_X6_copyFrom kw_5_20 kw_5_21 kw_5_22 ⟨Nat.le_of_ble_eq_true rfl, Nat.le_of_ble_eq_true rfl⟩ hl.1 (Nat.le_of_ble_eq_true rfl) dX3_save_20 rfl rfl ⟨Nat.le_refl _, Nat.le_refl _⟩) hS hP hD (svI 8 j ++ [2, 3, 4, 5, 6, 7]) (by rcases six hj with rfl | rfl | rfl | rfl | rfl | rfl <;> rfl) (fun _ => rfl) (fun _ H locs hp20 hP hD hS => ?_)
  have eW : wput ([(q, .inr (3, [.ref qa, .int (nI o), .int (nI c)])), (qa, .inl (G.2.1, 6, .inr (.inr (.inr (.inr (sqf a)))))), (b 0, .inr (6, [.ref (b 1), .ref (b 3), .int (nI (x 18)), .int (nI (x 19)), .int (bI (x 20 = 0))])), (b 1, .inr (2, [.ref (b 2), .int (nI (x 13)), .int (nI (x 14)), .int (nI (x 15)), .int (y 16), .int (y 17)])), (b 2, .inl (G.1, 12, .inl p)), (b 3, .inr (0, [.int (y 21), .int (nI (x 22)), .int (y 23), .int (y 24), .ref (b 4), .ref (b 5)])), (b 4, .inl (G.1, 144, .inl (kdY y))), (b 5, .inl (G.1, 144, .inl (vlY y)))] ++ svw G a xs ys ps) (svI 8 j ++ [2, 3, 4, 5, 6, 7]) (stw G (a j) x y p ++ stw G b x y p) = ([(q, .inr (3, [.ref qa, .int (nI o), .int (nI c)])), (qa, .inl (G.2.1, 6, .inr (.inr (.inr (.inr (sqf a)))))), (b 0, .inr (6, [.ref (b 1), .ref (b 3), .int (nI (x 18)), .int (nI (x 19)), .int (bI (x 20 = 0))])), (b 1, .inr (2, [.ref (b 2), .int (nI (x 13)), .int (nI (x 14)), .int (nI (x 15)), .int (y 16), .int (y 17)])), (b 2, .inl (G.1, 12, .inl p)), (b 3, .inr (0, [.int (y 21), .int (nI (x 22)), .int (y 23), .int (y 24), .ref (b 4), .ref (b 5)])), (b 4, .inl (G.1, 144, .inl (kdY y))), (b 5, .inl (G.1, 144, .inl (vlY y)))] ++ svw G a (sx xs j x) (sx ys j y) (sx ps j p)) := (by rcases six hj with rfl | rfl | rfl | rfl | rfl | rfl <;> rfl)
  have hP : va_P D vwCl ([(q, .inr (3, [.ref qa, .int (nI o), .int (nI c)])), (qa, .inl (G.2.1, 6, .inr (.inr (.inr (.inr (sqf a)))))), (b 0, .inr (6, [.ref (b 1), .ref (b 3), .int (nI (x 18)), .int (nI (x 19)), .int (bI (x 20 = 0))])), (b 1, .inr (2, [.ref (b 2), .int (nI (x 13)), .int (nI (x 14)), .int (nI (x 15)), .int (y 16), .int (y 17)])), (b 2, .inl (G.1, 12, .inl p)), (b 3, .inr (0, [.int (y 21), .int (nI (x 22)), .int (y 23), .int (y 24), .ref (b 4), .ref (b 5)])), (b 4, .inl (G.1, 144, .inl (kdY y))), (b 5, .inl (G.1, 144, .inl (vlY y)))] ++ svw G a (sx xs j x) (sx ys j y) (sx ps j p)) H := eW ▸ hP
  have hD : va_D A ([(q, .inr (3, [.ref qa, .int (nI o), .int (nI c)])), (qa, .inl (G.2.1, 6, .inr (.inr (.inr (.inr (sqf a)))))), (b 0, .inr (6, [.ref (b 1), .ref (b 3), .int (nI (x 18)), .int (nI (x 19)), .int (bI (x 20 = 0))])), (b 1, .inr (2, [.ref (b 2), .int (nI (x 13)), .int (nI (x 14)), .int (nI (x 15)), .int (y 16), .int (y 17)])), (b 2, .inl (G.1, 12, .inl p)), (b 3, .inr (0, [.int (y 21), .int (nI (x 22)), .int (y 23), .int (y 24), .ref (b 4), .ref (b 5)])), (b 4, .inl (G.1, 144, .inl (kdY y))), (b 5, .inl (G.1, 144, .inl (vlY y)))] ++ svw G a (sx xs j x) (sx ys j y) (sx ps j p)) := eW ▸ hD
  refine lv_aload_n hx hb dX3_save_23 rfl (lv_at hl 1 rfl) ?_
  refine va_get (D := D) (ci := 3) (v := .int (nI c)) (C := RX3) (T := TX3) (N := 3) hx hb hts inlX3 hown hK hP 0 rfl rfl 2 (by decide) (hts _ kw_3_22) (fun _ h9 => h9) rfl dX3_save_24 ?_
  refine lv_bipush (v := 6) hx hb dX3_save_27 (by decide) ?_
  refine lv_icmp_ge (tgt := 45) hx hb dX3_save_29 (by decide) (fun c_29 => ?_) (fun c_29 => ?_)
  · have c_29 := nle_t (a := 6) (b := c) (by omega) (by omega) c_29
    refine lv_aload_n hx hb dX3_save_45 rfl (lv_at hl 1 rfl) ?_
    refine lv_aload_n hx hb dX3_save_46 rfl (lv_at hl 1 rfl) ?_
    refine va_get (D := D) (ci := 3) (v := .int (nI o)) (C := RX3) (T := TX3) (N := 3) hx hb hts inlX3 hown hK hP 0 rfl rfl 1 (by decide) (hts _ kw_3_21) (fun _ h9 => h9) rfl dX3_save_47 ?_
    refine lv_iconst (v := 1) hx hb dX3_save_50 (by decide) ?_
    refine ro_iadd (z := nI (o + 1)) hx hb (nI_add o 1) dX3_save_51 ?_
    refine lv_bipush (v := 6) hx hb dX3_save_52 (by decide) ?_
    refine lv_icmp_ge (tgt := 66) hx hb dX3_save_54 (by decide) (fun c_54 => ?_) (fun c_54 => ?_)
    · have c_54 := nle_t (a := 6) (b := o + 1) (by omega) (by omega) c_54
      refine lv_iconst (v := 0) hx hb dX3_save_66 (by decide) ?_
      refine va_put (D := D) (ci := 3) (v := .int 0) (ty := .int) (C := RX3) (T := TX3) (N := 3) hx hb hts inlX3 tyX3 tyX3_ok nmX3 hown hK hP hD hS 0 rfl rfl 1 (by decide) (hts _ kw_3_21) (fun _ h9 => h9) rfl (by decide +kernel) rfl rfl (Nat.le_of_ble_eq_true rfl) dX3_save_67 (fun H locs hP hD hS => ?_)
      have hP : va_P D vwCl ([(q, .inr (3, [.ref qa, .int 0, .int (nI c)])), (qa, .inl (G.2.1, 6, .inr (.inr (.inr (.inr (sqf a)))))), (b 0, .inr (6, [.ref (b 1), .ref (b 3), .int (nI (x 18)), .int (nI (x 19)), .int (bI (x 20 = 0))])), (b 1, .inr (2, [.ref (b 2), .int (nI (x 13)), .int (nI (x 14)), .int (nI (x 15)), .int (y 16), .int (y 17)])), (b 2, .inl (G.1, 12, .inl p)), (b 3, .inr (0, [.int (y 21), .int (nI (x 22)), .int (y 23), .int (y 24), .ref (b 4), .ref (b 5)])), (b 4, .inl (G.1, 144, .inl (kdY y))), (b 5, .inl (G.1, 144, .inl (vlY y)))] ++ svw G a (sx xs j x) (sx ys j y) (sx ps j p)) H := hP
      have hD : va_D A ([(q, .inr (3, [.ref qa, .int 0, .int (nI c)])), (qa, .inl (G.2.1, 6, .inr (.inr (.inr (.inr (sqf a)))))), (b 0, .inr (6, [.ref (b 1), .ref (b 3), .int (nI (x 18)), .int (nI (x 19)), .int (bI (x 20 = 0))])), (b 1, .inr (2, [.ref (b 2), .int (nI (x 13)), .int (nI (x 14)), .int (nI (x 15)), .int (y 16), .int (y 17)])), (b 2, .inl (G.1, 12, .inl p)), (b 3, .inr (0, [.int (y 21), .int (nI (x 22)), .int (y 23), .int (y 24), .ref (b 4), .ref (b 5)])), (b 4, .inl (G.1, 144, .inl (kdY y))), (b 5, .inl (G.1, 144, .inl (vlY y)))] ++ svw G a (sx xs j x) (sx ys j y) (sx ps j p)) := hD
      exact endV C () trivial hS (by rw [show svC c = c from if_neg (by omega), show svO o c = ri (o + 1) from if_neg (by omega), show ri (o + 1) = 0 by unfold ri; rw [if_neg (by omega)]; omega]; exact hP) (hD.fst rfl) dX3_save_70
    · have c_54 := nle_f (a := 6) (b := o + 1) (by omega) (by omega) c_54
      refine lv_aload_n hx hb dX3_save_57 rfl (lv_at hl 1 rfl) ?_
      refine va_get (D := D) (ci := 3) (v := .int (nI o)) (C := RX3) (T := TX3) (N := 3) hx hb hts inlX3 hown hK hP 0 rfl rfl 1 (by decide) (hts _ kw_3_21) (fun _ h9 => h9) rfl dX3_save_58 ?_
      refine lv_iconst (v := 1) hx hb dX3_save_61 (by decide) ?_
      refine ro_iadd (z := nI (o + 1)) hx hb (nI_add o 1) dX3_save_62 ?_
      refine lv_goto (tgt := 67) hx hb dX3_save_63 (by decide) ?_
      refine va_put (D := D) (ci := 3) (v := .int (nI (o + 1))) (ty := .int) (C := RX3) (T := TX3) (N := 3) hx hb hts inlX3 tyX3 tyX3_ok nmX3 hown hK hP hD hS 0 rfl rfl 1 (by decide) (hts _ kw_3_21) (fun _ h9 => h9) rfl (by decide +kernel) rfl rfl (Nat.le_of_ble_eq_true rfl) dX3_save_67 (fun H locs hP hD hS => ?_)
      have hP : va_P D vwCl ([(q, .inr (3, [.ref qa, .int (nI (o + 1)), .int (nI c)])), (qa, .inl (G.2.1, 6, .inr (.inr (.inr (.inr (sqf a)))))), (b 0, .inr (6, [.ref (b 1), .ref (b 3), .int (nI (x 18)), .int (nI (x 19)), .int (bI (x 20 = 0))])), (b 1, .inr (2, [.ref (b 2), .int (nI (x 13)), .int (nI (x 14)), .int (nI (x 15)), .int (y 16), .int (y 17)])), (b 2, .inl (G.1, 12, .inl p)), (b 3, .inr (0, [.int (y 21), .int (nI (x 22)), .int (y 23), .int (y 24), .ref (b 4), .ref (b 5)])), (b 4, .inl (G.1, 144, .inl (kdY y))), (b 5, .inl (G.1, 144, .inl (vlY y)))] ++ svw G a (sx xs j x) (sx ys j y) (sx ps j p)) H := hP
      have hD : va_D A ([(q, .inr (3, [.ref qa, .int (nI (o + 1)), .int (nI c)])), (qa, .inl (G.2.1, 6, .inr (.inr (.inr (.inr (sqf a)))))), (b 0, .inr (6, [.ref (b 1), .ref (b 3), .int (nI (x 18)), .int (nI (x 19)), .int (bI (x 20 = 0))])), (b 1, .inr (2, [.ref (b 2), .int (nI (x 13)), .int (nI (x 14)), .int (nI (x 15)), .int (y 16), .int (y 17)])), (b 2, .inl (G.1, 12, .inl p)), (b 3, .inr (0, [.int (y 21), .int (nI (x 22)), .int (y 23), .int (y 24), .ref (b 4), .ref (b 5)])), (b 4, .inl (G.1, 144, .inl (kdY y))), (b 5, .inl (G.1, 144, .inl (vlY y)))] ++ svw G a (sx xs j x) (sx ys j y) (sx ps j p)) := hD
      exact endV C () trivial hS (by rw [show svC c = c from if_neg (by omega), show svO o c = ri (o + 1) from if_neg (by omega), show ri (o + 1) = o + 1 from if_pos (by omega)]; exact hP) (hD.fst rfl) dX3_save_70
  · have c_29 := nle_f (a := 6) (b := c) (by omega) (by omega) c_29
    refine lv_aload_n hx hb dX3_save_32 rfl (lv_at hl 1 rfl) ?_
    refine lv_dup hx hb dX3_save_33 rfl ?_
    refine va_get (D := D) (ci := 3) (v := .int (nI c)) (C := RX3) (T := TX3) (N := 3) hx hb hts inlX3 hown hK hP 0 rfl rfl 2 (by decide) (hts _ kw_3_22) (fun _ h9 => h9) rfl dX3_save_34 ?_
    refine lv_iconst (v := 1) hx hb dX3_save_37 (by decide) ?_
    refine ro_iadd (z := nI (c + 1)) hx hb (nI_add c 1) dX3_save_38 ?_
    refine va_put (D := D) (ci := 3) (v := .int (nI (c + 1))) (ty := .int) (C := RX3) (T := TX3) (N := 3) hx hb hts inlX3 tyX3 tyX3_ok nmX3 hown hK hP hD hS 0 rfl rfl 2 (by decide) (hts _ kw_3_22) (fun _ h9 => h9) rfl (by decide +kernel) rfl rfl (Nat.le_of_ble_eq_true rfl) dX3_save_39 (fun H locs hP hD hS => ?_)
    have hP : va_P D vwCl ([(q, .inr (3, [.ref qa, .int (nI o), .int (nI (c + 1))])), (qa, .inl (G.2.1, 6, .inr (.inr (.inr (.inr (sqf a)))))), (b 0, .inr (6, [.ref (b 1), .ref (b 3), .int (nI (x 18)), .int (nI (x 19)), .int (bI (x 20 = 0))])), (b 1, .inr (2, [.ref (b 2), .int (nI (x 13)), .int (nI (x 14)), .int (nI (x 15)), .int (y 16), .int (y 17)])), (b 2, .inl (G.1, 12, .inl p)), (b 3, .inr (0, [.int (y 21), .int (nI (x 22)), .int (y 23), .int (y 24), .ref (b 4), .ref (b 5)])), (b 4, .inl (G.1, 144, .inl (kdY y))), (b 5, .inl (G.1, 144, .inl (vlY y)))] ++ svw G a (sx xs j x) (sx ys j y) (sx ps j p)) H := hP
    have hD : va_D A ([(q, .inr (3, [.ref qa, .int (nI o), .int (nI (c + 1))])), (qa, .inl (G.2.1, 6, .inr (.inr (.inr (.inr (sqf a)))))), (b 0, .inr (6, [.ref (b 1), .ref (b 3), .int (nI (x 18)), .int (nI (x 19)), .int (bI (x 20 = 0))])), (b 1, .inr (2, [.ref (b 2), .int (nI (x 13)), .int (nI (x 14)), .int (nI (x 15)), .int (y 16), .int (y 17)])), (b 2, .inl (G.1, 12, .inl p)), (b 3, .inr (0, [.int (y 21), .int (nI (x 22)), .int (y 23), .int (y 24), .ref (b 4), .ref (b 5)])), (b 4, .inl (G.1, 144, .inl (kdY y))), (b 5, .inl (G.1, 144, .inl (vlY y)))] ++ svw G a (sx xs j x) (sx ys j y) (sx ps j p)) := hD
    refine lv_goto (tgt := 70) hx hb dX3_save_42 (by decide) ?_
    exact endV C () trivial hS (by rw [show svO o c = o from if_pos c_29, show svC c = c + 1 from if_pos c_29]; exact hP) (hD.fst rfl) dX3_save_70
set_option maxHeartbeats 800000 in
set_option maxRecDepth 100000 in
theorem mX3_restore (l : Launch) (D : va_G) (G : u_G) (q qa o c : Nat) (a : Nat → Nat → Nat) (b : Nat → Nat) (x : Nat → Nat) (y p : Nat → Int32) (xs : Nat → Nat → Nat) (ys ps : Nat → Nat → Int32) (ho : o < 6) (hc : c ≤ 6) (hc1 : 1 ≤ c) : MtV l D G yX3_restore cX3_restore 3 4 0 0 [.ref q, .ref (b 0)] ([(q, .inr (3, [.ref qa, .int (nI o), .int (nI c)])), (qa, .inl (G.2.1, 6, .inr (.inr (.inr (.inr (sqf a)))))), (b 0, .inr (6, [.ref (b 1), .ref (b 3), .int (nI (x 18)), .int (nI (x 19)), .int (bI (x 20 = 0))])), (b 1, .inr (2, [.ref (b 2), .int (nI (x 13)), .int (nI (x 14)), .int (nI (x 15)), .int (y 16), .int (y 17)])), (b 2, .inl (G.1, 12, .inl p)), (b 3, .inr (0, [.int (y 21), .int (nI (x 22)), .int (y 23), .int (y 24), .ref (b 4), .ref (b 5)])), (b 4, .inl (G.1, 144, .inl (kdY y))), (b 5, .inl (G.1, 144, .inl (vlY y)))] ++ svw G a xs ys ps) (fun (_ : Unit) => True) (fun (_ : Unit) => ([(q, .inr (3, [.ref qa, .int (nI o), .int (nI (c - 1))])), (qa, .inl (G.2.1, 6, .inr (.inr (.inr (.inr (sqf a)))))), (b 0, .inr (6, [.ref (b 1), .ref (b 3), .int (nI ((xs (ri (o + (c - 1)))) 18)), .int (nI ((xs (ri (o + (c - 1)))) 19)), .int (bI ((xs (ri (o + (c - 1)))) 20 = 0))])), (b 1, .inr (2, [.ref (b 2), .int (nI ((xs (ri (o + (c - 1)))) 13)), .int (nI ((xs (ri (o + (c - 1)))) 14)), .int (nI ((xs (ri (o + (c - 1)))) 15)), .int ((ys (ri (o + (c - 1)))) 16), .int ((ys (ri (o + (c - 1)))) 17)])), (b 2, .inl (G.1, 12, .inl (ps (ri (o + (c - 1)))))), (b 3, .inr (0, [.int ((ys (ri (o + (c - 1)))) 21), .int (nI ((xs (ri (o + (c - 1)))) 22)), .int ((ys (ri (o + (c - 1)))) 23), .int ((ys (ri (o + (c - 1)))) 24), .ref (b 4), .ref (b 5)])), (b 4, .inl (G.1, 144, .inl (kdY (ys (ri (o + (c - 1))))))), (b 5, .inl (G.1, 144, .inl (vlY (ys (ri (o + (c - 1)))))))] ++ svw G a xs ys ps)) := by
  refine MtV.of (by decide) (Nat.le_of_ble_eq_true rfl) ?_
  intro pr e s9 m9 below meth c9 A ls C hP hD hl hin
  obtain ⟨hx, hb, hml, hown, hts, hr, hlocks, hA, hAm⟩ := id C
  have hK := hAm.1
  have hS : va_S A s9.heap s9.heap [] := va_S.rf
  have hl : lv_has ls 3 [(0, .ref q), (1, .ref (b 0))] := hl
  obtain ⟨j, hj, hje⟩ : ∃ j, j < 6 ∧ ri (o + (c - 1)) = j := ⟨_, ri_lt (by omega), rfl⟩
  rw [hje]
  refine lv_aload_n hx hb dX3_restore_0 rfl (lv_at hl 0 rfl) ?_
  refine va_get (D := D) (ci := 3) (v := .int (nI c)) (C := RX3) (T := TX3) (N := 3) hx hb hts inlX3 hown hK hP 0 rfl rfl 2 (by decide) (hts _ kw_3_22) (fun _ h9 => h9) rfl dX3_restore_1 ?_
  refine lv_if_gt (tgt := 8) hx hb dX3_restore_4 (by decide) (fun c_4 => ?_) (fun c_4 => ?_)
  · have c_4 := nlt_t (a := 0) (b := c) (by omega) (by omega) c_4
    refine lv_aload_n hx hb dX3_restore_8 rfl (lv_at hl 0 rfl) ?_
    refine lv_dup hx hb dX3_restore_9 rfl ?_
    refine va_get (D := D) (ci := 3) (v := .int (nI c)) (C := RX3) (T := TX3) (N := 3) hx hb hts inlX3 hown hK hP 0 rfl rfl 2 (by decide) (hts _ kw_3_22) (fun _ h9 => h9) rfl dX3_restore_10 ?_
    refine lv_iconst (v := 1) hx hb dX3_restore_13 (by decide) ?_
    refine ro_isub (z := nI (c - 1)) hx hb (pk_sub (a := c) (b := 1) (by omega)) dX3_restore_14 ?_
    refine va_put (D := D) (ci := 3) (v := .int (nI (c - 1))) (ty := .int) (C := RX3) (T := TX3) (N := 3) hx hb hts inlX3 tyX3 tyX3_ok nmX3 hown hK hP hD hS 0 rfl rfl 2 (by decide) (hts _ kw_3_22) (fun _ h9 => h9) rfl (by decide +kernel) rfl rfl (Nat.le_of_ble_eq_true rfl) dX3_restore_15 (fun H locs hP hD hS => ?_)
    have hP : va_P D vwCl ([(q, .inr (3, [.ref qa, .int (nI o), .int (nI (c - 1))])), (qa, .inl (G.2.1, 6, .inr (.inr (.inr (.inr (sqf a)))))), (b 0, .inr (6, [.ref (b 1), .ref (b 3), .int (nI (x 18)), .int (nI (x 19)), .int (bI (x 20 = 0))])), (b 1, .inr (2, [.ref (b 2), .int (nI (x 13)), .int (nI (x 14)), .int (nI (x 15)), .int (y 16), .int (y 17)])), (b 2, .inl (G.1, 12, .inl p)), (b 3, .inr (0, [.int (y 21), .int (nI (x 22)), .int (y 23), .int (y 24), .ref (b 4), .ref (b 5)])), (b 4, .inl (G.1, 144, .inl (kdY y))), (b 5, .inl (G.1, 144, .inl (vlY y)))] ++ svw G a xs ys ps) H := hP
    have hD : va_D A ([(q, .inr (3, [.ref qa, .int (nI o), .int (nI (c - 1))])), (qa, .inl (G.2.1, 6, .inr (.inr (.inr (.inr (sqf a)))))), (b 0, .inr (6, [.ref (b 1), .ref (b 3), .int (nI (x 18)), .int (nI (x 19)), .int (bI (x 20 = 0))])), (b 1, .inr (2, [.ref (b 2), .int (nI (x 13)), .int (nI (x 14)), .int (nI (x 15)), .int (y 16), .int (y 17)])), (b 2, .inl (G.1, 12, .inl p)), (b 3, .inr (0, [.int (y 21), .int (nI (x 22)), .int (y 23), .int (y 24), .ref (b 4), .ref (b 5)])), (b 4, .inl (G.1, 144, .inl (kdY y))), (b 5, .inl (G.1, 144, .inl (vlY y)))] ++ svw G a xs ys ps) := hD
    refine lv_aload_n hx hb dX3_restore_18 rfl (lv_at hl 0 rfl) ?_
    refine lv_aload_n hx hb dX3_restore_19 rfl (lv_at hl 0 rfl) ?_
    refine va_get (D := D) (ci := 3) (v := .int (nI o)) (C := RX3) (T := TX3) (N := 3) hx hb hts inlX3 hown hK hP 0 rfl rfl 1 (by decide) (hts _ kw_3_21) (fun _ h9 => h9) rfl dX3_restore_20 ?_
    refine lv_aload_n hx hb dX3_restore_23 rfl (lv_at hl 0 rfl) ?_
    refine va_get (D := D) (ci := 3) (v := .int (nI (c - 1))) (C := RX3) (T := TX3) (N := 3) hx hb hts inlX3 hown hK hP 0 rfl rfl 2 (by decide) (hts _ kw_3_22) (fun _ h9 => h9) rfl dX3_restore_24 ?_
    refine ro_iadd (z := nI (o + (c - 1))) hx hb (nI_add o (c - 1)) dX3_restore_27 ?_
    refine aftR C (runV_G (As := [.int (nI (o + (c - 1)))]) (rest := []) (ci := 3) (N := 3) (T := TX3) (q0 := 0) C (mX3_stateAt l D G q qa o (c - 1) (o + (c - 1)) a (by omega)) hS hP hD [0, 1] rfl (by decide) rfl rfl (ys_X3_stateAt) kw_5_16 kw_5_17 kw_5_18 ⟨Nat.le_of_ble_eq_true rfl, Nat.le_of_ble_eq_true rfl⟩ hl.1 (Nat.le_of_ble_eq_true rfl) dX3_restore_28 rfl rfl ⟨Nat.zero_le _, Nat.zero_le _⟩) hS hP hD [0, 1] rfl (fun H locs hP hS => ?_)
    rw [hje]
    refine lv_astore_n (lv' := [(2, .ref (a j 0)), (0, .ref q), (1, .ref (b 0))]) hx hb dX3_restore_31 rfl hl (by decide) rfl (fun ls hl => ?_)
    refine lv_aload_n hx hb dX3_restore_32 rfl (lv_at hl 0 rfl) ?_
    refine lv_ifnull hx hb dX3_restore_33 ?_
    refine lv_aload_n hx hb dX3_restore_36 rfl (lv_at hl 2 rfl) ?_
    refine lv_aload_n hx hb dX3_restore_37 rfl (lv_at hl 0 rfl) ?_
    refine aftV C (runV_G (As := [.ref (a j 0)]) (rest := []) (ci := 6) (N := 5) (T := TX6) (q0 := 2) C (mX6_copyFrom l D G b (a j) x (xs j) y p (ys j) (ps j)) hS hP hD ([2, 3, 4, 5, 6, 7] ++ svI 8 j) (by rcases six hj with rfl | rfl | rfl | rfl | rfl | rfl <;> rfl) (by rcases six hj with rfl | rfl | rfl | rfl | rfl | rfl <;> decide) rfl rfl ys_X6_copyFrom kw_5_20 kw_5_21 kw_5_22 ⟨Nat.le_of_ble_eq_true rfl, Nat.le_of_ble_eq_true rfl⟩ hl.1 (Nat.le_of_ble_eq_true rfl) dX3_restore_38 rfl rfl ⟨Nat.le_refl _, Nat.le_refl _⟩) hS hP hD ([2, 3, 4, 5, 6, 7] ++ svI 8 j) (by rcases six hj with rfl | rfl | rfl | rfl | rfl | rfl <;> rfl) (fun _ => rfl) (fun _ H locs hp38 hP hD hS => ?_)
    have eW : wput ([(q, .inr (3, [.ref qa, .int (nI o), .int (nI (c - 1))])), (qa, .inl (G.2.1, 6, .inr (.inr (.inr (.inr (sqf a)))))), (b 0, .inr (6, [.ref (b 1), .ref (b 3), .int (nI (x 18)), .int (nI (x 19)), .int (bI (x 20 = 0))])), (b 1, .inr (2, [.ref (b 2), .int (nI (x 13)), .int (nI (x 14)), .int (nI (x 15)), .int (y 16), .int (y 17)])), (b 2, .inl (G.1, 12, .inl p)), (b 3, .inr (0, [.int (y 21), .int (nI (x 22)), .int (y 23), .int (y 24), .ref (b 4), .ref (b 5)])), (b 4, .inl (G.1, 144, .inl (kdY y))), (b 5, .inl (G.1, 144, .inl (vlY y)))] ++ svw G a xs ys ps) ([2, 3, 4, 5, 6, 7] ++ svI 8 j) (stw G b (xs j) (ys j) (ps j) ++ stw G (a j) (xs j) (ys j) (ps j)) = ([(q, .inr (3, [.ref qa, .int (nI o), .int (nI (c - 1))])), (qa, .inl (G.2.1, 6, .inr (.inr (.inr (.inr (sqf a)))))), (b 0, .inr (6, [.ref (b 1), .ref (b 3), .int (nI ((xs j) 18)), .int (nI ((xs j) 19)), .int (bI ((xs j) 20 = 0))])), (b 1, .inr (2, [.ref (b 2), .int (nI ((xs j) 13)), .int (nI ((xs j) 14)), .int (nI ((xs j) 15)), .int ((ys j) 16), .int ((ys j) 17)])), (b 2, .inl (G.1, 12, .inl (ps j))), (b 3, .inr (0, [.int ((ys j) 21), .int (nI ((xs j) 22)), .int ((ys j) 23), .int ((ys j) 24), .ref (b 4), .ref (b 5)])), (b 4, .inl (G.1, 144, .inl (kdY (ys j)))), (b 5, .inl (G.1, 144, .inl (vlY (ys j))))] ++ svw G a xs ys ps) := (by rcases six hj with rfl | rfl | rfl | rfl | rfl | rfl <;> rfl)
    have hP : va_P D vwCl ([(q, .inr (3, [.ref qa, .int (nI o), .int (nI (c - 1))])), (qa, .inl (G.2.1, 6, .inr (.inr (.inr (.inr (sqf a)))))), (b 0, .inr (6, [.ref (b 1), .ref (b 3), .int (nI ((xs j) 18)), .int (nI ((xs j) 19)), .int (bI ((xs j) 20 = 0))])), (b 1, .inr (2, [.ref (b 2), .int (nI ((xs j) 13)), .int (nI ((xs j) 14)), .int (nI ((xs j) 15)), .int ((ys j) 16), .int ((ys j) 17)])), (b 2, .inl (G.1, 12, .inl (ps j))), (b 3, .inr (0, [.int ((ys j) 21), .int (nI ((xs j) 22)), .int ((ys j) 23), .int ((ys j) 24), .ref (b 4), .ref (b 5)])), (b 4, .inl (G.1, 144, .inl (kdY (ys j)))), (b 5, .inl (G.1, 144, .inl (vlY (ys j))))] ++ svw G a xs ys ps) H := eW ▸ hP
    have hD : va_D A ([(q, .inr (3, [.ref qa, .int (nI o), .int (nI (c - 1))])), (qa, .inl (G.2.1, 6, .inr (.inr (.inr (.inr (sqf a)))))), (b 0, .inr (6, [.ref (b 1), .ref (b 3), .int (nI ((xs j) 18)), .int (nI ((xs j) 19)), .int (bI ((xs j) 20 = 0))])), (b 1, .inr (2, [.ref (b 2), .int (nI ((xs j) 13)), .int (nI ((xs j) 14)), .int (nI ((xs j) 15)), .int ((ys j) 16), .int ((ys j) 17)])), (b 2, .inl (G.1, 12, .inl (ps j))), (b 3, .inr (0, [.int ((ys j) 21), .int (nI ((xs j) 22)), .int ((ys j) 23), .int ((ys j) 24), .ref (b 4), .ref (b 5)])), (b 4, .inl (G.1, 144, .inl (kdY (ys j)))), (b 5, .inl (G.1, 144, .inl (vlY (ys j))))] ++ svw G a xs ys ps) := eW ▸ hD
    exact endV C () trivial hS hP (hD.fst rfl) dX3_restore_41
  · have c_4 := nlt_f (a := 0) (b := c) (by omega) (by omega) c_4
    omega
