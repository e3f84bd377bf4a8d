theorem ys_L_hangs : YS yL_hangs cL_hangs 15 (some .boolean) 1 := ⟨kw_12_0, kw_5_1, by decide, by decide, by decide⟩
set_option maxHeartbeats 16000000 in
set_option maxRecDepth 100000 in
theorem mL_hangs (l : Launch) (D : va_G) (G : u_G) (hlt : l.stackTraces = false) (q : Nat) (K : AD) (S : AS) (C : SC) (hA0 : AOK S) (hC0 : COK S C) : MtI l D G yL_hangs cL_hangs 15 .boolean 9 2 12 [.ref q] (OW G q K S C) (fun (r : Int32) (_ : Unit) => r = 1) (fun (_ : Unit) => OW G q K S C) := by
  refine MtI.of (by decide) (Nat.le_of_ble_eq_true rfl) ?_
  intro pr e s9 m9 below meth c9 A ls C9 hP hD hl
  obtain ⟨hx, hb, hml, hown, hts, hr, hlocks, hA, hAm⟩ := id C9
  have hS : va_S A s9.heap s9.heap [] := va_S.rf
  have hl : lv_has ls 15 [(0, .ref q)] := hl
  obtain ⟨⟨⟨w1, w2, w3, ⟨w4a, w4⟩, w5⟩, ⟨w6, w7⟩, w8, w9, w10⟩, hog, hcg, hSVD, hFR⟩ := id hA0
  obtain ⟨hSV, hL6, ht6⟩ := id hC0
  have w22 : S.x 22 ≤ 5001 := w9.1
  have hsr := sg_rng _ w7
  have hv240 : -240 ≤ (V S.p (S.x 14) (S.x 13)).toInt ∧ (V S.p (S.x 14) (S.x 13)).toInt ≤ 240 := by have h9 := V_sm w6 (S.x 14) (S.x 13) w1; obtain ⟨h8, h7⟩ := h9; omega
  refine lv_aload_n hx hb dL_hangs_0 rfl (lv_at hl 0 rfl) ?_
  refine oV (As := []) (rest := []) (q0 := 0) (ci := 7) (T := TX7) (N := 5) C9 (o_left l D G q K S C) (fun _ => OW_fst _ _ _ _ _ _ _) hS hP hD (List.range' 0 57) (OW_get _ _ _ _ _) (by decide) (fun _ => OW_put _ _ _ _ _ _ _ _ _) rfl rfl ys_X7_left kw_12_1 kw_12_2 kw_12_3 ⟨Nat.le_of_ble_eq_true rfl, Nat.le_of_ble_eq_true rfl⟩ hl.1 (Nat.le_of_ble_eq_true rfl) dL_hangs_1 rfl rfl ⟨Nat.le_of_ble_eq_true rfl, Nat.le_of_ble_eq_true rfl⟩ (fun r1 u1 H locs hp1 hP hD hS => ?_)
  refine ro_top (z := nI (S.x 14)) hx hp1 ?_
  refine lv_istore_n (lv' := [(1, .int (nI (S.x 14))), (0, .ref q)]) hx hb dL_hangs_4 rfl hl (by decide) rfl (fun ls hl => ?_)
  refine lv_iload_n hx hb dL_hangs_5 rfl (lv_at hl 0 rfl) ?_
  refine lv_if_lt (tgt := 70) hx hb dL_hangs_6 (by decide) (fun h => absurd h (nI_pos (by omega))) (fun _ => ?_)
  refine lv_iload_n hx hb dL_hangs_9 rfl (lv_at hl 0 rfl) ?_
  refine lv_bipush (v := 12) hx hb dL_hangs_10 (by decide) ?_
  refine lv_icmp_gt (tgt := 70) hx hb dL_hangs_12 (by decide) (fun c_12 => ?_) (fun c_12 => ?_)
  · have c_12 := nlt_t (a := 12) (b := S.x 14) (by omega) (by omega) c_12
    omega
  · have c_12 := nlt_f (a := 12) (b := S.x 14) (by omega) (by omega) c_12
    have j30 : ∀ (H : Heap) (locs : List Loc) (ls : Array Slot), va_P D vwCl (OW G q K S C) H → va_D A (OW G q K S C) → va_S A s9.heap H locs → lv_has ls 15 [(0, .ref q), (1, .int (nI (S.x 14)))] → W pr l e (rmG 9 2 12) s9 m9 (List.toArray [.ref q]) below meth c9 H locs 0 0 (MQ below (va_Qi (fun (r : Int32) (_ : Unit) => r = 1) (fun u9 t9 => WB D ((fun (_ : Unit) => OW G q K S C) u9) t9) A) (List.toArray [.ref q]) s9 2 12 A) (F0 m9 30 ls []) := by
      intro H locs ls hP hD hS hl
      refine lv_aload_n hx hb dL_hangs_30 rfl (lv_at hl 0 rfl) ?_
      refine lv_iconst (v := 0) hx hb dL_hangs_31 (by decide) ?_
      refine oW (As := [.ref q, .int 0]) (rest := []) C9 (mL_coins_ok l D G q K S C 0 (by decide)) (fun _ => OW_fst _ _ _ _ _ _ _) hS hP hD (List.range' 0 57) (OW_get _ _ _ _ _) (by decide) (fun _ => OW_put _ _ _ _ _ _ _ _ _) yw_L_coins kw_12_11 kw_12_12 ⟨Nat.le_of_ble_eq_true rfl, Nat.le_of_ble_eq_true rfl⟩ hl.1 (Nat.le_of_ble_eq_true rfl) dL_hangs_32 rfl rfl ⟨Nat.le_of_ble_eq_true rfl, Nat.le_of_ble_eq_true rfl⟩ (fun r32 u32 H locs hp32 hP hD hS => ?_)
      refine ro_top (z := S.y (16 + 0)) hx hp32 ?_
      refine lv_if_lt (tgt := 70) hx hb dL_hangs_35 (by decide) (fun c_35 => ?_) (fun c_35 => ?_)
      · exact absurd c_35 (ge0_nlt w8.1.1)
      · refine lv_aload_n hx hb dL_hangs_38 rfl (lv_at hl 0 rfl) ?_
        refine lv_iconst (v := 1) hx hb dL_hangs_39 (by decide) ?_
        refine oW (As := [.ref q, .int 1]) (rest := []) C9 (mL_coins_ok l D G q K S C 1 (by decide)) (fun _ => OW_fst _ _ _ _ _ _ _) hS hP hD (List.range' 0 57) (OW_get _ _ _ _ _) (by decide) (fun _ => OW_put _ _ _ _ _ _ _ _ _) yw_L_coins kw_12_11 kw_12_12 ⟨Nat.le_of_ble_eq_true rfl, Nat.le_of_ble_eq_true rfl⟩ hl.1 (Nat.le_of_ble_eq_true rfl) dL_hangs_40 rfl rfl ⟨Nat.le_of_ble_eq_true rfl, Nat.le_of_ble_eq_true rfl⟩ (fun r40 u40 H locs hp40 hP hD hS => ?_)
        refine ro_top (z := S.y (16 + 1)) hx hp40 ?_
        refine lv_if_lt (tgt := 70) hx hb dL_hangs_43 (by decide) (fun c_43 => ?_) (fun c_43 => ?_)
        · exact absurd c_43 (ge0_nlt w8.2.1)
        · refine lv_aload_n hx hb dL_hangs_46 rfl (lv_at hl 0 rfl) ?_
          refine lv_iload_n hx hb dL_hangs_47 rfl (lv_at hl 1 rfl) ?_
          refine oW (As := [.ref q, .int (nI (S.x 14))]) (rest := []) C9 (mL_pile_T1 l D G q K S C hlt (nI (S.x 14)) (Or.inr (big_lt (S.x 14) (Nat.le_refl _) (by omega)))) (fun _ => OW_fst _ _ _ _ _ _ _) hS hP hD (List.range' 0 57) (OW_get _ _ _ _ _) (by decide) (fun _ => OW_put _ _ _ _ _ _ _ _ _) yw_L_pile kw_12_23 kw_13_0 ⟨Nat.le_of_ble_eq_true rfl, Nat.le_of_ble_eq_true rfl⟩ hl.1 (Nat.le_of_ble_eq_true rfl) dL_hangs_48 rfl rfl ⟨Nat.le_of_ble_eq_true rfl, Nat.le_of_ble_eq_true rfl⟩ (fun r48 u48 H locs hp48 hP hD hS => ?_)
          refine ro_top (z := (-2)) hx hp48 ?_
          refine lv_bipush (v := (-2)) hx hb dL_hangs_51 (by decide) ?_
          refine lv_icmp_ne (tgt := 70) hx hb dL_hangs_53 (by decide) (fun h => absurd (by decide) h) (fun _ => ?_)
          refine lv_aload_n hx hb dL_hangs_56 rfl (lv_at hl 0 rfl) ?_
          refine lv_iconst (v := 2) hx hb dL_hangs_57 (by decide) ?_
          refine oW (As := [.ref q, .int 2]) (rest := []) C9 (mL_coins_T1 l D G q K S C hlt 2 (Or.inr (by decide))) (fun _ => OW_fst _ _ _ _ _ _ _) hS hP hD (List.range' 0 57) (OW_get _ _ _ _ _) (by decide) (fun _ => OW_put _ _ _ _ _ _ _ _ _) yw_L_coins kw_12_11 kw_12_12 ⟨Nat.le_of_ble_eq_true rfl, Nat.le_of_ble_eq_true rfl⟩ hl.1 (Nat.le_of_ble_eq_true rfl) dL_hangs_58 rfl rfl ⟨Nat.le_of_ble_eq_true rfl, Nat.le_of_ble_eq_true rfl⟩ (fun r58 u58 H locs hp58 hP hD hS => ?_)
          refine ro_top (z := (-2)) hx hp58 ?_
          refine lv_bipush (v := (-2)) hx hb dL_hangs_61 (by decide) ?_
          refine lv_icmp_ne (tgt := 70) hx hb dL_hangs_63 (by decide) (fun h => absurd (by decide) h) (fun _ => ?_)
          refine lv_iconst (v := 1) hx hb dL_hangs_66 (by decide) ?_
          refine lv_goto (tgt := 71) hx hb dL_hangs_67 (by decide) ?_
          refine lv_istore_n (lv' := [(2, .int 1), (0, .ref q), (1, .int (nI (S.x 14)))]) hx hb dL_hangs_71 rfl hl (by decide) rfl (fun ls hl => ?_)
          refine lv_iconst (v := 0) hx hb dL_hangs_72 (by decide) ?_
          refine lv_istore_n (lv' := [(3, .int 0), (2, .int 1), (0, .ref q), (1, .int (nI (S.x 14)))]) hx hb dL_hangs_73 rfl hl (by decide) rfl (fun ls hl => ?_)
          refine lv_iconst (v := 0) hx hb dL_hangs_74 (by decide) ?_
          refine lv_istore (lv' := [(4, .int 0), (3, .int 0), (2, .int 1), (0, .ref q), (1, .int (nI (S.x 14)))]) hx hb dL_hangs_75 hl (by decide) rfl (fun ls hl => ?_)
          have lp77 : ∀ (n77 : Nat) (i : Nat) (al : Int32) (hi : i ≤ S.x 14) (hal : al.toInt = sg S.p (S.x 13) i) (_ : S.x 14 - i < n77) (H : Heap) (locs : List Loc) (ls : Array Slot), va_P D vwCl (OW G q K S C) H → va_D A (OW G q K S C) → va_S A s9.heap H locs → lv_has ls 15 [(0, .ref q), (1, .int (nI (S.x 14))), (2, .int 1), (3, .int al), (4, .int (nI i))] → W pr l e (rmG 9 2 12) s9 m9 (List.toArray [.ref q]) below meth c9 H locs 2 12 (MQ below (va_Qi (fun (r : Int32) (_ : Unit) => r = 1) (fun u9 t9 => WB D ((fun (_ : Unit) => OW G q K S C) u9) t9) A) (List.toArray [.ref q]) s9 2 12 A) (F0 m9 77 ls []) := by
            intro n77
            induction n77 with
            | zero => intro i al hi hal hm; exact absurd hm (Nat.not_lt_zero _)
            | succ n77 ih77 =>
              intro i al hi hal hm H locs ls hP hD hS hl
              refine lv_iload hx hb dL_hangs_77 (lv_at hl 4 rfl) ?_
              refine lv_iload_n hx hb dL_hangs_79 rfl (lv_at hl 1 rfl) ?_
              refine lv_icmp_ge (tgt := 128) hx hb dL_hangs_80 (by decide) (fun c_80 => ?_) (fun c_80 => ?_)
              · have c_80 := nle_t (a := S.x 14) (b := i) (by omega) (by omega) c_80
                have hal9 : al.toInt = sg S.p (S.x 13) (S.x 14) := by rw [← show i = S.x 14 by omega]; exact hal
                refine lv_aload_n hx hb dL_hangs_128 rfl (lv_at hl 0 rfl) ?_
                refine oV (As := []) (rest := []) (q0 := 0) (ci := 7) (T := TX7) (N := 5) C9 (o_value l D G q K S C w1 w6 hSV) (fun _ => OW_fst _ _ _ _ _ _ _) hS hP hD (List.range' 0 57) (OW_get _ _ _ _ _) (by decide) (fun _ => OW_put _ _ _ _ _ _ _ _ _) rfl rfl ys_X7_value kw_13_8 kw_13_9 kw_13_10 ⟨Nat.le_of_ble_eq_true rfl, Nat.le_of_ble_eq_true rfl⟩ hl.1 (Nat.le_of_ble_eq_true rfl) dL_hangs_129 rfl rfl ⟨Nat.le_of_ble_eq_true rfl, Nat.le_of_ble_eq_true rfl⟩ (fun r129 u129 H locs hp129 hP hD hS => ?_)
                obtain ⟨vv, hvv⟩ : ∃ z, z = V S.p (S.x 14) (S.x 13) := ⟨_, rfl⟩
                refine ro_top (z := vv) hx (by rw [hp129, hvv]) ?_
                refine lv_istore (lv' := [(4, .int vv), (0, .ref q), (1, .int (nI (S.x 14))), (2, .int 1), (3, .int al)]) hx hb dL_hangs_132 hl (by decide) rfl (fun ls hl => ?_)
                refine lv_aload_n hx hb dL_hangs_134 rfl (lv_at hl 1 rfl) ?_
                refine oV (As := []) (rest := []) (q0 := 0) (ci := 7) (T := TX7) (N := 5) C9 (o_bestMove l D G q K S C w1 w6 hSV) (fun _ => OW_fst _ _ _ _ _ _ _) hS hP hD (List.range' 0 57) (OW_get _ _ _ _ _) (by decide) (fun _ => OW_put _ _ _ _ _ _ _ _ _) rfl rfl ys_X7_bestMove kw_13_13 kw_13_14 kw_13_15 ⟨Nat.le_of_ble_eq_true rfl, Nat.le_of_ble_eq_true rfl⟩ hl.1 (Nat.le_of_ble_eq_true rfl) dL_hangs_135 rfl rfl ⟨Nat.le_of_ble_eq_true rfl, Nat.le_of_ble_eq_true rfl⟩ (fun r135 u135 H locs hp135 hP hD hS => ?_)
                obtain ⟨bs, hbs⟩ : ∃ z, z = (bm (rV S.p (V S.p) (S.x 13) (S.x 14)) 4).1 := ⟨_, rfl⟩
                refine ro_top (z := bs) hx (by rw [hp135, hbs]) ?_
                refine lv_istore (lv' := [(5, .int bs), (4, .int vv), (0, .ref q), (1, .int (nI (S.x 14))), (2, .int 1), (3, .int al)]) hx hb dL_hangs_138 hl (by decide) rfl (fun ls hl => ?_)
                refine lv_aload_n hx hb dL_hangs_140 rfl (lv_at hl 2 rfl) ?_
                refine oV (As := []) (rest := []) (q0 := 0) (ci := 7) (T := TX7) (N := 5) C9 (o_margin l D G q K S C w1 w6 hSV) (fun _ => OW_fst _ _ _ _ _ _ _) hS hP hD (List.range' 0 57) (OW_get _ _ _ _ _) (by decide) (fun _ => OW_put _ _ _ _ _ _ _ _ _) rfl rfl ys_X7_margin kw_13_18 kw_13_19 kw_13_20 ⟨Nat.le_of_ble_eq_true rfl, Nat.le_of_ble_eq_true rfl⟩ hl.1 (Nat.le_of_ble_eq_true rfl) dL_hangs_141 rfl rfl ⟨Nat.le_of_ble_eq_true rfl, Nat.le_of_ble_eq_true rfl⟩ (fun r141 u141 H locs hp141 hP hD hS => ?_)
                obtain ⟨mg, hmg⟩ : ∃ z, z = mgA S.p (S.x 13) (S.x 14) := ⟨_, rfl⟩
                refine ro_top (z := mg) hx (by rw [hp141, hmg]) ?_
                refine lv_istore (lv' := [(6, .int mg), (5, .int bs), (4, .int vv), (0, .ref q), (1, .int (nI (S.x 14))), (2, .int 1), (3, .int al)]) hx hb dL_hangs_144 hl (by decide) rfl (fun ls hl => ?_)
                refine lv_sipush (v := (-999)) hx hb dL_hangs_146 (by decide) ?_
                refine lv_istore (lv' := [(7, .int (-999)), (6, .int mg), (5, .int bs), (4, .int vv), (0, .ref q), (1, .int (nI (S.x 14))), (2, .int 1), (3, .int al)]) hx hb dL_hangs_149 hl (by decide) rfl (fun ls hl => ?_)
                refine lv_iconst (v := 0) hx hb dL_hangs_151 (by decide) ?_
                refine lv_istore (lv' := [(8, .int 0), (7, .int (-999)), (6, .int mg), (5, .int bs), (4, .int vv), (0, .ref q), (1, .int (nI (S.x 14))), (2, .int 1), (3, .int al)]) hx hb dL_hangs_152 hl (by decide) rfl (fun ls hl => ?_)
                have lp154 : ∀ (n154 : Nat) (m : Nat) (mo : Int32) (hm4 : m ≤ 4) (hmo : mo = (bm (rV S.p (V S.p) (S.x 13) (S.x 14)) m).2) (_ : 4 - m < n154) (H : Heap) (locs : List Loc) (ls : Array Slot), va_P D vwCl (OW G q K S C) H → va_D A (OW G q K S C) → va_S A s9.heap H locs → lv_has ls 15 [(0, .ref q), (1, .int (nI (S.x 14))), (2, .int 1), (3, .int al), (4, .int vv), (5, .int bs), (6, .int mg), (7, .int mo), (8, .int (nI m))] → W pr l e (rmG 9 2 12) s9 m9 (List.toArray [.ref q]) below meth c9 H locs 2 12 (MQ below (va_Qi (fun (r : Int32) (_ : Unit) => r = 1) (fun u9 t9 => WB D ((fun (_ : Unit) => OW G q K S C) u9) t9) A) (List.toArray [.ref q]) s9 2 12 A) (F0 m9 154 ls []) := by
                  intro n154
                  induction n154 with
                  | zero => intro m mo hm4 hmo hm; exact absurd hm (Nat.not_lt_zero _)
                  | succ n154 ih154 =>
                    intro m mo hm4 hmo hm H locs ls hP hD hS hl
                    refine lv_iload hx hb dL_hangs_154 (lv_at hl 8 rfl) ?_
                    refine lv_iconst (v := 4) hx hb dL_hangs_156 (by decide) ?_
                    refine lv_icmp_ge (tgt := 293) hx hb dL_hangs_157 (by decide) (fun c_157 => ?_) (fun c_157 => ?_)
                    · have c_157 := nle_t (a := 4) (b := m) (by omega) (by omega) c_157
                      have hmo4 : mo = (bm (rV S.p (V S.p) (S.x 13) (S.x 14)) 4).2 := by rw [hmo, show m = 4 by omega]
                      refine lv_iload_n hx hb dL_hangs_293 rfl (lv_at hl 2 rfl) ?_
                      refine lv_if_eq (tgt := 360) hx hb dL_hangs_294 (by decide) (fun h => absurd h (by decide)) (fun _ => ?_)
                      have j356 : ∀ (H : Heap) (locs : List Loc) (ls : Array Slot), va_P D vwCl (OW G q K S C) H → va_D A (OW G q K S C) → va_S A s9.heap H locs → lv_has ls 15 [(0, .ref q), (1, .int (nI (S.x 14))), (2, .int 1), (3, .int al), (4, .int vv), (5, .int bs), (6, .int mg), (7, .int mo), (8, .int (nI m))] → W pr l e (rmG 9 2 12) s9 m9 (List.toArray [.ref q]) below meth c9 H locs 2 12 (MQ below (va_Qi (fun (r : Int32) (_ : Unit) => r = 1) (fun u9 t9 => WB D ((fun (_ : Unit) => OW G q K S C) u9) t9) A) (List.toArray [.ref q]) s9 2 12 A) (F0 m9 356 ls []) := by
                        intro H locs ls hP hD hS hl
                        refine lv_iconst (v := 1) hx hb dL_hangs_356 (by decide) ?_
                        refine lv_goto (tgt := 361) hx hb dL_hangs_357 (by decide) ?_
                        refine lv_istore_n (lv' := [(2, .int 1), (0, .ref q), (1, .int (nI (S.x 14))), (3, .int al), (4, .int vv), (5, .int bs), (6, .int mg), (7, .int mo), (8, .int (nI m))]) hx hb dL_hangs_361 rfl hl (by decide) rfl (fun ls hl => ?_)
                        refine lv_iconst (v := 0) hx hb dL_hangs_362 (by decide) ?_
                        refine lv_istore (lv' := [(8, .int 0), (2, .int 1), (0, .ref q), (1, .int (nI (S.x 14))), (3, .int al), (4, .int vv), (5, .int bs), (6, .int mg), (7, .int mo)]) hx hb dL_hangs_363 hl (by decide) rfl (fun ls hl => ?_)
                        refine lv_iload_n hx hb dL_hangs_365 rfl (lv_at hl 3 rfl) ?_
                        refine lv_istore (lv' := [(9, .int (nI (S.x 14))), (8, .int 0), (2, .int 1), (0, .ref q), (1, .int (nI (S.x 14))), (3, .int al), (4, .int vv), (5, .int bs), (6, .int mg), (7, .int mo)]) hx hb dL_hangs_366 hl (by decide) rfl (fun ls hl => ?_)
                        refine lv_iconst (v := 0) hx hb dL_hangs_368 (by decide) ?_
                        refine lv_istore (lv' := [(10, .int 0), (9, .int (nI (S.x 14))), (8, .int 0), (2, .int 1), (0, .ref q), (1, .int (nI (S.x 14))), (3, .int al), (4, .int vv), (5, .int bs), (6, .int mg), (7, .int mo)]) hx hb dL_hangs_369 hl (by decide) rfl (fun ls hl => ?_)
                        refine lv_iconst (v := 1) hx hb dL_hangs_371 (by decide) ?_
                        refine lv_istore (lv' := [(11, .int 1), (10, .int 0), (9, .int (nI (S.x 14))), (8, .int 0), (2, .int 1), (0, .ref q), (1, .int (nI (S.x 14))), (3, .int al), (4, .int vv), (5, .int bs), (6, .int mg), (7, .int mo)]) hx hb dL_hangs_372 hl (by decide) rfl (fun ls hl => ?_)
                        refine lv_iconst (v := 0) hx hb dL_hangs_374 (by decide) ?_
                        refine lv_istore (lv' := [(12, .int 0), (11, .int 1), (10, .int 0), (9, .int (nI (S.x 14))), (8, .int 0), (2, .int 1), (0, .ref q), (1, .int (nI (S.x 14))), (3, .int al), (4, .int vv), (5, .int bs), (6, .int mg), (7, .int mo)]) hx hb dL_hangs_375 hl (by decide) rfl (fun ls hl => ?_)
                        have lp377 : ∀ (n377 : Nat) (k : Nat) (a9 : Nat) (N9 : Nat) (bal : Int32) (sn : Int32) (hk : k ≤ 13) (hlp : lpos S.p (S.x 13) (S.x 14) k = (S.x 13 + a9, N9)) (han : a9 + N9 ≤ S.x 14) (hsn : sn = 1 ∨ sn = -1) (hbal : bal.toInt + sn.toInt * (V S.p N9 (S.x 13 + a9)).toInt = (V S.p (S.x 14) (S.x 13)).toInt) (_ : 13 - k < n377) (H : Heap) (locs : List Loc) (ls : Array Slot), va_P D vwCl (OW G q K S C) H → va_D A (OW G q K S C) → va_S A s9.heap H locs → lv_has ls 15 [(0, .ref q), (2, .int 1), (4, .int vv), (8, .int (nI a9)), (9, .int (nI (N9 + a9))), (10, .int bal), (11, .int sn), (12, .int (nI k))] → W pr l e (rmG 9 2 12) s9 m9 (List.toArray [.ref q]) below meth c9 H locs 2 12 (MQ below (va_Qi (fun (r : Int32) (_ : Unit) => r = 1) (fun u9 t9 => WB D ((fun (_ : Unit) => OW G q K S C) u9) t9) A) (List.toArray [.ref q]) s9 2 12 A) (F0 m9 377 ls []) := by
                          intro n377
                          induction n377 with
                          | zero => intro k a9 N9 bal sn hk hlp han hsn hbal hm; exact absurd hm (Nat.not_lt_zero _)
                          | succ n377 ih377 =>
                            intro k a9 N9 bal sn hk hlp han hsn hbal hm H locs ls hP hD hS hl
                            refine lv_iload hx hb dL_hangs_377 (lv_at hl 7 rfl) ?_
                            refine lv_bipush (v := 13) hx hb dL_hangs_379 (by decide) ?_
                            refine lv_icmp_ge (tgt := 575) hx hb dL_hangs_381 (by decide) (fun c_381 => ?_) (fun c_381 => ?_)
                            · have c_381 := nle_t (a := 13) (b := k) (by omega) (by omega) c_381
                              have hlp9 := (lpos_in' w6 w1 hlp).2
                              have hN0 : N9 = 0 := by omega
                              have hbv : bal = vv := Int32.toInt_inj.mp (by rw [hvv, ← hbal, hN0, V_zero]; show bal.toInt = bal.toInt + sn.toInt * 0; omega)
                              refine lv_iconst (v := 0) hx hb dL_hangs_575 (by decide) ?_
                              refine lv_istore (lv' := [(12, .int 0), (0, .ref q), (2, .int 1), (4, .int vv), (8, .int (nI a9)), (9, .int (nI (N9 + a9))), (10, .int bal), (11, .int sn)]) hx hb dL_hangs_576 hl (by decide) rfl (fun ls hl => ?_)
                              refine lv_iconst (v := 0) hx hb dL_hangs_578 (by decide) ?_
                              refine lv_istore (lv' := [(13, .int 0), (12, .int 0), (0, .ref q), (2, .int 1), (4, .int vv), (8, .int (nI a9)), (9, .int (nI (N9 + a9))), (10, .int bal), (11, .int sn)]) hx hb dL_hangs_579 hl (by decide) rfl (fun ls hl => ?_)
                              have lp581 : ∀ (n581 : Nat) (i : Nat) (hi : i ≤ 144) (_ : 144 - i < n581) (H : Heap) (locs : List Loc) (ls : Array Slot), va_P D vwCl (OW G q K S C) H → va_D A (OW G q K S C) → va_S A s9.heap H locs → lv_has ls 15 [(0, .ref q), (2, .int 1), (4, .int vv), (10, .int bal), (12, .int (nI (enN (kdY S.y) i))), (13, .int (nI i))] → W pr l e (rmG 9 2 12) s9 m9 (List.toArray [.ref q]) below meth c9 H locs 2 12 (MQ below (va_Qi (fun (r : Int32) (_ : Unit) => r = 1) (fun u9 t9 => WB D ((fun (_ : Unit) => OW G q K S C) u9) t9) A) (List.toArray [.ref q]) s9 2 12 A) (F0 m9 581 ls []) := by
                                intro n581
                                induction n581 with
                                | zero => intro i hi hm; exact absurd hm (Nat.not_lt_zero _)
                                | succ n581 ih581 =>
                                  intro i hi hm H locs ls hP hD hS hl
                                  refine lv_iload hx hb dL_hangs_581 (lv_at hl 5 rfl) ?_
                                  refine lv_sipush (v := 144) hx hb dL_hangs_583 (by decide) ?_
                                  refine lv_icmp_ge (tgt := 689) hx hb dL_hangs_586 (by decide) (fun c_586 => ?_) (fun c_586 => ?_)
                                  · have c_586 := nle_t (a := 144) (b := i) (by omega) (by omega) c_586
                                    have he1 := enN_le (kdY S.y) i
                                    have he2 := enN_le (kdY S.y) 144
                                    refine lv_iconst (v := 0) hx hb dL_hangs_689 (by decide) ?_
                                    refine lv_istore (lv' := [(13, .int 0), (0, .ref q), (2, .int 1), (4, .int vv), (10, .int bal), (12, .int (nI (enN (kdY S.y) i)))]) hx hb dL_hangs_690 hl (by decide) rfl (fun ls hl => ?_)
                                    refine lv_iconst (v := 0) hx hb dL_hangs_692 (by decide) ?_
                                    refine lv_istore (lv' := [(14, .int 0), (13, .int 0), (0, .ref q), (2, .int 1), (4, .int vv), (10, .int bal), (12, .int (nI (enN (kdY S.y) i)))]) hx hb dL_hangs_693 hl (by decide) rfl (fun ls hl => ?_)
                                    refine lv_iload hx hb dL_hangs_695 (lv_at hl 0 rfl) ?_
                                    refine lv_iconst (v := 4) hx hb dL_hangs_697 (by decide) ?_
                                    refine lv_icmp_ge (tgt := 723) hx hb dL_hangs_698 (by decide) (fun h => absurd h (by decide)) (fun _ => ?_)
                                    refine lv_iload hx hb dL_hangs_701 (lv_at hl 1 rfl) ?_
                                    refine lv_iconst (v := 1) hx hb dL_hangs_703 (by decide) ?_
                                    refine lv_aload_n hx hb dL_hangs_704 rfl (lv_at hl 2 rfl) ?_
                                    refine lv_iload hx hb dL_hangs_705 (lv_at hl 0 rfl) ?_
                                    refine oW (As := [.ref q, .int 0]) (rest := [.int 1, .int 0]) C9 (mL_order_ok l D G q K S C 0 (by decide) w3) (fun _ => OW_fst _ _ _ _ _ _ _) hS hP hD (List.range' 0 57) (OW_get _ _ _ _ _) (by decide) (fun _ => OW_put _ _ _ _ _ _ _ _ _) yw_L_order kw_15_13 kw_15_14 ⟨Nat.le_of_ble_eq_true rfl, Nat.le_of_ble_eq_true rfl⟩ hl.1 (Nat.le_of_ble_eq_true rfl) dL_hangs_707 rfl rfl ⟨Nat.le_of_ble_eq_true rfl, Nat.le_of_ble_eq_true rfl⟩ (fun r707 u707 H locs hp707 hP hD hS => ?_)
                                    refine ro_top (z := nI (odf (S.x 18) 0)) hx hp707 ?_
                                    refine lv_bipush (v := 31) hx hb dL_hangs_710 (by decide) ?_
                                    refine lv_iand hx hb dL_hangs_712 ?_
                                    refine lv_ishl hx hb dL_hangs_713 ?_
                                    refine lv_ior hx hb dL_hangs_714 ?_
                                    refine lv_istore (lv' := [(13, .int (0 ||| ((1 : Int32) <<< (((nI (odf (S.x 18) 0)) &&& 31) &&& 31)))), (14, .int 0), (0, .ref q), (2, .int 1), (4, .int vv), (10, .int bal), (12, .int (nI (enN (kdY S.y) i)))]) hx hb dL_hangs_715 hl (by decide) rfl (fun ls hl => ?_)
                                    refine lv_iinc (v := 1) (lv' := [(14, .int 1), (13, .int (0 ||| ((1 : Int32) <<< (((nI (odf (S.x 18) 0)) &&& 31) &&& 31)))), (0, .ref q), (2, .int 1), (4, .int vv), (10, .int bal), (12, .int (nI (enN (kdY S.y) i)))]) hx hb dL_hangs_717 hl (k := 1) rfl (by decide) (by decide) rfl (fun ls hl => ?_)
                                    refine lv_goto (tgt := 695) hx hb dL_hangs_720 (by decide) ?_
                                    refine lv_iload hx hb dL_hangs_695 (lv_at hl 0 rfl) ?_
                                    refine lv_iconst (v := 4) hx hb dL_hangs_697 (by decide) ?_
                                    refine lv_icmp_ge (tgt := 723) hx hb dL_hangs_698 (by decide) (fun h => absurd h (by decide)) (fun _ => ?_)
                                    refine lv_iload hx hb dL_hangs_701 (lv_at hl 1 rfl) ?_
                                    refine lv_iconst (v := 1) hx hb dL_hangs_703 (by decide) ?_
                                    refine lv_aload_n hx hb dL_hangs_704 rfl (lv_at hl 2 rfl) ?_
                                    refine lv_iload hx hb dL_hangs_705 (lv_at hl 0 rfl) ?_
                                    refine oW (As := [.ref q, .int 1]) (rest := [.int 1, .int (0 ||| ((1 : Int32) <<< (((nI (odf (S.x 18) 0)) &&& 31) &&& 31)))]) C9 (mL_order_ok l D G q K S C 1 (by decide) w3) (fun _ => OW_fst _ _ _ _ _ _ _) hS hP hD (List.range' 0 57) (OW_get _ _ _ _ _) (by decide) (fun _ => OW_put _ _ _ _ _ _ _ _ _) yw_L_order kw_15_13 kw_15_14 ⟨Nat.le_of_ble_eq_true rfl, Nat.le_of_ble_eq_true rfl⟩ hl.1 (Nat.le_of_ble_eq_true rfl) dL_hangs_707 rfl rfl ⟨Nat.le_of_ble_eq_true rfl, Nat.le_of_ble_eq_true rfl⟩ (fun r707 u707 H locs hp707 hP hD hS => ?_)
                                    refine ro_top (z := nI (odf (S.x 18) 1)) hx hp707 ?_
                                    refine lv_bipush (v := 31) hx hb dL_hangs_710 (by decide) ?_
                                    refine lv_iand hx hb dL_hangs_712 ?_
                                    refine lv_ishl hx hb dL_hangs_713 ?_
                                    refine lv_ior hx hb dL_hangs_714 ?_
                                    refine lv_istore (lv' := [(13, .int ((0 ||| ((1 : Int32) <<< (((nI (odf (S.x 18) 0)) &&& 31) &&& 31))) ||| ((1 : Int32) <<< (((nI (odf (S.x 18) 1)) &&& 31) &&& 31)))), (14, .int 1), (0, .ref q), (2, .int 1), (4, .int vv), (10, .int bal), (12, .int (nI (enN (kdY S.y) i)))]) hx hb dL_hangs_715 hl (by decide) rfl (fun ls hl => ?_)
                                    refine lv_iinc (v := 2) (lv' := [(14, .int 2), (13, .int ((0 ||| ((1 : Int32) <<< (((nI (odf (S.x 18) 0)) &&& 31) &&& 31))) ||| ((1 : Int32) <<< (((nI (odf (S.x 18) 1)) &&& 31) &&& 31)))), (0, .ref q), (2, .int 1), (4, .int vv), (10, .int bal), (12, .int (nI (enN (kdY S.y) i)))]) hx hb dL_hangs_717 hl (k := 1) rfl (by decide) (by decide) rfl (fun ls hl => ?_)
                                    refine lv_goto (tgt := 695) hx hb dL_hangs_720 (by decide) ?_
                                    refine lv_iload hx hb dL_hangs_695 (lv_at hl 0 rfl) ?_
                                    refine lv_iconst (v := 4) hx hb dL_hangs_697 (by decide) ?_
                                    refine lv_icmp_ge (tgt := 723) hx hb dL_hangs_698 (by decide) (fun h => absurd h (by decide)) (fun _ => ?_)
                                    refine lv_iload hx hb dL_hangs_701 (lv_at hl 1 rfl) ?_
                                    refine lv_iconst (v := 1) hx hb dL_hangs_703 (by decide) ?_
                                    refine lv_aload_n hx hb dL_hangs_704 rfl (lv_at hl 2 rfl) ?_
                                    refine lv_iload hx hb dL_hangs_705 (lv_at hl 0 rfl) ?_
                                    refine oW (As := [.ref q, .int 2]) (rest := [.int 1, .int ((0 ||| ((1 : Int32) <<< (((nI (odf (S.x 18) 0)) &&& 31) &&& 31))) ||| ((1 : Int32) <<< (((nI (odf (S.x 18) 1)) &&& 31) &&& 31)))]) C9 (mL_order_ok l D G q K S C 2 (by decide) w3) (fun _ => OW_fst _ _ _ _ _ _ _) hS hP hD (List.range' 0 57) (OW_get _ _ _ _ _) (by decide) (fun _ => OW_put _ _ _ _ _ _ _ _ _) yw_L_order kw_15_13 kw_15_14 ⟨Nat.le_of_ble_eq_true rfl, Nat.le_of_ble_eq_true rfl⟩ hl.1 (Nat.le_of_ble_eq_true rfl) dL_hangs_707 rfl rfl ⟨Nat.le_of_ble_eq_true rfl, Nat.le_of_ble_eq_true rfl⟩ (fun r707 u707 H locs hp707 hP hD hS => ?_)
                                    refine ro_top (z := nI (odf (S.x 18) 2)) hx hp707 ?_
                                    refine lv_bipush (v := 31) hx hb dL_hangs_710 (by decide) ?_
                                    refine lv_iand hx hb dL_hangs_712 ?_
                                    refine lv_ishl hx hb dL_hangs_713 ?_
                                    refine lv_ior hx hb dL_hangs_714 ?_
                                    refine lv_istore (lv' := [(13, .int (((0 ||| ((1 : Int32) <<< (((nI (odf (S.x 18) 0)) &&& 31) &&& 31))) ||| ((1 : Int32) <<< (((nI (odf (S.x 18) 1)) &&& 31) &&& 31))) ||| ((1 : Int32) <<< (((nI (odf (S.x 18) 2)) &&& 31) &&& 31)))), (14, .int 2), (0, .ref q), (2, .int 1), (4, .int vv), (10, .int bal), (12, .int (nI (enN (kdY S.y) i)))]) hx hb dL_hangs_715 hl (by decide) rfl (fun ls hl => ?_)
                                    refine lv_iinc (v := 3) (lv' := [(14, .int 3), (13, .int (((0 ||| ((1 : Int32) <<< (((nI (odf (S.x 18) 0)) &&& 31) &&& 31))) ||| ((1 : Int32) <<< (((nI (odf (S.x 18) 1)) &&& 31) &&& 31))) ||| ((1 : Int32) <<< (((nI (odf (S.x 18) 2)) &&& 31) &&& 31)))), (0, .ref q), (2, .int 1), (4, .int vv), (10, .int bal), (12, .int (nI (enN (kdY S.y) i)))]) hx hb dL_hangs_717 hl (k := 1) rfl (by decide) (by decide) rfl (fun ls hl => ?_)
                                    refine lv_goto (tgt := 695) hx hb dL_hangs_720 (by decide) ?_
                                    refine lv_iload hx hb dL_hangs_695 (lv_at hl 0 rfl) ?_
                                    refine lv_iconst (v := 4) hx hb dL_hangs_697 (by decide) ?_
                                    refine lv_icmp_ge (tgt := 723) hx hb dL_hangs_698 (by decide) (fun h => absurd h (by decide)) (fun _ => ?_)
                                    refine lv_iload hx hb dL_hangs_701 (lv_at hl 1 rfl) ?_
                                    refine lv_iconst (v := 1) hx hb dL_hangs_703 (by decide) ?_
                                    refine lv_aload_n hx hb dL_hangs_704 rfl (lv_at hl 2 rfl) ?_
                                    refine lv_iload hx hb dL_hangs_705 (lv_at hl 0 rfl) ?_
                                    refine oW (As := [.ref q, .int 3]) (rest := [.int 1, .int (((0 ||| ((1 : Int32) <<< (((nI (odf (S.x 18) 0)) &&& 31) &&& 31))) ||| ((1 : Int32) <<< (((nI (odf (S.x 18) 1)) &&& 31) &&& 31))) ||| ((1 : Int32) <<< (((nI (odf (S.x 18) 2)) &&& 31) &&& 31)))]) C9 (mL_order_ok l D G q K S C 3 (by decide) w3) (fun _ => OW_fst _ _ _ _ _ _ _) hS hP hD (List.range' 0 57) (OW_get _ _ _ _ _) (by decide) (fun _ => OW_put _ _ _ _ _ _ _ _ _) yw_L_order kw_15_13 kw_15_14 ⟨Nat.le_of_ble_eq_true rfl, Nat.le_of_ble_eq_true rfl⟩ hl.1 (Nat.le_of_ble_eq_true rfl) dL_hangs_707 rfl rfl ⟨Nat.le_of_ble_eq_true rfl, Nat.le_of_ble_eq_true rfl⟩ (fun r707 u707 H locs hp707 hP hD hS => ?_)
                                    refine ro_top (z := nI (odf (S.x 18) 3)) hx hp707 ?_
                                    refine lv_bipush (v := 31) hx hb dL_hangs_710 (by decide) ?_
                                    refine lv_iand hx hb dL_hangs_712 ?_
                                    refine lv_ishl hx hb dL_hangs_713 ?_
                                    refine lv_ior hx hb dL_hangs_714 ?_
                                    refine lv_istore (lv' := [(13, .int ((((0 ||| ((1 : Int32) <<< (((nI (odf (S.x 18) 0)) &&& 31) &&& 31))) ||| ((1 : Int32) <<< (((nI (odf (S.x 18) 1)) &&& 31) &&& 31))) ||| ((1 : Int32) <<< (((nI (odf (S.x 18) 2)) &&& 31) &&& 31))) ||| ((1 : Int32) <<< (((nI (odf (S.x 18) 3)) &&& 31) &&& 31)))), (14, .int 3), (0, .ref q), (2, .int 1), (4, .int vv), (10, .int bal), (12, .int (nI (enN (kdY S.y) i)))]) hx hb dL_hangs_715 hl (by decide) rfl (fun ls hl => ?_)
                                    refine lv_iinc (v := 4) (lv' := [(14, .int 4), (13, .int ((((0 ||| ((1 : Int32) <<< (((nI (odf (S.x 18) 0)) &&& 31) &&& 31))) ||| ((1 : Int32) <<< (((nI (odf (S.x 18) 1)) &&& 31) &&& 31))) ||| ((1 : Int32) <<< (((nI (odf (S.x 18) 2)) &&& 31) &&& 31))) ||| ((1 : Int32) <<< (((nI (odf (S.x 18) 3)) &&& 31) &&& 31)))), (0, .ref q), (2, .int 1), (4, .int vv), (10, .int bal), (12, .int (nI (enN (kdY S.y) i)))]) hx hb dL_hangs_717 hl (k := 1) rfl (by decide) (by decide) rfl (fun ls hl => ?_)
                                    refine lv_goto (tgt := 695) hx hb dL_hangs_720 (by decide) ?_
                                    refine lv_iload hx hb dL_hangs_695 (lv_at hl 0 rfl) ?_
                                    refine lv_iconst (v := 4) hx hb dL_hangs_697 (by decide) ?_
                                    refine lv_icmp_ge (tgt := 723) hx hb dL_hangs_698 (by decide) (fun _ => ?_) (fun h => absurd (by decide) h)
                                    refine lv_iload_n hx hb dL_hangs_723 rfl (lv_at hl 3 rfl) ?_
                                    refine lv_if_eq (tgt := 854) hx hb dL_hangs_724 (by decide) (fun h => absurd h (by decide)) (fun _ => ?_)
                                    refine lv_iload hx hb dL_hangs_727 (lv_at hl 5 rfl) ?_
                                    refine lv_iload hx hb dL_hangs_729 (lv_at hl 4 rfl) ?_
                                    refine lv_icmp_ne (tgt := 854) hx hb dL_hangs_731 (by decide) (fun c_731 => ?_) (fun c_731 => ?_)
                                    · exact absurd hbv c_731
                                    · refine lv_iload hx hb dL_hangs_734 (lv_at hl 6 rfl) ?_
                                      refine lv_aload_n hx hb dL_hangs_736 rfl (lv_at hl 2 rfl) ?_
                                      refine oV (As := []) (rest := [.int (nI (enN (kdY S.y) i))]) (q0 := 0) (ci := 7) (T := TX7) (N := 5) C9 (o_entries l D G q K S C) (fun _ => OW_fst _ _ _ _ _ _ _) hS hP hD (List.range' 0 57) (OW_get _ _ _ _ _) (by decide) (fun _ => OW_put _ _ _ _ _ _ _ _ _) rfl rfl ys_X7_entries kw_15_22 kw_15_23 kw_16_0 ⟨Nat.le_of_ble_eq_true rfl, Nat.le_of_ble_eq_true rfl⟩ hl.1 (Nat.le_of_ble_eq_true rfl) dL_hangs_737 rfl rfl ⟨Nat.le_of_ble_eq_true rfl, Nat.le_of_ble_eq_true rfl⟩ (fun r737 u737 H locs hp737 hP hD hS => ?_)
                                      refine ro_top (z := nI (enN (kdY S.y) 144)) hx hp737 ?_
                                      refine lv_icmp_ne (tgt := 854) hx hb dL_hangs_740 (by decide) (fun c_740 => ?_) (fun c_740 => ?_)
                                      · have c_740 := neq_f (a := enN (kdY S.y) i) (b := enN (kdY S.y) 144) (by omega) (by omega) c_740
                                        exact absurd (show enN (kdY S.y) i = enN (kdY S.y) 144 by rw [show i = 144 by omega]) c_740
                                      · have c_740 := neq_t (a := enN (kdY S.y) i) (b := enN (kdY S.y) 144) (by omega) (by omega) c_740
                                        refine lv_iload hx hb dL_hangs_743 (lv_at hl 1 rfl) ?_
                                        refine ro_top (z := 15) hx (odf_15 _ w3) ?_
                                        refine lv_bipush (v := 15) hx hb dL_hangs_745 (by decide) ?_
                                        refine lv_icmp_ne (tgt := 854) hx hb dL_hangs_747 (by decide) (fun h => absurd (by decide) h) (fun _ => ?_)
                                        refine lv_aload_n hx hb dL_hangs_750 rfl (lv_at hl 2 rfl) ?_
                                        refine oV (As := []) (rest := []) (q0 := 0) (ci := 7) (T := TX7) (N := 5) C9 (o_nodes l D G q K S C) (fun _ => OW_fst _ _ _ _ _ _ _) hS hP hD (List.range' 0 57) (OW_get _ _ _ _ _) (by decide) (fun _ => OW_put _ _ _ _ _ _ _ _ _) rfl rfl ys_X7_nodes kw_16_2 kw_16_3 kw_16_4 ⟨Nat.le_of_ble_eq_true rfl, Nat.le_of_ble_eq_true rfl⟩ hl.1 (Nat.le_of_ble_eq_true rfl) dL_hangs_751 rfl rfl ⟨Nat.le_of_ble_eq_true rfl, Nat.le_of_ble_eq_true rfl⟩ (fun r751 u751 H locs hp751 hP hD hS => ?_)
                                        refine ro_top (z := nI (S.x 22)) hx hp751 ?_
                                        refine lv_if_lt (tgt := 854) hx hb dL_hangs_754 (by decide) (fun h => absurd h (nI_pos (by omega))) (fun _ => ?_)
                                        refine lv_aload_n hx hb dL_hangs_757 rfl (lv_at hl 2 rfl) ?_
                                        refine oV (As := []) (rest := []) (q0 := 0) (ci := 7) (T := TX7) (N := 5) C9 (o_nodes l D G q K S C) (fun _ => OW_fst _ _ _ _ _ _ _) hS hP hD (List.range' 0 57) (OW_get _ _ _ _ _) (by decide) (fun _ => OW_put _ _ _ _ _ _ _ _ _) rfl rfl ys_X7_nodes kw_16_2 kw_16_3 kw_16_4 ⟨Nat.le_of_ble_eq_true rfl, Nat.le_of_ble_eq_true rfl⟩ hl.1 (Nat.le_of_ble_eq_true rfl) dL_hangs_758 rfl rfl ⟨Nat.le_of_ble_eq_true rfl, Nat.le_of_ble_eq_true rfl⟩ (fun r758 u758 H locs hp758 hP hD hS => ?_)
                                        refine ro_top (z := nI (S.x 22)) hx hp758 ?_
                                        refine lv_sipush (v := 5001) hx hb dL_hangs_761 (by decide) ?_
                                        refine lv_icmp_gt (tgt := 854) hx hb dL_hangs_764 (by decide) (fun c_764 => ?_) (fun c_764 => ?_)
                                        · have c_764 := nlt_t (a := 5001) (b := S.x 22) (by omega) (by omega) c_764
                                          omega
                                        · have c_764 := nlt_f (a := 5001) (b := S.x 22) (by omega) (by omega) c_764
                                          refine lv_aload_n hx hb dL_hangs_767 rfl (lv_at hl 2 rfl) ?_
                                          refine oV (As := []) (rest := []) (q0 := 0) (ci := 7) (T := TX7) (N := 5) C9 (o_cuts l D G q K S C) (fun _ => OW_fst _ _ _ _ _ _ _) hS hP hD (List.range' 0 57) (OW_get _ _ _ _ _) (by decide) (fun _ => OW_put _ _ _ _ _ _ _ _ _) rfl rfl ys_X7_cuts kw_16_6 kw_16_7 kw_16_8 ⟨Nat.le_of_ble_eq_true rfl, Nat.le_of_ble_eq_true rfl⟩ hl.1 (Nat.le_of_ble_eq_true rfl) dL_hangs_768 rfl rfl ⟨Nat.le_of_ble_eq_true rfl, Nat.le_of_ble_eq_true rfl⟩ (fun r768 u768 H locs hp768 hP hD hS => ?_)
                                          refine ro_top (z := S.y 23) hx hp768 ?_
                                          refine lv_if_lt (tgt := 854) hx hb dL_hangs_771 (by decide) (fun c_771 => ?_) (fun c_771 => ?_)
                                          · exact absurd c_771 (ge0_nlt w9.2.1.1)
                                          · refine lv_aload_n hx hb dL_hangs_774 rfl (lv_at hl 2 rfl) ?_
                                            refine oV (As := []) (rest := []) (q0 := 0) (ci := 7) (T := TX7) (N := 5) C9 (o_cuts l D G q K S C) (fun _ => OW_fst _ _ _ _ _ _ _) hS hP hD (List.range' 0 57) (OW_get _ _ _ _ _) (by decide) (fun _ => OW_put _ _ _ _ _ _ _ _ _) rfl rfl ys_X7_cuts kw_16_6 kw_16_7 kw_16_8 ⟨Nat.le_of_ble_eq_true rfl, Nat.le_of_ble_eq_true rfl⟩ hl.1 (Nat.le_of_ble_eq_true rfl) dL_hangs_775 rfl rfl ⟨Nat.le_of_ble_eq_true rfl, Nat.le_of_ble_eq_true rfl⟩ (fun r775 u775 H locs hp775 hP hD hS => ?_)
                                            refine ro_top (z := S.y 23) hx hp775 ?_
                                            refine lv_aload_n hx hb dL_hangs_778 rfl (lv_at hl 2 rfl) ?_
                                            refine oV (As := []) (rest := [.int (S.y 23)]) (q0 := 0) (ci := 7) (T := TX7) (N := 5) C9 (o_nodes l D G q K S C) (fun _ => OW_fst _ _ _ _ _ _ _) hS hP hD (List.range' 0 57) (OW_get _ _ _ _ _) (by decide) (fun _ => OW_put _ _ _ _ _ _ _ _ _) rfl rfl ys_X7_nodes kw_16_2 kw_16_3 kw_16_4 ⟨Nat.le_of_ble_eq_true rfl, Nat.le_of_ble_eq_true rfl⟩ hl.1 (Nat.le_of_ble_eq_true rfl) dL_hangs_779 rfl rfl ⟨Nat.le_of_ble_eq_true rfl, Nat.le_of_ble_eq_true rfl⟩ (fun r779 u779 H locs hp779 hP hD hS => ?_)
                                            refine ro_top (z := nI (S.x 22)) hx hp779 ?_
                                            refine lv_icmp_gt (tgt := 854) hx hb dL_hangs_782 (by decide) (fun c_782 => ?_) (fun c_782 => ?_)
                                            · exact absurd c_782 (nlt_of (by rw [nI_toInt (by omega)]; exact w9.2.1.2))
                                            · refine lv_aload_n hx hb dL_hangs_785 rfl (lv_at hl 2 rfl) ?_
                                              refine oV (As := []) (rest := []) (q0 := 0) (ci := 7) (T := TX7) (N := 5) C9 (o_hits l D G q K S C) (fun _ => OW_fst _ _ _ _ _ _ _) hS hP hD (List.range' 0 57) (OW_get _ _ _ _ _) (by decide) (fun _ => OW_put _ _ _ _ _ _ _ _ _) rfl rfl ys_X7_hits kw_16_11 kw_16_12 kw_16_13 ⟨Nat.le_of_ble_eq_true rfl, Nat.le_of_ble_eq_true rfl⟩ hl.1 (Nat.le_of_ble_eq_true rfl) dL_hangs_786 rfl rfl ⟨Nat.le_of_ble_eq_true rfl, Nat.le_of_ble_eq_true rfl⟩ (fun r786 u786 H locs hp786 hP hD hS => ?_)
                                              refine ro_top (z := S.y 24) hx hp786 ?_
                                              refine lv_if_lt (tgt := 854) hx hb dL_hangs_789 (by decide) (fun c_789 => ?_) (fun c_789 => ?_)
                                              · exact absurd c_789 (ge0_nlt w9.2.2.1.1)
                                              · refine lv_aload_n hx hb dL_hangs_792 rfl (lv_at hl 2 rfl) ?_
                                                refine oV (As := []) (rest := []) (q0 := 0) (ci := 7) (T := TX7) (N := 5) C9 (o_hits l D G q K S C) (fun _ => OW_fst _ _ _ _ _ _ _) hS hP hD (List.range' 0 57) (OW_get _ _ _ _ _) (by decide) (fun _ => OW_put _ _ _ _ _ _ _ _ _) rfl rfl ys_X7_hits kw_16_11 kw_16_12 kw_16_13 ⟨Nat.le_of_ble_eq_true rfl, Nat.le_of_ble_eq_true rfl⟩ hl.1 (Nat.le_of_ble_eq_true rfl) dL_hangs_793 rfl rfl ⟨Nat.le_of_ble_eq_true rfl, Nat.le_of_ble_eq_true rfl⟩ (fun r793 u793 H locs hp793 hP hD hS => ?_)
                                                refine ro_top (z := S.y 24) hx hp793 ?_
                                                refine lv_aload_n hx hb dL_hangs_796 rfl (lv_at hl 2 rfl) ?_
                                                refine oV (As := []) (rest := [.int (S.y 24)]) (q0 := 0) (ci := 7) (T := TX7) (N := 5) C9 (o_nodes l D G q K S C) (fun _ => OW_fst _ _ _ _ _ _ _) hS hP hD (List.range' 0 57) (OW_get _ _ _ _ _) (by decide) (fun _ => OW_put _ _ _ _ _ _ _ _ _) rfl rfl ys_X7_nodes kw_16_2 kw_16_3 kw_16_4 ⟨Nat.le_of_ble_eq_true rfl, Nat.le_of_ble_eq_true rfl⟩ hl.1 (Nat.le_of_ble_eq_true rfl) dL_hangs_797 rfl rfl ⟨Nat.le_of_ble_eq_true rfl, Nat.le_of_ble_eq_true rfl⟩ (fun r797 u797 H locs hp797 hP hD hS => ?_)
                                                refine ro_top (z := nI (S.x 22)) hx hp797 ?_
                                                refine lv_icmp_gt (tgt := 854) hx hb dL_hangs_800 (by decide) (fun c_800 => ?_) (fun c_800 => ?_)
                                                · exact absurd c_800 (nlt_of (by rw [nI_toInt (by omega)]; exact w9.2.2.1.2))
                                                · refine lv_aload_n hx hb dL_hangs_803 rfl (lv_at hl 2 rfl) ?_
                                                  refine oF (As := []) (rest := []) (q0 := 0) (ci := 7) (T := TX7) (N := 5) C9 (o_hitShare l D G q K S C (by omega)) hS hP hD (List.range' 0 57) (OW_get _ _ _ _ _) (by decide) rfl rfl ys_X7_hitShare kw_9_2 kw_9_3 kw_9_4 ⟨Nat.le_of_ble_eq_true rfl, Nat.le_of_ble_eq_true rfl⟩ hl.1 (Nat.le_of_ble_eq_true rfl) dL_hangs_804 rfl rfl ⟨Nat.le_of_ble_eq_true rfl, Nat.le_of_ble_eq_true rfl⟩ (fun r804 H locs hp804 hP hS => ?_)
                                                  refine W.eq (g2 := F0 m9 807 ls [.double (hsV (S.x 22) (S.y 24))]) (by rw [hp804]) ?_
                                                  refine lv_aload_n hx hb dL_hangs_807 rfl (lv_at hl 2 rfl) ?_
                                                  refine oV (As := []) (rest := [.double (hsV (S.x 22) (S.y 24))]) (q0 := 0) (ci := 7) (T := TX7) (N := 5) C9 (o_nodes l D G q K S C) (fun _ => OW_fst _ _ _ _ _ _ _) hS hP hD (List.range' 0 57) (OW_get _ _ _ _ _) (by decide) (fun _ => OW_put _ _ _ _ _ _ _ _ _) rfl rfl ys_X7_nodes kw_16_2 kw_16_3 kw_16_4 ⟨Nat.le_of_ble_eq_true rfl, Nat.le_of_ble_eq_true rfl⟩ hl.1 (Nat.le_of_ble_eq_true rfl) dL_hangs_808 rfl rfl ⟨Nat.le_of_ble_eq_true rfl, Nat.le_of_ble_eq_true rfl⟩ (fun r808 u808 H locs hp808 hP hD hS => ?_)
                                                  refine ro_top (z := nI (S.x 22)) hx hp808 ?_
                                                  refine lv_if_ne (tgt := 818) hx hb dL_hangs_811 (by decide) (fun c_811 => ?_) (fun c_811 => ?_)
                                                  · have c_811 := neq_f (a := S.x 22) (b := 0) (by omega) (by omega) c_811
                                                    refine lv_aload_n hx hb dL_hangs_818 rfl (lv_at hl 2 rfl) ?_
                                                    refine oV (As := []) (rest := [.double (hsV (S.x 22) (S.y 24))]) (q0 := 0) (ci := 7) (T := TX7) (N := 5) C9 (o_hits l D G q K S C) (fun _ => OW_fst _ _ _ _ _ _ _) hS hP hD (List.range' 0 57) (OW_get _ _ _ _ _) (by decide) (fun _ => OW_put _ _ _ _ _ _ _ _ _) rfl rfl ys_X7_hits kw_16_11 kw_16_12 kw_16_13 ⟨Nat.le_of_ble_eq_true rfl, Nat.le_of_ble_eq_true rfl⟩ hl.1 (Nat.le_of_ble_eq_true rfl) dL_hangs_819 rfl rfl ⟨Nat.le_of_ble_eq_true rfl, Nat.le_of_ble_eq_true rfl⟩ (fun r819 u819 H locs hp819 hP hD hS => ?_)
                                                    refine ro_top (z := S.y 24) hx hp819 ?_
                                                    refine lv_i2d hx hb dL_hangs_822 ?_
                                                    refine lv_aload_n hx hb dL_hangs_823 rfl (lv_at hl 2 rfl) ?_
                                                    refine oV (As := []) (rest := [.double (FP.i2d (S.y 24)), .double (hsV (S.x 22) (S.y 24))]) (q0 := 0) (ci := 7) (T := TX7) (N := 5) C9 (o_nodes l D G q K S C) (fun _ => OW_fst _ _ _ _ _ _ _) hS hP hD (List.range' 0 57) (OW_get _ _ _ _ _) (by decide) (fun _ => OW_put _ _ _ _ _ _ _ _ _) rfl rfl ys_X7_nodes kw_16_2 kw_16_3 kw_16_4 ⟨Nat.le_of_ble_eq_true rfl, Nat.le_of_ble_eq_true rfl⟩ hl.1 (Nat.le_of_ble_eq_true rfl) dL_hangs_824 rfl rfl ⟨Nat.le_of_ble_eq_true rfl, Nat.le_of_ble_eq_true rfl⟩ (fun r824 u824 H locs hp824 hP hD hS => ?_)
                                                    refine ro_top (z := nI (S.x 22)) hx hp824 ?_
                                                    refine lv_i2d hx hb dL_hangs_827 ?_
                                                    refine lv_ddiv hx hb dL_hangs_828 (num_ok (hs_num (by omega) (by omega))) ?_
                                                    refine lv_dcmp hx hb dL_hangs_829 ?_
                                                    refine ro_top (z := 0) hx (by have e9 : hsV (S.x 22) (S.y 24) = FP.ddiv (FP.i2d (S.y 24)) (FP.i2d (nI (S.x 22))) := if_neg c_811; rw [← e9]; exact hs_self (by omega)) ?_
                                                    refine lv_if_ne (tgt := 854) hx hb dL_hangs_830 (by decide) (fun h => absurd (by decide) h) (fun _ => ?_)
                                                    refine lv_aload_n hx hb dL_hangs_833 rfl (lv_at hl 2 rfl) ?_
                                                    refine oV (As := []) (rest := []) (q0 := 0) (ci := 7) (T := TX7) (N := 5) C9 (o_nodes l D G q K S C) (fun _ => OW_fst _ _ _ _ _ _ _) hS hP hD (List.range' 0 57) (OW_get _ _ _ _ _) (by decide) (fun _ => OW_put _ _ _ _ _ _ _ _ _) rfl rfl ys_X7_nodes kw_16_2 kw_16_3 kw_16_4 ⟨Nat.le_of_ble_eq_true rfl, Nat.le_of_ble_eq_true rfl⟩ hl.1 (Nat.le_of_ble_eq_true rfl) dL_hangs_834 rfl rfl ⟨Nat.le_of_ble_eq_true rfl, Nat.le_of_ble_eq_true rfl⟩ (fun r834 u834 H locs hp834 hP hD hS => ?_)
                                                    refine ro_top (z := nI (S.x 22)) hx hp834 ?_
                                                    refine lv_if_gt (tgt := 850) hx hb dL_hangs_837 (by decide) (fun c_837 => ?_) (fun c_837 => ?_)
                                                    · have c_837 := nlt_t (a := 0) (b := S.x 22) (by omega) (by omega) c_837
                                                      refine lv_iconst (v := 1) hx hb dL_hangs_850 (by decide) ?_
                                                      refine lv_goto (tgt := 855) hx hb dL_hangs_851 (by decide) ?_
                                                      exact endI C9 rfl () rfl hS hP dL_hangs_855
                                                    · have c_837 := nlt_f (a := 0) (b := S.x 22) (by omega) (by omega) c_837
                                                      refine lv_aload_n hx hb dL_hangs_840 rfl (lv_at hl 2 rfl) ?_
                                                      refine oV (As := []) (rest := []) (q0 := 0) (ci := 7) (T := TX7) (N := 5) C9 (o_result l D G q K S C) (fun _ => OW_fst _ _ _ _ _ _ _) hS hP hD (List.range' 0 57) (OW_get _ _ _ _ _) (by decide) (fun _ => OW_put _ _ _ _ _ _ _ _ _) rfl rfl ys_X7_result kw_8_20 kw_8_21 kw_8_22 ⟨Nat.le_of_ble_eq_true rfl, Nat.le_of_ble_eq_true rfl⟩ hl.1 (Nat.le_of_ble_eq_true rfl) dL_hangs_841 rfl rfl ⟨Nat.le_of_ble_eq_true rfl, Nat.le_of_ble_eq_true rfl⟩ (fun r841 u841 H locs hp841 hP hD hS => ?_)
                                                      refine ro_top (z := S.y 21) hx hp841 ?_
                                                      refine lv_sipush (v := (-999)) hx hb dL_hangs_844 (by decide) ?_
                                                      refine lv_icmp_ne (tgt := 854) hx hb dL_hangs_847 (by decide) (fun c_847 => ?_) (fun c_847 => ?_)
                                                      · exact absurd (w9.2.2.2 (by omega)) c_847
                                                      · refine lv_iconst (v := 1) hx hb dL_hangs_850 (by decide) ?_
                                                        refine lv_goto (tgt := 855) hx hb dL_hangs_851 (by decide) ?_
                                                        exact endI C9 rfl () rfl hS hP dL_hangs_855
                                                  · have c_811 := neq_t (a := S.x 22) (b := 0) (by omega) (by omega) c_811
                                                    refine lv_dconst0 hx hb dL_hangs_814 ?_
                                                    refine lv_goto (tgt := 829) hx hb dL_hangs_815 (by decide) ?_
                                                    refine lv_dcmp hx hb dL_hangs_829 ?_
                                                    refine ro_top (z := 0) hx (by have e9 : hsV (S.x 22) (S.y 24) = FP.dconst0 := if_pos c_811; rw [← e9]; exact hs_self (by omega)) ?_
                                                    refine lv_if_ne (tgt := 854) hx hb dL_hangs_830 (by decide) (fun h => absurd (by decide) h) (fun _ => ?_)
                                                    refine lv_aload_n hx hb dL_hangs_833 rfl (lv_at hl 2 rfl) ?_
                                                    refine oV (As := []) (rest := []) (q0 := 0) (ci := 7) (T := TX7) (N := 5) C9 (o_nodes l D G q K S C) (fun _ => OW_fst _ _ _ _ _ _ _) hS hP hD (List.range' 0 57) (OW_get _ _ _ _ _) (by decide) (fun _ => OW_put _ _ _ _ _ _ _ _ _) rfl rfl ys_X7_nodes kw_16_2 kw_16_3 kw_16_4 ⟨Nat.le_of_ble_eq_true rfl, Nat.le_of_ble_eq_true rfl⟩ hl.1 (Nat.le_of_ble_eq_true rfl) dL_hangs_834 rfl rfl ⟨Nat.le_of_ble_eq_true rfl, Nat.le_of_ble_eq_true rfl⟩ (fun r834 u834 H locs hp834 hP hD hS => ?_)
                                                    refine ro_top (z := nI (S.x 22)) hx hp834 ?_
                                                    refine lv_if_gt (tgt := 850) hx hb dL_hangs_837 (by decide) (fun c_837 => ?_) (fun c_837 => ?_)
                                                    · have c_837 := nlt_t (a := 0) (b := S.x 22) (by omega) (by omega) c_837
                                                      refine lv_iconst (v := 1) hx hb dL_hangs_850 (by decide) ?_
                                                      refine lv_goto (tgt := 855) hx hb dL_hangs_851 (by decide) ?_
                                                      exact endI C9 rfl () rfl hS hP dL_hangs_855
                                                    · have c_837 := nlt_f (a := 0) (b := S.x 22) (by omega) (by omega) c_837
                                                      refine lv_aload_n hx hb dL_hangs_840 rfl (lv_at hl 2 rfl) ?_
                                                      refine oV (As := []) (rest := []) (q0 := 0) (ci := 7) (T := TX7) (N := 5) C9 (o_result l D G q K S C) (fun _ => OW_fst _ _ _ _ _ _ _) hS hP hD (List.range' 0 57) (OW_get _ _ _ _ _) (by decide) (fun _ => OW_put _ _ _ _ _ _ _ _ _) rfl rfl ys_X7_result kw_8_20 kw_8_21 kw_8_22 ⟨Nat.le_of_ble_eq_true rfl, Nat.le_of_ble_eq_true rfl⟩ hl.1 (Nat.le_of_ble_eq_true rfl) dL_hangs_841 rfl rfl ⟨Nat.le_of_ble_eq_true rfl, Nat.le_of_ble_eq_true rfl⟩ (fun r841 u841 H locs hp841 hP hD hS => ?_)
                                                      refine ro_top (z := S.y 21) hx hp841 ?_
                                                      refine lv_sipush (v := (-999)) hx hb dL_hangs_844 (by decide) ?_
                                                      refine lv_icmp_ne (tgt := 854) hx hb dL_hangs_847 (by decide) (fun c_847 => ?_) (fun c_847 => ?_)
                                                      · exact absurd (w9.2.2.2 (by omega)) c_847
                                                      · refine lv_iconst (v := 1) hx hb dL_hangs_850 (by decide) ?_
                                                        refine lv_goto (tgt := 855) hx hb dL_hangs_851 (by decide) ?_
                                                        exact endI C9 rfl () rfl hS hP dL_hangs_855
                                  · have c_586 := nle_f (a := 144) (b := i) (by omega) (by omega) c_586
                                    refine lv_iload_n hx hb dL_hangs_589 rfl (lv_at hl 1 rfl) ?_
                                    refine lv_if_eq (tgt := 689) hx hb dL_hangs_590 (by decide) (fun h => absurd h (by decide)) (fun _ => ?_)
                                    refine lv_aload_n hx hb dL_hangs_593 rfl (lv_at hl 0 rfl) ?_
                                    refine lv_iload hx hb dL_hangs_594 (lv_at hl 5 rfl) ?_
                                    refine lv_bipush (v := 12) hx hb dL_hangs_596 (by decide) ?_
                                    refine lv_idiv hx hb dL_hangs_598 (by decide) ?_
                                    refine ro_top (z := nI (i / 12)) hx (nI_div (a := i) (b := 12) (by omega) (by decide)) ?_
                                    refine lv_iload hx hb dL_hangs_599 (lv_at hl 5 rfl) ?_
                                    refine lv_bipush (v := 12) hx hb dL_hangs_601 (by decide) ?_
                                    refine ro_irem (z := nI (i % 12)) hx hb (by decide) (nI_rem (a := i) (b := 12) (by omega) (by decide)) dL_hangs_603 ?_
                                    refine lv_iconst (v := 1) hx hb dL_hangs_604 (by decide) ?_
                                    refine ro_iadd (z := nI (i % 12 + 1)) hx hb (nI_add (i % 12) 1) dL_hangs_605 ?_
                                    refine oW (As := [.ref q, .int (nI (i / 12)), .int (nI (i % 12 + 1))]) (rest := []) C9 (mL_entryKind_ok l D G q K S C (i / 12) (i % 12 + 1) (by omega) (by omega) (by omega)) (fun _ => OW_fst _ _ _ _ _ _ _) hS hP hD (List.range' 0 57) (OW_get _ _ _ _ _) (by decide) (fun _ => OW_put _ _ _ _ _ _ _ _ _) yw_L_entryKind kw_14_20 kw_14_21 ⟨Nat.le_of_ble_eq_true rfl, Nat.le_of_ble_eq_true rfl⟩ hl.1 (Nat.le_of_ble_eq_true rfl) dL_hangs_606 rfl rfl ⟨Nat.le_of_ble_eq_true rfl, Nat.le_of_ble_eq_true rfl⟩ (fun r606 u606 H locs hp606 hP hD hS => ?_)
                                    refine ro_top (z := kdY S.y (i / 12 * 12 + (i % 12 + 1) - 1)) hx hp606 ?_
                                    rcases w10 i (by omega) with hk9 | ⟨hk9 | hk9 | hk9, hvn⟩
                                    · refine ro_top (z := 0) hx (by rw [show i / 12 * 12 + (i % 12 + 1) - 1 = i by omega]; exact hk9) ?_
                                      refine lv_istore (lv' := [(14, .int 0), (0, .ref q), (2, .int 1), (4, .int vv), (10, .int bal), (12, .int (nI (enN (kdY S.y) i))), (13, .int (nI i))]) hx hb dL_hangs_609 hl (by decide) rfl (fun ls hl => ?_)
                                      refine lv_iload hx hb dL_hangs_611 (lv_at hl 5 rfl) ?_
                                      refine lv_iload hx hb dL_hangs_613 (lv_at hl 0 rfl) ?_
                                      refine lv_if_le (tgt := 622) hx hb dL_hangs_615 (by decide) (fun _ => ?_) (fun h => absurd (by decide) h)
                                      refine lv_iconst (v := 0) hx hb dL_hangs_622 (by decide) ?_
                                      refine ro_iadd (z := nI (enN (kdY S.y) (i + 1))) hx hb (enN_0 hk9) dL_hangs_623 ?_
                                      refine lv_istore (lv' := [(12, .int (nI (enN (kdY S.y) (i + 1)))), (14, .int 0), (0, .ref q), (2, .int 1), (4, .int vv), (10, .int bal), (13, .int (nI i))]) hx hb dL_hangs_624 hl (by decide) rfl (fun ls hl => ?_)
                                      refine lv_iload hx hb dL_hangs_626 (lv_at hl 1 rfl) ?_
                                      refine lv_if_lt (tgt := 681) hx hb dL_hangs_628 (by decide) (fun h => absurd h (by decide)) (fun _ => ?_)
                                      refine lv_iload hx hb dL_hangs_631 (lv_at hl 1 rfl) ?_
                                      refine lv_iconst (v := 4) hx hb dL_hangs_633 (by decide) ?_
                                      refine lv_icmp_ge (tgt := 681) hx hb dL_hangs_634 (by decide) (fun h => absurd h (by decide)) (fun _ => ?_)
                                      refine lv_iload hx hb dL_hangs_637 (lv_at hl 1 rfl) ?_
                                      refine lv_if_ne (tgt := 646) hx hb dL_hangs_639 (by decide) (fun h => absurd (by decide) h) (fun _ => ?_)
                                      refine lv_iconst (v := 1) hx hb dL_hangs_642 (by decide) ?_
                                      refine lv_goto (tgt := 647) hx hb dL_hangs_643 (by decide) ?_
                                      refine lv_aload_n hx hb dL_hangs_647 rfl (lv_at hl 2 rfl) ?_
                                      refine lv_iload hx hb dL_hangs_648 (lv_at hl 6 rfl) ?_
                                      refine lv_bipush (v := 12) hx hb dL_hangs_650 (by decide) ?_
                                      refine lv_idiv hx hb dL_hangs_652 (by decide) ?_
                                      refine ro_top (z := nI (i / 12)) hx (nI_div (a := i) (b := 12) (by omega) (by decide)) ?_
                                      refine lv_iload hx hb dL_hangs_653 (lv_at hl 6 rfl) ?_
                                      refine lv_bipush (v := 12) hx hb dL_hangs_655 (by decide) ?_
                                      refine ro_irem (z := nI (i % 12)) hx hb (by decide) (nI_rem (a := i) (b := 12) (by omega) (by decide)) dL_hangs_657 ?_
                                      refine lv_iconst (v := 1) hx hb dL_hangs_658 (by decide) ?_
                                      refine ro_iadd (z := nI (i % 12 + 1)) hx hb (nI_add (i % 12) 1) dL_hangs_659 ?_
                                      refine oW (As := [.ref q, .int (nI (i / 12)), .int (nI (i % 12 + 1))]) (rest := [.int 1]) C9 (mL_entryValue_ok l D G q K S C (i / 12) (i % 12 + 1) (by omega) (by omega) (by omega)) (fun _ => OW_fst _ _ _ _ _ _ _) hS hP hD (List.range' 0 57) (OW_get _ _ _ _ _) (by decide) (fun _ => OW_put _ _ _ _ _ _ _ _ _) yw_L_entryValue kw_15_5 kw_15_6 ⟨Nat.le_of_ble_eq_true rfl, Nat.le_of_ble_eq_true rfl⟩ hl.1 (Nat.le_of_ble_eq_true rfl) dL_hangs_660 rfl rfl ⟨Nat.le_of_ble_eq_true rfl, Nat.le_of_ble_eq_true rfl⟩ (fun r660 u660 H locs hp660 hP hD hS => ?_)
                                      refine ro_top (z := evA (kdY S.y) (vlY S.y) (i / 12 * 12 + (i % 12 + 1) - 1)) hx hp660 ?_
                                      refine ro_top (z := -999) hx (by rw [show i / 12 * 12 + (i % 12 + 1) - 1 = i by omega]; exact evA_0 hk9) ?_
                                      refine lv_sipush (v := (-999)) hx hb dL_hangs_663 (by decide) ?_
                                      refine lv_icmp_ne (tgt := 673) hx hb dL_hangs_666 (by decide) (fun h => absurd (by decide) h) (fun _ => ?_)
                                      refine lv_iconst (v := 1) hx hb dL_hangs_669 (by decide) ?_
                                      refine lv_goto (tgt := 674) hx hb dL_hangs_670 (by decide) ?_
                                      refine lv_icmp_ne (tgt := 681) hx hb dL_hangs_674 (by decide) (fun h => absurd (by decide) h) (fun _ => ?_)
                                      refine lv_iconst (v := 1) hx hb dL_hangs_677 (by decide) ?_
                                      refine lv_goto (tgt := 682) hx hb dL_hangs_678 (by decide) ?_
                                      refine lv_istore_n (lv' := [(2, .int 1), (12, .int (nI (enN (kdY S.y) (i + 1)))), (14, .int 0), (0, .ref q), (4, .int vv), (10, .int bal), (13, .int (nI i))]) hx hb dL_hangs_682 rfl hl (by decide) rfl (fun ls hl => ?_)
                                      refine lv_iinc (v := nI (i + 1)) (lv' := [(13, .int (nI (i + 1))), (2, .int 1), (12, .int (nI (enN (kdY S.y) (i + 1)))), (14, .int 0), (0, .ref q), (4, .int vv), (10, .int bal)]) hx hb dL_hangs_683 hl (k := 6) rfl (nI_add i 1) (by decide) rfl (fun ls hl => ?_)
                                      refine lv_goto (tgt := 581) hx hb dL_hangs_686 (by decide) ?_
                                      exact ih581 (i + 1) (by omega) (by omega) _ _ _ hP hD hS (lv_sub hl [4, 1, 5, 6, 2, 0] rfl)
                                    · refine ro_top (z := 1) hx (by rw [show i / 12 * 12 + (i % 12 + 1) - 1 = i by omega]; exact hk9) ?_
                                      have hkn : ¬ kdY S.y i = 0 := by rw [hk9]; decide
                                      refine lv_istore (lv' := [(14, .int 1), (0, .ref q), (2, .int 1), (4, .int vv), (10, .int bal), (12, .int (nI (enN (kdY S.y) i))), (13, .int (nI i))]) hx hb dL_hangs_609 hl (by decide) rfl (fun ls hl => ?_)
                                      refine lv_iload hx hb dL_hangs_611 (lv_at hl 5 rfl) ?_
                                      refine lv_iload hx hb dL_hangs_613 (lv_at hl 0 rfl) ?_
                                      refine lv_if_le (tgt := 622) hx hb dL_hangs_615 (by decide) (fun h => absurd h (by decide)) (fun _ => ?_)
                                      refine lv_iconst (v := 1) hx hb dL_hangs_618 (by decide) ?_
                                      refine lv_goto (tgt := 623) hx hb dL_hangs_619 (by decide) ?_
                                      refine ro_iadd (z := nI (enN (kdY S.y) (i + 1))) hx hb (enN_n hkn) dL_hangs_623 ?_
                                      refine lv_istore (lv' := [(12, .int (nI (enN (kdY S.y) (i + 1)))), (14, .int 1), (0, .ref q), (2, .int 1), (4, .int vv), (10, .int bal), (13, .int (nI i))]) hx hb dL_hangs_624 hl (by decide) rfl (fun ls hl => ?_)
                                      refine lv_iload hx hb dL_hangs_626 (lv_at hl 1 rfl) ?_
                                      refine lv_if_lt (tgt := 681) hx hb dL_hangs_628 (by decide) (fun h => absurd h (by decide)) (fun _ => ?_)
                                      refine lv_iload hx hb dL_hangs_631 (lv_at hl 1 rfl) ?_
                                      refine lv_iconst (v := 4) hx hb dL_hangs_633 (by decide) ?_
                                      refine lv_icmp_ge (tgt := 681) hx hb dL_hangs_634 (by decide) (fun h => absurd h (by decide)) (fun _ => ?_)
                                      refine lv_iload hx hb dL_hangs_637 (lv_at hl 1 rfl) ?_
                                      refine lv_if_ne (tgt := 646) hx hb dL_hangs_639 (by decide) (fun _ => ?_) (fun h => absurd h (by decide))
                                      refine lv_iconst (v := 0) hx hb dL_hangs_646 (by decide) ?_
                                      refine lv_aload_n hx hb dL_hangs_647 rfl (lv_at hl 2 rfl) ?_
                                      refine lv_iload hx hb dL_hangs_648 (lv_at hl 6 rfl) ?_
                                      refine lv_bipush (v := 12) hx hb dL_hangs_650 (by decide) ?_
                                      refine lv_idiv hx hb dL_hangs_652 (by decide) ?_
                                      refine ro_top (z := nI (i / 12)) hx (nI_div (a := i) (b := 12) (by omega) (by decide)) ?_
                                      refine lv_iload hx hb dL_hangs_653 (lv_at hl 6 rfl) ?_
                                      refine lv_bipush (v := 12) hx hb dL_hangs_655 (by decide) ?_
                                      refine ro_irem (z := nI (i % 12)) hx hb (by decide) (nI_rem (a := i) (b := 12) (by omega) (by decide)) dL_hangs_657 ?_
                                      refine lv_iconst (v := 1) hx hb dL_hangs_658 (by decide) ?_
                                      refine ro_iadd (z := nI (i % 12 + 1)) hx hb (nI_add (i % 12) 1) dL_hangs_659 ?_
                                      refine oW (As := [.ref q, .int (nI (i / 12)), .int (nI (i % 12 + 1))]) (rest := [.int 0]) C9 (mL_entryValue_ok l D G q K S C (i / 12) (i % 12 + 1) (by omega) (by omega) (by omega)) (fun _ => OW_fst _ _ _ _ _ _ _) hS hP hD (List.range' 0 57) (OW_get _ _ _ _ _) (by decide) (fun _ => OW_put _ _ _ _ _ _ _ _ _) yw_L_entryValue kw_15_5 kw_15_6 ⟨Nat.le_of_ble_eq_true rfl, Nat.le_of_ble_eq_true rfl⟩ hl.1 (Nat.le_of_ble_eq_true rfl) dL_hangs_660 rfl rfl ⟨Nat.le_of_ble_eq_true rfl, Nat.le_of_ble_eq_true rfl⟩ (fun r660 u660 H locs hp660 hP hD hS => ?_)
                                      refine ro_top (z := evA (kdY S.y) (vlY S.y) (i / 12 * 12 + (i % 12 + 1) - 1)) hx hp660 ?_
                                      refine ro_top (z := vlY S.y i) hx (by rw [show i / 12 * 12 + (i % 12 + 1) - 1 = i by omega]; exact evA_n hkn) ?_
                                      refine lv_sipush (v := (-999)) hx hb dL_hangs_663 (by decide) ?_
                                      refine lv_icmp_ne (tgt := 673) hx hb dL_hangs_666 (by decide) (fun c_666 => ?_) (fun c_666 => ?_)
                                      · refine lv_iconst (v := 0) hx hb dL_hangs_673 (by decide) ?_
                                        refine lv_icmp_ne (tgt := 681) hx hb dL_hangs_674 (by decide) (fun h => absurd (by decide) h) (fun _ => ?_)
                                        refine lv_iconst (v := 1) hx hb dL_hangs_677 (by decide) ?_
                                        refine lv_goto (tgt := 682) hx hb dL_hangs_678 (by decide) ?_
                                        refine lv_istore_n (lv' := [(2, .int 1), (12, .int (nI (enN (kdY S.y) (i + 1)))), (14, .int 1), (0, .ref q), (4, .int vv), (10, .int bal), (13, .int (nI i))]) hx hb dL_hangs_682 rfl hl (by decide) rfl (fun ls hl => ?_)
                                        refine lv_iinc (v := nI (i + 1)) (lv' := [(13, .int (nI (i + 1))), (2, .int 1), (12, .int (nI (enN (kdY S.y) (i + 1)))), (14, .int 1), (0, .ref q), (4, .int vv), (10, .int bal)]) hx hb dL_hangs_683 hl (k := 6) rfl (nI_add i 1) (by decide) rfl (fun ls hl => ?_)
                                        refine lv_goto (tgt := 581) hx hb dL_hangs_686 (by decide) ?_
                                        exact ih581 (i + 1) (by omega) (by omega) _ _ _ hP hD hS (lv_sub hl [4, 1, 5, 6, 2, 0] rfl)
                                      · exact absurd c_666 hvn
                                    · refine ro_top (z := 2) hx (by rw [show i / 12 * 12 + (i % 12 + 1) - 1 = i by omega]; exact hk9) ?_
                                      have hkn : ¬ kdY S.y i = 0 := by rw [hk9]; decide
                                      refine lv_istore (lv' := [(14, .int 2), (0, .ref q), (2, .int 1), (4, .int vv), (10, .int bal), (12, .int (nI (enN (kdY S.y) i))), (13, .int (nI i))]) hx hb dL_hangs_609 hl (by decide) rfl (fun ls hl => ?_)
                                      refine lv_iload hx hb dL_hangs_611 (lv_at hl 5 rfl) ?_
                                      refine lv_iload hx hb dL_hangs_613 (lv_at hl 0 rfl) ?_
                                      refine lv_if_le (tgt := 622) hx hb dL_hangs_615 (by decide) (fun h => absurd h (by decide)) (fun _ => ?_)
                                      refine lv_iconst (v := 1) hx hb dL_hangs_618 (by decide) ?_
                                      refine lv_goto (tgt := 623) hx hb dL_hangs_619 (by decide) ?_
                                      refine ro_iadd (z := nI (enN (kdY S.y) (i + 1))) hx hb (enN_n hkn) dL_hangs_623 ?_
                                      refine lv_istore (lv' := [(12, .int (nI (enN (kdY S.y) (i + 1)))), (14, .int 2), (0, .ref q), (2, .int 1), (4, .int vv), (10, .int bal), (13, .int (nI i))]) hx hb dL_hangs_624 hl (by decide) rfl (fun ls hl => ?_)
                                      refine lv_iload hx hb dL_hangs_626 (lv_at hl 1 rfl) ?_
                                      refine lv_if_lt (tgt := 681) hx hb dL_hangs_628 (by decide) (fun h => absurd h (by decide)) (fun _ => ?_)
                                      refine lv_iload hx hb dL_hangs_631 (lv_at hl 1 rfl) ?_
                                      refine lv_iconst (v := 4) hx hb dL_hangs_633 (by decide) ?_
                                      refine lv_icmp_ge (tgt := 681) hx hb dL_hangs_634 (by decide) (fun h => absurd h (by decide)) (fun _ => ?_)
                                      refine lv_iload hx hb dL_hangs_637 (lv_at hl 1 rfl) ?_
                                      refine lv_if_ne (tgt := 646) hx hb dL_hangs_639 (by decide) (fun _ => ?_) (fun h => absurd h (by decide))
                                      refine lv_iconst (v := 0) hx hb dL_hangs_646 (by decide) ?_
                                      refine lv_aload_n hx hb dL_hangs_647 rfl (lv_at hl 2 rfl) ?_
                                      refine lv_iload hx hb dL_hangs_648 (lv_at hl 6 rfl) ?_
                                      refine lv_bipush (v := 12) hx hb dL_hangs_650 (by decide) ?_
                                      refine lv_idiv hx hb dL_hangs_652 (by decide) ?_
                                      refine ro_top (z := nI (i / 12)) hx (nI_div (a := i) (b := 12) (by omega) (by decide)) ?_
                                      refine lv_iload hx hb dL_hangs_653 (lv_at hl 6 rfl) ?_
                                      refine lv_bipush (v := 12) hx hb dL_hangs_655 (by decide) ?_
                                      refine ro_irem (z := nI (i % 12)) hx hb (by decide) (nI_rem (a := i) (b := 12) (by omega) (by decide)) dL_hangs_657 ?_
                                      refine lv_iconst (v := 1) hx hb dL_hangs_658 (by decide) ?_
                                      refine ro_iadd (z := nI (i % 12 + 1)) hx hb (nI_add (i % 12) 1) dL_hangs_659 ?_
                                      refine oW (As := [.ref q, .int (nI (i / 12)), .int (nI (i % 12 + 1))]) (rest := [.int 0]) C9 (mL_entryValue_ok l D G q K S C (i / 12) (i % 12 + 1) (by omega) (by omega) (by omega)) (fun _ => OW_fst _ _ _ _ _ _ _) hS hP hD (List.range' 0 57) (OW_get _ _ _ _ _) (by decide) (fun _ => OW_put _ _ _ _ _ _ _ _ _) yw_L_entryValue kw_15_5 kw_15_6 ⟨Nat.le_of_ble_eq_true rfl, Nat.le_of_ble_eq_true rfl⟩ hl.1 (Nat.le_of_ble_eq_true rfl) dL_hangs_660 rfl rfl ⟨Nat.le_of_ble_eq_true rfl, Nat.le_of_ble_eq_true rfl⟩ (fun r660 u660 H locs hp660 hP hD hS => ?_)
                                      refine ro_top (z := evA (kdY S.y) (vlY S.y) (i / 12 * 12 + (i % 12 + 1) - 1)) hx hp660 ?_
                                      refine ro_top (z := vlY S.y i) hx (by rw [show i / 12 * 12 + (i % 12 + 1) - 1 = i by omega]; exact evA_n hkn) ?_
                                      refine lv_sipush (v := (-999)) hx hb dL_hangs_663 (by decide) ?_
                                      refine lv_icmp_ne (tgt := 673) hx hb dL_hangs_666 (by decide) (fun c_666 => ?_) (fun c_666 => ?_)
                                      · refine lv_iconst (v := 0) hx hb dL_hangs_673 (by decide) ?_
                                        refine lv_icmp_ne (tgt := 681) hx hb dL_hangs_674 (by decide) (fun h => absurd (by decide) h) (fun _ => ?_)
                                        refine lv_iconst (v := 1) hx hb dL_hangs_677 (by decide) ?_
                                        refine lv_goto (tgt := 682) hx hb dL_hangs_678 (by decide) ?_
                                        refine lv_istore_n (lv' := [(2, .int 1), (12, .int (nI (enN (kdY S.y) (i + 1)))), (14, .int 2), (0, .ref q), (4, .int vv), (10, .int bal), (13, .int (nI i))]) hx hb dL_hangs_682 rfl hl (by decide) rfl (fun ls hl => ?_)
                                        refine lv_iinc (v := nI (i + 1)) (lv' := [(13, .int (nI (i + 1))), (2, .int 1), (12, .int (nI (enN (kdY S.y) (i + 1)))), (14, .int 2), (0, .ref q), (4, .int vv), (10, .int bal)]) hx hb dL_hangs_683 hl (k := 6) rfl (nI_add i 1) (by decide) rfl (fun ls hl => ?_)
                                        refine lv_goto (tgt := 581) hx hb dL_hangs_686 (by decide) ?_
                                        exact ih581 (i + 1) (by omega) (by omega) _ _ _ hP hD hS (lv_sub hl [4, 1, 5, 6, 2, 0] rfl)
                                      · exact absurd c_666 hvn
                                    · refine ro_top (z := 3) hx (by rw [show i / 12 * 12 + (i % 12 + 1) - 1 = i by omega]; exact hk9) ?_
                                      have hkn : ¬ kdY S.y i = 0 := by rw [hk9]; decide
                                      refine lv_istore (lv' := [(14, .int 3), (0, .ref q), (2, .int 1), (4, .int vv), (10, .int bal), (12, .int (nI (enN (kdY S.y) i))), (13, .int (nI i))]) hx hb dL_hangs_609 hl (by decide) rfl (fun ls hl => ?_)
                                      refine lv_iload hx hb dL_hangs_611 (lv_at hl 5 rfl) ?_
                                      refine lv_iload hx hb dL_hangs_613 (lv_at hl 0 rfl) ?_
                                      refine lv_if_le (tgt := 622) hx hb dL_hangs_615 (by decide) (fun h => absurd h (by decide)) (fun _ => ?_)
                                      refine lv_iconst (v := 1) hx hb dL_hangs_618 (by decide) ?_
                                      refine lv_goto (tgt := 623) hx hb dL_hangs_619 (by decide) ?_
                                      refine ro_iadd (z := nI (enN (kdY S.y) (i + 1))) hx hb (enN_n hkn) dL_hangs_623 ?_
                                      refine lv_istore (lv' := [(12, .int (nI (enN (kdY S.y) (i + 1)))), (14, .int 3), (0, .ref q), (2, .int 1), (4, .int vv), (10, .int bal), (13, .int (nI i))]) hx hb dL_hangs_624 hl (by decide) rfl (fun ls hl => ?_)
                                      refine lv_iload hx hb dL_hangs_626 (lv_at hl 1 rfl) ?_
                                      refine lv_if_lt (tgt := 681) hx hb dL_hangs_628 (by decide) (fun h => absurd h (by decide)) (fun _ => ?_)
                                      refine lv_iload hx hb dL_hangs_631 (lv_at hl 1 rfl) ?_
                                      refine lv_iconst (v := 4) hx hb dL_hangs_633 (by decide) ?_
                                      refine lv_icmp_ge (tgt := 681) hx hb dL_hangs_634 (by decide) (fun h => absurd h (by decide)) (fun _ => ?_)
                                      refine lv_iload hx hb dL_hangs_637 (lv_at hl 1 rfl) ?_
                                      refine lv_if_ne (tgt := 646) hx hb dL_hangs_639 (by decide) (fun _ => ?_) (fun h => absurd h (by decide))
                                      refine lv_iconst (v := 0) hx hb dL_hangs_646 (by decide) ?_
                                      refine lv_aload_n hx hb dL_hangs_647 rfl (lv_at hl 2 rfl) ?_
                                      refine lv_iload hx hb dL_hangs_648 (lv_at hl 6 rfl) ?_
                                      refine lv_bipush (v := 12) hx hb dL_hangs_650 (by decide) ?_
                                      refine lv_idiv hx hb dL_hangs_652 (by decide) ?_
                                      refine ro_top (z := nI (i / 12)) hx (nI_div (a := i) (b := 12) (by omega) (by decide)) ?_
                                      refine lv_iload hx hb dL_hangs_653 (lv_at hl 6 rfl) ?_
                                      refine lv_bipush (v := 12) hx hb dL_hangs_655 (by decide) ?_
                                      refine ro_irem (z := nI (i % 12)) hx hb (by decide) (nI_rem (a := i) (b := 12) (by omega) (by decide)) dL_hangs_657 ?_
                                      refine lv_iconst (v := 1) hx hb dL_hangs_658 (by decide) ?_
                                      refine ro_iadd (z := nI (i % 12 + 1)) hx hb (nI_add (i % 12) 1) dL_hangs_659 ?_
                                      refine oW (As := [.ref q, .int (nI (i / 12)), .int (nI (i % 12 + 1))]) (rest := [.int 0]) C9 (mL_entryValue_ok l D G q K S C (i / 12) (i % 12 + 1) (by omega) (by omega) (by omega)) (fun _ => OW_fst _ _ _ _ _ _ _) hS hP hD (List.range' 0 57) (OW_get _ _ _ _ _) (by decide) (fun _ => OW_put _ _ _ _ _ _ _ _ _) yw_L_entryValue kw_15_5 kw_15_6 ⟨Nat.le_of_ble_eq_true rfl, Nat.le_of_ble_eq_true rfl⟩ hl.1 (Nat.le_of_ble_eq_true rfl) dL_hangs_660 rfl rfl ⟨Nat.le_of_ble_eq_true rfl, Nat.le_of_ble_eq_true rfl⟩ (fun r660 u660 H locs hp660 hP hD hS => ?_)
                                      refine ro_top (z := evA (kdY S.y) (vlY S.y) (i / 12 * 12 + (i % 12 + 1) - 1)) hx hp660 ?_
                                      refine ro_top (z := vlY S.y i) hx (by rw [show i / 12 * 12 + (i % 12 + 1) - 1 = i by omega]; exact evA_n hkn) ?_
                                      refine lv_sipush (v := (-999)) hx hb dL_hangs_663 (by decide) ?_
                                      refine lv_icmp_ne (tgt := 673) hx hb dL_hangs_666 (by decide) (fun c_666 => ?_) (fun c_666 => ?_)
                                      · refine lv_iconst (v := 0) hx hb dL_hangs_673 (by decide) ?_
                                        refine lv_icmp_ne (tgt := 681) hx hb dL_hangs_674 (by decide) (fun h => absurd (by decide) h) (fun _ => ?_)
                                        refine lv_iconst (v := 1) hx hb dL_hangs_677 (by decide) ?_
                                        refine lv_goto (tgt := 682) hx hb dL_hangs_678 (by decide) ?_
                                        refine lv_istore_n (lv' := [(2, .int 1), (12, .int (nI (enN (kdY S.y) (i + 1)))), (14, .int 3), (0, .ref q), (4, .int vv), (10, .int bal), (13, .int (nI i))]) hx hb dL_hangs_682 rfl hl (by decide) rfl (fun ls hl => ?_)
                                        refine lv_iinc (v := nI (i + 1)) (lv' := [(13, .int (nI (i + 1))), (2, .int 1), (12, .int (nI (enN (kdY S.y) (i + 1)))), (14, .int 3), (0, .ref q), (4, .int vv), (10, .int bal)]) hx hb dL_hangs_683 hl (k := 6) rfl (nI_add i 1) (by decide) rfl (fun ls hl => ?_)
                                        refine lv_goto (tgt := 581) hx hb dL_hangs_686 (by decide) ?_
                                        exact ih581 (i + 1) (by omega) (by omega) _ _ _ hP hD hS (lv_sub hl [4, 1, 5, 6, 2, 0] rfl)
                                      · exact absurd c_666 hvn
                              exact lp581 (144 - 0 + 1) 0 (Nat.zero_le _) (Nat.lt_succ_self _) _ _ _ hP hD hS (lv_sub hl [2, 3, 4, 7, 1, 0] rfl)
                            · have c_381 := nle_f (a := 13) (b := k) (by omega) (by omega) c_381
                              refine lv_iload_n hx hb dL_hangs_384 rfl (lv_at hl 1 rfl) ?_
                              refine lv_if_eq (tgt := 575) hx hb dL_hangs_385 (by decide) (fun h => absurd h (by decide)) (fun _ => ?_)
                              refine lv_aload_n hx hb dL_hangs_388 rfl (lv_at hl 0 rfl) ?_
                              refine lv_iload hx hb dL_hangs_389 (lv_at hl 7 rfl) ?_
                              refine oW (As := [.ref q, .int (nI k)]) (rest := []) C9 (mL_line_ok l D G q K S C k w1 w6 hSV (by omega)) (fun _ => OW_fst _ _ _ _ _ _ _) hS hP hD (List.range' 0 57) (OW_get _ _ _ _ _) (by decide) (fun _ => OW_put _ _ _ _ _ _ _ _ _) yw_L_line kw_14_11 kw_14_12 ⟨Nat.le_of_ble_eq_true rfl, Nat.le_of_ble_eq_true rfl⟩ hl.1 (Nat.le_of_ble_eq_true rfl) dL_hangs_391 rfl rfl ⟨Nat.le_of_ble_eq_true rfl, Nat.le_of_ble_eq_true rfl⟩ (fun r391 u391 H locs hp391 hP hD hS => ?_)
                              obtain ⟨mv, hmv⟩ : ∃ z, z = lnA S.p (S.x 13) (S.x 14) k := ⟨_, rfl⟩
                              refine ro_top (z := mv) hx (by rw [hp391, hmv]) ?_
                              rcases (show N9 = 0 ∨ 1 ≤ N9 by omega) with hN0 | hN1
                              · refine ro_top (z := -999) hx (by rw [hmv]; exact lnA_t (by rw [hlp]; exact hN0)) ?_
                                refine lv_istore (lv' := [(13, .int (-999)), (0, .ref q), (2, .int 1), (4, .int vv), (8, .int (nI a9)), (9, .int (nI (N9 + a9))), (10, .int bal), (11, .int sn), (12, .int (nI k))]) hx hb dL_hangs_394 hl (by decide) rfl (fun ls hl => ?_)
                                refine lv_iload hx hb dL_hangs_396 (lv_at hl 0 rfl) ?_
                                refine lv_sipush (v := (-999)) hx hb dL_hangs_398 (by decide) ?_
                                refine lv_icmp_ne (tgt := 408) hx hb dL_hangs_401 (by decide) (fun h => absurd (by decide) h) (fun _ => ?_)
                                refine lv_iconst (v := 1) hx hb dL_hangs_404 (by decide) ?_
                                refine lv_goto (tgt := 409) hx hb dL_hangs_405 (by decide) ?_
                                refine lv_iload hx hb dL_hangs_409 (lv_at hl 4 rfl) ?_
                                refine lv_iload hx hb dL_hangs_411 (lv_at hl 5 rfl) ?_
                                refine lv_icmp_lt (tgt := 420) hx hb dL_hangs_413 (by decide) (fun c_413 => ?_) (fun c_413 => ?_)
                                · have c_413 := nlt_t (a := a9) (b := N9 + a9) (by omega) (by omega) c_413
                                  omega
                                · have c_413 := nlt_f (a := a9) (b := N9 + a9) (by omega) (by omega) c_413
                                  refine lv_iconst (v := 1) hx hb dL_hangs_416 (by decide) ?_
                                  refine lv_goto (tgt := 421) hx hb dL_hangs_417 (by decide) ?_
                                  refine lv_icmp_ne (tgt := 459) hx hb dL_hangs_421 (by decide) (fun h => absurd (by decide) h) (fun _ => ?_)
                                  refine lv_iload hx hb dL_hangs_424 (lv_at hl 0 rfl) ?_
                                  refine lv_sipush (v := (-999)) hx hb dL_hangs_426 (by decide) ?_
                                  refine lv_icmp_eq (tgt := 455) hx hb dL_hangs_429 (by decide) (fun _ => ?_) (fun h => absurd (by decide) h)
                                  refine lv_iconst (v := 1) hx hb dL_hangs_455 (by decide) ?_
                                  refine lv_goto (tgt := 460) hx hb dL_hangs_456 (by decide) ?_
                                  refine lv_istore_n (lv' := [(2, .int 1), (13, .int (-999)), (0, .ref q), (4, .int vv), (8, .int (nI a9)), (9, .int (nI (N9 + a9))), (10, .int bal), (11, .int sn), (12, .int (nI k))]) hx hb dL_hangs_460 rfl hl (by decide) rfl (fun ls hl => ?_)
                                  refine lv_iconst (v := 0) hx hb dL_hangs_461 (by decide) ?_
                                  refine lv_istore (lv' := [(14, .int 0), (2, .int 1), (13, .int (-999)), (0, .ref q), (4, .int vv), (8, .int (nI a9)), (9, .int (nI (N9 + a9))), (10, .int bal), (11, .int sn), (12, .int (nI k))]) hx hb dL_hangs_462 hl (by decide) rfl (fun ls hl => ?_)
                                  refine lv_iload_n hx hb dL_hangs_464 rfl (lv_at hl 1 rfl) ?_
                                  refine lv_if_eq (tgt := 521) hx hb dL_hangs_465 (by decide) (fun h => absurd h (by decide)) (fun _ => ?_)
                                  refine lv_iload hx hb dL_hangs_468 (lv_at hl 2 rfl) ?_
                                  refine lv_if_lt (tgt := 521) hx hb dL_hangs_470 (by decide) (fun _ => ?_) (fun h => absurd (by decide) h)
                                  refine lv_iload hx hb dL_hangs_521 (lv_at hl 5 rfl) ?_
                                  refine lv_iload hx hb dL_hangs_523 (lv_at hl 2 rfl) ?_
                                  refine lv_if_lt (tgt := 534) hx hb dL_hangs_525 (by decide) (fun _ => ?_) (fun h => absurd (by decide) h)
                                  refine lv_iconst (v := 0) hx hb dL_hangs_534 (by decide) ?_
                                  refine lv_goto (tgt := 542) hx hb dL_hangs_535 (by decide) ?_
                                  refine ro_iadd (z := nI a9) hx hb (Int32.add_zero _) dL_hangs_542 ?_
                                  refine lv_istore (lv' := [(8, .int (nI a9)), (14, .int 0), (2, .int 1), (13, .int (-999)), (0, .ref q), (4, .int vv), (9, .int (nI (N9 + a9))), (10, .int bal), (11, .int sn), (12, .int (nI k))]) hx hb dL_hangs_543 hl (by decide) rfl (fun ls hl => ?_)
                                  refine lv_iload hx hb dL_hangs_545 (lv_at hl 6 rfl) ?_
                                  refine lv_iload hx hb dL_hangs_547 (lv_at hl 3 rfl) ?_
                                  refine lv_iconst (v := 2) hx hb dL_hangs_549 (by decide) ?_
                                  refine lv_icmp_ge (tgt := 557) hx hb dL_hangs_550 (by decide) (fun h => absurd h (by decide)) (fun _ => ?_)
                                  refine lv_iconst (v := 0) hx hb dL_hangs_553 (by decide) ?_
                                  refine lv_goto (tgt := 561) hx hb dL_hangs_554 (by decide) ?_
                                  refine ro_isub (z := nI (N9 + a9)) hx hb (Int32.sub_zero _) dL_hangs_561 ?_
                                  refine lv_istore (lv' := [(9, .int (nI (N9 + a9))), (8, .int (nI a9)), (14, .int 0), (2, .int 1), (13, .int (-999)), (0, .ref q), (4, .int vv), (10, .int bal), (11, .int sn), (12, .int (nI k))]) hx hb dL_hangs_562 hl (by decide) rfl (fun ls hl => ?_)
                                  refine lv_iload hx hb dL_hangs_564 (lv_at hl 8 rfl) ?_
                                  refine lv_ineg hx hb dL_hangs_566 ?_
                                  refine lv_istore (lv' := [(11, .int (-sn)), (9, .int (nI (N9 + a9))), (8, .int (nI a9)), (14, .int 0), (2, .int 1), (13, .int (-999)), (0, .ref q), (4, .int vv), (10, .int bal), (12, .int (nI k))]) hx hb dL_hangs_567 hl (by decide) rfl (fun ls hl => ?_)
                                  refine lv_iinc (v := nI (k + 1)) (lv' := [(12, .int (nI (k + 1))), (11, .int (-sn)), (9, .int (nI (N9 + a9))), (8, .int (nI a9)), (14, .int 0), (2, .int 1), (13, .int (-999)), (0, .ref q), (4, .int vv), (10, .int bal)]) hx hb dL_hangs_569 hl (k := 9) rfl (nI_add k 1) (by decide) rfl (fun ls hl => ?_)
                                  refine lv_goto (tgt := 377) hx hb dL_hangs_572 (by decide) ?_
                                  exact ih377 (k + 1) a9 N9 bal (-sn) (by omega) (by rw [lpos_stop (by rw [hlp]; exact hN0)]; exact hlp) han (sn_neg hsn) (bal_z hN0 hbal) (by omega) _ _ _ hP hD hS (lv_sub hl [7, 5, 8, 3, 2, 9, 1, 0] rfl)
                              · obtain ⟨b1, b2, -, b4⟩ := bN_spec w6 (f := S.x 13 + a9) (n := N9) (by omega) (by omega)
                                have hln : mv = nI (bN S.p (S.x 13 + a9) N9) := by rw [hmv, lnA_f (by rw [hlp]; show ¬ N9 = 0; omega), hlp]
                                have hgo := lpos_go' hlp (by omega)
                                generalize bN S.p (S.x 13 + a9) N9 = mm at b1 b2 b4 hln hgo
                                have hls := line_s w6 b1 b2 w1 han hsn hbal hv240 b4
                                rcases (show mm = 0 ∨ mm = 1 ∨ mm = 2 ∨ mm = 3 by omega) with hmm | hmm | hmm | hmm
                                · subst hmm
                                  have b2 : 1 ≤ N9 := b2
                                  refine ro_top (z := 0) hx hln ?_
                                  refine lv_istore (lv' := [(13, .int 0), (0, .ref q), (2, .int 1), (4, .int vv), (8, .int (nI a9)), (9, .int (nI (N9 + a9))), (10, .int bal), (11, .int sn), (12, .int (nI k))]) hx hb dL_hangs_394 hl (by decide) rfl (fun ls hl => ?_)
                                  refine lv_iload hx hb dL_hangs_396 (lv_at hl 0 rfl) ?_
                                  refine lv_sipush (v := (-999)) hx hb dL_hangs_398 (by decide) ?_
                                  refine lv_icmp_ne (tgt := 408) hx hb dL_hangs_401 (by decide) (fun _ => ?_) (fun h => absurd h (by decide))
                                  refine lv_iconst (v := 0) hx hb dL_hangs_408 (by decide) ?_
                                  refine lv_iload hx hb dL_hangs_409 (lv_at hl 4 rfl) ?_
                                  refine lv_iload hx hb dL_hangs_411 (lv_at hl 5 rfl) ?_
                                  refine lv_icmp_lt (tgt := 420) hx hb dL_hangs_413 (by decide) (fun c_413 => ?_) (fun c_413 => ?_)
                                  · have c_413 := nlt_t (a := a9) (b := N9 + a9) (by omega) (by omega) c_413
                                    refine lv_iconst (v := 0) hx hb dL_hangs_420 (by decide) ?_
                                    refine lv_icmp_ne (tgt := 459) hx hb dL_hangs_421 (by decide) (fun h => absurd (by decide) h) (fun _ => ?_)
                                    refine lv_iload hx hb dL_hangs_424 (lv_at hl 0 rfl) ?_
                                    refine lv_sipush (v := (-999)) hx hb dL_hangs_426 (by decide) ?_
                                    refine lv_icmp_eq (tgt := 455) hx hb dL_hangs_429 (by decide) (fun h => absurd h (by decide)) (fun _ => ?_)
                                    refine lv_iload hx hb dL_hangs_432 (lv_at hl 0 rfl) ?_
                                    refine lv_if_lt (tgt := 459) hx hb dL_hangs_434 (by decide) (fun h => absurd h (by decide)) (fun _ => ?_)
                                    refine lv_iload hx hb dL_hangs_437 (lv_at hl 0 rfl) ?_
                                    refine lv_iconst (v := 4) hx hb dL_hangs_439 (by decide) ?_
                                    refine lv_icmp_ge (tgt := 459) hx hb dL_hangs_440 (by decide) (fun h => absurd h (by decide)) (fun _ => ?_)
                                    refine lv_iload hx hb dL_hangs_443 (lv_at hl 0 rfl) ?_
                                    refine lv_iconst (v := 2) hx hb dL_hangs_445 (by decide) ?_
                                    refine ro_irem (z := 0) hx hb (by decide) (by decide) dL_hangs_446 ?_
                                    refine lv_iload hx hb dL_hangs_447 (lv_at hl 5 rfl) ?_
                                    refine lv_iload hx hb dL_hangs_449 (lv_at hl 4 rfl) ?_
                                    refine ro_isub (z := nI (N9 + a9 - a9)) hx hb (pk_sub (a := N9 + a9) (b := a9) (by omega)) dL_hangs_451 ?_
                                    refine lv_icmp_ge (tgt := 459) hx hb dL_hangs_452 (by decide) (fun c_452 => ?_) (fun c_452 => ?_)
                                    · have c_452 := nle_t (a := N9 + a9 - a9) (b := 0) (by omega) (by omega) c_452
                                      omega
                                    · have c_452 := nle_f (a := N9 + a9 - a9) (b := 0) (by omega) (by omega) c_452
                                      refine lv_iconst (v := 1) hx hb dL_hangs_455 (by decide) ?_
                                      refine lv_goto (tgt := 460) hx hb dL_hangs_456 (by decide) ?_
                                      refine lv_istore_n (lv' := [(2, .int 1), (13, .int 0), (0, .ref q), (4, .int vv), (8, .int (nI a9)), (9, .int (nI (N9 + a9))), (10, .int bal), (11, .int sn), (12, .int (nI k))]) hx hb dL_hangs_460 rfl hl (by decide) rfl (fun ls hl => ?_)
                                      refine lv_iconst (v := 0) hx hb dL_hangs_461 (by decide) ?_
                                      refine lv_istore (lv' := [(14, .int 0), (2, .int 1), (13, .int 0), (0, .ref q), (4, .int vv), (8, .int (nI a9)), (9, .int (nI (N9 + a9))), (10, .int bal), (11, .int sn), (12, .int (nI k))]) hx hb dL_hangs_462 hl (by decide) rfl (fun ls hl => ?_)
                                      refine lv_iload_n hx hb dL_hangs_464 rfl (lv_at hl 1 rfl) ?_
                                      refine lv_if_eq (tgt := 521) hx hb dL_hangs_465 (by decide) (fun h => absurd h (by decide)) (fun _ => ?_)
                                      refine lv_iload hx hb dL_hangs_468 (lv_at hl 2 rfl) ?_
                                      refine lv_if_lt (tgt := 521) hx hb dL_hangs_470 (by decide) (fun h => absurd h (by decide)) (fun _ => ?_)
                                      refine lv_iload hx hb dL_hangs_473 (lv_at hl 0 rfl) ?_
                                      refine lv_iload hx hb dL_hangs_475 (lv_at hl 2 rfl) ?_
                                      refine lv_iconst (v := 2) hx hb dL_hangs_477 (by decide) ?_
                                      refine ro_irem (z := 0) hx hb (by decide) (by decide) dL_hangs_478 ?_
                                      refine lv_icmp_gt (tgt := 521) hx hb dL_hangs_479 (by decide) (fun h => absurd h (by decide)) (fun _ => ?_)
                                      refine lv_iload hx hb dL_hangs_482 (lv_at hl 7 rfl) ?_
                                      refine lv_iload hx hb dL_hangs_484 (lv_at hl 8 rfl) ?_
                                      refine lv_aload_n hx hb dL_hangs_486 rfl (lv_at hl 3 rfl) ?_
                                      refine lv_iload hx hb dL_hangs_487 (lv_at hl 2 rfl) ?_
                                      refine lv_iconst (v := 2) hx hb dL_hangs_489 (by decide) ?_
                                      refine lv_icmp_ge (tgt := 501) hx hb dL_hangs_490 (by decide) (fun h => absurd h (by decide)) (fun _ => ?_)
                                      refine lv_iload hx hb dL_hangs_493 (lv_at hl 5 rfl) ?_
                                      refine lv_iload hx hb dL_hangs_495 (lv_at hl 0 rfl) ?_
                                      refine ro_iadd (z := nI a9) hx hb (by simp [nI_add]) dL_hangs_497 ?_
                                      refine lv_goto (tgt := 508) hx hb dL_hangs_498 (by decide) ?_
                                      refine oW (As := [.ref q, .int (nI a9)]) (rest := [.int sn, .int bal]) C9 (mL_pile_ok l D G q K S C a9 (by omega) w1) (fun _ => OW_fst _ _ _ _ _ _ _) hS hP hD (List.range' 0 57) (OW_get _ _ _ _ _) (by decide) (fun _ => OW_put _ _ _ _ _ _ _ _ _) yw_L_pile kw_12_23 kw_13_0 ⟨Nat.le_of_ble_eq_true rfl, Nat.le_of_ble_eq_true rfl⟩ hl.1 (Nat.le_of_ble_eq_true rfl) dL_hangs_508 rfl rfl ⟨Nat.le_of_ble_eq_true rfl, Nat.le_of_ble_eq_true rfl⟩ (fun r508 u508 H locs hp508 hP hD hS => ?_)
                                      refine ro_top (z := S.p (S.x 13 + a9)) hx hp508 ?_
                                      refine lv_imul hx hb dL_hangs_511 ?_
                                      refine lv_iadd hx hb dL_hangs_512 ?_
                                      refine lv_istore (lv' := [(10, .int (bal + (sn * (S.p (S.x 13 + a9))))), (14, .int 0), (2, .int 1), (13, .int 0), (0, .ref q), (4, .int vv), (8, .int (nI a9)), (9, .int (nI (N9 + a9))), (11, .int sn), (12, .int (nI k))]) hx hb dL_hangs_513 hl (by decide) rfl (fun ls hl => ?_)
                                      refine lv_iinc (v := 1) (lv' := [(14, .int 1), (10, .int (bal + (sn * (S.p (S.x 13 + a9))))), (2, .int 1), (13, .int 0), (0, .ref q), (4, .int vv), (8, .int (nI a9)), (9, .int (nI (N9 + a9))), (11, .int sn), (12, .int (nI k))]) hx hb dL_hangs_515 hl (k := 1) rfl (by decide) (by decide) rfl (fun ls hl => ?_)
                                      refine lv_goto (tgt := 464) hx hb dL_hangs_518 (by decide) ?_
                                      refine lv_iload_n hx hb dL_hangs_464 rfl (lv_at hl 2 rfl) ?_
                                      refine lv_if_eq (tgt := 521) hx hb dL_hangs_465 (by decide) (fun h => absurd h (by decide)) (fun _ => ?_)
                                      refine lv_iload hx hb dL_hangs_468 (lv_at hl 3 rfl) ?_
                                      refine lv_if_lt (tgt := 521) hx hb dL_hangs_470 (by decide) (fun h => absurd h (by decide)) (fun _ => ?_)
                                      refine lv_iload hx hb dL_hangs_473 (lv_at hl 0 rfl) ?_
                                      refine lv_iload hx hb dL_hangs_475 (lv_at hl 3 rfl) ?_
                                      refine lv_iconst (v := 2) hx hb dL_hangs_477 (by decide) ?_
                                      refine ro_irem (z := 0) hx hb (by decide) (by decide) dL_hangs_478 ?_
                                      refine lv_icmp_gt (tgt := 521) hx hb dL_hangs_479 (by decide) (fun _ => ?_) (fun h => absurd (by decide) h)
                                      refine lv_iload hx hb dL_hangs_521 (lv_at hl 6 rfl) ?_
                                      refine lv_iload hx hb dL_hangs_523 (lv_at hl 3 rfl) ?_
                                      refine lv_if_lt (tgt := 534) hx hb dL_hangs_525 (by decide) (fun h => absurd h (by decide)) (fun _ => ?_)
                                      refine lv_iload hx hb dL_hangs_528 (lv_at hl 3 rfl) ?_
                                      refine lv_iconst (v := 1) hx hb dL_hangs_530 (by decide) ?_
                                      refine lv_icmp_le (tgt := 538) hx hb dL_hangs_531 (by decide) (fun _ => ?_) (fun h => absurd (by decide) h)
                                      refine lv_iload hx hb dL_hangs_538 (lv_at hl 3 rfl) ?_
                                      refine lv_iconst (v := 1) hx hb dL_hangs_540 (by decide) ?_
                                      refine ro_iadd (z := 1) hx hb (by decide) dL_hangs_541 ?_
                                      refine ro_iadd (z := nI (a9 + 1)) hx hb (nI_add a9 1) dL_hangs_542 ?_
                                      refine lv_istore (lv' := [(8, .int (nI (a9 + 1))), (14, .int 1), (10, .int (bal + (sn * (S.p (S.x 13 + a9))))), (2, .int 1), (13, .int 0), (0, .ref q), (4, .int vv), (9, .int (nI (N9 + a9))), (11, .int sn), (12, .int (nI k))]) hx hb dL_hangs_543 hl (by decide) rfl (fun ls hl => ?_)
                                      refine lv_iload hx hb dL_hangs_545 (lv_at hl 7 rfl) ?_
                                      refine lv_iload hx hb dL_hangs_547 (lv_at hl 4 rfl) ?_
                                      refine lv_iconst (v := 2) hx hb dL_hangs_549 (by decide) ?_
                                      refine lv_icmp_ge (tgt := 557) hx hb dL_hangs_550 (by decide) (fun h => absurd h (by decide)) (fun _ => ?_)
                                      refine lv_iconst (v := 0) hx hb dL_hangs_553 (by decide) ?_
                                      refine lv_goto (tgt := 561) hx hb dL_hangs_554 (by decide) ?_
                                      refine ro_isub (z := nI (N9 - 1 + (a9 + 1))) hx hb (by rw [Int32.sub_zero, show N9 - 1 + (a9 + 1) = N9 + a9 by omega]) dL_hangs_561 ?_
                                      refine lv_istore (lv' := [(9, .int (nI (N9 - 1 + (a9 + 1)))), (8, .int (nI (a9 + 1))), (14, .int 1), (10, .int (bal + (sn * (S.p (S.x 13 + a9))))), (2, .int 1), (13, .int 0), (0, .ref q), (4, .int vv), (11, .int sn), (12, .int (nI k))]) hx hb dL_hangs_562 hl (by decide) rfl (fun ls hl => ?_)
                                      refine lv_iload hx hb dL_hangs_564 (lv_at hl 8 rfl) ?_
                                      refine lv_ineg hx hb dL_hangs_566 ?_
                                      refine lv_istore (lv' := [(11, .int (-sn)), (9, .int (nI (N9 - 1 + (a9 + 1)))), (8, .int (nI (a9 + 1))), (14, .int 1), (10, .int (bal + (sn * (S.p (S.x 13 + a9))))), (2, .int 1), (13, .int 0), (0, .ref q), (4, .int vv), (12, .int (nI k))]) hx hb dL_hangs_567 hl (by decide) rfl (fun ls hl => ?_)
                                      refine lv_iinc (v := nI (k + 1)) (lv' := [(12, .int (nI (k + 1))), (11, .int (-sn)), (9, .int (nI (N9 - 1 + (a9 + 1)))), (8, .int (nI (a9 + 1))), (14, .int 1), (10, .int (bal + (sn * (S.p (S.x 13 + a9))))), (2, .int 1), (13, .int 0), (0, .ref q), (4, .int vv)]) hx hb dL_hangs_569 hl (k := 9) rfl (nI_add k 1) (by decide) rfl (fun ls hl => ?_)
                                      refine lv_goto (tgt := 377) hx hb dL_hangs_572 (by decide) ?_
                                      exact ih377 (k + 1) (a9 + 1) (N9 - 1) (bal + (sn * (S.p (S.x 13 + a9)))) (-sn) (by omega) hgo (by omega) (sn_neg hsn) hls.1 (by omega) _ _ _ hP hD hS (lv_sub hl [8, 6, 9, 3, 2, 5, 1, 0] rfl)
                                  · have c_413 := nlt_f (a := a9) (b := N9 + a9) (by omega) (by omega) c_413
                                    omega
                                · subst hmm
                                  have b2 : 2 ≤ N9 := b2
                                  refine ro_top (z := 1) hx hln ?_
                                  refine lv_istore (lv' := [(13, .int 1), (0, .ref q), (2, .int 1), (4, .int vv), (8, .int (nI a9)), (9, .int (nI (N9 + a9))), (10, .int bal), (11, .int sn), (12, .int (nI k))]) hx hb dL_hangs_394 hl (by decide) rfl (fun ls hl => ?_)
                                  refine lv_iload hx hb dL_hangs_396 (lv_at hl 0 rfl) ?_
                                  refine lv_sipush (v := (-999)) hx hb dL_hangs_398 (by decide) ?_
                                  refine lv_icmp_ne (tgt := 408) hx hb dL_hangs_401 (by decide) (fun _ => ?_) (fun h => absurd h (by decide))
                                  refine lv_iconst (v := 0) hx hb dL_hangs_408 (by decide) ?_
                                  refine lv_iload hx hb dL_hangs_409 (lv_at hl 4 rfl) ?_
                                  refine lv_iload hx hb dL_hangs_411 (lv_at hl 5 rfl) ?_
                                  refine lv_icmp_lt (tgt := 420) hx hb dL_hangs_413 (by decide) (fun c_413 => ?_) (fun c_413 => ?_)
                                  · have c_413 := nlt_t (a := a9) (b := N9 + a9) (by omega) (by omega) c_413
                                    refine lv_iconst (v := 0) hx hb dL_hangs_420 (by decide) ?_
                                    refine lv_icmp_ne (tgt := 459) hx hb dL_hangs_421 (by decide) (fun h => absurd (by decide) h) (fun _ => ?_)
                                    refine lv_iload hx hb dL_hangs_424 (lv_at hl 0 rfl) ?_
                                    refine lv_sipush (v := (-999)) hx hb dL_hangs_426 (by decide) ?_
                                    refine lv_icmp_eq (tgt := 455) hx hb dL_hangs_429 (by decide) (fun h => absurd h (by decide)) (fun _ => ?_)
                                    refine lv_iload hx hb dL_hangs_432 (lv_at hl 0 rfl) ?_
                                    refine lv_if_lt (tgt := 459) hx hb dL_hangs_434 (by decide) (fun h => absurd h (by decide)) (fun _ => ?_)
                                    refine lv_iload hx hb dL_hangs_437 (lv_at hl 0 rfl) ?_
                                    refine lv_iconst (v := 4) hx hb dL_hangs_439 (by decide) ?_
                                    refine lv_icmp_ge (tgt := 459) hx hb dL_hangs_440 (by decide) (fun h => absurd h (by decide)) (fun _ => ?_)
                                    refine lv_iload hx hb dL_hangs_443 (lv_at hl 0 rfl) ?_
                                    refine lv_iconst (v := 2) hx hb dL_hangs_445 (by decide) ?_
                                    refine ro_irem (z := 1) hx hb (by decide) (by decide) dL_hangs_446 ?_
                                    refine lv_iload hx hb dL_hangs_447 (lv_at hl 5 rfl) ?_
                                    refine lv_iload hx hb dL_hangs_449 (lv_at hl 4 rfl) ?_
                                    refine ro_isub (z := nI (N9 + a9 - a9)) hx hb (pk_sub (a := N9 + a9) (b := a9) (by omega)) dL_hangs_451 ?_
                                    refine lv_icmp_ge (tgt := 459) hx hb dL_hangs_452 (by decide) (fun c_452 => ?_) (fun c_452 => ?_)
                                    · have c_452 := nle_t (a := N9 + a9 - a9) (b := 1) (by omega) (by omega) c_452
                                      omega
                                    · have c_452 := nle_f (a := N9 + a9 - a9) (b := 1) (by omega) (by omega) c_452
                                      refine lv_iconst (v := 1) hx hb dL_hangs_455 (by decide) ?_
                                      refine lv_goto (tgt := 460) hx hb dL_hangs_456 (by decide) ?_
                                      refine lv_istore_n (lv' := [(2, .int 1), (13, .int 1), (0, .ref q), (4, .int vv), (8, .int (nI a9)), (9, .int (nI (N9 + a9))), (10, .int bal), (11, .int sn), (12, .int (nI k))]) hx hb dL_hangs_460 rfl hl (by decide) rfl (fun ls hl => ?_)
                                      refine lv_iconst (v := 0) hx hb dL_hangs_461 (by decide) ?_
                                      refine lv_istore (lv' := [(14, .int 0), (2, .int 1), (13, .int 1), (0, .ref q), (4, .int vv), (8, .int (nI a9)), (9, .int (nI (N9 + a9))), (10, .int bal), (11, .int sn), (12, .int (nI k))]) hx hb dL_hangs_462 hl (by decide) rfl (fun ls hl => ?_)
                                      refine lv_iload_n hx hb dL_hangs_464 rfl (lv_at hl 1 rfl) ?_
                                      refine lv_if_eq (tgt := 521) hx hb dL_hangs_465 (by decide) (fun h => absurd h (by decide)) (fun _ => ?_)
                                      refine lv_iload hx hb dL_hangs_468 (lv_at hl 2 rfl) ?_
                                      refine lv_if_lt (tgt := 521) hx hb dL_hangs_470 (by decide) (fun h => absurd h (by decide)) (fun _ => ?_)
                                      refine lv_iload hx hb dL_hangs_473 (lv_at hl 0 rfl) ?_
                                      refine lv_iload hx hb dL_hangs_475 (lv_at hl 2 rfl) ?_
                                      refine lv_iconst (v := 2) hx hb dL_hangs_477 (by decide) ?_
                                      refine ro_irem (z := 1) hx hb (by decide) (by decide) dL_hangs_478 ?_
                                      refine lv_icmp_gt (tgt := 521) hx hb dL_hangs_479 (by decide) (fun h => absurd h (by decide)) (fun _ => ?_)
                                      refine lv_iload hx hb dL_hangs_482 (lv_at hl 7 rfl) ?_
                                      refine lv_iload hx hb dL_hangs_484 (lv_at hl 8 rfl) ?_
                                      refine lv_aload_n hx hb dL_hangs_486 rfl (lv_at hl 3 rfl) ?_
                                      refine lv_iload hx hb dL_hangs_487 (lv_at hl 2 rfl) ?_
                                      refine lv_iconst (v := 2) hx hb dL_hangs_489 (by decide) ?_
                                      refine lv_icmp_ge (tgt := 501) hx hb dL_hangs_490 (by decide) (fun h => absurd h (by decide)) (fun _ => ?_)
                                      refine lv_iload hx hb dL_hangs_493 (lv_at hl 5 rfl) ?_
                                      refine lv_iload hx hb dL_hangs_495 (lv_at hl 0 rfl) ?_
                                      refine ro_iadd (z := nI a9) hx hb (by simp [nI_add]) dL_hangs_497 ?_
                                      refine lv_goto (tgt := 508) hx hb dL_hangs_498 (by decide) ?_
                                      refine oW (As := [.ref q, .int (nI a9)]) (rest := [.int sn, .int bal]) C9 (mL_pile_ok l D G q K S C a9 (by omega) w1) (fun _ => OW_fst _ _ _ _ _ _ _) hS hP hD (List.range' 0 57) (OW_get _ _ _ _ _) (by decide) (fun _ => OW_put _ _ _ _ _ _ _ _ _) yw_L_pile kw_12_23 kw_13_0 ⟨Nat.le_of_ble_eq_true rfl, Nat.le_of_ble_eq_true rfl⟩ hl.1 (Nat.le_of_ble_eq_true rfl) dL_hangs_508 rfl rfl ⟨Nat.le_of_ble_eq_true rfl, Nat.le_of_ble_eq_true rfl⟩ (fun r508 u508 H locs hp508 hP hD hS => ?_)
                                      refine ro_top (z := S.p (S.x 13 + a9)) hx hp508 ?_
                                      refine lv_imul hx hb dL_hangs_511 ?_
                                      refine lv_iadd hx hb dL_hangs_512 ?_
                                      refine lv_istore (lv' := [(10, .int (bal + (sn * (S.p (S.x 13 + a9))))), (14, .int 0), (2, .int 1), (13, .int 1), (0, .ref q), (4, .int vv), (8, .int (nI a9)), (9, .int (nI (N9 + a9))), (11, .int sn), (12, .int (nI k))]) hx hb dL_hangs_513 hl (by decide) rfl (fun ls hl => ?_)
                                      refine lv_iinc (v := 1) (lv' := [(14, .int 1), (10, .int (bal + (sn * (S.p (S.x 13 + a9))))), (2, .int 1), (13, .int 1), (0, .ref q), (4, .int vv), (8, .int (nI a9)), (9, .int (nI (N9 + a9))), (11, .int sn), (12, .int (nI k))]) hx hb dL_hangs_515 hl (k := 1) rfl (by decide) (by decide) rfl (fun ls hl => ?_)
                                      refine lv_goto (tgt := 464) hx hb dL_hangs_518 (by decide) ?_
                                      refine lv_iload_n hx hb dL_hangs_464 rfl (lv_at hl 2 rfl) ?_
                                      refine lv_if_eq (tgt := 521) hx hb dL_hangs_465 (by decide) (fun h => absurd h (by decide)) (fun _ => ?_)
                                      refine lv_iload hx hb dL_hangs_468 (lv_at hl 3 rfl) ?_
                                      refine lv_if_lt (tgt := 521) hx hb dL_hangs_470 (by decide) (fun h => absurd h (by decide)) (fun _ => ?_)
                                      refine lv_iload hx hb dL_hangs_473 (lv_at hl 0 rfl) ?_
                                      refine lv_iload hx hb dL_hangs_475 (lv_at hl 3 rfl) ?_
                                      refine lv_iconst (v := 2) hx hb dL_hangs_477 (by decide) ?_
                                      refine ro_irem (z := 1) hx hb (by decide) (by decide) dL_hangs_478 ?_
                                      refine lv_icmp_gt (tgt := 521) hx hb dL_hangs_479 (by decide) (fun h => absurd h (by decide)) (fun _ => ?_)
                                      refine lv_iload hx hb dL_hangs_482 (lv_at hl 1 rfl) ?_
                                      refine lv_iload hx hb dL_hangs_484 (lv_at hl 8 rfl) ?_
                                      refine lv_aload_n hx hb dL_hangs_486 rfl (lv_at hl 4 rfl) ?_
                                      refine lv_iload hx hb dL_hangs_487 (lv_at hl 3 rfl) ?_
                                      refine lv_iconst (v := 2) hx hb dL_hangs_489 (by decide) ?_
                                      refine lv_icmp_ge (tgt := 501) hx hb dL_hangs_490 (by decide) (fun h => absurd h (by decide)) (fun _ => ?_)
                                      refine lv_iload hx hb dL_hangs_493 (lv_at hl 6 rfl) ?_
                                      refine lv_iload hx hb dL_hangs_495 (lv_at hl 0 rfl) ?_
                                      refine ro_iadd (z := nI (a9 + 1)) hx hb (nI_add a9 1) dL_hangs_497 ?_
                                      refine lv_goto (tgt := 508) hx hb dL_hangs_498 (by decide) ?_
                                      refine oW (As := [.ref q, .int (nI (a9 + 1))]) (rest := [.int sn, .int (bal + (sn * (S.p (S.x 13 + a9))))]) C9 (mL_pile_ok l D G q K S C (a9 + 1) (by omega) w1) (fun _ => OW_fst _ _ _ _ _ _ _) hS hP hD (List.range' 0 57) (OW_get _ _ _ _ _) (by decide) (fun _ => OW_put _ _ _ _ _ _ _ _ _) yw_L_pile kw_12_23 kw_13_0 ⟨Nat.le_of_ble_eq_true rfl, Nat.le_of_ble_eq_true rfl⟩ hl.1 (Nat.le_of_ble_eq_true rfl) dL_hangs_508 rfl rfl ⟨Nat.le_of_ble_eq_true rfl, Nat.le_of_ble_eq_true rfl⟩ (fun r508 u508 H locs hp508 hP hD hS => ?_)
                                      refine ro_top (z := S.p (S.x 13 + (a9 + 1))) hx hp508 ?_
                                      refine lv_imul hx hb dL_hangs_511 ?_
                                      refine lv_iadd hx hb dL_hangs_512 ?_
                                      refine lv_istore (lv' := [(10, .int ((bal + (sn * (S.p (S.x 13 + a9)))) + (sn * (S.p (S.x 13 + (a9 + 1)))))), (14, .int 1), (2, .int 1), (13, .int 1), (0, .ref q), (4, .int vv), (8, .int (nI a9)), (9, .int (nI (N9 + a9))), (11, .int sn), (12, .int (nI k))]) hx hb dL_hangs_513 hl (by decide) rfl (fun ls hl => ?_)
                                      refine lv_iinc (v := 2) (lv' := [(14, .int 2), (10, .int ((bal + (sn * (S.p (S.x 13 + a9)))) + (sn * (S.p (S.x 13 + (a9 + 1)))))), (2, .int 1), (13, .int 1), (0, .ref q), (4, .int vv), (8, .int (nI a9)), (9, .int (nI (N9 + a9))), (11, .int sn), (12, .int (nI k))]) hx hb dL_hangs_515 hl (k := 1) rfl (by decide) (by decide) rfl (fun ls hl => ?_)
                                      refine lv_goto (tgt := 464) hx hb dL_hangs_518 (by decide) ?_
                                      refine lv_iload_n hx hb dL_hangs_464 rfl (lv_at hl 2 rfl) ?_
                                      refine lv_if_eq (tgt := 521) hx hb dL_hangs_465 (by decide) (fun h => absurd h (by decide)) (fun _ => ?_)
                                      refine lv_iload hx hb dL_hangs_468 (lv_at hl 3 rfl) ?_
                                      refine lv_if_lt (tgt := 521) hx hb dL_hangs_470 (by decide) (fun h => absurd h (by decide)) (fun _ => ?_)
                                      refine lv_iload hx hb dL_hangs_473 (lv_at hl 0 rfl) ?_
                                      refine lv_iload hx hb dL_hangs_475 (lv_at hl 3 rfl) ?_
                                      refine lv_iconst (v := 2) hx hb dL_hangs_477 (by decide) ?_
                                      refine ro_irem (z := 1) hx hb (by decide) (by decide) dL_hangs_478 ?_
                                      refine lv_icmp_gt (tgt := 521) hx hb dL_hangs_479 (by decide) (fun _ => ?_) (fun h => absurd (by decide) h)
                                      refine lv_iload hx hb dL_hangs_521 (lv_at hl 6 rfl) ?_
                                      refine lv_iload hx hb dL_hangs_523 (lv_at hl 3 rfl) ?_
                                      refine lv_if_lt (tgt := 534) hx hb dL_hangs_525 (by decide) (fun h => absurd h (by decide)) (fun _ => ?_)
                                      refine lv_iload hx hb dL_hangs_528 (lv_at hl 3 rfl) ?_
                                      refine lv_iconst (v := 1) hx hb dL_hangs_530 (by decide) ?_
                                      refine lv_icmp_le (tgt := 538) hx hb dL_hangs_531 (by decide) (fun _ => ?_) (fun h => absurd (by decide) h)
                                      refine lv_iload hx hb dL_hangs_538 (lv_at hl 3 rfl) ?_
                                      refine lv_iconst (v := 1) hx hb dL_hangs_540 (by decide) ?_
                                      refine ro_iadd (z := 2) hx hb (by decide) dL_hangs_541 ?_
                                      refine ro_iadd (z := nI (a9 + 2)) hx hb (nI_add a9 2) dL_hangs_542 ?_
                                      refine lv_istore (lv' := [(8, .int (nI (a9 + 2))), (14, .int 2), (10, .int ((bal + (sn * (S.p (S.x 13 + a9)))) + (sn * (S.p (S.x 13 + (a9 + 1)))))), (2, .int 1), (13, .int 1), (0, .ref q), (4, .int vv), (9, .int (nI (N9 + a9))), (11, .int sn), (12, .int (nI k))]) hx hb dL_hangs_543 hl (by decide) rfl (fun ls hl => ?_)
                                      refine lv_iload hx hb dL_hangs_545 (lv_at hl 7 rfl) ?_
                                      refine lv_iload hx hb dL_hangs_547 (lv_at hl 4 rfl) ?_
                                      refine lv_iconst (v := 2) hx hb dL_hangs_549 (by decide) ?_
                                      refine lv_icmp_ge (tgt := 557) hx hb dL_hangs_550 (by decide) (fun h => absurd h (by decide)) (fun _ => ?_)
                                      refine lv_iconst (v := 0) hx hb dL_hangs_553 (by decide) ?_
                                      refine lv_goto (tgt := 561) hx hb dL_hangs_554 (by decide) ?_
                                      refine ro_isub (z := nI (N9 - 2 + (a9 + 2))) hx hb (by rw [Int32.sub_zero, show N9 - 2 + (a9 + 2) = N9 + a9 by omega]) dL_hangs_561 ?_
                                      refine lv_istore (lv' := [(9, .int (nI (N9 - 2 + (a9 + 2)))), (8, .int (nI (a9 + 2))), (14, .int 2), (10, .int ((bal + (sn * (S.p (S.x 13 + a9)))) + (sn * (S.p (S.x 13 + (a9 + 1)))))), (2, .int 1), (13, .int 1), (0, .ref q), (4, .int vv), (11, .int sn), (12, .int (nI k))]) hx hb dL_hangs_562 hl (by decide) rfl (fun ls hl => ?_)
                                      refine lv_iload hx hb dL_hangs_564 (lv_at hl 8 rfl) ?_
                                      refine lv_ineg hx hb dL_hangs_566 ?_
                                      refine lv_istore (lv' := [(11, .int (-sn)), (9, .int (nI (N9 - 2 + (a9 + 2)))), (8, .int (nI (a9 + 2))), (14, .int 2), (10, .int ((bal + (sn * (S.p (S.x 13 + a9)))) + (sn * (S.p (S.x 13 + (a9 + 1)))))), (2, .int 1), (13, .int 1), (0, .ref q), (4, .int vv), (12, .int (nI k))]) hx hb dL_hangs_567 hl (by decide) rfl (fun ls hl => ?_)
                                      refine lv_iinc (v := nI (k + 1)) (lv' := [(12, .int (nI (k + 1))), (11, .int (-sn)), (9, .int (nI (N9 - 2 + (a9 + 2)))), (8, .int (nI (a9 + 2))), (14, .int 2), (10, .int ((bal + (sn * (S.p (S.x 13 + a9)))) + (sn * (S.p (S.x 13 + (a9 + 1)))))), (2, .int 1), (13, .int 1), (0, .ref q), (4, .int vv)]) hx hb dL_hangs_569 hl (k := 9) rfl (nI_add k 1) (by decide) rfl (fun ls hl => ?_)
                                      refine lv_goto (tgt := 377) hx hb dL_hangs_572 (by decide) ?_
                                      exact ih377 (k + 1) (a9 + 2) (N9 - 2) ((bal + (sn * (S.p (S.x 13 + a9)))) + (sn * (S.p (S.x 13 + (a9 + 1))))) (-sn) (by omega) hgo (by omega) (sn_neg hsn) (hls.2.1 rfl) (by omega) _ _ _ hP hD hS (lv_sub hl [8, 6, 9, 3, 2, 5, 1, 0] rfl)
                                  · have c_413 := nlt_f (a := a9) (b := N9 + a9) (by omega) (by omega) c_413
                                    omega
                                · subst hmm
                                  have b2 : 1 ≤ N9 := b2
                                  refine ro_top (z := 2) hx hln ?_
                                  refine lv_istore (lv' := [(13, .int 2), (0, .ref q), (2, .int 1), (4, .int vv), (8, .int (nI a9)), (9, .int (nI (N9 + a9))), (10, .int bal), (11, .int sn), (12, .int (nI k))]) hx hb dL_hangs_394 hl (by decide) rfl (fun ls hl => ?_)
                                  refine lv_iload hx hb dL_hangs_396 (lv_at hl 0 rfl) ?_
                                  refine lv_sipush (v := (-999)) hx hb dL_hangs_398 (by decide) ?_
                                  refine lv_icmp_ne (tgt := 408) hx hb dL_hangs_401 (by decide) (fun _ => ?_) (fun h => absurd h (by decide))
                                  refine lv_iconst (v := 0) hx hb dL_hangs_408 (by decide) ?_
                                  refine lv_iload hx hb dL_hangs_409 (lv_at hl 4 rfl) ?_
                                  refine lv_iload hx hb dL_hangs_411 (lv_at hl 5 rfl) ?_
                                  refine lv_icmp_lt (tgt := 420) hx hb dL_hangs_413 (by decide) (fun c_413 => ?_) (fun c_413 => ?_)
                                  · have c_413 := nlt_t (a := a9) (b := N9 + a9) (by omega) (by omega) c_413
                                    refine lv_iconst (v := 0) hx hb dL_hangs_420 (by decide) ?_
                                    refine lv_icmp_ne (tgt := 459) hx hb dL_hangs_421 (by decide) (fun h => absurd (by decide) h) (fun _ => ?_)
                                    refine lv_iload hx hb dL_hangs_424 (lv_at hl 0 rfl) ?_
                                    refine lv_sipush (v := (-999)) hx hb dL_hangs_426 (by decide) ?_
                                    refine lv_icmp_eq (tgt := 455) hx hb dL_hangs_429 (by decide) (fun h => absurd h (by decide)) (fun _ => ?_)
                                    refine lv_iload hx hb dL_hangs_432 (lv_at hl 0 rfl) ?_
                                    refine lv_if_lt (tgt := 459) hx hb dL_hangs_434 (by decide) (fun h => absurd h (by decide)) (fun _ => ?_)
                                    refine lv_iload hx hb dL_hangs_437 (lv_at hl 0 rfl) ?_
                                    refine lv_iconst (v := 4) hx hb dL_hangs_439 (by decide) ?_
                                    refine lv_icmp_ge (tgt := 459) hx hb dL_hangs_440 (by decide) (fun h => absurd h (by decide)) (fun _ => ?_)
                                    refine lv_iload hx hb dL_hangs_443 (lv_at hl 0 rfl) ?_
                                    refine lv_iconst (v := 2) hx hb dL_hangs_445 (by decide) ?_
                                    refine ro_irem (z := 0) hx hb (by decide) (by decide) dL_hangs_446 ?_
                                    refine lv_iload hx hb dL_hangs_447 (lv_at hl 5 rfl) ?_
                                    refine lv_iload hx hb dL_hangs_449 (lv_at hl 4 rfl) ?_
                                    refine ro_isub (z := nI (N9 + a9 - a9)) hx hb (pk_sub (a := N9 + a9) (b := a9) (by omega)) dL_hangs_451 ?_
                                    refine lv_icmp_ge (tgt := 459) hx hb dL_hangs_452 (by decide) (fun c_452 => ?_) (fun c_452 => ?_)
                                    · have c_452 := nle_t (a := N9 + a9 - a9) (b := 0) (by omega) (by omega) c_452
                                      omega
                                    · have c_452 := nle_f (a := N9 + a9 - a9) (b := 0) (by omega) (by omega) c_452
                                      refine lv_iconst (v := 1) hx hb dL_hangs_455 (by decide) ?_
                                      refine lv_goto (tgt := 460) hx hb dL_hangs_456 (by decide) ?_
                                      refine lv_istore_n (lv' := [(2, .int 1), (13, .int 2), (0, .ref q), (4, .int vv), (8, .int (nI a9)), (9, .int (nI (N9 + a9))), (10, .int bal), (11, .int sn), (12, .int (nI k))]) hx hb dL_hangs_460 rfl hl (by decide) rfl (fun ls hl => ?_)
                                      refine lv_iconst (v := 0) hx hb dL_hangs_461 (by decide) ?_
                                      refine lv_istore (lv' := [(14, .int 0), (2, .int 1), (13, .int 2), (0, .ref q), (4, .int vv), (8, .int (nI a9)), (9, .int (nI (N9 + a9))), (10, .int bal), (11, .int sn), (12, .int (nI k))]) hx hb dL_hangs_462 hl (by decide) rfl (fun ls hl => ?_)
                                      refine lv_iload_n hx hb dL_hangs_464 rfl (lv_at hl 1 rfl) ?_
                                      refine lv_if_eq (tgt := 521) hx hb dL_hangs_465 (by decide) (fun h => absurd h (by decide)) (fun _ => ?_)
                                      refine lv_iload hx hb dL_hangs_468 (lv_at hl 2 rfl) ?_
                                      refine lv_if_lt (tgt := 521) hx hb dL_hangs_470 (by decide) (fun h => absurd h (by decide)) (fun _ => ?_)
                                      refine lv_iload hx hb dL_hangs_473 (lv_at hl 0 rfl) ?_
                                      refine lv_iload hx hb dL_hangs_475 (lv_at hl 2 rfl) ?_
                                      refine lv_iconst (v := 2) hx hb dL_hangs_477 (by decide) ?_
                                      refine ro_irem (z := 0) hx hb (by decide) (by decide) dL_hangs_478 ?_
                                      refine lv_icmp_gt (tgt := 521) hx hb dL_hangs_479 (by decide) (fun h => absurd h (by decide)) (fun _ => ?_)
                                      refine lv_iload hx hb dL_hangs_482 (lv_at hl 7 rfl) ?_
                                      refine lv_iload hx hb dL_hangs_484 (lv_at hl 8 rfl) ?_
                                      refine lv_aload_n hx hb dL_hangs_486 rfl (lv_at hl 3 rfl) ?_
                                      refine lv_iload hx hb dL_hangs_487 (lv_at hl 2 rfl) ?_
                                      refine lv_iconst (v := 2) hx hb dL_hangs_489 (by decide) ?_
                                      refine lv_icmp_ge (tgt := 501) hx hb dL_hangs_490 (by decide) (fun _ => ?_) (fun h => absurd (by decide) h)
                                      refine lv_iload hx hb dL_hangs_501 (lv_at hl 6 rfl) ?_
                                      refine lv_iconst (v := 1) hx hb dL_hangs_503 (by decide) ?_
                                      refine ro_isub (z := nI (N9 + a9 - 1)) hx hb (pk_sub (a := N9 + a9) (b := 1) (by omega)) dL_hangs_504 ?_
                                      refine lv_iload hx hb dL_hangs_505 (lv_at hl 0 rfl) ?_
                                      refine ro_isub (z := nI (N9 + a9 - 1 - 0)) hx hb (pk_sub (a := N9 + a9 - 1) (b := 0) (by omega)) dL_hangs_507 ?_
                                      refine oW (As := [.ref q, .int (nI (N9 + a9 - 1 - 0))]) (rest := [.int sn, .int bal]) C9 (mL_pile_ok l D G q K S C (N9 + a9 - 1 - 0) (by omega) w1) (fun _ => OW_fst _ _ _ _ _ _ _) hS hP hD (List.range' 0 57) (OW_get _ _ _ _ _) (by decide) (fun _ => OW_put _ _ _ _ _ _ _ _ _) yw_L_pile kw_12_23 kw_13_0 ⟨Nat.le_of_ble_eq_true rfl, Nat.le_of_ble_eq_true rfl⟩ hl.1 (Nat.le_of_ble_eq_true rfl) dL_hangs_508 rfl rfl ⟨Nat.le_of_ble_eq_true rfl, Nat.le_of_ble_eq_true rfl⟩ (fun r508 u508 H locs hp508 hP hD hS => ?_)
                                      refine ro_top (z := S.p (S.x 13 + (N9 + a9 - 1 - 0))) hx hp508 ?_
                                      refine lv_imul hx hb dL_hangs_511 ?_
                                      refine lv_iadd hx hb dL_hangs_512 ?_
                                      refine lv_istore (lv' := [(10, .int (bal + (sn * (S.p (S.x 13 + (N9 + a9 - 1 - 0)))))), (14, .int 0), (2, .int 1), (13, .int 2), (0, .ref q), (4, .int vv), (8, .int (nI a9)), (9, .int (nI (N9 + a9))), (11, .int sn), (12, .int (nI k))]) hx hb dL_hangs_513 hl (by decide) rfl (fun ls hl => ?_)
                                      refine lv_iinc (v := 1) (lv' := [(14, .int 1), (10, .int (bal + (sn * (S.p (S.x 13 + (N9 + a9 - 1 - 0)))))), (2, .int 1), (13, .int 2), (0, .ref q), (4, .int vv), (8, .int (nI a9)), (9, .int (nI (N9 + a9))), (11, .int sn), (12, .int (nI k))]) hx hb dL_hangs_515 hl (k := 1) rfl (by decide) (by decide) rfl (fun ls hl => ?_)
                                      refine lv_goto (tgt := 464) hx hb dL_hangs_518 (by decide) ?_
                                      refine lv_iload_n hx hb dL_hangs_464 rfl (lv_at hl 2 rfl) ?_
                                      refine lv_if_eq (tgt := 521) hx hb dL_hangs_465 (by decide) (fun h => absurd h (by decide)) (fun _ => ?_)
                                      refine lv_iload hx hb dL_hangs_468 (lv_at hl 3 rfl) ?_
                                      refine lv_if_lt (tgt := 521) hx hb dL_hangs_470 (by decide) (fun h => absurd h (by decide)) (fun _ => ?_)
                                      refine lv_iload hx hb dL_hangs_473 (lv_at hl 0 rfl) ?_
                                      refine lv_iload hx hb dL_hangs_475 (lv_at hl 3 rfl) ?_
                                      refine lv_iconst (v := 2) hx hb dL_hangs_477 (by decide) ?_
                                      refine ro_irem (z := 0) hx hb (by decide) (by decide) dL_hangs_478 ?_
                                      refine lv_icmp_gt (tgt := 521) hx hb dL_hangs_479 (by decide) (fun _ => ?_) (fun h => absurd (by decide) h)
                                      refine lv_iload hx hb dL_hangs_521 (lv_at hl 6 rfl) ?_
                                      refine lv_iload hx hb dL_hangs_523 (lv_at hl 3 rfl) ?_
                                      refine lv_if_lt (tgt := 534) hx hb dL_hangs_525 (by decide) (fun h => absurd h (by decide)) (fun _ => ?_)
                                      refine lv_iload hx hb dL_hangs_528 (lv_at hl 3 rfl) ?_
                                      refine lv_iconst (v := 1) hx hb dL_hangs_530 (by decide) ?_
                                      refine lv_icmp_le (tgt := 538) hx hb dL_hangs_531 (by decide) (fun h => absurd h (by decide)) (fun _ => ?_)
                                      refine lv_iconst (v := 0) hx hb dL_hangs_534 (by decide) ?_
                                      refine lv_goto (tgt := 542) hx hb dL_hangs_535 (by decide) ?_
                                      refine ro_iadd (z := nI a9) hx hb (Int32.add_zero _) dL_hangs_542 ?_
                                      refine lv_istore (lv' := [(8, .int (nI a9)), (14, .int 1), (10, .int (bal + (sn * (S.p (S.x 13 + (N9 + a9 - 1 - 0)))))), (2, .int 1), (13, .int 2), (0, .ref q), (4, .int vv), (9, .int (nI (N9 + a9))), (11, .int sn), (12, .int (nI k))]) hx hb dL_hangs_543 hl (by decide) rfl (fun ls hl => ?_)
                                      refine lv_iload hx hb dL_hangs_545 (lv_at hl 7 rfl) ?_
                                      refine lv_iload hx hb dL_hangs_547 (lv_at hl 4 rfl) ?_
                                      refine lv_iconst (v := 2) hx hb dL_hangs_549 (by decide) ?_
                                      refine lv_icmp_ge (tgt := 557) hx hb dL_hangs_550 (by decide) (fun _ => ?_) (fun h => absurd (by decide) h)
                                      refine lv_iload hx hb dL_hangs_557 (lv_at hl 4 rfl) ?_
                                      refine lv_iconst (v := 1) hx hb dL_hangs_559 (by decide) ?_
                                      refine ro_isub (z := nI (2 - 1)) hx hb (pk_sub (a := 2) (b := 1) (by omega)) dL_hangs_560 ?_
                                      refine ro_isub (z := nI (N9 - 1 + a9)) hx hb (by rw [show N9 - 1 + a9 = N9 + a9 - 1 by omega]; exact pk_sub (a := N9 + a9) (b := 1) (by omega)) dL_hangs_561 ?_
                                      refine lv_istore (lv' := [(9, .int (nI (N9 - 1 + a9))), (8, .int (nI a9)), (14, .int 1), (10, .int (bal + (sn * (S.p (S.x 13 + (N9 + a9 - 1 - 0)))))), (2, .int 1), (13, .int 2), (0, .ref q), (4, .int vv), (11, .int sn), (12, .int (nI k))]) hx hb dL_hangs_562 hl (by decide) rfl (fun ls hl => ?_)
                                      refine lv_iload hx hb dL_hangs_564 (lv_at hl 8 rfl) ?_
                                      refine lv_ineg hx hb dL_hangs_566 ?_
                                      refine lv_istore (lv' := [(11, .int (-sn)), (9, .int (nI (N9 - 1 + a9))), (8, .int (nI a9)), (14, .int 1), (10, .int (bal + (sn * (S.p (S.x 13 + (N9 + a9 - 1 - 0)))))), (2, .int 1), (13, .int 2), (0, .ref q), (4, .int vv), (12, .int (nI k))]) hx hb dL_hangs_567 hl (by decide) rfl (fun ls hl => ?_)
                                      refine lv_iinc (v := nI (k + 1)) (lv' := [(12, .int (nI (k + 1))), (11, .int (-sn)), (9, .int (nI (N9 - 1 + a9))), (8, .int (nI a9)), (14, .int 1), (10, .int (bal + (sn * (S.p (S.x 13 + (N9 + a9 - 1 - 0)))))), (2, .int 1), (13, .int 2), (0, .ref q), (4, .int vv)]) hx hb dL_hangs_569 hl (k := 9) rfl (nI_add k 1) (by decide) rfl (fun ls hl => ?_)
                                      refine lv_goto (tgt := 377) hx hb dL_hangs_572 (by decide) ?_
                                      have hc2 : cn S.p (S.x 13 + a9) N9 2 = S.p (S.x 13 + (N9 + a9 - 1 - 0)) := by show S.p (S.x 13 + a9 + N9 - 1) = _; rw [show S.x 13 + a9 + N9 - 1 = S.x 13 + (N9 + a9 - 1 - 0) by omega]
                                      exact ih377 (k + 1) a9 (N9 - 1) (bal + (sn * (S.p (S.x 13 + (N9 + a9 - 1 - 0))))) (-sn) (by omega) hgo (by omega) (sn_neg hsn) (by have h9 := hls.1; rw [hc2] at h9; exact h9) (by omega) _ _ _ hP hD hS (lv_sub hl [8, 6, 9, 3, 2, 5, 1, 0] rfl)
                                  · have c_413 := nlt_f (a := a9) (b := N9 + a9) (by omega) (by omega) c_413
                                    omega
                                · subst hmm
                                  have b2 : 2 ≤ N9 := b2
                                  refine ro_top (z := 3) hx hln ?_
                                  refine lv_istore (lv' := [(13, .int 3), (0, .ref q), (2, .int 1), (4, .int vv), (8, .int (nI a9)), (9, .int (nI (N9 + a9))), (10, .int bal), (11, .int sn), (12, .int (nI k))]) hx hb dL_hangs_394 hl (by decide) rfl (fun ls hl => ?_)
                                  refine lv_iload hx hb dL_hangs_396 (lv_at hl 0 rfl) ?_
                                  refine lv_sipush (v := (-999)) hx hb dL_hangs_398 (by decide) ?_
                                  refine lv_icmp_ne (tgt := 408) hx hb dL_hangs_401 (by decide) (fun _ => ?_) (fun h => absurd h (by decide))
                                  refine lv_iconst (v := 0) hx hb dL_hangs_408 (by decide) ?_
                                  refine lv_iload hx hb dL_hangs_409 (lv_at hl 4 rfl) ?_
                                  refine lv_iload hx hb dL_hangs_411 (lv_at hl 5 rfl) ?_
                                  refine lv_icmp_lt (tgt := 420) hx hb dL_hangs_413 (by decide) (fun c_413 => ?_) (fun c_413 => ?_)
                                  · have c_413 := nlt_t (a := a9) (b := N9 + a9) (by omega) (by omega) c_413
                                    refine lv_iconst (v := 0) hx hb dL_hangs_420 (by decide) ?_
                                    refine lv_icmp_ne (tgt := 459) hx hb dL_hangs_421 (by decide) (fun h => absurd (by decide) h) (fun _ => ?_)
                                    refine lv_iload hx hb dL_hangs_424 (lv_at hl 0 rfl) ?_
                                    refine lv_sipush (v := (-999)) hx hb dL_hangs_426 (by decide) ?_
                                    refine lv_icmp_eq (tgt := 455) hx hb dL_hangs_429 (by decide) (fun h => absurd h (by decide)) (fun _ => ?_)
                                    refine lv_iload hx hb dL_hangs_432 (lv_at hl 0 rfl) ?_
                                    refine lv_if_lt (tgt := 459) hx hb dL_hangs_434 (by decide) (fun h => absurd h (by decide)) (fun _ => ?_)
                                    refine lv_iload hx hb dL_hangs_437 (lv_at hl 0 rfl) ?_
                                    refine lv_iconst (v := 4) hx hb dL_hangs_439 (by decide) ?_
                                    refine lv_icmp_ge (tgt := 459) hx hb dL_hangs_440 (by decide) (fun h => absurd h (by decide)) (fun _ => ?_)
                                    refine lv_iload hx hb dL_hangs_443 (lv_at hl 0 rfl) ?_
                                    refine lv_iconst (v := 2) hx hb dL_hangs_445 (by decide) ?_
                                    refine ro_irem (z := 1) hx hb (by decide) (by decide) dL_hangs_446 ?_
                                    refine lv_iload hx hb dL_hangs_447 (lv_at hl 5 rfl) ?_
                                    refine lv_iload hx hb dL_hangs_449 (lv_at hl 4 rfl) ?_
                                    refine ro_isub (z := nI (N9 + a9 - a9)) hx hb (pk_sub (a := N9 + a9) (b := a9) (by omega)) dL_hangs_451 ?_
                                    refine lv_icmp_ge (tgt := 459) hx hb dL_hangs_452 (by decide) (fun c_452 => ?_) (fun c_452 => ?_)
                                    · have c_452 := nle_t (a := N9 + a9 - a9) (b := 1) (by omega) (by omega) c_452
                                      omega
                                    · have c_452 := nle_f (a := N9 + a9 - a9) (b := 1) (by omega) (by omega) c_452
                                      refine lv_iconst (v := 1) hx hb dL_hangs_455 (by decide) ?_
                                      refine lv_goto (tgt := 460) hx hb dL_hangs_456 (by decide) ?_
                                      refine lv_istore_n (lv' := [(2, .int 1), (13, .int 3), (0, .ref q), (4, .int vv), (8, .int (nI a9)), (9, .int (nI (N9 + a9))), (10, .int bal), (11, .int sn), (12, .int (nI k))]) hx hb dL_hangs_460 rfl hl (by decide) rfl (fun ls hl => ?_)
                                      refine lv_iconst (v := 0) hx hb dL_hangs_461 (by decide) ?_
                                      refine lv_istore (lv' := [(14, .int 0), (2, .int 1), (13, .int 3), (0, .ref q), (4, .int vv), (8, .int (nI a9)), (9, .int (nI (N9 + a9))), (10, .int bal), (11, .int sn), (12, .int (nI k))]) hx hb dL_hangs_462 hl (by decide) rfl (fun ls hl => ?_)
                                      refine lv_iload_n hx hb dL_hangs_464 rfl (lv_at hl 1 rfl) ?_
                                      refine lv_if_eq (tgt := 521) hx hb dL_hangs_465 (by decide) (fun h => absurd h (by decide)) (fun _ => ?_)
                                      refine lv_iload hx hb dL_hangs_468 (lv_at hl 2 rfl) ?_
                                      refine lv_if_lt (tgt := 521) hx hb dL_hangs_470 (by decide) (fun h => absurd h (by decide)) (fun _ => ?_)
                                      refine lv_iload hx hb dL_hangs_473 (lv_at hl 0 rfl) ?_
                                      refine lv_iload hx hb dL_hangs_475 (lv_at hl 2 rfl) ?_
                                      refine lv_iconst (v := 2) hx hb dL_hangs_477 (by decide) ?_
                                      refine ro_irem (z := 1) hx hb (by decide) (by decide) dL_hangs_478 ?_
                                      refine lv_icmp_gt (tgt := 521) hx hb dL_hangs_479 (by decide) (fun h => absurd h (by decide)) (fun _ => ?_)
                                      refine lv_iload hx hb dL_hangs_482 (lv_at hl 7 rfl) ?_
                                      refine lv_iload hx hb dL_hangs_484 (lv_at hl 8 rfl) ?_
                                      refine lv_aload_n hx hb dL_hangs_486 rfl (lv_at hl 3 rfl) ?_
                                      refine lv_iload hx hb dL_hangs_487 (lv_at hl 2 rfl) ?_
                                      refine lv_iconst (v := 2) hx hb dL_hangs_489 (by decide) ?_
                                      refine lv_icmp_ge (tgt := 501) hx hb dL_hangs_490 (by decide) (fun _ => ?_) (fun h => absurd (by decide) h)
                                      refine lv_iload hx hb dL_hangs_501 (lv_at hl 6 rfl) ?_
                                      refine lv_iconst (v := 1) hx hb dL_hangs_503 (by decide) ?_
                                      refine ro_isub (z := nI (N9 + a9 - 1)) hx hb (pk_sub (a := N9 + a9) (b := 1) (by omega)) dL_hangs_504 ?_
                                      refine lv_iload hx hb dL_hangs_505 (lv_at hl 0 rfl) ?_
                                      refine ro_isub (z := nI (N9 + a9 - 1 - 0)) hx hb (pk_sub (a := N9 + a9 - 1) (b := 0) (by omega)) dL_hangs_507 ?_
                                      refine oW (As := [.ref q, .int (nI (N9 + a9 - 1 - 0))]) (rest := [.int sn, .int bal]) C9 (mL_pile_ok l D G q K S C (N9 + a9 - 1 - 0) (by omega) w1) (fun _ => OW_fst _ _ _ _ _ _ _) hS hP hD (List.range' 0 57) (OW_get _ _ _ _ _) (by decide) (fun _ => OW_put _ _ _ _ _ _ _ _ _) yw_L_pile kw_12_23 kw_13_0 ⟨Nat.le_of_ble_eq_true rfl, Nat.le_of_ble_eq_true rfl⟩ hl.1 (Nat.le_of_ble_eq_true rfl) dL_hangs_508 rfl rfl ⟨Nat.le_of_ble_eq_true rfl, Nat.le_of_ble_eq_true rfl⟩ (fun r508 u508 H locs hp508 hP hD hS => ?_)
                                      refine ro_top (z := S.p (S.x 13 + (N9 + a9 - 1 - 0))) hx hp508 ?_
                                      refine lv_imul hx hb dL_hangs_511 ?_
                                      refine lv_iadd hx hb dL_hangs_512 ?_
                                      refine lv_istore (lv' := [(10, .int (bal + (sn * (S.p (S.x 13 + (N9 + a9 - 1 - 0)))))), (14, .int 0), (2, .int 1), (13, .int 3), (0, .ref q), (4, .int vv), (8, .int (nI a9)), (9, .int (nI (N9 + a9))), (11, .int sn), (12, .int (nI k))]) hx hb dL_hangs_513 hl (by decide) rfl (fun ls hl => ?_)
                                      refine lv_iinc (v := 1) (lv' := [(14, .int 1), (10, .int (bal + (sn * (S.p (S.x 13 + (N9 + a9 - 1 - 0)))))), (2, .int 1), (13, .int 3), (0, .ref q), (4, .int vv), (8, .int (nI a9)), (9, .int (nI (N9 + a9))), (11, .int sn), (12, .int (nI k))]) hx hb dL_hangs_515 hl (k := 1) rfl (by decide) (by decide) rfl (fun ls hl => ?_)
                                      refine lv_goto (tgt := 464) hx hb dL_hangs_518 (by decide) ?_
                                      refine lv_iload_n hx hb dL_hangs_464 rfl (lv_at hl 2 rfl) ?_
                                      refine lv_if_eq (tgt := 521) hx hb dL_hangs_465 (by decide) (fun h => absurd h (by decide)) (fun _ => ?_)
                                      refine lv_iload hx hb dL_hangs_468 (lv_at hl 3 rfl) ?_
                                      refine lv_if_lt (tgt := 521) hx hb dL_hangs_470 (by decide) (fun h => absurd h (by decide)) (fun _ => ?_)
                                      refine lv_iload hx hb dL_hangs_473 (lv_at hl 0 rfl) ?_
                                      refine lv_iload hx hb dL_hangs_475 (lv_at hl 3 rfl) ?_
                                      refine lv_iconst (v := 2) hx hb dL_hangs_477 (by decide) ?_
                                      refine ro_irem (z := 1) hx hb (by decide) (by decide) dL_hangs_478 ?_
                                      refine lv_icmp_gt (tgt := 521) hx hb dL_hangs_479 (by decide) (fun h => absurd h (by decide)) (fun _ => ?_)
                                      refine lv_iload hx hb dL_hangs_482 (lv_at hl 1 rfl) ?_
                                      refine lv_iload hx hb dL_hangs_484 (lv_at hl 8 rfl) ?_
                                      refine lv_aload_n hx hb dL_hangs_486 rfl (lv_at hl 4 rfl) ?_
                                      refine lv_iload hx hb dL_hangs_487 (lv_at hl 3 rfl) ?_
                                      refine lv_iconst (v := 2) hx hb dL_hangs_489 (by decide) ?_
                                      refine lv_icmp_ge (tgt := 501) hx hb dL_hangs_490 (by decide) (fun _ => ?_) (fun h => absurd (by decide) h)
                                      refine lv_iload hx hb dL_hangs_501 (lv_at hl 7 rfl) ?_
                                      refine lv_iconst (v := 1) hx hb dL_hangs_503 (by decide) ?_
                                      refine ro_isub (z := nI (N9 + a9 - 1)) hx hb (pk_sub (a := N9 + a9) (b := 1) (by omega)) dL_hangs_504 ?_
                                      refine lv_iload hx hb dL_hangs_505 (lv_at hl 0 rfl) ?_
                                      refine ro_isub (z := nI (N9 + a9 - 1 - 1)) hx hb (pk_sub (a := N9 + a9 - 1) (b := 1) (by omega)) dL_hangs_507 ?_
                                      refine oW (As := [.ref q, .int (nI (N9 + a9 - 1 - 1))]) (rest := [.int sn, .int (bal + (sn * (S.p (S.x 13 + (N9 + a9 - 1 - 0)))))]) C9 (mL_pile_ok l D G q K S C (N9 + a9 - 1 - 1) (by omega) w1) (fun _ => OW_fst _ _ _ _ _ _ _) hS hP hD (List.range' 0 57) (OW_get _ _ _ _ _) (by decide) (fun _ => OW_put _ _ _ _ _ _ _ _ _) yw_L_pile kw_12_23 kw_13_0 ⟨Nat.le_of_ble_eq_true rfl, Nat.le_of_ble_eq_true rfl⟩ hl.1 (Nat.le_of_ble_eq_true rfl) dL_hangs_508 rfl rfl ⟨Nat.le_of_ble_eq_true rfl, Nat.le_of_ble_eq_true rfl⟩ (fun r508 u508 H locs hp508 hP hD hS => ?_)
                                      refine ro_top (z := S.p (S.x 13 + (N9 + a9 - 1 - 1))) hx hp508 ?_
                                      refine lv_imul hx hb dL_hangs_511 ?_
                                      refine lv_iadd hx hb dL_hangs_512 ?_
                                      refine lv_istore (lv' := [(10, .int ((bal + (sn * (S.p (S.x 13 + (N9 + a9 - 1 - 0))))) + (sn * (S.p (S.x 13 + (N9 + a9 - 1 - 1)))))), (14, .int 1), (2, .int 1), (13, .int 3), (0, .ref q), (4, .int vv), (8, .int (nI a9)), (9, .int (nI (N9 + a9))), (11, .int sn), (12, .int (nI k))]) hx hb dL_hangs_513 hl (by decide) rfl (fun ls hl => ?_)
                                      refine lv_iinc (v := 2) (lv' := [(14, .int 2), (10, .int ((bal + (sn * (S.p (S.x 13 + (N9 + a9 - 1 - 0))))) + (sn * (S.p (S.x 13 + (N9 + a9 - 1 - 1)))))), (2, .int 1), (13, .int 3), (0, .ref q), (4, .int vv), (8, .int (nI a9)), (9, .int (nI (N9 + a9))), (11, .int sn), (12, .int (nI k))]) hx hb dL_hangs_515 hl (k := 1) rfl (by decide) (by decide) rfl (fun ls hl => ?_)
                                      refine lv_goto (tgt := 464) hx hb dL_hangs_518 (by decide) ?_
                                      refine lv_iload_n hx hb dL_hangs_464 rfl (lv_at hl 2 rfl) ?_
                                      refine lv_if_eq (tgt := 521) hx hb dL_hangs_465 (by decide) (fun h => absurd h (by decide)) (fun _ => ?_)
                                      refine lv_iload hx hb dL_hangs_468 (lv_at hl 3 rfl) ?_
                                      refine lv_if_lt (tgt := 521) hx hb dL_hangs_470 (by decide) (fun h => absurd h (by decide)) (fun _ => ?_)
                                      refine lv_iload hx hb dL_hangs_473 (lv_at hl 0 rfl) ?_
                                      refine lv_iload hx hb dL_hangs_475 (lv_at hl 3 rfl) ?_
                                      refine lv_iconst (v := 2) hx hb dL_hangs_477 (by decide) ?_
                                      refine ro_irem (z := 1) hx hb (by decide) (by decide) dL_hangs_478 ?_
                                      refine lv_icmp_gt (tgt := 521) hx hb dL_hangs_479 (by decide) (fun _ => ?_) (fun h => absurd (by decide) h)
                                      refine lv_iload hx hb dL_hangs_521 (lv_at hl 6 rfl) ?_
                                      refine lv_iload hx hb dL_hangs_523 (lv_at hl 3 rfl) ?_
                                      refine lv_if_lt (tgt := 534) hx hb dL_hangs_525 (by decide) (fun h => absurd h (by decide)) (fun _ => ?_)
                                      refine lv_iload hx hb dL_hangs_528 (lv_at hl 3 rfl) ?_
                                      refine lv_iconst (v := 1) hx hb dL_hangs_530 (by decide) ?_
                                      refine lv_icmp_le (tgt := 538) hx hb dL_hangs_531 (by decide) (fun h => absurd h (by decide)) (fun _ => ?_)
                                      refine lv_iconst (v := 0) hx hb dL_hangs_534 (by decide) ?_
                                      refine lv_goto (tgt := 542) hx hb dL_hangs_535 (by decide) ?_
                                      refine ro_iadd (z := nI a9) hx hb (Int32.add_zero _) dL_hangs_542 ?_
                                      refine lv_istore (lv' := [(8, .int (nI a9)), (14, .int 2), (10, .int ((bal + (sn * (S.p (S.x 13 + (N9 + a9 - 1 - 0))))) + (sn * (S.p (S.x 13 + (N9 + a9 - 1 - 1)))))), (2, .int 1), (13, .int 3), (0, .ref q), (4, .int vv), (9, .int (nI (N9 + a9))), (11, .int sn), (12, .int (nI k))]) hx hb dL_hangs_543 hl (by decide) rfl (fun ls hl => ?_)
                                      refine lv_iload hx hb dL_hangs_545 (lv_at hl 7 rfl) ?_
                                      refine lv_iload hx hb dL_hangs_547 (lv_at hl 4 rfl) ?_
                                      refine lv_iconst (v := 2) hx hb dL_hangs_549 (by decide) ?_
                                      refine lv_icmp_ge (tgt := 557) hx hb dL_hangs_550 (by decide) (fun _ => ?_) (fun h => absurd (by decide) h)
                                      refine lv_iload hx hb dL_hangs_557 (lv_at hl 4 rfl) ?_
                                      refine lv_iconst (v := 1) hx hb dL_hangs_559 (by decide) ?_
                                      refine ro_isub (z := nI (3 - 1)) hx hb (pk_sub (a := 3) (b := 1) (by omega)) dL_hangs_560 ?_
                                      refine ro_isub (z := nI (N9 - 2 + a9)) hx hb (by rw [show N9 - 2 + a9 = N9 + a9 - 2 by omega]; exact pk_sub (a := N9 + a9) (b := 2) (by omega)) dL_hangs_561 ?_
                                      refine lv_istore (lv' := [(9, .int (nI (N9 - 2 + a9))), (8, .int (nI a9)), (14, .int 2), (10, .int ((bal + (sn * (S.p (S.x 13 + (N9 + a9 - 1 - 0))))) + (sn * (S.p (S.x 13 + (N9 + a9 - 1 - 1)))))), (2, .int 1), (13, .int 3), (0, .ref q), (4, .int vv), (11, .int sn), (12, .int (nI k))]) hx hb dL_hangs_562 hl (by decide) rfl (fun ls hl => ?_)
                                      refine lv_iload hx hb dL_hangs_564 (lv_at hl 8 rfl) ?_
                                      refine lv_ineg hx hb dL_hangs_566 ?_
                                      refine lv_istore (lv' := [(11, .int (-sn)), (9, .int (nI (N9 - 2 + a9))), (8, .int (nI a9)), (14, .int 2), (10, .int ((bal + (sn * (S.p (S.x 13 + (N9 + a9 - 1 - 0))))) + (sn * (S.p (S.x 13 + (N9 + a9 - 1 - 1)))))), (2, .int 1), (13, .int 3), (0, .ref q), (4, .int vv), (12, .int (nI k))]) hx hb dL_hangs_567 hl (by decide) rfl (fun ls hl => ?_)
                                      refine lv_iinc (v := nI (k + 1)) (lv' := [(12, .int (nI (k + 1))), (11, .int (-sn)), (9, .int (nI (N9 - 2 + a9))), (8, .int (nI a9)), (14, .int 2), (10, .int ((bal + (sn * (S.p (S.x 13 + (N9 + a9 - 1 - 0))))) + (sn * (S.p (S.x 13 + (N9 + a9 - 1 - 1)))))), (2, .int 1), (13, .int 3), (0, .ref q), (4, .int vv)]) hx hb dL_hangs_569 hl (k := 9) rfl (nI_add k 1) (by decide) rfl (fun ls hl => ?_)
                                      refine lv_goto (tgt := 377) hx hb dL_hangs_572 (by decide) ?_
                                      have hc3a : S.p (S.x 13 + a9 + N9 - 1) = S.p (S.x 13 + (N9 + a9 - 1 - 0)) := by rw [show S.x 13 + a9 + N9 - 1 = S.x 13 + (N9 + a9 - 1 - 0) by omega]
                                      have hc3b : S.p (S.x 13 + a9 + N9 - 2) = S.p (S.x 13 + (N9 + a9 - 1 - 1)) := by rw [show S.x 13 + a9 + N9 - 2 = S.x 13 + (N9 + a9 - 1 - 1) by omega]
                                      exact ih377 (k + 1) a9 (N9 - 2) ((bal + (sn * (S.p (S.x 13 + (N9 + a9 - 1 - 0))))) + (sn * (S.p (S.x 13 + (N9 + a9 - 1 - 1))))) (-sn) (by omega) hgo (by omega) (sn_neg hsn) (by have h9 := hls.2.2 rfl; rw [hc3a, hc3b] at h9; exact h9) (by omega) _ _ _ hP hD hS (lv_sub hl [8, 6, 9, 3, 2, 5, 1, 0] rfl)
                                  · have c_413 := nlt_f (a := a9) (b := N9 + a9) (by omega) (by omega) c_413
                                    omega
                        exact lp377 (13 - 0 + 1) 0 0 (S.x 14) 0 1 (Nat.zero_le _) rfl (by omega) (Or.inl rfl) (by show (0 : Int) + 1 * (V S.p (S.x 14) (S.x 13 + 0)).toInt = _; rw [Nat.add_zero]; omega) (Nat.lt_succ_self _) _ _ _ hP hD hS (lv_sub hl [6, 5, 9, 4, 3, 2, 1, 0] rfl)
                      refine lv_iload_n hx hb dL_hangs_297 rfl (lv_at hl 1 rfl) ?_
                      refine lv_if_ne (tgt := 333) hx hb dL_hangs_298 (by decide) (fun c_298 => ?_) (fun c_298 => ?_)
                      · have c_298 := neq_f (a := S.x 14) (b := 0) (by omega) (by omega) c_298
                        have hbn := bN_spec w6 (f := S.x 13) (n := S.x 14) (by omega) w1
                        have hbsn : bs = nI (bN S.p (S.x 13) (S.x 14)) := by rw [hbs, hbn.2.2.1]
                        have hvm : vv = mo := by rw [hvv, hmo4]; exact V_eq _ (by omega) _
                        refine lv_iload hx hb dL_hangs_333 (lv_at hl 4 rfl) ?_
                        refine lv_iload hx hb dL_hangs_335 (lv_at hl 7 rfl) ?_
                        refine lv_icmp_ne (tgt := 360) hx hb dL_hangs_337 (by decide) (fun c_337 => ?_) (fun c_337 => ?_)
                        · exact absurd hvm c_337
                        · refine lv_aload_n hx hb dL_hangs_340 rfl (lv_at hl 0 rfl) ?_
                          refine lv_iload hx hb dL_hangs_341 (lv_at hl 5 rfl) ?_
                          refine ro_top (z := nI (bN S.p (S.x 13) (S.x 14))) hx hbsn ?_
                          refine oW (As := [.ref q, .int (nI (bN S.p (S.x 13) (S.x 14)))]) (rest := []) C9 (mL_resultOf_ok l D G q K S C (bN S.p (S.x 13) (S.x 14)) w1 w6 hSV hbn.1) (fun _ => OW_fst _ _ _ _ _ _ _) hS hP hD (List.range' 0 57) (OW_get _ _ _ _ _) (by decide) (fun _ => OW_put _ _ _ _ _ _ _ _ _) yw_L_resultOf kw_14_3 kw_14_4 ⟨Nat.le_of_ble_eq_true rfl, Nat.le_of_ble_eq_true rfl⟩ hl.1 (Nat.le_of_ble_eq_true rfl) dL_hangs_343 rfl rfl ⟨Nat.le_of_ble_eq_true rfl, Nat.le_of_ble_eq_true rfl⟩ (fun r343 u343 H locs hp343 hP hD hS => ?_)
                          obtain ⟨ib, hib⟩ : ∃ z, z = (rV S.p (V S.p) (S.x 13) (S.x 14)) (bN S.p (S.x 13) (S.x 14)) := ⟨_, rfl⟩
                          refine ro_top (z := ib) hx (by rw [hp343, hib]) ?_
                          refine lv_iload hx hb dL_hangs_346 (lv_at hl 4 rfl) ?_
                          refine lv_icmp_ne (tgt := 360) hx hb dL_hangs_348 (by decide) (fun c_348 => ?_) (fun c_348 => ?_)
                          · exact absurd (by rw [hib, hvv, ← hbn.2.2.2]) c_348
                          · refine lv_iload hx hb dL_hangs_351 (lv_at hl 6 rfl) ?_
                            refine lv_if_lt (tgt := 360) hx hb dL_hangs_353 (by decide) (fun c_353 => ?_) (fun c_353 => ?_)
                            · exact absurd c_353 (ge0_nlt (by rw [hmg]; exact mgA_pos w6 (by omega) w1))
                            · exact j356  _ _ _ hP hD hS (lv_sub hl [0, 1, 2, 3, 4, 5, 6, 7, 8] rfl)
                      · have c_298 := neq_t (a := S.x 14) (b := 0) (by omega) (by omega) c_298
                        have hvv0 : vv = 0 := by rw [hvv, c_298]; exact V_zero _ _
                        have hbs0 : bs = -999 := by rw [hbs, c_298, bm_zero]
                        have hmo0 : mo = -999 := by rw [hmo4, c_298, bm_zero]
                        have hmg0 : mg = -999 := by rw [hmg, c_298]; exact mgA_none _ _
                        refine lv_iload hx hb dL_hangs_301 (lv_at hl 4 rfl) ?_
                        refine lv_if_ne (tgt := 360) hx hb dL_hangs_303 (by decide) (fun c_303 => ?_) (fun c_303 => ?_)
                        · exact absurd hvv0 c_303
                        · refine lv_iload hx hb dL_hangs_306 (lv_at hl 5 rfl) ?_
                          refine lv_sipush (v := (-999)) hx hb dL_hangs_308 (by decide) ?_
                          refine lv_icmp_ne (tgt := 360) hx hb dL_hangs_311 (by decide) (fun c_311 => ?_) (fun c_311 => ?_)
                          · exact absurd hbs0 c_311
                          · refine lv_iload hx hb dL_hangs_314 (lv_at hl 7 rfl) ?_
                            refine lv_sipush (v := (-999)) hx hb dL_hangs_316 (by decide) ?_
                            refine lv_icmp_ne (tgt := 360) hx hb dL_hangs_319 (by decide) (fun c_319 => ?_) (fun c_319 => ?_)
                            · exact absurd hmo0 c_319
                            · refine lv_iload hx hb dL_hangs_322 (lv_at hl 6 rfl) ?_
                              refine lv_sipush (v := (-999)) hx hb dL_hangs_324 (by decide) ?_
                              refine lv_icmp_ne (tgt := 360) hx hb dL_hangs_327 (by decide) (fun c_327 => ?_) (fun c_327 => ?_)
                              · exact absurd hmg0 c_327
                              · refine lv_goto (tgt := 356) hx hb dL_hangs_330 (by decide) ?_
                                exact j356  _ _ _ hP hD hS (lv_sub hl [0, 1, 2, 3, 4, 5, 6, 7, 8] rfl)
                    · have c_157 := nle_f (a := 4) (b := m) (by omega) (by omega) c_157
                      refine lv_iload_n hx hb dL_hangs_160 rfl (lv_at hl 2 rfl) ?_
                      refine lv_if_eq (tgt := 293) hx hb dL_hangs_161 (by decide) (fun h => absurd h (by decide)) (fun _ => ?_)
                      refine lv_aload_n hx hb dL_hangs_164 rfl (lv_at hl 0 rfl) ?_
                      refine lv_iload hx hb dL_hangs_165 (lv_at hl 8 rfl) ?_
                      refine oW (As := [.ref q, .int (nI m)]) (rest := []) C9 (mL_resultOf_ok l D G q K S C m w1 w6 hSV (by omega)) (fun _ => OW_fst _ _ _ _ _ _ _) hS hP hD (List.range' 0 57) (OW_get _ _ _ _ _) (by decide) (fun _ => OW_put _ _ _ _ _ _ _ _ _) yw_L_resultOf kw_14_3 kw_14_4 ⟨Nat.le_of_ble_eq_true rfl, Nat.le_of_ble_eq_true rfl⟩ hl.1 (Nat.le_of_ble_eq_true rfl) dL_hangs_167 rfl rfl ⟨Nat.le_of_ble_eq_true rfl, Nat.le_of_ble_eq_true rfl⟩ (fun r167 u167 H locs hp167 hP hD hS => ?_)
                      obtain ⟨it, hit⟩ : ∃ z, z = (rV S.p (V S.p) (S.x 13) (S.x 14)) m := ⟨_, rfl⟩
                      refine ro_top (z := it) hx (by rw [hp167, hit]) ?_
                      obtain ⟨hle, hltb⟩ := best_le w6 w1 (show m < 4 by omega)
                      rw [← hit, ← hvv] at hle hltb
                      rw [← hbs] at hltb
                      have htk := tk_mod m
                      by_cases hmt : tk m ≤ S.x 14
                      · obtain ⟨i1, i2, i3⟩ : InS (sg S.p (S.x 13) (S.x 14)) it.toInt := by rw [hit]; exact rV_in w6 w7 (by omega) hmt w1
                        have hne : ¬ it = -999 := fun h9 => by rw [h9, i999] at i1; omega
                        refine lv_istore (lv' := [(9, .int it), (0, .ref q), (1, .int (nI (S.x 14))), (2, .int 1), (3, .int al), (4, .int vv), (5, .int bs), (6, .int mg), (7, .int mo), (8, .int (nI m))]) hx hb dL_hangs_170 hl (by decide) rfl (fun ls hl => ?_)
                        refine lv_iload hx hb dL_hangs_172 (lv_at hl 0 rfl) ?_
                        refine lv_sipush (v := (-999)) hx hb dL_hangs_174 (by decide) ?_
                        refine lv_icmp_ne (tgt := 184) hx hb dL_hangs_177 (by decide) (fun c_177 => ?_) (fun c_177 => ?_)
                        · refine lv_iconst (v := 0) hx hb dL_hangs_184 (by decide) ?_
                          refine lv_iload hx hb dL_hangs_185 (lv_at hl 9 rfl) ?_
                          refine lv_iconst (v := 2) hx hb dL_hangs_187 (by decide) ?_
                          refine ro_irem (z := nI (m % 2)) hx hb (by decide) (nI_rem (a := m) (b := 2) (by omega) (by decide)) dL_hangs_188 ?_
                          refine lv_iconst (v := 1) hx hb dL_hangs_189 (by decide) ?_
                          refine ro_iadd (z := nI (m % 2 + 1)) hx hb (nI_add (m % 2) 1) dL_hangs_190 ?_
                          refine lv_iload_n hx hb dL_hangs_191 rfl (lv_at hl 2 rfl) ?_
                          refine lv_icmp_le (tgt := 199) hx hb dL_hangs_192 (by decide) (fun c_192 => ?_) (fun c_192 => ?_)
                          · have c_192 := nle_t (a := m % 2 + 1) (b := S.x 14) (by omega) (by omega) c_192
                            refine lv_iconst (v := 0) hx hb dL_hangs_199 (by decide) ?_
                            refine lv_icmp_ne (tgt := 269) hx hb dL_hangs_200 (by decide) (fun h => absurd (by decide) h) (fun _ => ?_)
                            refine lv_iload hx hb dL_hangs_203 (lv_at hl 0 rfl) ?_
                            refine lv_iload_n hx hb dL_hangs_205 rfl (lv_at hl 4 rfl) ?_
                            refine lv_icmp_gt (tgt := 269) hx hb dL_hangs_206 (by decide) (fun c_206 => ?_) (fun c_206 => ?_)
                            · exact absurd c_206 (nlt_of (by rw [hal9]; exact i2))
                            · refine lv_iload hx hb dL_hangs_209 (lv_at hl 0 rfl) ?_
                              refine lv_sipush (v := (-999)) hx hb dL_hangs_211 (by decide) ?_
                              refine lv_icmp_eq (tgt := 233) hx hb dL_hangs_214 (by decide) (fun c_214 => ?_) (fun c_214 => ?_)
                              · exact absurd c_214 hne
                              · refine lv_iload hx hb dL_hangs_217 (lv_at hl 0 rfl) ?_
                                refine lv_iload_n hx hb dL_hangs_219 rfl (lv_at hl 4 rfl) ?_
                                refine lv_ineg hx hb dL_hangs_220 ?_
                                refine lv_icmp_lt (tgt := 269) hx hb dL_hangs_221 (by decide) (fun c_221 => ?_) (fun c_221 => ?_)
                                · exact absurd c_221 (nlt_of (by rw [neg_int (by omega) (by omega), hal9]; exact i1))
                                · refine lv_iload_n hx hb dL_hangs_224 rfl (lv_at hl 4 rfl) ?_
                                  refine lv_iload hx hb dL_hangs_225 (lv_at hl 0 rfl) ?_
                                  refine lv_isub hx hb dL_hangs_227 ?_
                                  refine lv_iconst (v := 2) hx hb dL_hangs_228 (by decide) ?_
                                  refine ro_irem (z := 0) hx hb (by decide) (even_rem (by rw [hal9]; exact i2) ⟨by rw [hal9]; omega, by rw [hal9]; omega⟩ ⟨by omega, by omega⟩ (by rw [hal9]; exact i3)) dL_hangs_229 ?_
                                  refine lv_if_ne (tgt := 269) hx hb dL_hangs_230 (by decide) (fun h => absurd (by decide) h) (fun _ => ?_)
                                  have j265 : ∀ (H : Heap) (locs : List Loc) (ls : Array Slot), va_P D vwCl (OW G q K S C) H → va_D A (OW G q K S C) → va_S A s9.heap H locs → lv_has ls 15 [(9, .int it), (0, .ref q), (1, .int (nI (S.x 14))), (2, .int 1), (3, .int al), (4, .int vv), (5, .int bs), (6, .int mg), (7, .int mo), (8, .int (nI m))] → W pr l e (rmG 9 2 12) s9 m9 (List.toArray [.ref q]) below meth c9 H locs 2 12 (MQ below (va_Qi (fun (r : Int32) (_ : Unit) => r = 1) (fun u9 t9 => WB D ((fun (_ : Unit) => OW G q K S C) u9) t9) A) (List.toArray [.ref q]) s9 2 12 A) (F0 m9 265 ls []) := by
                                    intro H locs ls hP hD hS hl
                                    refine lv_iconst (v := 1) hx hb dL_hangs_265 (by decide) ?_
                                    refine lv_goto (tgt := 270) hx hb dL_hangs_266 (by decide) ?_
                                    refine lv_istore_n (lv' := [(2, .int 1), (9, .int it), (0, .ref q), (1, .int (nI (S.x 14))), (3, .int al), (4, .int vv), (5, .int bs), (6, .int mg), (7, .int mo), (8, .int (nI m))]) hx hb dL_hangs_270 rfl hl (by decide) rfl (fun ls hl => ?_)
                                    refine lv_iload hx hb dL_hangs_271 (lv_at hl 1 rfl) ?_
                                    refine lv_iload hx hb dL_hangs_273 (lv_at hl 8 rfl) ?_
                                    refine lv_icmp_le (tgt := 283) hx hb dL_hangs_275 (by decide) (fun c_275 => ?_) (fun c_275 => ?_)
                                    · refine lv_iload hx hb dL_hangs_283 (lv_at hl 8 rfl) ?_
                                      refine lv_istore (lv' := [(7, .int mo), (2, .int 1), (9, .int it), (0, .ref q), (1, .int (nI (S.x 14))), (3, .int al), (4, .int vv), (5, .int bs), (6, .int mg), (8, .int (nI m))]) hx hb dL_hangs_285 hl (by decide) rfl (fun ls hl => ?_)
                                      refine lv_iinc (v := nI (m + 1)) (lv' := [(8, .int (nI (m + 1))), (7, .int mo), (2, .int 1), (9, .int it), (0, .ref q), (1, .int (nI (S.x 14))), (3, .int al), (4, .int vv), (5, .int bs), (6, .int mg)]) hx hb dL_hangs_287 hl (k := 9) rfl (nI_add m 1) (by decide) rfl (fun ls hl => ?_)
                                      refine lv_goto (tgt := 154) hx hb dL_hangs_290 (by decide) ?_
                                      exact ih154 (m + 1) mo (by omega) (bm_t hmo hit c_275) (by omega) _ _ _ hP hD hS (lv_sub hl [4, 5, 2, 6, 7, 8, 9, 1, 0] rfl)
                                    · refine lv_iload hx hb dL_hangs_278 (lv_at hl 1 rfl) ?_
                                      refine lv_goto (tgt := 285) hx hb dL_hangs_280 (by decide) ?_
                                      refine lv_istore (lv' := [(7, .int it), (2, .int 1), (9, .int it), (0, .ref q), (1, .int (nI (S.x 14))), (3, .int al), (4, .int vv), (5, .int bs), (6, .int mg), (8, .int (nI m))]) hx hb dL_hangs_285 hl (by decide) rfl (fun ls hl => ?_)
                                      refine lv_iinc (v := nI (m + 1)) (lv' := [(8, .int (nI (m + 1))), (7, .int it), (2, .int 1), (9, .int it), (0, .ref q), (1, .int (nI (S.x 14))), (3, .int al), (4, .int vv), (5, .int bs), (6, .int mg)]) hx hb dL_hangs_287 hl (k := 9) rfl (nI_add m 1) (by decide) rfl (fun ls hl => ?_)
                                      refine lv_goto (tgt := 154) hx hb dL_hangs_290 (by decide) ?_
                                      exact ih154 (m + 1) it (by omega) (bm_f hmo hit c_275) (by omega) _ _ _ hP hD hS (lv_sub hl [4, 5, 2, 6, 7, 8, 9, 1, 0] rfl)
                                  refine lv_iload hx hb dL_hangs_233 (lv_at hl 9 rfl) ?_
                                  refine lv_iload hx hb dL_hangs_235 (lv_at hl 6 rfl) ?_
                                  refine lv_icmp_eq (tgt := 265) hx hb dL_hangs_237 (by decide) (fun c_237 => ?_) (fun c_237 => ?_)
                                  · exact j265  _ _ _ hP hD hS (lv_sub hl [0, 1, 2, 3, 4, 5, 6, 7, 8, 9] rfl)
                                  · refine lv_iload hx hb dL_hangs_240 (lv_at hl 0 rfl) ?_
                                    refine lv_iload hx hb dL_hangs_242 (lv_at hl 5 rfl) ?_
                                    refine lv_icmp_gt (tgt := 261) hx hb dL_hangs_244 (by decide) (fun c_244 => ?_) (fun c_244 => ?_)
                                    · exact absurd c_244 (nlt_of hle)
                                    · refine lv_iload hx hb dL_hangs_247 (lv_at hl 9 rfl) ?_
                                      refine lv_iload hx hb dL_hangs_249 (lv_at hl 6 rfl) ?_
                                      refine lv_icmp_gt (tgt := 265) hx hb dL_hangs_251 (by decide) (fun c_251 => ?_) (fun c_251 => ?_)
                                      · exact j265  _ _ _ hP hD hS (lv_sub hl [0, 1, 2, 3, 4, 5, 6, 7, 8, 9] rfl)
                                      · refine lv_iload hx hb dL_hangs_254 (lv_at hl 0 rfl) ?_
                                        refine lv_iload hx hb dL_hangs_256 (lv_at hl 5 rfl) ?_
                                        refine lv_icmp_lt (tgt := 265) hx hb dL_hangs_258 (by decide) (fun c_258 => ?_) (fun c_258 => ?_)
                                        · exact j265  _ _ _ hP hD hS (lv_sub hl [0, 1, 2, 3, 4, 5, 6, 7, 8, 9] rfl)
                                        · exact absurd (Int32.lt_iff_toInt_lt.mpr (hltb c_237 c_251)) c_258
                          · have c_192 := nle_f (a := m % 2 + 1) (b := S.x 14) (by omega) (by omega) c_192
                            omega
                        · exact absurd c_177 hne
                      · have hit9 : it = -999 := by rw [hit]; exact rV_neg hmt
                        refine ro_top (z := -999) hx hit9 ?_
                        refine lv_istore (lv' := [(9, .int (-999)), (0, .ref q), (1, .int (nI (S.x 14))), (2, .int 1), (3, .int al), (4, .int vv), (5, .int bs), (6, .int mg), (7, .int mo), (8, .int (nI m))]) hx hb dL_hangs_170 hl (by decide) rfl (fun ls hl => ?_)
                        refine lv_iload hx hb dL_hangs_172 (lv_at hl 0 rfl) ?_
                        refine lv_sipush (v := (-999)) hx hb dL_hangs_174 (by decide) ?_
                        refine lv_icmp_ne (tgt := 184) hx hb dL_hangs_177 (by decide) (fun h => absurd (by decide) h) (fun _ => ?_)
                        refine lv_iconst (v := 1) hx hb dL_hangs_180 (by decide) ?_
                        refine lv_goto (tgt := 185) hx hb dL_hangs_181 (by decide) ?_
                        refine lv_iload hx hb dL_hangs_185 (lv_at hl 9 rfl) ?_
                        refine lv_iconst (v := 2) hx hb dL_hangs_187 (by decide) ?_
                        refine ro_irem (z := nI (m % 2)) hx hb (by decide) (nI_rem (a := m) (b := 2) (by omega) (by decide)) dL_hangs_188 ?_
                        refine lv_iconst (v := 1) hx hb dL_hangs_189 (by decide) ?_
                        refine ro_iadd (z := nI (m % 2 + 1)) hx hb (nI_add (m % 2) 1) dL_hangs_190 ?_
                        refine lv_iload_n hx hb dL_hangs_191 rfl (lv_at hl 2 rfl) ?_
                        refine lv_icmp_le (tgt := 199) hx hb dL_hangs_192 (by decide) (fun c_192 => ?_) (fun c_192 => ?_)
                        · have c_192 := nle_t (a := m % 2 + 1) (b := S.x 14) (by omega) (by omega) c_192
                          omega
                        · have c_192 := nle_f (a := m % 2 + 1) (b := S.x 14) (by omega) (by omega) c_192
                          refine lv_iconst (v := 1) hx hb dL_hangs_195 (by decide) ?_
                          refine lv_goto (tgt := 200) hx hb dL_hangs_196 (by decide) ?_
                          refine lv_icmp_ne (tgt := 269) hx hb dL_hangs_200 (by decide) (fun h => absurd (by decide) h) (fun _ => ?_)
                          refine lv_iload hx hb dL_hangs_203 (lv_at hl 0 rfl) ?_
                          refine lv_iload_n hx hb dL_hangs_205 rfl (lv_at hl 4 rfl) ?_
                          refine lv_icmp_gt (tgt := 269) hx hb dL_hangs_206 (by decide) (fun c_206 => ?_) (fun c_206 => ?_)
                          · exact absurd c_206 (nlt_of (by rw [hal9, i999]; omega))
                          · refine lv_iload hx hb dL_hangs_209 (lv_at hl 0 rfl) ?_
                            refine lv_sipush (v := (-999)) hx hb dL_hangs_211 (by decide) ?_
                            refine lv_icmp_eq (tgt := 233) hx hb dL_hangs_214 (by decide) (fun _ => ?_) (fun h => absurd (by decide) h)
                            have j265 : ∀ (H : Heap) (locs : List Loc) (ls : Array Slot), va_P D vwCl (OW G q K S C) H → va_D A (OW G q K S C) → va_S A s9.heap H locs → lv_has ls 15 [(9, .int (-999)), (0, .ref q), (1, .int (nI (S.x 14))), (2, .int 1), (3, .int al), (4, .int vv), (5, .int bs), (6, .int mg), (7, .int mo), (8, .int (nI m))] → W pr l e (rmG 9 2 12) s9 m9 (List.toArray [.ref q]) below meth c9 H locs 2 12 (MQ below (va_Qi (fun (r : Int32) (_ : Unit) => r = 1) (fun u9 t9 => WB D ((fun (_ : Unit) => OW G q K S C) u9) t9) A) (List.toArray [.ref q]) s9 2 12 A) (F0 m9 265 ls []) := by
                              intro H locs ls hP hD hS hl
                              refine lv_iconst (v := 1) hx hb dL_hangs_265 (by decide) ?_
                              refine lv_goto (tgt := 270) hx hb dL_hangs_266 (by decide) ?_
                              refine lv_istore_n (lv' := [(2, .int 1), (9, .int (-999)), (0, .ref q), (1, .int (nI (S.x 14))), (3, .int al), (4, .int vv), (5, .int bs), (6, .int mg), (7, .int mo), (8, .int (nI m))]) hx hb dL_hangs_270 rfl hl (by decide) rfl (fun ls hl => ?_)
                              refine lv_iload hx hb dL_hangs_271 (lv_at hl 1 rfl) ?_
                              refine lv_iload hx hb dL_hangs_273 (lv_at hl 8 rfl) ?_
                              refine lv_icmp_le (tgt := 283) hx hb dL_hangs_275 (by decide) (fun c_275 => ?_) (fun c_275 => ?_)
                              · refine lv_iload hx hb dL_hangs_283 (lv_at hl 8 rfl) ?_
                                refine lv_istore (lv' := [(7, .int mo), (2, .int 1), (9, .int (-999)), (0, .ref q), (1, .int (nI (S.x 14))), (3, .int al), (4, .int vv), (5, .int bs), (6, .int mg), (8, .int (nI m))]) hx hb dL_hangs_285 hl (by decide) rfl (fun ls hl => ?_)
                                refine lv_iinc (v := nI (m + 1)) (lv' := [(8, .int (nI (m + 1))), (7, .int mo), (2, .int 1), (9, .int (-999)), (0, .ref q), (1, .int (nI (S.x 14))), (3, .int al), (4, .int vv), (5, .int bs), (6, .int mg)]) hx hb dL_hangs_287 hl (k := 9) rfl (nI_add m 1) (by decide) rfl (fun ls hl => ?_)
                                refine lv_goto (tgt := 154) hx hb dL_hangs_290 (by decide) ?_
                                exact ih154 (m + 1) mo (by omega) (bm_t hmo hit (by rw [hit9]; exact c_275)) (by omega) _ _ _ hP hD hS (lv_sub hl [4, 5, 2, 6, 7, 8, 9, 1, 0] rfl)
                              · refine lv_iload hx hb dL_hangs_278 (lv_at hl 1 rfl) ?_
                                refine lv_goto (tgt := 285) hx hb dL_hangs_280 (by decide) ?_
                                refine lv_istore (lv' := [(7, .int (-999)), (2, .int 1), (9, .int (-999)), (0, .ref q), (1, .int (nI (S.x 14))), (3, .int al), (4, .int vv), (5, .int bs), (6, .int mg), (8, .int (nI m))]) hx hb dL_hangs_285 hl (by decide) rfl (fun ls hl => ?_)
                                refine lv_iinc (v := nI (m + 1)) (lv' := [(8, .int (nI (m + 1))), (7, .int (-999)), (2, .int 1), (9, .int (-999)), (0, .ref q), (1, .int (nI (S.x 14))), (3, .int al), (4, .int vv), (5, .int bs), (6, .int mg)]) hx hb dL_hangs_287 hl (k := 9) rfl (nI_add m 1) (by decide) rfl (fun ls hl => ?_)
                                refine lv_goto (tgt := 154) hx hb dL_hangs_290 (by decide) ?_
                                exact ih154 (m + 1) (-999) (by omega) (by have h9 := bm_f hmo hit (by rw [hit9]; exact c_275); rw [hit9] at h9; exact h9) (by omega) _ _ _ hP hD hS (lv_sub hl [4, 5, 2, 6, 7, 8, 9, 1, 0] rfl)
                            refine lv_iload hx hb dL_hangs_233 (lv_at hl 9 rfl) ?_
                            refine lv_iload hx hb dL_hangs_235 (lv_at hl 6 rfl) ?_
                            refine lv_icmp_eq (tgt := 265) hx hb dL_hangs_237 (by decide) (fun c_237 => ?_) (fun c_237 => ?_)
                            · exact j265  _ _ _ hP hD hS (lv_sub hl [0, 1, 2, 3, 4, 5, 6, 7, 8, 9] rfl)
                            · refine lv_iload hx hb dL_hangs_240 (lv_at hl 0 rfl) ?_
                              refine lv_iload hx hb dL_hangs_242 (lv_at hl 5 rfl) ?_
                              refine lv_icmp_gt (tgt := 261) hx hb dL_hangs_244 (by decide) (fun c_244 => ?_) (fun c_244 => ?_)
                              · exact absurd c_244 (nlt_of (by rw [← hit9]; exact hle))
                              · refine lv_iload hx hb dL_hangs_247 (lv_at hl 9 rfl) ?_
                                refine lv_iload hx hb dL_hangs_249 (lv_at hl 6 rfl) ?_
                                refine lv_icmp_gt (tgt := 265) hx hb dL_hangs_251 (by decide) (fun c_251 => ?_) (fun c_251 => ?_)
                                · exact j265  _ _ _ hP hD hS (lv_sub hl [0, 1, 2, 3, 4, 5, 6, 7, 8, 9] rfl)
                                · refine lv_iload hx hb dL_hangs_254 (lv_at hl 0 rfl) ?_
                                  refine lv_iload hx hb dL_hangs_256 (lv_at hl 5 rfl) ?_
                                  refine lv_icmp_lt (tgt := 265) hx hb dL_hangs_258 (by decide) (fun c_258 => ?_) (fun c_258 => ?_)
                                  · exact j265  _ _ _ hP hD hS (lv_sub hl [0, 1, 2, 3, 4, 5, 6, 7, 8, 9] rfl)
                                  · exact absurd (Int32.lt_iff_toInt_lt.mpr (hltb c_237 c_251)) (by rw [hit9]; exact c_258)
                exact lp154 (4 - 0 + 1) 0 (-999) (Nat.zero_le _) rfl (Nat.lt_succ_self _) _ _ _ hP hD hS (lv_sub hl [5, 6, 7, 8, 4, 3, 2, 1, 0] rfl)
              · have c_80 := nle_f (a := S.x 14) (b := i) (by omega) (by omega) c_80
                refine lv_iload_n hx hb dL_hangs_83 rfl (lv_at hl 2 rfl) ?_
                refine lv_if_eq (tgt := 128) hx hb dL_hangs_84 (by decide) (fun h => absurd h (by decide)) (fun _ => ?_)
                refine lv_iload_n hx hb dL_hangs_87 rfl (lv_at hl 3 rfl) ?_
                refine lv_aload_n hx hb dL_hangs_88 rfl (lv_at hl 0 rfl) ?_
                refine lv_iload hx hb dL_hangs_89 (lv_at hl 4 rfl) ?_
                refine oW (As := [.ref q, .int (nI i)]) (rest := [.int al]) C9 (mL_pile_ok l D G q K S C i (by omega) w1) (fun _ => OW_fst _ _ _ _ _ _ _) hS hP hD (List.range' 0 57) (OW_get _ _ _ _ _) (by decide) (fun _ => OW_put _ _ _ _ _ _ _ _ _) yw_L_pile kw_12_23 kw_13_0 ⟨Nat.le_of_ble_eq_true rfl, Nat.le_of_ble_eq_true rfl⟩ hl.1 (Nat.le_of_ble_eq_true rfl) dL_hangs_91 rfl rfl ⟨Nat.le_of_ble_eq_true rfl, Nat.le_of_ble_eq_true rfl⟩ (fun r91 u91 H locs hp91 hP hD hS => ?_)
                refine ro_top (z := S.p (S.x 13 + i)) hx hp91 ?_
                refine lv_iadd hx hb dL_hangs_94 ?_
                refine lv_istore_n (lv' := [(3, .int (al + (S.p (S.x 13 + i)))), (0, .ref q), (1, .int (nI (S.x 14))), (2, .int 1), (4, .int (nI i))]) hx hb dL_hangs_95 rfl hl (by decide) rfl (fun ls hl => ?_)
                refine lv_aload_n hx hb dL_hangs_96 rfl (lv_at hl 1 rfl) ?_
                refine lv_iload hx hb dL_hangs_97 (lv_at hl 4 rfl) ?_
                refine oW (As := [.ref q, .int (nI i)]) (rest := []) C9 (mL_pile_ok l D G q K S C i (by omega) w1) (fun _ => OW_fst _ _ _ _ _ _ _) hS hP hD (List.range' 0 57) (OW_get _ _ _ _ _) (by decide) (fun _ => OW_put _ _ _ _ _ _ _ _ _) yw_L_pile kw_12_23 kw_13_0 ⟨Nat.le_of_ble_eq_true rfl, Nat.le_of_ble_eq_true rfl⟩ hl.1 (Nat.le_of_ble_eq_true rfl) dL_hangs_99 rfl rfl ⟨Nat.le_of_ble_eq_true rfl, Nat.le_of_ble_eq_true rfl⟩ (fun r99 u99 H locs hp99 hP hD hS => ?_)
                refine ro_top (z := S.p (S.x 13 + i)) hx hp99 ?_
                refine lv_if_le (tgt := 120) hx hb dL_hangs_102 (by decide) (fun c_102 => ?_) (fun c_102 => ?_)
                · exact absurd c_102 (pos_nle (w7 (S.x 13 + i) (by omega) (by omega)).1)
                · refine lv_aload_n hx hb dL_hangs_105 rfl (lv_at hl 1 rfl) ?_
                  refine lv_iload hx hb dL_hangs_106 (lv_at hl 4 rfl) ?_
                  refine oW (As := [.ref q, .int (nI i)]) (rest := []) C9 (mL_pile_ok l D G q K S C i (by omega) w1) (fun _ => OW_fst _ _ _ _ _ _ _) hS hP hD (List.range' 0 57) (OW_get _ _ _ _ _) (by decide) (fun _ => OW_put _ _ _ _ _ _ _ _ _) yw_L_pile kw_12_23 kw_13_0 ⟨Nat.le_of_ble_eq_true rfl, Nat.le_of_ble_eq_true rfl⟩ hl.1 (Nat.le_of_ble_eq_true rfl) dL_hangs_108 rfl rfl ⟨Nat.le_of_ble_eq_true rfl, Nat.le_of_ble_eq_true rfl⟩ (fun r108 u108 H locs hp108 hP hD hS => ?_)
                  refine ro_top (z := S.p (S.x 13 + i)) hx hp108 ?_
                  refine lv_bipush (v := 21) hx hb dL_hangs_111 (by decide) ?_
                  refine lv_icmp_ge (tgt := 120) hx hb dL_hangs_113 (by decide) (fun c_113 => ?_) (fun c_113 => ?_)
                  · exact absurd c_113 (le20_n21 (w7 (S.x 13 + i) (by omega) (by omega)).2)
                  · refine lv_iconst (v := 1) hx hb dL_hangs_116 (by decide) ?_
                    refine lv_goto (tgt := 121) hx hb dL_hangs_117 (by decide) ?_
                    refine lv_istore_n (lv' := [(2, .int 1), (3, .int (al + (S.p (S.x 13 + i)))), (0, .ref q), (1, .int (nI (S.x 14))), (4, .int (nI i))]) hx hb dL_hangs_121 rfl hl (by decide) rfl (fun ls hl => ?_)
                    refine lv_iinc (v := nI (i + 1)) (lv' := [(4, .int (nI (i + 1))), (2, .int 1), (3, .int (al + (S.p (S.x 13 + i)))), (0, .ref q), (1, .int (nI (S.x 14)))]) hx hb dL_hangs_122 hl (k := 4) rfl (nI_add i 1) (by decide) rfl (fun ls hl => ?_)
                    refine lv_goto (tgt := 77) hx hb dL_hangs_125 (by decide) ?_
                    exact ih77 (i + 1) (al + S.p (S.x 13 + i)) (by omega) (sgI_step w7 (by omega) (by omega) hal) (by omega) _ _ _ hP hD hS (lv_sub hl [3, 4, 1, 2, 0] rfl)
          exact lp77 (S.x 14 - 0 + 1) 0 0 (Nat.zero_le _) rfl (Nat.lt_succ_self _) _ _ _ hP hD hS (lv_sub hl [3, 4, 2, 1, 0] rfl)
    refine lv_aload_n hx hb dL_hangs_15 rfl (lv_at hl 1 rfl) ?_
    refine oV (As := []) (rest := []) (q0 := 0) (ci := 7) (T := TX7) (N := 5) C9 (o_turn l D G q K S C) (fun _ => OW_fst _ _ _ _ _ _ _) hS hP hD (List.range' 0 57) (OW_get _ _ _ _ _) (by decide) (fun _ => OW_put _ _ _ _ _ _ _ _ _) rfl rfl ys_X7_turn kw_12_6 kw_12_7 kw_12_8 ⟨Nat.le_of_ble_eq_true rfl, Nat.le_of_ble_eq_true rfl⟩ hl.1 (Nat.le_of_ble_eq_true rfl) dL_hangs_16 rfl rfl ⟨Nat.le_of_ble_eq_true rfl, Nat.le_of_ble_eq_true rfl⟩ (fun r16 u16 H locs hp16 hP hD hS => ?_)
    refine ro_top (z := nI (S.x 15)) hx hp16 ?_
    refine lv_if_eq (tgt := 30) hx hb dL_hangs_19 (by decide) (fun c_19 => ?_) (fun c_19 => ?_)
    · have c_19 := neq_t (a := S.x 15) (b := 0) (by omega) (by omega) c_19
      exact j30  _ _ _ hP hD hS (lv_sub hl [1, 0] rfl)
    · have c_19 := neq_f (a := S.x 15) (b := 0) (by omega) (by omega) c_19
      refine lv_aload_n hx hb dL_hangs_22 rfl (lv_at hl 1 rfl) ?_
      refine oV (As := []) (rest := []) (q0 := 0) (ci := 7) (T := TX7) (N := 5) C9 (o_turn l D G q K S C) (fun _ => OW_fst _ _ _ _ _ _ _) hS hP hD (List.range' 0 57) (OW_get _ _ _ _ _) (by decide) (fun _ => OW_put _ _ _ _ _ _ _ _ _) rfl rfl ys_X7_turn kw_12_6 kw_12_7 kw_12_8 ⟨Nat.le_of_ble_eq_true rfl, Nat.le_of_ble_eq_true rfl⟩ hl.1 (Nat.le_of_ble_eq_true rfl) dL_hangs_23 rfl rfl ⟨Nat.le_of_ble_eq_true rfl, Nat.le_of_ble_eq_true rfl⟩ (fun r23 u23 H locs hp23 hP hD hS => ?_)
      refine ro_top (z := nI (S.x 15)) hx hp23 ?_
      refine lv_iconst (v := 1) hx hb dL_hangs_26 (by decide) ?_
      refine lv_icmp_ne (tgt := 70) hx hb dL_hangs_27 (by decide) (fun c_27 => ?_) (fun c_27 => ?_)
      · have c_27 := neq_f (a := S.x 15) (b := 1) (by omega) (by omega) c_27
        omega
      · have c_27 := neq_t (a := S.x 15) (b := 1) (by omega) (by omega) c_27
        exact j30  _ _ _ hP hD hS (lv_sub hl [1, 0] rfl)
