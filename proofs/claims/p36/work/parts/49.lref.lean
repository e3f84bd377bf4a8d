theorem ys_L_refuses : YS yL_refuses cL_refuses 5 (some .boolean) 2 := ⟨kw_20_14, kw_5_1, by decide, by decide, by decide⟩
theorem i0_nlt {n : Nat} (h : n < 2 ^ 31) : ¬ nI n < 0 := fun h9 => by
  rw [Int32.lt_iff_toInt_lt, nI_toInt h] at h9
  have e0 : (0 : Int32).toInt = 0 := rfl
  omega
set_option maxHeartbeats 4000000 in
set_option maxRecDepth 100000 in
theorem mL_refuses (l : Launch) (D : va_G) (G : u_G) (hlt : l.stackTraces = false) (q : Nat) (K : AD) (S : AS) (C : SC) (y : Nat) (hy : y < 100000) (hA0 : AOK S) (hC0 : COK S C) : MtI l D G yL_refuses cL_refuses 5 .boolean 9 27 162 [.ref q, .int (nI y)] (OW G q K S C) (fun (r : Int32) (u : SC) => r = 1 ∧ COK S u) (fun (u : SC) => OW G q K S u) := by
  refine MtI.of (by decide) (Nat.le_of_ble_eq_true rfl) ?_
  intro pr e s9 m9 below meth c9 A ls C9 hP hD hl
  obtain ⟨hx, hb, hml, hown, hts, hr, hlocks, hA, hAm⟩ := id C9
  have hS : va_S A s9.heap s9.heap [] := va_S.rf
  have hl : lv_has ls 5 [(0, .ref q), (1, .int (nI y))] := hl
  obtain ⟨⟨⟨w1, w2, w3, ⟨w4a, w4⟩, w5⟩, ⟨w6, w7⟩, w8, w9, w10⟩, hog, hcg, hSVD, hFR⟩ := id hA0
  obtain ⟨hSV, hL6, ht6⟩ := id hC0
  have j15 : ∀ (no : Int32) (_ : NoI no) (H : Heap) (locs : List Loc) (ls : Array Slot), va_P D vwCl (OW G q K S C) H → va_D A (OW G q K S C) → va_S A s9.heap H locs → lv_has ls 5 [(0, .ref q), (1, .int (nI y))] → W pr l e (rmG 9 27 162) s9 m9 (List.toArray [.ref q, .int (nI y)]) below meth c9 H locs 0 0 (MQ below (va_Qi (fun (r : Int32) (u : SC) => r = 1 ∧ COK S u) (fun u9 t9 => WB D ((fun (u : SC) => OW G q K S u) u9) t9) A) (List.toArray [.ref q, .int (nI y)]) s9 27 162 A) (F0 m9 15 ls [.int no]) := by
    intro no hno H locs ls hP hD hS hl
    refine lv_istore_n (lv' := [(2, .int no), (0, .ref q), (1, .int (nI y))]) hx hb dL_refuses_15 rfl hl (by decide) rfl (fun ls hl => ?_)
    refine lv_aload_n hx hb dL_refuses_16 rfl (lv_at hl 1 rfl) ?_
    refine oV (As := []) (rest := []) (q0 := 0) (ci := 7) (T := TX7) (N := 5) C9 (o_clearText l D G q K S C) (fun _ => OW_fst _ _ _ _ _ _ _) hS hP hD (List.range' 0 57) (OW_get _ _ _ _ _) (by decide) (fun _ => OW_put _ _ _ _ _ _ _ _ _) rfl rfl ys_X7_clearText kw_17_2 kw_17_3 kw_17_4 ⟨Nat.le_of_ble_eq_true rfl, Nat.le_of_ble_eq_true rfl⟩ hl.1 (Nat.le_of_ble_eq_true rfl) dL_refuses_17 rfl rfl ⟨Nat.le_of_ble_eq_true rfl, Nat.le_of_ble_eq_true rfl⟩ (fun r17 u17 H locs hp17 hP hD hS => ?_)
    refine ro_top (z := nI C.L) hx hp17 ?_
    refine lv_istore_n (lv' := [(3, .int (nI C.L)), (2, .int no), (0, .ref q), (1, .int (nI y))]) hx hb dL_refuses_20 rfl hl (by decide) rfl (fun ls hl => ?_)
    refine lv_iload_n hx hb dL_refuses_21 rfl (lv_at hl 0 rfl) ?_
    refine lv_if_lt (tgt := 369) hx hb dL_refuses_22 (by decide) (fun h9 => absurd h9 (i0_nlt (by omega))) (fun _ => ?_)
    refine lv_aload_n hx hb dL_refuses_25 rfl (lv_at hl 2 rfl) ?_
    refine oW (As := [.ref q]) (rest := []) C9 (mL_load_T1 l D G q K S (C.sv, 0, C.cnt, C.num, C.t, C.v, C.w, C.c) hlt (Nat.zero_le _) (fun j hj => absurd hj (Nat.not_lt_zero _)) (fun h => absurd h.2 (Nat.lt_irrefl 0))) (fun _ => OW_fst _ _ _ _ _ _ _) hS hP hD (List.range' 0 57) (OW_get _ _ _ _ _) (by decide) (fun _ => OW_put _ _ _ _ _ _ _ _ _) yw_L_load kw_17_16 kw_17_17 ⟨Nat.le_of_ble_eq_true rfl, Nat.le_of_ble_eq_true rfl⟩ hl.1 (Nat.le_of_ble_eq_true rfl) dL_refuses_26 rfl rfl ⟨Nat.le_of_ble_eq_true rfl, Nat.le_of_ble_eq_true rfl⟩ (fun r26 u26 H locs hp26 hP hD hS => ?_)
    have hP : va_P D vwCl (OW G q K S (C.sv, 0, 1, 0, C.t, C.v, C.w, C.c)) H := hP
    have hD : va_D A (OW G q K S (C.sv, 0, 1, 0, C.t, C.v, C.w, C.c)) := hD
    refine ro_top (z := (-2)) hx hp26 ?_
    refine lv_bipush (v := (-2)) hx hb dL_refuses_29 (by decide) ?_
    refine lv_icmp_ne (tgt := 369) hx hb dL_refuses_31 (by decide) (fun h => absurd (by decide) h) (fun _ => ?_)
    refine lv_aload_n hx hb dL_refuses_34 rfl (lv_at hl 2 rfl) ?_
    refine lv_iload_n hx hb dL_refuses_35 rfl (lv_at hl 1 rfl) ?_
    refine oW (As := [.ref q, .int no]) (rest := []) C9 (mL_play_T1 l D G q K S (C.sv, 0, 1, 0, C.t, C.v, C.w, C.c) hlt no hno.mv) (fun _ => OW_fst _ _ _ _ _ _ _) hS hP hD (List.range' 0 57) (OW_get _ _ _ _ _) (by decide) (fun _ => OW_put _ _ _ _ _ _ _ _ _) yw_L_play kw_18_14 kw_18_15 ⟨Nat.le_of_ble_eq_true rfl, Nat.le_of_ble_eq_true rfl⟩ hl.1 (Nat.le_of_ble_eq_true rfl) dL_refuses_36 rfl rfl ⟨Nat.le_of_ble_eq_true rfl, Nat.le_of_ble_eq_true rfl⟩ (fun r36 u36 H locs hp36 hP hD hS => ?_)
    refine ro_top (z := (-3)) hx hp36 ?_
    refine lv_bipush (v := (-3)) hx hb dL_refuses_39 (by decide) ?_
    refine lv_icmp_ne (tgt := 369) hx hb dL_refuses_41 (by decide) (fun h => absurd (by decide) h) (fun _ => ?_)
    refine lv_aload_n hx hb dL_refuses_44 rfl (lv_at hl 2 rfl) ?_
    refine lv_iconst (v := 0) hx hb dL_refuses_45 (by decide) ?_
    refine oW (As := [.ref q, .int 0]) (rest := []) C9 (mL_playBest_T1 l D G q K S (C.sv, 0, 1, 0, C.t, C.v, C.w, C.c) hlt 0 (Or.inl (by decide))) (fun _ => OW_fst _ _ _ _ _ _ _) hS hP hD (List.range' 0 57) (OW_get _ _ _ _ _) (by decide) (fun _ => OW_put _ _ _ _ _ _ _ _ _) yw_L_playBest kw_19_1 kw_19_2 ⟨Nat.le_of_ble_eq_true rfl, Nat.le_of_ble_eq_true rfl⟩ hl.1 (Nat.le_of_ble_eq_true rfl) dL_refuses_46 rfl rfl ⟨Nat.le_of_ble_eq_true rfl, Nat.le_of_ble_eq_true rfl⟩ (fun r46 u46 H locs hp46 hP hD hS => ?_)
    refine ro_top (z := (-2)) hx hp46 ?_
    refine lv_bipush (v := (-2)) hx hb dL_refuses_49 (by decide) ?_
    refine lv_icmp_ne (tgt := 369) hx hb dL_refuses_51 (by decide) (fun h => absurd (by decide) h) (fun _ => ?_)
    refine lv_aload_n hx hb dL_refuses_54 rfl (lv_at hl 2 rfl) ?_
    refine lv_bipush (v := 13) hx hb dL_refuses_55 (by decide) ?_
    refine lv_iload_n hx hb dL_refuses_57 rfl (lv_at hl 3 rfl) ?_
    refine ro_iadd (z := nI (13 + y)) hx hb (nI_add 13 y) dL_refuses_58 ?_
    refine oW (As := [.ref q, .int (nI (13 + y))]) (rest := []) C9 (mL_playBest_T1 l D G q K S (C.sv, 0, 1, 0, C.t, C.v, C.w, C.c) hlt (nI (13 + y)) (Or.inr (big_le 12 (by omega) (by omega)))) (fun _ => OW_fst _ _ _ _ _ _ _) hS hP hD (List.range' 0 57) (OW_get _ _ _ _ _) (by decide) (fun _ => OW_put _ _ _ _ _ _ _ _ _) yw_L_playBest kw_19_1 kw_19_2 ⟨Nat.le_of_ble_eq_true rfl, Nat.le_of_ble_eq_true rfl⟩ hl.1 (Nat.le_of_ble_eq_true rfl) dL_refuses_59 rfl rfl ⟨Nat.le_of_ble_eq_true rfl, Nat.le_of_ble_eq_true rfl⟩ (fun r59 u59 H locs hp59 hP hD hS => ?_)
    refine ro_top (z := (-2)) hx hp59 ?_
    refine lv_bipush (v := (-2)) hx hb dL_refuses_62 (by decide) ?_
    refine lv_icmp_ne (tgt := 369) hx hb dL_refuses_64 (by decide) (fun h => absurd (by decide) h) (fun _ => ?_)
    refine lv_aload_n hx hb dL_refuses_67 rfl (lv_at hl 2 rfl) ?_
    refine lv_aload_n hx hb dL_refuses_68 rfl (lv_at hl 2 rfl) ?_
    refine oV (As := []) (rest := [.ref q]) (q0 := 0) (ci := 7) (T := TX7) (N := 5) C9 (o_left l D G q K S (C.sv, 0, 1, 0, C.t, C.v, C.w, C.c)) (fun _ => OW_fst _ _ _ _ _ _ _) hS hP hD (List.range' 0 57) (OW_get _ _ _ _ _) (by decide) (fun _ => OW_put _ _ _ _ _ _ _ _ _) rfl rfl ys_X7_left kw_12_1 kw_12_2 kw_12_3 ⟨Nat.le_of_ble_eq_true rfl, Nat.le_of_ble_eq_true rfl⟩ hl.1 (Nat.le_of_ble_eq_true rfl) dL_refuses_69 rfl rfl ⟨Nat.le_of_ble_eq_true rfl, Nat.le_of_ble_eq_true rfl⟩ (fun r69 u69 H locs hp69 hP hD hS => ?_)
    refine ro_top (z := nI (S.x 14)) hx hp69 ?_
    refine lv_iload_n hx hb dL_refuses_72 rfl (lv_at hl 3 rfl) ?_
    refine ro_iadd (z := nI (S.x 14 + y)) hx hb (nI_add (S.x 14) y) dL_refuses_73 ?_
    refine oW (As := [.ref q, .int (nI (S.x 14 + y))]) (rest := []) C9 (mL_pile_T1 l D G q K S (C.sv, 0, 1, 0, C.t, C.v, C.w, C.c) hlt (nI (S.x 14 + y)) (Or.inr (big_lt (S.x 14) (by omega) (by omega)))) (fun _ => OW_fst _ _ _ _ _ _ _) hS hP hD (List.range' 0 57) (OW_get _ _ _ _ _) (by decide) (fun _ => OW_put _ _ _ _ _ _ _ _ _) yw_L_pile kw_12_23 kw_13_0 ⟨Nat.le_of_ble_eq_true rfl, Nat.le_of_ble_eq_true rfl⟩ hl.1 (Nat.le_of_ble_eq_true rfl) dL_refuses_74 rfl rfl ⟨Nat.le_of_ble_eq_true rfl, Nat.le_of_ble_eq_true rfl⟩ (fun r74 u74 H locs hp74 hP hD hS => ?_)
    refine ro_top (z := (-2)) hx hp74 ?_
    refine lv_bipush (v := (-2)) hx hb dL_refuses_77 (by decide) ?_
    refine lv_icmp_ne (tgt := 369) hx hb dL_refuses_79 (by decide) (fun h => absurd (by decide) h) (fun _ => ?_)
    refine lv_aload_n hx hb dL_refuses_82 rfl (lv_at hl 2 rfl) ?_
    refine lv_iload_n hx hb dL_refuses_83 rfl (lv_at hl 1 rfl) ?_
    refine oW (As := [.ref q, .int no]) (rest := []) C9 (mL_coins_T1 l D G q K S (C.sv, 0, 1, 0, C.t, C.v, C.w, C.c) hlt no hno.le1) (fun _ => OW_fst _ _ _ _ _ _ _) hS hP hD (List.range' 0 57) (OW_get _ _ _ _ _) (by decide) (fun _ => OW_put _ _ _ _ _ _ _ _ _) yw_L_coins kw_12_11 kw_12_12 ⟨Nat.le_of_ble_eq_true rfl, Nat.le_of_ble_eq_true rfl⟩ hl.1 (Nat.le_of_ble_eq_true rfl) dL_refuses_84 rfl rfl ⟨Nat.le_of_ble_eq_true rfl, Nat.le_of_ble_eq_true rfl⟩ (fun r84 u84 H locs hp84 hP hD hS => ?_)
    refine ro_top (z := (-2)) hx hp84 ?_
    refine lv_bipush (v := (-2)) hx hb dL_refuses_87 (by decide) ?_
    refine lv_icmp_ne (tgt := 369) hx hb dL_refuses_89 (by decide) (fun h => absurd (by decide) h) (fun _ => ?_)
    refine lv_aload_n hx hb dL_refuses_92 rfl (lv_at hl 2 rfl) ?_
    refine lv_iload_n hx hb dL_refuses_93 rfl (lv_at hl 1 rfl) ?_
    refine oW (As := [.ref q, .int no]) (rest := []) C9 (mL_resultOf_T1 l D G q K S (C.sv, 0, 1, 0, C.t, C.v, C.w, C.c) hlt no hno.mv) (fun _ => OW_fst _ _ _ _ _ _ _) hS hP hD (List.range' 0 57) (OW_get _ _ _ _ _) (by decide) (fun _ => OW_put _ _ _ _ _ _ _ _ _) yw_L_resultOf kw_14_3 kw_14_4 ⟨Nat.le_of_ble_eq_true rfl, Nat.le_of_ble_eq_true rfl⟩ hl.1 (Nat.le_of_ble_eq_true rfl) dL_refuses_94 rfl rfl ⟨Nat.le_of_ble_eq_true rfl, Nat.le_of_ble_eq_true rfl⟩ (fun r94 u94 H locs hp94 hP hD hS => ?_)
    refine ro_top (z := (-1000)) hx hp94 ?_
    refine lv_sipush (v := (-1000)) hx hb dL_refuses_97 (by decide) ?_
    refine lv_icmp_ne (tgt := 369) hx hb dL_refuses_100 (by decide) (fun h => absurd (by decide) h) (fun _ => ?_)
    refine lv_aload_n hx hb dL_refuses_103 rfl (lv_at hl 2 rfl) ?_
    refine lv_iconst (v := (-1)) hx hb dL_refuses_104 (by decide) ?_
    refine lv_iload_n hx hb dL_refuses_105 rfl (lv_at hl 3 rfl) ?_
    refine lv_isub hx hb dL_refuses_106 ?_
    refine oW (As := [.ref q, .int ((-1) - (nI y))]) (rest := []) C9 (mL_line_T1 l D G q K S (C.sv, 0, 1, 0, C.t, C.v, C.w, C.c) hlt ((-1) - (nI y)) (lt0_nle (m1_neg hy))) (fun _ => OW_fst _ _ _ _ _ _ _) hS hP hD (List.range' 0 57) (OW_get _ _ _ _ _) (by decide) (fun _ => OW_put _ _ _ _ _ _ _ _ _) yw_L_line kw_14_11 kw_14_12 ⟨Nat.le_of_ble_eq_true rfl, Nat.le_of_ble_eq_true rfl⟩ hl.1 (Nat.le_of_ble_eq_true rfl) dL_refuses_107 rfl rfl ⟨Nat.le_of_ble_eq_true rfl, Nat.le_of_ble_eq_true rfl⟩ (fun r107 u107 H locs hp107 hP hD hS => ?_)
    refine ro_top (z := (-1000)) hx hp107 ?_
    refine lv_sipush (v := (-1000)) hx hb dL_refuses_110 (by decide) ?_
    refine lv_icmp_ne (tgt := 369) hx hb dL_refuses_113 (by decide) (fun h => absurd (by decide) h) (fun _ => ?_)
    refine lv_aload_n hx hb dL_refuses_116 rfl (lv_at hl 2 rfl) ?_
    refine lv_bipush (v := 13) hx hb dL_refuses_117 (by decide) ?_
    refine lv_iload_n hx hb dL_refuses_119 rfl (lv_at hl 3 rfl) ?_
    refine ro_iadd (z := nI (13 + y)) hx hb (nI_add 13 y) dL_refuses_120 ?_
    refine lv_iconst (v := 0) hx hb dL_refuses_121 (by decide) ?_
    refine lv_iconst (v := 1) hx hb dL_refuses_122 (by decide) ?_
    refine oW (As := [.ref q, .int (nI (13 + y)), .int 0, .int 1]) (rest := []) C9 (mL_search_T1 l D G q K S (C.sv, 0, 1, 0, C.t, C.v, C.w, C.c) hlt (nI (13 + y)) 0 1 (Or.inr (Or.inl (big_le 12 (by omega) (by omega))))) (fun _ => OW_fst _ _ _ _ _ _ _) hS hP hD (List.range' 0 57) (OW_get _ _ _ _ _) (by decide) (fun _ => OW_put _ _ _ _ _ _ _ _ _) yw_L_search kw_20_4 kw_20_5 ⟨Nat.le_of_ble_eq_true rfl, Nat.le_of_ble_eq_true rfl⟩ hl.1 (Nat.le_of_ble_eq_true rfl) dL_refuses_123 rfl rfl ⟨Nat.le_of_ble_eq_true rfl, Nat.le_of_ble_eq_true rfl⟩ (fun r123 u123 H locs hp123 hP hD hS => ?_)
    refine ro_top (z := (-1000)) hx hp123 ?_
    refine lv_sipush (v := (-1000)) hx hb dL_refuses_126 (by decide) ?_
    refine lv_icmp_ne (tgt := 369) hx hb dL_refuses_129 (by decide) (fun h => absurd (by decide) h) (fun _ => ?_)
    refine lv_aload_n hx hb dL_refuses_132 rfl (lv_at hl 2 rfl) ?_
    refine lv_iconst (v := (-1)) hx hb dL_refuses_133 (by decide) ?_
    refine lv_iload_n hx hb dL_refuses_134 rfl (lv_at hl 3 rfl) ?_
    refine lv_isub hx hb dL_refuses_135 ?_
    refine lv_iconst (v := 0) hx hb dL_refuses_136 (by decide) ?_
    refine lv_iconst (v := 1) hx hb dL_refuses_137 (by decide) ?_
    refine oW (As := [.ref q, .int ((-1) - (nI y)), .int 0, .int 1]) (rest := []) C9 (mL_search_T1 l D G q K S (C.sv, 0, 1, 0, C.t, C.v, C.w, C.c) hlt ((-1) - (nI y)) 0 1 (Or.inl (m1_neg hy))) (fun _ => OW_fst _ _ _ _ _ _ _) hS hP hD (List.range' 0 57) (OW_get _ _ _ _ _) (by decide) (fun _ => OW_put _ _ _ _ _ _ _ _ _) yw_L_search kw_20_4 kw_20_5 ⟨Nat.le_of_ble_eq_true rfl, Nat.le_of_ble_eq_true rfl⟩ hl.1 (Nat.le_of_ble_eq_true rfl) dL_refuses_138 rfl rfl ⟨Nat.le_of_ble_eq_true rfl, Nat.le_of_ble_eq_true rfl⟩ (fun r138 u138 H locs hp138 hP hD hS => ?_)
    refine ro_top (z := (-1000)) hx hp138 ?_
    refine lv_sipush (v := (-1000)) hx hb dL_refuses_141 (by decide) ?_
    refine lv_icmp_ne (tgt := 369) hx hb dL_refuses_144 (by decide) (fun h => absurd (by decide) h) (fun _ => ?_)
    refine lv_aload_n hx hb dL_refuses_147 rfl (lv_at hl 2 rfl) ?_
    refine lv_iconst (v := 1) hx hb dL_refuses_148 (by decide) ?_
    refine lv_sipush (v := (-241)) hx hb dL_refuses_149 (by decide) ?_
    refine lv_iload_n hx hb dL_refuses_152 rfl (lv_at hl 3 rfl) ?_
    refine lv_isub hx hb dL_refuses_153 ?_
    refine lv_iconst (v := 0) hx hb dL_refuses_154 (by decide) ?_
    refine oW (As := [.ref q, .int 1, .int ((-241) - (nI y)), .int 0]) (rest := []) C9 (mL_search_T1 l D G q K S (C.sv, 0, 1, 0, C.t, C.v, C.w, C.c) hlt 1 ((-241) - (nI y)) 0 (Or.inr (Or.inr (Or.inl (m241 hy))))) (fun _ => OW_fst _ _ _ _ _ _ _) hS hP hD (List.range' 0 57) (OW_get _ _ _ _ _) (by decide) (fun _ => OW_put _ _ _ _ _ _ _ _ _) yw_L_search kw_20_4 kw_20_5 ⟨Nat.le_of_ble_eq_true rfl, Nat.le_of_ble_eq_true rfl⟩ hl.1 (Nat.le_of_ble_eq_true rfl) dL_refuses_155 rfl rfl ⟨Nat.le_of_ble_eq_true rfl, Nat.le_of_ble_eq_true rfl⟩ (fun r155 u155 H locs hp155 hP hD hS => ?_)
    refine ro_top (z := (-1000)) hx hp155 ?_
    refine lv_sipush (v := (-1000)) hx hb dL_refuses_158 (by decide) ?_
    refine lv_icmp_ne (tgt := 369) hx hb dL_refuses_161 (by decide) (fun h => absurd (by decide) h) (fun _ => ?_)
    refine lv_aload_n hx hb dL_refuses_164 rfl (lv_at hl 2 rfl) ?_
    refine lv_iconst (v := 1) hx hb dL_refuses_165 (by decide) ?_
    refine lv_sipush (v := 241) hx hb dL_refuses_166 (by decide) ?_
    refine lv_iload_n hx hb dL_refuses_169 rfl (lv_at hl 3 rfl) ?_
    refine ro_iadd (z := nI (241 + y)) hx hb (nI_add 241 y) dL_refuses_170 ?_
    refine lv_sipush (v := 242) hx hb dL_refuses_171 (by decide) ?_
    refine oW (As := [.ref q, .int 1, .int (nI (241 + y)), .int 242]) (rest := []) C9 (mL_search_T1 l D G q K S (C.sv, 0, 1, 0, C.t, C.v, C.w, C.c) hlt 1 (nI (241 + y)) 242 (Or.inr (Or.inr (Or.inr (Or.inl (big_lt 241 (by omega) (by omega))))))) (fun _ => OW_fst _ _ _ _ _ _ _) hS hP hD (List.range' 0 57) (OW_get _ _ _ _ _) (by decide) (fun _ => OW_put _ _ _ _ _ _ _ _ _) yw_L_search kw_20_4 kw_20_5 ⟨Nat.le_of_ble_eq_true rfl, Nat.le_of_ble_eq_true rfl⟩ hl.1 (Nat.le_of_ble_eq_true rfl) dL_refuses_174 rfl rfl ⟨Nat.le_of_ble_eq_true rfl, Nat.le_of_ble_eq_true rfl⟩ (fun r174 u174 H locs hp174 hP hD hS => ?_)
    refine ro_top (z := (-1000)) hx hp174 ?_
    refine lv_sipush (v := (-1000)) hx hb dL_refuses_177 (by decide) ?_
    refine lv_icmp_ne (tgt := 369) hx hb dL_refuses_180 (by decide) (fun h => absurd (by decide) h) (fun _ => ?_)
    refine lv_aload_n hx hb dL_refuses_183 rfl (lv_at hl 2 rfl) ?_
    refine lv_iconst (v := 1) hx hb dL_refuses_184 (by decide) ?_
    refine lv_iconst (v := 5) hx hb dL_refuses_185 (by decide) ?_
    refine lv_iconst (v := 5) hx hb dL_refuses_186 (by decide) ?_
    refine oW (As := [.ref q, .int 1, .int 5, .int 5]) (rest := []) C9 (mL_search_T1 l D G q K S (C.sv, 0, 1, 0, C.t, C.v, C.w, C.c) hlt 1 5 5 (Or.inr (Or.inr (Or.inr (Or.inr (Or.inl (by decide))))))) (fun _ => OW_fst _ _ _ _ _ _ _) hS hP hD (List.range' 0 57) (OW_get _ _ _ _ _) (by decide) (fun _ => OW_put _ _ _ _ _ _ _ _ _) yw_L_search kw_20_4 kw_20_5 ⟨Nat.le_of_ble_eq_true rfl, Nat.le_of_ble_eq_true rfl⟩ hl.1 (Nat.le_of_ble_eq_true rfl) dL_refuses_187 rfl rfl ⟨Nat.le_of_ble_eq_true rfl, Nat.le_of_ble_eq_true rfl⟩ (fun r187 u187 H locs hp187 hP hD hS => ?_)
    refine ro_top (z := (-1000)) hx hp187 ?_
    refine lv_sipush (v := (-1000)) hx hb dL_refuses_190 (by decide) ?_
    refine lv_icmp_ne (tgt := 369) hx hb dL_refuses_193 (by decide) (fun h => absurd (by decide) h) (fun _ => ?_)
    refine lv_aload_n hx hb dL_refuses_196 rfl (lv_at hl 2 rfl) ?_
    refine lv_iconst (v := 1) hx hb dL_refuses_197 (by decide) ?_
    refine lv_iconst (v := 0) hx hb dL_refuses_198 (by decide) ?_
    refine lv_sipush (v := 242) hx hb dL_refuses_199 (by decide) ?_
    refine lv_iload_n hx hb dL_refuses_202 rfl (lv_at hl 3 rfl) ?_
    refine ro_iadd (z := nI (242 + y)) hx hb (nI_add 242 y) dL_refuses_203 ?_
    refine oW (As := [.ref q, .int 1, .int 0, .int (nI (242 + y))]) (rest := []) C9 (mL_search_T1 l D G q K S (C.sv, 0, 1, 0, C.t, C.v, C.w, C.c) hlt 1 0 (nI (242 + y)) (Or.inr (Or.inr (Or.inr (Or.inr (Or.inr (big_le 241 (by omega) (by omega)))))))) (fun _ => OW_fst _ _ _ _ _ _ _) hS hP hD (List.range' 0 57) (OW_get _ _ _ _ _) (by decide) (fun _ => OW_put _ _ _ _ _ _ _ _ _) yw_L_search kw_20_4 kw_20_5 ⟨Nat.le_of_ble_eq_true rfl, Nat.le_of_ble_eq_true rfl⟩ hl.1 (Nat.le_of_ble_eq_true rfl) dL_refuses_204 rfl rfl ⟨Nat.le_of_ble_eq_true rfl, Nat.le_of_ble_eq_true rfl⟩ (fun r204 u204 H locs hp204 hP hD hS => ?_)
    refine ro_top (z := (-1000)) hx hp204 ?_
    refine lv_sipush (v := (-1000)) hx hb dL_refuses_207 (by decide) ?_
    refine lv_icmp_ne (tgt := 369) hx hb dL_refuses_210 (by decide) (fun h => absurd (by decide) h) (fun _ => ?_)
    refine lv_aload_n hx hb dL_refuses_213 rfl (lv_at hl 2 rfl) ?_
    refine lv_bipush (v := 12) hx hb dL_refuses_214 (by decide) ?_
    refine lv_iload_n hx hb dL_refuses_216 rfl (lv_at hl 3 rfl) ?_
    refine ro_iadd (z := nI (12 + y)) hx hb (nI_add 12 y) dL_refuses_217 ?_
    refine lv_iconst (v := 1) hx hb dL_refuses_218 (by decide) ?_
    refine oW (As := [.ref q, .int (nI (12 + y)), .int 1]) (rest := []) C9 (mL_entryKind_T1 l D G q K S (C.sv, 0, 1, 0, C.t, C.v, C.w, C.c) hlt (nI (12 + y)) 1 (fun h => h.2.1 (le_big 12 (by omega) (by omega)))) (fun _ => OW_fst _ _ _ _ _ _ _) hS hP hD (List.range' 0 57) (OW_get _ _ _ _ _) (by decide) (fun _ => OW_put _ _ _ _ _ _ _ _ _) yw_L_entryKind kw_14_20 kw_14_21 ⟨Nat.le_of_ble_eq_true rfl, Nat.le_of_ble_eq_true rfl⟩ hl.1 (Nat.le_of_ble_eq_true rfl) dL_refuses_219 rfl rfl ⟨Nat.le_of_ble_eq_true rfl, Nat.le_of_ble_eq_true rfl⟩ (fun r219 u219 H locs hp219 hP hD hS => ?_)
    refine ro_top (z := (-2)) hx hp219 ?_
    refine lv_bipush (v := (-2)) hx hb dL_refuses_222 (by decide) ?_
    refine lv_icmp_ne (tgt := 369) hx hb dL_refuses_224 (by decide) (fun h => absurd (by decide) h) (fun _ => ?_)
    refine lv_aload_n hx hb dL_refuses_227 rfl (lv_at hl 2 rfl) ?_
    refine lv_iconst (v := 0) hx hb dL_refuses_228 (by decide) ?_
    refine lv_bipush (v := 13) hx hb dL_refuses_229 (by decide) ?_
    refine lv_iload_n hx hb dL_refuses_231 rfl (lv_at hl 3 rfl) ?_
    refine ro_iadd (z := nI (13 + y)) hx hb (nI_add 13 y) dL_refuses_232 ?_
    refine oW (As := [.ref q, .int 0, .int (nI (13 + y))]) (rest := []) C9 (mL_entryKind_T1 l D G q K S (C.sv, 0, 1, 0, C.t, C.v, C.w, C.c) hlt 0 (nI (13 + y)) (fun h => h.2.2.2 (lt_big 12 (by omega) (by omega)))) (fun _ => OW_fst _ _ _ _ _ _ _) hS hP hD (List.range' 0 57) (OW_get _ _ _ _ _) (by decide) (fun _ => OW_put _ _ _ _ _ _ _ _ _) yw_L_entryKind kw_14_20 kw_14_21 ⟨Nat.le_of_ble_eq_true rfl, Nat.le_of_ble_eq_true rfl⟩ hl.1 (Nat.le_of_ble_eq_true rfl) dL_refuses_233 rfl rfl ⟨Nat.le_of_ble_eq_true rfl, Nat.le_of_ble_eq_true rfl⟩ (fun r233 u233 H locs hp233 hP hD hS => ?_)
    refine ro_top (z := (-2)) hx hp233 ?_
    refine lv_bipush (v := (-2)) hx hb dL_refuses_236 (by decide) ?_
    refine lv_icmp_ne (tgt := 369) hx hb dL_refuses_238 (by decide) (fun h => absurd (by decide) h) (fun _ => ?_)
    refine lv_aload_n hx hb dL_refuses_241 rfl (lv_at hl 2 rfl) ?_
    refine lv_iconst (v := (-1)) hx hb dL_refuses_242 (by decide) ?_
    refine lv_iload_n hx hb dL_refuses_243 rfl (lv_at hl 3 rfl) ?_
    refine lv_isub hx hb dL_refuses_244 ?_
    refine lv_iconst (v := 1) hx hb dL_refuses_245 (by decide) ?_
    refine oW (As := [.ref q, .int ((-1) - (nI y)), .int 1]) (rest := []) C9 (mL_entryValue_T1 l D G q K S (C.sv, 0, 1, 0, C.t, C.v, C.w, C.c) hlt ((-1) - (nI y)) 1 (fun h => h.1 (m1_neg hy))) (fun _ => OW_fst _ _ _ _ _ _ _) hS hP hD (List.range' 0 57) (OW_get _ _ _ _ _) (by decide) (fun _ => OW_put _ _ _ _ _ _ _ _ _) yw_L_entryValue kw_15_5 kw_15_6 ⟨Nat.le_of_ble_eq_true rfl, Nat.le_of_ble_eq_true rfl⟩ hl.1 (Nat.le_of_ble_eq_true rfl) dL_refuses_246 rfl rfl ⟨Nat.le_of_ble_eq_true rfl, Nat.le_of_ble_eq_true rfl⟩ (fun r246 u246 H locs hp246 hP hD hS => ?_)
    refine ro_top (z := (-1000)) hx hp246 ?_
    refine lv_sipush (v := (-1000)) hx hb dL_refuses_249 (by decide) ?_
    refine lv_icmp_ne (tgt := 369) hx hb dL_refuses_252 (by decide) (fun h => absurd (by decide) h) (fun _ => ?_)
    refine lv_aload_n hx hb dL_refuses_255 rfl (lv_at hl 2 rfl) ?_
    refine lv_iconst (v := 0) hx hb dL_refuses_256 (by decide) ?_
    refine lv_iconst (v := 0) hx hb dL_refuses_257 (by decide) ?_
    refine oW (As := [.ref q, .int 0, .int 0]) (rest := []) C9 (mL_entryValue_T1 l D G q K S (C.sv, 0, 1, 0, C.t, C.v, C.w, C.c) hlt 0 0 (fun h => h.2.2.1 (by decide))) (fun _ => OW_fst _ _ _ _ _ _ _) hS hP hD (List.range' 0 57) (OW_get _ _ _ _ _) (by decide) (fun _ => OW_put _ _ _ _ _ _ _ _ _) yw_L_entryValue kw_15_5 kw_15_6 ⟨Nat.le_of_ble_eq_true rfl, Nat.le_of_ble_eq_true rfl⟩ hl.1 (Nat.le_of_ble_eq_true rfl) dL_refuses_258 rfl rfl ⟨Nat.le_of_ble_eq_true rfl, Nat.le_of_ble_eq_true rfl⟩ (fun r258 u258 H locs hp258 hP hD hS => ?_)
    refine ro_top (z := (-1000)) hx hp258 ?_
    refine lv_sipush (v := (-1000)) hx hb dL_refuses_261 (by decide) ?_
    refine lv_icmp_ne (tgt := 369) hx hb dL_refuses_264 (by decide) (fun h => absurd (by decide) h) (fun _ => ?_)
    refine lv_aload_n hx hb dL_refuses_267 rfl (lv_at hl 2 rfl) ?_
    refine lv_bipush (v := 24) hx hb dL_refuses_268 (by decide) ?_
    refine lv_iload_n hx hb dL_refuses_270 rfl (lv_at hl 3 rfl) ?_
    refine ro_iadd (z := nI (24 + y)) hx hb (nI_add 24 y) dL_refuses_271 ?_
    refine oW (As := [.ref q, .int (nI (24 + y))]) (rest := []) C9 (mL_setOrder_T1 l D G q K S (C.sv, 0, 1, 0, C.t, C.v, C.w, C.c) hlt (nI (24 + y)) (fun h => h.2 (le_big 24 (by omega) (by omega)))) (fun _ => OW_fst _ _ _ _ _ _ _) hS hP hD (List.range' 0 57) (OW_get _ _ _ _ _) (by decide) (fun _ => OW_put _ _ _ _ _ _ _ _ _) yw_L_setOrder kw_19_8 kw_19_9 ⟨Nat.le_of_ble_eq_true rfl, Nat.le_of_ble_eq_true rfl⟩ hl.1 (Nat.le_of_ble_eq_true rfl) dL_refuses_272 rfl rfl ⟨Nat.le_of_ble_eq_true rfl, Nat.le_of_ble_eq_true rfl⟩ (fun r272 u272 H locs hp272 hP hD hS => ?_)
    refine ro_top (z := (-2)) hx hp272 ?_
    refine lv_bipush (v := (-2)) hx hb dL_refuses_275 (by decide) ?_
    refine lv_icmp_ne (tgt := 369) hx hb dL_refuses_277 (by decide) (fun h => absurd (by decide) h) (fun _ => ?_)
    refine lv_aload_n hx hb dL_refuses_280 rfl (lv_at hl 2 rfl) ?_
    refine lv_iconst (v := (-1)) hx hb dL_refuses_281 (by decide) ?_
    refine lv_iload_n hx hb dL_refuses_282 rfl (lv_at hl 3 rfl) ?_
    refine lv_isub hx hb dL_refuses_283 ?_
    refine oW (As := [.ref q, .int ((-1) - (nI y))]) (rest := []) C9 (mL_setOrder_T1 l D G q K S (C.sv, 0, 1, 0, C.t, C.v, C.w, C.c) hlt ((-1) - (nI y)) (fun h => h.1 (m1_neg hy))) (fun _ => OW_fst _ _ _ _ _ _ _) hS hP hD (List.range' 0 57) (OW_get _ _ _ _ _) (by decide) (fun _ => OW_put _ _ _ _ _ _ _ _ _) yw_L_setOrder kw_19_8 kw_19_9 ⟨Nat.le_of_ble_eq_true rfl, Nat.le_of_ble_eq_true rfl⟩ hl.1 (Nat.le_of_ble_eq_true rfl) dL_refuses_284 rfl rfl ⟨Nat.le_of_ble_eq_true rfl, Nat.le_of_ble_eq_true rfl⟩ (fun r284 u284 H locs hp284 hP hD hS => ?_)
    refine ro_top (z := (-2)) hx hp284 ?_
    refine lv_bipush (v := (-2)) hx hb dL_refuses_287 (by decide) ?_
    refine lv_icmp_ne (tgt := 369) hx hb dL_refuses_289 (by decide) (fun h => absurd (by decide) h) (fun _ => ?_)
    refine lv_aload_n hx hb dL_refuses_292 rfl (lv_at hl 2 rfl) ?_
    refine lv_iload_n hx hb dL_refuses_293 rfl (lv_at hl 1 rfl) ?_
    refine oW (As := [.ref q, .int no]) (rest := []) C9 (mL_order_T1 l D G q K S (C.sv, 0, 1, 0, C.t, C.v, C.w, C.c) hlt no hno.lt4) (fun _ => OW_fst _ _ _ _ _ _ _) hS hP hD (List.range' 0 57) (OW_get _ _ _ _ _) (by decide) (fun _ => OW_put _ _ _ _ _ _ _ _ _) yw_L_order kw_15_13 kw_15_14 ⟨Nat.le_of_ble_eq_true rfl, Nat.le_of_ble_eq_true rfl⟩ hl.1 (Nat.le_of_ble_eq_true rfl) dL_refuses_294 rfl rfl ⟨Nat.le_of_ble_eq_true rfl, Nat.le_of_ble_eq_true rfl⟩ (fun r294 u294 H locs hp294 hP hD hS => ?_)
    refine ro_top (z := (-2)) hx hp294 ?_
    refine lv_bipush (v := (-2)) hx hb dL_refuses_297 (by decide) ?_
    refine lv_icmp_ne (tgt := 369) hx hb dL_refuses_299 (by decide) (fun h => absurd (by decide) h) (fun _ => ?_)
    refine lv_aload_n hx hb dL_refuses_302 rfl (lv_at hl 2 rfl) ?_
    refine lv_iconst (v := 0) hx hb dL_refuses_303 (by decide) ?_
    refine oW (As := [.ref q, .int 0]) (rest := []) C9 (mL_setLimit_T1 l D G q K S (C.sv, 0, 1, 0, C.t, C.v, C.w, C.c) hlt 0 (Or.inl (by decide))) (fun _ => OW_fst _ _ _ _ _ _ _) hS hP hD (List.range' 0 57) (OW_get _ _ _ _ _) (by decide) (fun _ => OW_put _ _ _ _ _ _ _ _ _) yw_L_setLimit kw_19_15 kw_19_16 ⟨Nat.le_of_ble_eq_true rfl, Nat.le_of_ble_eq_true rfl⟩ hl.1 (Nat.le_of_ble_eq_true rfl) dL_refuses_304 rfl rfl ⟨Nat.le_of_ble_eq_true rfl, Nat.le_of_ble_eq_true rfl⟩ (fun r304 u304 H locs hp304 hP hD hS => ?_)
    refine ro_top (z := (-2)) hx hp304 ?_
    refine lv_bipush (v := (-2)) hx hb dL_refuses_307 (by decide) ?_
    refine lv_icmp_ne (tgt := 369) hx hb dL_refuses_309 (by decide) (fun h => absurd (by decide) h) (fun _ => ?_)
    refine lv_aload_n hx hb dL_refuses_312 rfl (lv_at hl 2 rfl) ?_
    refine lv_sipush (v := 5001) hx hb dL_refuses_313 (by decide) ?_
    refine lv_iload_n hx hb dL_refuses_316 rfl (lv_at hl 3 rfl) ?_
    refine ro_iadd (z := nI (5001 + y)) hx hb (nI_add 5001 y) dL_refuses_317 ?_
    refine oW (As := [.ref q, .int (nI (5001 + y))]) (rest := []) C9 (mL_setLimit_T1 l D G q K S (C.sv, 0, 1, 0, C.t, C.v, C.w, C.c) hlt (nI (5001 + y)) (Or.inr (big_le 5000 (by omega) (by omega)))) (fun _ => OW_fst _ _ _ _ _ _ _) hS hP hD (List.range' 0 57) (OW_get _ _ _ _ _) (by decide) (fun _ => OW_put _ _ _ _ _ _ _ _ _) yw_L_setLimit kw_19_15 kw_19_16 ⟨Nat.le_of_ble_eq_true rfl, Nat.le_of_ble_eq_true rfl⟩ hl.1 (Nat.le_of_ble_eq_true rfl) dL_refuses_318 rfl rfl ⟨Nat.le_of_ble_eq_true rfl, Nat.le_of_ble_eq_true rfl⟩ (fun r318 u318 H locs hp318 hP hD hS => ?_)
    refine ro_top (z := (-2)) hx hp318 ?_
    refine lv_bipush (v := (-2)) hx hb dL_refuses_321 (by decide) ?_
    refine lv_icmp_ne (tgt := 369) hx hb dL_refuses_323 (by decide) (fun h => absurd (by decide) h) (fun _ => ?_)
    refine lv_aload_n hx hb dL_refuses_326 rfl (lv_at hl 2 rfl) ?_
    refine lv_bipush (v := 24) hx hb dL_refuses_327 (by decide) ?_
    refine lv_iload_n hx hb dL_refuses_329 rfl (lv_at hl 3 rfl) ?_
    refine ro_iadd (z := nI (24 + y)) hx hb (nI_add 24 y) dL_refuses_330 ?_
    refine oW (As := [.ref q, .int (nI (24 + y))]) (rest := []) C9 (mL_nodesWith_T1 l D G q K S (C.sv, 0, 1, 0, C.t, C.v, C.w, C.c) hlt (nI (24 + y)) (fun h => h.2 (le_big 24 (by omega) (by omega)))) (fun _ => OW_fst _ _ _ _ _ _ _) hS hP hD (List.range' 0 57) (OW_get _ _ _ _ _) (by decide) (fun _ => OW_put _ _ _ _ _ _ _ _ _) yw_L_nodesWith kw_11_9 kw_11_10 ⟨Nat.le_of_ble_eq_true rfl, Nat.le_of_ble_eq_true rfl⟩ hl.1 (Nat.le_of_ble_eq_true rfl) dL_refuses_331 rfl rfl ⟨Nat.le_of_ble_eq_true rfl, Nat.le_of_ble_eq_true rfl⟩ (fun r331 u331 H locs hp331 hP hD hS => ?_)
    refine ro_top (z := (-2)) hx hp331 ?_
    refine lv_bipush (v := (-2)) hx hb dL_refuses_334 (by decide) ?_
    refine lv_icmp_ne (tgt := 369) hx hb dL_refuses_336 (by decide) (fun h => absurd (by decide) h) (fun _ => ?_)
    refine lv_aload_n hx hb dL_refuses_339 rfl (lv_at hl 2 rfl) ?_
    refine lv_bipush (v := 32) hx hb dL_refuses_340 (by decide) ?_
    refine lv_iload_n hx hb dL_refuses_342 rfl (lv_at hl 3 rfl) ?_
    refine lv_isub hx hb dL_refuses_343 ?_
    refine oW (As := [.ref q, .int (32 - (nI y))]) (rest := []) C9 (mL_append_T1 l D G q K S (C.sv, 0, 1, 0, C.t, C.v, C.w, C.c) hlt (32 - (nI y)) (Or.inl (p32 hy))) (fun _ => OW_fst _ _ _ _ _ _ _) hS hP hD (List.range' 0 57) (OW_get _ _ _ _ _) (by decide) (fun _ => OW_put _ _ _ _ _ _ _ _ _) yw_L_append kw_17_7 kw_17_8 ⟨Nat.le_of_ble_eq_true rfl, Nat.le_of_ble_eq_true rfl⟩ hl.1 (Nat.le_of_ble_eq_true rfl) dL_refuses_344 rfl rfl ⟨Nat.le_of_ble_eq_true rfl, Nat.le_of_ble_eq_true rfl⟩ (fun r344 u344 H locs hp344 hP hD hS => ?_)
    refine ro_top (z := (-2)) hx hp344 ?_
    refine lv_bipush (v := (-2)) hx hb dL_refuses_347 (by decide) ?_
    refine lv_icmp_ne (tgt := 369) hx hb dL_refuses_349 (by decide) (fun h => absurd (by decide) h) (fun _ => ?_)
    refine lv_aload_n hx hb dL_refuses_352 rfl (lv_at hl 2 rfl) ?_
    refine lv_bipush (v := 127) hx hb dL_refuses_353 (by decide) ?_
    refine lv_iload_n hx hb dL_refuses_355 rfl (lv_at hl 3 rfl) ?_
    refine ro_iadd (z := nI (127 + y)) hx hb (nI_add 127 y) dL_refuses_356 ?_
    refine oW (As := [.ref q, .int (nI (127 + y))]) (rest := []) C9 (mL_append_T1 l D G q K S (C.sv, 0, 1, 0, C.t, C.v, C.w, C.c) hlt (nI (127 + y)) (Or.inr (big_le 126 (by omega) (by omega)))) (fun _ => OW_fst _ _ _ _ _ _ _) hS hP hD (List.range' 0 57) (OW_get _ _ _ _ _) (by decide) (fun _ => OW_put _ _ _ _ _ _ _ _ _) yw_L_append kw_17_7 kw_17_8 ⟨Nat.le_of_ble_eq_true rfl, Nat.le_of_ble_eq_true rfl⟩ hl.1 (Nat.le_of_ble_eq_true rfl) dL_refuses_357 rfl rfl ⟨Nat.le_of_ble_eq_true rfl, Nat.le_of_ble_eq_true rfl⟩ (fun r357 u357 H locs hp357 hP hD hS => ?_)
    refine ro_top (z := (-2)) hx hp357 ?_
    refine lv_bipush (v := (-2)) hx hb dL_refuses_360 (by decide) ?_
    refine lv_icmp_ne (tgt := 369) hx hb dL_refuses_362 (by decide) (fun h => absurd (by decide) h) (fun _ => ?_)
    refine lv_iconst (v := 1) hx hb dL_refuses_365 (by decide) ?_
    refine lv_goto (tgt := 370) hx hb dL_refuses_366 (by decide) ?_
    refine lv_istore (lv' := [(4, .int 1), (3, .int (nI C.L)), (2, .int no), (0, .ref q), (1, .int (nI y))]) hx hb dL_refuses_370 hl (by decide) rfl (fun ls hl => ?_)
    refine lv_iload hx hb dL_refuses_372 (lv_at hl 0 rfl) ?_
    refine lv_if_eq (tgt := 415) hx hb dL_refuses_374 (by decide) (fun h => absurd h (by decide)) (fun _ => ?_)
    refine lv_aload_n hx hb dL_refuses_377 rfl (lv_at hl 3 rfl) ?_
    refine lv_bipush (v := 44) hx hb dL_refuses_378 (by decide) ?_
    refine oW (As := [.ref q, .int 44]) (rest := []) C9 (mL_append_ok l D G q K S (C.sv, 0, 1, 0, C.t, C.v, C.w, C.c) 44 (by decide) (by decide) (Nat.lt_of_lt_of_le Nat.zero_lt_one (by decide))) (fun _ => OW_fst _ _ _ _ _ _ _) hS hP hD (List.range' 0 57) (OW_get _ _ _ _ _) (by decide) (fun _ => OW_put _ _ _ _ _ _ _ _ _) yw_L_append kw_17_7 kw_17_8 ⟨Nat.le_of_ble_eq_true rfl, Nat.le_of_ble_eq_true rfl⟩ hl.1 (Nat.le_of_ble_eq_true rfl) dL_refuses_380 rfl rfl ⟨Nat.le_of_ble_eq_true rfl, Nat.le_of_ble_eq_true rfl⟩ (fun r380 u380 H locs hp380 hP hD hS => ?_)
    have hP : va_P D vwCl (OW G q K S (C.sv, 1, 1, 0, va_up C.t 0 44, C.v, C.w, C.c)) H := hP
    have hD : va_D A (OW G q K S (C.sv, 1, 1, 0, va_up C.t 0 44, C.v, C.w, C.c)) := hD
    refine ro_top (z := 1) hx hp380 ?_
    refine lv_iconst (v := 1) hx hb dL_refuses_383 (by decide) ?_
    refine lv_icmp_ne (tgt := 415) hx hb dL_refuses_384 (by decide) (fun h => absurd (by decide) h) (fun _ => ?_)
    refine lv_aload_n hx hb dL_refuses_387 rfl (lv_at hl 3 rfl) ?_
    refine oV (As := []) (rest := []) (q0 := 0) (ci := 7) (T := TX7) (N := 5) C9 (o_firstError l D G q K S (C.sv, 1, 1, 0, va_up C.t 0 44, C.v, C.w, C.c) (show 1 ≤ 60 by decide) (fun j hj => by have hj : j < 1 := hj; rw [show j = 0 by omega]; show va_up C.t 0 44 0 < 128; rw [va_up_self]; decide)) (fun _ => OW_fst _ _ _ _ _ _ _) hS hP hD (List.range' 0 57) (OW_get _ _ _ _ _) (by decide) (fun _ => OW_put _ _ _ _ _ _ _ _ _) rfl rfl ys_X7_firstError kw_8_4 kw_8_5 kw_8_6 ⟨Nat.le_of_ble_eq_true rfl, Nat.le_of_ble_eq_true rfl⟩ hl.1 (Nat.le_of_ble_eq_true rfl) dL_refuses_388 rfl rfl ⟨Nat.le_of_ble_eq_true rfl, Nat.le_of_ble_eq_true rfl⟩ (fun r388 u388 H locs hp388 hP hD hS => ?_)
    have hP : va_P D vwCl (OW G q K (S.x, S.y, S.p, S.og, S.cg, S.xs, S.ys, S.ps, (rdA (va_up C.t 0 44) 1 S.F).2.2.2) (C.sv, 1, (rdA (va_up C.t 0 44) 1 S.F).2.1, (rdA (va_up C.t 0 44) 1 S.F).2.2.1, va_up C.t 0 44, C.v, C.w, C.c)) H := hP
    have hD : va_D A (OW G q K (S.x, S.y, S.p, S.og, S.cg, S.xs, S.ys, S.ps, (rdA (va_up C.t 0 44) 1 S.F).2.2.2) (C.sv, 1, (rdA (va_up C.t 0 44) 1 S.F).2.1, (rdA (va_up C.t 0 44) 1 S.F).2.2.1, va_up C.t 0 44, C.v, C.w, C.c)) := hD
    rw [rdA_comma (va_up_self _ _ _)] at hP hD
    have hP : va_P D vwCl (OW G q K S (C.sv, 1, 1, 0, va_up C.t 0 44, C.v, C.w, C.c)) H := hP
    have hD : va_D A (OW G q K S (C.sv, 1, 1, 0, va_up C.t 0 44, C.v, C.w, C.c)) := hD
    refine ro_top (z := 0) hx (by rw [hp388]; show nI (rdA (va_up C.t 0 44) 1 S.F).1 = 0; rw [rdA_comma (va_up_self _ _ _)]; rfl) ?_
    refine lv_if_ne (tgt := 415) hx hb dL_refuses_391 (by decide) (fun h => absurd (by decide) h) (fun _ => ?_)
    refine lv_aload_n hx hb dL_refuses_394 rfl (lv_at hl 3 rfl) ?_
    refine oW (As := [.ref q]) (rest := []) C9 (mL_load_T1 l D G q K S (C.sv, 1, 1, 0, va_up C.t 0 44, C.v, C.w, C.c) hlt (show 1 ≤ 60 by decide) (fun j hj => by have hj : j < 1 := hj; rw [show j = 0 by omega]; show va_up C.t 0 44 0 < 128; rw [va_up_self]; decide) (by show ¬ ((rdA (va_up C.t 0 44) 1 S.F).1 = 1 ∧ 0 < (rdA (va_up C.t 0 44) 1 S.F).2.2.1); rw [rdA_comma (va_up_self _ _ _)]; exact fun h => absurd (show (0 : Nat) = 1 from h.1) (by decide))) (fun _ => OW_fst _ _ _ _ _ _ _) hS hP hD (List.range' 0 57) (OW_get _ _ _ _ _) (by decide) (fun _ => OW_put _ _ _ _ _ _ _ _ _) yw_L_load kw_17_16 kw_17_17 ⟨Nat.le_of_ble_eq_true rfl, Nat.le_of_ble_eq_true rfl⟩ hl.1 (Nat.le_of_ble_eq_true rfl) dL_refuses_395 rfl rfl ⟨Nat.le_of_ble_eq_true rfl, Nat.le_of_ble_eq_true rfl⟩ (fun r395 u395 H locs hp395 hP hD hS => ?_)
    have hP : va_P D vwCl (OW G q K (S.x, S.y, S.p, S.og, S.cg, S.xs, S.ys, S.ps, (rdA (va_up C.t 0 44) 1 S.F).2.2.2) (C.sv, 1, (rdA (va_up C.t 0 44) 1 S.F).2.1, (rdA (va_up C.t 0 44) 1 S.F).2.2.1, va_up C.t 0 44, C.v, C.w, C.c)) H := hP
    have hD : va_D A (OW G q K (S.x, S.y, S.p, S.og, S.cg, S.xs, S.ys, S.ps, (rdA (va_up C.t 0 44) 1 S.F).2.2.2) (C.sv, 1, (rdA (va_up C.t 0 44) 1 S.F).2.1, (rdA (va_up C.t 0 44) 1 S.F).2.2.1, va_up C.t 0 44, C.v, C.w, C.c)) := hD
    rw [rdA_comma (va_up_self _ _ _)] at hP hD
    have hP : va_P D vwCl (OW G q K S (C.sv, 1, 1, 0, va_up C.t 0 44, C.v, C.w, C.c)) H := hP
    have hD : va_D A (OW G q K S (C.sv, 1, 1, 0, va_up C.t 0 44, C.v, C.w, C.c)) := hD
    refine ro_top (z := (-2)) hx hp395 ?_
    refine lv_bipush (v := (-2)) hx hb dL_refuses_398 (by decide) ?_
    refine lv_icmp_ne (tgt := 415) hx hb dL_refuses_400 (by decide) (fun h => absurd (by decide) h) (fun _ => ?_)
    refine lv_aload_n hx hb dL_refuses_403 rfl (lv_at hl 3 rfl) ?_
    refine oV (As := []) (rest := []) (q0 := 0) (ci := 7) (T := TX7) (N := 5) C9 (o_clearText l D G q K S (C.sv, 1, 1, 0, va_up C.t 0 44, C.v, C.w, C.c)) (fun _ => OW_fst _ _ _ _ _ _ _) hS hP hD (List.range' 0 57) (OW_get _ _ _ _ _) (by decide) (fun _ => OW_put _ _ _ _ _ _ _ _ _) rfl rfl ys_X7_clearText kw_17_2 kw_17_3 kw_17_4 ⟨Nat.le_of_ble_eq_true rfl, Nat.le_of_ble_eq_true rfl⟩ hl.1 (Nat.le_of_ble_eq_true rfl) dL_refuses_404 rfl rfl ⟨Nat.le_of_ble_eq_true rfl, Nat.le_of_ble_eq_true rfl⟩ (fun r404 u404 H locs hp404 hP hD hS => ?_)
    refine ro_top (z := 1) hx hp404 ?_
    refine lv_iconst (v := 1) hx hb dL_refuses_407 (by decide) ?_
    refine lv_icmp_ne (tgt := 415) hx hb dL_refuses_408 (by decide) (fun h => absurd (by decide) h) (fun _ => ?_)
    refine lv_iconst (v := 1) hx hb dL_refuses_411 (by decide) ?_
    refine lv_goto (tgt := 416) hx hb dL_refuses_412 (by decide) ?_
    exact endI C9 rfl (C.sv, 0, 1, 0, va_up C.t 0 44, C.v, C.w, C.c) ⟨rfl, hSV, Nat.zero_le _, fun j hj => absurd hj (Nat.not_lt_zero _)⟩ hS hP dL_refuses_416
  refine lv_iload_n hx hb dL_refuses_0 rfl (lv_at hl 1 rfl) ?_
  refine lv_iconst (v := 2) hx hb dL_refuses_1 (by decide) ?_
  refine ro_irem (z := nI (y % 2)) hx hb (by decide) (nI_rem (a := y) (b := 2) (by omega) (by decide)) dL_refuses_2 ?_
  refine lv_if_ne (tgt := 12) hx hb dL_refuses_3 (by decide) (fun c_3 => ?_) (fun c_3 => ?_)
  · have c_3 := neq_f (a := y % 2) (b := 0) (by omega) (by omega) c_3
    refine lv_iconst (v := (-1)) hx hb dL_refuses_12 (by decide) ?_
    refine lv_iload_n hx hb dL_refuses_13 rfl (lv_at hl 1 rfl) ?_
    refine lv_isub hx hb dL_refuses_14 ?_
    exact j15 _ (NoI.lo (by omega)) _ _ _ hP hD hS hl
  · have c_3 := neq_t (a := y % 2) (b := 0) (by omega) (by omega) c_3
    refine lv_iconst (v := 4) hx hb dL_refuses_6 (by decide) ?_
    refine lv_iload_n hx hb dL_refuses_7 rfl (lv_at hl 1 rfl) ?_
    refine ro_iadd (z := nI (4 + y)) hx hb (nI_add 4 y) dL_refuses_8 ?_
    refine lv_goto (tgt := 15) hx hb dL_refuses_9 (by decide) ?_
    exact j15 _ (NoI.hi (by omega)) _ _ _ hP hD hS hl
