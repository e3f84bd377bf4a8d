theorem ys_L_acts : YS yL_acts cL_acts 7 (some .int) 3 := ⟨kw_16_22, kw_5_1, by decide, by decide, by decide⟩
set_option maxHeartbeats 1600000 in
set_option maxRecDepth 100000 in
theorem mL_acts_ld0 (l : Launch) (D : va_G) (G : u_G) (q : Nat) (K : AD) (S : AS) (C : SC) (k : Nat) (hk : k < 40) (hN : G.2.2.2.2.2.1 ≤ 260) (hA0 : AOK S) (hC0 : COK S C) (hz : S.x 14 = 0) : MtI l D G yL_acts cL_acts 7 .int 40 1 6 [.ref q, .ref G.2.2.2.2.1, .int (nI k)] (OW G q K S C) (fun (r : Int32) (u : SC) => r = nI (mnA G k) ∧ COK (S.sav (ldX S.x (mnA G k)) (ldY S.y) (tyF G k (mnA G k) (tyF G k (mnA G k) S.F)) (tyF G k (mnA G k) (tyF G k (mnA G k) S.F))) u) (fun (u : SC) => OW G q K (S.sav (ldX S.x (mnA G k)) (ldY S.y) (tyF G k (mnA G k) (tyF G k (mnA G k) S.F)) (tyF G k (mnA G k) (tyF G k (mnA G k) S.F))) u) := by
  refine MtI.of (by decide) (Nat.le_of_ble_eq_true rfl) ?_
  intro pr e s9 m9 below meth c9 A ls C9 hP hD hl
  obtain ⟨hx, hb, hml, hown, hts, hr, hlocks, hA, hAm⟩ := id C9
  have hS : va_S A s9.heap s9.heap [] := va_S.rf
  have hl : lv_has ls 7 [(0, .ref q), (1, .ref G.2.2.2.2.1), (2, .int (nI k))] := hl
  have hce := ceN_lt G k
  obtain ⟨⟨⟨w1, w2, w3, ⟨w4a, w4⟩, w5⟩, ⟨w6, w7⟩, w8, w9, w10⟩, hog, hcg, hSVD, hFR⟩ := id hA0
  obtain ⟨hSV, hL6, ht6⟩ := id hC0
  refine lv_aload_n hx hb dL_acts_0 rfl (lv_at hl 1 rfl) ?_
  refine lv_iload_n hx hb dL_acts_1 rfl (lv_at hl 2 rfl) ?_
  refine oS (As := [.ref G.2.2.2.2.1, .int (nI k)]) (rest := []) C9 (mL_cell l D G k (by omega) hN) (fun _ => rfl) hS hP hD [] rfl (by decide) (fun _ => rfl) ys_L_cell kw_16_15 kw_16_16 ⟨Nat.le_of_ble_eq_true rfl, Nat.le_of_ble_eq_true rfl⟩ hl.1 (Nat.le_of_ble_eq_true rfl) dL_acts_2 rfl rfl ⟨Nat.le_of_ble_eq_true rfl, Nat.le_of_ble_eq_true rfl⟩ (fun r2 u2 H locs hp2 hP hD hS => ?_)
  refine ro_top (z := nI (ceN G k)) hx hp2 ?_
  refine lv_istore_n (lv' := [(3, .int (nI (ceN G k))), (0, .ref q), (1, .ref G.2.2.2.2.1), (2, .int (nI k))]) hx hb dL_acts_5 rfl hl (by decide) rfl (fun ls hl => ?_)
  refine lv_iload_n hx hb dL_acts_6 rfl (lv_at hl 0 rfl) ?_
  refine lv_bipush (v := 16) hx hb dL_acts_7 (by decide) ?_
  refine lv_idiv hx hb dL_acts_9 (by decide) ?_
  refine ro_top (z := nI ((ceN G k) / 16)) hx (nI_div (a := ceN G k) (b := 16) (by omega) (by decide)) ?_
  refine lv_istore (lv' := [(4, .int (nI ((ceN G k) / 16))), (3, .int (nI (ceN G k))), (0, .ref q), (1, .ref G.2.2.2.2.1), (2, .int (nI k))]) hx hb dL_acts_10 hl (by decide) rfl (fun ls hl => ?_)
  refine lv_aload_n hx hb dL_acts_12 rfl (lv_at hl 2 rfl) ?_
  refine oV (As := []) (rest := []) (q0 := 0) (ci := 7) (T := TX7) (N := 5) C9 (o_left l D G q K S C) (fun _ => OW_fst _ _ _ _ _ _ _) hS hP hD (List.range' 0 57) (OW_get _ _ _ _ _) (by decide) (fun _ => OW_put _ _ _ _ _ _ _ _ _) rfl rfl ys_X7_left kw_12_1 kw_12_2 kw_12_3 ⟨Nat.le_of_ble_eq_true rfl, Nat.le_of_ble_eq_true rfl⟩ hl.1 (Nat.le_of_ble_eq_true rfl) dL_acts_13 rfl rfl ⟨Nat.le_of_ble_eq_true rfl, Nat.le_of_ble_eq_true rfl⟩ (fun r13 u13 H locs hp13 hP hD hS => ?_)
  refine ro_top (z := nI (S.x 14)) hx hp13 ?_
  refine lv_if_ne (tgt := 23) hx hb dL_acts_16 (by decide) (fun c_16 => ?_) (fun c_16 => ?_)
  · have c_16 := neq_f (a := S.x 14) (b := 0) (by omega) (by omega) c_16
    omega
  · have c_16 := neq_t (a := S.x 14) (b := 0) (by omega) (by omega) c_16
    refine lv_iconst (v := 0) hx hb dL_acts_19 (by decide) ?_
    refine lv_goto (tgt := 27) hx hb dL_acts_20 (by decide) ?_
    refine lv_tableIn (off := 53) (tgt := 80) hx hb dL_acts_27 (by decide) (by decide) (by decide) (by decide) ?_
    refine lv_aload_n hx hb dL_acts_80 rfl (lv_at hl 2 rfl) ?_
    refine lv_aload_n hx hb dL_acts_81 rfl (lv_at hl 3 rfl) ?_
    refine lv_iload_n hx hb dL_acts_82 rfl (lv_at hl 4 rfl) ?_
    refine lv_iconst (v := 1) hx hb dL_acts_83 (by decide) ?_
    refine lv_iload hx hb dL_acts_84 (lv_at hl 0 rfl) ?_
    refine lv_bipush (v := 12) hx hb dL_acts_86 (by decide) ?_
    refine ro_irem (z := nI (((ceN G k) / 16) % 12)) hx hb (by decide) (nI_rem (a := (ceN G k) / 16) (b := 12) (by omega) (by decide)) dL_acts_88 ?_
    refine ro_iadd (z := nI (mnA G k)) hx hb (nI_add 1 _) dL_acts_89 ?_
    refine oS (As := [.ref q, .ref G.2.2.2.2.1, .int (nI k), .int (nI (mnA G k))]) (rest := []) C9 (mL_typed l D G q K S C k (mnA G k) hN (by unfold mnA; omega) (by unfold mnA; omega) (by omega) hL6) (fun _ => OW_fst _ _ _ _ _ _ _) hS hP hD (List.range' 0 57) (OW_get _ _ _ _ _) (by decide) (fun _ => OW_put _ _ _ _ _ _ _ _ _) ys_L_typed kw_16_23 kw_17_0 ⟨Nat.le_of_ble_eq_true rfl, Nat.le_of_ble_eq_true rfl⟩ hl.1 (Nat.le_of_ble_eq_true rfl) dL_acts_90 rfl rfl ⟨Nat.le_of_ble_eq_true rfl, Nat.le_of_ble_eq_true rfl⟩ (fun r90 C1 H locs hp90 hP hD hS => ?_)
    refine ro_top (z := nI C1.L) hx hp90.1 ?_
    obtain ⟨-, t1, t2, t3, t4, t5⟩ := hp90
    refine lv_istore (lv' := [(5, .int (nI C1.L)), (4, .int (nI ((ceN G k) / 16))), (3, .int (nI (ceN G k))), (0, .ref q), (1, .ref G.2.2.2.2.1), (2, .int (nI k))]) hx hb dL_acts_93 hl (by decide) rfl (fun ls hl => ?_)
    refine lv_iload hx hb dL_acts_95 (lv_at hl 0 rfl) ?_
    refine lv_iconst (v := 1) hx hb dL_acts_97 (by decide) ?_
    refine lv_icmp_lt (tgt := 110) hx hb dL_acts_98 (by decide) (fun c_98 => ?_) (fun c_98 => ?_)
    · have c_98 := nlt_t (a := C1.L) (b := 1) (by omega) (by omega) c_98
      omega
    · have c_98 := nlt_f (a := C1.L) (b := 1) (by omega) (by omega) c_98
      refine lv_aload_n hx hb dL_acts_101 rfl (lv_at hl 3 rfl) ?_
      refine oV (As := []) (rest := []) (q0 := 0) (ci := 7) (T := TX7) (N := 5) C9 (o_firstError l D G q K S C1 t2 t3) (fun _ => OW_fst _ _ _ _ _ _ _) hS hP hD (List.range' 0 57) (OW_get _ _ _ _ _) (by decide) (fun _ => OW_put _ _ _ _ _ _ _ _ _) rfl rfl ys_X7_firstError kw_8_4 kw_8_5 kw_8_6 ⟨Nat.le_of_ble_eq_true rfl, Nat.le_of_ble_eq_true rfl⟩ hl.1 (Nat.le_of_ble_eq_true rfl) dL_acts_102 rfl rfl ⟨Nat.le_of_ble_eq_true rfl, Nat.le_of_ble_eq_true rfl⟩ (fun r102 u102 H locs hp102 hP hD hS => ?_)
      rw [t4 S.F] at hP hD
      have hP : va_P D vwCl (OW G q K (S.x, S.y, S.p, S.og, S.cg, S.xs, S.ys, S.ps, tyF G k (mnA G k) S.F) (C1.sv, C1.L, mnA G k, coN G (k + (mnA G k - 1)), C1.t, C1.v, C1.w, C1.c)) H := hP
      have hD : va_D A (OW G q K (S.x, S.y, S.p, S.og, S.cg, S.xs, S.ys, S.ps, tyF G k (mnA G k) S.F) (C1.sv, C1.L, mnA G k, coN G (k + (mnA G k - 1)), C1.t, C1.v, C1.w, C1.c)) := hD
      refine ro_top (z := nI C1.L) hx (by rw [hp102, t4 S.F]) ?_
      refine lv_iload hx hb dL_acts_105 (lv_at hl 0 rfl) ?_
      refine lv_icmp_eq (tgt := 115) hx hb dL_acts_107 (by decide) (fun c_107 => ?_) (fun c_107 => ?_)
      · have c_107 := neq_t (a := C1.L) (b := C1.L) (by omega) (by omega) c_107
        refine lv_aload_n hx hb dL_acts_115 rfl (lv_at hl 3 rfl) ?_
        refine oW (As := [.ref q]) (rest := []) C9 (mL_load_ok l D G q K (S.x, S.y, S.p, S.og, S.cg, S.xs, S.ys, S.ps, tyF G k (mnA G k) S.F) (C1.sv, C1.L, mnA G k, coN G (k + (mnA G k - 1)), C1.t, C1.v, C1.w, C1.c) t2 t3 (by show (rdA C1.t C1.L (tyF G k (mnA G k) S.F)).1 = C1.L; rw [t4]) (by show 0 < (rdA C1.t C1.L (tyF G k (mnA G k) S.F)).2.2.1; rw [t4]; have := coN_in G (k + (mnA G k - 1)); show 0 < coN G (k + (mnA G k - 1)); omega) (by show PR (rdA C1.t C1.L (tyF G k (mnA G k) S.F)).2.2.2; rw [t4]; exact tyF_PR (tyF_PR hFR)) hog hcg) (fun _ => OW_fst _ _ _ _ _ _ _) hS hP hD (List.range' 0 57) (OW_get _ _ _ _ _) (by decide) (fun _ => OW_put _ _ _ _ _ _ _ _ _) yw_L_load kw_17_16 kw_17_17 ⟨Nat.le_of_ble_eq_true rfl, Nat.le_of_ble_eq_true rfl⟩ hl.1 (Nat.le_of_ble_eq_true rfl) dL_acts_116 rfl rfl ⟨Nat.le_of_ble_eq_true rfl, Nat.le_of_ble_eq_true rfl⟩ (fun r116 u116 H locs hp116 hP hD hS => ?_)
        have hp116 : r116 = nI (rdA C1.t C1.L (tyF G k (mnA G k) S.F)).2.1 ∧ SV (rdA C1.t C1.L (tyF G k (mnA G k) S.F)).2.2.2 u116 (0 + (rdA C1.t C1.L (tyF G k (mnA G k) S.F)).2.1) := hp116
        rw [t4] at hp116
        have hP : va_P D vwCl (OW G q K (S.sav (ldX S.x (rdA C1.t C1.L (tyF G k (mnA G k) S.F)).2.1) (ldY S.y) (rdA C1.t C1.L (tyF G k (mnA G k) S.F)).2.2.2 (rdA C1.t C1.L (tyF G k (mnA G k) S.F)).2.2.2) (u116, 0, (rdA C1.t C1.L (tyF G k (mnA G k) S.F)).2.1, (rdA C1.t C1.L (tyF G k (mnA G k) S.F)).2.2.1, C1.t, C1.v, C1.w, C1.c)) H := hP
        rw [t4] at hP
        have hP : va_P D vwCl (OW G q K (S.sav (ldX S.x (mnA G k)) (ldY S.y) (tyF G k (mnA G k) (tyF G k (mnA G k) S.F)) (tyF G k (mnA G k) (tyF G k (mnA G k) S.F))) (u116, 0, mnA G k, coN G (k + (mnA G k - 1)), C1.t, C1.v, C1.w, C1.c)) H := hP
        refine ro_top (z := nI (mnA G k)) hx hp116.1 ?_
        refine W.widen (k := 1) (n := 6) (by decide) (by decide) ?_
        exact endI C9 rfl (u116, 0, mnA G k, coN G (k + (mnA G k - 1)), C1.t, C1.v, C1.w, C1.c) ⟨rfl, hp116.2, Nat.zero_le _, fun j hj => absurd hj (Nat.not_lt_zero _)⟩ hS hP dL_acts_119
      · have c_107 := neq_f (a := C1.L) (b := C1.L) (by omega) (by omega) c_107
        omega
set_option maxHeartbeats 1600000 in
set_option maxRecDepth 100000 in
theorem mL_acts_ld1 (l : Launch) (D : va_G) (G : u_G) (q : Nat) (K : AD) (S : AS) (C : SC) (k : Nat) (hk : k < 40) (hN : G.2.2.2.2.2.1 ≤ 260) (hA0 : AOK S) (hC0 : COK S C) (hz : ¬ S.x 14 = 0) (hj : ceN G k % 16 = 0) : MtI l D G yL_acts cL_acts 7 .int 40 1 6 [.ref q, .ref G.2.2.2.2.1, .int (nI k)] (OW G q K S C) (fun (r : Int32) (u : SC) => r = nI (mnA G k) ∧ COK (S.sav (ldX S.x (mnA G k)) (ldY S.y) (tyF G k (mnA G k) (tyF G k (mnA G k) S.F)) (tyF G k (mnA G k) (tyF G k (mnA G k) S.F))) u) (fun (u : SC) => OW G q K (S.sav (ldX S.x (mnA G k)) (ldY S.y) (tyF G k (mnA G k) (tyF G k (mnA G k) S.F)) (tyF G k (mnA G k) (tyF G k (mnA G k) S.F))) u) := by
  refine MtI.of (by decide) (Nat.le_of_ble_eq_true rfl) ?_
  intro pr e s9 m9 below meth c9 A ls C9 hP hD hl
  obtain ⟨hx, hb, hml, hown, hts, hr, hlocks, hA, hAm⟩ := id C9
  have hS : va_S A s9.heap s9.heap [] := va_S.rf
  have hl : lv_has ls 7 [(0, .ref q), (1, .ref G.2.2.2.2.1), (2, .int (nI k))] := hl
  have hce := ceN_lt G k
  obtain ⟨⟨⟨w1, w2, w3, ⟨w4a, w4⟩, w5⟩, ⟨w6, w7⟩, w8, w9, w10⟩, hog, hcg, hSVD, hFR⟩ := id hA0
  obtain ⟨hSV, hL6, ht6⟩ := id hC0
  refine lv_aload_n hx hb dL_acts_0 rfl (lv_at hl 1 rfl) ?_
  refine lv_iload_n hx hb dL_acts_1 rfl (lv_at hl 2 rfl) ?_
  refine oS (As := [.ref G.2.2.2.2.1, .int (nI k)]) (rest := []) C9 (mL_cell l D G k (by omega) hN) (fun _ => rfl) hS hP hD [] rfl (by decide) (fun _ => rfl) ys_L_cell kw_16_15 kw_16_16 ⟨Nat.le_of_ble_eq_true rfl, Nat.le_of_ble_eq_true rfl⟩ hl.1 (Nat.le_of_ble_eq_true rfl) dL_acts_2 rfl rfl ⟨Nat.le_of_ble_eq_true rfl, Nat.le_of_ble_eq_true rfl⟩ (fun r2 u2 H locs hp2 hP hD hS => ?_)
  refine ro_top (z := nI (ceN G k)) hx hp2 ?_
  refine lv_istore_n (lv' := [(3, .int (nI (ceN G k))), (0, .ref q), (1, .ref G.2.2.2.2.1), (2, .int (nI k))]) hx hb dL_acts_5 rfl hl (by decide) rfl (fun ls hl => ?_)
  refine lv_iload_n hx hb dL_acts_6 rfl (lv_at hl 0 rfl) ?_
  refine lv_bipush (v := 16) hx hb dL_acts_7 (by decide) ?_
  refine lv_idiv hx hb dL_acts_9 (by decide) ?_
  refine ro_top (z := nI ((ceN G k) / 16)) hx (nI_div (a := ceN G k) (b := 16) (by omega) (by decide)) ?_
  refine lv_istore (lv' := [(4, .int (nI ((ceN G k) / 16))), (3, .int (nI (ceN G k))), (0, .ref q), (1, .ref G.2.2.2.2.1), (2, .int (nI k))]) hx hb dL_acts_10 hl (by decide) rfl (fun ls hl => ?_)
  refine lv_aload_n hx hb dL_acts_12 rfl (lv_at hl 2 rfl) ?_
  refine oV (As := []) (rest := []) (q0 := 0) (ci := 7) (T := TX7) (N := 5) C9 (o_left l D G q K S C) (fun _ => OW_fst _ _ _ _ _ _ _) hS hP hD (List.range' 0 57) (OW_get _ _ _ _ _) (by decide) (fun _ => OW_put _ _ _ _ _ _ _ _ _) rfl rfl ys_X7_left kw_12_1 kw_12_2 kw_12_3 ⟨Nat.le_of_ble_eq_true rfl, Nat.le_of_ble_eq_true rfl⟩ hl.1 (Nat.le_of_ble_eq_true rfl) dL_acts_13 rfl rfl ⟨Nat.le_of_ble_eq_true rfl, Nat.le_of_ble_eq_true rfl⟩ (fun r13 u13 H locs hp13 hP hD hS => ?_)
  refine ro_top (z := nI (S.x 14)) hx hp13 ?_
  refine lv_if_ne (tgt := 23) hx hb dL_acts_16 (by decide) (fun c_16 => ?_) (fun c_16 => ?_)
  · have c_16 := neq_f (a := S.x 14) (b := 0) (by omega) (by omega) c_16
    refine lv_iload_n hx hb dL_acts_23 rfl (lv_at hl 1 rfl) ?_
    refine lv_bipush (v := 16) hx hb dL_acts_24 (by decide) ?_
    refine ro_irem (z := nI ((ceN G k) % 16)) hx hb (by decide) (nI_rem (a := ceN G k) (b := 16) (by omega) (by decide)) dL_acts_26 ?_
    refine ro_top (z := 0) hx (by rw [hj]; rfl) ?_
    refine lv_tableIn (off := 53) (tgt := 80) hx hb dL_acts_27 (by decide) (by decide) (by decide) (by decide) ?_
    refine lv_aload_n hx hb dL_acts_80 rfl (lv_at hl 2 rfl) ?_
    refine lv_aload_n hx hb dL_acts_81 rfl (lv_at hl 3 rfl) ?_
    refine lv_iload_n hx hb dL_acts_82 rfl (lv_at hl 4 rfl) ?_
    refine lv_iconst (v := 1) hx hb dL_acts_83 (by decide) ?_
    refine lv_iload hx hb dL_acts_84 (lv_at hl 0 rfl) ?_
    refine lv_bipush (v := 12) hx hb dL_acts_86 (by decide) ?_
    refine ro_irem (z := nI (((ceN G k) / 16) % 12)) hx hb (by decide) (nI_rem (a := (ceN G k) / 16) (b := 12) (by omega) (by decide)) dL_acts_88 ?_
    refine ro_iadd (z := nI (mnA G k)) hx hb (nI_add 1 _) dL_acts_89 ?_
    refine oS (As := [.ref q, .ref G.2.2.2.2.1, .int (nI k), .int (nI (mnA G k))]) (rest := []) C9 (mL_typed l D G q K S C k (mnA G k) hN (by unfold mnA; omega) (by unfold mnA; omega) (by omega) hL6) (fun _ => OW_fst _ _ _ _ _ _ _) hS hP hD (List.range' 0 57) (OW_get _ _ _ _ _) (by decide) (fun _ => OW_put _ _ _ _ _ _ _ _ _) ys_L_typed kw_16_23 kw_17_0 ⟨Nat.le_of_ble_eq_true rfl, Nat.le_of_ble_eq_true rfl⟩ hl.1 (Nat.le_of_ble_eq_true rfl) dL_acts_90 rfl rfl ⟨Nat.le_of_ble_eq_true rfl, Nat.le_of_ble_eq_true rfl⟩ (fun r90 C1 H locs hp90 hP hD hS => ?_)
    refine ro_top (z := nI C1.L) hx hp90.1 ?_
    obtain ⟨-, t1, t2, t3, t4, t5⟩ := hp90
    refine lv_istore (lv' := [(5, .int (nI C1.L)), (4, .int (nI ((ceN G k) / 16))), (3, .int (nI (ceN G k))), (0, .ref q), (1, .ref G.2.2.2.2.1), (2, .int (nI k))]) hx hb dL_acts_93 hl (by decide) rfl (fun ls hl => ?_)
    refine lv_iload hx hb dL_acts_95 (lv_at hl 0 rfl) ?_
    refine lv_iconst (v := 1) hx hb dL_acts_97 (by decide) ?_
    refine lv_icmp_lt (tgt := 110) hx hb dL_acts_98 (by decide) (fun c_98 => ?_) (fun c_98 => ?_)
    · have c_98 := nlt_t (a := C1.L) (b := 1) (by omega) (by omega) c_98
      omega
    · have c_98 := nlt_f (a := C1.L) (b := 1) (by omega) (by omega) c_98
      refine lv_aload_n hx hb dL_acts_101 rfl (lv_at hl 3 rfl) ?_
      refine oV (As := []) (rest := []) (q0 := 0) (ci := 7) (T := TX7) (N := 5) C9 (o_firstError l D G q K S C1 t2 t3) (fun _ => OW_fst _ _ _ _ _ _ _) hS hP hD (List.range' 0 57) (OW_get _ _ _ _ _) (by decide) (fun _ => OW_put _ _ _ _ _ _ _ _ _) rfl rfl ys_X7_firstError kw_8_4 kw_8_5 kw_8_6 ⟨Nat.le_of_ble_eq_true rfl, Nat.le_of_ble_eq_true rfl⟩ hl.1 (Nat.le_of_ble_eq_true rfl) dL_acts_102 rfl rfl ⟨Nat.le_of_ble_eq_true rfl, Nat.le_of_ble_eq_true rfl⟩ (fun r102 u102 H locs hp102 hP hD hS => ?_)
      rw [t4 S.F] at hP hD
      have hP : va_P D vwCl (OW G q K (S.x, S.y, S.p, S.og, S.cg, S.xs, S.ys, S.ps, tyF G k (mnA G k) S.F) (C1.sv, C1.L, mnA G k, coN G (k + (mnA G k - 1)), C1.t, C1.v, C1.w, C1.c)) H := hP
      have hD : va_D A (OW G q K (S.x, S.y, S.p, S.og, S.cg, S.xs, S.ys, S.ps, tyF G k (mnA G k) S.F) (C1.sv, C1.L, mnA G k, coN G (k + (mnA G k - 1)), C1.t, C1.v, C1.w, C1.c)) := hD
      refine ro_top (z := nI C1.L) hx (by rw [hp102, t4 S.F]) ?_
      refine lv_iload hx hb dL_acts_105 (lv_at hl 0 rfl) ?_
      refine lv_icmp_eq (tgt := 115) hx hb dL_acts_107 (by decide) (fun c_107 => ?_) (fun c_107 => ?_)
      · have c_107 := neq_t (a := C1.L) (b := C1.L) (by omega) (by omega) c_107
        refine lv_aload_n hx hb dL_acts_115 rfl (lv_at hl 3 rfl) ?_
        refine oW (As := [.ref q]) (rest := []) C9 (mL_load_ok l D G q K (S.x, S.y, S.p, S.og, S.cg, S.xs, S.ys, S.ps, tyF G k (mnA G k) S.F) (C1.sv, C1.L, mnA G k, coN G (k + (mnA G k - 1)), C1.t, C1.v, C1.w, C1.c) t2 t3 (by show (rdA C1.t C1.L (tyF G k (mnA G k) S.F)).1 = C1.L; rw [t4]) (by show 0 < (rdA C1.t C1.L (tyF G k (mnA G k) S.F)).2.2.1; rw [t4]; have := coN_in G (k + (mnA G k - 1)); show 0 < coN G (k + (mnA G k - 1)); omega) (by show PR (rdA C1.t C1.L (tyF G k (mnA G k) S.F)).2.2.2; rw [t4]; exact tyF_PR (tyF_PR hFR)) hog hcg) (fun _ => OW_fst _ _ _ _ _ _ _) hS hP hD (List.range' 0 57) (OW_get _ _ _ _ _) (by decide) (fun _ => OW_put _ _ _ _ _ _ _ _ _) yw_L_load kw_17_16 kw_17_17 ⟨Nat.le_of_ble_eq_true rfl, Nat.le_of_ble_eq_true rfl⟩ hl.1 (Nat.le_of_ble_eq_true rfl) dL_acts_116 rfl rfl ⟨Nat.le_of_ble_eq_true rfl, Nat.le_of_ble_eq_true rfl⟩ (fun r116 u116 H locs hp116 hP hD hS => ?_)
        have hp116 : r116 = nI (rdA C1.t C1.L (tyF G k (mnA G k) S.F)).2.1 ∧ SV (rdA C1.t C1.L (tyF G k (mnA G k) S.F)).2.2.2 u116 (0 + (rdA C1.t C1.L (tyF G k (mnA G k) S.F)).2.1) := hp116
        rw [t4] at hp116
        have hP : va_P D vwCl (OW G q K (S.sav (ldX S.x (rdA C1.t C1.L (tyF G k (mnA G k) S.F)).2.1) (ldY S.y) (rdA C1.t C1.L (tyF G k (mnA G k) S.F)).2.2.2 (rdA C1.t C1.L (tyF G k (mnA G k) S.F)).2.2.2) (u116, 0, (rdA C1.t C1.L (tyF G k (mnA G k) S.F)).2.1, (rdA C1.t C1.L (tyF G k (mnA G k) S.F)).2.2.1, C1.t, C1.v, C1.w, C1.c)) H := hP
        rw [t4] at hP
        have hP : va_P D vwCl (OW G q K (S.sav (ldX S.x (mnA G k)) (ldY S.y) (tyF G k (mnA G k) (tyF G k (mnA G k) S.F)) (tyF G k (mnA G k) (tyF G k (mnA G k) S.F))) (u116, 0, mnA G k, coN G (k + (mnA G k - 1)), C1.t, C1.v, C1.w, C1.c)) H := hP
        refine ro_top (z := nI (mnA G k)) hx hp116.1 ?_
        refine W.widen (k := 1) (n := 6) (by decide) (by decide) ?_
        exact endI C9 rfl (u116, 0, mnA G k, coN G (k + (mnA G k - 1)), C1.t, C1.v, C1.w, C1.c) ⟨rfl, hp116.2, Nat.zero_le _, fun j hj => absurd hj (Nat.not_lt_zero _)⟩ hS hP dL_acts_119
      · have c_107 := neq_f (a := C1.L) (b := C1.L) (by omega) (by omega) c_107
        omega
  · have c_16 := neq_t (a := S.x 14) (b := 0) (by omega) (by omega) c_16
    omega
set_option maxHeartbeats 1600000 in
set_option maxRecDepth 100000 in
theorem mL_acts_pl1 (l : Launch) (D : va_G) (G : u_G) (q : Nat) (K : AD) (S : AS) (C : SC) (k : Nat) (hk : k < 40) (hN : G.2.2.2.2.2.1 ≤ 260) (hA0 : AOK S) (hC0 : COK S C) (hz : ¬ S.x 14 = 0) (hj : ceN G k % 16 = 1) (hm : tk (ceN G k / 16 % 4) ≤ S.x 14) : MtI l D G yL_acts cL_acts 7 .int 40 1 6 [.ref q, .ref G.2.2.2.2.1, .int (nI k)] (OW G q K S C) (fun (r : Int32) (u : SC) => r = cn S.p (S.x 13) (S.x 14) (ceN G k / 16 % 4) ∧ COK (S.sav (mvX S.x (ceN G k / 16 % 4)) (mvY S.p S.x S.y (ceN G k / 16 % 4)) S.p S.F) u) (fun (u : SC) => OW G q K (S.sav (mvX S.x (ceN G k / 16 % 4)) (mvY S.p S.x S.y (ceN G k / 16 % 4)) S.p S.F) u) := by
  refine MtI.of (by decide) (Nat.le_of_ble_eq_true rfl) ?_
  intro pr e s9 m9 below meth c9 A ls C9 hP hD hl
  obtain ⟨hx, hb, hml, hown, hts, hr, hlocks, hA, hAm⟩ := id C9
  have hS : va_S A s9.heap s9.heap [] := va_S.rf
  have hl : lv_has ls 7 [(0, .ref q), (1, .ref G.2.2.2.2.1), (2, .int (nI k))] := hl
  have hce := ceN_lt G k
  obtain ⟨⟨⟨w1, w2, w3, ⟨w4a, w4⟩, w5⟩, ⟨w6, w7⟩, w8, w9, w10⟩, hog, hcg, hSVD, hFR⟩ := id hA0
  obtain ⟨hSV, hL6, ht6⟩ := id hC0
  refine lv_aload_n hx hb dL_acts_0 rfl (lv_at hl 1 rfl) ?_
  refine lv_iload_n hx hb dL_acts_1 rfl (lv_at hl 2 rfl) ?_
  refine oS (As := [.ref G.2.2.2.2.1, .int (nI k)]) (rest := []) C9 (mL_cell l D G k (by omega) hN) (fun _ => rfl) hS hP hD [] rfl (by decide) (fun _ => rfl) ys_L_cell kw_16_15 kw_16_16 ⟨Nat.le_of_ble_eq_true rfl, Nat.le_of_ble_eq_true rfl⟩ hl.1 (Nat.le_of_ble_eq_true rfl) dL_acts_2 rfl rfl ⟨Nat.le_of_ble_eq_true rfl, Nat.le_of_ble_eq_true rfl⟩ (fun r2 u2 H locs hp2 hP hD hS => ?_)
  refine ro_top (z := nI (ceN G k)) hx hp2 ?_
  refine lv_istore_n (lv' := [(3, .int (nI (ceN G k))), (0, .ref q), (1, .ref G.2.2.2.2.1), (2, .int (nI k))]) hx hb dL_acts_5 rfl hl (by decide) rfl (fun ls hl => ?_)
  refine lv_iload_n hx hb dL_acts_6 rfl (lv_at hl 0 rfl) ?_
  refine lv_bipush (v := 16) hx hb dL_acts_7 (by decide) ?_
  refine lv_idiv hx hb dL_acts_9 (by decide) ?_
  refine ro_top (z := nI ((ceN G k) / 16)) hx (nI_div (a := ceN G k) (b := 16) (by omega) (by decide)) ?_
  refine lv_istore (lv' := [(4, .int (nI ((ceN G k) / 16))), (3, .int (nI (ceN G k))), (0, .ref q), (1, .ref G.2.2.2.2.1), (2, .int (nI k))]) hx hb dL_acts_10 hl (by decide) rfl (fun ls hl => ?_)
  refine lv_aload_n hx hb dL_acts_12 rfl (lv_at hl 2 rfl) ?_
  refine oV (As := []) (rest := []) (q0 := 0) (ci := 7) (T := TX7) (N := 5) C9 (o_left l D G q K S C) (fun _ => OW_fst _ _ _ _ _ _ _) hS hP hD (List.range' 0 57) (OW_get _ _ _ _ _) (by decide) (fun _ => OW_put _ _ _ _ _ _ _ _ _) rfl rfl ys_X7_left kw_12_1 kw_12_2 kw_12_3 ⟨Nat.le_of_ble_eq_true rfl, Nat.le_of_ble_eq_true rfl⟩ hl.1 (Nat.le_of_ble_eq_true rfl) dL_acts_13 rfl rfl ⟨Nat.le_of_ble_eq_true rfl, Nat.le_of_ble_eq_true rfl⟩ (fun r13 u13 H locs hp13 hP hD hS => ?_)
  refine ro_top (z := nI (S.x 14)) hx hp13 ?_
  refine lv_if_ne (tgt := 23) hx hb dL_acts_16 (by decide) (fun c_16 => ?_) (fun c_16 => ?_)
  · have c_16 := neq_f (a := S.x 14) (b := 0) (by omega) (by omega) c_16
    refine lv_iload_n hx hb dL_acts_23 rfl (lv_at hl 1 rfl) ?_
    refine lv_bipush (v := 16) hx hb dL_acts_24 (by decide) ?_
    refine ro_irem (z := nI ((ceN G k) % 16)) hx hb (by decide) (nI_rem (a := ceN G k) (b := 16) (by omega) (by decide)) dL_acts_26 ?_
    refine ro_top (z := 1) hx (by rw [hj]; rfl) ?_
    refine lv_tableIn (off := 93) (tgt := 120) hx hb dL_acts_27 (by decide) (by decide) (by decide) (by decide) ?_
    refine lv_aload_n hx hb dL_acts_120 rfl (lv_at hl 2 rfl) ?_
    refine lv_iload hx hb dL_acts_121 (lv_at hl 0 rfl) ?_
    refine lv_iconst (v := 4) hx hb dL_acts_123 (by decide) ?_
    refine ro_irem (z := nI (((ceN G k) / 16) % 4)) hx hb (by decide) (nI_rem (a := (ceN G k) / 16) (b := 4) (by omega) (by decide)) dL_acts_124 ?_
    refine oW (As := [.ref q, .int (nI (((ceN G k) / 16) % 4))]) (rest := []) C9 (mL_play_ok l D G q K S C (ceN G k / 16 % 4) (by omega) hm w1 w2 hog hcg) (fun _ => OW_fst _ _ _ _ _ _ _) hS hP hD (List.range' 0 57) (OW_get _ _ _ _ _) (by decide) (fun _ => OW_put _ _ _ _ _ _ _ _ _) yw_L_play kw_18_14 kw_18_15 ⟨Nat.le_of_ble_eq_true rfl, Nat.le_of_ble_eq_true rfl⟩ hl.1 (Nat.le_of_ble_eq_true rfl) dL_acts_125 rfl rfl ⟨Nat.le_of_ble_eq_true rfl, Nat.le_of_ble_eq_true rfl⟩ (fun r125 u125 H locs hp125 hP hD hS => ?_)
    refine ro_top (z := cn S.p (S.x 13) (S.x 14) (ceN G k / 16 % 4)) hx hp125 ?_
    refine W.widen (k := 1) (n := 6) (by decide) (by decide) ?_
    exact endI C9 rfl C ⟨rfl, hC0.le rfl (mvX_sum hm) rfl rfl rfl⟩ hS hP dL_acts_128
  · have c_16 := neq_t (a := S.x 14) (b := 0) (by omega) (by omega) c_16
    omega
set_option maxHeartbeats 1600000 in
set_option maxRecDepth 100000 in
theorem mL_acts_pt1 (l : Launch) (D : va_G) (G : u_G) (q : Nat) (K : AD) (S : AS) (C : SC) (k : Nat) (hk : k < 40) (hN : G.2.2.2.2.2.1 ≤ 260) (hA0 : AOK S) (hC0 : COK S C) (hlt : l.stackTraces = false) (hz : ¬ S.x 14 = 0) (hj : ceN G k % 16 = 1) (hm : ¬ tk (ceN G k / 16 % 4) ≤ S.x 14) : MtI l D G yL_acts cL_acts 7 .int 40 1 6 [.ref q, .ref G.2.2.2.2.1, .int (nI k)] (OW G q K S C) (fun (r : Int32) (u : SC) => r = (-2) ∧ COK S u) (fun (u : SC) => OW G q K S u) := by
  refine MtI.of (by decide) (Nat.le_of_ble_eq_true rfl) ?_
  intro pr e s9 m9 below meth c9 A ls C9 hP hD hl
  obtain ⟨hx, hb, hml, hown, hts, hr, hlocks, hA, hAm⟩ := id C9
  have hS : va_S A s9.heap s9.heap [] := va_S.rf
  have hl : lv_has ls 7 [(0, .ref q), (1, .ref G.2.2.2.2.1), (2, .int (nI k))] := hl
  have hce := ceN_lt G k
  obtain ⟨⟨⟨w1, w2, w3, ⟨w4a, w4⟩, w5⟩, ⟨w6, w7⟩, w8, w9, w10⟩, hog, hcg, hSVD, hFR⟩ := id hA0
  obtain ⟨hSV, hL6, ht6⟩ := id hC0
  refine lv_aload_n hx hb dL_acts_0 rfl (lv_at hl 1 rfl) ?_
  refine lv_iload_n hx hb dL_acts_1 rfl (lv_at hl 2 rfl) ?_
  refine oS (As := [.ref G.2.2.2.2.1, .int (nI k)]) (rest := []) C9 (mL_cell l D G k (by omega) hN) (fun _ => rfl) hS hP hD [] rfl (by decide) (fun _ => rfl) ys_L_cell kw_16_15 kw_16_16 ⟨Nat.le_of_ble_eq_true rfl, Nat.le_of_ble_eq_true rfl⟩ hl.1 (Nat.le_of_ble_eq_true rfl) dL_acts_2 rfl rfl ⟨Nat.le_of_ble_eq_true rfl, Nat.le_of_ble_eq_true rfl⟩ (fun r2 u2 H locs hp2 hP hD hS => ?_)
  refine ro_top (z := nI (ceN G k)) hx hp2 ?_
  refine lv_istore_n (lv' := [(3, .int (nI (ceN G k))), (0, .ref q), (1, .ref G.2.2.2.2.1), (2, .int (nI k))]) hx hb dL_acts_5 rfl hl (by decide) rfl (fun ls hl => ?_)
  refine lv_iload_n hx hb dL_acts_6 rfl (lv_at hl 0 rfl) ?_
  refine lv_bipush (v := 16) hx hb dL_acts_7 (by decide) ?_
  refine lv_idiv hx hb dL_acts_9 (by decide) ?_
  refine ro_top (z := nI ((ceN G k) / 16)) hx (nI_div (a := ceN G k) (b := 16) (by omega) (by decide)) ?_
  refine lv_istore (lv' := [(4, .int (nI ((ceN G k) / 16))), (3, .int (nI (ceN G k))), (0, .ref q), (1, .ref G.2.2.2.2.1), (2, .int (nI k))]) hx hb dL_acts_10 hl (by decide) rfl (fun ls hl => ?_)
  refine lv_aload_n hx hb dL_acts_12 rfl (lv_at hl 2 rfl) ?_
  refine oV (As := []) (rest := []) (q0 := 0) (ci := 7) (T := TX7) (N := 5) C9 (o_left l D G q K S C) (fun _ => OW_fst _ _ _ _ _ _ _) hS hP hD (List.range' 0 57) (OW_get _ _ _ _ _) (by decide) (fun _ => OW_put _ _ _ _ _ _ _ _ _) rfl rfl ys_X7_left kw_12_1 kw_12_2 kw_12_3 ⟨Nat.le_of_ble_eq_true rfl, Nat.le_of_ble_eq_true rfl⟩ hl.1 (Nat.le_of_ble_eq_true rfl) dL_acts_13 rfl rfl ⟨Nat.le_of_ble_eq_true rfl, Nat.le_of_ble_eq_true rfl⟩ (fun r13 u13 H locs hp13 hP hD hS => ?_)
  refine ro_top (z := nI (S.x 14)) hx hp13 ?_
  refine lv_if_ne (tgt := 23) hx hb dL_acts_16 (by decide) (fun c_16 => ?_) (fun c_16 => ?_)
  · have c_16 := neq_f (a := S.x 14) (b := 0) (by omega) (by omega) c_16
    refine lv_iload_n hx hb dL_acts_23 rfl (lv_at hl 1 rfl) ?_
    refine lv_bipush (v := 16) hx hb dL_acts_24 (by decide) ?_
    refine ro_irem (z := nI ((ceN G k) % 16)) hx hb (by decide) (nI_rem (a := ceN G k) (b := 16) (by omega) (by decide)) dL_acts_26 ?_
    refine ro_top (z := 1) hx (by rw [hj]; rfl) ?_
    refine lv_tableIn (off := 93) (tgt := 120) hx hb dL_acts_27 (by decide) (by decide) (by decide) (by decide) ?_
    refine lv_aload_n hx hb dL_acts_120 rfl (lv_at hl 2 rfl) ?_
    refine lv_iload hx hb dL_acts_121 (lv_at hl 0 rfl) ?_
    refine lv_iconst (v := 4) hx hb dL_acts_123 (by decide) ?_
    refine ro_irem (z := nI (((ceN G k) / 16) % 4)) hx hb (by decide) (nI_rem (a := (ceN G k) / 16) (b := 4) (by omega) (by decide)) dL_acts_124 ?_
    refine oW (As := [.ref q, .int (nI (((ceN G k) / 16) % 4))]) (rest := []) C9 (mL_play_T2 l D G q K S C hlt (ceN G k / 16 % 4) (by omega) hm (by omega)) (fun _ => OW_fst _ _ _ _ _ _ _) hS hP hD (List.range' 0 57) (OW_get _ _ _ _ _) (by decide) (fun _ => OW_put _ _ _ _ _ _ _ _ _) yw_L_play kw_18_14 kw_18_15 ⟨Nat.le_of_ble_eq_true rfl, Nat.le_of_ble_eq_true rfl⟩ hl.1 (Nat.le_of_ble_eq_true rfl) dL_acts_125 rfl rfl ⟨Nat.le_of_ble_eq_true rfl, Nat.le_of_ble_eq_true rfl⟩ (fun r125 u125 H locs hp125 hP hD hS => ?_)
    refine ro_top (z := (-2)) hx hp125 ?_
    exact endI C9 rfl C ⟨rfl, hC0⟩ hS hP dL_acts_128
  · have c_16 := neq_t (a := S.x 14) (b := 0) (by omega) (by omega) c_16
    omega
set_option maxHeartbeats 1600000 in
set_option maxRecDepth 100000 in
theorem mL_acts_pl2 (l : Launch) (D : va_G) (G : u_G) (q : Nat) (K : AD) (S : AS) (C : SC) (k : Nat) (hk : k < 40) (hN : G.2.2.2.2.2.1 ≤ 260) (hA0 : AOK S) (hC0 : COK S C) (hz : ¬ S.x 14 = 0) (hj : ceN G k % 16 = 2) (hm : tk (ceN G k / 16 % 4) ≤ S.x 14) : MtI l D G yL_acts cL_acts 7 .int 40 1 6 [.ref q, .ref G.2.2.2.2.1, .int (nI k)] (OW G q K S C) (fun (r : Int32) (u : SC) => r = cn S.p (S.x 13) (S.x 14) (ceN G k / 16 % 4) ∧ COK (S.sav (mvX S.x (ceN G k / 16 % 4)) (mvY S.p S.x S.y (ceN G k / 16 % 4)) S.p S.F) u) (fun (u : SC) => OW G q K (S.sav (mvX S.x (ceN G k / 16 % 4)) (mvY S.p S.x S.y (ceN G k / 16 % 4)) S.p S.F) u) := by
  refine MtI.of (by decide) (Nat.le_of_ble_eq_true rfl) ?_
  intro pr e s9 m9 below meth c9 A ls C9 hP hD hl
  obtain ⟨hx, hb, hml, hown, hts, hr, hlocks, hA, hAm⟩ := id C9
  have hS : va_S A s9.heap s9.heap [] := va_S.rf
  have hl : lv_has ls 7 [(0, .ref q), (1, .ref G.2.2.2.2.1), (2, .int (nI k))] := hl
  have hce := ceN_lt G k
  obtain ⟨⟨⟨w1, w2, w3, ⟨w4a, w4⟩, w5⟩, ⟨w6, w7⟩, w8, w9, w10⟩, hog, hcg, hSVD, hFR⟩ := id hA0
  obtain ⟨hSV, hL6, ht6⟩ := id hC0
  refine lv_aload_n hx hb dL_acts_0 rfl (lv_at hl 1 rfl) ?_
  refine lv_iload_n hx hb dL_acts_1 rfl (lv_at hl 2 rfl) ?_
  refine oS (As := [.ref G.2.2.2.2.1, .int (nI k)]) (rest := []) C9 (mL_cell l D G k (by omega) hN) (fun _ => rfl) hS hP hD [] rfl (by decide) (fun _ => rfl) ys_L_cell kw_16_15 kw_16_16 ⟨Nat.le_of_ble_eq_true rfl, Nat.le_of_ble_eq_true rfl⟩ hl.1 (Nat.le_of_ble_eq_true rfl) dL_acts_2 rfl rfl ⟨Nat.le_of_ble_eq_true rfl, Nat.le_of_ble_eq_true rfl⟩ (fun r2 u2 H locs hp2 hP hD hS => ?_)
  refine ro_top (z := nI (ceN G k)) hx hp2 ?_
  refine lv_istore_n (lv' := [(3, .int (nI (ceN G k))), (0, .ref q), (1, .ref G.2.2.2.2.1), (2, .int (nI k))]) hx hb dL_acts_5 rfl hl (by decide) rfl (fun ls hl => ?_)
  refine lv_iload_n hx hb dL_acts_6 rfl (lv_at hl 0 rfl) ?_
  refine lv_bipush (v := 16) hx hb dL_acts_7 (by decide) ?_
  refine lv_idiv hx hb dL_acts_9 (by decide) ?_
  refine ro_top (z := nI ((ceN G k) / 16)) hx (nI_div (a := ceN G k) (b := 16) (by omega) (by decide)) ?_
  refine lv_istore (lv' := [(4, .int (nI ((ceN G k) / 16))), (3, .int (nI (ceN G k))), (0, .ref q), (1, .ref G.2.2.2.2.1), (2, .int (nI k))]) hx hb dL_acts_10 hl (by decide) rfl (fun ls hl => ?_)
  refine lv_aload_n hx hb dL_acts_12 rfl (lv_at hl 2 rfl) ?_
  refine oV (As := []) (rest := []) (q0 := 0) (ci := 7) (T := TX7) (N := 5) C9 (o_left l D G q K S C) (fun _ => OW_fst _ _ _ _ _ _ _) hS hP hD (List.range' 0 57) (OW_get _ _ _ _ _) (by decide) (fun _ => OW_put _ _ _ _ _ _ _ _ _) rfl rfl ys_X7_left kw_12_1 kw_12_2 kw_12_3 ⟨Nat.le_of_ble_eq_true rfl, Nat.le_of_ble_eq_true rfl⟩ hl.1 (Nat.le_of_ble_eq_true rfl) dL_acts_13 rfl rfl ⟨Nat.le_of_ble_eq_true rfl, Nat.le_of_ble_eq_true rfl⟩ (fun r13 u13 H locs hp13 hP hD hS => ?_)
  refine ro_top (z := nI (S.x 14)) hx hp13 ?_
  refine lv_if_ne (tgt := 23) hx hb dL_acts_16 (by decide) (fun c_16 => ?_) (fun c_16 => ?_)
  · have c_16 := neq_f (a := S.x 14) (b := 0) (by omega) (by omega) c_16
    refine lv_iload_n hx hb dL_acts_23 rfl (lv_at hl 1 rfl) ?_
    refine lv_bipush (v := 16) hx hb dL_acts_24 (by decide) ?_
    refine ro_irem (z := nI ((ceN G k) % 16)) hx hb (by decide) (nI_rem (a := ceN G k) (b := 16) (by omega) (by decide)) dL_acts_26 ?_
    refine ro_top (z := 2) hx (by rw [hj]; rfl) ?_
    refine lv_tableIn (off := 93) (tgt := 120) hx hb dL_acts_27 (by decide) (by decide) (by decide) (by decide) ?_
    refine lv_aload_n hx hb dL_acts_120 rfl (lv_at hl 2 rfl) ?_
    refine lv_iload hx hb dL_acts_121 (lv_at hl 0 rfl) ?_
    refine lv_iconst (v := 4) hx hb dL_acts_123 (by decide) ?_
    refine ro_irem (z := nI (((ceN G k) / 16) % 4)) hx hb (by decide) (nI_rem (a := (ceN G k) / 16) (b := 4) (by omega) (by decide)) dL_acts_124 ?_
    refine oW (As := [.ref q, .int (nI (((ceN G k) / 16) % 4))]) (rest := []) C9 (mL_play_ok l D G q K S C (ceN G k / 16 % 4) (by omega) hm w1 w2 hog hcg) (fun _ => OW_fst _ _ _ _ _ _ _) hS hP hD (List.range' 0 57) (OW_get _ _ _ _ _) (by decide) (fun _ => OW_put _ _ _ _ _ _ _ _ _) yw_L_play kw_18_14 kw_18_15 ⟨Nat.le_of_ble_eq_true rfl, Nat.le_of_ble_eq_true rfl⟩ hl.1 (Nat.le_of_ble_eq_true rfl) dL_acts_125 rfl rfl ⟨Nat.le_of_ble_eq_true rfl, Nat.le_of_ble_eq_true rfl⟩ (fun r125 u125 H locs hp125 hP hD hS => ?_)
    refine ro_top (z := cn S.p (S.x 13) (S.x 14) (ceN G k / 16 % 4)) hx hp125 ?_
    refine W.widen (k := 1) (n := 6) (by decide) (by decide) ?_
    exact endI C9 rfl C ⟨rfl, hC0.le rfl (mvX_sum hm) rfl rfl rfl⟩ hS hP dL_acts_128
  · have c_16 := neq_t (a := S.x 14) (b := 0) (by omega) (by omega) c_16
    omega
set_option maxHeartbeats 1600000 in
set_option maxRecDepth 100000 in
theorem mL_acts_pt2 (l : Launch) (D : va_G) (G : u_G) (q : Nat) (K : AD) (S : AS) (C : SC) (k : Nat) (hk : k < 40) (hN : G.2.2.2.2.2.1 ≤ 260) (hA0 : AOK S) (hC0 : COK S C) (hlt : l.stackTraces = false) (hz : ¬ S.x 14 = 0) (hj : ceN G k % 16 = 2) (hm : ¬ tk (ceN G k / 16 % 4) ≤ S.x 14) : MtI l D G yL_acts cL_acts 7 .int 40 1 6 [.ref q, .ref G.2.2.2.2.1, .int (nI k)] (OW G q K S C) (fun (r : Int32) (u : SC) => r = (-2) ∧ COK S u) (fun (u : SC) => OW G q K S u) := by
  refine MtI.of (by decide) (Nat.le_of_ble_eq_true rfl) ?_
  intro pr e s9 m9 below meth c9 A ls C9 hP hD hl
  obtain ⟨hx, hb, hml, hown, hts, hr, hlocks, hA, hAm⟩ := id C9
  have hS : va_S A s9.heap s9.heap [] := va_S.rf
  have hl : lv_has ls 7 [(0, .ref q), (1, .ref G.2.2.2.2.1), (2, .int (nI k))] := hl
  have hce := ceN_lt G k
  obtain ⟨⟨⟨w1, w2, w3, ⟨w4a, w4⟩, w5⟩, ⟨w6, w7⟩, w8, w9, w10⟩, hog, hcg, hSVD, hFR⟩ := id hA0
  obtain ⟨hSV, hL6, ht6⟩ := id hC0
  refine lv_aload_n hx hb dL_acts_0 rfl (lv_at hl 1 rfl) ?_
  refine lv_iload_n hx hb dL_acts_1 rfl (lv_at hl 2 rfl) ?_
  refine oS (As := [.ref G.2.2.2.2.1, .int (nI k)]) (rest := []) C9 (mL_cell l D G k (by omega) hN) (fun _ => rfl) hS hP hD [] rfl (by decide) (fun _ => rfl) ys_L_cell kw_16_15 kw_16_16 ⟨Nat.le_of_ble_eq_true rfl, Nat.le_of_ble_eq_true rfl⟩ hl.1 (Nat.le_of_ble_eq_true rfl) dL_acts_2 rfl rfl ⟨Nat.le_of_ble_eq_true rfl, Nat.le_of_ble_eq_true rfl⟩ (fun r2 u2 H locs hp2 hP hD hS => ?_)
  refine ro_top (z := nI (ceN G k)) hx hp2 ?_
  refine lv_istore_n (lv' := [(3, .int (nI (ceN G k))), (0, .ref q), (1, .ref G.2.2.2.2.1), (2, .int (nI k))]) hx hb dL_acts_5 rfl hl (by decide) rfl (fun ls hl => ?_)
  refine lv_iload_n hx hb dL_acts_6 rfl (lv_at hl 0 rfl) ?_
  refine lv_bipush (v := 16) hx hb dL_acts_7 (by decide) ?_
  refine lv_idiv hx hb dL_acts_9 (by decide) ?_
  refine ro_top (z := nI ((ceN G k) / 16)) hx (nI_div (a := ceN G k) (b := 16) (by omega) (by decide)) ?_
  refine lv_istore (lv' := [(4, .int (nI ((ceN G k) / 16))), (3, .int (nI (ceN G k))), (0, .ref q), (1, .ref G.2.2.2.2.1), (2, .int (nI k))]) hx hb dL_acts_10 hl (by decide) rfl (fun ls hl => ?_)
  refine lv_aload_n hx hb dL_acts_12 rfl (lv_at hl 2 rfl) ?_
  refine oV (As := []) (rest := []) (q0 := 0) (ci := 7) (T := TX7) (N := 5) C9 (o_left l D G q K S C) (fun _ => OW_fst _ _ _ _ _ _ _) hS hP hD (List.range' 0 57) (OW_get _ _ _ _ _) (by decide) (fun _ => OW_put _ _ _ _ _ _ _ _ _) rfl rfl ys_X7_left kw_12_1 kw_12_2 kw_12_3 ⟨Nat.le_of_ble_eq_true rfl, Nat.le_of_ble_eq_true rfl⟩ hl.1 (Nat.le_of_ble_eq_true rfl) dL_acts_13 rfl rfl ⟨Nat.le_of_ble_eq_true rfl, Nat.le_of_ble_eq_true rfl⟩ (fun r13 u13 H locs hp13 hP hD hS => ?_)
  refine ro_top (z := nI (S.x 14)) hx hp13 ?_
  refine lv_if_ne (tgt := 23) hx hb dL_acts_16 (by decide) (fun c_16 => ?_) (fun c_16 => ?_)
  · have c_16 := neq_f (a := S.x 14) (b := 0) (by omega) (by omega) c_16
    refine lv_iload_n hx hb dL_acts_23 rfl (lv_at hl 1 rfl) ?_
    refine lv_bipush (v := 16) hx hb dL_acts_24 (by decide) ?_
    refine ro_irem (z := nI ((ceN G k) % 16)) hx hb (by decide) (nI_rem (a := ceN G k) (b := 16) (by omega) (by decide)) dL_acts_26 ?_
    refine ro_top (z := 2) hx (by rw [hj]; rfl) ?_
    refine lv_tableIn (off := 93) (tgt := 120) hx hb dL_acts_27 (by decide) (by decide) (by decide) (by decide) ?_
    refine lv_aload_n hx hb dL_acts_120 rfl (lv_at hl 2 rfl) ?_
    refine lv_iload hx hb dL_acts_121 (lv_at hl 0 rfl) ?_
    refine lv_iconst (v := 4) hx hb dL_acts_123 (by decide) ?_
    refine ro_irem (z := nI (((ceN G k) / 16) % 4)) hx hb (by decide) (nI_rem (a := (ceN G k) / 16) (b := 4) (by omega) (by decide)) dL_acts_124 ?_
    refine oW (As := [.ref q, .int (nI (((ceN G k) / 16) % 4))]) (rest := []) C9 (mL_play_T2 l D G q K S C hlt (ceN G k / 16 % 4) (by omega) hm (by omega)) (fun _ => OW_fst _ _ _ _ _ _ _) hS hP hD (List.range' 0 57) (OW_get _ _ _ _ _) (by decide) (fun _ => OW_put _ _ _ _ _ _ _ _ _) yw_L_play kw_18_14 kw_18_15 ⟨Nat.le_of_ble_eq_true rfl, Nat.le_of_ble_eq_true rfl⟩ hl.1 (Nat.le_of_ble_eq_true rfl) dL_acts_125 rfl rfl ⟨Nat.le_of_ble_eq_true rfl, Nat.le_of_ble_eq_true rfl⟩ (fun r125 u125 H locs hp125 hP hD hS => ?_)
    refine ro_top (z := (-2)) hx hp125 ?_
    exact endI C9 rfl C ⟨rfl, hC0⟩ hS hP dL_acts_128
  · have c_16 := neq_t (a := S.x 14) (b := 0) (by omega) (by omega) c_16
    omega
set_option maxHeartbeats 1600000 in
set_option maxRecDepth 100000 in
theorem mL_acts_pb (l : Launch) (D : va_G) (G : u_G) (q : Nat) (K : AD) (S : AS) (C : SC) (k : Nat) (hk : k < 40) (hN : G.2.2.2.2.2.1 ≤ 260) (hA0 : AOK S) (hC0 : COK S C) (hz : ¬ S.x 14 = 0) (hj : ceN G k % 16 = 3) : MtI l D G yL_acts cL_acts 7 .int 40 1 6 [.ref q, .ref G.2.2.2.2.1, .int (nI k)] (OW G q K S C) (fun (r : Int32) (u : SC) => r = nI (plN S.p S.x S.y (1 + ceN G k / 16 % 2)) ∧ COK (S.sav (plS S.p S.x S.y (1 + ceN G k / 16 % 2)).1 (plS S.p S.x S.y (1 + ceN G k / 16 % 2)).2 S.p S.F) u) (fun (u : SC) => OW G q K (S.sav (plS S.p S.x S.y (1 + ceN G k / 16 % 2)).1 (plS S.p S.x S.y (1 + ceN G k / 16 % 2)).2 S.p S.F) u) := by
  refine MtI.of (by decide) (Nat.le_of_ble_eq_true rfl) ?_
  intro pr e s9 m9 below meth c9 A ls C9 hP hD hl
  obtain ⟨hx, hb, hml, hown, hts, hr, hlocks, hA, hAm⟩ := id C9
  have hS : va_S A s9.heap s9.heap [] := va_S.rf
  have hl : lv_has ls 7 [(0, .ref q), (1, .ref G.2.2.2.2.1), (2, .int (nI k))] := hl
  have hce := ceN_lt G k
  obtain ⟨⟨⟨w1, w2, w3, ⟨w4a, w4⟩, w5⟩, ⟨w6, w7⟩, w8, w9, w10⟩, hog, hcg, hSVD, hFR⟩ := id hA0
  obtain ⟨hSV, hL6, ht6⟩ := id hC0
  refine lv_aload_n hx hb dL_acts_0 rfl (lv_at hl 1 rfl) ?_
  refine lv_iload_n hx hb dL_acts_1 rfl (lv_at hl 2 rfl) ?_
  refine oS (As := [.ref G.2.2.2.2.1, .int (nI k)]) (rest := []) C9 (mL_cell l D G k (by omega) hN) (fun _ => rfl) hS hP hD [] rfl (by decide) (fun _ => rfl) ys_L_cell kw_16_15 kw_16_16 ⟨Nat.le_of_ble_eq_true rfl, Nat.le_of_ble_eq_true rfl⟩ hl.1 (Nat.le_of_ble_eq_true rfl) dL_acts_2 rfl rfl ⟨Nat.le_of_ble_eq_true rfl, Nat.le_of_ble_eq_true rfl⟩ (fun r2 u2 H locs hp2 hP hD hS => ?_)
  refine ro_top (z := nI (ceN G k)) hx hp2 ?_
  refine lv_istore_n (lv' := [(3, .int (nI (ceN G k))), (0, .ref q), (1, .ref G.2.2.2.2.1), (2, .int (nI k))]) hx hb dL_acts_5 rfl hl (by decide) rfl (fun ls hl => ?_)
  refine lv_iload_n hx hb dL_acts_6 rfl (lv_at hl 0 rfl) ?_
  refine lv_bipush (v := 16) hx hb dL_acts_7 (by decide) ?_
  refine lv_idiv hx hb dL_acts_9 (by decide) ?_
  refine ro_top (z := nI ((ceN G k) / 16)) hx (nI_div (a := ceN G k) (b := 16) (by omega) (by decide)) ?_
  refine lv_istore (lv' := [(4, .int (nI ((ceN G k) / 16))), (3, .int (nI (ceN G k))), (0, .ref q), (1, .ref G.2.2.2.2.1), (2, .int (nI k))]) hx hb dL_acts_10 hl (by decide) rfl (fun ls hl => ?_)
  refine lv_aload_n hx hb dL_acts_12 rfl (lv_at hl 2 rfl) ?_
  refine oV (As := []) (rest := []) (q0 := 0) (ci := 7) (T := TX7) (N := 5) C9 (o_left l D G q K S C) (fun _ => OW_fst _ _ _ _ _ _ _) hS hP hD (List.range' 0 57) (OW_get _ _ _ _ _) (by decide) (fun _ => OW_put _ _ _ _ _ _ _ _ _) rfl rfl ys_X7_left kw_12_1 kw_12_2 kw_12_3 ⟨Nat.le_of_ble_eq_true rfl, Nat.le_of_ble_eq_true rfl⟩ hl.1 (Nat.le_of_ble_eq_true rfl) dL_acts_13 rfl rfl ⟨Nat.le_of_ble_eq_true rfl, Nat.le_of_ble_eq_true rfl⟩ (fun r13 u13 H locs hp13 hP hD hS => ?_)
  refine ro_top (z := nI (S.x 14)) hx hp13 ?_
  refine lv_if_ne (tgt := 23) hx hb dL_acts_16 (by decide) (fun c_16 => ?_) (fun c_16 => ?_)
  · have c_16 := neq_f (a := S.x 14) (b := 0) (by omega) (by omega) c_16
    refine lv_iload_n hx hb dL_acts_23 rfl (lv_at hl 1 rfl) ?_
    refine lv_bipush (v := 16) hx hb dL_acts_24 (by decide) ?_
    refine ro_irem (z := nI ((ceN G k) % 16)) hx hb (by decide) (nI_rem (a := ceN G k) (b := 16) (by omega) (by decide)) dL_acts_26 ?_
    refine ro_top (z := 3) hx (by rw [hj]; rfl) ?_
    refine lv_tableIn (off := 102) (tgt := 129) hx hb dL_acts_27 (by decide) (by decide) (by decide) (by decide) ?_
    refine lv_aload_n hx hb dL_acts_129 rfl (lv_at hl 2 rfl) ?_
    refine lv_iconst (v := 1) hx hb dL_acts_130 (by decide) ?_
    refine lv_iload hx hb dL_acts_131 (lv_at hl 0 rfl) ?_
    refine lv_iconst (v := 2) hx hb dL_acts_133 (by decide) ?_
    refine ro_irem (z := nI (((ceN G k) / 16) % 2)) hx hb (by decide) (nI_rem (a := (ceN G k) / 16) (b := 2) (by omega) (by decide)) dL_acts_134 ?_
    refine ro_iadd (z := nI (1 + ((ceN G k) / 16) % 2)) hx hb (nI_add 1 (((ceN G k) / 16) % 2)) dL_acts_135 ?_
    refine oW (As := [.ref q, .int (nI (1 + ((ceN G k) / 16) % 2))]) (rest := []) C9 (mL_playBest_ok l D G q K S C (1 + ceN G k / 16 % 2) w1 w6 hSV w2 hog hcg (by omega) (by omega)) (fun _ => OW_fst _ _ _ _ _ _ _) hS hP hD (List.range' 0 57) (OW_get _ _ _ _ _) (by decide) (fun _ => OW_put _ _ _ _ _ _ _ _ _) yw_L_playBest kw_19_1 kw_19_2 ⟨Nat.le_of_ble_eq_true rfl, Nat.le_of_ble_eq_true rfl⟩ hl.1 (Nat.le_of_ble_eq_true rfl) dL_acts_136 rfl rfl ⟨Nat.le_of_ble_eq_true rfl, Nat.le_of_ble_eq_true rfl⟩ (fun r136 u136 H locs hp136 hP hD hS => ?_)
    refine ro_top (z := nI (plN S.p S.x S.y (1 + ceN G k / 16 % 2))) hx hp136 ?_
    refine W.widen (k := 1) (n := 6) (by decide) (by decide) ?_
    exact endI C9 rfl C ⟨rfl, hC0.le rfl (StW.pl hA0.1 _).2 rfl rfl rfl⟩ hS hP dL_acts_139
  · have c_16 := neq_t (a := S.x 14) (b := 0) (by omega) (by omega) c_16
    omega
set_option maxHeartbeats 1600000 in
set_option maxRecDepth 100000 in
theorem mL_acts_so4 (l : Launch) (D : va_G) (G : u_G) (q : Nat) (K : AD) (S : AS) (C : SC) (k : Nat) (hk : k < 40) (hN : G.2.2.2.2.2.1 ≤ 260) (hA0 : AOK S) (hC0 : COK S C) (hz : ¬ S.x 14 = 0) (hj : ceN G k % 16 = 4) : MtI l D G yL_acts cL_acts 7 .int 40 1 6 [.ref q, .ref G.2.2.2.2.1, .int (nI k)] (OW G q K S C) (fun (r : Int32) (u : SC) => r = nI (S.x 18) ∧ COK (S.sav (va_up S.x 18 (ceN G k / 16 % 24)) S.y S.p S.F) u) (fun (u : SC) => OW G q K (S.sav (va_up S.x 18 (ceN G k / 16 % 24)) S.y S.p S.F) u) := by
  refine MtI.of (by decide) (Nat.le_of_ble_eq_true rfl) ?_
  intro pr e s9 m9 below meth c9 A ls C9 hP hD hl
  obtain ⟨hx, hb, hml, hown, hts, hr, hlocks, hA, hAm⟩ := id C9
  have hS : va_S A s9.heap s9.heap [] := va_S.rf
  have hl : lv_has ls 7 [(0, .ref q), (1, .ref G.2.2.2.2.1), (2, .int (nI k))] := hl
  have hce := ceN_lt G k
  obtain ⟨⟨⟨w1, w2, w3, ⟨w4a, w4⟩, w5⟩, ⟨w6, w7⟩, w8, w9, w10⟩, hog, hcg, hSVD, hFR⟩ := id hA0
  obtain ⟨hSV, hL6, ht6⟩ := id hC0
  refine lv_aload_n hx hb dL_acts_0 rfl (lv_at hl 1 rfl) ?_
  refine lv_iload_n hx hb dL_acts_1 rfl (lv_at hl 2 rfl) ?_
  refine oS (As := [.ref G.2.2.2.2.1, .int (nI k)]) (rest := []) C9 (mL_cell l D G k (by omega) hN) (fun _ => rfl) hS hP hD [] rfl (by decide) (fun _ => rfl) ys_L_cell kw_16_15 kw_16_16 ⟨Nat.le_of_ble_eq_true rfl, Nat.le_of_ble_eq_true rfl⟩ hl.1 (Nat.le_of_ble_eq_true rfl) dL_acts_2 rfl rfl ⟨Nat.le_of_ble_eq_true rfl, Nat.le_of_ble_eq_true rfl⟩ (fun r2 u2 H locs hp2 hP hD hS => ?_)
  refine ro_top (z := nI (ceN G k)) hx hp2 ?_
  refine lv_istore_n (lv' := [(3, .int (nI (ceN G k))), (0, .ref q), (1, .ref G.2.2.2.2.1), (2, .int (nI k))]) hx hb dL_acts_5 rfl hl (by decide) rfl (fun ls hl => ?_)
  refine lv_iload_n hx hb dL_acts_6 rfl (lv_at hl 0 rfl) ?_
  refine lv_bipush (v := 16) hx hb dL_acts_7 (by decide) ?_
  refine lv_idiv hx hb dL_acts_9 (by decide) ?_
  refine ro_top (z := nI ((ceN G k) / 16)) hx (nI_div (a := ceN G k) (b := 16) (by omega) (by decide)) ?_
  refine lv_istore (lv' := [(4, .int (nI ((ceN G k) / 16))), (3, .int (nI (ceN G k))), (0, .ref q), (1, .ref G.2.2.2.2.1), (2, .int (nI k))]) hx hb dL_acts_10 hl (by decide) rfl (fun ls hl => ?_)
  refine lv_aload_n hx hb dL_acts_12 rfl (lv_at hl 2 rfl) ?_
  refine oV (As := []) (rest := []) (q0 := 0) (ci := 7) (T := TX7) (N := 5) C9 (o_left l D G q K S C) (fun _ => OW_fst _ _ _ _ _ _ _) hS hP hD (List.range' 0 57) (OW_get _ _ _ _ _) (by decide) (fun _ => OW_put _ _ _ _ _ _ _ _ _) rfl rfl ys_X7_left kw_12_1 kw_12_2 kw_12_3 ⟨Nat.le_of_ble_eq_true rfl, Nat.le_of_ble_eq_true rfl⟩ hl.1 (Nat.le_of_ble_eq_true rfl) dL_acts_13 rfl rfl ⟨Nat.le_of_ble_eq_true rfl, Nat.le_of_ble_eq_true rfl⟩ (fun r13 u13 H locs hp13 hP hD hS => ?_)
  refine ro_top (z := nI (S.x 14)) hx hp13 ?_
  refine lv_if_ne (tgt := 23) hx hb dL_acts_16 (by decide) (fun c_16 => ?_) (fun c_16 => ?_)
  · have c_16 := neq_f (a := S.x 14) (b := 0) (by omega) (by omega) c_16
    refine lv_iload_n hx hb dL_acts_23 rfl (lv_at hl 1 rfl) ?_
    refine lv_bipush (v := 16) hx hb dL_acts_24 (by decide) ?_
    refine ro_irem (z := nI ((ceN G k) % 16)) hx hb (by decide) (nI_rem (a := ceN G k) (b := 16) (by omega) (by decide)) dL_acts_26 ?_
    refine ro_top (z := 4) hx (by rw [hj]; rfl) ?_
    refine lv_tableIn (off := 113) (tgt := 140) hx hb dL_acts_27 (by decide) (by decide) (by decide) (by decide) ?_
    refine lv_aload_n hx hb dL_acts_140 rfl (lv_at hl 2 rfl) ?_
    refine lv_iload hx hb dL_acts_141 (lv_at hl 0 rfl) ?_
    refine lv_bipush (v := 24) hx hb dL_acts_143 (by decide) ?_
    refine ro_irem (z := nI (((ceN G k) / 16) % 24)) hx hb (by decide) (nI_rem (a := (ceN G k) / 16) (b := 24) (by omega) (by decide)) dL_acts_145 ?_
    refine oW (As := [.ref q, .int (nI (((ceN G k) / 16) % 24))]) (rest := []) C9 (mL_setOrder_ok l D G q K S C (ceN G k / 16 % 24) hog hcg (by omega)) (fun _ => OW_fst _ _ _ _ _ _ _) hS hP hD (List.range' 0 57) (OW_get _ _ _ _ _) (by decide) (fun _ => OW_put _ _ _ _ _ _ _ _ _) yw_L_setOrder kw_19_8 kw_19_9 ⟨Nat.le_of_ble_eq_true rfl, Nat.le_of_ble_eq_true rfl⟩ hl.1 (Nat.le_of_ble_eq_true rfl) dL_acts_146 rfl rfl ⟨Nat.le_of_ble_eq_true rfl, Nat.le_of_ble_eq_true rfl⟩ (fun r146 u146 H locs hp146 hP hD hS => ?_)
    refine ro_top (z := nI (S.x 18)) hx hp146 ?_
    refine W.widen (k := 1) (n := 6) (by decide) (by decide) ?_
    exact endI C9 rfl C ⟨rfl, hC0.le rfl (Nat.le_refl _) rfl rfl rfl⟩ hS hP dL_acts_149
  · have c_16 := neq_t (a := S.x 14) (b := 0) (by omega) (by omega) c_16
    omega
set_option maxHeartbeats 1600000 in
set_option maxRecDepth 100000 in
theorem mL_acts_so5 (l : Launch) (D : va_G) (G : u_G) (q : Nat) (K : AD) (S : AS) (C : SC) (k : Nat) (hk : k < 40) (hN : G.2.2.2.2.2.1 ≤ 260) (hA0 : AOK S) (hC0 : COK S C) (hz : ¬ S.x 14 = 0) (hj : ceN G k % 16 = 5) : MtI l D G yL_acts cL_acts 7 .int 40 1 6 [.ref q, .ref G.2.2.2.2.1, .int (nI k)] (OW G q K S C) (fun (r : Int32) (u : SC) => r = nI (S.x 18) ∧ COK (S.sav (va_up S.x 18 (ceN G k / 16 % 24)) S.y S.p S.F) u) (fun (u : SC) => OW G q K (S.sav (va_up S.x 18 (ceN G k / 16 % 24)) S.y S.p S.F) u) := by
  refine MtI.of (by decide) (Nat.le_of_ble_eq_true rfl) ?_
  intro pr e s9 m9 below meth c9 A ls C9 hP hD hl
  obtain ⟨hx, hb, hml, hown, hts, hr, hlocks, hA, hAm⟩ := id C9
  have hS : va_S A s9.heap s9.heap [] := va_S.rf
  have hl : lv_has ls 7 [(0, .ref q), (1, .ref G.2.2.2.2.1), (2, .int (nI k))] := hl
  have hce := ceN_lt G k
  obtain ⟨⟨⟨w1, w2, w3, ⟨w4a, w4⟩, w5⟩, ⟨w6, w7⟩, w8, w9, w10⟩, hog, hcg, hSVD, hFR⟩ := id hA0
  obtain ⟨hSV, hL6, ht6⟩ := id hC0
  refine lv_aload_n hx hb dL_acts_0 rfl (lv_at hl 1 rfl) ?_
  refine lv_iload_n hx hb dL_acts_1 rfl (lv_at hl 2 rfl) ?_
  refine oS (As := [.ref G.2.2.2.2.1, .int (nI k)]) (rest := []) C9 (mL_cell l D G k (by omega) hN) (fun _ => rfl) hS hP hD [] rfl (by decide) (fun _ => rfl) ys_L_cell kw_16_15 kw_16_16 ⟨Nat.le_of_ble_eq_true rfl, Nat.le_of_ble_eq_true rfl⟩ hl.1 (Nat.le_of_ble_eq_true rfl) dL_acts_2 rfl rfl ⟨Nat.le_of_ble_eq_true rfl, Nat.le_of_ble_eq_true rfl⟩ (fun r2 u2 H locs hp2 hP hD hS => ?_)
  refine ro_top (z := nI (ceN G k)) hx hp2 ?_
  refine lv_istore_n (lv' := [(3, .int (nI (ceN G k))), (0, .ref q), (1, .ref G.2.2.2.2.1), (2, .int (nI k))]) hx hb dL_acts_5 rfl hl (by decide) rfl (fun ls hl => ?_)
  refine lv_iload_n hx hb dL_acts_6 rfl (lv_at hl 0 rfl) ?_
  refine lv_bipush (v := 16) hx hb dL_acts_7 (by decide) ?_
  refine lv_idiv hx hb dL_acts_9 (by decide) ?_
  refine ro_top (z := nI ((ceN G k) / 16)) hx (nI_div (a := ceN G k) (b := 16) (by omega) (by decide)) ?_
  refine lv_istore (lv' := [(4, .int (nI ((ceN G k) / 16))), (3, .int (nI (ceN G k))), (0, .ref q), (1, .ref G.2.2.2.2.1), (2, .int (nI k))]) hx hb dL_acts_10 hl (by decide) rfl (fun ls hl => ?_)
  refine lv_aload_n hx hb dL_acts_12 rfl (lv_at hl 2 rfl) ?_
  refine oV (As := []) (rest := []) (q0 := 0) (ci := 7) (T := TX7) (N := 5) C9 (o_left l D G q K S C) (fun _ => OW_fst _ _ _ _ _ _ _) hS hP hD (List.range' 0 57) (OW_get _ _ _ _ _) (by decide) (fun _ => OW_put _ _ _ _ _ _ _ _ _) rfl rfl ys_X7_left kw_12_1 kw_12_2 kw_12_3 ⟨Nat.le_of_ble_eq_true rfl, Nat.le_of_ble_eq_true rfl⟩ hl.1 (Nat.le_of_ble_eq_true rfl) dL_acts_13 rfl rfl ⟨Nat.le_of_ble_eq_true rfl, Nat.le_of_ble_eq_true rfl⟩ (fun r13 u13 H locs hp13 hP hD hS => ?_)
  refine ro_top (z := nI (S.x 14)) hx hp13 ?_
  refine lv_if_ne (tgt := 23) hx hb dL_acts_16 (by decide) (fun c_16 => ?_) (fun c_16 => ?_)
  · have c_16 := neq_f (a := S.x 14) (b := 0) (by omega) (by omega) c_16
    refine lv_iload_n hx hb dL_acts_23 rfl (lv_at hl 1 rfl) ?_
    refine lv_bipush (v := 16) hx hb dL_acts_24 (by decide) ?_
    refine ro_irem (z := nI ((ceN G k) % 16)) hx hb (by decide) (nI_rem (a := ceN G k) (b := 16) (by omega) (by decide)) dL_acts_26 ?_
    refine ro_top (z := 5) hx (by rw [hj]; rfl) ?_
    refine lv_tableIn (off := 113) (tgt := 140) hx hb dL_acts_27 (by decide) (by decide) (by decide) (by decide) ?_
    refine lv_aload_n hx hb dL_acts_140 rfl (lv_at hl 2 rfl) ?_
    refine lv_iload hx hb dL_acts_141 (lv_at hl 0 rfl) ?_
    refine lv_bipush (v := 24) hx hb dL_acts_143 (by decide) ?_
    refine ro_irem (z := nI (((ceN G k) / 16) % 24)) hx hb (by decide) (nI_rem (a := (ceN G k) / 16) (b := 24) (by omega) (by decide)) dL_acts_145 ?_
    refine oW (As := [.ref q, .int (nI (((ceN G k) / 16) % 24))]) (rest := []) C9 (mL_setOrder_ok l D G q K S C (ceN G k / 16 % 24) hog hcg (by omega)) (fun _ => OW_fst _ _ _ _ _ _ _) hS hP hD (List.range' 0 57) (OW_get _ _ _ _ _) (by decide) (fun _ => OW_put _ _ _ _ _ _ _ _ _) yw_L_setOrder kw_19_8 kw_19_9 ⟨Nat.le_of_ble_eq_true rfl, Nat.le_of_ble_eq_true rfl⟩ hl.1 (Nat.le_of_ble_eq_true rfl) dL_acts_146 rfl rfl ⟨Nat.le_of_ble_eq_true rfl, Nat.le_of_ble_eq_true rfl⟩ (fun r146 u146 H locs hp146 hP hD hS => ?_)
    refine ro_top (z := nI (S.x 18)) hx hp146 ?_
    refine W.widen (k := 1) (n := 6) (by decide) (by decide) ?_
    exact endI C9 rfl C ⟨rfl, hC0.le rfl (Nat.le_refl _) rfl rfl rfl⟩ hS hP dL_acts_149
  · have c_16 := neq_t (a := S.x 14) (b := 0) (by omega) (by omega) c_16
    omega
set_option maxHeartbeats 1600000 in
set_option maxRecDepth 100000 in
theorem mL_acts_sla (l : Launch) (D : va_G) (G : u_G) (q : Nat) (K : AD) (S : AS) (C : SC) (k : Nat) (hk : k < 40) (hN : G.2.2.2.2.2.1 ≤ 260) (hA0 : AOK S) (hC0 : COK S C) (hz : ¬ S.x 14 = 0) (hj : ceN G k % 16 = 6) (h3 : ceN G k / 16 % 3 = 0) : MtI l D G yL_acts cL_acts 7 .int 40 1 6 [.ref q, .ref G.2.2.2.2.1, .int (nI k)] (OW G q K S C) (fun (r : Int32) (u : SC) => r = nI (S.x 19) ∧ COK (S.sav (va_up S.x 19 (1 + ceN G k / 16 / 3 % 80)) S.y S.p S.F) u) (fun (u : SC) => OW G q K (S.sav (va_up S.x 19 (1 + ceN G k / 16 / 3 % 80)) S.y S.p S.F) u) := by
  refine MtI.of (by decide) (Nat.le_of_ble_eq_true rfl) ?_
  intro pr e s9 m9 below meth c9 A ls C9 hP hD hl
  obtain ⟨hx, hb, hml, hown, hts, hr, hlocks, hA, hAm⟩ := id C9
  have hS : va_S A s9.heap s9.heap [] := va_S.rf
  have hl : lv_has ls 7 [(0, .ref q), (1, .ref G.2.2.2.2.1), (2, .int (nI k))] := hl
  have hce := ceN_lt G k
  obtain ⟨⟨⟨w1, w2, w3, ⟨w4a, w4⟩, w5⟩, ⟨w6, w7⟩, w8, w9, w10⟩, hog, hcg, hSVD, hFR⟩ := id hA0
  obtain ⟨hSV, hL6, ht6⟩ := id hC0
  refine lv_aload_n hx hb dL_acts_0 rfl (lv_at hl 1 rfl) ?_
  refine lv_iload_n hx hb dL_acts_1 rfl (lv_at hl 2 rfl) ?_
  refine oS (As := [.ref G.2.2.2.2.1, .int (nI k)]) (rest := []) C9 (mL_cell l D G k (by omega) hN) (fun _ => rfl) hS hP hD [] rfl (by decide) (fun _ => rfl) ys_L_cell kw_16_15 kw_16_16 ⟨Nat.le_of_ble_eq_true rfl, Nat.le_of_ble_eq_true rfl⟩ hl.1 (Nat.le_of_ble_eq_true rfl) dL_acts_2 rfl rfl ⟨Nat.le_of_ble_eq_true rfl, Nat.le_of_ble_eq_true rfl⟩ (fun r2 u2 H locs hp2 hP hD hS => ?_)
  refine ro_top (z := nI (ceN G k)) hx hp2 ?_
  refine lv_istore_n (lv' := [(3, .int (nI (ceN G k))), (0, .ref q), (1, .ref G.2.2.2.2.1), (2, .int (nI k))]) hx hb dL_acts_5 rfl hl (by decide) rfl (fun ls hl => ?_)
  refine lv_iload_n hx hb dL_acts_6 rfl (lv_at hl 0 rfl) ?_
  refine lv_bipush (v := 16) hx hb dL_acts_7 (by decide) ?_
  refine lv_idiv hx hb dL_acts_9 (by decide) ?_
  refine ro_top (z := nI ((ceN G k) / 16)) hx (nI_div (a := ceN G k) (b := 16) (by omega) (by decide)) ?_
  refine lv_istore (lv' := [(4, .int (nI ((ceN G k) / 16))), (3, .int (nI (ceN G k))), (0, .ref q), (1, .ref G.2.2.2.2.1), (2, .int (nI k))]) hx hb dL_acts_10 hl (by decide) rfl (fun ls hl => ?_)
  refine lv_aload_n hx hb dL_acts_12 rfl (lv_at hl 2 rfl) ?_
  refine oV (As := []) (rest := []) (q0 := 0) (ci := 7) (T := TX7) (N := 5) C9 (o_left l D G q K S C) (fun _ => OW_fst _ _ _ _ _ _ _) hS hP hD (List.range' 0 57) (OW_get _ _ _ _ _) (by decide) (fun _ => OW_put _ _ _ _ _ _ _ _ _) rfl rfl ys_X7_left kw_12_1 kw_12_2 kw_12_3 ⟨Nat.le_of_ble_eq_true rfl, Nat.le_of_ble_eq_true rfl⟩ hl.1 (Nat.le_of_ble_eq_true rfl) dL_acts_13 rfl rfl ⟨Nat.le_of_ble_eq_true rfl, Nat.le_of_ble_eq_true rfl⟩ (fun r13 u13 H locs hp13 hP hD hS => ?_)
  refine ro_top (z := nI (S.x 14)) hx hp13 ?_
  refine lv_if_ne (tgt := 23) hx hb dL_acts_16 (by decide) (fun c_16 => ?_) (fun c_16 => ?_)
  · have c_16 := neq_f (a := S.x 14) (b := 0) (by omega) (by omega) c_16
    refine lv_iload_n hx hb dL_acts_23 rfl (lv_at hl 1 rfl) ?_
    refine lv_bipush (v := 16) hx hb dL_acts_24 (by decide) ?_
    refine ro_irem (z := nI ((ceN G k) % 16)) hx hb (by decide) (nI_rem (a := ceN G k) (b := 16) (by omega) (by decide)) dL_acts_26 ?_
    refine ro_top (z := 6) hx (by rw [hj]; rfl) ?_
    refine lv_tableIn (off := 123) (tgt := 150) hx hb dL_acts_27 (by decide) (by decide) (by decide) (by decide) ?_
    refine lv_aload_n hx hb dL_acts_150 rfl (lv_at hl 2 rfl) ?_
    refine lv_iload hx hb dL_acts_151 (lv_at hl 0 rfl) ?_
    refine lv_iconst (v := 3) hx hb dL_acts_153 (by decide) ?_
    refine ro_irem (z := nI (((ceN G k) / 16) % 3)) hx hb (by decide) (nI_rem (a := (ceN G k) / 16) (b := 3) (by omega) (by decide)) dL_acts_154 ?_
    refine lv_if_ne (tgt := 170) hx hb dL_acts_155 (by decide) (fun c_155 => ?_) (fun c_155 => ?_)
    · have c_155 := neq_f (a := ((ceN G k) / 16) % 3) (b := 0) (by omega) (by omega) c_155
      omega
    · have c_155 := neq_t (a := ((ceN G k) / 16) % 3) (b := 0) (by omega) (by omega) c_155
      refine lv_iconst (v := 1) hx hb dL_acts_158 (by decide) ?_
      refine lv_iload hx hb dL_acts_159 (lv_at hl 0 rfl) ?_
      refine lv_iconst (v := 3) hx hb dL_acts_161 (by decide) ?_
      refine lv_idiv hx hb dL_acts_162 (by decide) ?_
      refine ro_top (z := nI (((ceN G k) / 16) / 3)) hx (nI_div (a := (ceN G k) / 16) (b := 3) (by omega) (by decide)) ?_
      refine lv_bipush (v := 80) hx hb dL_acts_163 (by decide) ?_
      refine ro_irem (z := nI ((((ceN G k) / 16) / 3) % 80)) hx hb (by decide) (nI_rem (a := ((ceN G k) / 16) / 3) (b := 80) (by omega) (by decide)) dL_acts_165 ?_
      refine ro_iadd (z := nI (1 + (((ceN G k) / 16) / 3) % 80)) hx hb (nI_add 1 ((((ceN G k) / 16) / 3) % 80)) dL_acts_166 ?_
      refine lv_goto (tgt := 173) hx hb dL_acts_167 (by decide) ?_
      refine oW (As := [.ref q, .int (nI (1 + (((ceN G k) / 16) / 3) % 80))]) (rest := []) C9 (mL_setLimit_ok l D G q K S C (1 + ceN G k / 16 / 3 % 80) hog hcg (by omega) (by omega)) (fun _ => OW_fst _ _ _ _ _ _ _) hS hP hD (List.range' 0 57) (OW_get _ _ _ _ _) (by decide) (fun _ => OW_put _ _ _ _ _ _ _ _ _) yw_L_setLimit kw_19_15 kw_19_16 ⟨Nat.le_of_ble_eq_true rfl, Nat.le_of_ble_eq_true rfl⟩ hl.1 (Nat.le_of_ble_eq_true rfl) dL_acts_173 rfl rfl ⟨Nat.le_of_ble_eq_true rfl, Nat.le_of_ble_eq_true rfl⟩ (fun r173 u173 H locs hp173 hP hD hS => ?_)
      refine ro_top (z := nI (S.x 19)) hx hp173 ?_
      refine W.widen (k := 1) (n := 6) (by decide) (by decide) ?_
      exact endI C9 rfl C ⟨rfl, hC0.le rfl (Nat.le_refl _) rfl rfl rfl⟩ hS hP dL_acts_176
  · have c_16 := neq_t (a := S.x 14) (b := 0) (by omega) (by omega) c_16
    omega
set_option maxHeartbeats 1600000 in
set_option maxRecDepth 100000 in
theorem mL_acts_slb (l : Launch) (D : va_G) (G : u_G) (q : Nat) (K : AD) (S : AS) (C : SC) (k : Nat) (hk : k < 40) (hN : G.2.2.2.2.2.1 ≤ 260) (hA0 : AOK S) (hC0 : COK S C) (hz : ¬ S.x 14 = 0) (hj : ceN G k % 16 = 6) (h3 : ¬ ceN G k / 16 % 3 = 0) : MtI l D G yL_acts cL_acts 7 .int 40 1 6 [.ref q, .ref G.2.2.2.2.1, .int (nI k)] (OW G q K S C) (fun (r : Int32) (u : SC) => r = nI (S.x 19) ∧ COK (S.sav (va_up S.x 19 5000) S.y S.p S.F) u) (fun (u : SC) => OW G q K (S.sav (va_up S.x 19 5000) S.y S.p S.F) u) := by
  refine MtI.of (by decide) (Nat.le_of_ble_eq_true rfl) ?_
  intro pr e s9 m9 below meth c9 A ls C9 hP hD hl
  obtain ⟨hx, hb, hml, hown, hts, hr, hlocks, hA, hAm⟩ := id C9
  have hS : va_S A s9.heap s9.heap [] := va_S.rf
  have hl : lv_has ls 7 [(0, .ref q), (1, .ref G.2.2.2.2.1), (2, .int (nI k))] := hl
  have hce := ceN_lt G k
  obtain ⟨⟨⟨w1, w2, w3, ⟨w4a, w4⟩, w5⟩, ⟨w6, w7⟩, w8, w9, w10⟩, hog, hcg, hSVD, hFR⟩ := id hA0
  obtain ⟨hSV, hL6, ht6⟩ := id hC0
  refine lv_aload_n hx hb dL_acts_0 rfl (lv_at hl 1 rfl) ?_
  refine lv_iload_n hx hb dL_acts_1 rfl (lv_at hl 2 rfl) ?_
  refine oS (As := [.ref G.2.2.2.2.1, .int (nI k)]) (rest := []) C9 (mL_cell l D G k (by omega) hN) (fun _ => rfl) hS hP hD [] rfl (by decide) (fun _ => rfl) ys_L_cell kw_16_15 kw_16_16 ⟨Nat.le_of_ble_eq_true rfl, Nat.le_of_ble_eq_true rfl⟩ hl.1 (Nat.le_of_ble_eq_true rfl) dL_acts_2 rfl rfl ⟨Nat.le_of_ble_eq_true rfl, Nat.le_of_ble_eq_true rfl⟩ (fun r2 u2 H locs hp2 hP hD hS => ?_)
  refine ro_top (z := nI (ceN G k)) hx hp2 ?_
  refine lv_istore_n (lv' := [(3, .int (nI (ceN G k))), (0, .ref q), (1, .ref G.2.2.2.2.1), (2, .int (nI k))]) hx hb dL_acts_5 rfl hl (by decide) rfl (fun ls hl => ?_)
  refine lv_iload_n hx hb dL_acts_6 rfl (lv_at hl 0 rfl) ?_
  refine lv_bipush (v := 16) hx hb dL_acts_7 (by decide) ?_
  refine lv_idiv hx hb dL_acts_9 (by decide) ?_
  refine ro_top (z := nI ((ceN G k) / 16)) hx (nI_div (a := ceN G k) (b := 16) (by omega) (by decide)) ?_
  refine lv_istore (lv' := [(4, .int (nI ((ceN G k) / 16))), (3, .int (nI (ceN G k))), (0, .ref q), (1, .ref G.2.2.2.2.1), (2, .int (nI k))]) hx hb dL_acts_10 hl (by decide) rfl (fun ls hl => ?_)
  refine lv_aload_n hx hb dL_acts_12 rfl (lv_at hl 2 rfl) ?_
  refine oV (As := []) (rest := []) (q0 := 0) (ci := 7) (T := TX7) (N := 5) C9 (o_left l D G q K S C) (fun _ => OW_fst _ _ _ _ _ _ _) hS hP hD (List.range' 0 57) (OW_get _ _ _ _ _) (by decide) (fun _ => OW_put _ _ _ _ _ _ _ _ _) rfl rfl ys_X7_left kw_12_1 kw_12_2 kw_12_3 ⟨Nat.le_of_ble_eq_true rfl, Nat.le_of_ble_eq_true rfl⟩ hl.1 (Nat.le_of_ble_eq_true rfl) dL_acts_13 rfl rfl ⟨Nat.le_of_ble_eq_true rfl, Nat.le_of_ble_eq_true rfl⟩ (fun r13 u13 H locs hp13 hP hD hS => ?_)
  refine ro_top (z := nI (S.x 14)) hx hp13 ?_
  refine lv_if_ne (tgt := 23) hx hb dL_acts_16 (by decide) (fun c_16 => ?_) (fun c_16 => ?_)
  · have c_16 := neq_f (a := S.x 14) (b := 0) (by omega) (by omega) c_16
    refine lv_iload_n hx hb dL_acts_23 rfl (lv_at hl 1 rfl) ?_
    refine lv_bipush (v := 16) hx hb dL_acts_24 (by decide) ?_
    refine ro_irem (z := nI ((ceN G k) % 16)) hx hb (by decide) (nI_rem (a := ceN G k) (b := 16) (by omega) (by decide)) dL_acts_26 ?_
    refine ro_top (z := 6) hx (by rw [hj]; rfl) ?_
    refine lv_tableIn (off := 123) (tgt := 150) hx hb dL_acts_27 (by decide) (by decide) (by decide) (by decide) ?_
    refine lv_aload_n hx hb dL_acts_150 rfl (lv_at hl 2 rfl) ?_
    refine lv_iload hx hb dL_acts_151 (lv_at hl 0 rfl) ?_
    refine lv_iconst (v := 3) hx hb dL_acts_153 (by decide) ?_
    refine ro_irem (z := nI (((ceN G k) / 16) % 3)) hx hb (by decide) (nI_rem (a := (ceN G k) / 16) (b := 3) (by omega) (by decide)) dL_acts_154 ?_
    refine lv_if_ne (tgt := 170) hx hb dL_acts_155 (by decide) (fun c_155 => ?_) (fun c_155 => ?_)
    · have c_155 := neq_f (a := ((ceN G k) / 16) % 3) (b := 0) (by omega) (by omega) c_155
      refine lv_sipush (v := 5000) hx hb dL_acts_170 (by decide) ?_
      refine oW (As := [.ref q, .int 5000]) (rest := []) C9 (mL_setLimit_ok l D G q K S C 5000 hog hcg (by omega) (by omega)) (fun _ => OW_fst _ _ _ _ _ _ _) hS hP hD (List.range' 0 57) (OW_get _ _ _ _ _) (by decide) (fun _ => OW_put _ _ _ _ _ _ _ _ _) yw_L_setLimit kw_19_15 kw_19_16 ⟨Nat.le_of_ble_eq_true rfl, Nat.le_of_ble_eq_true rfl⟩ hl.1 (Nat.le_of_ble_eq_true rfl) dL_acts_173 rfl rfl ⟨Nat.le_of_ble_eq_true rfl, Nat.le_of_ble_eq_true rfl⟩ (fun r173 u173 H locs hp173 hP hD hS => ?_)
      refine ro_top (z := nI (S.x 19)) hx hp173 ?_
      refine W.widen (k := 1) (n := 6) (by decide) (by decide) ?_
      exact endI C9 rfl C ⟨rfl, hC0.le rfl (Nat.le_refl _) rfl rfl rfl⟩ hS hP dL_acts_176
    · have c_155 := neq_t (a := ((ceN G k) / 16) % 3) (b := 0) (by omega) (by omega) c_155
      omega
  · have c_16 := neq_t (a := S.x 14) (b := 0) (by omega) (by omega) c_16
    omega
set_option maxHeartbeats 1600000 in
set_option maxRecDepth 100000 in
theorem mL_acts_uta (l : Launch) (D : va_G) (G : u_G) (q : Nat) (K : AD) (S : AS) (C : SC) (k : Nat) (hk : k < 40) (hN : G.2.2.2.2.2.1 ≤ 260) (hA0 : AOK S) (hC0 : COK S C) (hz : ¬ S.x 14 = 0) (hj : ceN G k % 16 = 7) (h3 : 0 < ceN G k / 16 % 3) : MtI l D G yL_acts cL_acts 7 .int 40 1 6 [.ref q, .ref G.2.2.2.2.1, .int (nI k)] (OW G q K S C) (fun (r : Int32) (u : SC) => r = bI (S.x 20 = 0) ∧ COK (S.sav (va_up S.x 20 0) S.y S.p S.F) u) (fun (u : SC) => OW G q K (S.sav (va_up S.x 20 0) S.y S.p S.F) u) := by
  refine MtI.of (by decide) (Nat.le_of_ble_eq_true rfl) ?_
  intro pr e s9 m9 below meth c9 A ls C9 hP hD hl
  obtain ⟨hx, hb, hml, hown, hts, hr, hlocks, hA, hAm⟩ := id C9
  have hS : va_S A s9.heap s9.heap [] := va_S.rf
  have hl : lv_has ls 7 [(0, .ref q), (1, .ref G.2.2.2.2.1), (2, .int (nI k))] := hl
  have hce := ceN_lt G k
  obtain ⟨⟨⟨w1, w2, w3, ⟨w4a, w4⟩, w5⟩, ⟨w6, w7⟩, w8, w9, w10⟩, hog, hcg, hSVD, hFR⟩ := id hA0
  obtain ⟨hSV, hL6, ht6⟩ := id hC0
  refine lv_aload_n hx hb dL_acts_0 rfl (lv_at hl 1 rfl) ?_
  refine lv_iload_n hx hb dL_acts_1 rfl (lv_at hl 2 rfl) ?_
  refine oS (As := [.ref G.2.2.2.2.1, .int (nI k)]) (rest := []) C9 (mL_cell l D G k (by omega) hN) (fun _ => rfl) hS hP hD [] rfl (by decide) (fun _ => rfl) ys_L_cell kw_16_15 kw_16_16 ⟨Nat.le_of_ble_eq_true rfl, Nat.le_of_ble_eq_true rfl⟩ hl.1 (Nat.le_of_ble_eq_true rfl) dL_acts_2 rfl rfl ⟨Nat.le_of_ble_eq_true rfl, Nat.le_of_ble_eq_true rfl⟩ (fun r2 u2 H locs hp2 hP hD hS => ?_)
  refine ro_top (z := nI (ceN G k)) hx hp2 ?_
  refine lv_istore_n (lv' := [(3, .int (nI (ceN G k))), (0, .ref q), (1, .ref G.2.2.2.2.1), (2, .int (nI k))]) hx hb dL_acts_5 rfl hl (by decide) rfl (fun ls hl => ?_)
  refine lv_iload_n hx hb dL_acts_6 rfl (lv_at hl 0 rfl) ?_
  refine lv_bipush (v := 16) hx hb dL_acts_7 (by decide) ?_
  refine lv_idiv hx hb dL_acts_9 (by decide) ?_
  refine ro_top (z := nI ((ceN G k) / 16)) hx (nI_div (a := ceN G k) (b := 16) (by omega) (by decide)) ?_
  refine lv_istore (lv' := [(4, .int (nI ((ceN G k) / 16))), (3, .int (nI (ceN G k))), (0, .ref q), (1, .ref G.2.2.2.2.1), (2, .int (nI k))]) hx hb dL_acts_10 hl (by decide) rfl (fun ls hl => ?_)
  refine lv_aload_n hx hb dL_acts_12 rfl (lv_at hl 2 rfl) ?_
  refine oV (As := []) (rest := []) (q0 := 0) (ci := 7) (T := TX7) (N := 5) C9 (o_left l D G q K S C) (fun _ => OW_fst _ _ _ _ _ _ _) hS hP hD (List.range' 0 57) (OW_get _ _ _ _ _) (by decide) (fun _ => OW_put _ _ _ _ _ _ _ _ _) rfl rfl ys_X7_left kw_12_1 kw_12_2 kw_12_3 ⟨Nat.le_of_ble_eq_true rfl, Nat.le_of_ble_eq_true rfl⟩ hl.1 (Nat.le_of_ble_eq_true rfl) dL_acts_13 rfl rfl ⟨Nat.le_of_ble_eq_true rfl, Nat.le_of_ble_eq_true rfl⟩ (fun r13 u13 H locs hp13 hP hD hS => ?_)
  refine ro_top (z := nI (S.x 14)) hx hp13 ?_
  refine lv_if_ne (tgt := 23) hx hb dL_acts_16 (by decide) (fun c_16 => ?_) (fun c_16 => ?_)
  · have c_16 := neq_f (a := S.x 14) (b := 0) (by omega) (by omega) c_16
    refine lv_iload_n hx hb dL_acts_23 rfl (lv_at hl 1 rfl) ?_
    refine lv_bipush (v := 16) hx hb dL_acts_24 (by decide) ?_
    refine ro_irem (z := nI ((ceN G k) % 16)) hx hb (by decide) (nI_rem (a := ceN G k) (b := 16) (by omega) (by decide)) dL_acts_26 ?_
    refine ro_top (z := 7) hx (by rw [hj]; rfl) ?_
    refine lv_tableIn (off := 150) (tgt := 177) hx hb dL_acts_27 (by decide) (by decide) (by decide) (by decide) ?_
    refine lv_aload_n hx hb dL_acts_177 rfl (lv_at hl 2 rfl) ?_
    refine lv_iload hx hb dL_acts_178 (lv_at hl 0 rfl) ?_
    refine lv_iconst (v := 3) hx hb dL_acts_180 (by decide) ?_
    refine ro_irem (z := nI (((ceN G k) / 16) % 3)) hx hb (by decide) (nI_rem (a := (ceN G k) / 16) (b := 3) (by omega) (by decide)) dL_acts_181 ?_
    refine lv_if_le (tgt := 189) hx hb dL_acts_182 (by decide) (fun c_182 => ?_) (fun c_182 => ?_)
    · have c_182 := nle_t (a := ((ceN G k) / 16) % 3) (b := 0) (by omega) (by omega) c_182
      omega
    · have c_182 := nle_f (a := ((ceN G k) / 16) % 3) (b := 0) (by omega) (by omega) c_182
      refine lv_iconst (v := 1) hx hb dL_acts_185 (by decide) ?_
      refine lv_goto (tgt := 190) hx hb dL_acts_186 (by decide) ?_
      refine ro_top (z := bI (0 = 0)) hx (by decide) ?_
      refine oV (As := [.int (bI (0 = 0))]) (rest := []) (q0 := 0) (ci := 7) (T := TX7) (N := 5) C9 (o_useTable l D G q K S C 0 hog hcg) (fun _ => OW_fst _ _ _ _ _ _ _) hS hP hD (List.range' 0 57) (OW_get _ _ _ _ _) (by decide) (fun _ => OW_put _ _ _ _ _ _ _ _ _) rfl rfl ys_X7_useTable kw_19_23 kw_20_0 kw_20_1 ⟨Nat.le_of_ble_eq_true rfl, Nat.le_of_ble_eq_true rfl⟩ hl.1 (Nat.le_of_ble_eq_true rfl) dL_acts_190 rfl rfl ⟨Nat.le_of_ble_eq_true rfl, Nat.le_of_ble_eq_true rfl⟩ (fun r190 u190 H locs hp190 hP hD hS => ?_)
      refine ro_top (z := bI (S.x 20 = 0)) hx hp190 ?_
      refine lv_if_eq (tgt := 200) hx hb dL_acts_193 (by decide) (fun c_193 => ?_) (fun c_193 => ?_)
      · have c_193 := bI_0 c_193
        refine lv_iconst (v := 0) hx hb dL_acts_200 (by decide) ?_
        refine W.widen (k := 1) (n := 6) (by decide) (by decide) ?_
        exact endI C9 rfl C ⟨(bI_f c_193).symm, hC0.le rfl (Nat.le_refl _) rfl rfl rfl⟩ hS hP dL_acts_201
      · have c_193 := bI_1 c_193
        refine lv_iconst (v := 1) hx hb dL_acts_196 (by decide) ?_
        refine lv_goto (tgt := 201) hx hb dL_acts_197 (by decide) ?_
        refine W.widen (k := 1) (n := 6) (by decide) (by decide) ?_
        exact endI C9 rfl C ⟨(bI_t c_193).symm, hC0.le rfl (Nat.le_refl _) rfl rfl rfl⟩ hS hP dL_acts_201
  · have c_16 := neq_t (a := S.x 14) (b := 0) (by omega) (by omega) c_16
    omega
set_option maxHeartbeats 1600000 in
set_option maxRecDepth 100000 in
theorem mL_acts_utb (l : Launch) (D : va_G) (G : u_G) (q : Nat) (K : AD) (S : AS) (C : SC) (k : Nat) (hk : k < 40) (hN : G.2.2.2.2.2.1 ≤ 260) (hA0 : AOK S) (hC0 : COK S C) (hz : ¬ S.x 14 = 0) (hj : ceN G k % 16 = 7) (h3 : ¬ 0 < ceN G k / 16 % 3) : MtI l D G yL_acts cL_acts 7 .int 40 1 6 [.ref q, .ref G.2.2.2.2.1, .int (nI k)] (OW G q K S C) (fun (r : Int32) (u : SC) => r = bI (S.x 20 = 0) ∧ COK (S.sav (va_up S.x 20 1) S.y S.p S.F) u) (fun (u : SC) => OW G q K (S.sav (va_up S.x 20 1) S.y S.p S.F) u) := by
  refine MtI.of (by decide) (Nat.le_of_ble_eq_true rfl) ?_
  intro pr e s9 m9 below meth c9 A ls C9 hP hD hl
  obtain ⟨hx, hb, hml, hown, hts, hr, hlocks, hA, hAm⟩ := id C9
  have hS : va_S A s9.heap s9.heap [] := va_S.rf
  have hl : lv_has ls 7 [(0, .ref q), (1, .ref G.2.2.2.2.1), (2, .int (nI k))] := hl
  have hce := ceN_lt G k
  obtain ⟨⟨⟨w1, w2, w3, ⟨w4a, w4⟩, w5⟩, ⟨w6, w7⟩, w8, w9, w10⟩, hog, hcg, hSVD, hFR⟩ := id hA0
  obtain ⟨hSV, hL6, ht6⟩ := id hC0
  refine lv_aload_n hx hb dL_acts_0 rfl (lv_at hl 1 rfl) ?_
  refine lv_iload_n hx hb dL_acts_1 rfl (lv_at hl 2 rfl) ?_
  refine oS (As := [.ref G.2.2.2.2.1, .int (nI k)]) (rest := []) C9 (mL_cell l D G k (by omega) hN) (fun _ => rfl) hS hP hD [] rfl (by decide) (fun _ => rfl) ys_L_cell kw_16_15 kw_16_16 ⟨Nat.le_of_ble_eq_true rfl, Nat.le_of_ble_eq_true rfl⟩ hl.1 (Nat.le_of_ble_eq_true rfl) dL_acts_2 rfl rfl ⟨Nat.le_of_ble_eq_true rfl, Nat.le_of_ble_eq_true rfl⟩ (fun r2 u2 H locs hp2 hP hD hS => ?_)
  refine ro_top (z := nI (ceN G k)) hx hp2 ?_
  refine lv_istore_n (lv' := [(3, .int (nI (ceN G k))), (0, .ref q), (1, .ref G.2.2.2.2.1), (2, .int (nI k))]) hx hb dL_acts_5 rfl hl (by decide) rfl (fun ls hl => ?_)
  refine lv_iload_n hx hb dL_acts_6 rfl (lv_at hl 0 rfl) ?_
  refine lv_bipush (v := 16) hx hb dL_acts_7 (by decide) ?_
  refine lv_idiv hx hb dL_acts_9 (by decide) ?_
  refine ro_top (z := nI ((ceN G k) / 16)) hx (nI_div (a := ceN G k) (b := 16) (by omega) (by decide)) ?_
  refine lv_istore (lv' := [(4, .int (nI ((ceN G k) / 16))), (3, .int (nI (ceN G k))), (0, .ref q), (1, .ref G.2.2.2.2.1), (2, .int (nI k))]) hx hb dL_acts_10 hl (by decide) rfl (fun ls hl => ?_)
  refine lv_aload_n hx hb dL_acts_12 rfl (lv_at hl 2 rfl) ?_
  refine oV (As := []) (rest := []) (q0 := 0) (ci := 7) (T := TX7) (N := 5) C9 (o_left l D G q K S C) (fun _ => OW_fst _ _ _ _ _ _ _) hS hP hD (List.range' 0 57) (OW_get _ _ _ _ _) (by decide) (fun _ => OW_put _ _ _ _ _ _ _ _ _) rfl rfl ys_X7_left kw_12_1 kw_12_2 kw_12_3 ⟨Nat.le_of_ble_eq_true rfl, Nat.le_of_ble_eq_true rfl⟩ hl.1 (Nat.le_of_ble_eq_true rfl) dL_acts_13 rfl rfl ⟨Nat.le_of_ble_eq_true rfl, Nat.le_of_ble_eq_true rfl⟩ (fun r13 u13 H locs hp13 hP hD hS => ?_)
  refine ro_top (z := nI (S.x 14)) hx hp13 ?_
  refine lv_if_ne (tgt := 23) hx hb dL_acts_16 (by decide) (fun c_16 => ?_) (fun c_16 => ?_)
  · have c_16 := neq_f (a := S.x 14) (b := 0) (by omega) (by omega) c_16
    refine lv_iload_n hx hb dL_acts_23 rfl (lv_at hl 1 rfl) ?_
    refine lv_bipush (v := 16) hx hb dL_acts_24 (by decide) ?_
    refine ro_irem (z := nI ((ceN G k) % 16)) hx hb (by decide) (nI_rem (a := ceN G k) (b := 16) (by omega) (by decide)) dL_acts_26 ?_
    refine ro_top (z := 7) hx (by rw [hj]; rfl) ?_
    refine lv_tableIn (off := 150) (tgt := 177) hx hb dL_acts_27 (by decide) (by decide) (by decide) (by decide) ?_
    refine lv_aload_n hx hb dL_acts_177 rfl (lv_at hl 2 rfl) ?_
    refine lv_iload hx hb dL_acts_178 (lv_at hl 0 rfl) ?_
    refine lv_iconst (v := 3) hx hb dL_acts_180 (by decide) ?_
    refine ro_irem (z := nI (((ceN G k) / 16) % 3)) hx hb (by decide) (nI_rem (a := (ceN G k) / 16) (b := 3) (by omega) (by decide)) dL_acts_181 ?_
    refine lv_if_le (tgt := 189) hx hb dL_acts_182 (by decide) (fun c_182 => ?_) (fun c_182 => ?_)
    · have c_182 := nle_t (a := ((ceN G k) / 16) % 3) (b := 0) (by omega) (by omega) c_182
      refine lv_iconst (v := 0) hx hb dL_acts_189 (by decide) ?_
      refine ro_top (z := bI (1 = 0)) hx (by decide) ?_
      refine oV (As := [.int (bI (1 = 0))]) (rest := []) (q0 := 0) (ci := 7) (T := TX7) (N := 5) C9 (o_useTable l D G q K S C 1 hog hcg) (fun _ => OW_fst _ _ _ _ _ _ _) hS hP hD (List.range' 0 57) (OW_get _ _ _ _ _) (by decide) (fun _ => OW_put _ _ _ _ _ _ _ _ _) rfl rfl ys_X7_useTable kw_19_23 kw_20_0 kw_20_1 ⟨Nat.le_of_ble_eq_true rfl, Nat.le_of_ble_eq_true rfl⟩ hl.1 (Nat.le_of_ble_eq_true rfl) dL_acts_190 rfl rfl ⟨Nat.le_of_ble_eq_true rfl, Nat.le_of_ble_eq_true rfl⟩ (fun r190 u190 H locs hp190 hP hD hS => ?_)
      refine ro_top (z := bI (S.x 20 = 0)) hx hp190 ?_
      refine lv_if_eq (tgt := 200) hx hb dL_acts_193 (by decide) (fun c_193 => ?_) (fun c_193 => ?_)
      · have c_193 := bI_0 c_193
        refine lv_iconst (v := 0) hx hb dL_acts_200 (by decide) ?_
        refine W.widen (k := 1) (n := 6) (by decide) (by decide) ?_
        exact endI C9 rfl C ⟨(bI_f c_193).symm, hC0.le rfl (Nat.le_refl _) rfl rfl rfl⟩ hS hP dL_acts_201
      · have c_193 := bI_1 c_193
        refine lv_iconst (v := 1) hx hb dL_acts_196 (by decide) ?_
        refine lv_goto (tgt := 201) hx hb dL_acts_197 (by decide) ?_
        refine W.widen (k := 1) (n := 6) (by decide) (by decide) ?_
        exact endI C9 rfl C ⟨(bI_t c_193).symm, hC0.le rfl (Nat.le_refl _) rfl rfl rfl⟩ hS hP dL_acts_201
    · have c_182 := nle_f (a := ((ceN G k) / 16) % 3) (b := 0) (by omega) (by omega) c_182
      omega
  · have c_16 := neq_t (a := S.x 14) (b := 0) (by omega) (by omega) c_16
    omega
set_option maxHeartbeats 1600000 in
set_option maxRecDepth 100000 in
theorem mL_acts_un8 (l : Launch) (D : va_G) (G : u_G) (q : Nat) (K : AD) (S : AS) (C : SC) (k : Nat) (hk : k < 40) (hN : G.2.2.2.2.2.1 ≤ 260) (hA0 : AOK S) (hC0 : COK S C) (hz : ¬ S.x 14 = 0) (hj : ceN G k % 16 = 8) (hc : 1 ≤ S.cg) : MtI l D G yL_acts cL_acts 7 .int 40 1 6 [.ref q, .ref G.2.2.2.2.1, .int (nI k)] (OW G q K S C) (fun (r : Int32) (u : SC) => r = nI (S.cg - 1) ∧ COK (S.xs (ri (S.og + (S.cg - 1))), S.ys (ri (S.og + (S.cg - 1))), S.ps (ri (S.og + (S.cg - 1))), S.og, S.cg - 1, S.xs, S.ys, S.ps, S.F) u) (fun (u : SC) => OW G q K (S.xs (ri (S.og + (S.cg - 1))), S.ys (ri (S.og + (S.cg - 1))), S.ps (ri (S.og + (S.cg - 1))), S.og, S.cg - 1, S.xs, S.ys, S.ps, S.F) u) := by
  refine MtI.of (by decide) (Nat.le_of_ble_eq_true rfl) ?_
  intro pr e s9 m9 below meth c9 A ls C9 hP hD hl
  obtain ⟨hx, hb, hml, hown, hts, hr, hlocks, hA, hAm⟩ := id C9
  have hS : va_S A s9.heap s9.heap [] := va_S.rf
  have hl : lv_has ls 7 [(0, .ref q), (1, .ref G.2.2.2.2.1), (2, .int (nI k))] := hl
  have hce := ceN_lt G k
  obtain ⟨⟨⟨w1, w2, w3, ⟨w4a, w4⟩, w5⟩, ⟨w6, w7⟩, w8, w9, w10⟩, hog, hcg, hSVD, hFR⟩ := id hA0
  obtain ⟨hSV, hL6, ht6⟩ := id hC0
  refine lv_aload_n hx hb dL_acts_0 rfl (lv_at hl 1 rfl) ?_
  refine lv_iload_n hx hb dL_acts_1 rfl (lv_at hl 2 rfl) ?_
  refine oS (As := [.ref G.2.2.2.2.1, .int (nI k)]) (rest := []) C9 (mL_cell l D G k (by omega) hN) (fun _ => rfl) hS hP hD [] rfl (by decide) (fun _ => rfl) ys_L_cell kw_16_15 kw_16_16 ⟨Nat.le_of_ble_eq_true rfl, Nat.le_of_ble_eq_true rfl⟩ hl.1 (Nat.le_of_ble_eq_true rfl) dL_acts_2 rfl rfl ⟨Nat.le_of_ble_eq_true rfl, Nat.le_of_ble_eq_true rfl⟩ (fun r2 u2 H locs hp2 hP hD hS => ?_)
  refine ro_top (z := nI (ceN G k)) hx hp2 ?_
  refine lv_istore_n (lv' := [(3, .int (nI (ceN G k))), (0, .ref q), (1, .ref G.2.2.2.2.1), (2, .int (nI k))]) hx hb dL_acts_5 rfl hl (by decide) rfl (fun ls hl => ?_)
  refine lv_iload_n hx hb dL_acts_6 rfl (lv_at hl 0 rfl) ?_
  refine lv_bipush (v := 16) hx hb dL_acts_7 (by decide) ?_
  refine lv_idiv hx hb dL_acts_9 (by decide) ?_
  refine ro_top (z := nI ((ceN G k) / 16)) hx (nI_div (a := ceN G k) (b := 16) (by omega) (by decide)) ?_
  refine lv_istore (lv' := [(4, .int (nI ((ceN G k) / 16))), (3, .int (nI (ceN G k))), (0, .ref q), (1, .ref G.2.2.2.2.1), (2, .int (nI k))]) hx hb dL_acts_10 hl (by decide) rfl (fun ls hl => ?_)
  refine lv_aload_n hx hb dL_acts_12 rfl (lv_at hl 2 rfl) ?_
  refine oV (As := []) (rest := []) (q0 := 0) (ci := 7) (T := TX7) (N := 5) C9 (o_left l D G q K S C) (fun _ => OW_fst _ _ _ _ _ _ _) hS hP hD (List.range' 0 57) (OW_get _ _ _ _ _) (by decide) (fun _ => OW_put _ _ _ _ _ _ _ _ _) rfl rfl ys_X7_left kw_12_1 kw_12_2 kw_12_3 ⟨Nat.le_of_ble_eq_true rfl, Nat.le_of_ble_eq_true rfl⟩ hl.1 (Nat.le_of_ble_eq_true rfl) dL_acts_13 rfl rfl ⟨Nat.le_of_ble_eq_true rfl, Nat.le_of_ble_eq_true rfl⟩ (fun r13 u13 H locs hp13 hP hD hS => ?_)
  refine ro_top (z := nI (S.x 14)) hx hp13 ?_
  refine lv_if_ne (tgt := 23) hx hb dL_acts_16 (by decide) (fun c_16 => ?_) (fun c_16 => ?_)
  · have c_16 := neq_f (a := S.x 14) (b := 0) (by omega) (by omega) c_16
    refine lv_iload_n hx hb dL_acts_23 rfl (lv_at hl 1 rfl) ?_
    refine lv_bipush (v := 16) hx hb dL_acts_24 (by decide) ?_
    refine ro_irem (z := nI ((ceN G k) % 16)) hx hb (by decide) (nI_rem (a := ceN G k) (b := 16) (by omega) (by decide)) dL_acts_26 ?_
    refine ro_top (z := 8) hx (by rw [hj]; rfl) ?_
    refine lv_tableIn (off := 175) (tgt := 202) hx hb dL_acts_27 (by decide) (by decide) (by decide) (by decide) ?_
    refine lv_aload_n hx hb dL_acts_202 rfl (lv_at hl 2 rfl) ?_
    refine oW (As := [.ref q]) (rest := []) C9 (mL_undo_ok l D G q K S C hog hcg hc (hSVD (S.cg - 1) (by omega)).1.1 (hSVD (S.cg - 1) (by omega)).2.1.1) (fun _ => OW_fst _ _ _ _ _ _ _) hS hP hD (List.range' 0 57) (OW_get _ _ _ _ _) (by decide) (fun _ => OW_put _ _ _ _ _ _ _ _ _) yw_L_undo kw_4_23 kw_5_0 ⟨Nat.le_of_ble_eq_true rfl, Nat.le_of_ble_eq_true rfl⟩ hl.1 (Nat.le_of_ble_eq_true rfl) dL_acts_203 rfl rfl ⟨Nat.le_of_ble_eq_true rfl, Nat.le_of_ble_eq_true rfl⟩ (fun r203 u203 H locs hp203 hP hD hS => ?_)
    refine ro_top (z := nI (S.cg - 1)) hx hp203.1 ?_
    refine W.widen (k := 1) (n := 6) (by decide) (by decide) ?_
    exact endI C9 rfl (u203, C.L, C.cnt, C.num, C.t, C.v, C.w, C.c) ⟨rfl, hp203.2, hL6, ht6⟩ hS hP dL_acts_206
  · have c_16 := neq_t (a := S.x 14) (b := 0) (by omega) (by omega) c_16
    omega
set_option maxHeartbeats 1600000 in
set_option maxRecDepth 100000 in
theorem mL_acts_ut_8 (l : Launch) (D : va_G) (G : u_G) (q : Nat) (K : AD) (S : AS) (C : SC) (k : Nat) (hk : k < 40) (hN : G.2.2.2.2.2.1 ≤ 260) (hA0 : AOK S) (hC0 : COK S C) (hlt : l.stackTraces = false) (hz : ¬ S.x 14 = 0) (hj : ceN G k % 16 = 8) (hc : S.cg = 0) : MtI l D G yL_acts cL_acts 7 .int 40 1 6 [.ref q, .ref G.2.2.2.2.1, .int (nI k)] (OW G q K S C) (fun (r : Int32) (u : SC) => r = (-2) ∧ COK S u) (fun (u : SC) => OW G q K S u) := by
  refine MtI.of (by decide) (Nat.le_of_ble_eq_true rfl) ?_
  intro pr e s9 m9 below meth c9 A ls C9 hP hD hl
  obtain ⟨hx, hb, hml, hown, hts, hr, hlocks, hA, hAm⟩ := id C9
  have hS : va_S A s9.heap s9.heap [] := va_S.rf
  have hl : lv_has ls 7 [(0, .ref q), (1, .ref G.2.2.2.2.1), (2, .int (nI k))] := hl
  have hce := ceN_lt G k
  obtain ⟨⟨⟨w1, w2, w3, ⟨w4a, w4⟩, w5⟩, ⟨w6, w7⟩, w8, w9, w10⟩, hog, hcg, hSVD, hFR⟩ := id hA0
  obtain ⟨hSV, hL6, ht6⟩ := id hC0
  refine lv_aload_n hx hb dL_acts_0 rfl (lv_at hl 1 rfl) ?_
  refine lv_iload_n hx hb dL_acts_1 rfl (lv_at hl 2 rfl) ?_
  refine oS (As := [.ref G.2.2.2.2.1, .int (nI k)]) (rest := []) C9 (mL_cell l D G k (by omega) hN) (fun _ => rfl) hS hP hD [] rfl (by decide) (fun _ => rfl) ys_L_cell kw_16_15 kw_16_16 ⟨Nat.le_of_ble_eq_true rfl, Nat.le_of_ble_eq_true rfl⟩ hl.1 (Nat.le_of_ble_eq_true rfl) dL_acts_2 rfl rfl ⟨Nat.le_of_ble_eq_true rfl, Nat.le_of_ble_eq_true rfl⟩ (fun r2 u2 H locs hp2 hP hD hS => ?_)
  refine ro_top (z := nI (ceN G k)) hx hp2 ?_
  refine lv_istore_n (lv' := [(3, .int (nI (ceN G k))), (0, .ref q), (1, .ref G.2.2.2.2.1), (2, .int (nI k))]) hx hb dL_acts_5 rfl hl (by decide) rfl (fun ls hl => ?_)
  refine lv_iload_n hx hb dL_acts_6 rfl (lv_at hl 0 rfl) ?_
  refine lv_bipush (v := 16) hx hb dL_acts_7 (by decide) ?_
  refine lv_idiv hx hb dL_acts_9 (by decide) ?_
  refine ro_top (z := nI ((ceN G k) / 16)) hx (nI_div (a := ceN G k) (b := 16) (by omega) (by decide)) ?_
  refine lv_istore (lv' := [(4, .int (nI ((ceN G k) / 16))), (3, .int (nI (ceN G k))), (0, .ref q), (1, .ref G.2.2.2.2.1), (2, .int (nI k))]) hx hb dL_acts_10 hl (by decide) rfl (fun ls hl => ?_)
  refine lv_aload_n hx hb dL_acts_12 rfl (lv_at hl 2 rfl) ?_
  refine oV (As := []) (rest := []) (q0 := 0) (ci := 7) (T := TX7) (N := 5) C9 (o_left l D G q K S C) (fun _ => OW_fst _ _ _ _ _ _ _) hS hP hD (List.range' 0 57) (OW_get _ _ _ _ _) (by decide) (fun _ => OW_put _ _ _ _ _ _ _ _ _) rfl rfl ys_X7_left kw_12_1 kw_12_2 kw_12_3 ⟨Nat.le_of_ble_eq_true rfl, Nat.le_of_ble_eq_true rfl⟩ hl.1 (Nat.le_of_ble_eq_true rfl) dL_acts_13 rfl rfl ⟨Nat.le_of_ble_eq_true rfl, Nat.le_of_ble_eq_true rfl⟩ (fun r13 u13 H locs hp13 hP hD hS => ?_)
  refine ro_top (z := nI (S.x 14)) hx hp13 ?_
  refine lv_if_ne (tgt := 23) hx hb dL_acts_16 (by decide) (fun c_16 => ?_) (fun c_16 => ?_)
  · have c_16 := neq_f (a := S.x 14) (b := 0) (by omega) (by omega) c_16
    refine lv_iload_n hx hb dL_acts_23 rfl (lv_at hl 1 rfl) ?_
    refine lv_bipush (v := 16) hx hb dL_acts_24 (by decide) ?_
    refine ro_irem (z := nI ((ceN G k) % 16)) hx hb (by decide) (nI_rem (a := ceN G k) (b := 16) (by omega) (by decide)) dL_acts_26 ?_
    refine ro_top (z := 8) hx (by rw [hj]; rfl) ?_
    refine lv_tableIn (off := 175) (tgt := 202) hx hb dL_acts_27 (by decide) (by decide) (by decide) (by decide) ?_
    refine lv_aload_n hx hb dL_acts_202 rfl (lv_at hl 2 rfl) ?_
    refine oW (As := [.ref q]) (rest := []) C9 (mL_undo_T1 l D G q K S C hlt hc) (fun _ => OW_fst _ _ _ _ _ _ _) hS hP hD (List.range' 0 57) (OW_get _ _ _ _ _) (by decide) (fun _ => OW_put _ _ _ _ _ _ _ _ _) yw_L_undo kw_4_23 kw_5_0 ⟨Nat.le_of_ble_eq_true rfl, Nat.le_of_ble_eq_true rfl⟩ hl.1 (Nat.le_of_ble_eq_true rfl) dL_acts_203 rfl rfl ⟨Nat.le_of_ble_eq_true rfl, Nat.le_of_ble_eq_true rfl⟩ (fun r203 u203 H locs hp203 hP hD hS => ?_)
    refine ro_top (z := (-2)) hx hp203 ?_
    exact endI C9 rfl C ⟨rfl, hC0⟩ hS hP dL_acts_206
  · have c_16 := neq_t (a := S.x 14) (b := 0) (by omega) (by omega) c_16
    omega
set_option maxHeartbeats 1600000 in
set_option maxRecDepth 100000 in
theorem mL_acts_un9 (l : Launch) (D : va_G) (G : u_G) (q : Nat) (K : AD) (S : AS) (C : SC) (k : Nat) (hk : k < 40) (hN : G.2.2.2.2.2.1 ≤ 260) (hA0 : AOK S) (hC0 : COK S C) (hz : ¬ S.x 14 = 0) (hj : ceN G k % 16 = 9) (hc : 1 ≤ S.cg) : MtI l D G yL_acts cL_acts 7 .int 40 1 6 [.ref q, .ref G.2.2.2.2.1, .int (nI k)] (OW G q K S C) (fun (r : Int32) (u : SC) => r = nI (S.cg - 1) ∧ COK (S.xs (ri (S.og + (S.cg - 1))), S.ys (ri (S.og + (S.cg - 1))), S.ps (ri (S.og + (S.cg - 1))), S.og, S.cg - 1, S.xs, S.ys, S.ps, S.F) u) (fun (u : SC) => OW G q K (S.xs (ri (S.og + (S.cg - 1))), S.ys (ri (S.og + (S.cg - 1))), S.ps (ri (S.og + (S.cg - 1))), S.og, S.cg - 1, S.xs, S.ys, S.ps, S.F) u) := by
  refine MtI.of (by decide) (Nat.le_of_ble_eq_true rfl) ?_
  intro pr e s9 m9 below meth c9 A ls C9 hP hD hl
  obtain ⟨hx, hb, hml, hown, hts, hr, hlocks, hA, hAm⟩ := id C9
  have hS : va_S A s9.heap s9.heap [] := va_S.rf
  have hl : lv_has ls 7 [(0, .ref q), (1, .ref G.2.2.2.2.1), (2, .int (nI k))] := hl
  have hce := ceN_lt G k
  obtain ⟨⟨⟨w1, w2, w3, ⟨w4a, w4⟩, w5⟩, ⟨w6, w7⟩, w8, w9, w10⟩, hog, hcg, hSVD, hFR⟩ := id hA0
  obtain ⟨hSV, hL6, ht6⟩ := id hC0
  refine lv_aload_n hx hb dL_acts_0 rfl (lv_at hl 1 rfl) ?_
  refine lv_iload_n hx hb dL_acts_1 rfl (lv_at hl 2 rfl) ?_
  refine oS (As := [.ref G.2.2.2.2.1, .int (nI k)]) (rest := []) C9 (mL_cell l D G k (by omega) hN) (fun _ => rfl) hS hP hD [] rfl (by decide) (fun _ => rfl) ys_L_cell kw_16_15 kw_16_16 ⟨Nat.le_of_ble_eq_true rfl, Nat.le_of_ble_eq_true rfl⟩ hl.1 (Nat.le_of_ble_eq_true rfl) dL_acts_2 rfl rfl ⟨Nat.le_of_ble_eq_true rfl, Nat.le_of_ble_eq_true rfl⟩ (fun r2 u2 H locs hp2 hP hD hS => ?_)
  refine ro_top (z := nI (ceN G k)) hx hp2 ?_
  refine lv_istore_n (lv' := [(3, .int (nI (ceN G k))), (0, .ref q), (1, .ref G.2.2.2.2.1), (2, .int (nI k))]) hx hb dL_acts_5 rfl hl (by decide) rfl (fun ls hl => ?_)
  refine lv_iload_n hx hb dL_acts_6 rfl (lv_at hl 0 rfl) ?_
  refine lv_bipush (v := 16) hx hb dL_acts_7 (by decide) ?_
  refine lv_idiv hx hb dL_acts_9 (by decide) ?_
  refine ro_top (z := nI ((ceN G k) / 16)) hx (nI_div (a := ceN G k) (b := 16) (by omega) (by decide)) ?_
  refine lv_istore (lv' := [(4, .int (nI ((ceN G k) / 16))), (3, .int (nI (ceN G k))), (0, .ref q), (1, .ref G.2.2.2.2.1), (2, .int (nI k))]) hx hb dL_acts_10 hl (by decide) rfl (fun ls hl => ?_)
  refine lv_aload_n hx hb dL_acts_12 rfl (lv_at hl 2 rfl) ?_
  refine oV (As := []) (rest := []) (q0 := 0) (ci := 7) (T := TX7) (N := 5) C9 (o_left l D G q K S C) (fun _ => OW_fst _ _ _ _ _ _ _) hS hP hD (List.range' 0 57) (OW_get _ _ _ _ _) (by decide) (fun _ => OW_put _ _ _ _ _ _ _ _ _) rfl rfl ys_X7_left kw_12_1 kw_12_2 kw_12_3 ⟨Nat.le_of_ble_eq_true rfl, Nat.le_of_ble_eq_true rfl⟩ hl.1 (Nat.le_of_ble_eq_true rfl) dL_acts_13 rfl rfl ⟨Nat.le_of_ble_eq_true rfl, Nat.le_of_ble_eq_true rfl⟩ (fun r13 u13 H locs hp13 hP hD hS => ?_)
  refine ro_top (z := nI (S.x 14)) hx hp13 ?_
  refine lv_if_ne (tgt := 23) hx hb dL_acts_16 (by decide) (fun c_16 => ?_) (fun c_16 => ?_)
  · have c_16 := neq_f (a := S.x 14) (b := 0) (by omega) (by omega) c_16
    refine lv_iload_n hx hb dL_acts_23 rfl (lv_at hl 1 rfl) ?_
    refine lv_bipush (v := 16) hx hb dL_acts_24 (by decide) ?_
    refine ro_irem (z := nI ((ceN G k) % 16)) hx hb (by decide) (nI_rem (a := ceN G k) (b := 16) (by omega) (by decide)) dL_acts_26 ?_
    refine ro_top (z := 9) hx (by rw [hj]; rfl) ?_
    refine lv_tableIn (off := 175) (tgt := 202) hx hb dL_acts_27 (by decide) (by decide) (by decide) (by decide) ?_
    refine lv_aload_n hx hb dL_acts_202 rfl (lv_at hl 2 rfl) ?_
    refine oW (As := [.ref q]) (rest := []) C9 (mL_undo_ok l D G q K S C hog hcg hc (hSVD (S.cg - 1) (by omega)).1.1 (hSVD (S.cg - 1) (by omega)).2.1.1) (fun _ => OW_fst _ _ _ _ _ _ _) hS hP hD (List.range' 0 57) (OW_get _ _ _ _ _) (by decide) (fun _ => OW_put _ _ _ _ _ _ _ _ _) yw_L_undo kw_4_23 kw_5_0 ⟨Nat.le_of_ble_eq_true rfl, Nat.le_of_ble_eq_true rfl⟩ hl.1 (Nat.le_of_ble_eq_true rfl) dL_acts_203 rfl rfl ⟨Nat.le_of_ble_eq_true rfl, Nat.le_of_ble_eq_true rfl⟩ (fun r203 u203 H locs hp203 hP hD hS => ?_)
    refine ro_top (z := nI (S.cg - 1)) hx hp203.1 ?_
    refine W.widen (k := 1) (n := 6) (by decide) (by decide) ?_
    exact endI C9 rfl (u203, C.L, C.cnt, C.num, C.t, C.v, C.w, C.c) ⟨rfl, hp203.2, hL6, ht6⟩ hS hP dL_acts_206
  · have c_16 := neq_t (a := S.x 14) (b := 0) (by omega) (by omega) c_16
    omega
set_option maxHeartbeats 1600000 in
set_option maxRecDepth 100000 in
theorem mL_acts_ut_9 (l : Launch) (D : va_G) (G : u_G) (q : Nat) (K : AD) (S : AS) (C : SC) (k : Nat) (hk : k < 40) (hN : G.2.2.2.2.2.1 ≤ 260) (hA0 : AOK S) (hC0 : COK S C) (hlt : l.stackTraces = false) (hz : ¬ S.x 14 = 0) (hj : ceN G k % 16 = 9) (hc : S.cg = 0) : MtI l D G yL_acts cL_acts 7 .int 40 1 6 [.ref q, .ref G.2.2.2.2.1, .int (nI k)] (OW G q K S C) (fun (r : Int32) (u : SC) => r = (-2) ∧ COK S u) (fun (u : SC) => OW G q K S u) := by
  refine MtI.of (by decide) (Nat.le_of_ble_eq_true rfl) ?_
  intro pr e s9 m9 below meth c9 A ls C9 hP hD hl
  obtain ⟨hx, hb, hml, hown, hts, hr, hlocks, hA, hAm⟩ := id C9
  have hS : va_S A s9.heap s9.heap [] := va_S.rf
  have hl : lv_has ls 7 [(0, .ref q), (1, .ref G.2.2.2.2.1), (2, .int (nI k))] := hl
  have hce := ceN_lt G k
  obtain ⟨⟨⟨w1, w2, w3, ⟨w4a, w4⟩, w5⟩, ⟨w6, w7⟩, w8, w9, w10⟩, hog, hcg, hSVD, hFR⟩ := id hA0
  obtain ⟨hSV, hL6, ht6⟩ := id hC0
  refine lv_aload_n hx hb dL_acts_0 rfl (lv_at hl 1 rfl) ?_
  refine lv_iload_n hx hb dL_acts_1 rfl (lv_at hl 2 rfl) ?_
  refine oS (As := [.ref G.2.2.2.2.1, .int (nI k)]) (rest := []) C9 (mL_cell l D G k (by omega) hN) (fun _ => rfl) hS hP hD [] rfl (by decide) (fun _ => rfl) ys_L_cell kw_16_15 kw_16_16 ⟨Nat.le_of_ble_eq_true rfl, Nat.le_of_ble_eq_true rfl⟩ hl.1 (Nat.le_of_ble_eq_true rfl) dL_acts_2 rfl rfl ⟨Nat.le_of_ble_eq_true rfl, Nat.le_of_ble_eq_true rfl⟩ (fun r2 u2 H locs hp2 hP hD hS => ?_)
  refine ro_top (z := nI (ceN G k)) hx hp2 ?_
  refine lv_istore_n (lv' := [(3, .int (nI (ceN G k))), (0, .ref q), (1, .ref G.2.2.2.2.1), (2, .int (nI k))]) hx hb dL_acts_5 rfl hl (by decide) rfl (fun ls hl => ?_)
  refine lv_iload_n hx hb dL_acts_6 rfl (lv_at hl 0 rfl) ?_
  refine lv_bipush (v := 16) hx hb dL_acts_7 (by decide) ?_
  refine lv_idiv hx hb dL_acts_9 (by decide) ?_
  refine ro_top (z := nI ((ceN G k) / 16)) hx (nI_div (a := ceN G k) (b := 16) (by omega) (by decide)) ?_
  refine lv_istore (lv' := [(4, .int (nI ((ceN G k) / 16))), (3, .int (nI (ceN G k))), (0, .ref q), (1, .ref G.2.2.2.2.1), (2, .int (nI k))]) hx hb dL_acts_10 hl (by decide) rfl (fun ls hl => ?_)
  refine lv_aload_n hx hb dL_acts_12 rfl (lv_at hl 2 rfl) ?_
  refine oV (As := []) (rest := []) (q0 := 0) (ci := 7) (T := TX7) (N := 5) C9 (o_left l D G q K S C) (fun _ => OW_fst _ _ _ _ _ _ _) hS hP hD (List.range' 0 57) (OW_get _ _ _ _ _) (by decide) (fun _ => OW_put _ _ _ _ _ _ _ _ _) rfl rfl ys_X7_left kw_12_1 kw_12_2 kw_12_3 ⟨Nat.le_of_ble_eq_true rfl, Nat.le_of_ble_eq_true rfl⟩ hl.1 (Nat.le_of_ble_eq_true rfl) dL_acts_13 rfl rfl ⟨Nat.le_of_ble_eq_true rfl, Nat.le_of_ble_eq_true rfl⟩ (fun r13 u13 H locs hp13 hP hD hS => ?_)
  refine ro_top (z := nI (S.x 14)) hx hp13 ?_
  refine lv_if_ne (tgt := 23) hx hb dL_acts_16 (by decide) (fun c_16 => ?_) (fun c_16 => ?_)
  · have c_16 := neq_f (a := S.x 14) (b := 0) (by omega) (by omega) c_16
    refine lv_iload_n hx hb dL_acts_23 rfl (lv_at hl 1 rfl) ?_
    refine lv_bipush (v := 16) hx hb dL_acts_24 (by decide) ?_
    refine ro_irem (z := nI ((ceN G k) % 16)) hx hb (by decide) (nI_rem (a := ceN G k) (b := 16) (by omega) (by decide)) dL_acts_26 ?_
    refine ro_top (z := 9) hx (by rw [hj]; rfl) ?_
    refine lv_tableIn (off := 175) (tgt := 202) hx hb dL_acts_27 (by decide) (by decide) (by decide) (by decide) ?_
    refine lv_aload_n hx hb dL_acts_202 rfl (lv_at hl 2 rfl) ?_
    refine oW (As := [.ref q]) (rest := []) C9 (mL_undo_T1 l D G q K S C hlt hc) (fun _ => OW_fst _ _ _ _ _ _ _) hS hP hD (List.range' 0 57) (OW_get _ _ _ _ _) (by decide) (fun _ => OW_put _ _ _ _ _ _ _ _ _) yw_L_undo kw_4_23 kw_5_0 ⟨Nat.le_of_ble_eq_true rfl, Nat.le_of_ble_eq_true rfl⟩ hl.1 (Nat.le_of_ble_eq_true rfl) dL_acts_203 rfl rfl ⟨Nat.le_of_ble_eq_true rfl, Nat.le_of_ble_eq_true rfl⟩ (fun r203 u203 H locs hp203 hP hD hS => ?_)
    refine ro_top (z := (-2)) hx hp203 ?_
    exact endI C9 rfl C ⟨rfl, hC0⟩ hS hP dL_acts_206
  · have c_16 := neq_t (a := S.x 14) (b := 0) (by omega) (by omega) c_16
    omega
set_option maxHeartbeats 1600000 in
set_option maxRecDepth 100000 in
theorem mL_acts_sea (l : Launch) (D : va_G) (G : u_G) (q : Nat) (K : AD) (S : AS) (C : SC) (k : Nat) (hk : k < 40) (hN : G.2.2.2.2.2.1 ≤ 260) (hA0 : AOK S) (hC0 : COK S C) (hz : ¬ S.x 14 = 0) (hj : 10 ≤ ceN G k % 16) (h3 : 0 < ceN G k / 16 % 3) : MtI l D G yL_acts cL_acts 7 .int 40 1 6 [.ref q, .ref G.2.2.2.2.1, .int (nI k)] (OW G q K S C) (fun (r : Int32) (u : SC) => r = sAn (srch S.p (odf (S.x 18)) (S.x 19) (S.x 20) 12 (S.x 13) (S.x 14) (loA G k) (hiA G k) z0) ∧ COK (S.sav (sX (srch S.p (odf (S.x 18)) (S.x 19) (S.x 20) 12 (S.x 13) (S.x 14) (loA G k) (hiA G k) z0) S.x) (sY (srch S.p (odf (S.x 18)) (S.x 19) (S.x 20) 12 (S.x 13) (S.x 14) (loA G k) (hiA G k) z0) S.y) S.p S.F) u) (fun (u : SC) => OW G q K (S.sav (sX (srch S.p (odf (S.x 18)) (S.x 19) (S.x 20) 12 (S.x 13) (S.x 14) (loA G k) (hiA G k) z0) S.x) (sY (srch S.p (odf (S.x 18)) (S.x 19) (S.x 20) 12 (S.x 13) (S.x 14) (loA G k) (hiA G k) z0) S.y) S.p S.F) u) := by
  refine MtI.of (by decide) (Nat.le_of_ble_eq_true rfl) ?_
  intro pr e s9 m9 below meth c9 A ls C9 hP hD hl
  obtain ⟨hx, hb, hml, hown, hts, hr, hlocks, hA, hAm⟩ := id C9
  have hS : va_S A s9.heap s9.heap [] := va_S.rf
  have hl : lv_has ls 7 [(0, .ref q), (1, .ref G.2.2.2.2.1), (2, .int (nI k))] := hl
  have hce := ceN_lt G k
  obtain ⟨⟨⟨w1, w2, w3, ⟨w4a, w4⟩, w5⟩, ⟨w6, w7⟩, w8, w9, w10⟩, hog, hcg, hSVD, hFR⟩ := id hA0
  obtain ⟨hSV, hL6, ht6⟩ := id hC0
  refine lv_aload_n hx hb dL_acts_0 rfl (lv_at hl 1 rfl) ?_
  refine lv_iload_n hx hb dL_acts_1 rfl (lv_at hl 2 rfl) ?_
  refine oS (As := [.ref G.2.2.2.2.1, .int (nI k)]) (rest := []) C9 (mL_cell l D G k (by omega) hN) (fun _ => rfl) hS hP hD [] rfl (by decide) (fun _ => rfl) ys_L_cell kw_16_15 kw_16_16 ⟨Nat.le_of_ble_eq_true rfl, Nat.le_of_ble_eq_true rfl⟩ hl.1 (Nat.le_of_ble_eq_true rfl) dL_acts_2 rfl rfl ⟨Nat.le_of_ble_eq_true rfl, Nat.le_of_ble_eq_true rfl⟩ (fun r2 u2 H locs hp2 hP hD hS => ?_)
  refine ro_top (z := nI (ceN G k)) hx hp2 ?_
  refine lv_istore_n (lv' := [(3, .int (nI (ceN G k))), (0, .ref q), (1, .ref G.2.2.2.2.1), (2, .int (nI k))]) hx hb dL_acts_5 rfl hl (by decide) rfl (fun ls hl => ?_)
  refine lv_iload_n hx hb dL_acts_6 rfl (lv_at hl 0 rfl) ?_
  refine lv_bipush (v := 16) hx hb dL_acts_7 (by decide) ?_
  refine lv_idiv hx hb dL_acts_9 (by decide) ?_
  refine ro_top (z := nI ((ceN G k) / 16)) hx (nI_div (a := ceN G k) (b := 16) (by omega) (by decide)) ?_
  refine lv_istore (lv' := [(4, .int (nI ((ceN G k) / 16))), (3, .int (nI (ceN G k))), (0, .ref q), (1, .ref G.2.2.2.2.1), (2, .int (nI k))]) hx hb dL_acts_10 hl (by decide) rfl (fun ls hl => ?_)
  refine lv_aload_n hx hb dL_acts_12 rfl (lv_at hl 2 rfl) ?_
  refine oV (As := []) (rest := []) (q0 := 0) (ci := 7) (T := TX7) (N := 5) C9 (o_left l D G q K S C) (fun _ => OW_fst _ _ _ _ _ _ _) hS hP hD (List.range' 0 57) (OW_get _ _ _ _ _) (by decide) (fun _ => OW_put _ _ _ _ _ _ _ _ _) rfl rfl ys_X7_left kw_12_1 kw_12_2 kw_12_3 ⟨Nat.le_of_ble_eq_true rfl, Nat.le_of_ble_eq_true rfl⟩ hl.1 (Nat.le_of_ble_eq_true rfl) dL_acts_13 rfl rfl ⟨Nat.le_of_ble_eq_true rfl, Nat.le_of_ble_eq_true rfl⟩ (fun r13 u13 H locs hp13 hP hD hS => ?_)
  refine ro_top (z := nI (S.x 14)) hx hp13 ?_
  refine lv_if_ne (tgt := 23) hx hb dL_acts_16 (by decide) (fun c_16 => ?_) (fun c_16 => ?_)
  · have c_16 := neq_f (a := S.x 14) (b := 0) (by omega) (by omega) c_16
    refine lv_iload_n hx hb dL_acts_23 rfl (lv_at hl 1 rfl) ?_
    refine lv_bipush (v := 16) hx hb dL_acts_24 (by decide) ?_
    refine ro_irem (z := nI ((ceN G k) % 16)) hx hb (by decide) (nI_rem (a := ceN G k) (b := 16) (by omega) (by decide)) dL_acts_26 ?_
    refine lv_tableOut (tgt := 207) hx hb dL_acts_27 (Or.inr (by rw [nI_toInt (by omega)]; omega)) (by decide) ?_
    refine lv_iload hx hb dL_acts_207 (lv_at hl 0 rfl) ?_
    refine lv_bipush (v := 16) hx hb dL_acts_209 (by decide) ?_
    refine lv_idiv hx hb dL_acts_211 (by decide) ?_
    refine ro_top (z := nI (((ceN G k) / 16) / 16)) hx (nI_div (a := (ceN G k) / 16) (b := 16) (by omega) (by decide)) ?_
    refine lv_bipush (v := 91) hx hb dL_acts_212 (by decide) ?_
    refine ro_irem (z := nI ((((ceN G k) / 16) / 16) % 91)) hx hb (by decide) (nI_rem (a := ((ceN G k) / 16) / 16) (b := 91) (by omega) (by decide)) dL_acts_214 ?_
    refine lv_bipush (v := 45) hx hb dL_acts_215 (by decide) ?_
    refine lv_isub hx hb dL_acts_217 ?_
    refine ro_top (z := loA G k) hx rfl ?_
    refine lv_istore (lv' := [(6, .int (loA G k)), (4, .int (nI ((ceN G k) / 16))), (3, .int (nI (ceN G k))), (0, .ref q), (1, .ref G.2.2.2.2.1), (2, .int (nI k))]) hx hb dL_acts_218 hl (by decide) rfl (fun ls hl => ?_)
    refine lv_aload_n hx hb dL_acts_220 rfl (lv_at hl 3 rfl) ?_
    refine lv_iload hx hb dL_acts_221 (lv_at hl 1 rfl) ?_
    refine lv_iconst (v := 3) hx hb dL_acts_223 (by decide) ?_
    refine ro_irem (z := nI (((ceN G k) / 16) % 3)) hx hb (by decide) (nI_rem (a := (ceN G k) / 16) (b := 3) (by omega) (by decide)) dL_acts_224 ?_
    refine lv_if_le (tgt := 233) hx hb dL_acts_225 (by decide) (fun c_225 => ?_) (fun c_225 => ?_)
    · have c_225 := nle_t (a := ((ceN G k) / 16) % 3) (b := 0) (by omega) (by omega) c_225
      omega
    · have c_225 := nle_f (a := ((ceN G k) / 16) % 3) (b := 0) (by omega) (by omega) c_225
      refine lv_bipush (v := 12) hx hb dL_acts_228 (by decide) ?_
      refine lv_goto (tgt := 238) hx hb dL_acts_230 (by decide) ?_
      refine lv_iload hx hb dL_acts_238 (lv_at hl 0 rfl) ?_
      refine lv_iload hx hb dL_acts_240 (lv_at hl 0 rfl) ?_
      refine lv_iconst (v := 1) hx hb dL_acts_242 (by decide) ?_
      refine lv_iadd hx hb dL_acts_243 ?_
      refine lv_iload hx hb dL_acts_244 (lv_at hl 1 rfl) ?_
      refine lv_sipush (v := 2048) hx hb dL_acts_246 (by decide) ?_
      refine lv_idiv hx hb dL_acts_249 (by decide) ?_
      refine ro_top (z := nI (((ceN G k) / 16) / 2048)) hx (nI_div (a := (ceN G k) / 16) (b := 2048) (by omega) (by decide)) ?_
      refine lv_bipush (v := 60) hx hb dL_acts_250 (by decide) ?_
      refine ro_irem (z := nI ((((ceN G k) / 16) / 2048) % 60)) hx hb (by decide) (nI_rem (a := ((ceN G k) / 16) / 2048) (b := 60) (by omega) (by decide)) dL_acts_252 ?_
      refine lv_iadd hx hb dL_acts_253 ?_
      refine ro_top (z := hiA G k) hx rfl ?_
      refine oW (As := [.ref q, .int 12, .int (loA G k), .int (hiA G k)]) (rest := []) C9 (mL_search_ok l D G q K S C 12 (loA G k) (hiA G k) (by omega) (lo_1 G k) (lo_2 G k) (hi_1 G k) (hi_2 G k) w1 w4 w3 hog hcg) (fun _ => OW_fst _ _ _ _ _ _ _) hS hP hD (List.range' 0 57) (OW_get _ _ _ _ _) (by decide) (fun _ => OW_put _ _ _ _ _ _ _ _ _) yw_L_search kw_20_4 kw_20_5 ⟨Nat.le_of_ble_eq_true rfl, Nat.le_of_ble_eq_true rfl⟩ hl.1 (Nat.le_of_ble_eq_true rfl) dL_acts_254 rfl rfl ⟨Nat.le_of_ble_eq_true rfl, Nat.le_of_ble_eq_true rfl⟩ (fun r254 u254 H locs hp254 hP hD hS => ?_)
      refine ro_top (z := sAn (srch S.p (odf (S.x 18)) (S.x 19) (S.x 20) 12 (S.x 13) (S.x 14) (loA G k) (hiA G k) z0)) hx hp254 ?_
      refine W.widen (k := 1) (n := 6) (by decide) (by decide) ?_
      exact endI C9 rfl (C.sv, C.L, C.cnt, C.num, C.t, u254.1, u254.2.1, u254.2.2) ⟨rfl, hC0.le rfl (Nat.le_refl _) rfl rfl rfl⟩ hS hP dL_acts_257
  · have c_16 := neq_t (a := S.x 14) (b := 0) (by omega) (by omega) c_16
    omega
set_option maxHeartbeats 1600000 in
set_option maxRecDepth 100000 in
theorem mL_acts_seb (l : Launch) (D : va_G) (G : u_G) (q : Nat) (K : AD) (S : AS) (C : SC) (k : Nat) (hk : k < 40) (hN : G.2.2.2.2.2.1 ≤ 260) (hA0 : AOK S) (hC0 : COK S C) (hz : ¬ S.x 14 = 0) (hj : 10 ≤ ceN G k % 16) (h3 : ¬ 0 < ceN G k / 16 % 3) : MtI l D G yL_acts cL_acts 7 .int 40 1 6 [.ref q, .ref G.2.2.2.2.1, .int (nI k)] (OW G q K S C) (fun (r : Int32) (u : SC) => r = sAn (srch S.p (odf (S.x 18)) (S.x 19) (S.x 20) (ceN G k / 16 % 13) (S.x 13) (S.x 14) (loA G k) (hiA G k) z0) ∧ COK (S.sav (sX (srch S.p (odf (S.x 18)) (S.x 19) (S.x 20) (ceN G k / 16 % 13) (S.x 13) (S.x 14) (loA G k) (hiA G k) z0) S.x) (sY (srch S.p (odf (S.x 18)) (S.x 19) (S.x 20) (ceN G k / 16 % 13) (S.x 13) (S.x 14) (loA G k) (hiA G k) z0) S.y) S.p S.F) u) (fun (u : SC) => OW G q K (S.sav (sX (srch S.p (odf (S.x 18)) (S.x 19) (S.x 20) (ceN G k / 16 % 13) (S.x 13) (S.x 14) (loA G k) (hiA G k) z0) S.x) (sY (srch S.p (odf (S.x 18)) (S.x 19) (S.x 20) (ceN G k / 16 % 13) (S.x 13) (S.x 14) (loA G k) (hiA G k) z0) S.y) S.p S.F) u) := by
  refine MtI.of (by decide) (Nat.le_of_ble_eq_true rfl) ?_
  intro pr e s9 m9 below meth c9 A ls C9 hP hD hl
  obtain ⟨hx, hb, hml, hown, hts, hr, hlocks, hA, hAm⟩ := id C9
  have hS : va_S A s9.heap s9.heap [] := va_S.rf
  have hl : lv_has ls 7 [(0, .ref q), (1, .ref G.2.2.2.2.1), (2, .int (nI k))] := hl
  have hce := ceN_lt G k
  obtain ⟨⟨⟨w1, w2, w3, ⟨w4a, w4⟩, w5⟩, ⟨w6, w7⟩, w8, w9, w10⟩, hog, hcg, hSVD, hFR⟩ := id hA0
  obtain ⟨hSV, hL6, ht6⟩ := id hC0
  refine lv_aload_n hx hb dL_acts_0 rfl (lv_at hl 1 rfl) ?_
  refine lv_iload_n hx hb dL_acts_1 rfl (lv_at hl 2 rfl) ?_
  refine oS (As := [.ref G.2.2.2.2.1, .int (nI k)]) (rest := []) C9 (mL_cell l D G k (by omega) hN) (fun _ => rfl) hS hP hD [] rfl (by decide) (fun _ => rfl) ys_L_cell kw_16_15 kw_16_16 ⟨Nat.le_of_ble_eq_true rfl, Nat.le_of_ble_eq_true rfl⟩ hl.1 (Nat.le_of_ble_eq_true rfl) dL_acts_2 rfl rfl ⟨Nat.le_of_ble_eq_true rfl, Nat.le_of_ble_eq_true rfl⟩ (fun r2 u2 H locs hp2 hP hD hS => ?_)
  refine ro_top (z := nI (ceN G k)) hx hp2 ?_
  refine lv_istore_n (lv' := [(3, .int (nI (ceN G k))), (0, .ref q), (1, .ref G.2.2.2.2.1), (2, .int (nI k))]) hx hb dL_acts_5 rfl hl (by decide) rfl (fun ls hl => ?_)
  refine lv_iload_n hx hb dL_acts_6 rfl (lv_at hl 0 rfl) ?_
  refine lv_bipush (v := 16) hx hb dL_acts_7 (by decide) ?_
  refine lv_idiv hx hb dL_acts_9 (by decide) ?_
  refine ro_top (z := nI ((ceN G k) / 16)) hx (nI_div (a := ceN G k) (b := 16) (by omega) (by decide)) ?_
  refine lv_istore (lv' := [(4, .int (nI ((ceN G k) / 16))), (3, .int (nI (ceN G k))), (0, .ref q), (1, .ref G.2.2.2.2.1), (2, .int (nI k))]) hx hb dL_acts_10 hl (by decide) rfl (fun ls hl => ?_)
  refine lv_aload_n hx hb dL_acts_12 rfl (lv_at hl 2 rfl) ?_
  refine oV (As := []) (rest := []) (q0 := 0) (ci := 7) (T := TX7) (N := 5) C9 (o_left l D G q K S C) (fun _ => OW_fst _ _ _ _ _ _ _) hS hP hD (List.range' 0 57) (OW_get _ _ _ _ _) (by decide) (fun _ => OW_put _ _ _ _ _ _ _ _ _) rfl rfl ys_X7_left kw_12_1 kw_12_2 kw_12_3 ⟨Nat.le_of_ble_eq_true rfl, Nat.le_of_ble_eq_true rfl⟩ hl.1 (Nat.le_of_ble_eq_true rfl) dL_acts_13 rfl rfl ⟨Nat.le_of_ble_eq_true rfl, Nat.le_of_ble_eq_true rfl⟩ (fun r13 u13 H locs hp13 hP hD hS => ?_)
  refine ro_top (z := nI (S.x 14)) hx hp13 ?_
  refine lv_if_ne (tgt := 23) hx hb dL_acts_16 (by decide) (fun c_16 => ?_) (fun c_16 => ?_)
  · have c_16 := neq_f (a := S.x 14) (b := 0) (by omega) (by omega) c_16
    refine lv_iload_n hx hb dL_acts_23 rfl (lv_at hl 1 rfl) ?_
    refine lv_bipush (v := 16) hx hb dL_acts_24 (by decide) ?_
    refine ro_irem (z := nI ((ceN G k) % 16)) hx hb (by decide) (nI_rem (a := ceN G k) (b := 16) (by omega) (by decide)) dL_acts_26 ?_
    refine lv_tableOut (tgt := 207) hx hb dL_acts_27 (Or.inr (by rw [nI_toInt (by omega)]; omega)) (by decide) ?_
    refine lv_iload hx hb dL_acts_207 (lv_at hl 0 rfl) ?_
    refine lv_bipush (v := 16) hx hb dL_acts_209 (by decide) ?_
    refine lv_idiv hx hb dL_acts_211 (by decide) ?_
    refine ro_top (z := nI (((ceN G k) / 16) / 16)) hx (nI_div (a := (ceN G k) / 16) (b := 16) (by omega) (by decide)) ?_
    refine lv_bipush (v := 91) hx hb dL_acts_212 (by decide) ?_
    refine ro_irem (z := nI ((((ceN G k) / 16) / 16) % 91)) hx hb (by decide) (nI_rem (a := ((ceN G k) / 16) / 16) (b := 91) (by omega) (by decide)) dL_acts_214 ?_
    refine lv_bipush (v := 45) hx hb dL_acts_215 (by decide) ?_
    refine lv_isub hx hb dL_acts_217 ?_
    refine ro_top (z := loA G k) hx rfl ?_
    refine lv_istore (lv' := [(6, .int (loA G k)), (4, .int (nI ((ceN G k) / 16))), (3, .int (nI (ceN G k))), (0, .ref q), (1, .ref G.2.2.2.2.1), (2, .int (nI k))]) hx hb dL_acts_218 hl (by decide) rfl (fun ls hl => ?_)
    refine lv_aload_n hx hb dL_acts_220 rfl (lv_at hl 3 rfl) ?_
    refine lv_iload hx hb dL_acts_221 (lv_at hl 1 rfl) ?_
    refine lv_iconst (v := 3) hx hb dL_acts_223 (by decide) ?_
    refine ro_irem (z := nI (((ceN G k) / 16) % 3)) hx hb (by decide) (nI_rem (a := (ceN G k) / 16) (b := 3) (by omega) (by decide)) dL_acts_224 ?_
    refine lv_if_le (tgt := 233) hx hb dL_acts_225 (by decide) (fun c_225 => ?_) (fun c_225 => ?_)
    · have c_225 := nle_t (a := ((ceN G k) / 16) % 3) (b := 0) (by omega) (by omega) c_225
      refine lv_iload hx hb dL_acts_233 (lv_at hl 1 rfl) ?_
      refine lv_bipush (v := 13) hx hb dL_acts_235 (by decide) ?_
      refine ro_irem (z := nI (((ceN G k) / 16) % 13)) hx hb (by decide) (nI_rem (a := (ceN G k) / 16) (b := 13) (by omega) (by decide)) dL_acts_237 ?_
      refine lv_iload hx hb dL_acts_238 (lv_at hl 0 rfl) ?_
      refine lv_iload hx hb dL_acts_240 (lv_at hl 0 rfl) ?_
      refine lv_iconst (v := 1) hx hb dL_acts_242 (by decide) ?_
      refine lv_iadd hx hb dL_acts_243 ?_
      refine lv_iload hx hb dL_acts_244 (lv_at hl 1 rfl) ?_
      refine lv_sipush (v := 2048) hx hb dL_acts_246 (by decide) ?_
      refine lv_idiv hx hb dL_acts_249 (by decide) ?_
      refine ro_top (z := nI (((ceN G k) / 16) / 2048)) hx (nI_div (a := (ceN G k) / 16) (b := 2048) (by omega) (by decide)) ?_
      refine lv_bipush (v := 60) hx hb dL_acts_250 (by decide) ?_
      refine ro_irem (z := nI ((((ceN G k) / 16) / 2048) % 60)) hx hb (by decide) (nI_rem (a := ((ceN G k) / 16) / 2048) (b := 60) (by omega) (by decide)) dL_acts_252 ?_
      refine lv_iadd hx hb dL_acts_253 ?_
      refine ro_top (z := hiA G k) hx rfl ?_
      refine oW (As := [.ref q, .int (nI (((ceN G k) / 16) % 13)), .int (loA G k), .int (hiA G k)]) (rest := []) C9 (mL_search_ok l D G q K S C (ceN G k / 16 % 13) (loA G k) (hiA G k) (by omega) (lo_1 G k) (lo_2 G k) (hi_1 G k) (hi_2 G k) w1 w4 w3 hog hcg) (fun _ => OW_fst _ _ _ _ _ _ _) hS hP hD (List.range' 0 57) (OW_get _ _ _ _ _) (by decide) (fun _ => OW_put _ _ _ _ _ _ _ _ _) yw_L_search kw_20_4 kw_20_5 ⟨Nat.le_of_ble_eq_true rfl, Nat.le_of_ble_eq_true rfl⟩ hl.1 (Nat.le_of_ble_eq_true rfl) dL_acts_254 rfl rfl ⟨Nat.le_of_ble_eq_true rfl, Nat.le_of_ble_eq_true rfl⟩ (fun r254 u254 H locs hp254 hP hD hS => ?_)
      refine ro_top (z := sAn (srch S.p (odf (S.x 18)) (S.x 19) (S.x 20) (ceN G k / 16 % 13) (S.x 13) (S.x 14) (loA G k) (hiA G k) z0)) hx hp254 ?_
      refine W.widen (k := 1) (n := 6) (by decide) (by decide) ?_
      exact endI C9 rfl (C.sv, C.L, C.cnt, C.num, C.t, u254.1, u254.2.1, u254.2.2) ⟨rfl, hC0.le rfl (Nat.le_refl _) rfl rfl rfl⟩ hS hP dL_acts_257
    · have c_225 := nle_f (a := ((ceN G k) / 16) % 3) (b := 0) (by omega) (by omega) c_225
      omega
  · have c_16 := neq_t (a := S.x 14) (b := 0) (by omega) (by omega) c_16
    omega
