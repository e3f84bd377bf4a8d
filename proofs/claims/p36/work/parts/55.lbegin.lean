set_option maxHeartbeats 8000000 in
set_option maxRecDepth 100000 in
theorem law_begin {pr : Program} {l : Launch} {e : Env} {s9 : State} {m9 : MethodId} {args : Array Value} {below : List Frame} {meth : Method} {c9 : Code} {A : Nat → Prop} {D : va_G} {G : u_G} {QQ : State → Prop} {o q : Nat} {K1 K2 : AD} (C9 : Cx pr m9 s9 args meth c9 code 9 RL (some .boolean) A D G) (hlt : l.stackTraces = false) (hN : G.2.2.2.2.2.1 ≤ 260) (E : ∀ (H : Heap) (locs : List Loc) (ls : Array Slot) (cl sl : Nat), va_S A s9.heap H locs → cl ≤ 600130 → sl ≤ 7301079 → W pr l e room_1 s9 m9 args below meth c9 H locs cl sl QQ (F0 m9 334 ls [.int 1])) (cl sl : Nat) (hcl : cl ≤ 200) (hsl : sl ≤ 8000) : ∀ (H : Heap) (locs : List Loc) (ls : Array Slot), va_P D vwCl (OW G o K1 S00 C00 ++ OW G q K2 S00 C00) H → va_D A (OW G o K1 S00 C00 ++ OW G q K2 S00 C00) → va_S A s9.heap H locs → lv_has ls 9 [(0, .ref G.2.2.2.2.1), (1, .ref o), (2, .ref q)] → W pr l e room_1 s9 m9 args below meth c9 H locs cl sl QQ (F0 m9 16 ls []) := by
  intro H locs ls hP hD hS hl
  obtain ⟨hx, hb, hml, hown, hts, hr, hlocks, hA, hAm⟩ := id C9
  refine lv_aload_n hx hb dL_law_16 rfl (lv_at hl 1 rfl) ?_
  refine oW (As := [.ref o]) (rest := []) (wz := fun (_ : Unit) => OW G o K1 S00 C00 ++ OW G q K2 S00 C00) C9 (mL_undo_T1 l D G o K1 S00 C00 hlt rfl) (fun _ => OW_fst _ _ _ _ _ _ _) hS hP hD (List.range' 0 57) OW2_get1 (by decide) (fun _ => OW2_put1) yw_L_undo kw_4_23 kw_5_0 ⟨Nat.le_of_ble_eq_true rfl, Nat.le_of_ble_eq_true rfl⟩ hl.1 (Nat.le_of_ble_eq_true rfl) dL_law_17 rfl rfl ⟨rm_c (by omega), rm_s (by omega)⟩ (fun r17 u17 H locs hp17 hP hD hS => ?_)
  refine ro_top (z := (-2)) hx hp17 ?_
  refine lv_bipush (v := (-2)) hx hb dL_law_20 (by decide) ?_
  refine lv_icmp_ne (tgt := 79) hx hb dL_law_22 (by decide) (fun h => absurd (by decide) h) (fun _ => ?_)
  refine lv_aload_n hx hb dL_law_25 rfl (lv_at hl 1 rfl) ?_
  refine oV (As := []) (rest := []) (q0 := 0) (ci := 7) (T := TX7) (N := 5) (wz := fun (_ : Unit) => OW G o K1 S00 (zf, 0, 1, 0, t00, v00, w00, c00) ++ OW G q K2 S00 C00) C9 (o_firstError l D G o K1 S00 C00 (Nat.zero_le _) (fun j hj => absurd hj (Nat.not_lt_zero _))) (fun _ => OW_fst _ _ _ _ _ _ _) hS hP hD (List.range' 0 57) OW2_get1 (by decide) (fun _ => OW2_put1) OW2_at1 rfl ys_X7_firstError kw_8_4 kw_8_5 kw_8_6 ⟨Nat.le_of_ble_eq_true rfl, Nat.le_of_ble_eq_true rfl⟩ hl.1 (Nat.le_of_ble_eq_true rfl) dL_law_26 rfl rfl ⟨rm_c (by omega), rm_s (by omega)⟩ (fun r26 u26 H locs hp26 hP hD hS => ?_)
  refine ro_top (z := 0) hx (by rw [hp26]; rfl) ?_
  refine lv_if_ne (tgt := 79) hx hb dL_law_29 (by decide) (fun h => absurd (by decide) h) (fun _ => ?_)
  refine lv_aload_n hx hb dL_law_32 rfl (lv_at hl 1 rfl) ?_
  refine oV (As := []) (rest := []) (q0 := 0) (ci := 7) (T := TX7) (N := 5) (wz := fun (_ : Unit) => OW G o K1 S00 (zf, 0, 1, 0, t00, v00, w00, c00) ++ OW G q K2 S00 C00) C9 (o_result l D G o K1 S00 (zf, 0, 1, 0, t00, v00, w00, c00)) (fun _ => OW_fst _ _ _ _ _ _ _) hS hP hD (List.range' 0 57) OW2_get1 (by decide) (fun _ => OW2_put1) OW2_at1 rfl ys_X7_result kw_8_20 kw_8_21 kw_8_22 ⟨Nat.le_of_ble_eq_true rfl, Nat.le_of_ble_eq_true rfl⟩ hl.1 (Nat.le_of_ble_eq_true rfl) dL_law_33 rfl rfl ⟨rm_c (by omega), rm_s (by omega)⟩ (fun r33 u33 H locs hp33 hP hD hS => ?_)
  refine ro_top (z := (-999)) hx (by rw [hp33]; rfl) ?_
  refine lv_sipush (v := (-999)) hx hb dL_law_36 (by decide) ?_
  refine lv_icmp_ne (tgt := 79) hx hb dL_law_39 (by decide) (fun h => absurd (by decide) h) (fun _ => ?_)
  refine lv_aload_n hx hb dL_law_42 rfl (lv_at hl 1 rfl) ?_
  refine oF (As := []) (rest := []) (q0 := 0) (ci := 7) (T := TX7) (N := 5) C9 (o_hitShare l D G o K1 S00 (zf, 0, 1, 0, t00, v00, w00, c00) (by decide)) hS hP hD (List.range' 0 57) OW2_get1 (by decide) OW2_at1 rfl ys_X7_hitShare kw_9_2 kw_9_3 kw_9_4 ⟨Nat.le_of_ble_eq_true rfl, Nat.le_of_ble_eq_true rfl⟩ hl.1 (Nat.le_of_ble_eq_true rfl) dL_law_43 rfl rfl ⟨rm_c (by omega), rm_s (by omega)⟩ (fun r43 H locs hp43 hP hS => ?_)
  refine W.eq (g2 := F0 m9 46 ls [.double (hsV (S00.x 22) (S00.y 24))]) (by rw [hp43]) ?_
  refine lv_dconst0 hx hb dL_law_46 ?_
  refine lv_dcmp hx hb dL_law_47 ?_
  refine ro_top (z := 0) hx (by have e9 : hsV (S00.x 22) (S00.y 24) = FP.dconst0 := if_pos rfl; rw [← e9]; exact hs_self (by decide)) ?_
  refine lv_if_ne (tgt := 79) hx hb dL_law_48 (by decide) (fun h => absurd (by decide) h) (fun _ => ?_)
  refine lv_aload_n hx hb dL_law_51 rfl (lv_at hl 1 rfl) ?_
  refine oV (As := []) (rest := []) (q0 := 0) (ci := 7) (T := TX7) (N := 5) (wz := fun (u52 : (Nat → Nat) × (Nat → Int32) × (Nat → Nat → Int32)) => OW G o K1 S00 (zf, 0, 1, 0, t00, u52.1, u52.2.1, u52.2.2) ++ OW G q K2 S00 C00) C9 (o_bestOrder l D G o K1 S00 (zf, 0, 1, 0, t00, v00, w00, c00) (by decide) (by decide)) (fun _ => OW_fst _ _ _ _ _ _ _) hS hP hD (List.range' 0 57) OW2_get1 (by decide) (fun _ => OW2_put1) OW2_at1 rfl ys_X7_bestOrder kw_9_8 kw_9_9 kw_9_10 ⟨Nat.le_of_ble_eq_true rfl, Nat.le_of_ble_eq_true rfl⟩ hl.1 (Nat.le_of_ble_eq_true rfl) dL_law_52 rfl rfl ⟨rm_c (by omega), rm_s (by omega)⟩ (fun r52 u52 H locs hp52 hP hD hS => ?_)
  refine ro_top (z := 0) hx (by rw [hp52]; show nI (boN zf x00 23).1 = 0; rw [bo_0]; rfl) ?_
  refine lv_if_ne (tgt := 79) hx hb dL_law_55 (by decide) (fun h => absurd (by decide) h) (fun _ => ?_)
  refine lv_aload_n hx hb dL_law_58 rfl (lv_at hl 1 rfl) ?_
  refine lv_bipush (v := 23) hx hb dL_law_59 (by decide) ?_
  refine oW (As := [.ref o, .int 23]) (rest := []) (wz := fun (u61 : (Nat → Nat) × (Nat → Int32) × (Nat → Nat → Int32)) => OW G o K1 S00 (zf, 0, 1, 0, t00, u61.1, u61.2.1, u61.2.2) ++ OW G q K2 S00 C00) C9 (mL_nodesWith_ok l D G o K1 S00 (zf, 0, 1, 0, t00, u52.1, u52.2.1, u52.2.2) 23 (by decide) (by decide) (by decide)) (fun _ => OW_fst _ _ _ _ _ _ _) hS hP hD (List.range' 0 57) OW2_get1 (by decide) (fun _ => OW2_put1) yw_L_nodesWith kw_11_9 kw_11_10 ⟨Nat.le_of_ble_eq_true rfl, Nat.le_of_ble_eq_true rfl⟩ hl.1 (Nat.le_of_ble_eq_true rfl) dL_law_61 rfl rfl ⟨rm_c (by omega), rm_s (by omega)⟩ (fun r61 u61 H locs hp61 hP hD hS => ?_)
  refine ro_top (z := 1) hx (by rw [hp61]; show nI (fcN zf x00 23) = 1; rw [fc_0]; rfl) ?_
  refine lv_iconst (v := 1) hx hb dL_law_64 (by decide) ?_
  refine lv_icmp_ne (tgt := 79) hx hb dL_law_65 (by decide) (fun h => absurd (by decide) h) (fun _ => ?_)
  refine lv_aload_n hx hb dL_law_68 rfl (lv_at hl 1 rfl) ?_
  refine oS (As := [.ref o]) (rest := []) (wz := fun (_ : Unit) => OW G o K1 S00 (zf, 0, 1, 0, t00, u61.1, u61.2.1, u61.2.2) ++ OW G q K2 S00 C00) C9 (mL_hangs l D G hlt o K1 S00 (zf, 0, 1, 0, t00, u61.1, u61.2.1, u61.2.2) AOK_0 ⟨SV_0, Nat.zero_le _, fun j hj => absurd hj (Nat.not_lt_zero _)⟩) (fun _ => OW_fst _ _ _ _ _ _ _) hS hP hD (List.range' 0 57) OW2_get1 (by decide) (fun _ => OW2_put1) ys_L_hangs kw_11_22 kw_11_23 ⟨Nat.le_of_ble_eq_true rfl, Nat.le_of_ble_eq_true rfl⟩ hl.1 (Nat.le_of_ble_eq_true rfl) dL_law_69 rfl rfl ⟨rm_c (by omega), rm_s (by omega)⟩ (fun r69 u69 H locs hp69 hP hD hS => ?_)
  refine ro_top (z := 1) hx hp69 ?_
  refine lv_if_eq (tgt := 79) hx hb dL_law_72 (by decide) (fun h => absurd h (by decide)) (fun _ => ?_)
  refine lv_iconst (v := 1) hx hb dL_law_75 (by decide) ?_
  refine lv_goto (tgt := 80) hx hb dL_law_76 (by decide) ?_
  refine lv_istore_n (lv' := [(3, .int 1), (0, .ref G.2.2.2.2.1), (1, .ref o), (2, .ref q)]) hx hb dL_law_80 rfl hl (by decide) rfl (fun ls hl => ?_)
  refine lv_iconst (v := 0) hx hb dL_law_81 (by decide) ?_
  refine lv_istore (lv' := [(4, .int 0), (3, .int 1), (0, .ref G.2.2.2.2.1), (1, .ref o), (2, .ref q)]) hx hb dL_law_82 hl (by decide) rfl (fun ls hl => ?_)
  exact law_loop C9 hlt hN E 35 0 S00 (zf, 0, 1, 0, t00, u61.1, u61.2.1, u61.2.2) C00 _ _ (by omega) AOK_0 ⟨SV_0, Nat.zero_le _, fun j hj => absurd hj (Nat.not_lt_zero _)⟩ ⟨SV_0, Nat.zero_le _, fun j hj => absurd hj (Nat.not_lt_zero _)⟩ (by omega) (by omega) (by omega) _ _ _ hP hD hS (lv_sub hl [2, 3, 4, 1, 0] rfl)
