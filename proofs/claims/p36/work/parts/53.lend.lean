set_option maxHeartbeats 8000000 in
set_option maxRecDepth 100000 in
theorem law_end {pr : Program} {l : Launch} {e : Env} {s9 : State} {m9 : MethodId} {args : Array Value} {below : List Frame} {meth : Method} {c9 : Code} {A : Nat → Prop} {D : va_G} {G : u_G} {QQ : State → Prop} {o q : Nat} {K1 K2 : AD} (C9 : Cx pr m9 s9 args meth c9 code 9 RL (some .boolean) A D G) (hlt : l.stackTraces = false) (hN : G.2.2.2.2.2.1 ≤ 260) (E : ∀ (H : Heap) (locs : List Loc) (ls : Array Slot) (cl sl : Nat), va_S A s9.heap H locs → cl ≤ 600130 → sl ≤ 7301079 → W pr l e room_1 s9 m9 args below meth c9 H locs cl sl QQ (F0 m9 334 ls [.int 1])) (S : AS) (C1 C2 : SC) (cl sl : Nat) (hA0 : AOK S) (hC0 : COK S C1) (hcl : cl ≤ 100000) (hsl : sl ≤ 1000000) : ∀ (H : Heap) (locs : List Loc) (ls : Array Slot), va_P D vwCl (OW G o K1 S C1 ++ OW G q K2 S C2) H → va_D A (OW G o K1 S C1 ++ OW G q K2 S C2) → va_S A s9.heap H locs → lv_has ls 9 [(0, .ref G.2.2.2.2.1), (1, .ref o), (2, .ref q), (3, .int 1)] → W pr l e room_1 s9 m9 args below meth c9 H locs cl sl QQ (F0 m9 196 ls []) := by
  intro H locs ls hP hD hS hl
  obtain ⟨hx, hb, hml, hown, hts, hr, hlocks, hA, hAm⟩ := id C9
  obtain ⟨⟨⟨w1, w2, w3, ⟨w4a, w4⟩, w5⟩, ⟨w6, w7⟩, w8, w9, w10⟩, hog, hcg, hSVD, hFR⟩ := id hA0
  obtain ⟨hSV, hL6, ht6⟩ := id hC0
  refine lv_aload_n hx hb dL_law_196 rfl (lv_at hl 1 rfl) ?_
  refine oV (As := []) (rest := []) (q0 := 0) (ci := 7) (T := TX7) (N := 5) (wz := fun (_ : Unit) => OW G o K1 S C1 ++ OW G q K2 S C2) C9 (o_value l D G o K1 S C1 w1 w6 hSV) (fun _ => OW_fst _ _ _ _ _ _ _) hS hP hD (List.range' 0 57) OW2_get1 (by decide) (fun _ => OW2_put1) OW2_at1 rfl ys_X7_value kw_13_8 kw_13_9 kw_13_10 ⟨Nat.le_of_ble_eq_true rfl, Nat.le_of_ble_eq_true rfl⟩ hl.1 (Nat.le_of_ble_eq_true rfl) dL_law_197 rfl rfl ⟨rm_c (by omega), rm_s (by omega)⟩ (fun r197 u197 H locs hp197 hP hD hS => ?_)
  obtain ⟨vv, hvv⟩ : ∃ z, z = V S.p (S.x 14) (S.x 13) := ⟨_, rfl⟩
  refine ro_top (z := vv) hx (by rw [hp197, hvv]) ?_
  refine lv_istore (lv' := [(4, .int vv), (0, .ref G.2.2.2.2.1), (1, .ref o), (2, .ref q), (3, .int 1)]) hx hb dL_law_200 hl (by decide) rfl (fun ls hl => ?_)
  refine lv_aload_n hx hb dL_law_202 rfl (lv_at hl 2 rfl) ?_
  refine lv_iconst (v := 1) hx hb dL_law_203 (by decide) ?_
  refine ro_top (z := bI (0 = 0)) hx (by decide) ?_
  refine oV (As := [.int (bI (0 = 0))]) (rest := []) (q0 := 0) (ci := 7) (T := TX7) (N := 5) (wz := fun (_ : Unit) => OW G o K1 (S.sav (va_up S.x 20 0) S.y S.p S.F) C1 ++ OW G q K2 S C2) C9 (o_useTable l D G o K1 S C1 0 hog hcg) (fun _ => OW_fst _ _ _ _ _ _ _) hS hP hD (List.range' 0 57) OW2_get1 (by decide) (fun _ => OW2_put1) OW2_at1 rfl ys_X7_useTable kw_19_23 kw_20_0 kw_20_1 ⟨Nat.le_of_ble_eq_true rfl, Nat.le_of_ble_eq_true rfl⟩ hl.1 (Nat.le_of_ble_eq_true rfl) dL_law_204 rfl rfl ⟨rm_c (by omega), rm_s (by omega)⟩ (fun r204 u204 H locs hp204 hP hD hS => ?_)
  obtain ⟨Sa, hSa⟩ : ∃ z : AS, z = S.sav (va_up S.x 20 0) S.y S.p S.F := ⟨_, rfl⟩
  rw [← hSa] at hP hD
  have hAa : AOK Sa := by rw [hSa]; exact hA0.sav (hA0.1.o20 (by omega)) hFR
  have hCa : COK Sa C1 := by rw [hSa]; exact hC0.le rfl (Nat.le_refl _) rfl rfl rfl
  have a13 : Sa.x 13 = S.x 13 := by rw [hSa]; rfl
  have a14 : Sa.x 14 = S.x 14 := by rw [hSa]; rfl
  have ap : Sa.p = S.p := by rw [hSa]
  have a18 : Sa.x 18 = S.x 18 := by rw [hSa]; rfl
  have a19 : Sa.x 19 = S.x 19 := by rw [hSa]; rfl
  have a20 : Sa.x 20 = 0 := by rw [hSa]; rfl
  obtain ⟨⟨⟨z1, z2, z3, ⟨z4a, z4⟩, z5⟩, ⟨z6, z7⟩, z8, z9, z10⟩, zog, zcg, zSVD, zFR⟩ := id hAa
  refine ro_top (z := bI (S.x 20 = 0)) hx hp204 ?_
  refine lv_istore (lv' := [(5, .int (bI (S.x 20 = 0))), (4, .int vv), (0, .ref G.2.2.2.2.1), (1, .ref o), (2, .ref q), (3, .int 1)]) hx hb dL_law_207 hl (by decide) rfl (fun ls hl => ?_)
  refine lv_aload_n hx hb dL_law_209 rfl (lv_at hl 3 rfl) ?_
  refine lv_bipush (v := 12) hx hb dL_law_210 (by decide) ?_
  refine lv_sipush (v := (-240)) hx hb dL_law_212 (by decide) ?_
  refine lv_sipush (v := 241) hx hb dL_law_215 (by decide) ?_
  refine oW (As := [.ref o, .int 12, .int (-240), .int 241]) (rest := []) (wz := fun (u218 : (Nat → Nat) × (Nat → Int32) × (Nat → Nat → Int32)) => OW G o K1 (Sa.sav (sX (srch Sa.p (odf (Sa.x 18)) (Sa.x 19) (Sa.x 20) 12 (Sa.x 13) (Sa.x 14) (-240) 241 z0) Sa.x) (sY (srch Sa.p (odf (Sa.x 18)) (Sa.x 19) (Sa.x 20) 12 (Sa.x 13) (Sa.x 14) (-240) 241 z0) Sa.y) Sa.p Sa.F) (C1.sv, C1.L, C1.cnt, C1.num, C1.t, u218.1, u218.2.1, u218.2.2) ++ OW G q K2 S C2) C9 (mL_search_ok l D G o K1 Sa C1 12 (-240) 241 (by omega) (by decide) (by decide) (by decide) (by decide) z1 z4 z3 zog zcg) (fun _ => OW_fst _ _ _ _ _ _ _) hS hP hD (List.range' 0 57) OW2_get1 (by decide) (fun _ => OW2_put1) yw_L_search kw_20_4 kw_20_5 ⟨Nat.le_of_ble_eq_true rfl, Nat.le_of_ble_eq_true rfl⟩ hl.1 (Nat.le_of_ble_eq_true rfl) dL_law_218 rfl rfl ⟨rm_c (by omega), rm_s (by omega)⟩ (fun r218 u218 H locs hp218 hP hD hS => ?_)
  obtain ⟨Sb, hSb⟩ : ∃ z : AS, z = Sa.sav (sX (srch Sa.p (odf (Sa.x 18)) (Sa.x 19) (Sa.x 20) 12 (Sa.x 13) (Sa.x 14) (-240) 241 z0) Sa.x) (sY (srch Sa.p (odf (Sa.x 18)) (Sa.x 19) (Sa.x 20) 12 (Sa.x 13) (Sa.x 14) (-240) 241 z0) Sa.y) Sa.p Sa.F := ⟨_, rfl⟩
  have hP : va_P D vwCl (OW G o K1 (Sa.sav (sX (srch Sa.p (odf (Sa.x 18)) (Sa.x 19) (Sa.x 20) 12 (Sa.x 13) (Sa.x 14) (-240) 241 z0) Sa.x) (sY (srch Sa.p (odf (Sa.x 18)) (Sa.x 19) (Sa.x 20) 12 (Sa.x 13) (Sa.x 14) (-240) 241 z0) Sa.y) Sa.p Sa.F) (C1.sv, C1.L, C1.cnt, C1.num, C1.t, u218.1, u218.2.1, u218.2.2) ++ OW G q K2 S C2) H := hP
  have hD : va_D A (OW G o K1 (Sa.sav (sX (srch Sa.p (odf (Sa.x 18)) (Sa.x 19) (Sa.x 20) 12 (Sa.x 13) (Sa.x 14) (-240) 241 z0) Sa.x) (sY (srch Sa.p (odf (Sa.x 18)) (Sa.x 19) (Sa.x 20) 12 (Sa.x 13) (Sa.x 14) (-240) 241 z0) Sa.y) Sa.p Sa.F) (C1.sv, C1.L, C1.cnt, C1.num, C1.t, u218.1, u218.2.1, u218.2.2) ++ OW G q K2 S C2) := hD
  rw [← hSb] at hP hD
  have hAb : AOK Sb := by rw [hSb]; exact hAa.sav (hAa.1.se _ _ _) zFR
  have hCb : COK Sb (C1.sv, C1.L, C1.cnt, C1.num, C1.t, u218.1, u218.2.1, u218.2.2) := by rw [hSb]; exact hCa.le rfl (Nat.le_refl _) rfl rfl rfl
  have b13 : Sb.x 13 = S.x 13 := by rw [hSb, ← a13]; rfl
  have b14 : Sb.x 14 = S.x 14 := by rw [hSb, ← a14]; rfl
  have bp : Sb.p = S.p := by rw [hSb, ← ap]
  have b18 : Sb.x 18 = S.x 18 := by rw [hSb, ← a18]; rfl
  have b19 : Sb.x 19 = S.x 19 := by rw [hSb, ← a19]; rfl
  have b20 : Sb.x 20 = 0 := by rw [hSb, ← a20]; rfl
  obtain ⟨-, bog, bcg, -, bFR⟩ := id hAb
  obtain ⟨wi, hwi⟩ : ∃ z, z = sAn (srch Sa.p (odf (Sa.x 18)) (Sa.x 19) (Sa.x 20) 12 (Sa.x 13) (Sa.x 14) (-240) 241 z0) := ⟨_, rfl⟩
  refine ro_top (z := wi) hx (by rw [hp218, hwi]) ?_
  refine lv_istore (lv' := [(6, .int wi), (5, .int (bI (S.x 20 = 0))), (4, .int vv), (0, .ref G.2.2.2.2.1), (1, .ref o), (2, .ref q), (3, .int 1)]) hx hb dL_law_221 hl (by decide) rfl (fun ls hl => ?_)
  refine lv_aload_n hx hb dL_law_223 rfl (lv_at hl 4 rfl) ?_
  refine lv_iconst (v := 0) hx hb dL_law_224 (by decide) ?_
  refine ro_top (z := bI (1 = 0)) hx (by decide) ?_
  refine oV (As := [.int (bI (1 = 0))]) (rest := []) (q0 := 0) (ci := 7) (T := TX7) (N := 5) (wz := fun (_ : Unit) => OW G o K1 (Sb.sav (va_up Sb.x 20 1) Sb.y Sb.p Sb.F) (C1.sv, C1.L, C1.cnt, C1.num, C1.t, u218.1, u218.2.1, u218.2.2) ++ OW G q K2 S C2) C9 (o_useTable l D G o K1 Sb (C1.sv, C1.L, C1.cnt, C1.num, C1.t, u218.1, u218.2.1, u218.2.2) 1 bog bcg) (fun _ => OW_fst _ _ _ _ _ _ _) hS hP hD (List.range' 0 57) OW2_get1 (by decide) (fun _ => OW2_put1) OW2_at1 rfl ys_X7_useTable kw_19_23 kw_20_0 kw_20_1 ⟨Nat.le_of_ble_eq_true rfl, Nat.le_of_ble_eq_true rfl⟩ hl.1 (Nat.le_of_ble_eq_true rfl) dL_law_225 rfl rfl ⟨rm_c (by omega), rm_s (by omega)⟩ (fun r225 u225 H locs hp225 hP hD hS => ?_)
  obtain ⟨Sc, hSc⟩ : ∃ z : AS, z = Sb.sav (va_up Sb.x 20 1) Sb.y Sb.p Sb.F := ⟨_, rfl⟩
  rw [← hSc] at hP hD
  have hAc : AOK Sc := by rw [hSc]; exact hAb.sav (hAb.1.o20 (by omega)) bFR
  have hCc : COK Sc (C1.sv, C1.L, C1.cnt, C1.num, C1.t, u218.1, u218.2.1, u218.2.2) := by rw [hSc]; exact hCb.le rfl (Nat.le_refl _) rfl rfl rfl
  have c13 : Sc.x 13 = S.x 13 := by rw [hSc, ← b13]; rfl
  have c14 : Sc.x 14 = S.x 14 := by rw [hSc, ← b14]; rfl
  have cp : Sc.p = S.p := by rw [hSc, ← bp]
  have c18 : Sc.x 18 = S.x 18 := by rw [hSc, ← b18]; rfl
  have c19 : Sc.x 19 = S.x 19 := by rw [hSc, ← b19]; rfl
  have c20 : Sc.x 20 = 1 := by rw [hSc]; rfl
  obtain ⟨⟨⟨y1, y2, y3, ⟨y4a, y4⟩, y5⟩, ⟨y6, y7⟩, y8, y9, y10⟩, yog, ycg, ySVD, yFR⟩ := id hAc
  refine ro_top (z := 1) hx (by rw [hp225]; exact bI_t b20) ?_
  refine lv_istore (lv' := [(7, .int 1), (6, .int wi), (5, .int (bI (S.x 20 = 0))), (4, .int vv), (0, .ref G.2.2.2.2.1), (1, .ref o), (2, .ref q), (3, .int 1)]) hx hb dL_law_228 hl (by decide) rfl (fun ls hl => ?_)
  refine lv_aload_n hx hb dL_law_230 rfl (lv_at hl 5 rfl) ?_
  refine lv_bipush (v := 12) hx hb dL_law_231 (by decide) ?_
  refine lv_sipush (v := (-240)) hx hb dL_law_233 (by decide) ?_
  refine lv_sipush (v := 241) hx hb dL_law_236 (by decide) ?_
  refine oW (As := [.ref o, .int 12, .int (-240), .int 241]) (rest := []) (wz := fun (u239 : (Nat → Nat) × (Nat → Int32) × (Nat → Nat → Int32)) => OW G o K1 (Sc.sav (sX (srch Sc.p (odf (Sc.x 18)) (Sc.x 19) (Sc.x 20) 12 (Sc.x 13) (Sc.x 14) (-240) 241 z0) Sc.x) (sY (srch Sc.p (odf (Sc.x 18)) (Sc.x 19) (Sc.x 20) 12 (Sc.x 13) (Sc.x 14) (-240) 241 z0) Sc.y) Sc.p Sc.F) (C1.sv, C1.L, C1.cnt, C1.num, C1.t, u239.1, u239.2.1, u239.2.2) ++ OW G q K2 S C2) C9 (mL_search_ok l D G o K1 Sc (C1.sv, C1.L, C1.cnt, C1.num, C1.t, u218.1, u218.2.1, u218.2.2) 12 (-240) 241 (by omega) (by decide) (by decide) (by decide) (by decide) y1 y4 y3 yog ycg) (fun _ => OW_fst _ _ _ _ _ _ _) hS hP hD (List.range' 0 57) OW2_get1 (by decide) (fun _ => OW2_put1) yw_L_search kw_20_4 kw_20_5 ⟨Nat.le_of_ble_eq_true rfl, Nat.le_of_ble_eq_true rfl⟩ hl.1 (Nat.le_of_ble_eq_true rfl) dL_law_239 rfl rfl ⟨rm_c (by omega), rm_s (by omega)⟩ (fun r239 u239 H locs hp239 hP hD hS => ?_)
  obtain ⟨Se, hSe⟩ : ∃ z : AS, z = Sc.sav (sX (srch Sc.p (odf (Sc.x 18)) (Sc.x 19) (Sc.x 20) 12 (Sc.x 13) (Sc.x 14) (-240) 241 z0) Sc.x) (sY (srch Sc.p (odf (Sc.x 18)) (Sc.x 19) (Sc.x 20) 12 (Sc.x 13) (Sc.x 14) (-240) 241 z0) Sc.y) Sc.p Sc.F := ⟨_, rfl⟩
  have hP : va_P D vwCl (OW G o K1 (Sc.sav (sX (srch Sc.p (odf (Sc.x 18)) (Sc.x 19) (Sc.x 20) 12 (Sc.x 13) (Sc.x 14) (-240) 241 z0) Sc.x) (sY (srch Sc.p (odf (Sc.x 18)) (Sc.x 19) (Sc.x 20) 12 (Sc.x 13) (Sc.x 14) (-240) 241 z0) Sc.y) Sc.p Sc.F) (C1.sv, C1.L, C1.cnt, C1.num, C1.t, u239.1, u239.2.1, u239.2.2) ++ OW G q K2 S C2) H := hP
  have hD : va_D A (OW G o K1 (Sc.sav (sX (srch Sc.p (odf (Sc.x 18)) (Sc.x 19) (Sc.x 20) 12 (Sc.x 13) (Sc.x 14) (-240) 241 z0) Sc.x) (sY (srch Sc.p (odf (Sc.x 18)) (Sc.x 19) (Sc.x 20) 12 (Sc.x 13) (Sc.x 14) (-240) 241 z0) Sc.y) Sc.p Sc.F) (C1.sv, C1.L, C1.cnt, C1.num, C1.t, u239.1, u239.2.1, u239.2.2) ++ OW G q K2 S C2) := hD
  rw [← hSe] at hP hD
  have hAe : AOK Se := by rw [hSe]; exact hAc.sav (hAc.1.se _ _ _) yFR
  have hCe : COK Se (C1.sv, C1.L, C1.cnt, C1.num, C1.t, u239.1, u239.2.1, u239.2.2) := by rw [hSe]; exact hCc.le rfl (Nat.le_refl _) rfl rfl rfl
  have e13 : Se.x 13 = S.x 13 := by rw [hSe, ← c13]; rfl
  have e14 : Se.x 14 = S.x 14 := by rw [hSe, ← c14]; rfl
  have ep : Se.p = S.p := by rw [hSe, ← cp]
  have e20 : Se.x 20 = 1 := by rw [hSe, ← c20]; rfl
  obtain ⟨-, eog, ecg, -, eFR⟩ := id hAe
  obtain ⟨wo, hwo⟩ : ∃ z, z = sAn (srch Sc.p (odf (Sc.x 18)) (Sc.x 19) (Sc.x 20) 12 (Sc.x 13) (Sc.x 14) (-240) 241 z0) := ⟨_, rfl⟩
  obtain ⟨f1, f2, f3⟩ := wide_end w6 (o := S.x 18) (lim := S.x 19) (f := S.x 13) (n := S.x 14) w3 w4 w1
  rw [a13, a14, ap, a18, a19, a20] at hwi
  have hwo2 := hwo
  rw [c13, c14, cp, c18, c19, c20] at hwo2
  rw [← hwi, ← hvv] at f1 f3
  rw [← hwo2] at f2 f3
  rw [← hvv] at f2
  refine ro_top (z := wo) hx (by rw [hp239, hwo]) ?_
  refine lv_istore (lv' := [(8, .int wo), (7, .int 1), (6, .int wi), (5, .int (bI (S.x 20 = 0))), (4, .int vv), (0, .ref G.2.2.2.2.1), (1, .ref o), (2, .ref q), (3, .int 1)]) hx hb dL_law_242 hl (by decide) rfl (fun ls hl => ?_)
  refine lv_iload_n hx hb dL_law_244 rfl (lv_at hl 8 rfl) ?_
  refine lv_if_eq (tgt := 333) hx hb dL_law_245 (by decide) (fun h => absurd h (by decide)) (fun _ => ?_)
  refine lv_iload hx hb dL_law_248 (lv_at hl 1 rfl) ?_
  refine lv_if_eq (tgt := 333) hx hb dL_law_250 (by decide) (fun h => absurd h (by decide)) (fun _ => ?_)
  refine lv_aload_n hx hb dL_law_253 rfl (lv_at hl 6 rfl) ?_
  refine lv_iload hx hb dL_law_254 (lv_at hl 3 rfl) ?_
  refine oV (As := [.int (bI (S.x 20 = 0))]) (rest := []) (q0 := 0) (ci := 7) (T := TX7) (N := 5) (wz := fun (_ : Unit) => OW G o K1 (Se.sav (va_up Se.x 20 (S.x 20)) Se.y Se.p Se.F) (C1.sv, C1.L, C1.cnt, C1.num, C1.t, u239.1, u239.2.1, u239.2.2) ++ OW G q K2 S C2) C9 (o_useTable l D G o K1 Se (C1.sv, C1.L, C1.cnt, C1.num, C1.t, u239.1, u239.2.1, u239.2.2) (S.x 20) eog ecg) (fun _ => OW_fst _ _ _ _ _ _ _) hS hP hD (List.range' 0 57) OW2_get1 (by decide) (fun _ => OW2_put1) OW2_at1 rfl ys_X7_useTable kw_19_23 kw_20_0 kw_20_1 ⟨Nat.le_of_ble_eq_true rfl, Nat.le_of_ble_eq_true rfl⟩ hl.1 (Nat.le_of_ble_eq_true rfl) dL_law_256 rfl rfl ⟨rm_c (by omega), rm_s (by omega)⟩ (fun r256 u256 H locs hp256 hP hD hS => ?_)
  obtain ⟨Sf, hSf⟩ : ∃ z : AS, z = Se.sav (va_up Se.x 20 (S.x 20)) Se.y Se.p Se.F := ⟨_, rfl⟩
  rw [← hSf] at hP hD
  have hAf : AOK Sf := by rw [hSf]; exact hAe.sav (hAe.1.o20 w5) eFR
  have hCf : COK Sf (C1.sv, C1.L, C1.cnt, C1.num, C1.t, u239.1, u239.2.1, u239.2.2) := by rw [hSf]; exact hCe.le rfl (Nat.le_refl _) rfl rfl rfl
  have g13 : Sf.x 13 = S.x 13 := by rw [hSf, ← e13]; rfl
  have g14 : Sf.x 14 = S.x 14 := by rw [hSf, ← e14]; rfl
  have gp : Sf.p = S.p := by rw [hSf, ← ep]
  have gcg : 1 ≤ Sf.cg := by rw [hSf]; show 1 ≤ svC Se.cg; unfold svC; split <;> omega
  obtain ⟨⟨⟨x1, x2, x3, x4, x5⟩, ⟨x6, x7⟩, x8, x9, x10⟩, xog, xcg, xSVD, xFR⟩ := id hAf
  refine ro_top (z := 0) hx (by rw [hp256]; exact bI_f (by rw [e20]; decide)) ?_
  refine lv_if_ne (tgt := 333) hx hb dL_law_259 (by decide) (fun h => absurd (by decide) h) (fun _ => ?_)
  have j306 : ∀ (H : Heap) (locs : List Loc) (ls : Array Slot), va_P D vwCl (OW G o K1 Sf (C1.sv, C1.L, C1.cnt, C1.num, C1.t, u239.1, u239.2.1, u239.2.2) ++ OW G q K2 S C2) H → va_D A (OW G o K1 Sf (C1.sv, C1.L, C1.cnt, C1.num, C1.t, u239.1, u239.2.1, u239.2.2) ++ OW G q K2 S C2) → va_S A s9.heap H locs → lv_has ls 9 [(8, .int wo), (7, .int 1), (6, .int wi), (5, .int (bI (S.x 20 = 0))), (4, .int vv), (0, .ref G.2.2.2.2.1), (1, .ref o), (2, .ref q), (3, .int 1)] → W pr l e room_1 s9 m9 args below meth c9 H locs cl sl QQ (F0 m9 306 ls []) := by
    intro H locs ls hP hD hS hl
    refine lv_aload_n hx hb dL_law_306 rfl (lv_at hl 6 rfl) ?_
    refine oV (As := []) (rest := []) (q0 := 0) (ci := 7) (T := TX7) (N := 5) (wz := fun (_ : Unit) => OW G o K1 Sf (C1.sv, C1.L, C1.cnt, C1.num, C1.t, u239.1, u239.2.1, u239.2.2) ++ OW G q K2 S C2) C9 (o_value l D G o K1 Sf (C1.sv, C1.L, C1.cnt, C1.num, C1.t, u239.1, u239.2.1, u239.2.2) x1 x6 hCf.1) (fun _ => OW_fst _ _ _ _ _ _ _) hS hP hD (List.range' 0 57) OW2_get1 (by decide) (fun _ => OW2_put1) OW2_at1 rfl ys_X7_value kw_13_8 kw_13_9 kw_13_10 ⟨Nat.le_of_ble_eq_true rfl, Nat.le_of_ble_eq_true rfl⟩ hl.1 (Nat.le_of_ble_eq_true rfl) dL_law_307 rfl rfl ⟨rm_c (by omega), rm_s (by omega)⟩ (fun r307 u307 H locs hp307 hP hD hS => ?_)
    refine ro_top (z := vv) hx (by rw [hp307, gp, g13, g14, hvv]) ?_
    refine lv_iload hx hb dL_law_310 (lv_at hl 4 rfl) ?_
    refine lv_icmp_ne (tgt := 333) hx hb dL_law_312 (by decide) (fun c_312 => ?_) (fun c_312 => ?_)
    · exact absurd rfl c_312
    · refine lv_aload_n hx hb dL_law_315 rfl (lv_at hl 6 rfl) ?_
      refine oS (As := [.ref o]) (rest := []) (wz := fun (_ : Unit) => OW G o K1 Sf (C1.sv, C1.L, C1.cnt, C1.num, C1.t, u239.1, u239.2.1, u239.2.2) ++ OW G q K2 S C2) C9 (mL_hangs l D G hlt o K1 Sf (C1.sv, C1.L, C1.cnt, C1.num, C1.t, u239.1, u239.2.1, u239.2.2) hAf hCf) (fun _ => OW_fst _ _ _ _ _ _ _) hS hP hD (List.range' 0 57) OW2_get1 (by decide) (fun _ => OW2_put1) ys_L_hangs kw_11_22 kw_11_23 ⟨Nat.le_of_ble_eq_true rfl, Nat.le_of_ble_eq_true rfl⟩ hl.1 (Nat.le_of_ble_eq_true rfl) dL_law_316 rfl rfl ⟨rm_c (by omega), rm_s (by omega)⟩ (fun r316 u316 H locs hp316 hP hD hS => ?_)
      refine ro_top (z := 1) hx hp316 ?_
      refine lv_if_eq (tgt := 333) hx hb dL_law_319 (by decide) (fun h => absurd h (by decide)) (fun _ => ?_)
      refine lv_aload_n hx hb dL_law_322 rfl (lv_at hl 6 rfl) ?_
      refine oW (As := [.ref o]) (rest := []) (wz := fun (u323 : Nat → Int32) => OW G o K1 (Sf.xs (ri (Sf.og + (Sf.cg - 1))), Sf.ys (ri (Sf.og + (Sf.cg - 1))), Sf.ps (ri (Sf.og + (Sf.cg - 1))), Sf.og, Sf.cg - 1, Sf.xs, Sf.ys, Sf.ps, Sf.F) (u323, C1.L, C1.cnt, C1.num, C1.t, u239.1, u239.2.1, u239.2.2) ++ OW G q K2 S C2) C9 (mL_undo_ok l D G o K1 Sf (C1.sv, C1.L, C1.cnt, C1.num, C1.t, u239.1, u239.2.1, u239.2.2) xog xcg gcg (xSVD (Sf.cg - 1) (by omega)).1.1 (xSVD (Sf.cg - 1) (by omega)).2.1.1) (fun _ => OW_fst _ _ _ _ _ _ _) hS hP hD (List.range' 0 57) OW2_get1 (by decide) (fun _ => OW2_put1) yw_L_undo kw_4_23 kw_5_0 ⟨Nat.le_of_ble_eq_true rfl, Nat.le_of_ble_eq_true rfl⟩ hl.1 (Nat.le_of_ble_eq_true rfl) dL_law_323 rfl rfl ⟨rm_c (by omega), rm_s (by omega)⟩ (fun r323 u323 H locs hp323 hP hD hS => ?_)
      refine ro_top (z := nI (Sf.cg - 1)) hx hp323.1 ?_
      refine lv_if_lt (tgt := 333) hx hb dL_law_326 (by decide) (fun h => absurd h (nI_pos (by omega))) (fun _ => ?_)
      refine lv_iconst (v := 1) hx hb dL_law_329 (by decide) ?_
      refine lv_goto (tgt := 334) hx hb dL_law_330 (by decide) ?_
      exact E _ _ _ _ _ hS (by omega) (by omega)
  have j292 : ∀ (H : Heap) (locs : List Loc) (ls : Array Slot), va_P D vwCl (OW G o K1 Sf (C1.sv, C1.L, C1.cnt, C1.num, C1.t, u239.1, u239.2.1, u239.2.2) ++ OW G q K2 S C2) H → va_D A (OW G o K1 Sf (C1.sv, C1.L, C1.cnt, C1.num, C1.t, u239.1, u239.2.1, u239.2.2) ++ OW G q K2 S C2) → va_S A s9.heap H locs → lv_has ls 9 [(8, .int wo), (7, .int 1), (6, .int wi), (5, .int (bI (S.x 20 = 0))), (4, .int vv), (0, .ref G.2.2.2.2.1), (1, .ref o), (2, .ref q), (3, .int 1)] → W pr l e room_1 s9 m9 args below meth c9 H locs cl sl QQ (F0 m9 292 ls []) := by
    intro H locs ls hP hD hS hl
    refine lv_iload hx hb dL_law_292 (lv_at hl 0 rfl) ?_
    refine lv_iload hx hb dL_law_294 (lv_at hl 4 rfl) ?_
    refine lv_icmp_ne (tgt := 306) hx hb dL_law_296 (by decide) (fun c_296 => ?_) (fun c_296 => ?_)
    · exact j306 _ _ _ hP hD hS (lv_sub hl [0, 1, 2, 3, 4, 5, 6, 7, 8] rfl)
    · refine lv_iload hx hb dL_law_299 (lv_at hl 2 rfl) ?_
      refine lv_iload hx hb dL_law_301 (lv_at hl 4 rfl) ?_
      refine lv_icmp_ne (tgt := 333) hx hb dL_law_303 (by decide) (fun c_303 => ?_) (fun c_303 => ?_)
      · exact absurd (f3 c_296) c_303
      · exact j306 _ _ _ hP hD hS (lv_sub hl [0, 1, 2, 3, 4, 5, 6, 7, 8] rfl)
  have j277 : ∀ (H : Heap) (locs : List Loc) (ls : Array Slot), va_P D vwCl (OW G o K1 Sf (C1.sv, C1.L, C1.cnt, C1.num, C1.t, u239.1, u239.2.1, u239.2.2) ++ OW G q K2 S C2) H → va_D A (OW G o K1 Sf (C1.sv, C1.L, C1.cnt, C1.num, C1.t, u239.1, u239.2.1, u239.2.2) ++ OW G q K2 S C2) → va_S A s9.heap H locs → lv_has ls 9 [(8, .int wo), (7, .int 1), (6, .int wi), (5, .int (bI (S.x 20 = 0))), (4, .int vv), (0, .ref G.2.2.2.2.1), (1, .ref o), (2, .ref q), (3, .int 1)] → W pr l e room_1 s9 m9 args below meth c9 H locs cl sl QQ (F0 m9 277 ls []) := by
    intro H locs ls hP hD hS hl
    refine lv_iload hx hb dL_law_277 (lv_at hl 0 rfl) ?_
    refine lv_iload hx hb dL_law_279 (lv_at hl 4 rfl) ?_
    refine lv_icmp_eq (tgt := 292) hx hb dL_law_281 (by decide) (fun c_281 => ?_) (fun c_281 => ?_)
    · exact j292 _ _ _ hP hD hS (lv_sub hl [0, 1, 2, 3, 4, 5, 6, 7, 8] rfl)
    · refine lv_iload hx hb dL_law_284 (lv_at hl 0 rfl) ?_
      refine lv_sipush (v := (-999)) hx hb dL_law_286 (by decide) ?_
      refine lv_icmp_ne (tgt := 333) hx hb dL_law_289 (by decide) (fun c_289 => ?_) (fun c_289 => ?_)
      · exact absurd (f2.resolve_left c_281) c_289
      · exact j292 _ _ _ hP hD hS (lv_sub hl [0, 1, 2, 3, 4, 5, 6, 7, 8] rfl)
  refine lv_iload hx hb dL_law_262 (lv_at hl 2 rfl) ?_
  refine lv_iload hx hb dL_law_264 (lv_at hl 4 rfl) ?_
  refine lv_icmp_eq (tgt := 277) hx hb dL_law_266 (by decide) (fun c_266 => ?_) (fun c_266 => ?_)
  · exact j277 _ _ _ hP hD hS (lv_sub hl [0, 1, 2, 3, 4, 5, 6, 7, 8] rfl)
  · refine lv_iload hx hb dL_law_269 (lv_at hl 2 rfl) ?_
    refine lv_sipush (v := (-999)) hx hb dL_law_271 (by decide) ?_
    refine lv_icmp_ne (tgt := 333) hx hb dL_law_274 (by decide) (fun c_274 => ?_) (fun c_274 => ?_)
    · exact absurd (f1.resolve_left c_266) c_274
    · exact j277 _ _ _ hP hD hS (lv_sub hl [0, 1, 2, 3, 4, 5, 6, 7, 8] rfl)
