theorem yw_L_load : YW yL_load cL_load 2 [(0, 4, 5, 15)] 1 := ⟨kw_17_18, kw_5_1, by decide, by decide, by decide⟩
set_option maxHeartbeats 800000 in
set_option maxRecDepth 100000 in
theorem mL_load_ok (l : Launch) (D : va_G) (G : u_G) (q : Nat) (K : AD) (S : AS) (C : SC) (hL : C.L ≤ 60) (ht : ∀ k, k < C.L → C.t k < 128) (hv1 : (rdA C.t C.L S.F).1 = C.L) (hv2 : 0 < (rdA C.t C.L S.F).2.2.1) (hPR : PR (rdA C.t C.L S.F).2.2.2) (hog : S.og < 6) (hcg : S.cg ≤ 6) : MtW l D G yL_load cL_load 2 [(0, 4, 5, 15)] 8 0 0 [.ref q] (OW G q K S C) (fun (r : Int32) (u : Nat → Int32) => r = nI (rdA C.t C.L S.F).2.1 ∧ SV (rdA C.t C.L S.F).2.2.2 u (0 + (rdA C.t C.L S.F).2.1)) (fun (u : Nat → Int32) => OW G q K (S.sav (ldX S.x (rdA C.t C.L S.F).2.1) (ldY S.y) (rdA C.t C.L S.F).2.2.2 (rdA C.t C.L S.F).2.2.2) (u, 0, (rdA C.t C.L S.F).2.1, (rdA C.t C.L S.F).2.2.1, C.t, C.v, C.w, C.c)) := by
  refine MtW.of (by decide) (Nat.le_of_ble_eq_true rfl) ?_
  intro pr e s9 m9 below meth c9 A ls C9 hP hD hl htab
  obtain ⟨hx, hb, hml, hown, hts, hr, hlocks, hA, hAm⟩ := id C9
  have hS : va_S A s9.heap s9.heap [] := va_S.rf
  have hl : lv_has ls 2 [(0, .ref q)] := hl
  refine lv_aload_n hx hb dL_load_0 rfl (lv_at hl 0 rfl) ?_
  refine oV (As := []) (rest := []) (q0 := 0) (ci := 7) (T := TX7) (N := 5) C9 (o_load l D G q K S C hL ht hv1 hv2 hPR hog hcg) (fun _ => OW_fst _ _ _ _ _ _ _) hS hP hD (List.range' 0 57) (OW_get G q K S C) (by decide) (fun _ => OW_put _ _ _ _ _ _ _ _ _) rfl rfl ys_X7_load kw_17_19 kw_17_20 kw_17_21 ⟨Nat.le_of_ble_eq_true rfl, Nat.le_of_ble_eq_true rfl⟩ hl.1 (Nat.le_of_ble_eq_true rfl) dL_load_1 rfl rfl ⟨Nat.zero_le _, Nat.zero_le _⟩ (fun r u H locs hp hP hD hS => ?_)
  exact endI C9 rfl u hp hS hP dL_load_4
theorem yw_L_play : YW yL_play cL_play 3 [(0, 5, 6, 21), (0, 5, 10, 23)] 2 := ⟨kw_18_16, kw_5_1, by decide, by decide, by decide⟩
set_option maxHeartbeats 800000 in
set_option maxRecDepth 100000 in
theorem mL_play_ok (l : Launch) (D : va_G) (G : u_G) (q : Nat) (K : AD) (S : AS) (C : SC) (m : Nat) (hm : m < 4) (hmn : tk m ≤ S.x 14) (hfn : S.x 13 + S.x 14 ≤ 12) (ht9 : S.x 15 ≤ 1) (hog : S.og < 6) (hcg : S.cg ≤ 6) : MtW l D G yL_play cL_play 3 [(0, 5, 6, 21), (0, 5, 10, 23)] 7 0 0 [.ref q, .int (nI m)] (OW G q K S C) (fun (r : Int32) (_ : Unit) => r = cn S.p (S.x 13) (S.x 14) m) (fun (_ : Unit) => OW G q K (S.sav (mvX S.x m) (mvY S.p S.x S.y m) S.p S.F) C) := by
  refine MtW.of (by decide) (Nat.le_of_ble_eq_true rfl) ?_
  intro pr e s9 m9 below meth c9 A ls C9 hP hD hl htab
  obtain ⟨hx, hb, hml, hown, hts, hr, hlocks, hA, hAm⟩ := id C9
  have hS : va_S A s9.heap s9.heap [] := va_S.rf
  have hl : lv_has ls 3 [(0, .ref q), (1, .int (nI m))] := hl
  refine lv_aload_n hx hb dL_play_0 rfl (lv_at hl 0 rfl) ?_
  refine lv_iload_n hx hb dL_play_1 rfl (lv_at hl 1 rfl) ?_
  refine oV (As := [.int (nI m)]) (rest := []) (q0 := 0) (ci := 7) (T := TX7) (N := 5) C9 (o_play l D G q K S C m hm hmn hfn ht9 hog hcg) (fun _ => OW_fst _ _ _ _ _ _ _) hS hP hD (List.range' 0 57) (OW_get G q K S C) (by decide) (fun _ => OW_put _ _ _ _ _ _ _ _ _) rfl rfl ys_X7_play kw_18_17 kw_18_18 kw_18_19 ⟨Nat.le_of_ble_eq_true rfl, Nat.le_of_ble_eq_true rfl⟩ hl.1 (Nat.le_of_ble_eq_true rfl) dL_play_2 rfl rfl ⟨Nat.zero_le _, Nat.zero_le _⟩ (fun r u H locs hp hP hD hS => ?_)
  exact endI C9 rfl u hp hS hP dL_play_5
theorem yw_L_playBest : YW yL_playBest cL_playBest 3 [(0, 5, 6, 15)] 2 := ⟨kw_19_3, kw_5_1, by decide, by decide, by decide⟩
set_option maxHeartbeats 800000 in
set_option maxRecDepth 100000 in
theorem mL_playBest_ok (l : Launch) (D : va_G) (G : u_G) (q : Nat) (K : AD) (S : AS) (C : SC) (k : Nat) (hfn : S.x 13 + S.x 14 ≤ 12) (hPR : PR S.p) (hSV : SV S.p C.sv (S.x 13 + S.x 14)) (ht9 : S.x 15 ≤ 1) (hog : S.og < 6) (hcg : S.cg ≤ 6) (h1 : 1 ≤ k) (h2 : k ≤ 12) : MtW l D G yL_playBest cL_playBest 3 [(0, 5, 6, 15)] 8 0 0 [.ref q, .int (nI k)] (OW G q K S C) (fun (r : Int32) (_ : Unit) => r = nI (plN S.p S.x S.y k)) (fun (_ : Unit) => OW G q K (S.sav (plS S.p S.x S.y k).1 (plS S.p S.x S.y k).2 S.p S.F) C) := by
  refine MtW.of (by decide) (Nat.le_of_ble_eq_true rfl) ?_
  intro pr e s9 m9 below meth c9 A ls C9 hP hD hl htab
  obtain ⟨hx, hb, hml, hown, hts, hr, hlocks, hA, hAm⟩ := id C9
  have hS : va_S A s9.heap s9.heap [] := va_S.rf
  have hl : lv_has ls 3 [(0, .ref q), (1, .int (nI k))] := hl
  refine lv_aload_n hx hb dL_playBest_0 rfl (lv_at hl 0 rfl) ?_
  refine lv_iload_n hx hb dL_playBest_1 rfl (lv_at hl 1 rfl) ?_
  refine oV (As := [.int (nI k)]) (rest := []) (q0 := 0) (ci := 7) (T := TX7) (N := 5) C9 (o_playBest l D G q K S C k hfn hPR hSV ht9 hog hcg h1 h2) (fun _ => OW_fst _ _ _ _ _ _ _) hS hP hD (List.range' 0 57) (OW_get G q K S C) (by decide) (fun _ => OW_put _ _ _ _ _ _ _ _ _) rfl rfl ys_X7_playBest kw_19_4 kw_19_5 kw_19_6 ⟨Nat.le_of_ble_eq_true rfl, Nat.le_of_ble_eq_true rfl⟩ hl.1 (Nat.le_of_ble_eq_true rfl) dL_playBest_2 rfl rfl ⟨Nat.zero_le _, Nat.zero_le _⟩ (fun r u H locs hp hP hD hS => ?_)
  exact endI C9 rfl u hp hS hP dL_playBest_5
theorem yw_L_pile : YW yL_pile cL_pile 3 [(0, 5, 6, 21)] 2 := ⟨kw_13_1, kw_5_1, by decide, by decide, by decide⟩
set_option maxHeartbeats 800000 in
set_option maxRecDepth 100000 in
theorem mL_pile_ok (l : Launch) (D : va_G) (G : u_G) (q : Nat) (K : AD) (S : AS) (C : SC) (k : Nat) (hk : k < S.x 14) (hfn : S.x 13 + S.x 14 ≤ 12) : MtW l D G yL_pile cL_pile 3 [(0, 5, 6, 21)] 7 0 0 [.ref q, .int (nI k)] (OW G q K S C) (fun (r : Int32) (_ : Unit) => r = S.p (S.x 13 + k)) (fun (_ : Unit) => OW G q K S C) := by
  refine MtW.of (by decide) (Nat.le_of_ble_eq_true rfl) ?_
  intro pr e s9 m9 below meth c9 A ls C9 hP hD hl htab
  obtain ⟨hx, hb, hml, hown, hts, hr, hlocks, hA, hAm⟩ := id C9
  have hS : va_S A s9.heap s9.heap [] := va_S.rf
  have hl : lv_has ls 3 [(0, .ref q), (1, .int (nI k))] := hl
  refine lv_aload_n hx hb dL_pile_0 rfl (lv_at hl 0 rfl) ?_
  refine lv_iload_n hx hb dL_pile_1 rfl (lv_at hl 1 rfl) ?_
  refine oV (As := [.int (nI k)]) (rest := []) (q0 := 0) (ci := 7) (T := TX7) (N := 5) C9 (o_pile l D G q K S C k hk hfn) (fun _ => OW_fst _ _ _ _ _ _ _) hS hP hD (List.range' 0 57) (OW_get G q K S C) (by decide) (fun _ => OW_put _ _ _ _ _ _ _ _ _) rfl rfl ys_X7_pile kw_13_2 kw_13_3 kw_13_4 ⟨Nat.le_of_ble_eq_true rfl, Nat.le_of_ble_eq_true rfl⟩ hl.1 (Nat.le_of_ble_eq_true rfl) dL_pile_2 rfl rfl ⟨Nat.zero_le _, Nat.zero_le _⟩ (fun r u H locs hp hP hD hS => ?_)
  exact endI C9 rfl u hp hS hP dL_pile_5
theorem yw_L_coins : YW yL_coins cL_coins 3 [(0, 5, 6, 21)] 2 := ⟨kw_12_13, kw_5_1, by decide, by decide, by decide⟩
set_option maxHeartbeats 800000 in
set_option maxRecDepth 100000 in
theorem mL_coins_ok (l : Launch) (D : va_G) (G : u_G) (q : Nat) (K : AD) (S : AS) (C : SC) (k : Nat) (hk : k ≤ 1) : MtW l D G yL_coins cL_coins 3 [(0, 5, 6, 21)] 7 0 0 [.ref q, .int (nI k)] (OW G q K S C) (fun (r : Int32) (_ : Unit) => r = S.y (16 + k)) (fun (_ : Unit) => OW G q K S C) := by
  refine MtW.of (by decide) (Nat.le_of_ble_eq_true rfl) ?_
  intro pr e s9 m9 below meth c9 A ls C9 hP hD hl htab
  obtain ⟨hx, hb, hml, hown, hts, hr, hlocks, hA, hAm⟩ := id C9
  have hS : va_S A s9.heap s9.heap [] := va_S.rf
  have hl : lv_has ls 3 [(0, .ref q), (1, .int (nI k))] := hl
  refine lv_aload_n hx hb dL_coins_0 rfl (lv_at hl 0 rfl) ?_
  refine lv_iload_n hx hb dL_coins_1 rfl (lv_at hl 1 rfl) ?_
  refine oV (As := [.int (nI k)]) (rest := []) (q0 := 0) (ci := 7) (T := TX7) (N := 5) C9 (o_coins l D G q K S C k hk) (fun _ => OW_fst _ _ _ _ _ _ _) hS hP hD (List.range' 0 57) (OW_get G q K S C) (by decide) (fun _ => OW_put _ _ _ _ _ _ _ _ _) rfl rfl ys_X7_coins kw_12_15 kw_12_16 kw_12_17 ⟨Nat.le_of_ble_eq_true rfl, Nat.le_of_ble_eq_true rfl⟩ hl.1 (Nat.le_of_ble_eq_true rfl) dL_coins_2 rfl rfl ⟨Nat.zero_le _, Nat.zero_le _⟩ (fun r u H locs hp hP hD hS => ?_)
  exact endI C9 rfl u hp hS hP dL_coins_5
theorem yw_L_resultOf : YW yL_resultOf cL_resultOf 3 [(0, 5, 6, 21)] 2 := ⟨kw_14_5, kw_5_1, by decide, by decide, by decide⟩
set_option maxHeartbeats 800000 in
set_option maxRecDepth 100000 in
theorem mL_resultOf_ok (l : Launch) (D : va_G) (G : u_G) (q : Nat) (K : AD) (S : AS) (C : SC) (m : Nat) (hfn : S.x 13 + S.x 14 ≤ 12) (hPR : PR S.p) (hSV : SV S.p C.sv (S.x 13 + S.x 14)) (hm : m < 4) : MtW l D G yL_resultOf cL_resultOf 3 [(0, 5, 6, 21)] 7 0 0 [.ref q, .int (nI m)] (OW G q K S C) (fun (r : Int32) (_ : Unit) => r = rV S.p (V S.p) (S.x 13) (S.x 14) m) (fun (_ : Unit) => OW G q K S C) := by
  refine MtW.of (by decide) (Nat.le_of_ble_eq_true rfl) ?_
  intro pr e s9 m9 below meth c9 A ls C9 hP hD hl htab
  obtain ⟨hx, hb, hml, hown, hts, hr, hlocks, hA, hAm⟩ := id C9
  have hS : va_S A s9.heap s9.heap [] := va_S.rf
  have hl : lv_has ls 3 [(0, .ref q), (1, .int (nI m))] := hl
  refine lv_aload_n hx hb dL_resultOf_0 rfl (lv_at hl 0 rfl) ?_
  refine lv_iload_n hx hb dL_resultOf_1 rfl (lv_at hl 1 rfl) ?_
  refine oV (As := [.int (nI m)]) (rest := []) (q0 := 0) (ci := 7) (T := TX7) (N := 5) C9 (o_resultOf l D G q K S C m hfn hPR hSV hm) (fun _ => OW_fst _ _ _ _ _ _ _) hS hP hD (List.range' 0 57) (OW_get G q K S C) (by decide) (fun _ => OW_put _ _ _ _ _ _ _ _ _) rfl rfl ys_X7_resultOf kw_14_6 kw_14_7 kw_14_8 ⟨Nat.le_of_ble_eq_true rfl, Nat.le_of_ble_eq_true rfl⟩ hl.1 (Nat.le_of_ble_eq_true rfl) dL_resultOf_2 rfl rfl ⟨Nat.zero_le _, Nat.zero_le _⟩ (fun r u H locs hp hP hD hS => ?_)
  exact endI C9 rfl u hp hS hP dL_resultOf_5
theorem yw_L_line : YW yL_line cL_line 3 [(0, 5, 6, 21)] 2 := ⟨kw_14_13, kw_5_1, by decide, by decide, by decide⟩
set_option maxHeartbeats 800000 in
set_option maxRecDepth 100000 in
theorem mL_line_ok (l : Launch) (D : va_G) (G : u_G) (q : Nat) (K : AD) (S : AS) (C : SC) (k : Nat) (hfn : S.x 13 + S.x 14 ≤ 12) (hPR : PR S.p) (hSV : SV S.p C.sv (S.x 13 + S.x 14)) (hk : k < 2 ^ 31) : MtW l D G yL_line cL_line 3 [(0, 5, 6, 21)] 8 0 0 [.ref q, .int (nI k)] (OW G q K S C) (fun (r : Int32) (_ : Unit) => r = lnA S.p (S.x 13) (S.x 14) k) (fun (_ : Unit) => OW G q K S C) := by
  refine MtW.of (by decide) (Nat.le_of_ble_eq_true rfl) ?_
  intro pr e s9 m9 below meth c9 A ls C9 hP hD hl htab
  obtain ⟨hx, hb, hml, hown, hts, hr, hlocks, hA, hAm⟩ := id C9
  have hS : va_S A s9.heap s9.heap [] := va_S.rf
  have hl : lv_has ls 3 [(0, .ref q), (1, .int (nI k))] := hl
  refine lv_aload_n hx hb dL_line_0 rfl (lv_at hl 0 rfl) ?_
  refine lv_iload_n hx hb dL_line_1 rfl (lv_at hl 1 rfl) ?_
  refine oV (As := [.int (nI k)]) (rest := []) (q0 := 0) (ci := 7) (T := TX7) (N := 5) C9 (o_line l D G q K S C k hfn hPR hSV hk) (fun _ => OW_fst _ _ _ _ _ _ _) hS hP hD (List.range' 0 57) (OW_get G q K S C) (by decide) (fun _ => OW_put _ _ _ _ _ _ _ _ _) rfl rfl ys_X7_line kw_14_14 kw_14_15 kw_14_16 ⟨Nat.le_of_ble_eq_true rfl, Nat.le_of_ble_eq_true rfl⟩ hl.1 (Nat.le_of_ble_eq_true rfl) dL_line_2 rfl rfl ⟨Nat.zero_le _, Nat.zero_le _⟩ (fun r u H locs hp hP hD hS => ?_)
  exact endI C9 rfl u hp hS hP dL_line_5
theorem yw_L_append : YW yL_append cL_append 3 [(0, 5, 6, 15), (0, 5, 10, 23)] 2 := ⟨kw_17_9, kw_5_1, by decide, by decide, by decide⟩
set_option maxHeartbeats 800000 in
set_option maxRecDepth 100000 in
theorem mL_append_ok (l : Launch) (D : va_G) (G : u_G) (q : Nat) (K : AD) (S : AS) (C : SC) (c8 : Nat) (h1 : 33 ≤ c8) (h2 : c8 ≤ 126) (hL : C.L < 60) : MtW l D G yL_append cL_append 3 [(0, 5, 6, 15), (0, 5, 10, 23)] 7 0 0 [.ref q, .int (nI c8)] (OW G q K S C) (fun (r : Int32) (_ : Unit) => r = nI (C.L + 1)) (fun (_ : Unit) => OW G q K S (C.sv, C.L + 1, C.cnt, C.num, va_up C.t C.L c8, C.v, C.w, C.c)) := by
  refine MtW.of (by decide) (Nat.le_of_ble_eq_true rfl) ?_
  intro pr e s9 m9 below meth c9 A ls C9 hP hD hl htab
  obtain ⟨hx, hb, hml, hown, hts, hr, hlocks, hA, hAm⟩ := id C9
  have hS : va_S A s9.heap s9.heap [] := va_S.rf
  have hl : lv_has ls 3 [(0, .ref q), (1, .int (nI c8))] := hl
  refine lv_aload_n hx hb dL_append_0 rfl (lv_at hl 0 rfl) ?_
  refine lv_iload_n hx hb dL_append_1 rfl (lv_at hl 1 rfl) ?_
  refine oV (As := [.int (nI c8)]) (rest := []) (q0 := 0) (ci := 7) (T := TX7) (N := 5) C9 (o_append l D G q K S C c8 h1 h2 hL) (fun _ => OW_fst _ _ _ _ _ _ _) hS hP hD (List.range' 0 57) (OW_get G q K S C) (by decide) (fun _ => OW_put _ _ _ _ _ _ _ _ _) rfl rfl ys_X7_append kw_17_10 kw_17_11 kw_17_12 ⟨Nat.le_of_ble_eq_true rfl, Nat.le_of_ble_eq_true rfl⟩ hl.1 (Nat.le_of_ble_eq_true rfl) dL_append_2 rfl rfl ⟨Nat.zero_le _, Nat.zero_le _⟩ (fun r u H locs hp hP hD hS => ?_)
  exact endI C9 rfl u hp hS hP dL_append_5
theorem yw_L_undo : YW yL_undo cL_undo 2 [(0, 4, 5, 23)] 1 := ⟨kw_5_2, kw_5_1, by decide, by decide, by decide⟩
set_option maxHeartbeats 800000 in
set_option maxRecDepth 100000 in
theorem mL_undo_ok (l : Launch) (D : va_G) (G : u_G) (q : Nat) (K : AD) (S : AS) (C : SC) (hog : S.og < 6) (hcg : S.cg ≤ 6) (hc1 : 1 ≤ S.cg) (hfn : S.xs (ri (S.og + (S.cg - 1))) 13 + S.xs (ri (S.og + (S.cg - 1))) 14 ≤ 12) (hPR : PR (S.ps (ri (S.og + (S.cg - 1))))) : MtW l D G yL_undo cL_undo 2 [(0, 4, 5, 23)] 8 0 0 [.ref q] (OW G q K S C) (fun (r : Int32) (u : Nat → Int32) => r = nI (S.cg - 1) ∧ SV (S.ps (ri (S.og + (S.cg - 1)))) u (S.xs (ri (S.og + (S.cg - 1))) 13 + S.xs (ri (S.og + (S.cg - 1))) 14)) (fun (u : Nat → Int32) => OW G q K (S.xs (ri (S.og + (S.cg - 1))), S.ys (ri (S.og + (S.cg - 1))), S.ps (ri (S.og + (S.cg - 1))), S.og, S.cg - 1, S.xs, S.ys, S.ps, S.F) (u, C.L, C.cnt, C.num, C.t, C.v, C.w, C.c)) := by
  refine MtW.of (by decide) (Nat.le_of_ble_eq_true rfl) ?_
  intro pr e s9 m9 below meth c9 A ls C9 hP hD hl htab
  obtain ⟨hx, hb, hml, hown, hts, hr, hlocks, hA, hAm⟩ := id C9
  have hS : va_S A s9.heap s9.heap [] := va_S.rf
  have hl : lv_has ls 2 [(0, .ref q)] := hl
  refine lv_aload_n hx hb dL_undo_0 rfl (lv_at hl 0 rfl) ?_
  refine oV (As := []) (rest := []) (q0 := 0) (ci := 7) (T := TX7) (N := 5) C9 (o_undo l D G q K S C hog hcg hc1 hfn hPR) (fun _ => OW_fst _ _ _ _ _ _ _) hS hP hD (List.range' 0 57) (OW_get G q K S C) (by decide) (fun _ => OW_put _ _ _ _ _ _ _ _ _) rfl rfl ys_X7_undo kw_5_4 kw_5_5 kw_5_6 ⟨Nat.le_of_ble_eq_true rfl, Nat.le_of_ble_eq_true rfl⟩ hl.1 (Nat.le_of_ble_eq_true rfl) dL_undo_1 rfl rfl ⟨Nat.zero_le _, Nat.zero_le _⟩ (fun r u H locs hp hP hD hS => ?_)
  exact endI C9 rfl u hp hS hP dL_undo_4
theorem yw_L_search : YW yL_search cL_search 5 [(0, 7, 8, 15)] 4 := ⟨kw_20_6, kw_5_1, by decide, by decide, by decide⟩
set_option maxHeartbeats 800000 in
set_option maxRecDepth 100000 in
theorem mL_search_ok (l : Launch) (D : va_G) (G : u_G) (q : Nat) (K : AD) (S : AS) (C : SC) (d : Nat) (a9 : Int32) (b9 : Int32) (hd : d ≤ 12) (h1 : ¬ a9 < -240) (h2 : a9 < 241) (h3 : ¬ b9 ≤ a9) (h4 : b9 ≤ 241) (hfn : S.x 13 + S.x 14 ≤ 12) (hlim : S.x 19 ≤ 5000) (ho : S.x 18 < 24) (hog : S.og < 6) (hcg : S.cg ≤ 6) : MtW l D G yL_search cL_search 5 [(0, 7, 8, 15)] 31 0 0 [.ref q, .int (nI d), .int a9, .int b9] (OW G q K S C) (fun (r : Int32) (u : (Nat → Nat) × (Nat → Int32) × (Nat → Nat → Int32)) => r = sAn (srch S.p (odf (S.x 18)) (S.x 19) (S.x 20) d (S.x 13) (S.x 14) a9 b9 z0)) (fun (u : (Nat → Nat) × (Nat → Int32) × (Nat → Nat → Int32)) => OW G q K (S.sav (sX (srch S.p (odf (S.x 18)) (S.x 19) (S.x 20) d (S.x 13) (S.x 14) a9 b9 z0) S.x) (sY (srch S.p (odf (S.x 18)) (S.x 19) (S.x 20) d (S.x 13) (S.x 14) a9 b9 z0) S.y) S.p S.F) (C.sv, C.L, C.cnt, C.num, C.t, u.1, u.2.1, u.2.2)) := by
  refine MtW.of (by decide) (Nat.le_of_ble_eq_true rfl) ?_
  intro pr e s9 m9 below meth c9 A ls C9 hP hD hl htab
  obtain ⟨hx, hb, hml, hown, hts, hr, hlocks, hA, hAm⟩ := id C9
  have hS : va_S A s9.heap s9.heap [] := va_S.rf
  have hl : lv_has ls 5 [(0, .ref q), (1, .int (nI d)), (2, .int a9), (3, .int b9)] := hl
  refine lv_aload_n hx hb dL_search_0 rfl (lv_at hl 0 rfl) ?_
  refine lv_iload_n hx hb dL_search_1 rfl (lv_at hl 1 rfl) ?_
  refine lv_iload_n hx hb dL_search_2 rfl (lv_at hl 2 rfl) ?_
  refine lv_iload_n hx hb dL_search_3 rfl (lv_at hl 3 rfl) ?_
  refine oV (As := [.int (nI d), .int a9, .int b9]) (rest := []) (q0 := 0) (ci := 7) (T := TX7) (N := 5) C9 (o_search l D G q K S C d a9 b9 hd h1 h2 h3 h4 hfn hlim ho hog hcg) (fun _ => OW_fst _ _ _ _ _ _ _) hS hP hD (List.range' 0 57) (OW_get G q K S C) (by decide) (fun _ => OW_put _ _ _ _ _ _ _ _ _) rfl rfl ys_X7_search kw_20_7 kw_20_8 kw_20_9 ⟨Nat.le_of_ble_eq_true rfl, Nat.le_of_ble_eq_true rfl⟩ hl.1 (Nat.le_of_ble_eq_true rfl) dL_search_4 rfl rfl ⟨Nat.zero_le _, Nat.zero_le _⟩ (fun r u H locs hp hP hD hS => ?_)
  exact endI C9 rfl u hp hS hP dL_search_7
theorem yw_L_entryKind : YW yL_entryKind cL_entryKind 4 [(0, 6, 7, 21)] 3 := ⟨kw_14_22, kw_5_1, by decide, by decide, by decide⟩
set_option maxHeartbeats 800000 in
set_option maxRecDepth 100000 in
theorem mL_entryKind_ok (l : Launch) (D : va_G) (G : u_G) (q : Nat) (K : AD) (S : AS) (C : SC) (f : Nat) (c8 : Nat) (hf : f < 12) (hc : 1 ≤ c8) (hc2 : c8 ≤ 12) : MtW l D G yL_entryKind cL_entryKind 4 [(0, 6, 7, 21)] 7 0 0 [.ref q, .int (nI f), .int (nI c8)] (OW G q K S C) (fun (r : Int32) (_ : Unit) => r = kdY S.y (f * 12 + c8 - 1)) (fun (_ : Unit) => OW G q K S C) := by
  refine MtW.of (by decide) (Nat.le_of_ble_eq_true rfl) ?_
  intro pr e s9 m9 below meth c9 A ls C9 hP hD hl htab
  obtain ⟨hx, hb, hml, hown, hts, hr, hlocks, hA, hAm⟩ := id C9
  have hS : va_S A s9.heap s9.heap [] := va_S.rf
  have hl : lv_has ls 4 [(0, .ref q), (1, .int (nI f)), (2, .int (nI c8))] := hl
  refine lv_aload_n hx hb dL_entryKind_0 rfl (lv_at hl 0 rfl) ?_
  refine lv_iload_n hx hb dL_entryKind_1 rfl (lv_at hl 1 rfl) ?_
  refine lv_iload_n hx hb dL_entryKind_2 rfl (lv_at hl 2 rfl) ?_
  refine oV (As := [.int (nI f), .int (nI c8)]) (rest := []) (q0 := 0) (ci := 7) (T := TX7) (N := 5) C9 (o_entryKind l D G q K S C f c8 hf hc hc2) (fun _ => OW_fst _ _ _ _ _ _ _) hS hP hD (List.range' 0 57) (OW_get G q K S C) (by decide) (fun _ => OW_put _ _ _ _ _ _ _ _ _) rfl rfl ys_X7_entryKind kw_14_23 kw_15_0 kw_15_1 ⟨Nat.le_of_ble_eq_true rfl, Nat.le_of_ble_eq_true rfl⟩ hl.1 (Nat.le_of_ble_eq_true rfl) dL_entryKind_3 rfl rfl ⟨Nat.zero_le _, Nat.zero_le _⟩ (fun r u H locs hp hP hD hS => ?_)
  exact endI C9 rfl u hp hS hP dL_entryKind_6
theorem yw_L_entryValue : YW yL_entryValue cL_entryValue 4 [(0, 6, 7, 21)] 3 := ⟨kw_15_7, kw_5_1, by decide, by decide, by decide⟩
set_option maxHeartbeats 800000 in
set_option maxRecDepth 100000 in
theorem mL_entryValue_ok (l : Launch) (D : va_G) (G : u_G) (q : Nat) (K : AD) (S : AS) (C : SC) (f : Nat) (c8 : Nat) (hf : f < 12) (hc : 1 ≤ c8) (hc2 : c8 ≤ 12) : MtW l D G yL_entryValue cL_entryValue 4 [(0, 6, 7, 21)] 7 0 0 [.ref q, .int (nI f), .int (nI c8)] (OW G q K S C) (fun (r : Int32) (_ : Unit) => r = evA (kdY S.y) (vlY S.y) (f * 12 + c8 - 1)) (fun (_ : Unit) => OW G q K S C) := by
  refine MtW.of (by decide) (Nat.le_of_ble_eq_true rfl) ?_
  intro pr e s9 m9 below meth c9 A ls C9 hP hD hl htab
  obtain ⟨hx, hb, hml, hown, hts, hr, hlocks, hA, hAm⟩ := id C9
  have hS : va_S A s9.heap s9.heap [] := va_S.rf
  have hl : lv_has ls 4 [(0, .ref q), (1, .int (nI f)), (2, .int (nI c8))] := hl
  refine lv_aload_n hx hb dL_entryValue_0 rfl (lv_at hl 0 rfl) ?_
  refine lv_iload_n hx hb dL_entryValue_1 rfl (lv_at hl 1 rfl) ?_
  refine lv_iload_n hx hb dL_entryValue_2 rfl (lv_at hl 2 rfl) ?_
  refine oV (As := [.int (nI f), .int (nI c8)]) (rest := []) (q0 := 0) (ci := 7) (T := TX7) (N := 5) C9 (o_entryValue l D G q K S C f c8 hf hc hc2) (fun _ => OW_fst _ _ _ _ _ _ _) hS hP hD (List.range' 0 57) (OW_get G q K S C) (by decide) (fun _ => OW_put _ _ _ _ _ _ _ _ _) rfl rfl ys_X7_entryValue kw_15_8 kw_15_9 kw_15_10 ⟨Nat.le_of_ble_eq_true rfl, Nat.le_of_ble_eq_true rfl⟩ hl.1 (Nat.le_of_ble_eq_true rfl) dL_entryValue_3 rfl rfl ⟨Nat.zero_le _, Nat.zero_le _⟩ (fun r u H locs hp hP hD hS => ?_)
  exact endI C9 rfl u hp hS hP dL_entryValue_6
theorem yw_L_setOrder : YW yL_setOrder cL_setOrder 3 [(0, 5, 6, 15)] 2 := ⟨kw_19_10, kw_5_1, by decide, by decide, by decide⟩
set_option maxHeartbeats 800000 in
set_option maxRecDepth 100000 in
theorem mL_setOrder_ok (l : Launch) (D : va_G) (G : u_G) (q : Nat) (K : AD) (S : AS) (C : SC) (o : Nat) (hog : S.og < 6) (hcg : S.cg ≤ 6) (ho : o < 24) : MtW l D G yL_setOrder cL_setOrder 3 [(0, 5, 6, 15)] 7 0 0 [.ref q, .int (nI o)] (OW G q K S C) (fun (r : Int32) (_ : Unit) => r = nI (S.x 18)) (fun (_ : Unit) => OW G q K (S.sav (va_up S.x 18 o) S.y S.p S.F) C) := by
  refine MtW.of (by decide) (Nat.le_of_ble_eq_true rfl) ?_
  intro pr e s9 m9 below meth c9 A ls C9 hP hD hl htab
  obtain ⟨hx, hb, hml, hown, hts, hr, hlocks, hA, hAm⟩ := id C9
  have hS : va_S A s9.heap s9.heap [] := va_S.rf
  have hl : lv_has ls 3 [(0, .ref q), (1, .int (nI o))] := hl
  refine lv_aload_n hx hb dL_setOrder_0 rfl (lv_at hl 0 rfl) ?_
  refine lv_iload_n hx hb dL_setOrder_1 rfl (lv_at hl 1 rfl) ?_
  refine oV (As := [.int (nI o)]) (rest := []) (q0 := 0) (ci := 7) (T := TX7) (N := 5) C9 (o_setOrder l D G q K S C o hog hcg ho) (fun _ => OW_fst _ _ _ _ _ _ _) hS hP hD (List.range' 0 57) (OW_get G q K S C) (by decide) (fun _ => OW_put _ _ _ _ _ _ _ _ _) rfl rfl ys_X7_setOrder kw_19_11 kw_19_12 kw_19_13 ⟨Nat.le_of_ble_eq_true rfl, Nat.le_of_ble_eq_true rfl⟩ hl.1 (Nat.le_of_ble_eq_true rfl) dL_setOrder_2 rfl rfl ⟨Nat.zero_le _, Nat.zero_le _⟩ (fun r u H locs hp hP hD hS => ?_)
  exact endI C9 rfl u hp hS hP dL_setOrder_5
theorem yw_L_order : YW yL_order cL_order 3 [(0, 5, 6, 21)] 2 := ⟨kw_15_15, kw_5_1, by decide, by decide, by decide⟩
set_option maxHeartbeats 800000 in
set_option maxRecDepth 100000 in
theorem mL_order_ok (l : Launch) (D : va_G) (G : u_G) (q : Nat) (K : AD) (S : AS) (C : SC) (k : Nat) (hk : k < 4) (ho : S.x 18 < 24) : MtW l D G yL_order cL_order 3 [(0, 5, 6, 21)] 7 0 0 [.ref q, .int (nI k)] (OW G q K S C) (fun (r : Int32) (_ : Unit) => r = nI (odf (S.x 18) k)) (fun (_ : Unit) => OW G q K S C) := by
  refine MtW.of (by decide) (Nat.le_of_ble_eq_true rfl) ?_
  intro pr e s9 m9 below meth c9 A ls C9 hP hD hl htab
  obtain ⟨hx, hb, hml, hown, hts, hr, hlocks, hA, hAm⟩ := id C9
  have hS : va_S A s9.heap s9.heap [] := va_S.rf
  have hl : lv_has ls 3 [(0, .ref q), (1, .int (nI k))] := hl
  refine lv_aload_n hx hb dL_order_0 rfl (lv_at hl 0 rfl) ?_
  refine lv_iload_n hx hb dL_order_1 rfl (lv_at hl 1 rfl) ?_
  refine oV (As := [.int (nI k)]) (rest := []) (q0 := 0) (ci := 7) (T := TX7) (N := 5) C9 (o_order l D G q K S C k hk ho) (fun _ => OW_fst _ _ _ _ _ _ _) hS hP hD (List.range' 0 57) (OW_get G q K S C) (by decide) (fun _ => OW_put _ _ _ _ _ _ _ _ _) rfl rfl ys_X7_order kw_15_16 kw_15_17 kw_15_18 ⟨Nat.le_of_ble_eq_true rfl, Nat.le_of_ble_eq_true rfl⟩ hl.1 (Nat.le_of_ble_eq_true rfl) dL_order_2 rfl rfl ⟨Nat.zero_le _, Nat.zero_le _⟩ (fun r u H locs hp hP hD hS => ?_)
  exact endI C9 rfl u hp hS hP dL_order_5
theorem yw_L_setLimit : YW yL_setLimit cL_setLimit 3 [(0, 5, 6, 15)] 2 := ⟨kw_19_17, kw_5_1, by decide, by decide, by decide⟩
set_option maxHeartbeats 800000 in
set_option maxRecDepth 100000 in
theorem mL_setLimit_ok (l : Launch) (D : va_G) (G : u_G) (q : Nat) (K : AD) (S : AS) (C : SC) (k : Nat) (hog : S.og < 6) (hcg : S.cg ≤ 6) (h1 : 1 ≤ k) (h2 : k ≤ 5000) : MtW l D G yL_setLimit cL_setLimit 3 [(0, 5, 6, 15)] 7 0 0 [.ref q, .int (nI k)] (OW G q K S C) (fun (r : Int32) (_ : Unit) => r = nI (S.x 19)) (fun (_ : Unit) => OW G q K (S.sav (va_up S.x 19 k) S.y S.p S.F) C) := by
  refine MtW.of (by decide) (Nat.le_of_ble_eq_true rfl) ?_
  intro pr e s9 m9 below meth c9 A ls C9 hP hD hl htab
  obtain ⟨hx, hb, hml, hown, hts, hr, hlocks, hA, hAm⟩ := id C9
  have hS : va_S A s9.heap s9.heap [] := va_S.rf
  have hl : lv_has ls 3 [(0, .ref q), (1, .int (nI k))] := hl
  refine lv_aload_n hx hb dL_setLimit_0 rfl (lv_at hl 0 rfl) ?_
  refine lv_iload_n hx hb dL_setLimit_1 rfl (lv_at hl 1 rfl) ?_
  refine oV (As := [.int (nI k)]) (rest := []) (q0 := 0) (ci := 7) (T := TX7) (N := 5) C9 (o_setLimit l D G q K S C k hog hcg h1 h2) (fun _ => OW_fst _ _ _ _ _ _ _) hS hP hD (List.range' 0 57) (OW_get G q K S C) (by decide) (fun _ => OW_put _ _ _ _ _ _ _ _ _) rfl rfl ys_X7_setLimit kw_19_18 kw_19_19 kw_19_20 ⟨Nat.le_of_ble_eq_true rfl, Nat.le_of_ble_eq_true rfl⟩ hl.1 (Nat.le_of_ble_eq_true rfl) dL_setLimit_2 rfl rfl ⟨Nat.zero_le _, Nat.zero_le _⟩ (fun r u H locs hp hP hD hS => ?_)
  exact endI C9 rfl u hp hS hP dL_setLimit_5
theorem yw_L_nodesWith : YW yL_nodesWith cL_nodesWith 3 [(0, 5, 6, 15)] 2 := ⟨kw_11_11, kw_5_1, by decide, by decide, by decide⟩
set_option maxHeartbeats 800000 in
set_option maxRecDepth 100000 in
theorem mL_nodesWith_ok (l : Launch) (D : va_G) (G : u_G) (q : Nat) (K : AD) (S : AS) (C : SC) (o : Nat) (hfn : S.x 13 + S.x 14 ≤ 12) (hlim : S.x 19 ≤ 5000) (ho : o < 24) : MtW l D G yL_nodesWith cL_nodesWith 3 [(0, 5, 6, 15)] 32 0 0 [.ref q, .int (nI o)] (OW G q K S C) (fun (r : Int32) (u : (Nat → Nat) × (Nat → Int32) × (Nat → Nat → Int32)) => r = nI (fcN S.p S.x o)) (fun (u : (Nat → Nat) × (Nat → Int32) × (Nat → Nat → Int32)) => OW G q K S (C.sv, C.L, C.cnt, C.num, C.t, u.1, u.2.1, u.2.2)) := by
  refine MtW.of (by decide) (Nat.le_of_ble_eq_true rfl) ?_
  intro pr e s9 m9 below meth c9 A ls C9 hP hD hl htab
  obtain ⟨hx, hb, hml, hown, hts, hr, hlocks, hA, hAm⟩ := id C9
  have hS : va_S A s9.heap s9.heap [] := va_S.rf
  have hl : lv_has ls 3 [(0, .ref q), (1, .int (nI o))] := hl
  refine lv_aload_n hx hb dL_nodesWith_0 rfl (lv_at hl 0 rfl) ?_
  refine lv_iload_n hx hb dL_nodesWith_1 rfl (lv_at hl 1 rfl) ?_
  refine oV (As := [.int (nI o)]) (rest := []) (q0 := 0) (ci := 7) (T := TX7) (N := 5) C9 (o_nodesWith l D G q K S C o hfn hlim ho) (fun _ => OW_fst _ _ _ _ _ _ _) hS hP hD (List.range' 0 57) (OW_get G q K S C) (by decide) (fun _ => OW_put _ _ _ _ _ _ _ _ _) rfl rfl ys_X7_nodesWith kw_11_13 kw_11_14 kw_11_15 ⟨Nat.le_of_ble_eq_true rfl, Nat.le_of_ble_eq_true rfl⟩ hl.1 (Nat.le_of_ble_eq_true rfl) dL_nodesWith_2 rfl rfl ⟨Nat.zero_le _, Nat.zero_le _⟩ (fun r u H locs hp hP hD hS => ?_)
  exact endI C9 rfl u hp hS hP dL_nodesWith_5
