set_option maxHeartbeats 800000 in
set_option maxRecDepth 100000 in
theorem mL_load_T1 (l : Launch) (D : va_G) (G : u_G) (q : Nat) (K : AD) (S : AS) (C : SC) (hlt : l.stackTraces = false) (hL : C.L ≤ 60) (ht : ∀ k, k < C.L → C.t k < 128) (hbad : ¬ ((rdA C.t C.L S.F).1 = C.L ∧ 0 < (rdA C.t C.L S.F).2.2.1)) : MtW l D G yL_load cL_load 2 [(0, 4, 5, 15)] 7 1 6 [.ref q] (OW G q K S C) (fun (r : Int32) (_ : Unit) => r = (-2)) (fun (_ : Unit) => OW G q K (S.x, S.y, S.p, S.og, S.cg, S.xs, S.ys, S.ps, (rdA C.t C.L S.F).2.2.2) (C.sv, C.L, (rdA C.t C.L S.F).2.1, (rdA C.t C.L S.F).2.2.1, C.t, C.v, C.w, C.c)) := by
  refine MtW.of (by decide) (Nat.le_of_ble_eq_true rfl) ?_
  intro pr e s9 m9 below meth c9 A ls C9 hP hD hl htab
  obtain ⟨hx, hb, hml, hown, hts, hr, hlocks, hA, hAm⟩ := id C9
  have hS : va_S A s9.heap s9.heap [] := va_S.rf
  have hl : lv_has ls 2 [(0, .ref q)] := hl
  refine lv_aload_n hx hb dL_load_0 rfl (lv_at hl 0 rfl) ?_
  refine callT (As := []) (rest := []) (ci := 7) (N := 5) (T := TX7) (q0 := 0) C9 (mX7_load_T1 l D G hlt q K.1 K.2.1 K.2.2.1 K.2.2.2.1 K.2.2.2.2.1 C.L C.cnt C.num S.F C.t hL ht hbad) rfl hS hP hD [0, 9, 10, 11] rfl (by decide) rfl rfl ys_X7_load kw_17_19 kw_17_20 kw_17_21 ⟨Nat.le_of_ble_eq_true rfl, Nat.le_of_ble_eq_true rfl⟩ hl.1 (Nat.le_of_ble_eq_true rfl) dL_load_1 rfl rfl ⟨by decide, by decide⟩ (fun ce q9 H locs hP hD hS hce hcv hcl => ?_)
  have hP : va_P D vwCl (OW G q K (S.x, S.y, S.p, S.og, S.cg, S.xs, S.ys, S.ps, (rdA C.t C.L S.F).2.2.2) (C.sv, C.L, (rdA C.t C.L S.F).2.1, (rdA C.t C.L S.F).2.2.1, C.t, C.v, C.w, C.c)) H := hP
  refine vx_catch (name := "java/lang/IllegalArgumentException") hown [] ⟨0, 4, 5, 15⟩ [] htab (fun z h9 => absurd h9 List.not_mem_nil) (by decide) (by decide) (hts _ kw_11_12) (va_Nw.use (isNw_ot (List.all_eq_true.mp nwl_is _ nw_35)) (hAm.2.1 _ nw_35)) hce hcv hcl ?_
  refine lv_astore_n (lv' := [(1, .ref q9), (0, .ref q)]) hx hb dL_load_5 rfl hl (by decide) rfl (fun ls hl => ?_)
  refine lv_bipush (v := (-2)) hx hb dL_load_6 (by decide) ?_
  exact endI C9 rfl () rfl hS hP dL_load_8
set_option maxHeartbeats 800000 in
set_option maxRecDepth 100000 in
theorem mL_play_T1 (l : Launch) (D : va_G) (G : u_G) (q : Nat) (K : AD) (S : AS) (C : SC) (hlt : l.stackTraces = false) (mv : Int32) (hbad : ¬ (¬ mv < 0 ∧ ¬ 4 ≤ mv)) : MtW l D G yL_play cL_play 3 [(0, 5, 6, 21), (0, 5, 10, 23)] 7 1 6 [.ref q, .int mv] (OW G q K S C) (fun (r : Int32) (_ : Unit) => r = (-3)) (fun (_ : Unit) => OW G q K S C) := by
  refine MtW.of (by decide) (Nat.le_of_ble_eq_true rfl) ?_
  intro pr e s9 m9 below meth c9 A ls C9 hP hD hl htab
  obtain ⟨hx, hb, hml, hown, hts, hr, hlocks, hA, hAm⟩ := id C9
  have hS : va_S A s9.heap s9.heap [] := va_S.rf
  have hl : lv_has ls 3 [(0, .ref q), (1, .int mv)] := hl
  refine lv_aload_n hx hb dL_play_0 rfl (lv_at hl 0 rfl) ?_
  refine lv_iload_n hx hb dL_play_1 rfl (lv_at hl 1 rfl) ?_
  refine callT (As := [.int mv]) (rest := []) (ci := 7) (N := 5) (T := TX7) (q0 := 0) C9 (mX7_play_T1 l D G hlt q K.1 K.2.1 K.2.2.1 K.2.2.2.1 K.2.2.2.2.1 S.x S.y S.p mv hbad) rfl hS hP hD [0, 1, 2, 3, 4, 5, 6] rfl (by decide) rfl rfl ys_X7_play kw_18_17 kw_18_18 kw_18_19 ⟨Nat.le_of_ble_eq_true rfl, Nat.le_of_ble_eq_true rfl⟩ hl.1 (Nat.le_of_ble_eq_true rfl) dL_play_2 rfl rfl ⟨by decide, by decide⟩ (fun ce q9 H locs hP hD hS hce hcv hcl => ?_)
  have hP : va_P D vwCl (OW G q K S C) H := hP
  refine vx_catch (name := "java/lang/IndexOutOfBoundsException") hown [] ⟨0, 5, 6, 21⟩ [⟨0, 5, 10, 23⟩] htab (fun z h9 => absurd h9 List.not_mem_nil) (by decide) (by decide) (hts _ kw_12_14) (va_Nw.use (isNw_ot (List.all_eq_true.mp nwl_is _ nw_36)) (hAm.2.1 _ nw_36)) hce hcv hcl ?_
  refine lv_astore_n (lv' := [(2, .ref q9), (0, .ref q), (1, .int mv)]) hx hb dL_play_6 rfl hl (by decide) rfl (fun ls hl => ?_)
  refine lv_bipush (v := (-3)) hx hb dL_play_7 (by decide) ?_
  exact endI C9 rfl () rfl hS hP dL_play_9
set_option maxHeartbeats 800000 in
set_option maxRecDepth 100000 in
theorem mL_playBest_T1 (l : Launch) (D : va_G) (G : u_G) (q : Nat) (K : AD) (S : AS) (C : SC) (hlt : l.stackTraces = false) (k : Int32) (hbad : k < 1 ∨ ¬ k ≤ 12) : MtW l D G yL_playBest cL_playBest 3 [(0, 5, 6, 15)] 7 1 6 [.ref q, .int k] (OW G q K S C) (fun (r : Int32) (_ : Unit) => r = (-2)) (fun (_ : Unit) => OW G q K S C) := by
  refine MtW.of (by decide) (Nat.le_of_ble_eq_true rfl) ?_
  intro pr e s9 m9 below meth c9 A ls C9 hP hD hl htab
  obtain ⟨hx, hb, hml, hown, hts, hr, hlocks, hA, hAm⟩ := id C9
  have hS : va_S A s9.heap s9.heap [] := va_S.rf
  have hl : lv_has ls 3 [(0, .ref q), (1, .int k)] := hl
  refine lv_aload_n hx hb dL_playBest_0 rfl (lv_at hl 0 rfl) ?_
  refine lv_iload_n hx hb dL_playBest_1 rfl (lv_at hl 1 rfl) ?_
  refine callT (As := [.int k]) (rest := []) (ci := 7) (N := 5) (T := TX7) (q0 := 0) C9 (mX7_playBest_T1 l D G hlt q K.1 K.2.1 K.2.2.1 K.2.2.2.1 K.2.2.2.2.1 S.x S.y S.p k hbad) rfl hS hP hD [0, 1, 2, 3, 4, 5, 6] rfl (by decide) rfl rfl ys_X7_playBest kw_19_4 kw_19_5 kw_19_6 ⟨Nat.le_of_ble_eq_true rfl, Nat.le_of_ble_eq_true rfl⟩ hl.1 (Nat.le_of_ble_eq_true rfl) dL_playBest_2 rfl rfl ⟨by decide, by decide⟩ (fun ce q9 H locs hP hD hS hce hcv hcl => ?_)
  have hP : va_P D vwCl (OW G q K S C) H := hP
  refine vx_catch (name := "java/lang/IllegalArgumentException") hown [] ⟨0, 5, 6, 15⟩ [] htab (fun z h9 => absurd h9 List.not_mem_nil) (by decide) (by decide) (hts _ kw_11_12) (va_Nw.use (isNw_ot (List.all_eq_true.mp nwl_is _ nw_35)) (hAm.2.1 _ nw_35)) hce hcv hcl ?_
  refine lv_astore_n (lv' := [(2, .ref q9), (0, .ref q), (1, .int k)]) hx hb dL_playBest_6 rfl hl (by decide) rfl (fun ls hl => ?_)
  refine lv_bipush (v := (-2)) hx hb dL_playBest_7 (by decide) ?_
  exact endI C9 rfl () rfl hS hP dL_playBest_9
set_option maxHeartbeats 800000 in
set_option maxRecDepth 100000 in
theorem mL_pile_T1 (l : Launch) (D : va_G) (G : u_G) (q : Nat) (K : AD) (S : AS) (C : SC) (hlt : l.stackTraces = false) (k : Int32) (hbad : k < 0 ∨ ¬ k < nI (S.x 14)) : MtW l D G yL_pile cL_pile 3 [(0, 5, 6, 21)] 7 1 6 [.ref q, .int k] (OW G q K S C) (fun (r : Int32) (_ : Unit) => r = (-2)) (fun (_ : Unit) => OW G q K S C) := by
  refine MtW.of (by decide) (Nat.le_of_ble_eq_true rfl) ?_
  intro pr e s9 m9 below meth c9 A ls C9 hP hD hl htab
  obtain ⟨hx, hb, hml, hown, hts, hr, hlocks, hA, hAm⟩ := id C9
  have hS : va_S A s9.heap s9.heap [] := va_S.rf
  have hl : lv_has ls 3 [(0, .ref q), (1, .int k)] := hl
  refine lv_aload_n hx hb dL_pile_0 rfl (lv_at hl 0 rfl) ?_
  refine lv_iload_n hx hb dL_pile_1 rfl (lv_at hl 1 rfl) ?_
  refine callT (As := [.int k]) (rest := []) (ci := 7) (N := 5) (T := TX7) (q0 := 0) C9 (mX7_pile_T1 l D G hlt q K.1 K.2.1 K.2.2.1 K.2.2.2.1 K.2.2.2.2.1 S.x S.y S.p k hbad) rfl hS hP hD [0, 1, 2, 3, 4, 5, 6] rfl (by decide) rfl rfl ys_X7_pile kw_13_2 kw_13_3 kw_13_4 ⟨Nat.le_of_ble_eq_true rfl, Nat.le_of_ble_eq_true rfl⟩ hl.1 (Nat.le_of_ble_eq_true rfl) dL_pile_2 rfl rfl ⟨by decide, by decide⟩ (fun ce q9 H locs hP hD hS hce hcv hcl => ?_)
  have hP : va_P D vwCl (OW G q K S C) H := hP
  refine vx_catch (name := "java/lang/IndexOutOfBoundsException") hown [] ⟨0, 5, 6, 21⟩ [] htab (fun z h9 => absurd h9 List.not_mem_nil) (by decide) (by decide) (hts _ kw_12_14) (va_Nw.use (isNw_ot (List.all_eq_true.mp nwl_is _ nw_36)) (hAm.2.1 _ nw_36)) hce hcv hcl ?_
  refine lv_astore_n (lv' := [(2, .ref q9), (0, .ref q), (1, .int k)]) hx hb dL_pile_6 rfl hl (by decide) rfl (fun ls hl => ?_)
  refine lv_bipush (v := (-2)) hx hb dL_pile_7 (by decide) ?_
  exact endI C9 rfl () rfl hS hP dL_pile_9
set_option maxHeartbeats 800000 in
set_option maxRecDepth 100000 in
theorem mL_coins_T1 (l : Launch) (D : va_G) (G : u_G) (q : Nat) (K : AD) (S : AS) (C : SC) (hlt : l.stackTraces = false) (k : Int32) (hbad : k < 0 ∨ ¬ k ≤ 1) : MtW l D G yL_coins cL_coins 3 [(0, 5, 6, 21)] 7 1 6 [.ref q, .int k] (OW G q K S C) (fun (r : Int32) (_ : Unit) => r = (-2)) (fun (_ : Unit) => OW G q K S C) := by
  refine MtW.of (by decide) (Nat.le_of_ble_eq_true rfl) ?_
  intro pr e s9 m9 below meth c9 A ls C9 hP hD hl htab
  obtain ⟨hx, hb, hml, hown, hts, hr, hlocks, hA, hAm⟩ := id C9
  have hS : va_S A s9.heap s9.heap [] := va_S.rf
  have hl : lv_has ls 3 [(0, .ref q), (1, .int k)] := hl
  refine lv_aload_n hx hb dL_coins_0 rfl (lv_at hl 0 rfl) ?_
  refine lv_iload_n hx hb dL_coins_1 rfl (lv_at hl 1 rfl) ?_
  refine callT (As := [.int k]) (rest := []) (ci := 7) (N := 5) (T := TX7) (q0 := 0) C9 (mX7_coins_T1 l D G hlt q K.1 K.2.1 K.2.2.1 K.2.2.2.1 K.2.2.2.2.1 S.x S.y S.p k hbad) rfl hS hP hD [0, 1, 2, 3, 4, 5, 6] rfl (by decide) rfl rfl ys_X7_coins kw_12_15 kw_12_16 kw_12_17 ⟨Nat.le_of_ble_eq_true rfl, Nat.le_of_ble_eq_true rfl⟩ hl.1 (Nat.le_of_ble_eq_true rfl) dL_coins_2 rfl rfl ⟨by decide, by decide⟩ (fun ce q9 H locs hP hD hS hce hcv hcl => ?_)
  have hP : va_P D vwCl (OW G q K S C) H := hP
  refine vx_catch (name := "java/lang/IndexOutOfBoundsException") hown [] ⟨0, 5, 6, 21⟩ [] htab (fun z h9 => absurd h9 List.not_mem_nil) (by decide) (by decide) (hts _ kw_12_14) (va_Nw.use (isNw_ot (List.all_eq_true.mp nwl_is _ nw_36)) (hAm.2.1 _ nw_36)) hce hcv hcl ?_
  refine lv_astore_n (lv' := [(2, .ref q9), (0, .ref q), (1, .int k)]) hx hb dL_coins_6 rfl hl (by decide) rfl (fun ls hl => ?_)
  refine lv_bipush (v := (-2)) hx hb dL_coins_7 (by decide) ?_
  exact endI C9 rfl () rfl hS hP dL_coins_9
set_option maxHeartbeats 800000 in
set_option maxRecDepth 100000 in
theorem mL_resultOf_T1 (l : Launch) (D : va_G) (G : u_G) (q : Nat) (K : AD) (S : AS) (C : SC) (hlt : l.stackTraces = false) (mv : Int32) (hbad : ¬ (¬ mv < 0 ∧ ¬ 4 ≤ mv)) : MtW l D G yL_resultOf cL_resultOf 3 [(0, 5, 6, 21)] 7 1 6 [.ref q, .int mv] (OW G q K S C) (fun (r : Int32) (_ : Unit) => r = (-1000)) (fun (_ : Unit) => OW G q K S C) := by
  refine MtW.of (by decide) (Nat.le_of_ble_eq_true rfl) ?_
  intro pr e s9 m9 below meth c9 A ls C9 hP hD hl htab
  obtain ⟨hx, hb, hml, hown, hts, hr, hlocks, hA, hAm⟩ := id C9
  have hS : va_S A s9.heap s9.heap [] := va_S.rf
  have hl : lv_has ls 3 [(0, .ref q), (1, .int mv)] := hl
  refine lv_aload_n hx hb dL_resultOf_0 rfl (lv_at hl 0 rfl) ?_
  refine lv_iload_n hx hb dL_resultOf_1 rfl (lv_at hl 1 rfl) ?_
  refine callT (As := [.int mv]) (rest := []) (ci := 7) (N := 5) (T := TX7) (q0 := 0) C9 (mX7_resultOf_T1 l D G hlt q K.1 K.2.1 K.2.2.1 K.2.2.2.1 K.2.2.2.2.1 S.x S.y S.p mv hbad) rfl hS hP hD [0, 1, 2, 3, 4, 5, 6] rfl (by decide) rfl rfl ys_X7_resultOf kw_14_6 kw_14_7 kw_14_8 ⟨Nat.le_of_ble_eq_true rfl, Nat.le_of_ble_eq_true rfl⟩ hl.1 (Nat.le_of_ble_eq_true rfl) dL_resultOf_2 rfl rfl ⟨by decide, by decide⟩ (fun ce q9 H locs hP hD hS hce hcv hcl => ?_)
  have hP : va_P D vwCl (OW G q K S C) H := hP
  refine vx_catch (name := "java/lang/IndexOutOfBoundsException") hown [] ⟨0, 5, 6, 21⟩ [] htab (fun z h9 => absurd h9 List.not_mem_nil) (by decide) (by decide) (hts _ kw_12_14) (va_Nw.use (isNw_ot (List.all_eq_true.mp nwl_is _ nw_36)) (hAm.2.1 _ nw_36)) hce hcv hcl ?_
  refine lv_astore_n (lv' := [(2, .ref q9), (0, .ref q), (1, .int mv)]) hx hb dL_resultOf_6 rfl hl (by decide) rfl (fun ls hl => ?_)
  refine lv_sipush (v := (-1000)) hx hb dL_resultOf_7 (by decide) ?_
  exact endI C9 rfl () rfl hS hP dL_resultOf_10
set_option maxHeartbeats 800000 in
set_option maxRecDepth 100000 in
theorem mL_line_T1 (l : Launch) (D : va_G) (G : u_G) (q : Nat) (K : AD) (S : AS) (C : SC) (hlt : l.stackTraces = false) (k : Int32) (hbad : ¬ 0 ≤ k) : MtW l D G yL_line cL_line 3 [(0, 5, 6, 21)] 7 1 6 [.ref q, .int k] (OW G q K S C) (fun (r : Int32) (_ : Unit) => r = (-1000)) (fun (_ : Unit) => OW G q K S C) := by
  refine MtW.of (by decide) (Nat.le_of_ble_eq_true rfl) ?_
  intro pr e s9 m9 below meth c9 A ls C9 hP hD hl htab
  obtain ⟨hx, hb, hml, hown, hts, hr, hlocks, hA, hAm⟩ := id C9
  have hS : va_S A s9.heap s9.heap [] := va_S.rf
  have hl : lv_has ls 3 [(0, .ref q), (1, .int k)] := hl
  refine lv_aload_n hx hb dL_line_0 rfl (lv_at hl 0 rfl) ?_
  refine lv_iload_n hx hb dL_line_1 rfl (lv_at hl 1 rfl) ?_
  refine callT (As := [.int k]) (rest := []) (ci := 7) (N := 5) (T := TX7) (q0 := 0) C9 (mX7_line_T1 l D G hlt q K.1 K.2.1 K.2.2.1 K.2.2.2.1 K.2.2.2.2.1 S.x S.y S.p k hbad) rfl hS hP hD [0, 1, 2, 3, 4, 5, 6] rfl (by decide) rfl rfl ys_X7_line kw_14_14 kw_14_15 kw_14_16 ⟨Nat.le_of_ble_eq_true rfl, Nat.le_of_ble_eq_true rfl⟩ hl.1 (Nat.le_of_ble_eq_true rfl) dL_line_2 rfl rfl ⟨by decide, by decide⟩ (fun ce q9 H locs hP hD hS hce hcv hcl => ?_)
  have hP : va_P D vwCl (OW G q K S C) H := hP
  refine vx_catch (name := "java/lang/IndexOutOfBoundsException") hown [] ⟨0, 5, 6, 21⟩ [] htab (fun z h9 => absurd h9 List.not_mem_nil) (by decide) (by decide) (hts _ kw_12_14) (va_Nw.use (isNw_ot (List.all_eq_true.mp nwl_is _ nw_36)) (hAm.2.1 _ nw_36)) hce hcv hcl ?_
  refine lv_astore_n (lv' := [(2, .ref q9), (0, .ref q), (1, .int k)]) hx hb dL_line_6 rfl hl (by decide) rfl (fun ls hl => ?_)
  refine lv_sipush (v := (-1000)) hx hb dL_line_7 (by decide) ?_
  exact endI C9 rfl () rfl hS hP dL_line_10
set_option maxHeartbeats 800000 in
set_option maxRecDepth 100000 in
theorem mL_append_T1 (l : Launch) (D : va_G) (G : u_G) (q : Nat) (K : AD) (S : AS) (C : SC) (hlt : l.stackTraces = false) (k : Int32) (hbad : k < 33 ∨ ¬ k ≤ 126) : MtW l D G yL_append cL_append 3 [(0, 5, 6, 15), (0, 5, 10, 23)] 7 1 6 [.ref q, .int k] (OW G q K S C) (fun (r : Int32) (_ : Unit) => r = (-2)) (fun (_ : Unit) => OW G q K S C) := by
  refine MtW.of (by decide) (Nat.le_of_ble_eq_true rfl) ?_
  intro pr e s9 m9 below meth c9 A ls C9 hP hD hl htab
  obtain ⟨hx, hb, hml, hown, hts, hr, hlocks, hA, hAm⟩ := id C9
  have hS : va_S A s9.heap s9.heap [] := va_S.rf
  have hl : lv_has ls 3 [(0, .ref q), (1, .int k)] := hl
  refine lv_aload_n hx hb dL_append_0 rfl (lv_at hl 0 rfl) ?_
  refine lv_iload_n hx hb dL_append_1 rfl (lv_at hl 1 rfl) ?_
  refine callT (As := [.int k]) (rest := []) (ci := 7) (N := 5) (T := TX7) (q0 := 0) C9 (mX7_append_T1 l D G hlt q K.1 K.2.1 K.2.2.1 K.2.2.2.1 K.2.2.2.2.1 C.L C.cnt C.num S.F C.t k hbad) rfl hS hP hD [0, 9, 10, 11] rfl (by decide) rfl rfl ys_X7_append kw_17_10 kw_17_11 kw_17_12 ⟨Nat.le_of_ble_eq_true rfl, Nat.le_of_ble_eq_true rfl⟩ hl.1 (Nat.le_of_ble_eq_true rfl) dL_append_2 rfl rfl ⟨by decide, by decide⟩ (fun ce q9 H locs hP hD hS hce hcv hcl => ?_)
  have hP : va_P D vwCl (OW G q K S C) H := hP
  refine vx_catch (name := "java/lang/IllegalArgumentException") hown [] ⟨0, 5, 6, 15⟩ [⟨0, 5, 10, 23⟩] htab (fun z h9 => absurd h9 List.not_mem_nil) (by decide) (by decide) (hts _ kw_11_12) (va_Nw.use (isNw_ot (List.all_eq_true.mp nwl_is _ nw_35)) (hAm.2.1 _ nw_35)) hce hcv hcl ?_
  refine lv_astore_n (lv' := [(2, .ref q9), (0, .ref q), (1, .int k)]) hx hb dL_append_6 rfl hl (by decide) rfl (fun ls hl => ?_)
  refine lv_bipush (v := (-2)) hx hb dL_append_7 (by decide) ?_
  exact endI C9 rfl () rfl hS hP dL_append_9
set_option maxHeartbeats 800000 in
set_option maxRecDepth 100000 in
theorem mL_undo_T1 (l : Launch) (D : va_G) (G : u_G) (q : Nat) (K : AD) (S : AS) (C : SC) (hlt : l.stackTraces = false) (hc : S.cg = 0) : MtW l D G yL_undo cL_undo 2 [(0, 4, 5, 23)] 7 1 6 [.ref q] (OW G q K S C) (fun (r : Int32) (_ : Unit) => r = (-2)) (fun (_ : Unit) => OW G q K S C) := by
  refine MtW.of (by decide) (Nat.le_of_ble_eq_true rfl) ?_
  intro pr e s9 m9 below meth c9 A ls C9 hP hD hl htab
  obtain ⟨hx, hb, hml, hown, hts, hr, hlocks, hA, hAm⟩ := id C9
  have hS : va_S A s9.heap s9.heap [] := va_S.rf
  have hl : lv_has ls 2 [(0, .ref q)] := hl
  refine lv_aload_n hx hb dL_undo_0 rfl (lv_at hl 0 rfl) ?_
  refine callT (As := []) (rest := []) (ci := 7) (N := 5) (T := TX7) (q0 := 0) C9 (mX7_undo_T1 l D G hlt q K.1 K.2.1 K.2.2.1 K.2.2.2.1 K.2.2.2.2.1 S.og S.cg K.2.2.2.2.2 hc) rfl hS hP hD [0, 7, 8] rfl (by decide) rfl rfl ys_X7_undo kw_5_4 kw_5_5 kw_5_6 ⟨Nat.le_of_ble_eq_true rfl, Nat.le_of_ble_eq_true rfl⟩ hl.1 (Nat.le_of_ble_eq_true rfl) dL_undo_1 rfl rfl ⟨by decide, by decide⟩ (fun ce q9 H locs hP hD hS hce hcv hcl => ?_)
  have hP : va_P D vwCl (OW G q K S C) H := hP
  refine vx_catch (name := "java/lang/IllegalStateException") hown [] ⟨0, 4, 5, 23⟩ [] htab (fun z h9 => absurd h9 List.not_mem_nil) (by decide) (by decide) (hts _ kw_5_3) (va_Nw.use (isNw_ot (List.all_eq_true.mp nwl_is _ nw_34)) (hAm.2.1 _ nw_34)) hce hcv hcl ?_
  refine lv_astore_n (lv' := [(1, .ref q9), (0, .ref q)]) hx hb dL_undo_5 rfl hl (by decide) rfl (fun ls hl => ?_)
  refine lv_bipush (v := (-2)) hx hb dL_undo_6 (by decide) ?_
  exact endI C9 rfl () rfl hS hP dL_undo_8
set_option maxHeartbeats 800000 in
set_option maxRecDepth 100000 in
theorem mL_search_T1 (l : Launch) (D : va_G) (G : u_G) (q : Nat) (K : AD) (S : AS) (C : SC) (hlt : l.stackTraces = false) (d : Int32) (a8 : Int32) (b : Int32) (hbad : d < 0 ∨ ¬ d ≤ 12 ∨ a8 < -240 ∨ ¬ a8 < 241 ∨ b ≤ a8 ∨ ¬ b ≤ 241) : MtW l D G yL_search cL_search 5 [(0, 7, 8, 15)] 7 1 6 [.ref q, .int d, .int a8, .int b] (OW G q K S C) (fun (r : Int32) (_ : Unit) => r = (-1000)) (fun (_ : Unit) => OW G q K S C) := by
  refine MtW.of (by decide) (Nat.le_of_ble_eq_true rfl) ?_
  intro pr e s9 m9 below meth c9 A ls C9 hP hD hl htab
  obtain ⟨hx, hb, hml, hown, hts, hr, hlocks, hA, hAm⟩ := id C9
  have hS : va_S A s9.heap s9.heap [] := va_S.rf
  have hl : lv_has ls 5 [(0, .ref q), (1, .int d), (2, .int a8), (3, .int b)] := hl
  refine lv_aload_n hx hb dL_search_0 rfl (lv_at hl 0 rfl) ?_
  refine lv_iload_n hx hb dL_search_1 rfl (lv_at hl 1 rfl) ?_
  refine lv_iload_n hx hb dL_search_2 rfl (lv_at hl 2 rfl) ?_
  refine lv_iload_n hx hb dL_search_3 rfl (lv_at hl 3 rfl) ?_
  refine callT (As := [.int d, .int a8, .int b]) (rest := []) (ci := 7) (N := 5) (T := TX7) (q0 := 0) C9 (mX7_search_T1 l D G hlt q K.1 K.2.1 K.2.2.1 K.2.2.2.1 K.2.2.2.2.1 S.x S.y S.p d a8 b hbad) rfl hS hP hD [0, 1, 2, 3, 4, 5, 6] rfl (by decide) rfl rfl ys_X7_search kw_20_7 kw_20_8 kw_20_9 ⟨Nat.le_of_ble_eq_true rfl, Nat.le_of_ble_eq_true rfl⟩ hl.1 (Nat.le_of_ble_eq_true rfl) dL_search_4 rfl rfl ⟨by decide, by decide⟩ (fun ce q9 H locs hP hD hS hce hcv hcl => ?_)
  have hP : va_P D vwCl (OW G q K S C) H := hP
  refine vx_catch (name := "java/lang/IllegalArgumentException") hown [] ⟨0, 7, 8, 15⟩ [] htab (fun z h9 => absurd h9 List.not_mem_nil) (by decide) (by decide) (hts _ kw_11_12) (va_Nw.use (isNw_ot (List.all_eq_true.mp nwl_is _ nw_35)) (hAm.2.1 _ nw_35)) hce hcv hcl ?_
  refine lv_astore (lv' := [(4, .ref q9), (0, .ref q), (1, .int d), (2, .int a8), (3, .int b)]) hx hb dL_search_8 hl (by decide) rfl (fun ls hl => ?_)
  refine lv_sipush (v := (-1000)) hx hb dL_search_10 (by decide) ?_
  exact endI C9 rfl () rfl hS hP dL_search_13
set_option maxHeartbeats 800000 in
set_option maxRecDepth 100000 in
theorem mL_entryKind_T1 (l : Launch) (D : va_G) (G : u_G) (q : Nat) (K : AD) (S : AS) (C : SC) (hlt : l.stackTraces = false) (f : Int32) (c8 : Int32) (hbad : ¬ (¬ f < 0 ∧ ¬ 12 ≤ f ∧ ¬ c8 < 1 ∧ ¬ 12 < c8)) : MtW l D G yL_entryKind cL_entryKind 4 [(0, 6, 7, 21)] 7 1 6 [.ref q, .int f, .int c8] (OW G q K S C) (fun (r : Int32) (_ : Unit) => r = (-2)) (fun (_ : Unit) => OW G q K S C) := by
  refine MtW.of (by decide) (Nat.le_of_ble_eq_true rfl) ?_
  intro pr e s9 m9 below meth c9 A ls C9 hP hD hl htab
  obtain ⟨hx, hb, hml, hown, hts, hr, hlocks, hA, hAm⟩ := id C9
  have hS : va_S A s9.heap s9.heap [] := va_S.rf
  have hl : lv_has ls 4 [(0, .ref q), (1, .int f), (2, .int c8)] := hl
  refine lv_aload_n hx hb dL_entryKind_0 rfl (lv_at hl 0 rfl) ?_
  refine lv_iload_n hx hb dL_entryKind_1 rfl (lv_at hl 1 rfl) ?_
  refine lv_iload_n hx hb dL_entryKind_2 rfl (lv_at hl 2 rfl) ?_
  refine callT (As := [.int f, .int c8]) (rest := []) (ci := 7) (N := 5) (T := TX7) (q0 := 0) C9 (mX7_entryKind_T1 l D G hlt q K.1 K.2.1 K.2.2.1 K.2.2.2.1 K.2.2.2.2.1 S.x S.y S.p f c8 hbad) rfl hS hP hD [0, 1, 2, 3, 4, 5, 6] rfl (by decide) rfl rfl ys_X7_entryKind kw_14_23 kw_15_0 kw_15_1 ⟨Nat.le_of_ble_eq_true rfl, Nat.le_of_ble_eq_true rfl⟩ hl.1 (Nat.le_of_ble_eq_true rfl) dL_entryKind_3 rfl rfl ⟨by decide, by decide⟩ (fun ce q9 H locs hP hD hS hce hcv hcl => ?_)
  have hP : va_P D vwCl (OW G q K S C) H := hP
  refine vx_catch (name := "java/lang/IndexOutOfBoundsException") hown [] ⟨0, 6, 7, 21⟩ [] htab (fun z h9 => absurd h9 List.not_mem_nil) (by decide) (by decide) (hts _ kw_12_14) (va_Nw.use (isNw_ot (List.all_eq_true.mp nwl_is _ nw_36)) (hAm.2.1 _ nw_36)) hce hcv hcl ?_
  refine lv_astore_n (lv' := [(3, .ref q9), (0, .ref q), (1, .int f), (2, .int c8)]) hx hb dL_entryKind_7 rfl hl (by decide) rfl (fun ls hl => ?_)
  refine lv_bipush (v := (-2)) hx hb dL_entryKind_8 (by decide) ?_
  exact endI C9 rfl () rfl hS hP dL_entryKind_10
set_option maxHeartbeats 800000 in
set_option maxRecDepth 100000 in
theorem mL_entryValue_T1 (l : Launch) (D : va_G) (G : u_G) (q : Nat) (K : AD) (S : AS) (C : SC) (hlt : l.stackTraces = false) (f : Int32) (c8 : Int32) (hbad : ¬ (¬ f < 0 ∧ ¬ 12 ≤ f ∧ ¬ c8 < 1 ∧ ¬ 12 < c8)) : MtW l D G yL_entryValue cL_entryValue 4 [(0, 6, 7, 21)] 7 1 6 [.ref q, .int f, .int c8] (OW G q K S C) (fun (r : Int32) (_ : Unit) => r = (-1000)) (fun (_ : Unit) => OW G q K S C) := by
  refine MtW.of (by decide) (Nat.le_of_ble_eq_true rfl) ?_
  intro pr e s9 m9 below meth c9 A ls C9 hP hD hl htab
  obtain ⟨hx, hb, hml, hown, hts, hr, hlocks, hA, hAm⟩ := id C9
  have hS : va_S A s9.heap s9.heap [] := va_S.rf
  have hl : lv_has ls 4 [(0, .ref q), (1, .int f), (2, .int c8)] := hl
  refine lv_aload_n hx hb dL_entryValue_0 rfl (lv_at hl 0 rfl) ?_
  refine lv_iload_n hx hb dL_entryValue_1 rfl (lv_at hl 1 rfl) ?_
  refine lv_iload_n hx hb dL_entryValue_2 rfl (lv_at hl 2 rfl) ?_
  refine callT (As := [.int f, .int c8]) (rest := []) (ci := 7) (N := 5) (T := TX7) (q0 := 0) C9 (mX7_entryValue_T1 l D G hlt q K.1 K.2.1 K.2.2.1 K.2.2.2.1 K.2.2.2.2.1 S.x S.y S.p f c8 hbad) rfl hS hP hD [0, 1, 2, 3, 4, 5, 6] rfl (by decide) rfl rfl ys_X7_entryValue kw_15_8 kw_15_9 kw_15_10 ⟨Nat.le_of_ble_eq_true rfl, Nat.le_of_ble_eq_true rfl⟩ hl.1 (Nat.le_of_ble_eq_true rfl) dL_entryValue_3 rfl rfl ⟨by decide, by decide⟩ (fun ce q9 H locs hP hD hS hce hcv hcl => ?_)
  have hP : va_P D vwCl (OW G q K S C) H := hP
  refine vx_catch (name := "java/lang/IndexOutOfBoundsException") hown [] ⟨0, 6, 7, 21⟩ [] htab (fun z h9 => absurd h9 List.not_mem_nil) (by decide) (by decide) (hts _ kw_12_14) (va_Nw.use (isNw_ot (List.all_eq_true.mp nwl_is _ nw_36)) (hAm.2.1 _ nw_36)) hce hcv hcl ?_
  refine lv_astore_n (lv' := [(3, .ref q9), (0, .ref q), (1, .int f), (2, .int c8)]) hx hb dL_entryValue_7 rfl hl (by decide) rfl (fun ls hl => ?_)
  refine lv_sipush (v := (-1000)) hx hb dL_entryValue_8 (by decide) ?_
  exact endI C9 rfl () rfl hS hP dL_entryValue_11
set_option maxHeartbeats 800000 in
set_option maxRecDepth 100000 in
theorem mL_setOrder_T1 (l : Launch) (D : va_G) (G : u_G) (q : Nat) (K : AD) (S : AS) (C : SC) (hlt : l.stackTraces = false) (k : Int32) (hbad : ¬ (¬ k < 0 ∧ ¬ 24 ≤ k)) : MtW l D G yL_setOrder cL_setOrder 3 [(0, 5, 6, 15)] 7 1 6 [.ref q, .int k] (OW G q K S C) (fun (r : Int32) (_ : Unit) => r = (-2)) (fun (_ : Unit) => OW G q K S C) := by
  refine MtW.of (by decide) (Nat.le_of_ble_eq_true rfl) ?_
  intro pr e s9 m9 below meth c9 A ls C9 hP hD hl htab
  obtain ⟨hx, hb, hml, hown, hts, hr, hlocks, hA, hAm⟩ := id C9
  have hS : va_S A s9.heap s9.heap [] := va_S.rf
  have hl : lv_has ls 3 [(0, .ref q), (1, .int k)] := hl
  refine lv_aload_n hx hb dL_setOrder_0 rfl (lv_at hl 0 rfl) ?_
  refine lv_iload_n hx hb dL_setOrder_1 rfl (lv_at hl 1 rfl) ?_
  refine callT (As := [.int k]) (rest := []) (ci := 7) (N := 5) (T := TX7) (q0 := 0) C9 (mX7_setOrder_T1 l D G hlt q K.1 K.2.1 K.2.2.1 K.2.2.2.1 K.2.2.2.2.1 S.x S.y S.p k hbad) rfl hS hP hD [0, 1, 2, 3, 4, 5, 6] rfl (by decide) rfl rfl ys_X7_setOrder kw_19_11 kw_19_12 kw_19_13 ⟨Nat.le_of_ble_eq_true rfl, Nat.le_of_ble_eq_true rfl⟩ hl.1 (Nat.le_of_ble_eq_true rfl) dL_setOrder_2 rfl rfl ⟨by decide, by decide⟩ (fun ce q9 H locs hP hD hS hce hcv hcl => ?_)
  have hP : va_P D vwCl (OW G q K S C) H := hP
  refine vx_catch (name := "java/lang/IllegalArgumentException") hown [] ⟨0, 5, 6, 15⟩ [] htab (fun z h9 => absurd h9 List.not_mem_nil) (by decide) (by decide) (hts _ kw_11_12) (va_Nw.use (isNw_ot (List.all_eq_true.mp nwl_is _ nw_35)) (hAm.2.1 _ nw_35)) hce hcv hcl ?_
  refine lv_astore_n (lv' := [(2, .ref q9), (0, .ref q), (1, .int k)]) hx hb dL_setOrder_6 rfl hl (by decide) rfl (fun ls hl => ?_)
  refine lv_bipush (v := (-2)) hx hb dL_setOrder_7 (by decide) ?_
  exact endI C9 rfl () rfl hS hP dL_setOrder_9
set_option maxHeartbeats 800000 in
set_option maxRecDepth 100000 in
theorem mL_order_T1 (l : Launch) (D : va_G) (G : u_G) (q : Nat) (K : AD) (S : AS) (C : SC) (hlt : l.stackTraces = false) (k : Int32) (hbad : k < 0 ∨ ¬ k < 4) : MtW l D G yL_order cL_order 3 [(0, 5, 6, 21)] 7 1 6 [.ref q, .int k] (OW G q K S C) (fun (r : Int32) (_ : Unit) => r = (-2)) (fun (_ : Unit) => OW G q K S C) := by
  refine MtW.of (by decide) (Nat.le_of_ble_eq_true rfl) ?_
  intro pr e s9 m9 below meth c9 A ls C9 hP hD hl htab
  obtain ⟨hx, hb, hml, hown, hts, hr, hlocks, hA, hAm⟩ := id C9
  have hS : va_S A s9.heap s9.heap [] := va_S.rf
  have hl : lv_has ls 3 [(0, .ref q), (1, .int k)] := hl
  refine lv_aload_n hx hb dL_order_0 rfl (lv_at hl 0 rfl) ?_
  refine lv_iload_n hx hb dL_order_1 rfl (lv_at hl 1 rfl) ?_
  refine callT (As := [.int k]) (rest := []) (ci := 7) (N := 5) (T := TX7) (q0 := 0) C9 (mX7_order_T1 l D G hlt q K.1 K.2.1 K.2.2.1 K.2.2.2.1 K.2.2.2.2.1 S.x S.y S.p k hbad) rfl hS hP hD [0, 1, 2, 3, 4, 5, 6] rfl (by decide) rfl rfl ys_X7_order kw_15_16 kw_15_17 kw_15_18 ⟨Nat.le_of_ble_eq_true rfl, Nat.le_of_ble_eq_true rfl⟩ hl.1 (Nat.le_of_ble_eq_true rfl) dL_order_2 rfl rfl ⟨by decide, by decide⟩ (fun ce q9 H locs hP hD hS hce hcv hcl => ?_)
  have hP : va_P D vwCl (OW G q K S C) H := hP
  refine vx_catch (name := "java/lang/IndexOutOfBoundsException") hown [] ⟨0, 5, 6, 21⟩ [] htab (fun z h9 => absurd h9 List.not_mem_nil) (by decide) (by decide) (hts _ kw_12_14) (va_Nw.use (isNw_ot (List.all_eq_true.mp nwl_is _ nw_36)) (hAm.2.1 _ nw_36)) hce hcv hcl ?_
  refine lv_astore_n (lv' := [(2, .ref q9), (0, .ref q), (1, .int k)]) hx hb dL_order_6 rfl hl (by decide) rfl (fun ls hl => ?_)
  refine lv_bipush (v := (-2)) hx hb dL_order_7 (by decide) ?_
  exact endI C9 rfl () rfl hS hP dL_order_9
set_option maxHeartbeats 800000 in
set_option maxRecDepth 100000 in
theorem mL_setLimit_T1 (l : Launch) (D : va_G) (G : u_G) (q : Nat) (K : AD) (S : AS) (C : SC) (hlt : l.stackTraces = false) (k : Int32) (hbad : k < 1 ∨ ¬ k ≤ 5000) : MtW l D G yL_setLimit cL_setLimit 3 [(0, 5, 6, 15)] 7 1 6 [.ref q, .int k] (OW G q K S C) (fun (r : Int32) (_ : Unit) => r = (-2)) (fun (_ : Unit) => OW G q K S C) := by
  refine MtW.of (by decide) (Nat.le_of_ble_eq_true rfl) ?_
  intro pr e s9 m9 below meth c9 A ls C9 hP hD hl htab
  obtain ⟨hx, hb, hml, hown, hts, hr, hlocks, hA, hAm⟩ := id C9
  have hS : va_S A s9.heap s9.heap [] := va_S.rf
  have hl : lv_has ls 3 [(0, .ref q), (1, .int k)] := hl
  refine lv_aload_n hx hb dL_setLimit_0 rfl (lv_at hl 0 rfl) ?_
  refine lv_iload_n hx hb dL_setLimit_1 rfl (lv_at hl 1 rfl) ?_
  refine callT (As := [.int k]) (rest := []) (ci := 7) (N := 5) (T := TX7) (q0 := 0) C9 (mX7_setLimit_T1 l D G hlt q K.1 K.2.1 K.2.2.1 K.2.2.2.1 K.2.2.2.2.1 S.x S.y S.p k hbad) rfl hS hP hD [0, 1, 2, 3, 4, 5, 6] rfl (by decide) rfl rfl ys_X7_setLimit kw_19_18 kw_19_19 kw_19_20 ⟨Nat.le_of_ble_eq_true rfl, Nat.le_of_ble_eq_true rfl⟩ hl.1 (Nat.le_of_ble_eq_true rfl) dL_setLimit_2 rfl rfl ⟨by decide, by decide⟩ (fun ce q9 H locs hP hD hS hce hcv hcl => ?_)
  have hP : va_P D vwCl (OW G q K S C) H := hP
  refine vx_catch (name := "java/lang/IllegalArgumentException") hown [] ⟨0, 5, 6, 15⟩ [] htab (fun z h9 => absurd h9 List.not_mem_nil) (by decide) (by decide) (hts _ kw_11_12) (va_Nw.use (isNw_ot (List.all_eq_true.mp nwl_is _ nw_35)) (hAm.2.1 _ nw_35)) hce hcv hcl ?_
  refine lv_astore_n (lv' := [(2, .ref q9), (0, .ref q), (1, .int k)]) hx hb dL_setLimit_6 rfl hl (by decide) rfl (fun ls hl => ?_)
  refine lv_bipush (v := (-2)) hx hb dL_setLimit_7 (by decide) ?_
  exact endI C9 rfl () rfl hS hP dL_setLimit_9
set_option maxHeartbeats 800000 in
set_option maxRecDepth 100000 in
theorem mL_nodesWith_T1 (l : Launch) (D : va_G) (G : u_G) (q : Nat) (K : AD) (S : AS) (C : SC) (hlt : l.stackTraces = false) (k : Int32) (hbad : ¬ (¬ k < 0 ∧ ¬ 24 ≤ k)) : MtW l D G yL_nodesWith cL_nodesWith 3 [(0, 5, 6, 15)] 7 1 6 [.ref q, .int k] (OW G q K S C) (fun (r : Int32) (_ : Unit) => r = (-2)) (fun (_ : Unit) => OW G q K S C) := by
  refine MtW.of (by decide) (Nat.le_of_ble_eq_true rfl) ?_
  intro pr e s9 m9 below meth c9 A ls C9 hP hD hl htab
  obtain ⟨hx, hb, hml, hown, hts, hr, hlocks, hA, hAm⟩ := id C9
  have hS : va_S A s9.heap s9.heap [] := va_S.rf
  have hl : lv_has ls 3 [(0, .ref q), (1, .int k)] := hl
  refine lv_aload_n hx hb dL_nodesWith_0 rfl (lv_at hl 0 rfl) ?_
  refine lv_iload_n hx hb dL_nodesWith_1 rfl (lv_at hl 1 rfl) ?_
  refine callT (As := [.int k]) (rest := []) (ci := 7) (N := 5) (T := TX7) (q0 := 0) C9 (mX7_nodesWith_T1 l D G hlt q K.1 K.2.1 K.2.2.1 K.2.2.2.1 K.2.2.2.2.1 S.x S.y S.p k hbad) rfl hS hP hD [0, 1, 2, 3, 4, 5, 6] rfl (by decide) rfl rfl ys_X7_nodesWith kw_11_13 kw_11_14 kw_11_15 ⟨Nat.le_of_ble_eq_true rfl, Nat.le_of_ble_eq_true rfl⟩ hl.1 (Nat.le_of_ble_eq_true rfl) dL_nodesWith_2 rfl rfl ⟨by decide, by decide⟩ (fun ce q9 H locs hP hD hS hce hcv hcl => ?_)
  have hP : va_P D vwCl (OW G q K S C) H := hP
  refine vx_catch (name := "java/lang/IllegalArgumentException") hown [] ⟨0, 5, 6, 15⟩ [] htab (fun z h9 => absurd h9 List.not_mem_nil) (by decide) (by decide) (hts _ kw_11_12) (va_Nw.use (isNw_ot (List.all_eq_true.mp nwl_is _ nw_35)) (hAm.2.1 _ nw_35)) hce hcv hcl ?_
  refine lv_astore_n (lv' := [(2, .ref q9), (0, .ref q), (1, .int k)]) hx hb dL_nodesWith_6 rfl hl (by decide) rfl (fun ls hl => ?_)
  refine lv_bipush (v := (-2)) hx hb dL_nodesWith_7 (by decide) ?_
  exact endI C9 rfl () rfl hS hP dL_nodesWith_9
set_option maxHeartbeats 800000 in
set_option maxRecDepth 100000 in
theorem mL_play_T2 (l : Launch) (D : va_G) (G : u_G) (q : Nat) (K : AD) (S : AS) (C : SC) (hlt : l.stackTraces = false) (m : Nat) (hm : m < 4) (hbad : ¬ tk m ≤ S.x 14) (hn : S.x 14 ≤ 12) : MtW l D G yL_play cL_play 3 [(0, 5, 6, 21), (0, 5, 10, 23)] 7 1 6 [.ref q, .int (nI m)] (OW G q K S C) (fun (r : Int32) (_ : Unit) => r = (-2)) (fun (_ : Unit) => OW G q K S C) := by
  refine MtW.of (by decide) (Nat.le_of_ble_eq_true rfl) ?_
  intro pr e s9 m9 below meth c9 A ls C9 hP hD hl htab
  obtain ⟨hx, hb, hml, hown, hts, hr, hlocks, hA, hAm⟩ := id C9
  have hS : va_S A s9.heap s9.heap [] := va_S.rf
  have hl : lv_has ls 3 [(0, .ref q), (1, .int (nI m))] := hl
  refine lv_aload_n hx hb dL_play_0 rfl (lv_at hl 0 rfl) ?_
  refine lv_iload_n hx hb dL_play_1 rfl (lv_at hl 1 rfl) ?_
  refine callT (As := [.int (nI m)]) (rest := []) (ci := 7) (N := 5) (T := TX7) (q0 := 0) C9 (mX7_play_T2 l D G hlt q K.1 K.2.1 K.2.2.1 K.2.2.2.1 K.2.2.2.2.1 S.x S.y S.p m hm hbad hn) rfl hS hP hD [0, 1, 2, 3, 4, 5, 6] rfl (by decide) rfl rfl ys_X7_play kw_18_17 kw_18_18 kw_18_19 ⟨Nat.le_of_ble_eq_true rfl, Nat.le_of_ble_eq_true rfl⟩ hl.1 (Nat.le_of_ble_eq_true rfl) dL_play_2 rfl rfl ⟨by decide, by decide⟩ (fun ce q9 H locs hP hD hS hce hcv hcl => ?_)
  have hP : va_P D vwCl (OW G q K S C) H := hP
  refine vx_catch (name := "java/lang/IllegalStateException") hown [⟨0, 5, 6, 21⟩] ⟨0, 5, 10, 23⟩ [] htab (fun z h9 => by rw [List.mem_singleton.mp h9]; exact Or.inr ⟨by decide, "java/lang/IndexOutOfBoundsException", hts _ kw_12_14, hAm.2.2.2.1.1⟩) (by decide) (by decide) (hts _ kw_5_3) (va_Nw.use (isNw_ot (List.all_eq_true.mp nwl_is _ nw_34)) (hAm.2.1 _ nw_34)) hce hcv hcl ?_
  refine lv_astore_n (lv' := [(2, .ref q9), (0, .ref q), (1, .int (nI m))]) hx hb dL_play_10 rfl hl (by decide) rfl (fun ls hl => ?_)
  refine lv_bipush (v := (-2)) hx hb dL_play_11 (by decide) ?_
  exact endI C9 rfl () rfl hS hP dL_play_13
