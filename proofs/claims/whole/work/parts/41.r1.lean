theorem ys_X8_in : YS yX8_in cX8_in 3 (some .boolean) 3 := ⟨kw_10_23, kw_1_5, by decide, by decide, by decide⟩
theorem ys_X8_isMove : YS yX8_isMove cX8_isMove 1 (some .boolean) 1 := ⟨kw_12_15, kw_1_5, by decide, by decide, by decide⟩
theorem ys_X8_takes : YS yX8_takes cX8_takes 1 (some .int) 1 := ⟨kw_12_18, kw_1_5, by decide, by decide, by decide⟩
theorem ys_X8_behind : YS yX8_behind cX8_behind 2 (some .int) 2 := ⟨kw_13_5, kw_1_5, by decide, by decide, by decide⟩
theorem ys_X8_place : YS yX8_place cX8_place 2 (some .int) 2 := ⟨kw_14_5, kw_1_5, by decide, by decide, by decide⟩
theorem ys_X8_entry : YS yX8_entry cX8_entry 2 (some .int) 2 := ⟨kw_21_21, kw_1_5, by decide, by decide, by decide⟩
theorem ys_X8_refused : YS yX8_refused cX8_refused 2 (some .boolean) 1 := ⟨kw_11_3, kw_1_5, by decide, by decide, by decide⟩
theorem ys_X8_thrown : YS yX8_thrown cX8_thrown 1 (some .int) 0 := ⟨kw_11_13, kw_1_5, by decide, by decide, by decide⟩
theorem ys_X8_coinsOf : YS yX8_coinsOf cX8_coinsOf 5 (some .int) 3 := ⟨kw_13_2, kw_1_5, by decide, by decide, by decide⟩
theorem ys_X8_resultIn : YS yX8_resultIn cX8_resultIn 4 (some .int) 3 := ⟨kw_14_13, kw_1_5, by decide, by decide, by decide⟩
theorem ys_X8_bestIn : YS yX8_bestIn cX8_bestIn 6 (some .int) 2 := ⟨kw_14_9, kw_1_5, by decide, by decide, by decide⟩
theorem ys_X8_fills : YS yX8_fills cX8_fills 3 none 0 := ⟨kw_14_2, kw_1_5, by decide, by decide, by decide⟩
set_option maxHeartbeats 800000 in
set_option maxRecDepth 100000 in
theorem mX8_in (l : Launch) (D : va_G) (G : u_G) (v lo hi : Int32) : MtI l D G yX8_in cX8_in 3 .boolean 1 0 0 [.int v, .int lo, .int hi] [] (fun (r : Int32) (_ : Unit) => r = bI (¬ v < lo ∧ ¬ hi < v)) (fun (_ : Unit) => []) := by
  refine MtI.of (by decide) (Nat.le_of_ble_eq_true rfl) ?_
  intro pr e s9 m9 below meth c9 A ls C hP hD hl
  obtain ⟨hx, hb, hml, hown, hts, hr, hlocks, hA, hAm⟩ := id C
  have hK := hAm.1
  have hS : va_S A s9.heap s9.heap [] := va_S.rf
  have hl : lv_has ls 3 [(0, .int v), (1, .int lo), (2, .int hi)] := hl
  refine lv_iload_n hx hb dX8_in_0 rfl (lv_at hl 0 rfl) ?_
  refine lv_iload_n hx hb dX8_in_1 rfl (lv_at hl 1 rfl) ?_
  refine lv_icmp_lt (tgt := 14) hx hb dX8_in_2 (by decide) (fun c_2 => ?_) (fun c_2 => ?_)
  · refine lv_iconst (v := 0) hx hb dX8_in_14 (by decide) ?_
    exact endI C rfl () (by simp [bI, c_2]) hS hP dX8_in_15
  · refine lv_iload_n hx hb dX8_in_5 rfl (lv_at hl 0 rfl) ?_
    refine lv_iload_n hx hb dX8_in_6 rfl (lv_at hl 2 rfl) ?_
    refine lv_icmp_gt (tgt := 14) hx hb dX8_in_7 (by decide) (fun c_7 => ?_) (fun c_7 => ?_)
    · refine lv_iconst (v := 0) hx hb dX8_in_14 (by decide) ?_
      exact endI C rfl () (by simp [bI, c_2, c_7]) hS hP dX8_in_15
    · refine lv_iconst (v := 1) hx hb dX8_in_10 (by decide) ?_
      refine lv_goto (tgt := 15) hx hb dX8_in_11 (by decide) ?_
      exact endI C rfl () (by simp [bI, c_2, c_7]) hS hP dX8_in_15
set_option maxHeartbeats 800000 in
set_option maxRecDepth 100000 in
theorem mX8_isMove (l : Launch) (D : va_G) (G : u_G) (v : Int32) : MtI l D G yX8_isMove cX8_isMove 1 .boolean 2 0 0 [.int v] [] (fun (r : Int32) (_ : Unit) => r = bI (¬ v < 0 ∧ ¬ 3 < v)) (fun (_ : Unit) => []) := by
  refine MtI.of (by decide) (Nat.le_of_ble_eq_true rfl) ?_
  intro pr e s9 m9 below meth c9 A ls C hP hD hl
  obtain ⟨hx, hb, hml, hown, hts, hr, hlocks, hA, hAm⟩ := id C
  have hK := hAm.1
  have hS : va_S A s9.heap s9.heap [] := va_S.rf
  have hl : lv_has ls 1 [(0, .int v)] := hl
  refine lv_iload_n hx hb dX8_isMove_0 rfl (lv_at hl 0 rfl) ?_
  refine lv_iconst (v := 0) hx hb dX8_isMove_1 (by decide) ?_
  refine lv_iconst (v := 3) hx hb dX8_isMove_2 (by decide) ?_
  refine aftI0 C (runS_G (As := [.int v, .int 0, .int 3]) (rest := []) C (mX8_in l D G v 0 3 ) hS hP hD [] rfl (by decide) (ys_X8_in) kw_10_21 kw_10_22 ⟨Nat.le_of_ble_eq_true rfl, Nat.le_of_ble_eq_true rfl⟩ hl.1 (Nat.le_of_ble_eq_true rfl) dX8_isMove_3 rfl rfl ⟨Nat.zero_le _, Nat.zero_le _⟩) hS hP hD [] rfl (fun r3 _ H locs hp3 hP hS => ?_)
  refine ro_top (z := bI (¬ v < 0 ∧ ¬ 3 < v)) hx hp3 ?_
  exact endI C bI_nar () rfl hS hP dX8_isMove_6
set_option maxHeartbeats 800000 in
set_option maxRecDepth 100000 in
theorem mX8_takes (l : Launch) (D : va_G) (G : u_G) (m : Nat) (hm : m < 4) : MtI l D G yX8_takes cX8_takes 1 .int 1 0 0 [.int (nI m)] [] (fun (r : Int32) (_ : Unit) => r = nI (tk m)) (fun (_ : Unit) => []) := by
  refine MtI.of (by decide) (Nat.le_of_ble_eq_true rfl) ?_
  intro pr e s9 m9 below meth c9 A ls C hP hD hl
  obtain ⟨hx, hb, hml, hown, hts, hr, hlocks, hA, hAm⟩ := id C
  have hK := hAm.1
  have hS : va_S A s9.heap s9.heap [] := va_S.rf
  have hl : lv_has ls 1 [(0, .int (nI m))] := hl
  refine lv_iload_n hx hb dX8_takes_0 rfl (lv_at hl 0 rfl) ?_
  refine lv_iconst (v := 2) hx hb dX8_takes_1 (by decide) ?_
  refine ro_irem (z := nI (m % 2)) hx hb (by decide) (pk_rem (a := m) (d := 2) (by omega) (by decide) (by decide)) dX8_takes_2 ?_
  refine lv_if_ne (tgt := 10) hx hb dX8_takes_3 (by decide) (fun c_3 => ?_) (fun c_3 => ?_)
  · have c_3 := neq_f (a := m % 2) (b := 0) (by omega) (by omega) c_3
    refine lv_iconst (v := 2) hx hb dX8_takes_10 (by decide) ?_
    exact endI C rfl () (congrArg nI (by unfold tk; first | rw [if_pos (by omega)] | rw [if_neg (by omega)])) hS hP dX8_takes_11
  · have c_3 := neq_t (a := m % 2) (b := 0) (by omega) (by omega) c_3
    refine lv_iconst (v := 1) hx hb dX8_takes_6 (by decide) ?_
    refine lv_goto (tgt := 11) hx hb dX8_takes_7 (by decide) ?_
    exact endI C rfl () (congrArg nI (by unfold tk; first | rw [if_pos (by omega)] | rw [if_neg (by omega)])) hS hP dX8_takes_11
set_option maxHeartbeats 800000 in
set_option maxRecDepth 100000 in
theorem mX8_behind (l : Launch) (D : va_G) (G : u_G) (f m : Nat) (hm : m < 4) (hf : f ≤ 12) : MtI l D G yX8_behind cX8_behind 2 .int 2 0 0 [.int (nI f), .int (nI m)] [] (fun (r : Int32) (_ : Unit) => r = nI (bh f m)) (fun (_ : Unit) => []) := by
  refine MtI.of (by decide) (Nat.le_of_ble_eq_true rfl) ?_
  intro pr e s9 m9 below meth c9 A ls C hP hD hl
  obtain ⟨hx, hb, hml, hown, hts, hr, hlocks, hA, hAm⟩ := id C
  have hK := hAm.1
  have hS : va_S A s9.heap s9.heap [] := va_S.rf
  have hl : lv_has ls 2 [(0, .int (nI f)), (1, .int (nI m))] := hl
  refine lv_iload_n hx hb dX8_behind_0 rfl (lv_at hl 1 rfl) ?_
  refine lv_iconst (v := 2) hx hb dX8_behind_1 (by decide) ?_
  refine lv_icmp_ge (tgt := 14) hx hb dX8_behind_2 (by decide) (fun c_2 => ?_) (fun c_2 => ?_)
  · have c_2 := nle_t (a := 2) (b := m) (by omega) (by omega) c_2
    refine lv_iload_n hx hb dX8_behind_14 rfl (lv_at hl 0 rfl) ?_
    exact endI C rfl () (congrArg nI (by simp only [bh]; first | rw [if_pos (by omega)] | rw [if_neg (by omega)])) hS hP dX8_behind_15
  · have c_2 := nle_f (a := 2) (b := m) (by omega) (by omega) c_2
    refine lv_iload_n hx hb dX8_behind_5 rfl (lv_at hl 0 rfl) ?_
    refine lv_iload_n hx hb dX8_behind_6 rfl (lv_at hl 1 rfl) ?_
    refine aftI0 C (runS_G (As := [.int (nI m)]) (rest := [.int (nI f)]) C (mX8_takes l D G m (by omega)) hS hP hD [] rfl (by decide) (ys_X8_takes) kw_12_16 kw_12_17 ⟨Nat.le_of_ble_eq_true rfl, Nat.le_of_ble_eq_true rfl⟩ hl.1 (Nat.le_of_ble_eq_true rfl) dX8_behind_7 rfl rfl ⟨Nat.zero_le _, Nat.zero_le _⟩) hS hP hD [] rfl (fun r7 _ H locs hp7 hP hS => ?_)
    refine ro_top (z := nI (tk m)) hx hp7 ?_
    refine ro_iadd (z := nI (f + tk m)) hx hb (nI_add f (tk m)) dX8_behind_10 ?_
    refine lv_goto (tgt := 15) hx hb dX8_behind_11 (by decide) ?_
    exact endI C rfl () (congrArg nI (by simp only [bh]; first | rw [if_pos (by omega)] | rw [if_neg (by omega)])) hS hP dX8_behind_15
set_option maxHeartbeats 800000 in
set_option maxRecDepth 100000 in
theorem mX8_place (l : Launch) (D : va_G) (G : u_G) (f n : Nat) : MtI l D G yX8_place cX8_place 2 .int 1 0 0 [.int (nI f), .int (nI n)] [] (fun (r : Int32) (_ : Unit) => r = nI (13 * f + n)) (fun (_ : Unit) => []) := by
  refine MtI.of (by decide) (Nat.le_of_ble_eq_true rfl) ?_
  intro pr e s9 m9 below meth c9 A ls C hP hD hl
  obtain ⟨hx, hb, hml, hown, hts, hr, hlocks, hA, hAm⟩ := id C
  have hK := hAm.1
  have hS : va_S A s9.heap s9.heap [] := va_S.rf
  have hl : lv_has ls 2 [(0, .int (nI f)), (1, .int (nI n))] := hl
  refine lv_bipush (v := 13) hx hb dX8_place_0 (by decide) ?_
  refine lv_iload_n hx hb dX8_place_2 rfl (lv_at hl 0 rfl) ?_
  refine ro_imul (z := nI (13 * f)) hx hb (pk_mul 13 f) dX8_place_3 ?_
  refine lv_iload_n hx hb dX8_place_4 rfl (lv_at hl 1 rfl) ?_
  refine ro_iadd (z := nI (13 * f + n)) hx hb (nI_add (13 * f) n) dX8_place_5 ?_
  exact endI C rfl () rfl hS hP dX8_place_6
set_option maxHeartbeats 800000 in
set_option maxRecDepth 100000 in
theorem mX8_entry (l : Launch) (D : va_G) (G : u_G) (f n : Nat) (hn : 1 ≤ n) : MtI l D G yX8_entry cX8_entry 2 .int 1 0 0 [.int (nI f), .int (nI n)] [] (fun (r : Int32) (_ : Unit) => r = nI (f * 12 + n - 1)) (fun (_ : Unit) => []) := by
  refine MtI.of (by decide) (Nat.le_of_ble_eq_true rfl) ?_
  intro pr e s9 m9 below meth c9 A ls C hP hD hl
  obtain ⟨hx, hb, hml, hown, hts, hr, hlocks, hA, hAm⟩ := id C
  have hK := hAm.1
  have hS : va_S A s9.heap s9.heap [] := va_S.rf
  have hl : lv_has ls 2 [(0, .int (nI f)), (1, .int (nI n))] := hl
  refine lv_bipush (v := 12) hx hb dX8_entry_0 (by decide) ?_
  refine lv_iload_n hx hb dX8_entry_2 rfl (lv_at hl 0 rfl) ?_
  refine ro_imul (z := nI (12 * f)) hx hb (pk_mul 12 f) dX8_entry_3 ?_
  refine lv_iload_n hx hb dX8_entry_4 rfl (lv_at hl 1 rfl) ?_
  refine ro_iadd (z := nI (12 * f + n)) hx hb (nI_add (12 * f) n) dX8_entry_5 ?_
  refine lv_iconst (v := 1) hx hb dX8_entry_6 (by decide) ?_
  refine ro_isub (z := nI (12 * f + n - 1)) hx hb (pk_sub (a := 12 * f + n) (b := 1) (by omega)) dX8_entry_7 ?_
  exact endI C rfl () (by rw [Nat.mul_comm 12 f]) hS hP dX8_entry_8
set_option maxHeartbeats 800000 in
set_option maxRecDepth 100000 in
theorem mX8_refused (l : Launch) (D : va_G) (G : u_G) (q : Nat) (ma : Nat → Nat) (sN L : Nat) (th nd ct ht sp iw mn : Int32) (k : Nat) (hk : k < 3) : MtI l D G yX8_refused cX8_refused 2 .boolean 1 0 0 [.ref q, .int (nI k)] [(q, .inr (8, [.ref (ma 0), .ref (ma 1), .int (nI sN), .ref (ma 2), .int (nI L), .int th, .ref (ma 3), .ref (ma 4), .ref (ma 5), .ref (ma 6), .int nd, .int ct, .int ht, .ref (ma 7), .ref (ma 8), .ref (ma 9), .ref (ma 10), .ref (ma 11), .ref (ma 12), .ref (ma 13), .ref (ma 14), .int sp, .int iw, .int mn]))] (fun (r : Int32) (_ : Unit) => r = bI (0 < k)) (fun (_ : Unit) => [(q, .inr (8, [.ref (ma 0), .ref (ma 1), .int (nI sN), .ref (ma 2), .int (nI L), .int (nI k), .ref (ma 3), .ref (ma 4), .ref (ma 5), .ref (ma 6), .int nd, .int ct, .int ht, .ref (ma 7), .ref (ma 8), .ref (ma 9), .ref (ma 10), .ref (ma 11), .ref (ma 12), .ref (ma 13), .ref (ma 14), .int sp, .int iw, .int mn]))]) := by
  refine MtI.of (by decide) (Nat.le_of_ble_eq_true rfl) ?_
  intro pr e s9 m9 below meth c9 A ls C hP hD hl
  obtain ⟨hx, hb, hml, hown, hts, hr, hlocks, hA, hAm⟩ := id C
  have hK := hAm.1
  have hS : va_S A s9.heap s9.heap [] := va_S.rf
  have hl : lv_has ls 2 [(0, .ref q), (1, .int (nI k))] := hl
  refine lv_aload_n hx hb dX8_refused_0 rfl (lv_at hl 0 rfl) ?_
  refine lv_iload_n hx hb dX8_refused_1 rfl (lv_at hl 1 rfl) ?_
  refine va_put (D := D) (ci := 8) (v := .int (nI k)) (ty := .int) (C := RX8) (T := TX8) (N := 24) hx hb hts inlX8 tyX8 tyX8_ok nmX8 hown hK hP hD hS 0 rfl rfl 5 (by decide) (hts _ kw_11_4) (fun _ h9 => h9) rfl (by decide +kernel) rfl rfl (Nat.le_of_ble_eq_true rfl) dX8_refused_2 (fun H locs hP hD hS => ?_)
  have hP : va_P D vwCl [(q, .inr (8, [.ref (ma 0), .ref (ma 1), .int (nI sN), .ref (ma 2), .int (nI L), .int (nI k), .ref (ma 3), .ref (ma 4), .ref (ma 5), .ref (ma 6), .int nd, .int ct, .int ht, .ref (ma 7), .ref (ma 8), .ref (ma 9), .ref (ma 10), .ref (ma 11), .ref (ma 12), .ref (ma 13), .ref (ma 14), .int sp, .int iw, .int mn]))] H := hP
  have hD : va_D A [(q, .inr (8, [.ref (ma 0), .ref (ma 1), .int (nI sN), .ref (ma 2), .int (nI L), .int (nI k), .ref (ma 3), .ref (ma 4), .ref (ma 5), .ref (ma 6), .int nd, .int ct, .int ht, .ref (ma 7), .ref (ma 8), .ref (ma 9), .ref (ma 10), .ref (ma 11), .ref (ma 12), .ref (ma 13), .ref (ma 14), .int sp, .int iw, .int mn]))] := hD
  refine lv_iload_n hx hb dX8_refused_5 rfl (lv_at hl 1 rfl) ?_
  refine lv_if_le (tgt := 13) hx hb dX8_refused_6 (by decide) (fun c_6 => ?_) (fun c_6 => ?_)
  · have c_6 := nle_t (a := k) (b := 0) (by omega) (by omega) c_6
    refine lv_iconst (v := 0) hx hb dX8_refused_13 (by decide) ?_
    exact endI C rfl () (by first | exact (bI_t (by omega)).symm | exact (bI_f (by omega)).symm) hS hP dX8_refused_14
  · have c_6 := nle_f (a := k) (b := 0) (by omega) (by omega) c_6
    refine lv_iconst (v := 1) hx hb dX8_refused_9 (by decide) ?_
    refine lv_goto (tgt := 14) hx hb dX8_refused_10 (by decide) ?_
    exact endI C rfl () (by first | exact (bI_t (by omega)).symm | exact (bI_f (by omega)).symm) hS hP dX8_refused_14
set_option maxHeartbeats 800000 in
set_option maxRecDepth 100000 in
theorem mX8_thrown (l : Launch) (D : va_G) (G : u_G) (q : Nat) (ma : Nat → Nat) (sN L : Nat) (th nd ct ht sp iw mn : Int32)  : MtI l D G yX8_thrown cX8_thrown 1 .int 1 0 0 [.ref q] [(q, .inr (8, [.ref (ma 0), .ref (ma 1), .int (nI sN), .ref (ma 2), .int (nI L), .int th, .ref (ma 3), .ref (ma 4), .ref (ma 5), .ref (ma 6), .int nd, .int ct, .int ht, .ref (ma 7), .ref (ma 8), .ref (ma 9), .ref (ma 10), .ref (ma 11), .ref (ma 12), .ref (ma 13), .ref (ma 14), .int sp, .int iw, .int mn]))] (fun (r : Int32) (_ : Unit) => r = th) (fun (_ : Unit) => [(q, .inr (8, [.ref (ma 0), .ref (ma 1), .int (nI sN), .ref (ma 2), .int (nI L), .int th, .ref (ma 3), .ref (ma 4), .ref (ma 5), .ref (ma 6), .int nd, .int ct, .int ht, .ref (ma 7), .ref (ma 8), .ref (ma 9), .ref (ma 10), .ref (ma 11), .ref (ma 12), .ref (ma 13), .ref (ma 14), .int sp, .int iw, .int mn]))]) := by
  refine MtI.of (by decide) (Nat.le_of_ble_eq_true rfl) ?_
  intro pr e s9 m9 below meth c9 A ls C hP hD hl
  obtain ⟨hx, hb, hml, hown, hts, hr, hlocks, hA, hAm⟩ := id C
  have hK := hAm.1
  have hS : va_S A s9.heap s9.heap [] := va_S.rf
  have hl : lv_has ls 1 [(0, .ref q)] := hl
  refine lv_aload_n hx hb dX8_thrown_0 rfl (lv_at hl 0 rfl) ?_
  refine va_get (D := D) (ci := 8) (v := .int th) (C := RX8) (T := TX8) (N := 24) hx hb hts inlX8 hown hK hP 0 rfl rfl 5 (by decide) (hts _ kw_11_4) (fun _ h9 => h9) rfl dX8_thrown_1 ?_
  exact endI C rfl () rfl hS hP dX8_thrown_4
set_option maxHeartbeats 800000 in
set_option maxRecDepth 100000 in
theorem mX8_coinsOf (l : Launch) (D : va_G) (G : u_G) (q : Nat) (ma : Nat → Nat) (sN L : Nat) (th nd ct ht sp iw mn : Int32) (sr p : Nat → Int32) (M : Nat) (f n m : Nat) (hm : m < 4) (hmn : tk m ≤ n) (hfn : f + n ≤ M) (hM : M ≤ 12) (hpp : ∀ k, k < M → sr (1 + k) = p k) : MtI l D G yX8_coinsOf cX8_coinsOf 5 .int 2 0 0 [.ref q, .int (nI f), .int (nI n), .int (nI m)] [(q, .inr (8, [.ref (ma 0), .ref (ma 1), .int (nI sN), .ref (ma 2), .int (nI L), .int th, .ref (ma 3), .ref (ma 4), .ref (ma 5), .ref (ma 6), .int nd, .int ct, .int ht, .ref (ma 7), .ref (ma 8), .ref (ma 9), .ref (ma 10), .ref (ma 11), .ref (ma 12), .ref (ma 13), .ref (ma 14), .int sp, .int iw, .int mn])), (ma 0, .inl (G.1, 457, .inl sr))] (fun (r : Int32) (_ : Unit) => r = cn p f n m) (fun (_ : Unit) => [(q, .inr (8, [.ref (ma 0), .ref (ma 1), .int (nI sN), .ref (ma 2), .int (nI L), .int th, .ref (ma 3), .ref (ma 4), .ref (ma 5), .ref (ma 6), .int nd, .int ct, .int ht, .ref (ma 7), .ref (ma 8), .ref (ma 9), .ref (ma 10), .ref (ma 11), .ref (ma 12), .ref (ma 13), .ref (ma 14), .int sp, .int iw, .int mn])), (ma 0, .inl (G.1, 457, .inl sr))]) := by
  refine MtI.of (by decide) (Nat.le_of_ble_eq_true rfl) ?_
  intro pr e s9 m9 below meth c9 A ls C hP hD hl
  obtain ⟨hx, hb, hml, hown, hts, hr, hlocks, hA, hAm⟩ := id C
  have hK := hAm.1
  have hS : va_S A s9.heap s9.heap [] := va_S.rf
  have hl : lv_has ls 5 [(0, .ref q), (1, .int (nI f)), (2, .int (nI n)), (3, .int (nI m))] := hl
  have t1 := tk_pos m
  refine lv_iload_n hx hb dX8_coinsOf_0 rfl (lv_at hl 3 rfl) ?_
  refine lv_iconst (v := 2) hx hb dX8_coinsOf_1 (by decide) ?_
  refine lv_icmp_ge (tgt := 9) hx hb dX8_coinsOf_2 (by decide) (fun c_2 => ?_) (fun c_2 => ?_)
  · have c_2 := nle_t (a := 2) (b := m) (by omega) (by omega) c_2
    refine lv_iload_n hx hb dX8_coinsOf_9 rfl (lv_at hl 1 rfl) ?_
    refine lv_iload_n hx hb dX8_coinsOf_10 rfl (lv_at hl 2 rfl) ?_
    refine ro_iadd (z := nI (f + n)) hx hb (nI_add f n) dX8_coinsOf_11 ?_
    refine lv_iload_n hx hb dX8_coinsOf_12 rfl (lv_at hl 3 rfl) ?_
    refine aftI0 C (runS_G (As := [.int (nI m)]) (rest := [.int (nI (f + n))]) C (mX8_takes l D G m (by omega)) hS hP hD [] rfl (by decide) (ys_X8_takes) kw_12_16 kw_12_17 ⟨Nat.le_of_ble_eq_true rfl, Nat.le_of_ble_eq_true rfl⟩ hl.1 (Nat.le_of_ble_eq_true rfl) dX8_coinsOf_13 rfl rfl ⟨Nat.zero_le _, Nat.zero_le _⟩) hS hP hD [] rfl (fun r13 _ H locs hp13 hP hS => ?_)
    refine ro_top (z := nI (tk m)) hx hp13 ?_
    refine ro_isub (z := nI (f + n - (tk m))) hx hb (pk_sub (a := f + n) (b := tk m) (by omega)) dX8_coinsOf_16 ?_
    refine lv_istore (lv' := [(4, .int (nI (f + n - (tk m)))), (0, .ref q), (1, .int (nI f)), (2, .int (nI n)), (3, .int (nI m))]) hx hb dX8_coinsOf_17 hl (by decide) rfl (fun ls hl => ?_)
    refine lv_aload_n hx hb dX8_coinsOf_19 rfl (lv_at hl 1 rfl) ?_
    refine va_get (D := D) (ci := 8) (v := .ref (ma 0)) (C := RX8) (T := TX8) (N := 24) hx hb hts inlX8 hown hK hP 0 rfl rfl 0 (by decide) (hts _ kw_5_6) (fun _ h9 => h9) rfl dX8_coinsOf_20 ?_
    refine lv_iconst (v := 1) hx hb dX8_coinsOf_23 (by decide) ?_
    refine lv_iload hx hb dX8_coinsOf_24 (lv_at hl 0 rfl) ?_
    refine ro_iadd (z := nI (1 + (f + n - (tk m)))) hx hb (nI_add 1 (f + n - (tk m))) dX8_coinsOf_26 ?_
    refine ro_iald (k := 1 + (f + n - (tk m))) (v := p (f + n - (tk m))) hx hb hK hP 1 0 rfl rfl rfl (by omega) (by decide) (hpp _ (by omega)) dX8_coinsOf_27 ?_
    refine lv_iload_n hx hb dX8_coinsOf_28 rfl (lv_at hl 4 rfl) ?_
    refine lv_iconst (v := 2) hx hb dX8_coinsOf_29 (by decide) ?_
    refine ro_irem (z := nI (m % 2)) hx hb (by decide) (pk_rem (a := m) (d := 2) (by omega) (by decide) (by decide)) dX8_coinsOf_30 ?_
    refine lv_if_ne (tgt := 38) hx hb dX8_coinsOf_31 (by decide) (fun c_31 => ?_) (fun c_31 => ?_)
    · have c_31 := neq_f (a := m % 2) (b := 0) (by omega) (by omega) c_31
      refine lv_aload_n hx hb dX8_coinsOf_38 rfl (lv_at hl 1 rfl) ?_
      refine va_get (D := D) (ci := 8) (v := .ref (ma 0)) (C := RX8) (T := TX8) (N := 24) hx hb hts inlX8 hown hK hP 0 rfl rfl 0 (by decide) (hts _ kw_5_6) (fun _ h9 => h9) rfl dX8_coinsOf_39 ?_
      refine lv_iconst (v := 1) hx hb dX8_coinsOf_42 (by decide) ?_
      refine lv_iload hx hb dX8_coinsOf_43 (lv_at hl 0 rfl) ?_
      refine ro_iadd (z := nI (1 + (f + n - (tk m)))) hx hb (nI_add 1 (f + n - (tk m))) dX8_coinsOf_45 ?_
      refine lv_iconst (v := 1) hx hb dX8_coinsOf_46 (by decide) ?_
      refine ro_iadd (z := nI (1 + (f + n - (tk m)) + 1)) hx hb (nI_add (1 + (f + n - (tk m))) 1) dX8_coinsOf_47 ?_
      refine ro_iald (k := 1 + (f + n - (tk m)) + 1) (v := p ((f + n - (tk m)) + 1)) hx hb hK hP 1 0 rfl rfl rfl (by omega) (by decide) ((congrArg sr (by omega)).trans (hpp ((f + n - (tk m)) + 1) (by have h9 : tk m = 2 := (by unfold tk; rw [if_neg c_31]); omega))) dX8_coinsOf_48 ?_
      refine lv_iadd hx hb dX8_coinsOf_49 ?_
      exact endI C rfl () (by obtain rfl : m = 3 := (by omega); exact (congrArg (fun z => p (f + n - 2) + p z) (show f + n - 2 + 1 = f + n - 1 by have h9 : 2 ≤ n := hmn; omega)).trans (Int32.add_comm _ _)) hS hP dX8_coinsOf_50
    · have c_31 := neq_t (a := m % 2) (b := 0) (by omega) (by omega) c_31
      refine lv_iconst (v := 0) hx hb dX8_coinsOf_34 (by decide) ?_
      refine lv_goto (tgt := 49) hx hb dX8_coinsOf_35 (by decide) ?_
      refine lv_iadd hx hb dX8_coinsOf_49 ?_
      exact endI C rfl () (by obtain rfl : m = 2 := (by omega); exact Int32.add_zero _) hS hP dX8_coinsOf_50
  · have c_2 := nle_f (a := 2) (b := m) (by omega) (by omega) c_2
    refine lv_iload_n hx hb dX8_coinsOf_5 rfl (lv_at hl 1 rfl) ?_
    refine lv_goto (tgt := 17) hx hb dX8_coinsOf_6 (by decide) ?_
    refine lv_istore (lv' := [(4, .int (nI f)), (0, .ref q), (1, .int (nI f)), (2, .int (nI n)), (3, .int (nI m))]) hx hb dX8_coinsOf_17 hl (by decide) rfl (fun ls hl => ?_)
    refine lv_aload_n hx hb dX8_coinsOf_19 rfl (lv_at hl 1 rfl) ?_
    refine va_get (D := D) (ci := 8) (v := .ref (ma 0)) (C := RX8) (T := TX8) (N := 24) hx hb hts inlX8 hown hK hP 0 rfl rfl 0 (by decide) (hts _ kw_5_6) (fun _ h9 => h9) rfl dX8_coinsOf_20 ?_
    refine lv_iconst (v := 1) hx hb dX8_coinsOf_23 (by decide) ?_
    refine lv_iload hx hb dX8_coinsOf_24 (lv_at hl 0 rfl) ?_
    refine ro_iadd (z := nI (1 + f)) hx hb (nI_add 1 f) dX8_coinsOf_26 ?_
    refine ro_iald (k := 1 + f) (v := p f) hx hb hK hP 1 0 rfl rfl rfl (by omega) (by decide) (hpp _ (by omega)) dX8_coinsOf_27 ?_
    refine lv_iload_n hx hb dX8_coinsOf_28 rfl (lv_at hl 4 rfl) ?_
    refine lv_iconst (v := 2) hx hb dX8_coinsOf_29 (by decide) ?_
    refine ro_irem (z := nI (m % 2)) hx hb (by decide) (pk_rem (a := m) (d := 2) (by omega) (by decide) (by decide)) dX8_coinsOf_30 ?_
    refine lv_if_ne (tgt := 38) hx hb dX8_coinsOf_31 (by decide) (fun c_31 => ?_) (fun c_31 => ?_)
    · have c_31 := neq_f (a := m % 2) (b := 0) (by omega) (by omega) c_31
      refine lv_aload_n hx hb dX8_coinsOf_38 rfl (lv_at hl 1 rfl) ?_
      refine va_get (D := D) (ci := 8) (v := .ref (ma 0)) (C := RX8) (T := TX8) (N := 24) hx hb hts inlX8 hown hK hP 0 rfl rfl 0 (by decide) (hts _ kw_5_6) (fun _ h9 => h9) rfl dX8_coinsOf_39 ?_
      refine lv_iconst (v := 1) hx hb dX8_coinsOf_42 (by decide) ?_
      refine lv_iload hx hb dX8_coinsOf_43 (lv_at hl 0 rfl) ?_
      refine ro_iadd (z := nI (1 + f)) hx hb (nI_add 1 f) dX8_coinsOf_45 ?_
      refine lv_iconst (v := 1) hx hb dX8_coinsOf_46 (by decide) ?_
      refine ro_iadd (z := nI (1 + f + 1)) hx hb (nI_add (1 + f) 1) dX8_coinsOf_47 ?_
      refine ro_iald (k := 1 + f + 1) (v := p (f + 1)) hx hb hK hP 1 0 rfl rfl rfl (by omega) (by decide) ((congrArg sr (by omega)).trans (hpp (f + 1) (by have h9 : tk m = 2 := (by unfold tk; rw [if_neg c_31]); omega))) dX8_coinsOf_48 ?_
      refine lv_iadd hx hb dX8_coinsOf_49 ?_
      exact endI C rfl () (by obtain rfl : m = 1 := (by omega); rfl) hS hP dX8_coinsOf_50
    · have c_31 := neq_t (a := m % 2) (b := 0) (by omega) (by omega) c_31
      refine lv_iconst (v := 0) hx hb dX8_coinsOf_34 (by decide) ?_
      refine lv_goto (tgt := 49) hx hb dX8_coinsOf_35 (by decide) ?_
      refine lv_iadd hx hb dX8_coinsOf_49 ?_
      exact endI C rfl () (by obtain rfl : m = 0 := (by omega); exact Int32.add_zero _) hS hP dX8_coinsOf_50
set_option maxHeartbeats 800000 in
set_option maxRecDepth 100000 in
theorem mX8_resultIn (l : Launch) (D : va_G) (G : u_G) (q : Nat) (ma : Nat → Nat) (sN L : Nat) (th nd ct ht sp iw mn : Int32) (sr p : Nat → Int32) (M : Nat) (fl : Nat → Int32) (f n m : Nat) (hm : m < 4) (hmn : tk m ≤ n) (hfn : f + n ≤ M) (hM : M ≤ 12) (hpp : ∀ k, k < M → sr (1 + k) = p k) : MtI l D G yX8_resultIn cX8_resultIn 4 .int 3 0 0 [.ref q, .int (nI f), .int (nI n), .int (nI m)] [(q, .inr (8, [.ref (ma 0), .ref (ma 1), .int (nI sN), .ref (ma 2), .int (nI L), .int th, .ref (ma 3), .ref (ma 4), .ref (ma 5), .ref (ma 6), .int nd, .int ct, .int ht, .ref (ma 7), .ref (ma 8), .ref (ma 9), .ref (ma 10), .ref (ma 11), .ref (ma 12), .ref (ma 13), .ref (ma 14), .int sp, .int iw, .int mn])), (ma 0, .inl (G.1, 457, .inl sr)), (ma 3, .inl (G.1, 169, .inl fl))] (fun (r : Int32) (_ : Unit) => r = cn p f n m - fl (13 * bh f m + (n - tk m))) (fun (_ : Unit) => [(q, .inr (8, [.ref (ma 0), .ref (ma 1), .int (nI sN), .ref (ma 2), .int (nI L), .int th, .ref (ma 3), .ref (ma 4), .ref (ma 5), .ref (ma 6), .int nd, .int ct, .int ht, .ref (ma 7), .ref (ma 8), .ref (ma 9), .ref (ma 10), .ref (ma 11), .ref (ma 12), .ref (ma 13), .ref (ma 14), .int sp, .int iw, .int mn])), (ma 0, .inl (G.1, 457, .inl sr)), (ma 3, .inl (G.1, 169, .inl fl))]) := by
  refine MtI.of (by decide) (Nat.le_of_ble_eq_true rfl) ?_
  intro pr e s9 m9 below meth c9 A ls C hP hD hl
  obtain ⟨hx, hb, hml, hown, hts, hr, hlocks, hA, hAm⟩ := id C
  have hK := hAm.1
  have hS : va_S A s9.heap s9.heap [] := va_S.rf
  have hl : lv_has ls 4 [(0, .ref q), (1, .int (nI f)), (2, .int (nI n)), (3, .int (nI m))] := hl
  have t1 := tk_pos m
  have t2 := bh_le f m
  refine lv_aload_n hx hb dX8_resultIn_0 rfl (lv_at hl 0 rfl) ?_
  refine lv_iload_n hx hb dX8_resultIn_1 rfl (lv_at hl 1 rfl) ?_
  refine lv_iload_n hx hb dX8_resultIn_2 rfl (lv_at hl 2 rfl) ?_
  refine lv_iload_n hx hb dX8_resultIn_3 rfl (lv_at hl 3 rfl) ?_
  refine aftI0 C (runV_G (As := [.int (nI f), .int (nI n), .int (nI m)]) (rest := []) (ci := 8) (N := 24) (T := TX8) (q0 := 0) C (mX8_coinsOf l D G q ma sN L th nd ct ht sp iw mn sr p M f n m hm hmn hfn hM hpp) hS hP hD [0, 1] rfl (by decide) rfl rfl (ys_X8_coinsOf) kw_12_23 kw_13_0 kw_13_1 ⟨Nat.le_of_ble_eq_true rfl, Nat.le_of_ble_eq_true rfl⟩ hl.1 (Nat.le_of_ble_eq_true rfl) dX8_resultIn_4 rfl rfl ⟨Nat.zero_le _, Nat.zero_le _⟩) hS hP hD [0, 1] rfl (fun r4 _ H locs hp4 hP hS => ?_)
  refine ro_top (z := cn p f n m) hx hp4 ?_
  refine lv_aload_n hx hb dX8_resultIn_7 rfl (lv_at hl 0 rfl) ?_
  refine va_get (D := D) (ci := 8) (v := .ref (ma 3)) (C := RX8) (T := TX8) (N := 24) hx hb hts inlX8 hown hK hP 0 rfl rfl 6 (by decide) (hts _ kw_5_9) (fun _ h9 => h9) rfl dX8_resultIn_8 ?_
  refine lv_iload_n hx hb dX8_resultIn_11 rfl (lv_at hl 1 rfl) ?_
  refine lv_iload_n hx hb dX8_resultIn_12 rfl (lv_at hl 3 rfl) ?_
  refine aftI0 C (runS_G (As := [.int (nI f), .int (nI m)]) (rest := [.ref (ma 3), .int (cn p f n m)]) C (mX8_behind l D G f m (by omega) (by omega)) hS hP hD [] rfl (by decide) (ys_X8_behind) kw_13_3 kw_13_4 ⟨Nat.le_of_ble_eq_true rfl, Nat.le_of_ble_eq_true rfl⟩ hl.1 (Nat.le_of_ble_eq_true rfl) dX8_resultIn_13 rfl rfl ⟨Nat.zero_le _, Nat.zero_le _⟩) hS hP hD [] rfl (fun r13 _ H locs hp13 hP hS => ?_)
  refine ro_top (z := nI (bh f m)) hx hp13 ?_
  refine lv_iload_n hx hb dX8_resultIn_16 rfl (lv_at hl 2 rfl) ?_
  refine lv_iload_n hx hb dX8_resultIn_17 rfl (lv_at hl 3 rfl) ?_
  refine aftI0 C (runS_G (As := [.int (nI m)]) (rest := [.int (nI n), .int (nI (bh f m)), .ref (ma 3), .int (cn p f n m)]) C (mX8_takes l D G m (by omega)) hS hP hD [] rfl (by decide) (ys_X8_takes) kw_12_16 kw_12_17 ⟨Nat.le_of_ble_eq_true rfl, Nat.le_of_ble_eq_true rfl⟩ hl.1 (Nat.le_of_ble_eq_true rfl) dX8_resultIn_18 rfl rfl ⟨Nat.zero_le _, Nat.zero_le _⟩) hS hP hD [] rfl (fun r18 _ H locs hp18 hP hS => ?_)
  refine ro_top (z := nI (tk m)) hx hp18 ?_
  refine ro_isub (z := nI (n - (tk m))) hx hb (pk_sub (a := n) (b := tk m) (by omega)) dX8_resultIn_21 ?_
  refine aftI0 C (runS_G (As := [.int (nI (bh f m)), .int (nI (n - (tk m)))]) (rest := [.ref (ma 3), .int (cn p f n m)]) C (mX8_place l D G (bh f m) (n - (tk m)) ) hS hP hD [] rfl (by decide) (ys_X8_place) kw_14_3 kw_14_4 ⟨Nat.le_of_ble_eq_true rfl, Nat.le_of_ble_eq_true rfl⟩ hl.1 (Nat.le_of_ble_eq_true rfl) dX8_resultIn_22 rfl rfl ⟨Nat.zero_le _, Nat.zero_le _⟩) hS hP hD [] rfl (fun r22 _ H locs hp22 hP hS => ?_)
  refine ro_top (z := nI (13 * (bh f m) + (n - (tk m)))) hx hp22 ?_
  refine ro_iald (k := 13 * (bh f m) + (n - (tk m))) (v := fl (13 * (bh f m) + (n - (tk m)))) hx hb hK hP 2 0 rfl rfl rfl (by omega) (by decide) rfl dX8_resultIn_25 ?_
  refine lv_isub hx hb dX8_resultIn_26 ?_
  exact endI C rfl () rfl hS hP dX8_resultIn_27
set_option maxHeartbeats 800000 in
set_option maxRecDepth 100000 in
theorem mX8_bestIn (l : Launch) (D : va_G) (G : u_G) (q : Nat) (ma : Nat → Nat) (sN L : Nat) (th nd ct ht sp iw mn : Int32) (sr p : Nat → Int32) (M : Nat) (fl : Nat → Int32) (f n : Nat) (hfn : f + n ≤ M) (hM : M ≤ 12) (hpp : ∀ k, k < M → sr (1 + k) = p k) (hPR : PR p) (hFl : ∀ n' g, n' < n → g + n' ≤ M → fl (13 * g + n') = V p n' g) : MtI l D G yX8_bestIn cX8_bestIn 6 .int 4 0 0 [.ref q, .int (nI f), .int (nI n)] [(q, .inr (8, [.ref (ma 0), .ref (ma 1), .int (nI sN), .ref (ma 2), .int (nI L), .int th, .ref (ma 3), .ref (ma 4), .ref (ma 5), .ref (ma 6), .int nd, .int ct, .int ht, .ref (ma 7), .ref (ma 8), .ref (ma 9), .ref (ma 10), .ref (ma 11), .ref (ma 12), .ref (ma 13), .ref (ma 14), .int sp, .int iw, .int mn])), (ma 0, .inl (G.1, 457, .inl sr)), (ma 3, .inl (G.1, 169, .inl fl))] (fun (r : Int32) (_ : Unit) => r = (bm (rV p (V p) f n) 4).1) (fun (_ : Unit) => [(q, .inr (8, [.ref (ma 0), .ref (ma 1), .int (nI sN), .ref (ma 2), .int (nI L), .int th, .ref (ma 3), .ref (ma 4), .ref (ma 5), .ref (ma 6), .int nd, .int ct, .int ht, .ref (ma 7), .ref (ma 8), .ref (ma 9), .ref (ma 10), .ref (ma 11), .ref (ma 12), .ref (ma 13), .ref (ma 14), .int sp, .int iw, .int mn])), (ma 0, .inl (G.1, 457, .inl sr)), (ma 3, .inl (G.1, 169, .inl fl))]) := by
  refine MtI.of (by decide) (Nat.le_of_ble_eq_true rfl) ?_
  intro pr e s9 m9 below meth c9 A ls C hP hD hl
  obtain ⟨hx, hb, hml, hown, hts, hr, hlocks, hA, hAm⟩ := id C
  have hK := hAm.1
  have hS : va_S A s9.heap s9.heap [] := va_S.rf
  have hl : lv_has ls 6 [(0, .ref q), (1, .int (nI f)), (2, .int (nI n))] := hl
  have tk0 : ∀ k, tk k ≤ 2 := tk_le
  refine lv_sipush (v := (-999)) hx hb dX8_bestIn_0 (by decide) ?_
  refine lv_istore_n (lv' := [(3, .int (-999)), (0, .ref q), (1, .int (nI f)), (2, .int (nI n))]) hx hb dX8_bestIn_3 rfl hl (by decide) rfl (fun ls hl => ?_)
  refine lv_iconst (v := 0) hx hb dX8_bestIn_4 (by decide) ?_
  refine lv_istore (lv' := [(4, .int 0), (3, .int (-999)), (0, .ref q), (1, .int (nI f)), (2, .int (nI n))]) hx hb dX8_bestIn_5 hl (by decide) rfl (fun ls hl => ?_)
  have lp7 : ∀ (n7 : Nat) (i : Nat) (hi : i ≤ 4) (_ : 4 - i < n7) (H : Heap) (locs : List Loc) (ls : Array Slot), va_P D vwCl [(q, .inr (8, [.ref (ma 0), .ref (ma 1), .int (nI sN), .ref (ma 2), .int (nI L), .int th, .ref (ma 3), .ref (ma 4), .ref (ma 5), .ref (ma 6), .int nd, .int ct, .int ht, .ref (ma 7), .ref (ma 8), .ref (ma 9), .ref (ma 10), .ref (ma 11), .ref (ma 12), .ref (ma 13), .ref (ma 14), .int sp, .int iw, .int mn])), (ma 0, .inl (G.1, 457, .inl sr)), (ma 3, .inl (G.1, 169, .inl fl))] H → va_D A [(q, .inr (8, [.ref (ma 0), .ref (ma 1), .int (nI sN), .ref (ma 2), .int (nI L), .int th, .ref (ma 3), .ref (ma 4), .ref (ma 5), .ref (ma 6), .int nd, .int ct, .int ht, .ref (ma 7), .ref (ma 8), .ref (ma 9), .ref (ma 10), .ref (ma 11), .ref (ma 12), .ref (ma 13), .ref (ma 14), .int sp, .int iw, .int mn])), (ma 0, .inl (G.1, 457, .inl sr)), (ma 3, .inl (G.1, 169, .inl fl))] → va_S A s9.heap H locs → lv_has ls 6 [(0, .ref q), (1, .int (nI f)), (2, .int (nI n)), (3, .int ((bm (rV p (V p) f n) i).1)), (4, .int (nI i))] → W pr l e (rmG 4 0 0) s9 m9 (List.toArray [.ref q, .int (nI f), .int (nI n)]) below meth c9 H locs 0 0 (MQ below (va_Qi (fun (r : Int32) (_ : Unit) => r = (bm (rV p (V p) f n) 4).1) (fun u9 t9 => WB D ((fun (_ : Unit) => [(q, .inr (8, [.ref (ma 0), .ref (ma 1), .int (nI sN), .ref (ma 2), .int (nI L), .int th, .ref (ma 3), .ref (ma 4), .ref (ma 5), .ref (ma 6), .int nd, .int ct, .int ht, .ref (ma 7), .ref (ma 8), .ref (ma 9), .ref (ma 10), .ref (ma 11), .ref (ma 12), .ref (ma 13), .ref (ma 14), .int sp, .int iw, .int mn])), (ma 0, .inl (G.1, 457, .inl sr)), (ma 3, .inl (G.1, 169, .inl fl))]) u9) t9) A) (List.toArray [.ref q, .int (nI f), .int (nI n)]) s9 0 0 A) (F0 m9 7 ls []) := by
    intro n7
    induction n7 with
    | zero => intro i hi hm; exact absurd hm (Nat.not_lt_zero _)
    | succ n7 ih7 =>
      intro i hi hm H locs ls hP hD hS hl
      have tki := tk_le i
      refine lv_iload hx hb dX8_bestIn_7 (lv_at hl 4 rfl) ?_
      refine lv_iconst (v := 4) hx hb dX8_bestIn_9 (by decide) ?_
      refine lv_icmp_ge (tgt := 72) hx hb dX8_bestIn_10 (by decide) (fun c_10 => ?_) (fun c_10 => ?_)
      · have c_10 := nle_t (a := 4) (b := i) (by omega) (by omega) c_10
        refine lv_iload_n hx hb dX8_bestIn_72 rfl (lv_at hl 3 rfl) ?_
        exact endI C rfl () (by rw [show i = 4 by omega]) hS hP dX8_bestIn_73
      · have c_10 := nle_f (a := 4) (b := i) (by omega) (by omega) c_10
        refine lv_iload hx hb dX8_bestIn_13 (lv_at hl 4 rfl) ?_
        refine aftI0 C (runS_G (As := [.int (nI i)]) (rest := []) C (mX8_takes l D G i (by omega)) hS hP hD [] rfl (by decide) (ys_X8_takes) kw_12_16 kw_12_17 ⟨Nat.le_of_ble_eq_true rfl, Nat.le_of_ble_eq_true rfl⟩ hl.1 (Nat.le_of_ble_eq_true rfl) dX8_bestIn_15 rfl rfl ⟨Nat.zero_le _, Nat.zero_le _⟩) hS hP hD [] rfl (fun r15 _ H locs hp15 hP hS => ?_)
        refine ro_top (z := nI (tk i)) hx hp15 ?_
        refine lv_iload_n hx hb dX8_bestIn_18 rfl (lv_at hl 2 rfl) ?_
        refine lv_icmp_gt (tgt := 26) hx hb dX8_bestIn_19 (by decide) (fun c_19 => ?_) (fun c_19 => ?_)
        · have c_19 := nlt_t (a := n) (b := tk i) (by omega) (by omega) c_19
          refine lv_iconst (v := 0) hx hb dX8_bestIn_26 (by decide) ?_
          refine lv_istore (lv' := [(5, .int 0), (0, .ref q), (1, .int (nI f)), (2, .int (nI n)), (3, .int ((bm (rV p (V p) f n) i).1)), (4, .int (nI i))]) hx hb dX8_bestIn_27 hl (by decide) rfl (fun ls hl => ?_)
          refine lv_iload hx hb dX8_bestIn_29 (lv_at hl 0 rfl) ?_
          refine lv_if_eq (tgt := 64) hx hb dX8_bestIn_31 (by decide) (fun _ => ?_) (fun h => absurd (by decide) h)
          refine lv_iload_n hx hb dX8_bestIn_64 rfl (lv_at hl 4 rfl) ?_
          refine lv_istore_n (lv' := [(3, .int ((bm (rV p (V p) f n) i).1)), (5, .int 0), (0, .ref q), (1, .int (nI f)), (2, .int (nI n)), (4, .int (nI i))]) hx hb dX8_bestIn_65 rfl hl (by decide) rfl (fun ls hl => ?_)
          refine lv_iinc (v := nI (i + 1)) (lv' := [(4, .int (nI (i + 1))), (3, .int ((bm (rV p (V p) f n) i).1)), (5, .int 0), (0, .ref q), (1, .int (nI f)), (2, .int (nI n))]) hx hb dX8_bestIn_66 hl (k := 5) rfl (nI_add i 1) (by decide) rfl (fun ls hl => ?_)
          refine lv_goto (tgt := 7) hx hb dX8_bestIn_69 (by decide) ?_
          have e9 : bm (rV p (V p) f n) (i + 1) = bm (rV p (V p) f n) i := if_pos (by rw [rV_neg (by omega)]; exact bm_ge _ _)
          exact ih7 (i + 1) (by omega) (by omega) _ _ _ hP (hD.fst rfl) hS (lv_sub hl [3, 4, 5, 1, 0] (by rw [e9]; rfl))
        · have c_19 := nlt_f (a := n) (b := tk i) (by omega) (by omega) c_19
          refine lv_iconst (v := 1) hx hb dX8_bestIn_22 (by decide) ?_
          refine lv_goto (tgt := 27) hx hb dX8_bestIn_23 (by decide) ?_
          refine lv_istore (lv' := [(5, .int 1), (0, .ref q), (1, .int (nI f)), (2, .int (nI n)), (3, .int ((bm (rV p (V p) f n) i).1)), (4, .int (nI i))]) hx hb dX8_bestIn_27 hl (by decide) rfl (fun ls hl => ?_)
          refine lv_iload hx hb dX8_bestIn_29 (lv_at hl 0 rfl) ?_
          refine lv_if_eq (tgt := 64) hx hb dX8_bestIn_31 (by decide) (fun h => absurd h (by decide)) (fun _ => ?_)
          refine lv_iload_n hx hb dX8_bestIn_34 rfl (lv_at hl 4 rfl) ?_
          refine lv_sipush (v := (-999)) hx hb dX8_bestIn_35 (by decide) ?_
          refine lv_icmp_eq (tgt := 59) hx hb dX8_bestIn_38 (by decide) (fun c_38 => ?_) (fun c_38 => ?_)
          · refine lv_iload hx hb dX8_bestIn_59 (lv_at hl 5 rfl) ?_
            refine lv_goto (tgt := 65) hx hb dX8_bestIn_61 (by decide) ?_
            refine lv_istore_n (lv' := [(3, .int (nI i)), (5, .int 1), (0, .ref q), (1, .int (nI f)), (2, .int (nI n)), (4, .int (nI i))]) hx hb dX8_bestIn_65 rfl hl (by decide) rfl (fun ls hl => ?_)
            refine lv_iinc (v := nI (i + 1)) (lv' := [(4, .int (nI (i + 1))), (3, .int (nI i)), (5, .int 1), (0, .ref q), (1, .int (nI f)), (2, .int (nI n))]) hx hb dX8_bestIn_66 hl (k := 5) rfl (nI_add i 1) (by decide) rfl (fun ls hl => ?_)
            refine lv_goto (tgt := 7) hx hb dX8_bestIn_69 (by decide) ?_
            have e9 : bm (rV p (V p) f n) (i + 1) = (nI i, rV p (V p) f n i) := if_neg (by rw [bm_none hi c_38]; exact rV_gt hPR (by omega) (by omega) (by omega))
            exact ih7 (i + 1) (by omega) (by omega) _ _ _ hP (hD.fst rfl) hS (lv_sub hl [3, 4, 5, 1, 0] (by rw [e9]; rfl))
          · obtain ⟨mm, hmm1, hmm2, hmm3⟩ := bm_found c_38
            have hmm4 := rV_may hmm3
            refine lv_aload_n hx hb dX8_bestIn_41 rfl (lv_at hl 1 rfl) ?_
            refine lv_iload_n hx hb dX8_bestIn_42 rfl (lv_at hl 2 rfl) ?_
            refine lv_iload_n hx hb dX8_bestIn_43 rfl (lv_at hl 3 rfl) ?_
            refine lv_iload hx hb dX8_bestIn_44 (lv_at hl 5 rfl) ?_
            refine aftI0 C (runV_G (As := [.int (nI f), .int (nI n), .int (nI i)]) (rest := []) (ci := 8) (N := 24) (T := TX8) (q0 := 0) C (mX8_resultIn l D G q ma sN L th nd ct ht sp iw mn sr p M fl f n i (by omega) (by omega) hfn hM hpp) hS hP hD [0, 1, 2] rfl (by decide) rfl rfl (ys_X8_resultIn) kw_14_10 kw_14_11 kw_14_12 ⟨Nat.le_of_ble_eq_true rfl, Nat.le_of_ble_eq_true rfl⟩ hl.1 (Nat.le_of_ble_eq_true rfl) dX8_bestIn_46 rfl rfl ⟨Nat.zero_le _, Nat.zero_le _⟩) hS hP hD [0, 1, 2] rfl (fun r46 _ H locs hp46 hP hS => ?_)
            refine ro_top (z := cn p f n i - fl (13 * bh f i + (n - tk i))) hx hp46 ?_
            refine ro_top (z := rV p (V p) f n i) hx (by rw [rV_pos (by omega), hFl _ _ (by have := tk_pos i; omega) (by have := tk_pos i; have := bh_le f i; omega)]) ?_
            refine lv_aload_n hx hb dX8_bestIn_49 rfl (lv_at hl 1 rfl) ?_
            refine lv_iload_n hx hb dX8_bestIn_50 rfl (lv_at hl 2 rfl) ?_
            refine lv_iload_n hx hb dX8_bestIn_51 rfl (lv_at hl 3 rfl) ?_
            refine lv_iload_n hx hb dX8_bestIn_52 rfl (lv_at hl 4 rfl) ?_
            refine ro_top (z := nI mm) hx (congrArg Prod.fst hmm2) ?_
            refine aftI0 C (runV_G (As := [.int (nI f), .int (nI n), .int (nI mm)]) (rest := [.int (rV p (V p) f n i)]) (ci := 8) (N := 24) (T := TX8) (q0 := 0) C (mX8_resultIn l D G q ma sN L th nd ct ht sp iw mn sr p M fl f n mm (by omega) hmm4 hfn hM hpp) hS hP hD [0, 1, 2] rfl (by decide) rfl rfl (ys_X8_resultIn) kw_14_10 kw_14_11 kw_14_12 ⟨Nat.le_of_ble_eq_true rfl, Nat.le_of_ble_eq_true rfl⟩ hl.1 (Nat.le_of_ble_eq_true rfl) dX8_bestIn_53 rfl rfl ⟨Nat.zero_le _, Nat.zero_le _⟩) hS hP hD [0, 1, 2] rfl (fun r53 _ H locs hp53 hP hS => ?_)
            refine ro_top (z := cn p f n mm - fl (13 * bh f mm + (n - tk mm))) hx hp53 ?_
            refine ro_top (z := rV p (V p) f n mm) hx (by rw [rV_pos hmm4, hFl _ _ (by have := tk_pos mm; omega) (by have := tk_pos mm; have := bh_le f mm; omega)]) ?_
            refine lv_icmp_le (tgt := 64) hx hb dX8_bestIn_56 (by decide) (fun c_56 => ?_) (fun c_56 => ?_)
            · refine lv_iload_n hx hb dX8_bestIn_64 rfl (lv_at hl 4 rfl) ?_
              refine lv_istore_n (lv' := [(3, .int ((bm (rV p (V p) f n) i).1)), (5, .int 1), (0, .ref q), (1, .int (nI f)), (2, .int (nI n)), (4, .int (nI i))]) hx hb dX8_bestIn_65 rfl hl (by decide) rfl (fun ls hl => ?_)
              refine lv_iinc (v := nI (i + 1)) (lv' := [(4, .int (nI (i + 1))), (3, .int ((bm (rV p (V p) f n) i).1)), (5, .int 1), (0, .ref q), (1, .int (nI f)), (2, .int (nI n))]) hx hb dX8_bestIn_66 hl (k := 5) rfl (nI_add i 1) (by decide) rfl (fun ls hl => ?_)
              refine lv_goto (tgt := 7) hx hb dX8_bestIn_69 (by decide) ?_
              have e9 : bm (rV p (V p) f n) (i + 1) = bm (rV p (V p) f n) i := if_pos (by rw [hmm2]; exact c_56)
              exact ih7 (i + 1) (by omega) (by omega) _ _ _ hP (hD.fst rfl) hS (lv_sub hl [3, 4, 5, 1, 0] (by rw [e9]; rfl))
            · refine lv_iload hx hb dX8_bestIn_59 (lv_at hl 5 rfl) ?_
              refine lv_goto (tgt := 65) hx hb dX8_bestIn_61 (by decide) ?_
              refine lv_istore_n (lv' := [(3, .int (nI i)), (5, .int 1), (0, .ref q), (1, .int (nI f)), (2, .int (nI n)), (4, .int (nI i))]) hx hb dX8_bestIn_65 rfl hl (by decide) rfl (fun ls hl => ?_)
              refine lv_iinc (v := nI (i + 1)) (lv' := [(4, .int (nI (i + 1))), (3, .int (nI i)), (5, .int 1), (0, .ref q), (1, .int (nI f)), (2, .int (nI n))]) hx hb dX8_bestIn_66 hl (k := 5) rfl (nI_add i 1) (by decide) rfl (fun ls hl => ?_)
              refine lv_goto (tgt := 7) hx hb dX8_bestIn_69 (by decide) ?_
              have e9 : bm (rV p (V p) f n) (i + 1) = (nI i, rV p (V p) f n i) := if_neg (by rw [hmm2]; exact c_56)
              exact ih7 (i + 1) (by omega) (by omega) _ _ _ hP (hD.fst rfl) hS (lv_sub hl [3, 4, 5, 1, 0] (by rw [e9]; rfl))
  exact lp7 (4 - 0 + 1) 0 (by omega) (Nat.lt_succ_self _) _ _ _ hP (hD.fst rfl) hS (lv_sub hl [2, 3, 4, 1, 0] rfl)
set_option maxHeartbeats 800000 in
set_option maxRecDepth 100000 in
theorem mX8_fills (l : Launch) (D : va_G) (G : u_G) (q : Nat) (ma : Nat → Nat) (sN L : Nat) (th nd ct ht sp iw mn : Int32) (sr p : Nat → Int32) (M : Nat) (fl : Nat → Int32) (h0 : sr 0 = nI M) (hM : M ≤ 12) (hpp : ∀ k, k < M → sr (1 + k) = p k) (hPR : PR p) : MtV l D G yX8_fills cX8_fills 3 5 0 0 [.ref q] [(q, .inr (8, [.ref (ma 0), .ref (ma 1), .int (nI sN), .ref (ma 2), .int (nI L), .int th, .ref (ma 3), .ref (ma 4), .ref (ma 5), .ref (ma 6), .int nd, .int ct, .int ht, .ref (ma 7), .ref (ma 8), .ref (ma 9), .ref (ma 10), .ref (ma 11), .ref (ma 12), .ref (ma 13), .ref (ma 14), .int sp, .int iw, .int mn])), (ma 0, .inl (G.1, 457, .inl sr)), (ma 3, .inl (G.1, 169, .inl fl))] (fun (u : Nat → Int32) => FLA p u M) (fun (u : Nat → Int32) => [(q, .inr (8, [.ref (ma 0), .ref (ma 1), .int (nI sN), .ref (ma 2), .int (nI L), .int th, .ref (ma 3), .ref (ma 4), .ref (ma 5), .ref (ma 6), .int nd, .int ct, .int ht, .ref (ma 7), .ref (ma 8), .ref (ma 9), .ref (ma 10), .ref (ma 11), .ref (ma 12), .ref (ma 13), .ref (ma 14), .int sp, .int iw, .int mn])), (ma 0, .inl (G.1, 457, .inl sr)), (ma 3, .inl (G.1, 169, .inl u))]) := by
  refine MtV.of (by decide) (Nat.le_of_ble_eq_true rfl) ?_
  intro pr e s9 m9 below meth c9 A ls C hP hD hl hin
  obtain ⟨hx, hb, hml, hown, hts, hr, hlocks, hA, hAm⟩ := id C
  have hK := hAm.1
  have hS : va_S A s9.heap s9.heap [] := va_S.rf
  have hl : lv_has ls 3 [(0, .ref q)] := hl
  refine lv_iconst (v := 0) hx hb dX8_fills_0 (by decide) ?_
  refine lv_istore_n (lv' := [(1, .int 0), (0, .ref q)]) hx hb dX8_fills_1 rfl hl (by decide) rfl (fun ls hl => ?_)
  have lp2 : ∀ (n2 : Nat) (i : Nat) (f1 : Nat → Int32) (hi : i ≤ 13) (hz : ∀ g, g < i → f1 (13 * g + 0) = 0) (_ : 13 - i < n2) (H : Heap) (locs : List Loc) (ls : Array Slot), va_P D vwCl [(q, .inr (8, [.ref (ma 0), .ref (ma 1), .int (nI sN), .ref (ma 2), .int (nI L), .int th, .ref (ma 3), .ref (ma 4), .ref (ma 5), .ref (ma 6), .int nd, .int ct, .int ht, .ref (ma 7), .ref (ma 8), .ref (ma 9), .ref (ma 10), .ref (ma 11), .ref (ma 12), .ref (ma 13), .ref (ma 14), .int sp, .int iw, .int mn])), (ma 0, .inl (G.1, 457, .inl sr)), (ma 3, .inl (G.1, 169, .inl f1))] H → va_D A [(q, .inr (8, [.ref (ma 0), .ref (ma 1), .int (nI sN), .ref (ma 2), .int (nI L), .int th, .ref (ma 3), .ref (ma 4), .ref (ma 5), .ref (ma 6), .int nd, .int ct, .int ht, .ref (ma 7), .ref (ma 8), .ref (ma 9), .ref (ma 10), .ref (ma 11), .ref (ma 12), .ref (ma 13), .ref (ma 14), .int sp, .int iw, .int mn])), (ma 0, .inl (G.1, 457, .inl sr)), (ma 3, .inl (G.1, 169, .inl f1))] → va_S A s9.heap H locs → lv_has ls 3 [(0, .ref q), (1, .int (nI i))] → W pr l e (rmG 5 0 0) s9 m9 (List.toArray [.ref q]) below meth c9 H locs 0 0 (MQ below (va_Qv (fun (u : Nat → Int32) => FLA p u M) (fun u9 t9 => WB D ((fun (u : Nat → Int32) => [(q, .inr (8, [.ref (ma 0), .ref (ma 1), .int (nI sN), .ref (ma 2), .int (nI L), .int th, .ref (ma 3), .ref (ma 4), .ref (ma 5), .ref (ma 6), .int nd, .int ct, .int ht, .ref (ma 7), .ref (ma 8), .ref (ma 9), .ref (ma 10), .ref (ma 11), .ref (ma 12), .ref (ma 13), .ref (ma 14), .int sp, .int iw, .int mn])), (ma 0, .inl (G.1, 457, .inl sr)), (ma 3, .inl (G.1, 169, .inl u))]) u9) t9 ∧ va_D A ((fun (u : Nat → Int32) => [(q, .inr (8, [.ref (ma 0), .ref (ma 1), .int (nI sN), .ref (ma 2), .int (nI L), .int th, .ref (ma 3), .ref (ma 4), .ref (ma 5), .ref (ma 6), .int nd, .int ct, .int ht, .ref (ma 7), .ref (ma 8), .ref (ma 9), .ref (ma 10), .ref (ma 11), .ref (ma 12), .ref (ma 13), .ref (ma 14), .int sp, .int iw, .int mn])), (ma 0, .inl (G.1, 457, .inl sr)), (ma 3, .inl (G.1, 169, .inl u))]) u9)) A) (List.toArray [.ref q]) s9 0 0 A) (F0 m9 2 ls []) := by
    intro n2
    induction n2 with
    | zero => intro i f1 hi hz hm; exact absurd hm (Nat.not_lt_zero _)
    | succ n2 ih2 =>
      intro i f1 hi hz hm H locs ls hP hD hS hl
      refine lv_iload_n hx hb dX8_fills_2 rfl (lv_at hl 1 rfl) ?_
      refine lv_bipush (v := 13) hx hb dX8_fills_3 (by decide) ?_
      refine lv_icmp_ge (tgt := 25) hx hb dX8_fills_5 (by decide) (fun c_5 => ?_) (fun c_5 => ?_)
      · have c_5 := nle_t (a := 13) (b := i) (by omega) (by omega) c_5
        refine lv_iconst (v := 1) hx hb dX8_fills_25 (by decide) ?_
        refine lv_istore_n (lv' := [(1, .int 1), (0, .ref q)]) hx hb dX8_fills_26 rfl hl (by decide) rfl (fun ls hl => ?_)
        have lp27 : ∀ (n27 : Nat) (c : Nat) (f2 : Nat → Int32) (hc : 1 ≤ c) (hc2 : c ≤ 13) (hF : FLp p f2 M c 0) (_ : 13 - c < n27) (H : Heap) (locs : List Loc) (ls : Array Slot), va_P D vwCl [(q, .inr (8, [.ref (ma 0), .ref (ma 1), .int (nI sN), .ref (ma 2), .int (nI L), .int th, .ref (ma 3), .ref (ma 4), .ref (ma 5), .ref (ma 6), .int nd, .int ct, .int ht, .ref (ma 7), .ref (ma 8), .ref (ma 9), .ref (ma 10), .ref (ma 11), .ref (ma 12), .ref (ma 13), .ref (ma 14), .int sp, .int iw, .int mn])), (ma 0, .inl (G.1, 457, .inl sr)), (ma 3, .inl (G.1, 169, .inl f2))] H → va_D A [(q, .inr (8, [.ref (ma 0), .ref (ma 1), .int (nI sN), .ref (ma 2), .int (nI L), .int th, .ref (ma 3), .ref (ma 4), .ref (ma 5), .ref (ma 6), .int nd, .int ct, .int ht, .ref (ma 7), .ref (ma 8), .ref (ma 9), .ref (ma 10), .ref (ma 11), .ref (ma 12), .ref (ma 13), .ref (ma 14), .int sp, .int iw, .int mn])), (ma 0, .inl (G.1, 457, .inl sr)), (ma 3, .inl (G.1, 169, .inl f2))] → va_S A s9.heap H locs → lv_has ls 3 [(0, .ref q), (1, .int (nI c))] → W pr l e (rmG 5 0 0) s9 m9 (List.toArray [.ref q]) below meth c9 H locs 0 0 (MQ below (va_Qv (fun (u : Nat → Int32) => FLA p u M) (fun u9 t9 => WB D ((fun (u : Nat → Int32) => [(q, .inr (8, [.ref (ma 0), .ref (ma 1), .int (nI sN), .ref (ma 2), .int (nI L), .int th, .ref (ma 3), .ref (ma 4), .ref (ma 5), .ref (ma 6), .int nd, .int ct, .int ht, .ref (ma 7), .ref (ma 8), .ref (ma 9), .ref (ma 10), .ref (ma 11), .ref (ma 12), .ref (ma 13), .ref (ma 14), .int sp, .int iw, .int mn])), (ma 0, .inl (G.1, 457, .inl sr)), (ma 3, .inl (G.1, 169, .inl u))]) u9) t9 ∧ va_D A ((fun (u : Nat → Int32) => [(q, .inr (8, [.ref (ma 0), .ref (ma 1), .int (nI sN), .ref (ma 2), .int (nI L), .int th, .ref (ma 3), .ref (ma 4), .ref (ma 5), .ref (ma 6), .int nd, .int ct, .int ht, .ref (ma 7), .ref (ma 8), .ref (ma 9), .ref (ma 10), .ref (ma 11), .ref (ma 12), .ref (ma 13), .ref (ma 14), .int sp, .int iw, .int mn])), (ma 0, .inl (G.1, 457, .inl sr)), (ma 3, .inl (G.1, 169, .inl u))]) u9)) A) (List.toArray [.ref q]) s9 0 0 A) (F0 m9 27 ls []) := by
          intro n27
          induction n27 with
          | zero => intro c f2 hc hc2 hF hm; exact absurd hm (Nat.not_lt_zero _)
          | succ n27 ih27 =>
            intro c f2 hc hc2 hF hm H locs ls hP hD hS hl
            refine lv_iload_n hx hb dX8_fills_27 rfl (lv_at hl 1 rfl) ?_
            refine lv_aload_n hx hb dX8_fills_28 rfl (lv_at hl 0 rfl) ?_
            refine va_get (D := D) (ci := 8) (v := .ref (ma 0)) (C := RX8) (T := TX8) (N := 24) hx hb hts inlX8 hown hK hP 0 rfl rfl 0 (by decide) (hts _ kw_5_6) (fun _ h9 => h9) rfl dX8_fills_29 ?_
            refine lv_iconst (v := 0) hx hb dX8_fills_32 (by decide) ?_
            refine ro_iald (k := 0) (v := nI M) hx hb hK hP 1 0 rfl rfl rfl (by decide) (by decide) h0 dX8_fills_33 ?_
            refine lv_icmp_gt (tgt := 85) hx hb dX8_fills_34 (by decide) (fun c_34 => ?_) (fun c_34 => ?_)
            · have c_34 := nlt_t (a := M) (b := c) (by omega) (by omega) c_34
              exact endV C f2 (FLp_done hF (by omega)) hS hP (hD.fst rfl) dX8_fills_85
            · have c_34 := nlt_f (a := M) (b := c) (by omega) (by omega) c_34
              refine lv_iconst (v := 0) hx hb dX8_fills_37 (by decide) ?_
              refine lv_istore_n (lv' := [(2, .int 0), (0, .ref q), (1, .int (nI c))]) hx hb dX8_fills_38 rfl hl (by decide) rfl (fun ls hl => ?_)
              have lp39 : ∀ (n39 : Nat) (f9 : Nat) (f3 : Nat → Int32) (hf9 : f9 ≤ 13) (hG : FLp p f3 M c f9) (_ : 13 - f9 < n39) (H : Heap) (locs : List Loc) (ls : Array Slot), va_P D vwCl [(q, .inr (8, [.ref (ma 0), .ref (ma 1), .int (nI sN), .ref (ma 2), .int (nI L), .int th, .ref (ma 3), .ref (ma 4), .ref (ma 5), .ref (ma 6), .int nd, .int ct, .int ht, .ref (ma 7), .ref (ma 8), .ref (ma 9), .ref (ma 10), .ref (ma 11), .ref (ma 12), .ref (ma 13), .ref (ma 14), .int sp, .int iw, .int mn])), (ma 0, .inl (G.1, 457, .inl sr)), (ma 3, .inl (G.1, 169, .inl f3))] H → va_D A [(q, .inr (8, [.ref (ma 0), .ref (ma 1), .int (nI sN), .ref (ma 2), .int (nI L), .int th, .ref (ma 3), .ref (ma 4), .ref (ma 5), .ref (ma 6), .int nd, .int ct, .int ht, .ref (ma 7), .ref (ma 8), .ref (ma 9), .ref (ma 10), .ref (ma 11), .ref (ma 12), .ref (ma 13), .ref (ma 14), .int sp, .int iw, .int mn])), (ma 0, .inl (G.1, 457, .inl sr)), (ma 3, .inl (G.1, 169, .inl f3))] → va_S A s9.heap H locs → lv_has ls 3 [(0, .ref q), (1, .int (nI c)), (2, .int (nI f9))] → W pr l e (rmG 5 0 0) s9 m9 (List.toArray [.ref q]) below meth c9 H locs 0 0 (MQ below (va_Qv (fun (u : Nat → Int32) => FLA p u M) (fun u9 t9 => WB D ((fun (u : Nat → Int32) => [(q, .inr (8, [.ref (ma 0), .ref (ma 1), .int (nI sN), .ref (ma 2), .int (nI L), .int th, .ref (ma 3), .ref (ma 4), .ref (ma 5), .ref (ma 6), .int nd, .int ct, .int ht, .ref (ma 7), .ref (ma 8), .ref (ma 9), .ref (ma 10), .ref (ma 11), .ref (ma 12), .ref (ma 13), .ref (ma 14), .int sp, .int iw, .int mn])), (ma 0, .inl (G.1, 457, .inl sr)), (ma 3, .inl (G.1, 169, .inl u))]) u9) t9 ∧ va_D A ((fun (u : Nat → Int32) => [(q, .inr (8, [.ref (ma 0), .ref (ma 1), .int (nI sN), .ref (ma 2), .int (nI L), .int th, .ref (ma 3), .ref (ma 4), .ref (ma 5), .ref (ma 6), .int nd, .int ct, .int ht, .ref (ma 7), .ref (ma 8), .ref (ma 9), .ref (ma 10), .ref (ma 11), .ref (ma 12), .ref (ma 13), .ref (ma 14), .int sp, .int iw, .int mn])), (ma 0, .inl (G.1, 457, .inl sr)), (ma 3, .inl (G.1, 169, .inl u))]) u9)) A) (List.toArray [.ref q]) s9 0 0 A) (F0 m9 39 ls []) := by
                intro n39
                induction n39 with
                | zero => intro f9 f3 hf9 hG hm; exact absurd hm (Nat.not_lt_zero _)
                | succ n39 ih39 =>
                  intro f9 f3 hf9 hG hm H locs ls hP hD hS hl
                  refine lv_iload_n hx hb dX8_fills_39 rfl (lv_at hl 2 rfl) ?_
                  refine lv_iload_n hx hb dX8_fills_40 rfl (lv_at hl 1 rfl) ?_
                  refine ro_iadd (z := nI (f9 + c)) hx hb (nI_add f9 c) dX8_fills_41 ?_
                  refine lv_aload_n hx hb dX8_fills_42 rfl (lv_at hl 0 rfl) ?_
                  refine va_get (D := D) (ci := 8) (v := .ref (ma 0)) (C := RX8) (T := TX8) (N := 24) hx hb hts inlX8 hown hK hP 0 rfl rfl 0 (by decide) (hts _ kw_5_6) (fun _ h9 => h9) rfl dX8_fills_43 ?_
                  refine lv_iconst (v := 0) hx hb dX8_fills_46 (by decide) ?_
                  refine ro_iald (k := 0) (v := nI M) hx hb hK hP 1 0 rfl rfl rfl (by decide) (by decide) h0 dX8_fills_47 ?_
                  refine lv_icmp_gt (tgt := 79) hx hb dX8_fills_48 (by decide) (fun c_48 => ?_) (fun c_48 => ?_)
                  · have c_48 := nlt_t (a := M) (b := f9 + c) (by omega) (by omega) c_48
                    refine lv_iinc (v := nI (c + 1)) (lv' := [(1, .int (nI (c + 1))), (0, .ref q), (2, .int (nI f9))]) hx hb dX8_fills_79 hl (k := 1) rfl (nI_add c 1) (by decide) rfl (fun ls hl => ?_)
                    refine lv_goto (tgt := 27) hx hb dX8_fills_82 (by decide) ?_
                    exact ih27 (c + 1) f3 (by omega) (by omega) (FLp_next hG (by omega)) (by omega) _ _ _ hP (hD.fst rfl) hS (lv_sub hl [1, 0] rfl)
                  · have c_48 := nlt_f (a := M) (b := f9 + c) (by omega) (by omega) c_48
                    refine lv_aload_n hx hb dX8_fills_51 rfl (lv_at hl 0 rfl) ?_
                    refine va_get (D := D) (ci := 8) (v := .ref (ma 3)) (C := RX8) (T := TX8) (N := 24) hx hb hts inlX8 hown hK hP 0 rfl rfl 6 (by decide) (hts _ kw_5_9) (fun _ h9 => h9) rfl dX8_fills_52 ?_
                    refine lv_iload_n hx hb dX8_fills_55 rfl (lv_at hl 2 rfl) ?_
                    refine lv_iload_n hx hb dX8_fills_56 rfl (lv_at hl 1 rfl) ?_
                    refine aftI0 C (runS_G (As := [.int (nI f9), .int (nI c)]) (rest := [.ref (ma 3)]) C (mX8_place l D G f9 c ) hS hP hD [] rfl (by decide) (ys_X8_place) kw_14_3 kw_14_4 ⟨Nat.le_of_ble_eq_true rfl, Nat.le_of_ble_eq_true rfl⟩ hl.1 (Nat.le_of_ble_eq_true rfl) dX8_fills_57 rfl rfl ⟨Nat.zero_le _, Nat.zero_le _⟩) hS hP hD [] rfl (fun r57 _ H locs hp57 hP hS => ?_)
                    refine ro_top (z := nI (13 * f9 + c)) hx hp57 ?_
                    refine lv_aload_n hx hb dX8_fills_60 rfl (lv_at hl 0 rfl) ?_
                    refine lv_iload_n hx hb dX8_fills_61 rfl (lv_at hl 2 rfl) ?_
                    refine lv_iload_n hx hb dX8_fills_62 rfl (lv_at hl 1 rfl) ?_
                    refine lv_aload_n hx hb dX8_fills_63 rfl (lv_at hl 0 rfl) ?_
                    refine lv_iload_n hx hb dX8_fills_64 rfl (lv_at hl 2 rfl) ?_
                    refine lv_iload_n hx hb dX8_fills_65 rfl (lv_at hl 1 rfl) ?_
                    refine aftI0 C (runV_G (As := [.int (nI f9), .int (nI c)]) (rest := [.int (nI c), .int (nI f9), .ref q, .int (nI (13 * f9 + c)), .ref (ma 3)]) (ci := 8) (N := 24) (T := TX8) (q0 := 0) C (mX8_bestIn l D G q ma sN L th nd ct ht sp iw mn sr p M f3 f9 c (by omega) hM hpp hPR (fun n' g h1 h2 => hG n' g h2 (Or.inl h1))) hS hP hD [0, 1, 2] rfl (by decide) rfl rfl (ys_X8_bestIn) kw_14_6 kw_14_7 kw_14_8 ⟨Nat.le_of_ble_eq_true rfl, Nat.le_of_ble_eq_true rfl⟩ hl.1 (Nat.le_of_ble_eq_true rfl) dX8_fills_66 rfl rfl ⟨Nat.zero_le _, Nat.zero_le _⟩) hS hP hD [0, 1, 2] rfl (fun r66 _ H locs hp66 hP hS => ?_)
                    refine ro_top (z := (bm (rV p (V p) f9 c) 4).1) hx hp66 ?_
                    obtain ⟨mv, hm4, hmc, hbm, hVm⟩ := V_best hPR (n := c) (f := f9) (by omega) (by omega)
                    refine ro_top (z := nI mv) hx (by rw [hbm]) ?_
                    refine aftI0 C (runV_G (As := [.int (nI f9), .int (nI c), .int (nI mv)]) (rest := [.int (nI (13 * f9 + c)), .ref (ma 3)]) (ci := 8) (N := 24) (T := TX8) (q0 := 0) C (mX8_resultIn l D G q ma sN L th nd ct ht sp iw mn sr p M f3 f9 c mv hm4 hmc (by omega) hM hpp) hS hP hD [0, 1, 2] rfl (by decide) rfl rfl (ys_X8_resultIn) kw_14_10 kw_14_11 kw_14_12 ⟨Nat.le_of_ble_eq_true rfl, Nat.le_of_ble_eq_true rfl⟩ hl.1 (Nat.le_of_ble_eq_true rfl) dX8_fills_69 rfl rfl ⟨Nat.zero_le _, Nat.zero_le _⟩) hS hP hD [0, 1, 2] rfl (fun r69 _ H locs hp69 hP hS => ?_)
                    refine ro_top (z := cn p f9 c mv - f3 (13 * bh f9 mv + (c - tk mv))) hx hp69 ?_
                    refine ro_iast (k := 13 * f9 + c) hx hb hK hP hD hS 2 0 rfl rfl rfl (by omega) (by decide) dX8_fills_72 (fun H locs hP hD hS => ?_)
                    have hP : va_P D vwCl [(q, .inr (8, [.ref (ma 0), .ref (ma 1), .int (nI sN), .ref (ma 2), .int (nI L), .int th, .ref (ma 3), .ref (ma 4), .ref (ma 5), .ref (ma 6), .int nd, .int ct, .int ht, .ref (ma 7), .ref (ma 8), .ref (ma 9), .ref (ma 10), .ref (ma 11), .ref (ma 12), .ref (ma 13), .ref (ma 14), .int sp, .int iw, .int mn])), (ma 0, .inl (G.1, 457, .inl sr)), (ma 3, .inl (G.1, 169, .inl (upd f3 (13 * f9 + c) (cn p f9 c mv - f3 (13 * bh f9 mv + (c - tk mv))))))] H := hP
                    have hD : va_D A [(q, .inr (8, [.ref (ma 0), .ref (ma 1), .int (nI sN), .ref (ma 2), .int (nI L), .int th, .ref (ma 3), .ref (ma 4), .ref (ma 5), .ref (ma 6), .int nd, .int ct, .int ht, .ref (ma 7), .ref (ma 8), .ref (ma 9), .ref (ma 10), .ref (ma 11), .ref (ma 12), .ref (ma 13), .ref (ma 14), .int sp, .int iw, .int mn])), (ma 0, .inl (G.1, 457, .inl sr)), (ma 3, .inl (G.1, 169, .inl (upd f3 (13 * f9 + c) (cn p f9 c mv - f3 (13 * bh f9 mv + (c - tk mv))))))] := hD
                    refine lv_iinc (v := nI (f9 + 1)) (lv' := [(2, .int (nI (f9 + 1))), (0, .ref q), (1, .int (nI c))]) hx hb dX8_fills_73 hl (k := 2) rfl (nI_add f9 1) (by decide) rfl (fun ls hl => ?_)
                    refine lv_goto (tgt := 39) hx hb dX8_fills_76 (by decide) ?_
                    exact ih39 (f9 + 1) (upd f3 (13 * f9 + c) (cn p f9 c mv - f3 (13 * bh f9 mv + (c - tk mv)))) (by omega) (FLp_step hG (by omega) hM (by rw [hVm, rV_pos hmc, hG _ _ (by have := bh_le f9 mv; omega) (by have := tk_pos mv; omega)])) (by omega) _ _ _ hP (hD.fst rfl) hS (lv_sub hl [1, 2, 0] rfl)
              exact lp39 (13 - 0 + 1) 0 f2 (by omega) hF (Nat.lt_succ_self _) _ _ _ hP (hD.fst rfl) hS (lv_sub hl [1, 2, 0] rfl)
        exact lp27 (13 - 1 + 1) 1 f1 (by omega) (by omega) (FLp_zero hM (fun g h => hz g (by omega))) (Nat.lt_succ_self _) _ _ _ hP (hD.fst rfl) hS (lv_sub hl [1, 0] rfl)
      · have c_5 := nle_f (a := 13) (b := i) (by omega) (by omega) c_5
        refine lv_aload_n hx hb dX8_fills_8 rfl (lv_at hl 0 rfl) ?_
        refine va_get (D := D) (ci := 8) (v := .ref (ma 3)) (C := RX8) (T := TX8) (N := 24) hx hb hts inlX8 hown hK hP 0 rfl rfl 6 (by decide) (hts _ kw_5_9) (fun _ h9 => h9) rfl dX8_fills_9 ?_
        refine lv_iload_n hx hb dX8_fills_12 rfl (lv_at hl 1 rfl) ?_
        refine lv_iconst (v := 0) hx hb dX8_fills_13 (by decide) ?_
        refine aftI0 C (runS_G (As := [.int (nI i), .int 0]) (rest := [.ref (ma 3)]) C (mX8_place l D G i 0 ) hS hP hD [] rfl (by decide) (ys_X8_place) kw_14_3 kw_14_4 ⟨Nat.le_of_ble_eq_true rfl, Nat.le_of_ble_eq_true rfl⟩ hl.1 (Nat.le_of_ble_eq_true rfl) dX8_fills_14 rfl rfl ⟨Nat.zero_le _, Nat.zero_le _⟩) hS hP hD [] rfl (fun r14 _ H locs hp14 hP hS => ?_)
        refine ro_top (z := nI (13 * i + 0)) hx hp14 ?_
        refine lv_iconst (v := 0) hx hb dX8_fills_17 (by decide) ?_
        refine ro_iast (k := 13 * i + 0) hx hb hK hP hD hS 2 0 rfl rfl rfl (by omega) (by decide) dX8_fills_18 (fun H locs hP hD hS => ?_)
        have hP : va_P D vwCl [(q, .inr (8, [.ref (ma 0), .ref (ma 1), .int (nI sN), .ref (ma 2), .int (nI L), .int th, .ref (ma 3), .ref (ma 4), .ref (ma 5), .ref (ma 6), .int nd, .int ct, .int ht, .ref (ma 7), .ref (ma 8), .ref (ma 9), .ref (ma 10), .ref (ma 11), .ref (ma 12), .ref (ma 13), .ref (ma 14), .int sp, .int iw, .int mn])), (ma 0, .inl (G.1, 457, .inl sr)), (ma 3, .inl (G.1, 169, .inl (upd f1 (13 * i + 0) 0)))] H := hP
        have hD : va_D A [(q, .inr (8, [.ref (ma 0), .ref (ma 1), .int (nI sN), .ref (ma 2), .int (nI L), .int th, .ref (ma 3), .ref (ma 4), .ref (ma 5), .ref (ma 6), .int nd, .int ct, .int ht, .ref (ma 7), .ref (ma 8), .ref (ma 9), .ref (ma 10), .ref (ma 11), .ref (ma 12), .ref (ma 13), .ref (ma 14), .int sp, .int iw, .int mn])), (ma 0, .inl (G.1, 457, .inl sr)), (ma 3, .inl (G.1, 169, .inl (upd f1 (13 * i + 0) 0)))] := hD
        refine lv_iinc (v := nI (i + 1)) (lv' := [(1, .int (nI (i + 1))), (0, .ref q)]) hx hb dX8_fills_19 hl (k := 1) rfl (nI_add i 1) (by decide) rfl (fun ls hl => ?_)
        refine lv_goto (tgt := 2) hx hb dX8_fills_22 (by decide) ?_
        exact ih2 (i + 1) (upd f1 (13 * i + 0) 0) (by omega) (fl0_step hz) (by omega) _ _ _ hP (hD.fst rfl) hS (lv_sub hl [1, 0] rfl)
  exact lp2 (13 - 0 + 1) 0 fl (by omega) (fun g h => absurd h (Nat.not_lt_zero g)) (Nat.lt_succ_self _) _ _ _ hP (hD.fst rfl) hS (lv_sub hl [1, 0] rfl)
