theorem ys_X7_at : YS yX7_at cX7_at 2 (some .int) 2 := ⟨kw_7_22, kw_1_2, by decide, by decide, by decide⟩
theorem ys_X7_put : YS yX7_put cX7_put 3 none 3 := ⟨kw_8_3, kw_1_2, by decide, by decide, by decide⟩
theorem ys_X7_copy : YS yX7_copy cX7_copy 3 none 2 := ⟨kw_6_5, kw_1_2, by decide, by decide, by decide⟩
theorem ys_X7_isPosition : YS yX7_isPosition cX7_isPosition 2 (some .boolean) 2 := ⟨kw_7_20, kw_1_2, by decide, by decide, by decide⟩
theorem ys_X7_cell : YS yX7_cell cX7_cell 2 (some .int) 2 := ⟨kw_7_17, kw_1_2, by decide, by decide, by decide⟩
theorem ys_X7_isMove : YS yX7_isMove cX7_isMove 1 (some .boolean) 1 := ⟨kw_7_2, kw_1_2, by decide, by decide, by decide⟩
theorem ys_X7_pilesOf : YS yX7_pilesOf cX7_pilesOf 1 (some .int) 1 := ⟨kw_7_7, kw_1_2, by decide, by decide, by decide⟩
theorem ys_X7_isPossible : YS yX7_isPossible cX7_isPossible 2 (some .boolean) 2 := ⟨kw_7_4, kw_1_2, by decide, by decide, by decide⟩
theorem ys_X7_firstAfter : YS yX7_firstAfter cX7_firstAfter 2 (some .int) 2 := ⟨kw_7_9, kw_1_2, by decide, by decide, by decide⟩
theorem ys_X7_leftAfter : YS yX7_leftAfter cX7_leftAfter 2 (some .int) 2 := ⟨kw_7_11, kw_1_2, by decide, by decide, by decide⟩
theorem ys_X7_gainOf : YS yX7_gainOf cX7_gainOf 5 (some .int) 4 := ⟨kw_8_0, kw_1_2, by decide, by decide, by decide⟩
theorem ys_X7_isOrder : YS yX7_isOrder cX7_isOrder 1 (some .boolean) 1 := ⟨kw_11_21, kw_1_2, by decide, by decide, by decide⟩
theorem ys_X7_moveOfOrder : YS yX7_moveOfOrder cX7_moveOfOrder 2 (some .int) 2 := ⟨kw_11_7, kw_1_2, by decide, by decide, by decide⟩
theorem ys_X7_mix : YS yX7_mix cX7_mix 3 (some .long) 2 := ⟨kw_21_3, kw_1_2, by decide, by decide, by decide⟩
set_option maxHeartbeats 800000 in
set_option maxRecDepth 100000 in
theorem mX7_at (l : Launch) (D : va_G) (G : u_G) (q n : Nat) (f : Nat → Int32) (k : Nat) (hk : k < n) (hn : n < 2 ^ 31) : MtI l D G yX7_at cX7_at 2 .int 1 0 0 [.ref q, .int (nI k)] [(q, .inl (G.1, n, .inl f))] (fun (r : Int32) (_ : Unit) => r = f k) (fun (_ : Unit) => [(q, .inl (G.1, n, .inl f))]) := by
  refine MtI.of (by decide) (Nat.le_of_ble_eq_true rfl) ?_
  intro pr e s9 m9 below meth c9 A ls C hP hD hl
  obtain ⟨hx, hb, hml, hown, hts, hr, hlocks, hA, hAm⟩ := id C
  have hK := hAm.1
  have hS : va_S A s9.heap s9.heap [] := va_S.rf
  have hl : lv_has ls 2 [(0, .ref q), (1, .int (nI k))] := hl
  refine lv_iload_n hx hb dX7_at_0 rfl (lv_at hl 1 rfl) ?_
  refine lv_if_lt (tgt := 16) hx hb dX7_at_1 (by decide) (fun h => absurd h (nI_pos (by omega))) (fun _ => ?_)
  refine lv_iload_n hx hb dX7_at_4 rfl (lv_at hl 1 rfl) ?_
  refine lv_aload_n hx hb dX7_at_5 rfl (lv_at hl 0 rfl) ?_
  refine va_alen (v := nI n) hx hb hK hP 0 0 rfl rfl rfl dX7_at_6 ?_
  refine lv_icmp_ge (tgt := 16) hx hb dX7_at_7 (by decide) (fun c_7 => ?_) (fun c_7 => ?_)
  · have c_7 := nle_t (a := n) (b := k) (by omega) (by omega) c_7
    omega
  · have c_7 := nle_f (a := n) (b := k) (by omega) (by omega) c_7
    refine lv_aload_n hx hb dX7_at_10 rfl (lv_at hl 0 rfl) ?_
    refine lv_iload_n hx hb dX7_at_11 rfl (lv_at hl 1 rfl) ?_
    refine ro_iald (k := k) (v := f k) hx hb hK hP 0 0 rfl rfl rfl (by omega) (by omega) rfl dX7_at_12 ?_
    refine lv_goto (tgt := 17) hx hb dX7_at_13 (by decide) ?_
    exact endI C rfl () rfl hS hP dX7_at_17
set_option maxHeartbeats 800000 in
set_option maxRecDepth 100000 in
theorem mX7_at_t (l : Launch) (D : va_G) (G : u_G) (k : Nat) (hk : k < 96) : MtI l D G yX7_at cX7_at 2 .int 1 0 0 [.ref G.2.2.2.1, .int (nI k)] [] (fun (r : Int32) (_ : Unit) => r = nI (ordN k)) (fun (_ : Unit) => []) := by
  refine MtI.of (by decide) (Nat.le_of_ble_eq_true rfl) ?_
  intro pr e s9 m9 below meth c9 A ls C hP hD hl
  obtain ⟨hx, hb, hml, hown, hts, hr, hlocks, hA, hAm⟩ := id C
  have hK := hAm.1
  have hS : va_S A s9.heap s9.heap [] := va_S.rf
  have hl : lv_has ls 2 [(0, .ref G.2.2.2.1), (1, .int (nI k))] := hl
  refine lv_iload_n hx hb dX7_at_0 rfl (lv_at hl 1 rfl) ?_
  refine lv_if_lt (tgt := 16) hx hb dX7_at_1 (by decide) (fun h => absurd h (nI_pos (by omega))) (fun _ => ?_)
  refine lv_iload_n hx hb dX7_at_4 rfl (lv_at hl 1 rfl) ?_
  refine lv_aload_n hx hb dX7_at_5 rfl (lv_at hl 0 rfl) ?_
  refine va_tlen (v := nI 96) hx hb hAm.2.2.2.2.1.2.1 hS rfl dX7_at_6 ?_
  refine lv_icmp_ge (tgt := 16) hx hb dX7_at_7 (by decide) (fun c_7 => ?_) (fun c_7 => ?_)
  · have c_7 := nle_t (a := 96) (b := k) (by omega) (by omega) c_7
    omega
  · have c_7 := nle_f (a := 96) (b := k) (by omega) (by omega) c_7
    refine lv_aload_n hx hb dX7_at_10 rfl (lv_at hl 0 rfl) ?_
    refine lv_iload_n hx hb dX7_at_11 rfl (lv_at hl 1 rfl) ?_
    refine va_ti hx hb hAm.2.2.2.2.1.2.1 hS (v := .int (ordM k)) (vp_in_nI (by omega) (by decide)) (by simp only [nI_clamp (show k < 2 ^ 31 by omega)]) dX7_at_12 ?_
    refine lv_goto (tgt := 17) hx hb dX7_at_13 (by decide) ?_
    exact endI C rfl () rfl hS hP dX7_at_17
set_option maxHeartbeats 800000 in
set_option maxRecDepth 100000 in
theorem mX7_put (l : Launch) (D : va_G) (G : u_G) (q n : Nat) (f : Nat → Int32) (k : Nat) (v : Int32) (hk : k < n) (hn : n < 2 ^ 31) : MtV l D G yX7_put cX7_put 3 1 0 0 [.ref q, .int (nI k), .int v] [(q, .inl (G.1, n, .inl f))] (fun (_ : Unit) => True) (fun (_ : Unit) => [(q, .inl (G.1, n, .inl (upd f k v)))]) := by
  refine MtV.of (by decide) (Nat.le_of_ble_eq_true rfl) ?_
  intro pr e s9 m9 below meth c9 A ls C hP hD hl hin
  obtain ⟨hx, hb, hml, hown, hts, hr, hlocks, hA, hAm⟩ := id C
  have hK := hAm.1
  have hS : va_S A s9.heap s9.heap [] := va_S.rf
  have hl : lv_has ls 3 [(0, .ref q), (1, .int (nI k)), (2, .int v)] := hl
  refine lv_iload_n hx hb dX7_put_0 rfl (lv_at hl 1 rfl) ?_
  refine lv_if_lt (tgt := 14) hx hb dX7_put_1 (by decide) (fun h => absurd h (nI_pos (by omega))) (fun _ => ?_)
  refine lv_iload_n hx hb dX7_put_4 rfl (lv_at hl 1 rfl) ?_
  refine lv_aload_n hx hb dX7_put_5 rfl (lv_at hl 0 rfl) ?_
  refine va_alen (v := nI n) hx hb hK hP 0 0 rfl rfl rfl dX7_put_6 ?_
  refine lv_icmp_ge (tgt := 14) hx hb dX7_put_7 (by decide) (fun c_7 => ?_) (fun c_7 => ?_)
  · have c_7 := nle_t (a := n) (b := k) (by omega) (by omega) c_7
    omega
  · have c_7 := nle_f (a := n) (b := k) (by omega) (by omega) c_7
    refine lv_aload_n hx hb dX7_put_10 rfl (lv_at hl 0 rfl) ?_
    refine lv_iload_n hx hb dX7_put_11 rfl (lv_at hl 1 rfl) ?_
    refine lv_iload_n hx hb dX7_put_12 rfl (lv_at hl 2 rfl) ?_
    refine ro_iast (k := k) hx hb hK hP hD hS 0 0 rfl rfl rfl (by omega) (by omega) dX7_put_13 (fun H locs hP hD hS => ?_)
    have hP : va_P D vwCl [(q, .inl (G.1, n, .inl (upd f k v)))] H := hP
    have hD : va_D A [(q, .inl (G.1, n, .inl (upd f k v)))] := hD
    exact endV C () trivial hS hP (hD.fst rfl) dX7_put_14
set_option maxHeartbeats 800000 in
set_option maxRecDepth 100000 in
theorem mX7_copy (l : Launch) (D : va_G) (G : u_G) (q1 q2 n : Nat) (f g : Nat → Int32) (hn : n < 2 ^ 31) : MtV l D G yX7_copy cX7_copy 3 1 0 0 [.ref q1, .ref q2] [(q1, .inl (G.1, n, .inl f)), (q2, .inl (G.1, n, .inl g))] (fun (_ : Unit) => True) (fun (_ : Unit) => [(q1, .inl (G.1, n, .inl f)), (q2, .inl (G.1, n, .inl f))]) := by
  refine MtV.of (by decide) (Nat.le_of_ble_eq_true rfl) ?_
  intro pr e s9 m9 below meth c9 A ls C hP hD hl hin
  obtain ⟨hx, hb, hml, hown, hts, hr, hlocks, hA, hAm⟩ := id C
  have hK := hAm.1
  have hS : va_S A s9.heap s9.heap [] := va_S.rf
  have hl : lv_has ls 3 [(0, .ref q1), (1, .ref q2)] := hl
  refine lv_iconst (v := 0) hx hb dX7_copy_0 (by decide) ?_
  refine lv_istore_n (lv' := [(2, .int 0), (0, .ref q1), (1, .ref q2)]) hx hb dX7_copy_1 rfl hl (by decide) rfl (fun ls hl => ?_)
  have lp2 : ∀ (n2 : Nat) (i : Nat) (hi : i ≤ n) (_ : n - i < n2) (H : Heap) (locs : List Loc) (ls : Array Slot), va_P D vwCl [(q1, .inl (G.1, n, .inl f)), (q2, .inl (G.1, n, .inl (cpy f g i)))] H → va_D A [(q1, .inl (G.1, n, .inl f)), (q2, .inl (G.1, n, .inl (cpy f g i)))] → va_S A s9.heap H locs → lv_has ls 3 [(0, .ref q1), (1, .ref q2), (2, .int (nI i))] → W pr l e (rmG 1 0 0) s9 m9 (List.toArray [.ref q1, .ref q2]) below meth c9 H locs 0 0 (MQ below (va_Qv (fun (_ : Unit) => True) (fun u9 t9 => WB D ((fun (_ : Unit) => [(q1, .inl (G.1, n, .inl f)), (q2, .inl (G.1, n, .inl f))]) u9) t9 ∧ va_D A ((fun (_ : Unit) => [(q1, .inl (G.1, n, .inl f)), (q2, .inl (G.1, n, .inl f))]) u9)) A) (List.toArray [.ref q1, .ref q2]) s9 0 0 A) (F0 m9 2 ls []) := by
    intro n2
    induction n2 with
    | zero => intro i hi hm; exact absurd hm (Nat.not_lt_zero _)
    | succ n2 ih2 =>
      intro i hi hm H locs ls hP hD hS hl
      refine lv_iload_n hx hb dX7_copy_2 rfl (lv_at hl 2 rfl) ?_
      refine lv_aload_n hx hb dX7_copy_3 rfl (lv_at hl 0 rfl) ?_
      refine va_alen (v := nI n) hx hb hK hP 0 0 rfl rfl rfl dX7_copy_4 ?_
      refine lv_icmp_ge (tgt := 26) hx hb dX7_copy_5 (by decide) (fun c_5 => ?_) (fun c_5 => ?_)
      · have c_5 := nle_t (a := n) (b := i) (by omega) (by omega) c_5
        exact endV C () trivial hS (hP.arr 1 (g := f) rfl (fun j hj => cpy_lt (by omega))) (hD.fst rfl) dX7_copy_26
      · have c_5 := nle_f (a := n) (b := i) (by omega) (by omega) c_5
        refine lv_iload_n hx hb dX7_copy_8 rfl (lv_at hl 2 rfl) ?_
        refine lv_aload_n hx hb dX7_copy_9 rfl (lv_at hl 1 rfl) ?_
        refine va_alen (v := nI n) hx hb hK hP 1 0 rfl rfl rfl dX7_copy_10 ?_
        refine lv_icmp_ge (tgt := 26) hx hb dX7_copy_11 (by decide) (fun c_11 => ?_) (fun c_11 => ?_)
        · have c_11 := nle_t (a := n) (b := i) (by omega) (by omega) c_11
          omega
        · have c_11 := nle_f (a := n) (b := i) (by omega) (by omega) c_11
          refine lv_aload_n hx hb dX7_copy_14 rfl (lv_at hl 1 rfl) ?_
          refine lv_iload_n hx hb dX7_copy_15 rfl (lv_at hl 2 rfl) ?_
          refine lv_aload_n hx hb dX7_copy_16 rfl (lv_at hl 0 rfl) ?_
          refine lv_iload_n hx hb dX7_copy_17 rfl (lv_at hl 2 rfl) ?_
          refine ro_iald (k := i) (v := f i) hx hb hK hP 0 0 rfl rfl rfl (by omega) (by omega) rfl dX7_copy_18 ?_
          refine ro_iast (k := i) hx hb hK hP hD hS 1 0 rfl rfl rfl (by omega) (by omega) dX7_copy_19 (fun H locs hP hD hS => ?_)
          have hP : va_P D vwCl [(q1, .inl (G.1, n, .inl f)), (q2, .inl (G.1, n, .inl (upd (cpy f g i) i (f i))))] H := hP
          have hD : va_D A [(q1, .inl (G.1, n, .inl f)), (q2, .inl (G.1, n, .inl (upd (cpy f g i) i (f i))))] := hD
          refine lv_iinc (v := nI (i + 1)) (lv' := [(2, .int (nI (i + 1))), (0, .ref q1), (1, .ref q2)]) hx hb dX7_copy_20 hl (k := 2) rfl (nI_add i 1) (by decide) rfl (fun ls hl => ?_)
          refine lv_goto (tgt := 2) hx hb dX7_copy_23 (by decide) ?_
          rw [cpy_succ] at hP hD
          exact ih2 (i + 1) (by omega) (by omega) _ _ _ hP (hD.fst rfl) hS (lv_sub hl [1, 2, 0] rfl)
  rw [← cpy_zero f g] at hP hD
  exact lp2 (n - 0 + 1) 0 (by omega) (Nat.lt_succ_self _) _ _ _ hP (hD.fst rfl) hS (lv_sub hl [1, 2, 0] rfl)
set_option maxHeartbeats 800000 in
set_option maxRecDepth 100000 in
theorem mX7_isPosition (l : Launch) (D : va_G) (G : u_G) (x y : Int32) : MtI l D G yX7_isPosition cX7_isPosition 2 .boolean 1 0 0 [.int x, .int y] [] (fun (r : Int32) (_ : Unit) => r = bI (¬ x < 0 ∧ ¬ 12 ≤ x ∧ ¬ y < 1 ∧ ¬ 12 < y)) (fun (_ : Unit) => []) := by
  refine MtI.of (by decide) (Nat.le_of_ble_eq_true rfl) ?_
  intro pr e s9 m9 below meth c9 A ls C hP hD hl
  obtain ⟨hx, hb, hml, hown, hts, hr, hlocks, hA, hAm⟩ := id C
  have hK := hAm.1
  have hS : va_S A s9.heap s9.heap [] := va_S.rf
  have hl : lv_has ls 2 [(0, .int x), (1, .int y)] := hl
  refine lv_iload_n hx hb dX7_isPosition_0 rfl (lv_at hl 0 rfl) ?_
  refine lv_if_lt (tgt := 25) hx hb dX7_isPosition_1 (by decide) (fun c_1 => ?_) (fun c_1 => ?_)
  · refine lv_iconst (v := 0) hx hb dX7_isPosition_25 (by decide) ?_
    exact endI C rfl () (by simp [bI, c_1]) hS hP dX7_isPosition_26
  · refine lv_iload_n hx hb dX7_isPosition_4 rfl (lv_at hl 0 rfl) ?_
    refine lv_bipush (v := 12) hx hb dX7_isPosition_5 (by decide) ?_
    refine lv_icmp_ge (tgt := 25) hx hb dX7_isPosition_7 (by decide) (fun c_7 => ?_) (fun c_7 => ?_)
    · refine lv_iconst (v := 0) hx hb dX7_isPosition_25 (by decide) ?_
      exact endI C rfl () (by simp [bI, c_1, c_7]) hS hP dX7_isPosition_26
    · refine lv_iload_n hx hb dX7_isPosition_10 rfl (lv_at hl 1 rfl) ?_
      refine lv_iconst (v := 1) hx hb dX7_isPosition_11 (by decide) ?_
      refine lv_icmp_lt (tgt := 25) hx hb dX7_isPosition_12 (by decide) (fun c_12 => ?_) (fun c_12 => ?_)
      · refine lv_iconst (v := 0) hx hb dX7_isPosition_25 (by decide) ?_
        exact endI C rfl () (by simp [bI, c_1, c_7, c_12]) hS hP dX7_isPosition_26
      · refine lv_iload_n hx hb dX7_isPosition_15 rfl (lv_at hl 1 rfl) ?_
        refine lv_bipush (v := 12) hx hb dX7_isPosition_16 (by decide) ?_
        refine lv_icmp_gt (tgt := 25) hx hb dX7_isPosition_18 (by decide) (fun c_18 => ?_) (fun c_18 => ?_)
        · refine lv_iconst (v := 0) hx hb dX7_isPosition_25 (by decide) ?_
          exact endI C rfl () (by simp [bI, c_1, c_7, c_12, c_18]) hS hP dX7_isPosition_26
        · refine lv_iconst (v := 1) hx hb dX7_isPosition_21 (by decide) ?_
          refine lv_goto (tgt := 26) hx hb dX7_isPosition_22 (by decide) ?_
          exact endI C rfl () (by simp [bI, c_1, c_7, c_12, c_18]) hS hP dX7_isPosition_26
set_option maxHeartbeats 800000 in
set_option maxRecDepth 100000 in
theorem mX7_isPosition_n (l : Launch) (D : va_G) (G : u_G) (f c : Nat) (hf : f < 12) (hc : 1 ≤ c) (hc2 : c ≤ 12) : MtI l D G yX7_isPosition cX7_isPosition 2 .boolean 1 0 0 [.int (nI f), .int (nI c)] [] (fun (r : Int32) (_ : Unit) => r = 1) (fun (_ : Unit) => []) := by
  refine MtI.of (by decide) (Nat.le_of_ble_eq_true rfl) ?_
  intro pr e s9 m9 below meth c9 A ls C hP hD hl
  obtain ⟨hx, hb, hml, hown, hts, hr, hlocks, hA, hAm⟩ := id C
  have hK := hAm.1
  have hS : va_S A s9.heap s9.heap [] := va_S.rf
  have hl : lv_has ls 2 [(0, .int (nI f)), (1, .int (nI c))] := hl
  refine lv_iload_n hx hb dX7_isPosition_0 rfl (lv_at hl 0 rfl) ?_
  refine lv_if_lt (tgt := 25) hx hb dX7_isPosition_1 (by decide) (fun h => absurd h (nI_pos (by omega))) (fun _ => ?_)
  refine lv_iload_n hx hb dX7_isPosition_4 rfl (lv_at hl 0 rfl) ?_
  refine lv_bipush (v := 12) hx hb dX7_isPosition_5 (by decide) ?_
  refine lv_icmp_ge (tgt := 25) hx hb dX7_isPosition_7 (by decide) (fun c_7 => ?_) (fun c_7 => ?_)
  · have c_7 := nle_t (a := 12) (b := f) (by omega) (by omega) c_7
    omega
  · have c_7 := nle_f (a := 12) (b := f) (by omega) (by omega) c_7
    refine lv_iload_n hx hb dX7_isPosition_10 rfl (lv_at hl 1 rfl) ?_
    refine lv_iconst (v := 1) hx hb dX7_isPosition_11 (by decide) ?_
    refine lv_icmp_lt (tgt := 25) hx hb dX7_isPosition_12 (by decide) (fun c_12 => ?_) (fun c_12 => ?_)
    · have c_12 := nlt_t (a := c) (b := 1) (by omega) (by omega) c_12
      omega
    · have c_12 := nlt_f (a := c) (b := 1) (by omega) (by omega) c_12
      refine lv_iload_n hx hb dX7_isPosition_15 rfl (lv_at hl 1 rfl) ?_
      refine lv_bipush (v := 12) hx hb dX7_isPosition_16 (by decide) ?_
      refine lv_icmp_gt (tgt := 25) hx hb dX7_isPosition_18 (by decide) (fun c_18 => ?_) (fun c_18 => ?_)
      · have c_18 := nlt_t (a := 12) (b := c) (by omega) (by omega) c_18
        omega
      · have c_18 := nlt_f (a := 12) (b := c) (by omega) (by omega) c_18
        refine lv_iconst (v := 1) hx hb dX7_isPosition_21 (by decide) ?_
        refine lv_goto (tgt := 26) hx hb dX7_isPosition_22 (by decide) ?_
        exact endI C rfl () rfl hS hP dX7_isPosition_26
set_option maxHeartbeats 800000 in
set_option maxRecDepth 100000 in
theorem mX7_cell (l : Launch) (D : va_G) (G : u_G) (f c : Nat) (hf : f < 12) (hc : 1 ≤ c) (hc2 : c ≤ 12) : MtI l D G yX7_cell cX7_cell 2 .int 2 0 0 [.int (nI f), .int (nI c)] [] (fun (r : Int32) (_ : Unit) => r = nI (f * 12 + c - 1)) (fun (_ : Unit) => []) := by
  refine MtI.of (by decide) (Nat.le_of_ble_eq_true rfl) ?_
  intro pr e s9 m9 below meth c9 A ls C hP hD hl
  obtain ⟨hx, hb, hml, hown, hts, hr, hlocks, hA, hAm⟩ := id C
  have hK := hAm.1
  have hS : va_S A s9.heap s9.heap [] := va_S.rf
  have hl : lv_has ls 2 [(0, .int (nI f)), (1, .int (nI c))] := hl
  refine lv_iload_n hx hb dX7_cell_0 rfl (lv_at hl 0 rfl) ?_
  refine lv_iload_n hx hb dX7_cell_1 rfl (lv_at hl 1 rfl) ?_
  refine aftI0 C (runS_G (As := [.int (nI f), .int (nI c)]) (rest := []) C (mX7_isPosition_n l D G f c (by omega) (by omega) (by omega)) hS hP hD [] rfl (by decide) (ys_X7_isPosition) kw_7_18 kw_7_19 ⟨Nat.le_of_ble_eq_true rfl, Nat.le_of_ble_eq_true rfl⟩ hl.1 (Nat.le_of_ble_eq_true rfl) dX7_cell_2 rfl rfl ⟨Nat.zero_le _, Nat.zero_le _⟩) hS hP hD [] rfl (fun r2 _ H locs hp2 hP hS => ?_)
  refine ro_top (z := 1) hx hp2 ?_
  refine lv_if_eq (tgt := 19) hx hb dX7_cell_5 (by decide) (fun h => absurd h (by decide)) (fun _ => ?_)
  refine lv_iload_n hx hb dX7_cell_8 rfl (lv_at hl 0 rfl) ?_
  refine lv_bipush (v := 12) hx hb dX7_cell_9 (by decide) ?_
  refine ro_imul (z := nI (f * 12)) hx hb (pk_mul f 12) dX7_cell_11 ?_
  refine lv_iload_n hx hb dX7_cell_12 rfl (lv_at hl 1 rfl) ?_
  refine ro_iadd (z := nI (f * 12 + c)) hx hb (nI_add (f * 12) c) dX7_cell_13 ?_
  refine lv_iconst (v := 1) hx hb dX7_cell_14 (by decide) ?_
  refine ro_isub (z := nI (f * 12 + c - 1)) hx hb (pk_sub (a := f * 12 + c) (b := 1) (by omega)) dX7_cell_15 ?_
  refine lv_goto (tgt := 20) hx hb dX7_cell_16 (by decide) ?_
  exact endI C rfl () rfl hS hP dX7_cell_20
set_option maxHeartbeats 800000 in
set_option maxRecDepth 100000 in
theorem mX7_isMove (l : Launch) (D : va_G) (G : u_G) (x : Int32) : MtI l D G yX7_isMove cX7_isMove 1 .boolean 1 0 0 [.int x] [] (fun (r : Int32) (_ : Unit) => r = bI (¬ x < 0 ∧ ¬ 4 ≤ x)) (fun (_ : Unit) => []) := by
  refine MtI.of (by decide) (Nat.le_of_ble_eq_true rfl) ?_
  intro pr e s9 m9 below meth c9 A ls C hP hD hl
  obtain ⟨hx, hb, hml, hown, hts, hr, hlocks, hA, hAm⟩ := id C
  have hK := hAm.1
  have hS : va_S A s9.heap s9.heap [] := va_S.rf
  have hl : lv_has ls 1 [(0, .int x)] := hl
  refine lv_iload_n hx hb dX7_isMove_0 rfl (lv_at hl 0 rfl) ?_
  refine lv_if_lt (tgt := 13) hx hb dX7_isMove_1 (by decide) (fun c_1 => ?_) (fun c_1 => ?_)
  · refine lv_iconst (v := 0) hx hb dX7_isMove_13 (by decide) ?_
    exact endI C rfl () (by simp [bI, c_1]) hS hP dX7_isMove_14
  · refine lv_iload_n hx hb dX7_isMove_4 rfl (lv_at hl 0 rfl) ?_
    refine lv_iconst (v := 4) hx hb dX7_isMove_5 (by decide) ?_
    refine lv_icmp_ge (tgt := 13) hx hb dX7_isMove_6 (by decide) (fun c_6 => ?_) (fun c_6 => ?_)
    · refine lv_iconst (v := 0) hx hb dX7_isMove_13 (by decide) ?_
      exact endI C rfl () (by simp [bI, c_1, c_6]) hS hP dX7_isMove_14
    · refine lv_iconst (v := 1) hx hb dX7_isMove_9 (by decide) ?_
      refine lv_goto (tgt := 14) hx hb dX7_isMove_10 (by decide) ?_
      exact endI C rfl () (by simp [bI, c_1, c_6]) hS hP dX7_isMove_14
set_option maxHeartbeats 800000 in
set_option maxRecDepth 100000 in
theorem mX7_isMove_n (l : Launch) (D : va_G) (G : u_G) (m : Nat) (hm : m < 4) : MtI l D G yX7_isMove cX7_isMove 1 .boolean 1 0 0 [.int (nI m)] [] (fun (r : Int32) (_ : Unit) => r = 1) (fun (_ : Unit) => []) := by
  refine MtI.of (by decide) (Nat.le_of_ble_eq_true rfl) ?_
  intro pr e s9 m9 below meth c9 A ls C hP hD hl
  obtain ⟨hx, hb, hml, hown, hts, hr, hlocks, hA, hAm⟩ := id C
  have hK := hAm.1
  have hS : va_S A s9.heap s9.heap [] := va_S.rf
  have hl : lv_has ls 1 [(0, .int (nI m))] := hl
  refine lv_iload_n hx hb dX7_isMove_0 rfl (lv_at hl 0 rfl) ?_
  refine lv_if_lt (tgt := 13) hx hb dX7_isMove_1 (by decide) (fun h => absurd h (nI_pos (by omega))) (fun _ => ?_)
  refine lv_iload_n hx hb dX7_isMove_4 rfl (lv_at hl 0 rfl) ?_
  refine lv_iconst (v := 4) hx hb dX7_isMove_5 (by decide) ?_
  refine lv_icmp_ge (tgt := 13) hx hb dX7_isMove_6 (by decide) (fun c_6 => ?_) (fun c_6 => ?_)
  · have c_6 := nle_t (a := 4) (b := m) (by omega) (by omega) c_6
    omega
  · have c_6 := nle_f (a := 4) (b := m) (by omega) (by omega) c_6
    refine lv_iconst (v := 1) hx hb dX7_isMove_9 (by decide) ?_
    refine lv_goto (tgt := 14) hx hb dX7_isMove_10 (by decide) ?_
    exact endI C rfl () rfl hS hP dX7_isMove_14
set_option maxHeartbeats 800000 in
set_option maxRecDepth 100000 in
theorem mX7_isOrder (l : Launch) (D : va_G) (G : u_G) (x : Int32) : MtI l D G yX7_isOrder cX7_isOrder 1 .boolean 1 0 0 [.int x] [] (fun (r : Int32) (_ : Unit) => r = bI (¬ x < 0 ∧ ¬ 24 ≤ x)) (fun (_ : Unit) => []) := by
  refine MtI.of (by decide) (Nat.le_of_ble_eq_true rfl) ?_
  intro pr e s9 m9 below meth c9 A ls C hP hD hl
  obtain ⟨hx, hb, hml, hown, hts, hr, hlocks, hA, hAm⟩ := id C
  have hK := hAm.1
  have hS : va_S A s9.heap s9.heap [] := va_S.rf
  have hl : lv_has ls 1 [(0, .int x)] := hl
  refine lv_iload_n hx hb dX7_isOrder_0 rfl (lv_at hl 0 rfl) ?_
  refine lv_if_lt (tgt := 14) hx hb dX7_isOrder_1 (by decide) (fun c_1 => ?_) (fun c_1 => ?_)
  · refine lv_iconst (v := 0) hx hb dX7_isOrder_14 (by decide) ?_
    exact endI C rfl () (by simp [bI, c_1]) hS hP dX7_isOrder_15
  · refine lv_iload_n hx hb dX7_isOrder_4 rfl (lv_at hl 0 rfl) ?_
    refine lv_bipush (v := 24) hx hb dX7_isOrder_5 (by decide) ?_
    refine lv_icmp_ge (tgt := 14) hx hb dX7_isOrder_7 (by decide) (fun c_7 => ?_) (fun c_7 => ?_)
    · refine lv_iconst (v := 0) hx hb dX7_isOrder_14 (by decide) ?_
      exact endI C rfl () (by simp [bI, c_1, c_7]) hS hP dX7_isOrder_15
    · refine lv_iconst (v := 1) hx hb dX7_isOrder_10 (by decide) ?_
      refine lv_goto (tgt := 15) hx hb dX7_isOrder_11 (by decide) ?_
      exact endI C rfl () (by simp [bI, c_1, c_7]) hS hP dX7_isOrder_15
set_option maxHeartbeats 800000 in
set_option maxRecDepth 100000 in
theorem mX7_isOrder_n (l : Launch) (D : va_G) (G : u_G) (o : Nat) (ho : o < 24) : MtI l D G yX7_isOrder cX7_isOrder 1 .boolean 1 0 0 [.int (nI o)] [] (fun (r : Int32) (_ : Unit) => r = 1) (fun (_ : Unit) => []) := by
  refine MtI.of (by decide) (Nat.le_of_ble_eq_true rfl) ?_
  intro pr e s9 m9 below meth c9 A ls C hP hD hl
  obtain ⟨hx, hb, hml, hown, hts, hr, hlocks, hA, hAm⟩ := id C
  have hK := hAm.1
  have hS : va_S A s9.heap s9.heap [] := va_S.rf
  have hl : lv_has ls 1 [(0, .int (nI o))] := hl
  refine lv_iload_n hx hb dX7_isOrder_0 rfl (lv_at hl 0 rfl) ?_
  refine lv_if_lt (tgt := 14) hx hb dX7_isOrder_1 (by decide) (fun h => absurd h (nI_pos (by omega))) (fun _ => ?_)
  refine lv_iload_n hx hb dX7_isOrder_4 rfl (lv_at hl 0 rfl) ?_
  refine lv_bipush (v := 24) hx hb dX7_isOrder_5 (by decide) ?_
  refine lv_icmp_ge (tgt := 14) hx hb dX7_isOrder_7 (by decide) (fun c_7 => ?_) (fun c_7 => ?_)
  · have c_7 := nle_t (a := 24) (b := o) (by omega) (by omega) c_7
    omega
  · have c_7 := nle_f (a := 24) (b := o) (by omega) (by omega) c_7
    refine lv_iconst (v := 1) hx hb dX7_isOrder_10 (by decide) ?_
    refine lv_goto (tgt := 15) hx hb dX7_isOrder_11 (by decide) ?_
    exact endI C rfl () rfl hS hP dX7_isOrder_15
set_option maxHeartbeats 800000 in
set_option maxRecDepth 100000 in
theorem mX7_pilesOf (l : Launch) (D : va_G) (G : u_G) (m : Nat) (hm : m < 4) : MtI l D G yX7_pilesOf cX7_pilesOf 1 .int 1 0 0 [.int (nI m)] [] (fun (r : Int32) (_ : Unit) => r = nI (tk m)) (fun (_ : Unit) => []) := by
  refine MtI.of (by decide) (Nat.le_of_ble_eq_true rfl) ?_
  intro pr e s9 m9 below meth c9 A ls C hP hD hl
  obtain ⟨hx, hb, hml, hown, hts, hr, hlocks, hA, hAm⟩ := id C
  have hK := hAm.1
  have hS : va_S A s9.heap s9.heap [] := va_S.rf
  have hl : lv_has ls 1 [(0, .int (nI m))] := hl
  refine lv_iload_n hx hb dX7_pilesOf_0 rfl (lv_at hl 0 rfl) ?_
  refine lv_if_eq (tgt := 9) hx hb dX7_pilesOf_1 (by decide) (fun c_1 => ?_) (fun c_1 => ?_)
  · have c_1 := neq_t (a := m) (b := 0) (by omega) (by omega) c_1
    refine lv_iconst (v := 1) hx hb dX7_pilesOf_9 (by decide) ?_
    refine lv_goto (tgt := 14) hx hb dX7_pilesOf_10 (by decide) ?_
    exact endI C rfl () (congrArg nI (by unfold tk; split <;> omega)) hS hP dX7_pilesOf_14
  · have c_1 := neq_f (a := m) (b := 0) (by omega) (by omega) c_1
    refine lv_iload_n hx hb dX7_pilesOf_4 rfl (lv_at hl 0 rfl) ?_
    refine lv_iconst (v := 2) hx hb dX7_pilesOf_5 (by decide) ?_
    refine lv_icmp_ne (tgt := 13) hx hb dX7_pilesOf_6 (by decide) (fun c_6 => ?_) (fun c_6 => ?_)
    · have c_6 := neq_f (a := m) (b := 2) (by omega) (by omega) c_6
      refine lv_iconst (v := 2) hx hb dX7_pilesOf_13 (by decide) ?_
      exact endI C rfl () (congrArg nI (by unfold tk; split <;> omega)) hS hP dX7_pilesOf_14
    · have c_6 := neq_t (a := m) (b := 2) (by omega) (by omega) c_6
      refine lv_iconst (v := 1) hx hb dX7_pilesOf_9 (by decide) ?_
      refine lv_goto (tgt := 14) hx hb dX7_pilesOf_10 (by decide) ?_
      exact endI C rfl () (congrArg nI (by unfold tk; split <;> omega)) hS hP dX7_pilesOf_14
set_option maxHeartbeats 800000 in
set_option maxRecDepth 100000 in
theorem mX7_isPossible (l : Launch) (D : va_G) (G : u_G) (m n : Nat) (hm : m < 4) (hn : n ≤ 12) : MtI l D G yX7_isPossible cX7_isPossible 2 .boolean 2 0 0 [.int (nI m), .int (nI n)] [] (fun (r : Int32) (_ : Unit) => r = bI (tk m ≤ n)) (fun (_ : Unit) => []) := by
  refine MtI.of (by decide) (Nat.le_of_ble_eq_true rfl) ?_
  intro pr e s9 m9 below meth c9 A ls C hP hD hl
  obtain ⟨hx, hb, hml, hown, hts, hr, hlocks, hA, hAm⟩ := id C
  have hK := hAm.1
  have hS : va_S A s9.heap s9.heap [] := va_S.rf
  have hl : lv_has ls 2 [(0, .int (nI m)), (1, .int (nI n))] := hl
  have htk := tk_le m
  refine lv_iload_n hx hb dX7_isPossible_0 rfl (lv_at hl 0 rfl) ?_
  refine aftI0 C (runS_G (As := [.int (nI m)]) (rest := []) C (mX7_pilesOf l D G m (by omega)) hS hP hD [] rfl (by decide) (ys_X7_pilesOf) kw_7_5 kw_7_6 ⟨Nat.le_of_ble_eq_true rfl, Nat.le_of_ble_eq_true rfl⟩ hl.1 (Nat.le_of_ble_eq_true rfl) dX7_isPossible_1 rfl rfl ⟨Nat.zero_le _, Nat.zero_le _⟩) hS hP hD [] rfl (fun r1 _ H locs hp1 hP hS => ?_)
  refine ro_top (z := nI (tk m)) hx hp1 ?_
  refine lv_iload_n hx hb dX7_isPossible_4 rfl (lv_at hl 1 rfl) ?_
  refine lv_icmp_gt (tgt := 12) hx hb dX7_isPossible_5 (by decide) (fun c_5 => ?_) (fun c_5 => ?_)
  · have c_5 := nlt_t (a := n) (b := tk m) (by omega) (by omega) c_5
    refine lv_iconst (v := 0) hx hb dX7_isPossible_12 (by decide) ?_
    exact endI C rfl () (by simp [bI]; omega) hS hP dX7_isPossible_13
  · have c_5 := nlt_f (a := n) (b := tk m) (by omega) (by omega) c_5
    refine lv_iconst (v := 1) hx hb dX7_isPossible_8 (by decide) ?_
    refine lv_goto (tgt := 13) hx hb dX7_isPossible_9 (by decide) ?_
    exact endI C rfl () (by simp [bI]; omega) hS hP dX7_isPossible_13
set_option maxHeartbeats 800000 in
set_option maxRecDepth 100000 in
theorem mX7_firstAfter (l : Launch) (D : va_G) (G : u_G) (f m : Nat) (hm : m < 4) (hf : f ≤ 12) : MtI l D G yX7_firstAfter cX7_firstAfter 2 .int 2 0 0 [.int (nI f), .int (nI m)] [] (fun (r : Int32) (_ : Unit) => r = nI (bh f m)) (fun (_ : Unit) => []) := by
  refine MtI.of (by decide) (Nat.le_of_ble_eq_true rfl) ?_
  intro pr e s9 m9 below meth c9 A ls C hP hD hl
  obtain ⟨hx, hb, hml, hown, hts, hr, hlocks, hA, hAm⟩ := id C
  have hK := hAm.1
  have hS : va_S A s9.heap s9.heap [] := va_S.rf
  have hl : lv_has ls 2 [(0, .int (nI f)), (1, .int (nI m))] := hl
  refine lv_iload_n hx hb dX7_firstAfter_0 rfl (lv_at hl 1 rfl) ?_
  refine lv_iconst (v := 2) hx hb dX7_firstAfter_1 (by decide) ?_
  refine lv_icmp_ge (tgt := 14) hx hb dX7_firstAfter_2 (by decide) (fun c_2 => ?_) (fun c_2 => ?_)
  · have c_2 := nle_t (a := 2) (b := m) (by omega) (by omega) c_2
    refine lv_iload_n hx hb dX7_firstAfter_14 rfl (lv_at hl 0 rfl) ?_
    exact endI C rfl () (congrArg nI (by simp only [bh]; first | rw [if_pos (by omega)] | rw [if_neg (by omega)])) hS hP dX7_firstAfter_15
  · have c_2 := nle_f (a := 2) (b := m) (by omega) (by omega) c_2
    refine lv_iload_n hx hb dX7_firstAfter_5 rfl (lv_at hl 0 rfl) ?_
    refine lv_iload_n hx hb dX7_firstAfter_6 rfl (lv_at hl 1 rfl) ?_
    refine aftI0 C (runS_G (As := [.int (nI m)]) (rest := [.int (nI f)]) C (mX7_pilesOf l D G m (by omega)) hS hP hD [] rfl (by decide) (ys_X7_pilesOf) kw_7_5 kw_7_6 ⟨Nat.le_of_ble_eq_true rfl, Nat.le_of_ble_eq_true rfl⟩ hl.1 (Nat.le_of_ble_eq_true rfl) dX7_firstAfter_7 rfl rfl ⟨Nat.zero_le _, Nat.zero_le _⟩) hS hP hD [] rfl (fun r7 _ H locs hp7 hP hS => ?_)
    refine ro_top (z := nI (tk m)) hx hp7 ?_
    refine ro_iadd (z := nI (f + tk m)) hx hb (nI_add f (tk m)) dX7_firstAfter_10 ?_
    refine lv_goto (tgt := 15) hx hb dX7_firstAfter_11 (by decide) ?_
    exact endI C rfl () (congrArg nI (by simp only [bh]; first | rw [if_pos (by omega)] | rw [if_neg (by omega)])) hS hP dX7_firstAfter_15
set_option maxHeartbeats 800000 in
set_option maxRecDepth 100000 in
theorem mX7_leftAfter (l : Launch) (D : va_G) (G : u_G) (n m : Nat) (hm : m < 4) (hn : tk m ≤ n) (hn2 : n ≤ 12) : MtI l D G yX7_leftAfter cX7_leftAfter 2 .int 2 0 0 [.int (nI n), .int (nI m)] [] (fun (r : Int32) (_ : Unit) => r = nI (n - tk m)) (fun (_ : Unit) => []) := by
  refine MtI.of (by decide) (Nat.le_of_ble_eq_true rfl) ?_
  intro pr e s9 m9 below meth c9 A ls C hP hD hl
  obtain ⟨hx, hb, hml, hown, hts, hr, hlocks, hA, hAm⟩ := id C
  have hK := hAm.1
  have hS : va_S A s9.heap s9.heap [] := va_S.rf
  have hl : lv_has ls 2 [(0, .int (nI n)), (1, .int (nI m))] := hl
  refine lv_iload_n hx hb dX7_leftAfter_0 rfl (lv_at hl 0 rfl) ?_
  refine lv_iload_n hx hb dX7_leftAfter_1 rfl (lv_at hl 1 rfl) ?_
  refine aftI0 C (runS_G (As := [.int (nI m)]) (rest := [.int (nI n)]) C (mX7_pilesOf l D G m (by omega)) hS hP hD [] rfl (by decide) (ys_X7_pilesOf) kw_7_5 kw_7_6 ⟨Nat.le_of_ble_eq_true rfl, Nat.le_of_ble_eq_true rfl⟩ hl.1 (Nat.le_of_ble_eq_true rfl) dX7_leftAfter_2 rfl rfl ⟨Nat.zero_le _, Nat.zero_le _⟩) hS hP hD [] rfl (fun r2 _ H locs hp2 hP hS => ?_)
  refine ro_top (z := nI (tk m)) hx hp2 ?_
  refine ro_isub (z := nI (n - (tk m))) hx hb (pk_sub (a := n) (b := tk m) (by omega)) dX7_leftAfter_5 ?_
  exact endI C rfl () rfl hS hP dX7_leftAfter_6
set_option maxHeartbeats 800000 in
set_option maxRecDepth 100000 in
theorem mX7_gainOf (l : Launch) (D : va_G) (G : u_G) (q : Nat) (p : Nat → Int32) (f n m : Nat) (hm : m < 4) (hn : tk m ≤ n) (hfn : f + n ≤ 12) : MtI l D G yX7_gainOf cX7_gainOf 5 .int 2 0 0 [.ref q, .int (nI f), .int (nI n), .int (nI m)] [(q, .inl (G.1, 12, .inl p))] (fun (r : Int32) (_ : Unit) => r = cn p f n m) (fun (_ : Unit) => [(q, .inl (G.1, 12, .inl p))]) := by
  refine MtI.of (by decide) (Nat.le_of_ble_eq_true rfl) ?_
  intro pr e s9 m9 below meth c9 A ls C hP hD hl
  obtain ⟨hx, hb, hml, hown, hts, hr, hlocks, hA, hAm⟩ := id C
  have hK := hAm.1
  have hS : va_S A s9.heap s9.heap [] := va_S.rf
  have hl : lv_has ls 5 [(0, .ref q), (1, .int (nI f)), (2, .int (nI n)), (3, .int (nI m))] := hl
  have htk := tk_pos m
  refine lv_iload_n hx hb dX7_gainOf_0 rfl (lv_at hl 1 rfl) ?_
  refine lv_iload_n hx hb dX7_gainOf_1 rfl (lv_at hl 2 rfl) ?_
  refine ro_iadd (z := nI (f + n)) hx hb (nI_add f n) dX7_gainOf_2 ?_
  refine lv_iconst (v := 1) hx hb dX7_gainOf_3 (by decide) ?_
  refine ro_isub (z := nI (f + n - 1)) hx hb (pk_sub (a := f + n) (b := 1) (by omega)) dX7_gainOf_4 ?_
  refine lv_istore (lv' := [(4, .int (nI (f + n - 1))), (0, .ref q), (1, .int (nI f)), (2, .int (nI n)), (3, .int (nI m))]) hx hb dX7_gainOf_5 hl (by decide) rfl (fun ls hl => ?_)
  refine lv_iload_n hx hb dX7_gainOf_7 rfl (lv_at hl 4 rfl) ?_
  rcases (show m = 0 ∨ m = 1 ∨ m = 2 ∨ m = 3 by omega) with rfl | rfl | rfl | rfl
  · refine lv_tableIn (off := 28) (tgt := 36) hx hb dX7_gainOf_8 (by decide) (by decide) (by decide) (by decide) ?_
    refine lv_aload_n hx hb dX7_gainOf_36 rfl (lv_at hl 1 rfl) ?_
    refine lv_iload_n hx hb dX7_gainOf_37 rfl (lv_at hl 2 rfl) ?_
    refine aftI0 C (runS_G (As := [.ref q, .int (nI f)]) (rest := []) C (mX7_at l D G q 12 p f (by omega) (by omega)) hS hP hD [0] rfl (by decide) (ys_X7_at) kw_8_1 kw_7_21 ⟨Nat.le_of_ble_eq_true rfl, Nat.le_of_ble_eq_true rfl⟩ hl.1 (Nat.le_of_ble_eq_true rfl) dX7_gainOf_38 rfl rfl ⟨Nat.zero_le _, Nat.zero_le _⟩) hS hP hD [0] rfl (fun r38 _ H locs hp38 hP hS => ?_)
    refine ro_top (z := p f) hx hp38 ?_
    exact endI C rfl () rfl hS hP dX7_gainOf_41
  · have hn2 : 2 ≤ n := hn
    refine lv_tableIn (off := 34) (tgt := 42) hx hb dX7_gainOf_8 (by decide) (by decide) (by decide) (by decide) ?_
    refine lv_aload_n hx hb dX7_gainOf_42 rfl (lv_at hl 1 rfl) ?_
    refine lv_iload_n hx hb dX7_gainOf_43 rfl (lv_at hl 2 rfl) ?_
    refine aftI0 C (runS_G (As := [.ref q, .int (nI f)]) (rest := []) C (mX7_at l D G q 12 p f (by omega) (by omega)) hS hP hD [0] rfl (by decide) (ys_X7_at) kw_8_1 kw_7_21 ⟨Nat.le_of_ble_eq_true rfl, Nat.le_of_ble_eq_true rfl⟩ hl.1 (Nat.le_of_ble_eq_true rfl) dX7_gainOf_44 rfl rfl ⟨Nat.zero_le _, Nat.zero_le _⟩) hS hP hD [0] rfl (fun r44 _ H locs hp44 hP hS => ?_)
    refine ro_top (z := p f) hx hp44 ?_
    refine lv_aload_n hx hb dX7_gainOf_47 rfl (lv_at hl 1 rfl) ?_
    refine lv_iload_n hx hb dX7_gainOf_48 rfl (lv_at hl 2 rfl) ?_
    refine lv_iconst (v := 1) hx hb dX7_gainOf_49 (by decide) ?_
    refine ro_iadd (z := nI (f + 1)) hx hb (nI_add f 1) dX7_gainOf_50 ?_
    refine aftI0 C (runS_G (As := [.ref q, .int (nI (f + 1))]) (rest := [.int (p f)]) C (mX7_at l D G q 12 p (f + 1) (by omega) (by omega)) hS hP hD [0] rfl (by decide) (ys_X7_at) kw_8_1 kw_7_21 ⟨Nat.le_of_ble_eq_true rfl, Nat.le_of_ble_eq_true rfl⟩ hl.1 (Nat.le_of_ble_eq_true rfl) dX7_gainOf_51 rfl rfl ⟨Nat.zero_le _, Nat.zero_le _⟩) hS hP hD [0] rfl (fun r51 _ H locs hp51 hP hS => ?_)
    refine ro_top (z := p (f + 1)) hx hp51 ?_
    refine lv_iadd hx hb dX7_gainOf_54 ?_
    exact endI C rfl () rfl hS hP dX7_gainOf_55
  · refine lv_tableIn (off := 48) (tgt := 56) hx hb dX7_gainOf_8 (by decide) (by decide) (by decide) (by decide) ?_
    refine lv_aload_n hx hb dX7_gainOf_56 rfl (lv_at hl 1 rfl) ?_
    refine lv_iload hx hb dX7_gainOf_57 (lv_at hl 0 rfl) ?_
    refine aftI0 C (runS_G (As := [.ref q, .int (nI (f + n - 1))]) (rest := []) C (mX7_at l D G q 12 p (f + n - 1) (by omega) (by omega)) hS hP hD [0] rfl (by decide) (ys_X7_at) kw_8_1 kw_7_21 ⟨Nat.le_of_ble_eq_true rfl, Nat.le_of_ble_eq_true rfl⟩ hl.1 (Nat.le_of_ble_eq_true rfl) dX7_gainOf_59 rfl rfl ⟨Nat.zero_le _, Nat.zero_le _⟩) hS hP hD [0] rfl (fun r59 _ H locs hp59 hP hS => ?_)
    refine ro_top (z := p (f + n - 1)) hx hp59 ?_
    exact endI C rfl () rfl hS hP dX7_gainOf_62
  · have hn2 : 2 ≤ n := hn
    refine lv_tableOut (tgt := 63) hx hb dX7_gainOf_8 (by decide) (by decide) ?_
    refine lv_aload_n hx hb dX7_gainOf_63 rfl (lv_at hl 1 rfl) ?_
    refine lv_iload hx hb dX7_gainOf_64 (lv_at hl 0 rfl) ?_
    refine aftI0 C (runS_G (As := [.ref q, .int (nI (f + n - 1))]) (rest := []) C (mX7_at l D G q 12 p (f + n - 1) (by omega) (by omega)) hS hP hD [0] rfl (by decide) (ys_X7_at) kw_8_1 kw_7_21 ⟨Nat.le_of_ble_eq_true rfl, Nat.le_of_ble_eq_true rfl⟩ hl.1 (Nat.le_of_ble_eq_true rfl) dX7_gainOf_66 rfl rfl ⟨Nat.zero_le _, Nat.zero_le _⟩) hS hP hD [0] rfl (fun r66 _ H locs hp66 hP hS => ?_)
    refine ro_top (z := p (f + n - 1)) hx hp66 ?_
    refine lv_aload_n hx hb dX7_gainOf_69 rfl (lv_at hl 1 rfl) ?_
    refine lv_iload hx hb dX7_gainOf_70 (lv_at hl 0 rfl) ?_
    refine lv_iconst (v := 1) hx hb dX7_gainOf_72 (by decide) ?_
    refine ro_isub (z := nI (f + n - 1 - 1)) hx hb (pk_sub (a := f + n - 1) (b := 1) (by omega)) dX7_gainOf_73 ?_
    refine aftI0 C (runS_G (As := [.ref q, .int (nI (f + n - 1 - 1))]) (rest := [.int (p (f + n - 1))]) C (mX7_at l D G q 12 p (f + n - 1 - 1) (by omega) (by omega)) hS hP hD [0] rfl (by decide) (ys_X7_at) kw_8_1 kw_7_21 ⟨Nat.le_of_ble_eq_true rfl, Nat.le_of_ble_eq_true rfl⟩ hl.1 (Nat.le_of_ble_eq_true rfl) dX7_gainOf_74 rfl rfl ⟨Nat.zero_le _, Nat.zero_le _⟩) hS hP hD [0] rfl (fun r74 _ H locs hp74 hP hS => ?_)
    refine ro_top (z := p (f + n - 1 - 1)) hx hp74 ?_
    refine lv_iadd hx hb dX7_gainOf_77 ?_
    exact endI C rfl () rfl hS hP dX7_gainOf_78
set_option maxHeartbeats 800000 in
set_option maxRecDepth 100000 in
theorem mX7_moveOfOrder (l : Launch) (D : va_G) (G : u_G) (o k : Nat) (ho : o < 24) (hk : k < 4) : MtI l D G yX7_moveOfOrder cX7_moveOfOrder 2 .int 2 0 0 [.int (nI o), .int (nI k)] [] (fun (r : Int32) (_ : Unit) => r = nI (ordN (o * 4 + k))) (fun (_ : Unit) => []) := by
  refine MtI.of (by decide) (Nat.le_of_ble_eq_true rfl) ?_
  intro pr e s9 m9 below meth c9 A ls C hP hD hl
  obtain ⟨hx, hb, hml, hown, hts, hr, hlocks, hA, hAm⟩ := id C
  have hK := hAm.1
  have hS : va_S A s9.heap s9.heap [] := va_S.rf
  have hl : lv_has ls 2 [(0, .int (nI o)), (1, .int (nI k))] := hl
  refine va_gets hx hb hAm.2.2.2.2.1.1 hS hown (hts _ kw_11_8) (fun _ h9 => h9) dX7_moveOfOrder_0 ?_
  refine lv_iload_n hx hb dX7_moveOfOrder_3 rfl (lv_at hl 0 rfl) ?_
  refine lv_iconst (v := 4) hx hb dX7_moveOfOrder_4 (by decide) ?_
  refine ro_imul (z := nI (o * 4)) hx hb (pk_mul o 4) dX7_moveOfOrder_5 ?_
  refine lv_iload_n hx hb dX7_moveOfOrder_6 rfl (lv_at hl 1 rfl) ?_
  refine ro_iadd (z := nI (o * 4 + k)) hx hb (nI_add (o * 4) k) dX7_moveOfOrder_7 ?_
  refine aftI0 C (runS_G (As := [.ref G.2.2.2.1, .int (nI (o * 4 + k))]) (rest := []) C (mX7_at_t l D G (o * 4 + k) (by omega)) hS hP hD [] rfl (by decide) (ys_X7_at) kw_8_1 kw_7_21 ⟨Nat.le_of_ble_eq_true rfl, Nat.le_of_ble_eq_true rfl⟩ hl.1 (Nat.le_of_ble_eq_true rfl) dX7_moveOfOrder_8 rfl rfl ⟨Nat.zero_le _, Nat.zero_le _⟩) hS hP hD [] rfl (fun r8 _ H locs hp8 hP hS => ?_)
  refine ro_top (z := nI (ordN (o * 4 + k))) hx hp8 ?_
  exact endI C rfl () rfl hS hP dX7_moveOfOrder_11
set_option maxHeartbeats 800000 in
set_option maxRecDepth 100000 in
theorem mX7_mix (l : Launch) (D : va_G) (G : u_G) (h : Int64) (v : Int32) : MtL l D G yX7_mix cX7_mix 3 1 0 0 [.long h, .int v] [] (fun (r : Int64) (_ : Unit) => r = mi h v) (fun (_ : Unit) => []) := by
  refine MtL.of (by decide) (Nat.le_of_ble_eq_true rfl) ?_
  intro pr e s9 m9 below meth c9 A ls C hP hD hl
  obtain ⟨hx, hb, hml, hown, hts, hr, hlocks, hA, hAm⟩ := id C
  have hK := hAm.1
  have hS : va_S A s9.heap s9.heap [] := va_S.rf
  have hl : lv_has ls 3 [(0, .long h), (2, .int v)] := hl
  refine lv_ldc2 (v := 31) hx hb hown (hts _ kw_21_4) dX7_mix_0 ?_
  refine lv_lload_n hx hb dX7_mix_3 rfl (lv_at hl 0 rfl) ?_
  refine lv_lmul hx hb dX7_mix_4 ?_
  refine lv_iload_n hx hb dX7_mix_5 rfl (lv_at hl 1 rfl) ?_
  refine lv_i2l (v := v.toInt64) hx hb dX7_mix_6 rfl ?_
  refine lv_ladd hx hb dX7_mix_7 ?_
  exact endL C () rfl hS hP dX7_mix_8
