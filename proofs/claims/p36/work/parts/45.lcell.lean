theorem ys_L_cell : YS yL_cell cL_cell 2 (some .int) 2 := ⟨kw_16_17, kw_5_1, by decide, by decide, by decide⟩
set_option maxHeartbeats 1600000 in
set_option maxRecDepth 100000 in
theorem mL_cell (l : Launch) (D : va_G) (G : u_G) (k : Nat) (hk : k < 100) (hN : G.2.2.2.2.2.1 ≤ 260) : MtI l D G yL_cell cL_cell 2 .int 1 0 0 [.ref G.2.2.2.2.1, .int (nI k)] ([]) (fun (r : Int32) (_ : Unit) => r = nI (ceN G k)) (fun (_ : Unit) => ([] : va_W)) := by
  refine MtI.of (by decide) (Nat.le_of_ble_eq_true rfl) ?_
  intro pr e s9 m9 below meth c9 A ls C9 hP hD hl
  obtain ⟨hx, hb, hml, hown, hts, hr, hlocks, hA, hAm⟩ := id C9
  have hS : va_S A s9.heap s9.heap [] := va_S.rf
  have hl : lv_has ls 2 [(0, .ref G.2.2.2.2.1), (1, .int (nI k))] := hl
  refine lv_iload_n hx hb dL_cell_0 rfl (lv_at hl 1 rfl) ?_
  refine lv_aload_n hx hb dL_cell_1 rfl (lv_at hl 0 rfl) ?_
  refine va_tlen (v := nI G.2.2.2.2.2.1) hx hb hAm.2.2.2.2.1.2.2 hS rfl dL_cell_2 ?_
  refine lv_icmp_ge (tgt := 12) hx hb dL_cell_3 (by decide) (fun c_3 => ?_) (fun c_3 => ?_)
  · have c_3 := nle_t (a := G.2.2.2.2.2.1) (b := k) (by omega) (by omega) c_3
    refine lv_ldc (v := 50503) hx hb hown (hts _ kw_16_18) dL_cell_12 ?_
    refine lv_iload_n hx hb dL_cell_14 rfl (lv_at hl 1 rfl) ?_
    refine lv_bipush (v := 31) hx hb dL_cell_15 (by decide) ?_
    refine ro_iadd (z := nI (k + 31)) hx hb (nI_add k 31) dL_cell_17 ?_
    refine ro_imul (z := nI (50503 * (k + 31))) hx hb (pk_mul 50503 (k + 31)) dL_cell_18 ?_
    refine lv_bipush (v := 67) hx hb dL_cell_19 (by decide) ?_
    refine ro_iadd (z := nI (50503 * (k + 31) + 67)) hx hb (nI_add (50503 * (k + 31)) 67) dL_cell_21 ?_
    refine lv_ldc (v := 2147483647) hx hb hown (hts _ kw_16_19) dL_cell_22 ?_
    refine lv_iand hx hb dL_cell_24 ?_
    refine ro_top (z := nI (ceN G k)) hx (by rw [← ceI_eq]; unfold ceI; rw [if_neg (by omega)]) ?_
    exact endI C9 rfl () rfl hS hP dL_cell_25
  · have c_3 := nle_f (a := G.2.2.2.2.2.1) (b := k) (by omega) (by omega) c_3
    refine lv_aload_n hx hb dL_cell_6 rfl (lv_at hl 0 rfl) ?_
    refine lv_iload_n hx hb dL_cell_7 rfl (lv_at hl 1 rfl) ?_
    refine va_ti hx hb hAm.2.2.2.2.1.2.2 hS (v := .int (G.2.2.2.2.2.2 k)) (vp_in_nI (by omega) (by omega)) (by simp only [nI_clamp (show k < 2 ^ 31 by omega)]) dL_cell_8 ?_
    refine lv_goto (tgt := 22) hx hb dL_cell_9 (by decide) ?_
    refine lv_ldc (v := 2147483647) hx hb hown (hts _ kw_16_19) dL_cell_22 ?_
    refine lv_iand hx hb dL_cell_24 ?_
    refine ro_top (z := nI (ceN G k)) hx (by rw [← ceI_eq]; unfold ceI; rw [if_pos (by omega)]) ?_
    exact endI C9 rfl () rfl hS hP dL_cell_25
theorem ys_L_typed : YS yL_typed cL_typed 7 (some .int) 4 := ⟨kw_17_1, kw_5_1, by decide, by decide, by decide⟩
theorem TB_pos {G : u_G} {from9 k L : Nat} {t : Nat → Nat} (hk : 1 ≤ k) (h : TB G from9 k L t) : 1 ≤ L := by
  rcases Nat.eq_zero_or_pos L with e | e
  · subst e
    have h1 := h zf
    rw [rdA_0] at h1
    have h2 : (0 : Nat) = coN G (from9 + (k - 1)) := congrArg (fun z => z.2.2.1) h1
    have h3 := coN_in G (from9 + (k - 1))
    omega
  · exact e
set_option maxHeartbeats 1600000 in
set_option maxRecDepth 100000 in
theorem mL_typed (l : Launch) (D : va_G) (G : u_G) (q : Nat) (K : AD) (S : AS) (C : SC) (from9 many : Nat) (hN : G.2.2.2.2.2.1 ≤ 260) (h1 : 1 ≤ many) (h12 : many ≤ 12) (hf : from9 < 50) (hL60 : C.L ≤ 60) : MtI l D G yL_typed cL_typed 7 .int 8 0 0 [.ref q, .ref G.2.2.2.2.1, .int (nI from9), .int (nI many)] (OW G q K S C) (fun (r : Int32) (u : SC) => r = nI u.L ∧ 1 ≤ u.L ∧ u.L ≤ 60 ∧ (∀ k, k < u.L → u.t k < 128) ∧ TB G from9 many u.L u.t ∧ u.sv = C.sv) (fun (u : SC) => OW G q K S u) := by
  refine MtI.of (by decide) (Nat.le_of_ble_eq_true rfl) ?_
  intro pr e s9 m9 below meth c9 A ls C9 hP hD hl
  obtain ⟨hx, hb, hml, hown, hts, hr, hlocks, hA, hAm⟩ := id C9
  have hS : va_S A s9.heap s9.heap [] := va_S.rf
  have hl : lv_has ls 7 [(0, .ref q), (1, .ref G.2.2.2.2.1), (2, .int (nI from9)), (3, .int (nI many))] := hl
  refine lv_aload_n hx hb dL_typed_0 rfl (lv_at hl 0 rfl) ?_
  refine oV (As := []) (rest := []) (q0 := 0) (ci := 7) (T := TX7) (N := 5) C9 (o_clearText l D G q K S C) (fun _ => OW_fst _ _ _ _ _ _ _) hS hP hD (List.range' 0 57) (OW_get _ _ _ _ _) (by decide) (fun _ => OW_put _ _ _ _ _ _ _ _ _) rfl rfl ys_X7_clearText kw_17_2 kw_17_3 kw_17_4 ⟨Nat.le_of_ble_eq_true rfl, Nat.le_of_ble_eq_true rfl⟩ hl.1 (Nat.le_of_ble_eq_true rfl) dL_typed_1 rfl rfl ⟨Nat.zero_le _, Nat.zero_le _⟩ (fun r1 u1 H locs hp1 hP hD hS => ?_)
  refine ro_top (z := nI C.L) hx hp1 ?_
  refine lv_if_ge (tgt := 12) hx hb dL_typed_4 (by decide) (fun _ => ?_) (fun h9 => absurd (nI_pos' (by omega)) h9)
  refine lv_iconst (v := 0) hx hb dL_typed_12 (by decide) ?_
  refine lv_istore (lv' := [(4, .int 0), (0, .ref q), (1, .ref G.2.2.2.2.1), (2, .int (nI from9)), (3, .int (nI many))]) hx hb dL_typed_13 hl (by decide) rfl (fun ls hl => ?_)
  refine lv_iconst (v := 0) hx hb dL_typed_15 (by decide) ?_
  refine lv_istore (lv' := [(5, .int 0), (4, .int 0), (0, .ref q), (1, .ref G.2.2.2.2.1), (2, .int (nI from9)), (3, .int (nI many))]) hx hb dL_typed_16 hl (by decide) rfl (fun ls hl => ?_)
  have lp18 : ∀ (n18 : Nat) (i : Nat) (L9 : Nat) (t9 : Nat → Nat) (hi : i ≤ many) (hTB : (L9 = 0 ∧ i = 0) ∨ (1 ≤ i ∧ TB G from9 i L9 t9)) (hL9 : L9 ≤ 3 * i) (ht9 : ∀ k, k < L9 → t9 k < 128) (_ : many - i < n18) (H : Heap) (locs : List Loc) (ls : Array Slot), va_P D vwCl (OW G q K S (C.sv, L9, C.cnt, C.num, t9, C.v, C.w, C.c)) H → va_D A (OW G q K S (C.sv, L9, C.cnt, C.num, t9, C.v, C.w, C.c)) → va_S A s9.heap H locs → lv_has ls 7 [(0, .ref q), (1, .ref G.2.2.2.2.1), (2, .int (nI from9)), (3, .int (nI many)), (4, .int (nI L9)), (5, .int (nI i))] → W pr l e (rmG 8 0 0) s9 m9 (List.toArray [.ref q, .ref G.2.2.2.2.1, .int (nI from9), .int (nI many)]) below meth c9 H locs 0 0 (MQ below (va_Qi (fun (r : Int32) (u : SC) => r = nI u.L ∧ 1 ≤ u.L ∧ u.L ≤ 60 ∧ (∀ k, k < u.L → u.t k < 128) ∧ TB G from9 many u.L u.t ∧ u.sv = C.sv) (fun u9 t9 => WB D ((fun (u : SC) => OW G q K S u) u9) t9) A) (List.toArray [.ref q, .ref G.2.2.2.2.1, .int (nI from9), .int (nI many)]) s9 0 0 A) (F0 m9 18 ls []) := by
    intro n18
    induction n18 with
    | zero => intro i L9 t9 hi hTB hL9 ht9 hm; exact absurd hm (Nat.not_lt_zero _)
    | succ n18 ih18 =>
      intro i L9 t9 hi hTB hL9 ht9 hm H locs ls hP hD hS hl
      refine lv_iload hx hb dL_typed_18 (lv_at hl 5 rfl) ?_
      refine lv_iload_n hx hb dL_typed_20 rfl (lv_at hl 3 rfl) ?_
      refine lv_icmp_ge (tgt := 102) hx hb dL_typed_21 (by decide) (fun c_21 => ?_) (fun c_21 => ?_)
      · have c_21 := nle_t (a := many) (b := i) (by omega) (by omega) c_21
        refine lv_iload hx hb dL_typed_102 (lv_at hl 4 rfl) ?_
        have hT9 : 1 ≤ L9 ∧ TB G from9 many L9 t9 := by
          rcases hTB with ⟨h2, h3⟩ | ⟨h2, h3⟩
          · omega
          · rw [show i = many by omega] at h3
            exact ⟨TB_pos h1 h3, h3⟩
        exact endI C9 rfl (C.sv, L9, C.cnt, C.num, t9, C.v, C.w, C.c) ⟨rfl, hT9.1, (by show L9 ≤ 60; omega), ht9, hT9.2, rfl⟩ hS hP dL_typed_104
      · have c_21 := nle_f (a := many) (b := i) (by omega) (by omega) c_21
        refine lv_iconst (v := 1) hx hb dL_typed_24 (by decide) ?_
        refine lv_aload_n hx hb dL_typed_25 rfl (lv_at hl 1 rfl) ?_
        refine lv_iload_n hx hb dL_typed_26 rfl (lv_at hl 2 rfl) ?_
        refine lv_iload hx hb dL_typed_27 (lv_at hl 5 rfl) ?_
        refine ro_iadd (z := nI (from9 + i)) hx hb (nI_add from9 i) dL_typed_29 ?_
        refine oS (As := [.ref G.2.2.2.2.1, .int (nI (from9 + i))]) (rest := [.int 1]) C9 (mL_cell l D G (from9 + i) (by omega) hN) (fun _ => rfl) hS hP hD [] rfl (by decide) (fun _ => rfl) ys_L_cell kw_16_15 kw_16_16 ⟨Nat.le_of_ble_eq_true rfl, Nat.le_of_ble_eq_true rfl⟩ hl.1 (Nat.le_of_ble_eq_true rfl) dL_typed_30 rfl rfl ⟨Nat.zero_le _, Nat.zero_le _⟩ (fun r30 u30 H locs hp30 hP hD hS => ?_)
        refine ro_top (z := nI (ceN G (from9 + i))) hx hp30 ?_
        have hce := ceN_lt G (from9 + i)
        have hco := coN_in G (from9 + i)
        refine lv_bipush (v := 20) hx hb dL_typed_33 (by decide) ?_
        refine ro_irem (z := nI ((ceN G (from9 + i)) % 20)) hx hb (by decide) (nI_rem (a := ceN G (from9 + i)) (b := 20) (by omega) (by decide)) dL_typed_35 ?_
        refine ro_iadd (z := nI (coN G (from9 + i))) hx hb (nI_add 1 _) dL_typed_36 ?_
        refine lv_istore (lv' := [(6, .int (nI (coN G (from9 + i)))), (0, .ref q), (1, .ref G.2.2.2.2.1), (2, .int (nI from9)), (3, .int (nI many)), (4, .int (nI L9)), (5, .int (nI i))]) hx hb dL_typed_37 hl (by decide) rfl (fun ls hl => ?_)
        refine lv_iload hx hb dL_typed_39 (lv_at hl 6 rfl) ?_
        refine lv_if_le (tgt := 53) hx hb dL_typed_41 (by decide) (fun c_41 => ?_) (fun c_41 => ?_)
        · have c_41 := nle_t (a := i) (b := 0) (by omega) (by omega) c_41
          refine lv_iconst (v := 0) hx hb dL_typed_53 (by decide) ?_
          obtain ⟨h0L, h0⟩ : L9 = 0 ∧ i = 0 := by rcases hTB with ⟨h1, h2⟩ | ⟨h1, -⟩ <;> omega
          have hTA : TA G from9 i L9 t9 := by rw [h0L, h0]; exact TA_0 G from9 t9
          refine lv_istore (lv' := [(4, .int 0), (6, .int (nI (coN G (from9 + i)))), (0, .ref q), (1, .ref G.2.2.2.2.1), (2, .int (nI from9)), (3, .int (nI many)), (5, .int (nI i))]) hx hb dL_typed_54 hl (by decide) rfl (fun ls hl => ?_)
          refine lv_iload hx hb dL_typed_56 (lv_at hl 1 rfl) ?_
          refine lv_bipush (v := 9) hx hb dL_typed_58 (by decide) ?_
          refine lv_icmp_le (tgt := 78) hx hb dL_typed_60 (by decide) (fun c_60 => ?_) (fun c_60 => ?_)
          · have c_60 := nle_t (a := coN G (from9 + i)) (b := 9) (by omega) (by omega) c_60
            refine lv_iload hx hb dL_typed_78 (lv_at hl 0 rfl) ?_
            refine lv_istore (lv' := [(4, .int 0), (6, .int (nI (coN G (from9 + i)))), (0, .ref q), (1, .ref G.2.2.2.2.1), (2, .int (nI from9)), (3, .int (nI many)), (5, .int (nI i))]) hx hb dL_typed_80 hl (by decide) rfl (fun ls hl => ?_)
            refine lv_aload_n hx hb dL_typed_82 rfl (lv_at hl 2 rfl) ?_
            refine lv_bipush (v := 48) hx hb dL_typed_83 (by decide) ?_
            refine lv_iload hx hb dL_typed_85 (lv_at hl 1 rfl) ?_
            refine lv_bipush (v := 10) hx hb dL_typed_87 (by decide) ?_
            refine ro_irem (z := nI ((coN G (from9 + i)) % 10)) hx hb (by decide) (nI_rem (a := coN G (from9 + i)) (b := 10) (by omega) (by decide)) dL_typed_89 ?_
            refine ro_iadd (z := nI (48 + ((coN G (from9 + i)) % 10))) hx hb (nI_add 48 ((coN G (from9 + i)) % 10)) dL_typed_90 ?_
            refine oW (As := [.ref q, .int (nI (48 + ((coN G (from9 + i)) % 10)))]) (rest := []) C9 (mL_append_ok l D G q K S (C.sv, L9, C.cnt, C.num, t9, C.v, C.w, C.c) (48 + ((coN G (from9 + i)) % 10)) (by omega) (by omega) (by show L9 < 60; omega)) (fun _ => OW_fst _ _ _ _ _ _ _) hS hP hD (List.range' 0 57) (OW_get _ _ _ _ _) (by decide) (fun _ => OW_put _ _ _ _ _ _ _ _ _) yw_L_append kw_17_7 kw_17_8 ⟨Nat.le_of_ble_eq_true rfl, Nat.le_of_ble_eq_true rfl⟩ hl.1 (Nat.le_of_ble_eq_true rfl) dL_typed_91 rfl rfl ⟨Nat.zero_le _, Nat.zero_le _⟩ (fun r91 u91 H locs hp91 hP hD hS => ?_)
            refine ro_top (z := nI (L9 + 1)) hx hp91 ?_
            refine lv_istore (lv' := [(4, .int (nI (L9 + 1))), (6, .int (nI (coN G (from9 + i)))), (0, .ref q), (1, .ref G.2.2.2.2.1), (2, .int (nI from9)), (3, .int (nI many)), (5, .int (nI i))]) hx hb dL_typed_94 hl (by decide) rfl (fun ls hl => ?_)
            refine lv_iinc (v := nI (i + 1)) (lv' := [(5, .int (nI (i + 1))), (4, .int (nI (L9 + 1))), (6, .int (nI (coN G (from9 + i)))), (0, .ref q), (1, .ref G.2.2.2.2.1), (2, .int (nI from9)), (3, .int (nI many))]) hx hb dL_typed_96 hl (k := 6) rfl (nI_add i 1) (by decide) rfl (fun ls hl => ?_)
            refine lv_goto (tgt := 18) hx hb dL_typed_99 (by decide) ?_
            exact ih18 (i + 1) (L9 + 1) (va_up t9 L9 (48 + ((coN G (from9 + i)) % 10))) (by omega) (Or.inr ⟨by omega, hTA.one (by omega)⟩) (by omega) (va_up_128 ht9 (show 48 + coN G (from9 + i) % 10 < 128 by omega)) (by omega) _ _ _ hP hD hS (lv_sub hl [3, 4, 5, 6, 1, 0] rfl)
          · have c_60 := nle_f (a := coN G (from9 + i)) (b := 9) (by omega) (by omega) c_60
            refine lv_aload_n hx hb dL_typed_63 rfl (lv_at hl 2 rfl) ?_
            refine lv_bipush (v := 48) hx hb dL_typed_64 (by decide) ?_
            refine lv_iload hx hb dL_typed_66 (lv_at hl 1 rfl) ?_
            refine lv_bipush (v := 10) hx hb dL_typed_68 (by decide) ?_
            refine lv_idiv hx hb dL_typed_70 (by decide) ?_
            refine ro_top (z := nI ((coN G (from9 + i)) / 10)) hx (nI_div (a := coN G (from9 + i)) (b := 10) (by omega) (by decide)) ?_
            refine ro_iadd (z := nI (48 + ((coN G (from9 + i)) / 10))) hx hb (nI_add 48 ((coN G (from9 + i)) / 10)) dL_typed_71 ?_
            refine oW (As := [.ref q, .int (nI (48 + ((coN G (from9 + i)) / 10)))]) (rest := []) C9 (mL_append_ok l D G q K S (C.sv, L9, C.cnt, C.num, t9, C.v, C.w, C.c) (48 + ((coN G (from9 + i)) / 10)) (by omega) (by omega) (by show L9 < 60; omega)) (fun _ => OW_fst _ _ _ _ _ _ _) hS hP hD (List.range' 0 57) (OW_get _ _ _ _ _) (by decide) (fun _ => OW_put _ _ _ _ _ _ _ _ _) yw_L_append kw_17_7 kw_17_8 ⟨Nat.le_of_ble_eq_true rfl, Nat.le_of_ble_eq_true rfl⟩ hl.1 (Nat.le_of_ble_eq_true rfl) dL_typed_72 rfl rfl ⟨Nat.zero_le _, Nat.zero_le _⟩ (fun r72 u72 H locs hp72 hP hD hS => ?_)
            refine ro_top (z := nI (L9 + 1)) hx hp72 ?_
            refine lv_goto (tgt := 80) hx hb dL_typed_75 (by decide) ?_
            refine lv_istore (lv' := [(4, .int (nI (L9 + 1))), (6, .int (nI (coN G (from9 + i)))), (0, .ref q), (1, .ref G.2.2.2.2.1), (2, .int (nI from9)), (3, .int (nI many)), (5, .int (nI i))]) hx hb dL_typed_80 hl (by decide) rfl (fun ls hl => ?_)
            refine lv_aload_n hx hb dL_typed_82 rfl (lv_at hl 2 rfl) ?_
            refine lv_bipush (v := 48) hx hb dL_typed_83 (by decide) ?_
            refine lv_iload hx hb dL_typed_85 (lv_at hl 1 rfl) ?_
            refine lv_bipush (v := 10) hx hb dL_typed_87 (by decide) ?_
            refine ro_irem (z := nI ((coN G (from9 + i)) % 10)) hx hb (by decide) (nI_rem (a := coN G (from9 + i)) (b := 10) (by omega) (by decide)) dL_typed_89 ?_
            refine ro_iadd (z := nI (48 + ((coN G (from9 + i)) % 10))) hx hb (nI_add 48 ((coN G (from9 + i)) % 10)) dL_typed_90 ?_
            refine oW (As := [.ref q, .int (nI (48 + ((coN G (from9 + i)) % 10)))]) (rest := []) C9 (mL_append_ok l D G q K S (C.sv, L9 + 1, C.cnt, C.num, va_up t9 L9 (48 + ((coN G (from9 + i)) / 10)), C.v, C.w, C.c) (48 + ((coN G (from9 + i)) % 10)) (by omega) (by omega) (by show L9 + 1 < 60; omega)) (fun _ => OW_fst _ _ _ _ _ _ _) hS hP hD (List.range' 0 57) (OW_get _ _ _ _ _) (by decide) (fun _ => OW_put _ _ _ _ _ _ _ _ _) yw_L_append kw_17_7 kw_17_8 ⟨Nat.le_of_ble_eq_true rfl, Nat.le_of_ble_eq_true rfl⟩ hl.1 (Nat.le_of_ble_eq_true rfl) dL_typed_91 rfl rfl ⟨Nat.zero_le _, Nat.zero_le _⟩ (fun r91 u91 H locs hp91 hP hD hS => ?_)
            refine ro_top (z := nI ((L9 + 1) + 1)) hx hp91 ?_
            refine lv_istore (lv' := [(4, .int (nI ((L9 + 1) + 1))), (6, .int (nI (coN G (from9 + i)))), (0, .ref q), (1, .ref G.2.2.2.2.1), (2, .int (nI from9)), (3, .int (nI many)), (5, .int (nI i))]) hx hb dL_typed_94 hl (by decide) rfl (fun ls hl => ?_)
            refine lv_iinc (v := nI (i + 1)) (lv' := [(5, .int (nI (i + 1))), (4, .int (nI ((L9 + 1) + 1))), (6, .int (nI (coN G (from9 + i)))), (0, .ref q), (1, .ref G.2.2.2.2.1), (2, .int (nI from9)), (3, .int (nI many))]) hx hb dL_typed_96 hl (k := 6) rfl (nI_add i 1) (by decide) rfl (fun ls hl => ?_)
            refine lv_goto (tgt := 18) hx hb dL_typed_99 (by decide) ?_
            exact ih18 (i + 1) ((L9 + 1) + 1) (va_up (va_up t9 L9 (48 + ((coN G (from9 + i)) / 10))) (L9 + 1) (48 + ((coN G (from9 + i)) % 10))) (by omega) (Or.inr ⟨by omega, hTA.two (by omega)⟩) (by omega) (va_up_128 (va_up_128 ht9 (show 48 + coN G (from9 + i) / 10 < 128 by omega)) (show 48 + coN G (from9 + i) % 10 < 128 by omega)) (by omega) _ _ _ hP hD hS (lv_sub hl [3, 4, 5, 6, 1, 0] rfl)
        · have c_41 := nle_f (a := i) (b := 0) (by omega) (by omega) c_41
          refine lv_aload_n hx hb dL_typed_44 rfl (lv_at hl 1 rfl) ?_
          refine lv_bipush (v := 44) hx hb dL_typed_45 (by decide) ?_
          refine oW (As := [.ref q, .int 44]) (rest := []) C9 (mL_append_ok l D G q K S (C.sv, L9, C.cnt, C.num, t9, C.v, C.w, C.c) 44 (by omega) (by omega) (by show L9 < 60; omega)) (fun _ => OW_fst _ _ _ _ _ _ _) hS hP hD (List.range' 0 57) (OW_get _ _ _ _ _) (by decide) (fun _ => OW_put _ _ _ _ _ _ _ _ _) yw_L_append kw_17_7 kw_17_8 ⟨Nat.le_of_ble_eq_true rfl, Nat.le_of_ble_eq_true rfl⟩ hl.1 (Nat.le_of_ble_eq_true rfl) dL_typed_47 rfl rfl ⟨Nat.zero_le _, Nat.zero_le _⟩ (fun r47 u47 H locs hp47 hP hD hS => ?_)
          refine ro_top (z := nI (L9 + 1)) hx hp47 ?_
          refine lv_goto (tgt := 54) hx hb dL_typed_50 (by decide) ?_
          have hTA : TA G from9 i (L9 + 1) (va_up t9 L9 44) := by rcases hTB with ⟨h1, h2⟩ | ⟨h1, h2⟩ <;> first | omega | exact h2.comma h1 (by omega)
          refine lv_istore (lv' := [(4, .int (nI (L9 + 1))), (6, .int (nI (coN G (from9 + i)))), (0, .ref q), (1, .ref G.2.2.2.2.1), (2, .int (nI from9)), (3, .int (nI many)), (5, .int (nI i))]) hx hb dL_typed_54 hl (by decide) rfl (fun ls hl => ?_)
          refine lv_iload hx hb dL_typed_56 (lv_at hl 1 rfl) ?_
          refine lv_bipush (v := 9) hx hb dL_typed_58 (by decide) ?_
          refine lv_icmp_le (tgt := 78) hx hb dL_typed_60 (by decide) (fun c_60 => ?_) (fun c_60 => ?_)
          · have c_60 := nle_t (a := coN G (from9 + i)) (b := 9) (by omega) (by omega) c_60
            refine lv_iload hx hb dL_typed_78 (lv_at hl 0 rfl) ?_
            refine lv_istore (lv' := [(4, .int (nI (L9 + 1))), (6, .int (nI (coN G (from9 + i)))), (0, .ref q), (1, .ref G.2.2.2.2.1), (2, .int (nI from9)), (3, .int (nI many)), (5, .int (nI i))]) hx hb dL_typed_80 hl (by decide) rfl (fun ls hl => ?_)
            refine lv_aload_n hx hb dL_typed_82 rfl (lv_at hl 2 rfl) ?_
            refine lv_bipush (v := 48) hx hb dL_typed_83 (by decide) ?_
            refine lv_iload hx hb dL_typed_85 (lv_at hl 1 rfl) ?_
            refine lv_bipush (v := 10) hx hb dL_typed_87 (by decide) ?_
            refine ro_irem (z := nI ((coN G (from9 + i)) % 10)) hx hb (by decide) (nI_rem (a := coN G (from9 + i)) (b := 10) (by omega) (by decide)) dL_typed_89 ?_
            refine ro_iadd (z := nI (48 + ((coN G (from9 + i)) % 10))) hx hb (nI_add 48 ((coN G (from9 + i)) % 10)) dL_typed_90 ?_
            refine oW (As := [.ref q, .int (nI (48 + ((coN G (from9 + i)) % 10)))]) (rest := []) C9 (mL_append_ok l D G q K S (C.sv, L9 + 1, C.cnt, C.num, va_up t9 L9 44, C.v, C.w, C.c) (48 + ((coN G (from9 + i)) % 10)) (by omega) (by omega) (by show L9 + 1 < 60; omega)) (fun _ => OW_fst _ _ _ _ _ _ _) hS hP hD (List.range' 0 57) (OW_get _ _ _ _ _) (by decide) (fun _ => OW_put _ _ _ _ _ _ _ _ _) yw_L_append kw_17_7 kw_17_8 ⟨Nat.le_of_ble_eq_true rfl, Nat.le_of_ble_eq_true rfl⟩ hl.1 (Nat.le_of_ble_eq_true rfl) dL_typed_91 rfl rfl ⟨Nat.zero_le _, Nat.zero_le _⟩ (fun r91 u91 H locs hp91 hP hD hS => ?_)
            refine ro_top (z := nI ((L9 + 1) + 1)) hx hp91 ?_
            refine lv_istore (lv' := [(4, .int (nI ((L9 + 1) + 1))), (6, .int (nI (coN G (from9 + i)))), (0, .ref q), (1, .ref G.2.2.2.2.1), (2, .int (nI from9)), (3, .int (nI many)), (5, .int (nI i))]) hx hb dL_typed_94 hl (by decide) rfl (fun ls hl => ?_)
            refine lv_iinc (v := nI (i + 1)) (lv' := [(5, .int (nI (i + 1))), (4, .int (nI ((L9 + 1) + 1))), (6, .int (nI (coN G (from9 + i)))), (0, .ref q), (1, .ref G.2.2.2.2.1), (2, .int (nI from9)), (3, .int (nI many))]) hx hb dL_typed_96 hl (k := 6) rfl (nI_add i 1) (by decide) rfl (fun ls hl => ?_)
            refine lv_goto (tgt := 18) hx hb dL_typed_99 (by decide) ?_
            exact ih18 (i + 1) ((L9 + 1) + 1) (va_up (va_up t9 L9 44) (L9 + 1) (48 + ((coN G (from9 + i)) % 10))) (by omega) (Or.inr ⟨by omega, hTA.one (by omega)⟩) (by omega) (va_up_128 (va_up_128 ht9 (show 44 < 128 by omega)) (show 48 + coN G (from9 + i) % 10 < 128 by omega)) (by omega) _ _ _ hP hD hS (lv_sub hl [3, 4, 5, 6, 1, 0] rfl)
          · have c_60 := nle_f (a := coN G (from9 + i)) (b := 9) (by omega) (by omega) c_60
            refine lv_aload_n hx hb dL_typed_63 rfl (lv_at hl 2 rfl) ?_
            refine lv_bipush (v := 48) hx hb dL_typed_64 (by decide) ?_
            refine lv_iload hx hb dL_typed_66 (lv_at hl 1 rfl) ?_
            refine lv_bipush (v := 10) hx hb dL_typed_68 (by decide) ?_
            refine lv_idiv hx hb dL_typed_70 (by decide) ?_
            refine ro_top (z := nI ((coN G (from9 + i)) / 10)) hx (nI_div (a := coN G (from9 + i)) (b := 10) (by omega) (by decide)) ?_
            refine ro_iadd (z := nI (48 + ((coN G (from9 + i)) / 10))) hx hb (nI_add 48 ((coN G (from9 + i)) / 10)) dL_typed_71 ?_
            refine oW (As := [.ref q, .int (nI (48 + ((coN G (from9 + i)) / 10)))]) (rest := []) C9 (mL_append_ok l D G q K S (C.sv, L9 + 1, C.cnt, C.num, va_up t9 L9 44, C.v, C.w, C.c) (48 + ((coN G (from9 + i)) / 10)) (by omega) (by omega) (by show L9 + 1 < 60; omega)) (fun _ => OW_fst _ _ _ _ _ _ _) hS hP hD (List.range' 0 57) (OW_get _ _ _ _ _) (by decide) (fun _ => OW_put _ _ _ _ _ _ _ _ _) yw_L_append kw_17_7 kw_17_8 ⟨Nat.le_of_ble_eq_true rfl, Nat.le_of_ble_eq_true rfl⟩ hl.1 (Nat.le_of_ble_eq_true rfl) dL_typed_72 rfl rfl ⟨Nat.zero_le _, Nat.zero_le _⟩ (fun r72 u72 H locs hp72 hP hD hS => ?_)
            refine ro_top (z := nI ((L9 + 1) + 1)) hx hp72 ?_
            refine lv_goto (tgt := 80) hx hb dL_typed_75 (by decide) ?_
            refine lv_istore (lv' := [(4, .int (nI ((L9 + 1) + 1))), (6, .int (nI (coN G (from9 + i)))), (0, .ref q), (1, .ref G.2.2.2.2.1), (2, .int (nI from9)), (3, .int (nI many)), (5, .int (nI i))]) hx hb dL_typed_80 hl (by decide) rfl (fun ls hl => ?_)
            refine lv_aload_n hx hb dL_typed_82 rfl (lv_at hl 2 rfl) ?_
            refine lv_bipush (v := 48) hx hb dL_typed_83 (by decide) ?_
            refine lv_iload hx hb dL_typed_85 (lv_at hl 1 rfl) ?_
            refine lv_bipush (v := 10) hx hb dL_typed_87 (by decide) ?_
            refine ro_irem (z := nI ((coN G (from9 + i)) % 10)) hx hb (by decide) (nI_rem (a := coN G (from9 + i)) (b := 10) (by omega) (by decide)) dL_typed_89 ?_
            refine ro_iadd (z := nI (48 + ((coN G (from9 + i)) % 10))) hx hb (nI_add 48 ((coN G (from9 + i)) % 10)) dL_typed_90 ?_
            refine oW (As := [.ref q, .int (nI (48 + ((coN G (from9 + i)) % 10)))]) (rest := []) C9 (mL_append_ok l D G q K S (C.sv, (L9 + 1) + 1, C.cnt, C.num, va_up (va_up t9 L9 44) (L9 + 1) (48 + ((coN G (from9 + i)) / 10)), C.v, C.w, C.c) (48 + ((coN G (from9 + i)) % 10)) (by omega) (by omega) (by show (L9 + 1) + 1 < 60; omega)) (fun _ => OW_fst _ _ _ _ _ _ _) hS hP hD (List.range' 0 57) (OW_get _ _ _ _ _) (by decide) (fun _ => OW_put _ _ _ _ _ _ _ _ _) yw_L_append kw_17_7 kw_17_8 ⟨Nat.le_of_ble_eq_true rfl, Nat.le_of_ble_eq_true rfl⟩ hl.1 (Nat.le_of_ble_eq_true rfl) dL_typed_91 rfl rfl ⟨Nat.zero_le _, Nat.zero_le _⟩ (fun r91 u91 H locs hp91 hP hD hS => ?_)
            refine ro_top (z := nI (((L9 + 1) + 1) + 1)) hx hp91 ?_
            refine lv_istore (lv' := [(4, .int (nI (((L9 + 1) + 1) + 1))), (6, .int (nI (coN G (from9 + i)))), (0, .ref q), (1, .ref G.2.2.2.2.1), (2, .int (nI from9)), (3, .int (nI many)), (5, .int (nI i))]) hx hb dL_typed_94 hl (by decide) rfl (fun ls hl => ?_)
            refine lv_iinc (v := nI (i + 1)) (lv' := [(5, .int (nI (i + 1))), (4, .int (nI (((L9 + 1) + 1) + 1))), (6, .int (nI (coN G (from9 + i)))), (0, .ref q), (1, .ref G.2.2.2.2.1), (2, .int (nI from9)), (3, .int (nI many))]) hx hb dL_typed_96 hl (k := 6) rfl (nI_add i 1) (by decide) rfl (fun ls hl => ?_)
            refine lv_goto (tgt := 18) hx hb dL_typed_99 (by decide) ?_
            exact ih18 (i + 1) (((L9 + 1) + 1) + 1) (va_up (va_up (va_up t9 L9 44) (L9 + 1) (48 + ((coN G (from9 + i)) / 10))) ((L9 + 1) + 1) (48 + ((coN G (from9 + i)) % 10))) (by omega) (Or.inr ⟨by omega, hTA.two (by omega)⟩) (by omega) (va_up_128 (va_up_128 (va_up_128 ht9 (show 44 < 128 by omega)) (show 48 + coN G (from9 + i) / 10 < 128 by omega)) (show 48 + coN G (from9 + i) % 10 < 128 by omega)) (by omega) _ _ _ hP hD hS (lv_sub hl [3, 4, 5, 6, 1, 0] rfl)
  exact lp18 (many - 0 + 1) 0 0 C.t (by omega) (Or.inl ⟨rfl, rfl⟩) (by omega) (fun k hk => absurd hk (Nat.not_lt_zero _)) (Nat.lt_succ_self _) _ _ _ hP hD hS (lv_sub hl [2, 3, 4, 5, 1, 0] rfl)
