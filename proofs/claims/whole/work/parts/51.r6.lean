theorem ys_X8_moveOf : YS yX8_moveOf cX8_moveOf 8 (some .int) 2 := ⟨kw_21_10, kw_1_5, by decide, by decide, by decide⟩
theorem ys_X8_undo : YS yX8_undo cX8_undo 2 (some .int) 0 := ⟨kw_30_17, kw_1_5, by decide, by decide, by decide⟩
theorem ys_X8_setOrder : YS yX8_setOrder cX8_setOrder 3 (some .int) 1 := ⟨kw_26_7, kw_1_5, by decide, by decide, by decide⟩
theorem ys_X8_setLimit : YS yX8_setLimit cX8_setLimit 3 (some .int) 1 := ⟨kw_27_7, kw_1_5, by decide, by decide, by decide⟩
theorem ys_X8_useTable : YS yX8_useTable cX8_useTable 3 (some .boolean) 1 := ⟨kw_27_16, kw_1_5, by decide, by decide, by decide⟩
theorem ys_X8_filled : YS yX8_filled cX8_filled 3 (some .int) 0 := ⟨kw_24_5, kw_1_5, by decide, by decide, by decide⟩
theorem ys_X8_entries : YS yX8_entries cX8_entries 1 (some .int) 0 := ⟨kw_24_1, kw_1_5, by decide, by decide, by decide⟩
theorem ys_X8_valueAt : YS yX8_valueAt cX8_valueAt 2 (some .int) 1 := ⟨kw_25_9, kw_1_5, by decide, by decide, by decide⟩
theorem ys_X8_entryKind : YS yX8_entryKind cX8_entryKind 3 (some .int) 2 := ⟨kw_24_17, kw_1_5, by decide, by decide, by decide⟩
theorem ys_X8_entryValue : YS yX8_entryValue cX8_entryValue 3 (some .int) 2 := ⟨kw_25_5, kw_1_5, by decide, by decide, by decide⟩
theorem ys_X8_order : YS yX8_order cX8_order 2 (some .int) 1 := ⟨kw_26_19, kw_1_5, by decide, by decide, by decide⟩
set_option maxHeartbeats 800000 in
set_option maxRecDepth 100000 in
theorem mX8_moveOf (l : Launch) (D : va_G) (G : u_G) (o k : Nat) (ho : o < 24) (hk : k < 4) : MtI l D G yX8_moveOf cX8_moveOf 8 .int 1 0 0 [.int (nI o), .int (nI k)] [] (fun (r : Int32) (_ : Unit) => r = nI (ordN (o * 4 + k))) (fun (_ : Unit) => []) := by
  refine MtI.of (by decide) (Nat.le_of_ble_eq_true rfl) ?_
  intro pr e s9 m9 below meth c9 A ls C hP hD hl
  obtain ⟨hx, hb, hml, hown, hts, hr, hlocks, hA, hAm⟩ := id C
  have hK := hAm.1
  have hS : va_S A s9.heap s9.heap [] := va_S.rf
  have hl : lv_has ls 8 [(0, .int (nI o)), (1, .int (nI k))] := hl
  refine lv_iconst (v := 0) hx hb dX8_moveOf_0 (by decide) ?_
  refine lv_istore_n (lv' := [(2, .int 0), (0, .int (nI o)), (1, .int (nI k))]) hx hb dX8_moveOf_1 rfl hl (by decide) rfl (fun ls hl => ?_)
  refine lv_iload_n hx hb dX8_moveOf_2 rfl (lv_at hl 1 rfl) ?_
  refine lv_istore_n (lv' := [(3, .int (nI o)), (2, .int 0), (0, .int (nI o)), (1, .int (nI k))]) hx hb dX8_moveOf_3 rfl hl (by decide) rfl (fun ls hl => ?_)
  refine lv_iconst (v := 0) hx hb dX8_moveOf_4 (by decide) ?_
  refine lv_istore (lv' := [(4, .int 0), (3, .int (nI o)), (2, .int 0), (0, .int (nI o)), (1, .int (nI k))]) hx hb dX8_moveOf_5 hl (by decide) rfl (fun ls hl => ?_)
  refine lv_bipush (v := 6) hx hb dX8_moveOf_7 (by decide) ?_
  refine lv_istore (lv' := [(5, .int 6), (4, .int 0), (3, .int (nI o)), (2, .int 0), (0, .int (nI o)), (1, .int (nI k))]) hx hb dX8_moveOf_9 hl (by decide) rfl (fun ls hl => ?_)
  refine lv_iconst (v := 0) hx hb dX8_moveOf_11 (by decide) ?_
  refine lv_istore (lv' := [(6, .int 0), (5, .int 6), (4, .int 0), (3, .int (nI o)), (2, .int 0), (0, .int (nI o)), (1, .int (nI k))]) hx hb dX8_moveOf_12 hl (by decide) rfl (fun ls hl => ?_)
  have lp14 : ∀ (n14 : Nat) (j : Nat) (hj : j ≤ k + 1) (_ : k + 1 - j < n14) (H : Heap) (locs : List Loc) (ls : Array Slot), va_P D vwCl [] H → va_D A [] → va_S A s9.heap H locs → lv_has ls 8 [(0, .int (nI o)), (1, .int (nI k)), (2, .int (nI ((oS o j).1))), (3, .int (nI ((oS o j).2.1))), (4, .int (nI ((oS o j).2.2.1))), (5, .int (nI ((oS o j).2.2.2))), (6, .int (nI j))] → W pr l e (rmG 1 0 0) s9 m9 (List.toArray [.int (nI o), .int (nI k)]) below meth c9 H locs 0 0 (MQ below (va_Qi (fun (r : Int32) (_ : Unit) => r = nI (ordN (o * 4 + k))) (fun u9 t9 => WB D ((fun (_ : Unit) => []) u9) t9) A) (List.toArray [.int (nI o), .int (nI k)]) s9 0 0 A) (F0 m9 14 ls []) := by
    intro n14
    induction n14 with
    | zero => intro j hj hm; exact absurd hm (Nat.not_lt_zero _)
    | succ n14 ih14 =>
      intro j hj hm H locs ls hP hD hS hl
      refine lv_iload hx hb dX8_moveOf_14 (lv_at hl 6 rfl) ?_
      refine lv_iload_n hx hb dX8_moveOf_16 rfl (lv_at hl 1 rfl) ?_
      refine lv_icmp_gt (tgt := 100) hx hb dX8_moveOf_17 (by decide) (fun c_17 => ?_) (fun c_17 => ?_)
      · have c_17 := nlt_t (a := k) (b := j) (by omega) (by omega) c_17
        refine lv_iload hx hb dX8_moveOf_100 (lv_at hl 4 rfl) ?_
        exact endI C rfl () (by obtain rfl : j = k + 1 := (by omega); rw [(oS_ok o ho k hk).1]) hS hP dX8_moveOf_102
      · have c_17 := nlt_f (a := k) (b := j) (by omega) (by omega) c_17
        obtain ⟨q1, q2, q3, q4, q5, q6, q7⟩ := oS_ok o ho j (by omega)
        refine lv_iload_n hx hb dX8_moveOf_20 rfl (lv_at hl 3 rfl) ?_
        refine lv_iload hx hb dX8_moveOf_21 (lv_at hl 5 rfl) ?_
        refine lv_idiv hx hb dX8_moveOf_23 (fun h9 => by have h8 := (nI_eq (a := (oS o j).2.2.2) (b := 0) (by omega) (by decide)).mp h9; omega) ?_
        refine ro_top (z := nI ((oS o j).2.1 / (oS o j).2.2.2)) hx (pk_div (by omega) (by omega) (by omega)) ?_
        refine lv_istore (lv' := [(7, .int (nI ((oS o j).2.1 / (oS o j).2.2.2))), (0, .int (nI o)), (1, .int (nI k)), (2, .int (nI ((oS o j).1))), (3, .int (nI ((oS o j).2.1))), (4, .int (nI ((oS o j).2.2.1))), (5, .int (nI ((oS o j).2.2.2))), (6, .int (nI j))]) hx hb dX8_moveOf_24 hl (by decide) rfl (fun ls hl => ?_)
        refine lv_iload_n hx hb dX8_moveOf_26 rfl (lv_at hl 4 rfl) ?_
        refine lv_iload hx hb dX8_moveOf_27 (lv_at hl 6 rfl) ?_
        refine ro_irem (z := nI ((oS o j).2.1 % (oS o j).2.2.2)) hx hb (fun h9 => by have h8 := (nI_eq (a := (oS o j).2.2.2) (b := 0) (by omega) (by decide)).mp h9; omega) (pk_rem (a := (oS o j).2.1) (d := (oS o j).2.2.2) (by omega) (by omega) (by omega)) dX8_moveOf_29 ?_
        refine lv_istore_n (lv' := [(3, .int (nI ((oS o j).2.1 % (oS o j).2.2.2))), (7, .int (nI ((oS o j).2.1 / (oS o j).2.2.2))), (0, .int (nI o)), (1, .int (nI k)), (2, .int (nI ((oS o j).1))), (4, .int (nI ((oS o j).2.2.1))), (5, .int (nI ((oS o j).2.2.2))), (6, .int (nI j))]) hx hb dX8_moveOf_30 rfl hl (by decide) rfl (fun ls hl => ?_)
        refine lv_iconst (v := 0) hx hb dX8_moveOf_31 (by decide) ?_
        refine lv_istore (lv' := [(4, .int 0), (3, .int (nI ((oS o j).2.1 % (oS o j).2.2.2))), (7, .int (nI ((oS o j).2.1 / (oS o j).2.2.2))), (0, .int (nI o)), (1, .int (nI k)), (2, .int (nI ((oS o j).1))), (5, .int (nI ((oS o j).2.2.2))), (6, .int (nI j))]) hx hb dX8_moveOf_32 hl (by decide) rfl (fun ls hl => ?_)
        have lp34 : ∀ (n34 : Nat) (i : Nat) (s : Nat) (hs : s < 25) (hfin : inN (oS o j).1 (8 - i) i s = (oS o (j + 1)).2.2.1) (_ : 8 - i < n34) (H : Heap) (locs : List Loc) (ls : Array Slot), va_P D vwCl [] H → va_D A [] → va_S A s9.heap H locs → lv_has ls 8 [(0, .int (nI o)), (1, .int (nI k)), (2, .int (nI ((oS o j).1))), (3, .int (nI ((oS o j).2.1 % (oS o j).2.2.2))), (4, .int (nI i)), (5, .int (nI ((oS o j).2.2.2))), (6, .int (nI j)), (7, .int (nI s))] → W pr l e (rmG 1 0 0) s9 m9 (List.toArray [.int (nI o), .int (nI k)]) below meth c9 H locs 0 0 (MQ below (va_Qi (fun (r : Int32) (_ : Unit) => r = nI (ordN (o * 4 + k))) (fun u9 t9 => WB D ((fun (_ : Unit) => []) u9) t9) A) (List.toArray [.int (nI o), .int (nI k)]) s9 0 0 A) (F0 m9 34 ls []) := by
          intro n34
          induction n34 with
          | zero => intro i s hs hfin hm; exact absurd hm (Nat.not_lt_zero _)
          | succ n34 ih34 =>
            intro i s hs hfin hm H locs ls hP hD hS hl
            have hi4 : i < 4 := Nat.lt_of_le_of_lt (inN_ge (oS o j).1 (8 - i) i s) (by rw [hfin]; exact q2)
            refine lv_iload_n hx hb dX8_moveOf_34 rfl (lv_at hl 2 rfl) ?_
            refine lv_iload hx hb dX8_moveOf_35 (lv_at hl 4 rfl) ?_
            refine lv_ishr hx hb dX8_moveOf_37 ?_
            refine ro_top (z := nI ((oS o j).1 / 2 ^ i)) hx (sh_r _ q3 _ hi4) ?_
            refine lv_iconst (v := 1) hx hb dX8_moveOf_38 (by decide) ?_
            refine lv_iand hx hb dX8_moveOf_39 ?_
            refine ro_top (z := nI ((oS o j).1 / 2 ^ i % 2)) hx (an_1 _ (sh_lt q3)) ?_
            refine lv_iconst (v := 1) hx hb dX8_moveOf_40 (by decide) ?_
            refine lv_icmp_eq (tgt := 49) hx hb dX8_moveOf_41 (by decide) (fun c_41 => ?_) (fun c_41 => ?_)
            · have c_41 := neq_t (a := (oS o j).1 / 2 ^ i % 2) (b := 1) (by omega) (by omega) c_41
              refine lv_iload hx hb dX8_moveOf_49 (lv_at hl 7 rfl) ?_
              refine lv_iload_n hx hb dX8_moveOf_51 rfl (lv_at hl 2 rfl) ?_
              refine lv_iload hx hb dX8_moveOf_52 (lv_at hl 4 rfl) ?_
              refine lv_ishr hx hb dX8_moveOf_54 ?_
              refine ro_top (z := nI ((oS o j).1 / 2 ^ i)) hx (sh_r _ q3 _ hi4) ?_
              refine lv_iconst (v := 1) hx hb dX8_moveOf_55 (by decide) ?_
              refine lv_iand hx hb dX8_moveOf_56 ?_
              refine ro_top (z := nI ((oS o j).1 / 2 ^ i % 2)) hx (an_1 _ (sh_lt q3)) ?_
              refine lv_iconst (v := 1) hx hb dX8_moveOf_57 (by decide) ?_
              refine lv_icmp_ne (tgt := 65) hx hb dX8_moveOf_58 (by decide) (fun c_58 => ?_) (fun c_58 => ?_)
              · have c_58 := neq_f (a := (oS o j).1 / 2 ^ i % 2) (b := 1) (by omega) (by omega) c_58
                omega
              · have c_58 := neq_t (a := (oS o j).1 / 2 ^ i % 2) (b := 1) (by omega) (by omega) c_58
                refine lv_iconst (v := 0) hx hb dX8_moveOf_61 (by decide) ?_
                refine lv_goto (tgt := 66) hx hb dX8_moveOf_62 (by decide) ?_
                refine ro_isub (z := nI (s - 0)) hx hb (pk_sub (a := s) (b := 0) (by omega)) dX8_moveOf_66 ?_
                refine lv_istore (lv' := [(7, .int (nI (s - 0))), (0, .int (nI o)), (1, .int (nI k)), (2, .int (nI ((oS o j).1))), (3, .int (nI ((oS o j).2.1 % (oS o j).2.2.2))), (4, .int (nI i)), (5, .int (nI ((oS o j).2.2.2))), (6, .int (nI j))]) hx hb dX8_moveOf_67 hl (by decide) rfl (fun ls hl => ?_)
                refine lv_iinc (v := nI (i + 1)) (lv' := [(4, .int (nI (i + 1))), (7, .int (nI (s - 0))), (0, .int (nI o)), (1, .int (nI k)), (2, .int (nI ((oS o j).1))), (3, .int (nI ((oS o j).2.1 % (oS o j).2.2.2))), (5, .int (nI ((oS o j).2.2.2))), (6, .int (nI j))]) hx hb dX8_moveOf_69 hl (k := 5) rfl (nI_add i 1) (by decide) rfl (fun ls hl => ?_)
                refine lv_goto (tgt := 34) hx hb dX8_moveOf_72 (by decide) ?_
                exact ih34 (i + 1) s (by omega) (by rw [← hfin, show 8 - i = 8 - (i + 1) + 1 by omega, inN_go (Or.inl c_41), if_pos c_41]) (by omega) _ _ _ hP (hD.fst rfl) hS (lv_sub hl [2, 3, 4, 5, 0, 6, 7, 1] rfl)
            · have c_41 := neq_f (a := (oS o j).1 / 2 ^ i % 2) (b := 1) (by omega) (by omega) c_41
              refine lv_iload hx hb dX8_moveOf_44 (lv_at hl 7 rfl) ?_
              refine lv_if_le (tgt := 75) hx hb dX8_moveOf_46 (by decide) (fun c_46 => ?_) (fun c_46 => ?_)
              · have c_46 := nle_t (a := s) (b := 0) (by omega) (by omega) c_46
                have hfi : i = (oS o (j + 1)).2.2.1 := by rw [← hfin, show 8 - i = 8 - (i + 1) + 1 by omega, inN_end (by omega)]
                rw [← hfi] at q7
                refine lv_iload_n hx hb dX8_moveOf_75 rfl (lv_at hl 2 rfl) ?_
                refine lv_iconst (v := 1) hx hb dX8_moveOf_76 (by decide) ?_
                refine lv_iload hx hb dX8_moveOf_77 (lv_at hl 4 rfl) ?_
                refine lv_ishl hx hb dX8_moveOf_79 ?_
                refine ro_top (z := nI (2 ^ i)) hx (sh_l _ hi4) ?_
                refine lv_ior hx hb dX8_moveOf_80 ?_
                refine ro_top (z := nI ((oS o j).1 + 2 ^ i)) hx (or_b _ q3 _ hi4 q7) ?_
                refine lv_istore_n (lv' := [(2, .int (nI ((oS o j).1 + 2 ^ i))), (0, .int (nI o)), (1, .int (nI k)), (3, .int (nI ((oS o j).2.1 % (oS o j).2.2.2))), (4, .int (nI i)), (5, .int (nI ((oS o j).2.2.2))), (6, .int (nI j)), (7, .int (nI s))]) hx hb dX8_moveOf_81 rfl hl (by decide) rfl (fun ls hl => ?_)
                refine lv_iload hx hb dX8_moveOf_82 (lv_at hl 6 rfl) ?_
                refine lv_if_ne (tgt := 91) hx hb dX8_moveOf_84 (by decide) (fun c_84 => ?_) (fun c_84 => ?_)
                · have c_84 := neq_f (a := j) (b := 0) (by omega) (by omega) c_84
                  refine lv_iconst (v := 1) hx hb dX8_moveOf_91 (by decide) ?_
                  refine lv_istore (lv' := [(5, .int 1), (2, .int (nI ((oS o j).1 + 2 ^ i))), (0, .int (nI o)), (1, .int (nI k)), (3, .int (nI ((oS o j).2.1 % (oS o j).2.2.2))), (4, .int (nI i)), (6, .int (nI j)), (7, .int (nI s))]) hx hb dX8_moveOf_92 hl (by decide) rfl (fun ls hl => ?_)
                  refine lv_iinc (v := nI (j + 1)) (lv' := [(6, .int (nI (j + 1))), (5, .int 1), (2, .int (nI ((oS o j).1 + 2 ^ i))), (0, .int (nI o)), (1, .int (nI k)), (3, .int (nI ((oS o j).2.1 % (oS o j).2.2.2))), (4, .int (nI i)), (7, .int (nI s))]) hx hb dX8_moveOf_94 hl (k := 6) rfl (nI_add j 1) (by decide) rfl (fun ls hl => ?_)
                  refine lv_goto (tgt := 14) hx hb dX8_moveOf_97 (by decide) ?_
                  have e2 : (oS o (j + 1)).1 = (oS o j).1 + 2 ^ i := by show (oS o j).1 + 2 ^ (oS o (j + 1)).2.2.1 = _; rw [← hfi]
                  have e5 : (oS o (j + 1)).2.2.2 = 1 := if_neg c_84
                  exact ih14 (j + 1) (by omega) (by omega) _ _ _ hP (hD.fst rfl) hS (lv_sub hl [3, 4, 2, 5, 6, 1, 0] (by rw [e2, e5, ← hfi]; rfl))
                · have c_84 := neq_t (a := j) (b := 0) (by omega) (by omega) c_84
                  refine lv_iconst (v := 2) hx hb dX8_moveOf_87 (by decide) ?_
                  refine lv_goto (tgt := 92) hx hb dX8_moveOf_88 (by decide) ?_
                  refine lv_istore (lv' := [(5, .int 2), (2, .int (nI ((oS o j).1 + 2 ^ i))), (0, .int (nI o)), (1, .int (nI k)), (3, .int (nI ((oS o j).2.1 % (oS o j).2.2.2))), (4, .int (nI i)), (6, .int (nI j)), (7, .int (nI s))]) hx hb dX8_moveOf_92 hl (by decide) rfl (fun ls hl => ?_)
                  refine lv_iinc (v := nI (j + 1)) (lv' := [(6, .int (nI (j + 1))), (5, .int 2), (2, .int (nI ((oS o j).1 + 2 ^ i))), (0, .int (nI o)), (1, .int (nI k)), (3, .int (nI ((oS o j).2.1 % (oS o j).2.2.2))), (4, .int (nI i)), (7, .int (nI s))]) hx hb dX8_moveOf_94 hl (k := 6) rfl (nI_add j 1) (by decide) rfl (fun ls hl => ?_)
                  refine lv_goto (tgt := 14) hx hb dX8_moveOf_97 (by decide) ?_
                  have e2 : (oS o (j + 1)).1 = (oS o j).1 + 2 ^ i := by show (oS o j).1 + 2 ^ (oS o (j + 1)).2.2.1 = _; rw [← hfi]
                  have e5 : (oS o (j + 1)).2.2.2 = 2 := (by rw [c_84]; rfl)
                  exact ih14 (j + 1) (by omega) (by omega) _ _ _ hP (hD.fst rfl) hS (lv_sub hl [3, 4, 2, 5, 6, 1, 0] (by rw [e2, e5, ← hfi]; rfl))
              · have c_46 := nle_f (a := s) (b := 0) (by omega) (by omega) c_46
                refine lv_iload hx hb dX8_moveOf_49 (lv_at hl 7 rfl) ?_
                refine lv_iload_n hx hb dX8_moveOf_51 rfl (lv_at hl 2 rfl) ?_
                refine lv_iload hx hb dX8_moveOf_52 (lv_at hl 4 rfl) ?_
                refine lv_ishr hx hb dX8_moveOf_54 ?_
                refine ro_top (z := nI ((oS o j).1 / 2 ^ i)) hx (sh_r _ q3 _ hi4) ?_
                refine lv_iconst (v := 1) hx hb dX8_moveOf_55 (by decide) ?_
                refine lv_iand hx hb dX8_moveOf_56 ?_
                refine ro_top (z := nI ((oS o j).1 / 2 ^ i % 2)) hx (an_1 _ (sh_lt q3)) ?_
                refine lv_iconst (v := 1) hx hb dX8_moveOf_57 (by decide) ?_
                refine lv_icmp_ne (tgt := 65) hx hb dX8_moveOf_58 (by decide) (fun c_58 => ?_) (fun c_58 => ?_)
                · have c_58 := neq_f (a := (oS o j).1 / 2 ^ i % 2) (b := 1) (by omega) (by omega) c_58
                  refine lv_iconst (v := 1) hx hb dX8_moveOf_65 (by decide) ?_
                  refine ro_isub (z := nI (s - 1)) hx hb (pk_sub (a := s) (b := 1) (by omega)) dX8_moveOf_66 ?_
                  refine lv_istore (lv' := [(7, .int (nI (s - 1))), (0, .int (nI o)), (1, .int (nI k)), (2, .int (nI ((oS o j).1))), (3, .int (nI ((oS o j).2.1 % (oS o j).2.2.2))), (4, .int (nI i)), (5, .int (nI ((oS o j).2.2.2))), (6, .int (nI j))]) hx hb dX8_moveOf_67 hl (by decide) rfl (fun ls hl => ?_)
                  refine lv_iinc (v := nI (i + 1)) (lv' := [(4, .int (nI (i + 1))), (7, .int (nI (s - 1))), (0, .int (nI o)), (1, .int (nI k)), (2, .int (nI ((oS o j).1))), (3, .int (nI ((oS o j).2.1 % (oS o j).2.2.2))), (5, .int (nI ((oS o j).2.2.2))), (6, .int (nI j))]) hx hb dX8_moveOf_69 hl (k := 5) rfl (nI_add i 1) (by decide) rfl (fun ls hl => ?_)
                  refine lv_goto (tgt := 34) hx hb dX8_moveOf_72 (by decide) ?_
                  exact ih34 (i + 1) (s - 1) (by omega) (by rw [← hfin, show 8 - i = 8 - (i + 1) + 1 by omega, inN_go (Or.inr (by omega)), if_neg c_41]) (by omega) _ _ _ hP (hD.fst rfl) hS (lv_sub hl [2, 3, 4, 5, 0, 6, 7, 1] rfl)
                · have c_58 := neq_t (a := (oS o j).1 / 2 ^ i % 2) (b := 1) (by omega) (by omega) c_58
                  omega
        exact lp34 (8 - 0 + 1) 0 ((oS o j).2.1 / (oS o j).2.2.2) (Nat.lt_of_le_of_lt (Nat.div_le_self _ _) (by omega)) rfl (Nat.lt_succ_self _) _ _ _ hP (hD.fst rfl) hS (lv_sub hl [3, 4, 5, 1, 0, 6, 7, 2] rfl)
  exact lp14 (k + 1 - 0 + 1) 0 (by omega) (Nat.lt_succ_self _) _ _ _ hP (hD.fst rfl) hS (lv_sub hl [5, 6, 4, 3, 2, 1, 0] rfl)
