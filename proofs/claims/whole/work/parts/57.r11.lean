/-! pieces of a search: from one place of the code to the next -/
abbrev GdW (pr : Program) (l : Launch) (e : Env) (s9 : State) (m9 : MethodId) (args : Array Value) (below : List Frame) (meth : Method) (c9 : Code) (A : Nat → Prop) (D : va_G) (QQ : State → Prop) (ws : va_W) (pc : Nat) (lv : List (Nat × Value)) : Prop :=
  ∀ (H : Heap) (locs : List Loc) (ls : Array Slot), va_P D vwCl ws H → va_D A ws → va_S A s9.heap H locs → lv_has ls 13 lv → W pr l e (rmG 4 0 0) s9 m9 args below meth c9 H locs 0 0 QQ (F0 m9 pc ls [])
set_option maxHeartbeats 800000 in
set_option maxRecDepth 100000 in
theorem sgA {pr : Program} {l : Launch} {e : Env} {s9 : State} {m9 : MethodId} {args : Array Value} {below : List Frame} {meth : Method} {c9 : Code} {A : Nat → Prop} {D : va_G} {G : u_G} {QQ : State → Prop} (C : Cx pr m9 s9 args meth c9 cX8_searches 13 RX8 (some .int) A D G) {q : Nat} {ma : Nat → Nat} {sN L nN : Nat} {th ct ht sp iw mn : Int32} {sr p : Nat → Int32} {x : Nat → Nat} {y : Nat → Int32} {M : Nat} {kd dp vl : Nat → Int32} {of : Nat → Int32} {aF nF tF : Nat → Nat} {lo hi be ga : Nat → Int32} {o lv dpt : Nat}  (hR : RowR sr x y M p) (hM : M ≤ 12) (hlv : lv ≤ dpt) (hdp : dpt ≤ 12) (hnN : nN ≤ 10000) (hx19 : x 19 ≤ 5000) (hu : x 20 ≤ 1) (hfn : aF lv + nF lv ≤ M) (ho : o < 24) (hO : ∀ j, j < 4 → of j = nI (odf o j)) (kkS : x 19 < nN → GdW pr l e s9 m9 args below meth c9 A D QQ [(q, .inr (8, [.ref (ma 0), .ref (ma 1), .int (nI sN), .ref (ma 2), .int (nI L), .int th, .ref (ma 3), .ref (ma 4), .ref (ma 5), .ref (ma 6), .int (nI nN), .int ct, .int ht, .ref (ma 7), .ref (ma 8), .ref (ma 9), .ref (ma 10), .ref (ma 11), .ref (ma 12), .ref (ma 13), .ref (ma 14), .int sp, .int iw, .int mn])), (ma 0, .inl (G.1, 457, .inl sr)), (ma 4, .inl (G.1, 144, .inl kd)), (ma 5, .inl (G.1, 144, .inl dp)), (ma 6, .inl (G.1, 144, .inl vl)), (ma 7, .inl (G.1, 4, .inl of)), (ma 8, .inl (G.1, 14, .inl (tN aF))), (ma 9, .inl (G.1, 14, .inl (tN nF))), (ma 10, .inl (G.1, 14, .inl lo)), (ma 11, .inl (G.1, 14, .inl hi)), (ma 12, .inl (G.1, 14, .inl be)), (ma 13, .inl (G.1, 14, .inl ga)), (ma 14, .inl (G.1, 14, .inl (tN tF)))] 140 [(0, .ref q)]) (kk0 : nN ≤ x 19 → (nF lv = 0 ∨ lv = dpt) → GdW pr l e s9 m9 args below meth c9 A D QQ [(q, .inr (8, [.ref (ma 0), .ref (ma 1), .int (nI sN), .ref (ma 2), .int (nI L), .int th, .ref (ma 3), .ref (ma 4), .ref (ma 5), .ref (ma 6), .int (nI nN), .int ct, .int ht, .ref (ma 7), .ref (ma 8), .ref (ma 9), .ref (ma 10), .ref (ma 11), .ref (ma 12), .ref (ma 13), .ref (ma 14), .int sp, .int iw, .int mn])), (ma 0, .inl (G.1, 457, .inl sr)), (ma 4, .inl (G.1, 144, .inl kd)), (ma 5, .inl (G.1, 144, .inl dp)), (ma 6, .inl (G.1, 144, .inl vl)), (ma 7, .inl (G.1, 4, .inl of)), (ma 8, .inl (G.1, 14, .inl (tN aF))), (ma 9, .inl (G.1, 14, .inl (tN nF))), (ma 10, .inl (G.1, 14, .inl lo)), (ma 11, .inl (G.1, 14, .inl hi)), (ma 12, .inl (G.1, 14, .inl be)), (ma 13, .inl (G.1, 14, .inl ga)), (ma 14, .inl (G.1, 14, .inl (tN tF)))] 115 [(0, .ref q), (1, .int (nI dpt)), (5, .int (nI lv + (-1))), (6, .int 0), (7, .int 0)]) (kkH : nN ≤ x 19 → ¬ nF lv = 0 → lv < dpt → (x 20 = 0 ∧ hitP kd vl dp (aF lv * 12 + nF lv - 1) (dpt - lv) (lo lv) (hi lv)) → GdW pr l e s9 m9 args below meth c9 A D QQ [(q, .inr (8, [.ref (ma 0), .ref (ma 1), .int (nI sN), .ref (ma 2), .int (nI L), .int th, .ref (ma 3), .ref (ma 4), .ref (ma 5), .ref (ma 6), .int (nI nN), .int ct, .int (ht + 1), .ref (ma 7), .ref (ma 8), .ref (ma 9), .ref (ma 10), .ref (ma 11), .ref (ma 12), .ref (ma 13), .ref (ma 14), .int sp, .int iw, .int mn])), (ma 0, .inl (G.1, 457, .inl sr)), (ma 4, .inl (G.1, 144, .inl kd)), (ma 5, .inl (G.1, 144, .inl dp)), (ma 6, .inl (G.1, 144, .inl vl)), (ma 7, .inl (G.1, 4, .inl of)), (ma 8, .inl (G.1, 14, .inl (tN aF))), (ma 9, .inl (G.1, 14, .inl (tN nF))), (ma 10, .inl (G.1, 14, .inl lo)), (ma 11, .inl (G.1, 14, .inl hi)), (ma 12, .inl (G.1, 14, .inl be)), (ma 13, .inl (G.1, 14, .inl ga)), (ma 14, .inl (G.1, 14, .inl (tN tF)))] 115 [(0, .ref q), (1, .int (nI dpt)), (5, .int (nI lv + (-1))), (6, .int 0), (7, .int (vl (aF lv * 12 + nF lv - 1)))]) (kkC : nN ≤ x 19 → ¬ nF lv = 0 → lv < dpt → ¬ (x 20 = 0 ∧ hitP kd vl dp (aF lv * 12 + nF lv - 1) (dpt - lv) (lo lv) (hi lv)) → GdW pr l e s9 m9 args below meth c9 A D QQ [(q, .inr (8, [.ref (ma 0), .ref (ma 1), .int (nI sN), .ref (ma 2), .int (nI L), .int th, .ref (ma 3), .ref (ma 4), .ref (ma 5), .ref (ma 6), .int (nI nN), .int ct, .int ht, .ref (ma 7), .ref (ma 8), .ref (ma 9), .ref (ma 10), .ref (ma 11), .ref (ma 12), .ref (ma 13), .ref (ma 14), .int sp, .int iw, .int mn])), (ma 0, .inl (G.1, 457, .inl sr)), (ma 4, .inl (G.1, 144, .inl kd)), (ma 5, .inl (G.1, 144, .inl dp)), (ma 6, .inl (G.1, 144, .inl vl)), (ma 7, .inl (G.1, 4, .inl of)), (ma 8, .inl (G.1, 14, .inl (tN aF))), (ma 9, .inl (G.1, 14, .inl (tN nF))), (ma 10, .inl (G.1, 14, .inl lo)), (ma 11, .inl (G.1, 14, .inl hi)), (ma 12, .inl (G.1, 14, .inl be)), (ma 13, .inl (G.1, 14, .inl ga)), (ma 14, .inl (G.1, 14, .inl (tN tF)))] 382 [(0, .ref q), (1, .int (nI dpt)), (5, .int (nI lv))]) : GdW pr l e s9 m9 args below meth c9 A D QQ [(q, .inr (8, [.ref (ma 0), .ref (ma 1), .int (nI sN), .ref (ma 2), .int (nI L), .int th, .ref (ma 3), .ref (ma 4), .ref (ma 5), .ref (ma 6), .int (nI nN), .int ct, .int ht, .ref (ma 7), .ref (ma 8), .ref (ma 9), .ref (ma 10), .ref (ma 11), .ref (ma 12), .ref (ma 13), .ref (ma 14), .int sp, .int iw, .int mn])), (ma 0, .inl (G.1, 457, .inl sr)), (ma 4, .inl (G.1, 144, .inl kd)), (ma 5, .inl (G.1, 144, .inl dp)), (ma 6, .inl (G.1, 144, .inl vl)), (ma 7, .inl (G.1, 4, .inl of)), (ma 8, .inl (G.1, 14, .inl (tN aF))), (ma 9, .inl (G.1, 14, .inl (tN nF))), (ma 10, .inl (G.1, 14, .inl lo)), (ma 11, .inl (G.1, 14, .inl hi)), (ma 12, .inl (G.1, 14, .inl be)), (ma 13, .inl (G.1, 14, .inl ga)), (ma 14, .inl (G.1, 14, .inl (tN tF)))] 115 [(0, .ref q), (1, .int (nI dpt)), (5, .int (nI lv)), (6, .int 1)] := by
  intro H locs ls hP hD hS hl
  obtain ⟨hx, hb, hml, hown, hts, hr, hlocks, hA, hAm⟩ := id C
  have hK := hAm.1
  refine lv_iload hx hb dX8_searches_115 (lv_at hl 2 rfl) ?_
  refine lv_if_lt (tgt := 553) hx hb dX8_searches_117 (by decide) (fun h => absurd h (nI_pos (by omega))) (fun _ => ?_)
  refine lv_iload_n hx hb dX8_searches_120 rfl (lv_at hl 1 rfl) ?_
  refine lv_iload hx hb dX8_searches_121 (lv_at hl 2 rfl) ?_
  refine ro_isub (z := nI (dpt - lv)) hx hb (pk_sub (a := dpt) (b := lv) (by omega)) dX8_searches_123 ?_
  refine lv_istore (lv' := [(8, .int (nI (dpt - lv))), (0, .ref q), (1, .int (nI dpt)), (5, .int (nI lv)), (6, .int 1)]) hx hb dX8_searches_124 hl (by decide) rfl (fun ls hl => ?_)
  refine lv_aload_n hx hb dX8_searches_126 rfl (lv_at hl 1 rfl) ?_
  refine va_get (D := D) (ci := 8) (v := .int (nI nN)) (C := RX8) (T := TX8) (N := 24) hx hb hts inlX8 hown hK hP 0 rfl rfl 10 (by decide) (hts _ kw_21_1) (fun _ h9 => h9) rfl dX8_searches_127 ?_
  refine lv_aload_n hx hb dX8_searches_130 rfl (lv_at hl 1 rfl) ?_
  refine va_get (D := D) (ci := 8) (v := .ref (ma 0)) (C := RX8) (T := TX8) (N := 24) hx hb hts inlX8 hown hK hP 0 rfl rfl 0 (by decide) (hts _ kw_5_6) (fun _ h9 => h9) rfl dX8_searches_131 ?_
  refine lv_bipush (v := 19) hx hb dX8_searches_134 (by decide) ?_
  refine ro_iald (k := 19) (v := nI (x 19)) hx hb hK hP 1 0 rfl rfl rfl (by decide) (by decide) hR.n19 dX8_searches_136 ?_
  refine lv_icmp_le (tgt := 144) hx hb dX8_searches_137 (by decide) (fun c_137 => ?_) (fun c_137 => ?_)
  · have c_137 := nle_t (a := nN) (b := x 19) (by omega) (by omega) c_137
    refine lv_iload hx hb dX8_searches_144 (lv_at hl 4 rfl) ?_
    refine lv_if_eq (tgt := 230) hx hb dX8_searches_146 (by decide) (fun h => absurd h (by decide)) (fun _ => ?_)
    refine lv_aload_n hx hb dX8_searches_149 rfl (lv_at hl 1 rfl) ?_
    refine va_get (D := D) (ci := 8) (v := .ref (ma 9)) (C := RX8) (T := TX8) (N := 24) hx hb hts inlX8 hown hK hP 0 rfl rfl 15 (by decide) (hts _ kw_5_15) (fun _ h9 => h9) rfl dX8_searches_150 ?_
    refine lv_iload hx hb dX8_searches_153 (lv_at hl 3 rfl) ?_
    refine ro_iald (k := lv) (v := nI (nF lv)) hx hb hK hP 7 0 rfl rfl rfl (by omega) (by decide) rfl dX8_searches_155 ?_
    refine lv_if_eq (tgt := 164) hx hb dX8_searches_156 (by decide) (fun c_156 => ?_) (fun c_156 => ?_)
    · have c_156 := neq_t (a := nF lv) (b := 0) (by omega) (by omega) c_156
      refine lv_iconst (v := 1) hx hb dX8_searches_164 (by decide) ?_
      refine lv_goto (tgt := 169) hx hb dX8_searches_165 (by decide) ?_
      refine lv_istore (lv' := [(9, .int 1), (8, .int (nI (dpt - lv))), (0, .ref q), (1, .int (nI dpt)), (5, .int (nI lv)), (6, .int 1)]) hx hb dX8_searches_169 hl (by decide) rfl (fun ls hl => ?_)
      refine lv_iconst (v := 0) hx hb dX8_searches_171 (by decide) ?_
      refine lv_istore (lv' := [(7, .int 0), (9, .int 1), (8, .int (nI (dpt - lv))), (0, .ref q), (1, .int (nI dpt)), (5, .int (nI lv)), (6, .int 1)]) hx hb dX8_searches_172 hl (by decide) rfl (fun ls hl => ?_)
      refine lv_iload hx hb dX8_searches_174 (lv_at hl 1 rfl) ?_
      refine lv_if_ne (tgt := 368) hx hb dX8_searches_176 (by decide) (fun _ => ?_) (fun h => absurd h (by decide))
      refine lv_iload hx hb dX8_searches_368 (lv_at hl 1 rfl) ?_
      refine lv_if_eq (tgt := 382) hx hb dX8_searches_370 (by decide) (fun h => absurd h (by decide)) (fun _ => ?_)
      refine lv_iinc (v := nI lv + (-1)) (lv' := [(5, .int (nI lv + (-1))), (7, .int 0), (9, .int 1), (8, .int (nI (dpt - lv))), (0, .ref q), (1, .int (nI dpt)), (6, .int 1)]) hx hb dX8_searches_373 hl (k := 5) rfl rfl (by decide) rfl (fun ls hl => ?_)
      refine lv_iconst (v := 0) hx hb dX8_searches_376 (by decide) ?_
      refine lv_istore (lv' := [(6, .int 0), (5, .int (nI lv + (-1))), (7, .int 0), (9, .int 1), (8, .int (nI (dpt - lv))), (0, .ref q), (1, .int (nI dpt))]) hx hb dX8_searches_377 hl (by decide) rfl (fun ls hl => ?_)
      refine lv_goto (tgt := 550) hx hb dX8_searches_379 (by decide) ?_
      refine lv_goto (tgt := 115) hx hb dX8_searches_550 (by decide) ?_
      exact (kk0 c_137 (by omega)) _ _ _ hP (hD.fst rfl) hS (lv_sub hl [5, 6, 1, 0, 2] rfl)
    · have c_156 := neq_f (a := nF lv) (b := 0) (by omega) (by omega) c_156
      refine lv_iload hx hb dX8_searches_159 (lv_at hl 0 rfl) ?_
      refine lv_if_ne (tgt := 168) hx hb dX8_searches_161 (by decide) (fun c_161 => ?_) (fun c_161 => ?_)
      · have c_161 := neq_f (a := dpt - lv) (b := 0) (by omega) (by omega) c_161
        refine lv_iconst (v := 0) hx hb dX8_searches_168 (by decide) ?_
        refine lv_istore (lv' := [(9, .int 0), (8, .int (nI (dpt - lv))), (0, .ref q), (1, .int (nI dpt)), (5, .int (nI lv)), (6, .int 1)]) hx hb dX8_searches_169 hl (by decide) rfl (fun ls hl => ?_)
        refine lv_iconst (v := 0) hx hb dX8_searches_171 (by decide) ?_
        refine lv_istore (lv' := [(7, .int 0), (9, .int 0), (8, .int (nI (dpt - lv))), (0, .ref q), (1, .int (nI dpt)), (5, .int (nI lv)), (6, .int 1)]) hx hb dX8_searches_172 hl (by decide) rfl (fun ls hl => ?_)
        refine lv_iload hx hb dX8_searches_174 (lv_at hl 1 rfl) ?_
        refine lv_if_ne (tgt := 368) hx hb dX8_searches_176 (by decide) (fun h => absurd (by decide) h) (fun _ => ?_)
        refine lv_aload_n hx hb dX8_searches_179 rfl (lv_at hl 3 rfl) ?_
        refine lv_iload hx hb dX8_searches_180 (lv_at hl 5 rfl) ?_
        refine lv_iload hx hb dX8_searches_182 (lv_at hl 2 rfl) ?_
        refine aftI0 C (runV_G (As := [.int (nI lv), .int (nI (dpt - lv))]) (rest := []) (ci := 8) (N := 24) (T := TX8) (q0 := 0) C (mX8_isHit l D G q ma sN L nN th ct ht sp iw mn sr p x y M kd dp vl aF nF lo hi lv (dpt - lv) hR hM (by omega) (by omega) (by omega) hu) hS hP hD [0, 1, 2, 3, 4, 6, 7, 8, 9] rfl (by decide) rfl rfl (ys_X8_isHit) kw_21_15 kw_21_16 kw_21_17 ⟨Nat.le_of_ble_eq_true rfl, Nat.le_of_ble_eq_true rfl⟩ hl.1 (Nat.le_of_ble_eq_true rfl) dX8_searches_184 rfl rfl ⟨Nat.zero_le _, Nat.zero_le _⟩) hS hP hD [0, 1, 2, 3, 4, 6, 7, 8, 9] rfl (fun r184 _ H locs hp184 hP hS => ?_)
        refine ro_top (z := bI (x 20 = 0 ∧ hitP kd vl dp (aF lv * 12 + nF lv - 1) (dpt - lv) (lo lv) (hi lv))) hx hp184 ?_
        refine lv_if_eq (tgt := 368) hx hb dX8_searches_187 (by decide) (fun c_187 => ?_) (fun c_187 => ?_)
        · have c_187 := bI_0 c_187
          refine lv_iload hx hb dX8_searches_368 (lv_at hl 1 rfl) ?_
          refine lv_if_eq (tgt := 382) hx hb dX8_searches_370 (by decide) (fun _ => ?_) (fun h => absurd (by decide) h)
          exact (kkC c_137 (by omega) (by omega) c_187) _ _ _ hP (hD.fst rfl) hS (lv_sub hl [3, 4, 5] rfl)
        · have c_187 := bI_1 c_187
          refine lv_aload_n hx hb dX8_searches_190 rfl (lv_at hl 3 rfl) ?_
          refine lv_dup hx hb dX8_searches_191 rfl ?_
          refine va_get (D := D) (ci := 8) (v := .int ht) (C := RX8) (T := TX8) (N := 24) hx hb hts inlX8 hown hK hP 0 rfl rfl 12 (by decide) (hts _ kw_21_3) (fun _ h9 => h9) rfl dX8_searches_192 ?_
          refine lv_iconst (v := 1) hx hb dX8_searches_195 (by decide) ?_
          refine lv_iadd hx hb dX8_searches_196 ?_
          refine va_put (D := D) (ci := 8) (v := .int (ht + 1)) (ty := .int) (C := RX8) (T := TX8) (N := 24) hx hb hts inlX8 tyX8 tyX8_ok nmX8 hown hK hP hD hS 0 rfl rfl 12 (by decide) (hts _ kw_21_3) (fun _ h9 => h9) rfl (by decide +kernel) rfl rfl (Nat.le_of_ble_eq_true rfl) dX8_searches_197 (fun H locs hP hD hS => ?_)
          have hP : va_P D vwCl [(q, .inr (8, [.ref (ma 0), .ref (ma 1), .int (nI sN), .ref (ma 2), .int (nI L), .int th, .ref (ma 3), .ref (ma 4), .ref (ma 5), .ref (ma 6), .int (nI nN), .int ct, .int (ht + 1), .ref (ma 7), .ref (ma 8), .ref (ma 9), .ref (ma 10), .ref (ma 11), .ref (ma 12), .ref (ma 13), .ref (ma 14), .int sp, .int iw, .int mn])), (ma 0, .inl (G.1, 457, .inl sr)), (ma 4, .inl (G.1, 144, .inl kd)), (ma 5, .inl (G.1, 144, .inl dp)), (ma 6, .inl (G.1, 144, .inl vl)), (ma 7, .inl (G.1, 4, .inl of)), (ma 8, .inl (G.1, 14, .inl (tN aF))), (ma 9, .inl (G.1, 14, .inl (tN nF))), (ma 10, .inl (G.1, 14, .inl lo)), (ma 11, .inl (G.1, 14, .inl hi)), (ma 12, .inl (G.1, 14, .inl be)), (ma 13, .inl (G.1, 14, .inl ga)), (ma 14, .inl (G.1, 14, .inl (tN tF)))] H := hP
          have hD : va_D A [(q, .inr (8, [.ref (ma 0), .ref (ma 1), .int (nI sN), .ref (ma 2), .int (nI L), .int th, .ref (ma 3), .ref (ma 4), .ref (ma 5), .ref (ma 6), .int (nI nN), .int ct, .int (ht + 1), .ref (ma 7), .ref (ma 8), .ref (ma 9), .ref (ma 10), .ref (ma 11), .ref (ma 12), .ref (ma 13), .ref (ma 14), .int sp, .int iw, .int mn])), (ma 0, .inl (G.1, 457, .inl sr)), (ma 4, .inl (G.1, 144, .inl kd)), (ma 5, .inl (G.1, 144, .inl dp)), (ma 6, .inl (G.1, 144, .inl vl)), (ma 7, .inl (G.1, 4, .inl of)), (ma 8, .inl (G.1, 14, .inl (tN aF))), (ma 9, .inl (G.1, 14, .inl (tN nF))), (ma 10, .inl (G.1, 14, .inl lo)), (ma 11, .inl (G.1, 14, .inl hi)), (ma 12, .inl (G.1, 14, .inl be)), (ma 13, .inl (G.1, 14, .inl ga)), (ma 14, .inl (G.1, 14, .inl (tN tF)))] := hD
          refine lv_aload_n hx hb dX8_searches_200 rfl (lv_at hl 3 rfl) ?_
          refine va_get (D := D) (ci := 8) (v := .ref (ma 6)) (C := RX8) (T := TX8) (N := 24) hx hb hts inlX8 hown hK hP 0 rfl rfl 9 (by decide) (hts _ kw_5_12) (fun _ h9 => h9) rfl dX8_searches_201 ?_
          refine lv_aload_n hx hb dX8_searches_204 rfl (lv_at hl 3 rfl) ?_
          refine va_get (D := D) (ci := 8) (v := .ref (ma 8)) (C := RX8) (T := TX8) (N := 24) hx hb hts inlX8 hown hK hP 0 rfl rfl 14 (by decide) (hts _ kw_5_14) (fun _ h9 => h9) rfl dX8_searches_205 ?_
          refine lv_iload hx hb dX8_searches_208 (lv_at hl 5 rfl) ?_
          refine ro_iald (k := lv) (v := nI (aF lv)) hx hb hK hP 6 0 rfl rfl rfl (by omega) (by decide) rfl dX8_searches_210 ?_
          refine lv_aload_n hx hb dX8_searches_211 rfl (lv_at hl 3 rfl) ?_
          refine va_get (D := D) (ci := 8) (v := .ref (ma 9)) (C := RX8) (T := TX8) (N := 24) hx hb hts inlX8 hown hK hP 0 rfl rfl 15 (by decide) (hts _ kw_5_15) (fun _ h9 => h9) rfl dX8_searches_212 ?_
          refine lv_iload hx hb dX8_searches_215 (lv_at hl 5 rfl) ?_
          refine ro_iald (k := lv) (v := nI (nF lv)) hx hb hK hP 7 0 rfl rfl rfl (by omega) (by decide) rfl dX8_searches_217 ?_
          refine aftI0 C (runS_G (As := [.int (nI (aF lv)), .int (nI (nF lv))]) (rest := [.ref (ma 6)]) C (mX8_entry l D G (aF lv) (nF lv) (by omega)) hS hP hD [] rfl (by decide) (ys_X8_entry) kw_21_19 kw_21_20 ⟨Nat.le_of_ble_eq_true rfl, Nat.le_of_ble_eq_true rfl⟩ hl.1 (Nat.le_of_ble_eq_true rfl) dX8_searches_218 rfl rfl ⟨Nat.zero_le _, Nat.zero_le _⟩) hS hP hD [] rfl (fun r218 _ H locs hp218 hP hS => ?_)
          refine ro_top (z := nI ((aF lv) * 12 + (nF lv) - 1)) hx hp218 ?_
          refine ro_iald (k := (aF lv) * 12 + (nF lv) - 1) (v := vl ((aF lv) * 12 + (nF lv) - 1)) hx hb hK hP 4 0 rfl rfl rfl (by omega) (by decide) rfl dX8_searches_221 ?_
          refine lv_istore (lv' := [(7, .int (vl ((aF lv) * 12 + (nF lv) - 1))), (9, .int 0), (8, .int (nI (dpt - lv))), (0, .ref q), (1, .int (nI dpt)), (5, .int (nI lv)), (6, .int 1)]) hx hb dX8_searches_222 hl (by decide) rfl (fun ls hl => ?_)
          refine lv_iconst (v := 1) hx hb dX8_searches_224 (by decide) ?_
          refine lv_istore (lv' := [(9, .int 1), (7, .int (vl ((aF lv) * 12 + (nF lv) - 1))), (8, .int (nI (dpt - lv))), (0, .ref q), (1, .int (nI dpt)), (5, .int (nI lv)), (6, .int 1)]) hx hb dX8_searches_225 hl (by decide) rfl (fun ls hl => ?_)
          refine lv_goto (tgt := 368) hx hb dX8_searches_227 (by decide) ?_
          refine lv_iload hx hb dX8_searches_368 (lv_at hl 0 rfl) ?_
          refine lv_if_eq (tgt := 382) hx hb dX8_searches_370 (by decide) (fun h => absurd h (by decide)) (fun _ => ?_)
          refine lv_iinc (v := nI lv + (-1)) (lv' := [(5, .int (nI lv + (-1))), (9, .int 1), (7, .int (vl ((aF lv) * 12 + (nF lv) - 1))), (8, .int (nI (dpt - lv))), (0, .ref q), (1, .int (nI dpt)), (6, .int 1)]) hx hb dX8_searches_373 hl (k := 5) rfl rfl (by decide) rfl (fun ls hl => ?_)
          refine lv_iconst (v := 0) hx hb dX8_searches_376 (by decide) ?_
          refine lv_istore (lv' := [(6, .int 0), (5, .int (nI lv + (-1))), (9, .int 1), (7, .int (vl ((aF lv) * 12 + (nF lv) - 1))), (8, .int (nI (dpt - lv))), (0, .ref q), (1, .int (nI dpt))]) hx hb dX8_searches_377 hl (by decide) rfl (fun ls hl => ?_)
          refine lv_goto (tgt := 550) hx hb dX8_searches_379 (by decide) ?_
          refine lv_goto (tgt := 115) hx hb dX8_searches_550 (by decide) ?_
          exact (kkH c_137 (by omega) (by omega) c_187) _ _ _ hP (hD.fst rfl) hS (lv_sub hl [5, 6, 1, 0, 3] rfl)
      · have c_161 := neq_t (a := dpt - lv) (b := 0) (by omega) (by omega) c_161
        refine lv_iconst (v := 1) hx hb dX8_searches_164 (by decide) ?_
        refine lv_goto (tgt := 169) hx hb dX8_searches_165 (by decide) ?_
        refine lv_istore (lv' := [(9, .int 1), (8, .int (nI (dpt - lv))), (0, .ref q), (1, .int (nI dpt)), (5, .int (nI lv)), (6, .int 1)]) hx hb dX8_searches_169 hl (by decide) rfl (fun ls hl => ?_)
        refine lv_iconst (v := 0) hx hb dX8_searches_171 (by decide) ?_
        refine lv_istore (lv' := [(7, .int 0), (9, .int 1), (8, .int (nI (dpt - lv))), (0, .ref q), (1, .int (nI dpt)), (5, .int (nI lv)), (6, .int 1)]) hx hb dX8_searches_172 hl (by decide) rfl (fun ls hl => ?_)
        refine lv_iload hx hb dX8_searches_174 (lv_at hl 1 rfl) ?_
        refine lv_if_ne (tgt := 368) hx hb dX8_searches_176 (by decide) (fun _ => ?_) (fun h => absurd h (by decide))
        refine lv_iload hx hb dX8_searches_368 (lv_at hl 1 rfl) ?_
        refine lv_if_eq (tgt := 382) hx hb dX8_searches_370 (by decide) (fun h => absurd h (by decide)) (fun _ => ?_)
        refine lv_iinc (v := nI lv + (-1)) (lv' := [(5, .int (nI lv + (-1))), (7, .int 0), (9, .int 1), (8, .int (nI (dpt - lv))), (0, .ref q), (1, .int (nI dpt)), (6, .int 1)]) hx hb dX8_searches_373 hl (k := 5) rfl rfl (by decide) rfl (fun ls hl => ?_)
        refine lv_iconst (v := 0) hx hb dX8_searches_376 (by decide) ?_
        refine lv_istore (lv' := [(6, .int 0), (5, .int (nI lv + (-1))), (7, .int 0), (9, .int 1), (8, .int (nI (dpt - lv))), (0, .ref q), (1, .int (nI dpt))]) hx hb dX8_searches_377 hl (by decide) rfl (fun ls hl => ?_)
        refine lv_goto (tgt := 550) hx hb dX8_searches_379 (by decide) ?_
        refine lv_goto (tgt := 115) hx hb dX8_searches_550 (by decide) ?_
        exact (kk0 c_137 (by omega)) _ _ _ hP (hD.fst rfl) hS (lv_sub hl [5, 6, 1, 0, 2] rfl)
  · have c_137 := nle_f (a := nN) (b := x 19) (by omega) (by omega) c_137
    exact (kkS (by omega)) _ _ _ hP (hD.fst rfl) hS (lv_sub hl [1] rfl)
set_option maxHeartbeats 800000 in
set_option maxRecDepth 100000 in
theorem sgB {pr : Program} {l : Launch} {e : Env} {s9 : State} {m9 : MethodId} {args : Array Value} {below : List Frame} {meth : Method} {c9 : Code} {A : Nat → Prop} {D : va_G} {G : u_G} {QQ : State → Prop} (C : Cx pr m9 s9 args meth c9 cX8_searches 13 RX8 (some .int) A D G) {q : Nat} {ma : Nat → Nat} {sN L nN : Nat} {th ct ht sp iw mn : Int32} {sr p : Nat → Int32} {x : Nat → Nat} {y : Nat → Int32} {M : Nat} {kd dp vl : Nat → Int32} {of : Nat → Int32} {aF nF tF : Nat → Nat} {lo hi be ga : Nat → Int32} {o lv dpt : Nat} {res nb : Int32}  (hR : RowR sr x y M p) (hM : M ≤ 12) (hlv : lv ≤ dpt) (hdp : dpt ≤ 12) (hnN : nN ≤ 10000) (hx19 : x 19 ≤ 5000) (hu : x 20 ≤ 1) (hfn : aF lv + nF lv ≤ M) (ho : o < 24) (hO : ∀ j, j < 4 → of j = nI (odf o j)) (hnl : nN ≤ x 19) (hn1 : 1 ≤ nF lv) (hT : tF lv ≤ 4) (hb1 : be lv = -999 → nb = (ga lv - res)) (hb2 : ¬ be lv = -999 → be lv < (ga lv - res) → nb = (ga lv - res)) (hb3 : ¬ be lv = -999 → ¬ be lv < (ga lv - res) → nb = be lv) (kkX : ¬ (ga lv - res) < hi lv → GdW pr l e s9 m9 args below meth c9 A D QQ [(q, .inr (8, [.ref (ma 0), .ref (ma 1), .int (nI sN), .ref (ma 2), .int (nI L), .int th, .ref (ma 3), .ref (ma 4), .ref (ma 5), .ref (ma 6), .int (nI nN), .int (ct + 1), .int ht, .ref (ma 7), .ref (ma 8), .ref (ma 9), .ref (ma 10), .ref (ma 11), .ref (ma 12), .ref (ma 13), .ref (ma 14), .int sp, .int iw, .int mn])), (ma 0, .inl (G.1, 457, .inl sr)), (ma 4, .inl (G.1, 144, .inl (kpF (x 20) kd (aF lv * 12 + nF lv - 1) (kn (lo lv) (hi lv) (upd be lv nb lv))))), (ma 5, .inl (G.1, 144, .inl (kpF (x 20) dp (aF lv * 12 + nF lv - 1) (nI (dpt - lv))))), (ma 6, .inl (G.1, 144, .inl (kpF (x 20) vl (aF lv * 12 + nF lv - 1) (upd be lv nb lv)))), (ma 7, .inl (G.1, 4, .inl of)), (ma 8, .inl (G.1, 14, .inl (tN aF))), (ma 9, .inl (G.1, 14, .inl (tN nF))), (ma 10, .inl (G.1, 14, .inl lo)), (ma 11, .inl (G.1, 14, .inl hi)), (ma 12, .inl (G.1, 14, .inl (upd be lv nb))), (ma 13, .inl (G.1, 14, .inl ga)), (ma 14, .inl (G.1, 14, .inl (tN tF)))] 115 [(0, .ref q), (1, .int (nI dpt)), (5, .int (nI lv + (-1))), (6, .int 0), (7, .int nb)]) (kkE : (ga lv - res) < hi lv → nOf (odf o) (nF lv) (4 - tF lv) (tF lv) = 4 → GdW pr l e s9 m9 args below meth c9 A D QQ [(q, .inr (8, [.ref (ma 0), .ref (ma 1), .int (nI sN), .ref (ma 2), .int (nI L), .int th, .ref (ma 3), .ref (ma 4), .ref (ma 5), .ref (ma 6), .int (nI nN), .int ct, .int ht, .ref (ma 7), .ref (ma 8), .ref (ma 9), .ref (ma 10), .ref (ma 11), .ref (ma 12), .ref (ma 13), .ref (ma 14), .int sp, .int iw, .int mn])), (ma 0, .inl (G.1, 457, .inl sr)), (ma 4, .inl (G.1, 144, .inl (kpF (x 20) kd (aF lv * 12 + nF lv - 1) (kn (lo lv) (hi lv) (upd be lv nb lv))))), (ma 5, .inl (G.1, 144, .inl (kpF (x 20) dp (aF lv * 12 + nF lv - 1) (nI (dpt - lv))))), (ma 6, .inl (G.1, 144, .inl (kpF (x 20) vl (aF lv * 12 + nF lv - 1) (upd be lv nb lv)))), (ma 7, .inl (G.1, 4, .inl of)), (ma 8, .inl (G.1, 14, .inl (tN aF))), (ma 9, .inl (G.1, 14, .inl (tN nF))), (ma 10, .inl (G.1, 14, .inl lo)), (ma 11, .inl (G.1, 14, .inl hi)), (ma 12, .inl (G.1, 14, .inl (upd be lv nb))), (ma 13, .inl (G.1, 14, .inl ga)), (ma 14, .inl (G.1, 14, .inl (tN tF)))] 115 [(0, .ref q), (1, .int (nI dpt)), (5, .int (nI lv + (-1))), (6, .int 0), (7, .int nb)]) (kkC : (ga lv - res) < hi lv → ¬ nOf (odf o) (nF lv) (4 - tF lv) (tF lv) = 4 → GdW pr l e s9 m9 args below meth c9 A D QQ [(q, .inr (8, [.ref (ma 0), .ref (ma 1), .int (nI sN), .ref (ma 2), .int (nI L), .int th, .ref (ma 3), .ref (ma 4), .ref (ma 5), .ref (ma 6), .int (nI nN), .int ct, .int ht, .ref (ma 7), .ref (ma 8), .ref (ma 9), .ref (ma 10), .ref (ma 11), .ref (ma 12), .ref (ma 13), .ref (ma 14), .int sp, .int iw, .int mn])), (ma 0, .inl (G.1, 457, .inl sr)), (ma 4, .inl (G.1, 144, .inl kd)), (ma 5, .inl (G.1, 144, .inl dp)), (ma 6, .inl (G.1, 144, .inl vl)), (ma 7, .inl (G.1, 4, .inl of)), (ma 8, .inl (G.1, 14, .inl (tN aF))), (ma 9, .inl (G.1, 14, .inl (tN nF))), (ma 10, .inl (G.1, 14, .inl lo)), (ma 11, .inl (G.1, 14, .inl hi)), (ma 12, .inl (G.1, 14, .inl (upd be lv nb))), (ma 13, .inl (G.1, 14, .inl ga)), (ma 14, .inl (G.1, 14, .inl (tN tF)))] 382 [(0, .ref q), (1, .int (nI dpt)), (5, .int (nI lv))]) : GdW pr l e s9 m9 args below meth c9 A D QQ [(q, .inr (8, [.ref (ma 0), .ref (ma 1), .int (nI sN), .ref (ma 2), .int (nI L), .int th, .ref (ma 3), .ref (ma 4), .ref (ma 5), .ref (ma 6), .int (nI nN), .int ct, .int ht, .ref (ma 7), .ref (ma 8), .ref (ma 9), .ref (ma 10), .ref (ma 11), .ref (ma 12), .ref (ma 13), .ref (ma 14), .int sp, .int iw, .int mn])), (ma 0, .inl (G.1, 457, .inl sr)), (ma 4, .inl (G.1, 144, .inl kd)), (ma 5, .inl (G.1, 144, .inl dp)), (ma 6, .inl (G.1, 144, .inl vl)), (ma 7, .inl (G.1, 4, .inl of)), (ma 8, .inl (G.1, 14, .inl (tN aF))), (ma 9, .inl (G.1, 14, .inl (tN nF))), (ma 10, .inl (G.1, 14, .inl lo)), (ma 11, .inl (G.1, 14, .inl hi)), (ma 12, .inl (G.1, 14, .inl be)), (ma 13, .inl (G.1, 14, .inl ga)), (ma 14, .inl (G.1, 14, .inl (tN tF)))] 115 [(0, .ref q), (1, .int (nI dpt)), (5, .int (nI lv)), (6, .int 0), (7, .int res)] := by
  intro H locs ls hP hD hS hl
  obtain ⟨hx, hb, hml, hown, hts, hr, hlocks, hA, hAm⟩ := id C
  have hK := hAm.1
  have nx1 := nOf_ge (odf o) (nF lv) (4 - tF lv) (tF lv)
  refine lv_iload hx hb dX8_searches_115 (lv_at hl 2 rfl) ?_
  refine lv_if_lt (tgt := 553) hx hb dX8_searches_117 (by decide) (fun h => absurd h (nI_pos (by omega))) (fun _ => ?_)
  refine lv_iload_n hx hb dX8_searches_120 rfl (lv_at hl 1 rfl) ?_
  refine lv_iload hx hb dX8_searches_121 (lv_at hl 2 rfl) ?_
  refine ro_isub (z := nI (dpt - lv)) hx hb (pk_sub (a := dpt) (b := lv) (by omega)) dX8_searches_123 ?_
  refine lv_istore (lv' := [(8, .int (nI (dpt - lv))), (0, .ref q), (1, .int (nI dpt)), (5, .int (nI lv)), (6, .int 0), (7, .int res)]) hx hb dX8_searches_124 hl (by decide) rfl (fun ls hl => ?_)
  refine lv_aload_n hx hb dX8_searches_126 rfl (lv_at hl 1 rfl) ?_
  refine va_get (D := D) (ci := 8) (v := .int (nI nN)) (C := RX8) (T := TX8) (N := 24) hx hb hts inlX8 hown hK hP 0 rfl rfl 10 (by decide) (hts _ kw_21_1) (fun _ h9 => h9) rfl dX8_searches_127 ?_
  refine lv_aload_n hx hb dX8_searches_130 rfl (lv_at hl 1 rfl) ?_
  refine va_get (D := D) (ci := 8) (v := .ref (ma 0)) (C := RX8) (T := TX8) (N := 24) hx hb hts inlX8 hown hK hP 0 rfl rfl 0 (by decide) (hts _ kw_5_6) (fun _ h9 => h9) rfl dX8_searches_131 ?_
  refine lv_bipush (v := 19) hx hb dX8_searches_134 (by decide) ?_
  refine ro_iald (k := 19) (v := nI (x 19)) hx hb hK hP 1 0 rfl rfl rfl (by decide) (by decide) hR.n19 dX8_searches_136 ?_
  refine lv_icmp_le (tgt := 144) hx hb dX8_searches_137 (by decide) (fun c_137 => ?_) (fun c_137 => ?_)
  · have c_137 := nle_t (a := nN) (b := x 19) (by omega) (by omega) c_137
    refine lv_iload hx hb dX8_searches_144 (lv_at hl 4 rfl) ?_
    refine lv_if_eq (tgt := 230) hx hb dX8_searches_146 (by decide) (fun _ => ?_) (fun h => absurd (by decide) h)
    refine lv_aload_n hx hb dX8_searches_230 rfl (lv_at hl 1 rfl) ?_
    refine va_get (D := D) (ci := 8) (v := .ref (ma 13)) (C := RX8) (T := TX8) (N := 24) hx hb hts inlX8 hown hK hP 0 rfl rfl 19 (by decide) (hts _ kw_5_19) (fun _ h9 => h9) rfl dX8_searches_231 ?_
    refine lv_iload hx hb dX8_searches_234 (lv_at hl 3 rfl) ?_
    refine ro_iald (k := lv) (v := ga lv) hx hb hK hP 11 0 rfl rfl rfl (by omega) (by decide) rfl dX8_searches_236 ?_
    refine lv_iload hx hb dX8_searches_237 (lv_at hl 5 rfl) ?_
    refine lv_isub hx hb dX8_searches_239 ?_
    refine lv_istore (lv' := [(10, .int ((ga lv) - res)), (8, .int (nI (dpt - lv))), (0, .ref q), (1, .int (nI dpt)), (5, .int (nI lv)), (6, .int 0), (7, .int res)]) hx hb dX8_searches_240 hl (by decide) rfl (fun ls hl => ?_)
    refine lv_aload_n hx hb dX8_searches_242 rfl (lv_at hl 2 rfl) ?_
    refine va_get (D := D) (ci := 8) (v := .ref (ma 12)) (C := RX8) (T := TX8) (N := 24) hx hb hts inlX8 hown hK hP 0 rfl rfl 18 (by decide) (hts _ kw_5_18) (fun _ h9 => h9) rfl dX8_searches_243 ?_
    refine lv_iload hx hb dX8_searches_246 (lv_at hl 4 rfl) ?_
    refine lv_aload_n hx hb dX8_searches_248 rfl (lv_at hl 2 rfl) ?_
    refine va_get (D := D) (ci := 8) (v := .ref (ma 12)) (C := RX8) (T := TX8) (N := 24) hx hb hts inlX8 hown hK hP 0 rfl rfl 18 (by decide) (hts _ kw_5_18) (fun _ h9 => h9) rfl dX8_searches_249 ?_
    refine lv_iload hx hb dX8_searches_252 (lv_at hl 4 rfl) ?_
    refine ro_iald (k := lv) (v := be lv) hx hb hK hP 10 0 rfl rfl rfl (by omega) (by decide) rfl dX8_searches_254 ?_
    refine lv_sipush (v := (-999)) hx hb dX8_searches_255 (by decide) ?_
    refine lv_icmp_eq (tgt := 273) hx hb dX8_searches_258 (by decide) (fun c_258 => ?_) (fun c_258 => ?_)
    · refine lv_iload hx hb dX8_searches_273 (lv_at hl 0 rfl) ?_
      refine lv_goto (tgt := 285) hx hb dX8_searches_275 (by decide) ?_
      refine ro_top (z := nb) hx (hb1 c_258).symm ?_
      refine ro_iast (k := lv) hx hb hK hP hD hS 10 0 rfl rfl rfl (by omega) (by decide) dX8_searches_285 (fun H locs hP hD hS => ?_)
      have hP : va_P D vwCl [(q, .inr (8, [.ref (ma 0), .ref (ma 1), .int (nI sN), .ref (ma 2), .int (nI L), .int th, .ref (ma 3), .ref (ma 4), .ref (ma 5), .ref (ma 6), .int (nI nN), .int ct, .int ht, .ref (ma 7), .ref (ma 8), .ref (ma 9), .ref (ma 10), .ref (ma 11), .ref (ma 12), .ref (ma 13), .ref (ma 14), .int sp, .int iw, .int mn])), (ma 0, .inl (G.1, 457, .inl sr)), (ma 4, .inl (G.1, 144, .inl kd)), (ma 5, .inl (G.1, 144, .inl dp)), (ma 6, .inl (G.1, 144, .inl vl)), (ma 7, .inl (G.1, 4, .inl of)), (ma 8, .inl (G.1, 14, .inl (tN aF))), (ma 9, .inl (G.1, 14, .inl (tN nF))), (ma 10, .inl (G.1, 14, .inl lo)), (ma 11, .inl (G.1, 14, .inl hi)), (ma 12, .inl (G.1, 14, .inl (upd be lv nb))), (ma 13, .inl (G.1, 14, .inl ga)), (ma 14, .inl (G.1, 14, .inl (tN tF)))] H := hP
      have hD : va_D A [(q, .inr (8, [.ref (ma 0), .ref (ma 1), .int (nI sN), .ref (ma 2), .int (nI L), .int th, .ref (ma 3), .ref (ma 4), .ref (ma 5), .ref (ma 6), .int (nI nN), .int ct, .int ht, .ref (ma 7), .ref (ma 8), .ref (ma 9), .ref (ma 10), .ref (ma 11), .ref (ma 12), .ref (ma 13), .ref (ma 14), .int sp, .int iw, .int mn])), (ma 0, .inl (G.1, 457, .inl sr)), (ma 4, .inl (G.1, 144, .inl kd)), (ma 5, .inl (G.1, 144, .inl dp)), (ma 6, .inl (G.1, 144, .inl vl)), (ma 7, .inl (G.1, 4, .inl of)), (ma 8, .inl (G.1, 14, .inl (tN aF))), (ma 9, .inl (G.1, 14, .inl (tN nF))), (ma 10, .inl (G.1, 14, .inl lo)), (ma 11, .inl (G.1, 14, .inl hi)), (ma 12, .inl (G.1, 14, .inl (upd be lv nb))), (ma 13, .inl (G.1, 14, .inl ga)), (ma 14, .inl (G.1, 14, .inl (tN tF)))] := hD
      refine lv_iload hx hb dX8_searches_286 (lv_at hl 0 rfl) ?_
      refine lv_aload_n hx hb dX8_searches_288 rfl (lv_at hl 2 rfl) ?_
      refine va_get (D := D) (ci := 8) (v := .ref (ma 11)) (C := RX8) (T := TX8) (N := 24) hx hb hts inlX8 hown hK hP 0 rfl rfl 17 (by decide) (hts _ kw_5_17) (fun _ h9 => h9) rfl dX8_searches_289 ?_
      refine lv_iload hx hb dX8_searches_292 (lv_at hl 4 rfl) ?_
      refine ro_iald (k := lv) (v := hi lv) hx hb hK hP 9 0 rfl rfl rfl (by omega) (by decide) rfl dX8_searches_294 ?_
      refine lv_icmp_lt (tgt := 302) hx hb dX8_searches_295 (by decide) (fun c_295 => ?_) (fun c_295 => ?_)
      · refine lv_iconst (v := 0) hx hb dX8_searches_302 (by decide) ?_
        refine lv_istore (lv' := [(11, .int 0), (10, .int ((ga lv) - res)), (8, .int (nI (dpt - lv))), (0, .ref q), (1, .int (nI dpt)), (5, .int (nI lv)), (6, .int 0), (7, .int res)]) hx hb dX8_searches_303 hl (by decide) rfl (fun ls hl => ?_)
        refine lv_aload_n hx hb dX8_searches_305 rfl (lv_at hl 3 rfl) ?_
        refine lv_dup hx hb dX8_searches_306 rfl ?_
        refine va_get (D := D) (ci := 8) (v := .int ct) (C := RX8) (T := TX8) (N := 24) hx hb hts inlX8 hown hK hP 0 rfl rfl 11 (by decide) (hts _ kw_21_2) (fun _ h9 => h9) rfl dX8_searches_307 ?_
        refine lv_iload hx hb dX8_searches_310 (lv_at hl 0 rfl) ?_
        refine lv_if_eq (tgt := 319) hx hb dX8_searches_312 (by decide) (fun _ => ?_) (fun h => absurd (by decide) h)
        refine lv_iconst (v := 0) hx hb dX8_searches_319 (by decide) ?_
        refine ro_iadd (z := ct) hx hb (Int32.add_zero _) dX8_searches_320 ?_
        refine va_put (D := D) (ci := 8) (v := .int ct) (ty := .int) (C := RX8) (T := TX8) (N := 24) hx hb hts inlX8 tyX8 tyX8_ok nmX8 hown hK hP hD hS 0 rfl rfl 11 (by decide) (hts _ kw_21_2) (fun _ h9 => h9) rfl (by decide +kernel) rfl rfl (Nat.le_of_ble_eq_true rfl) dX8_searches_321 (fun H locs hP hD hS => ?_)
        have hP : va_P D vwCl [(q, .inr (8, [.ref (ma 0), .ref (ma 1), .int (nI sN), .ref (ma 2), .int (nI L), .int th, .ref (ma 3), .ref (ma 4), .ref (ma 5), .ref (ma 6), .int (nI nN), .int ct, .int ht, .ref (ma 7), .ref (ma 8), .ref (ma 9), .ref (ma 10), .ref (ma 11), .ref (ma 12), .ref (ma 13), .ref (ma 14), .int sp, .int iw, .int mn])), (ma 0, .inl (G.1, 457, .inl sr)), (ma 4, .inl (G.1, 144, .inl kd)), (ma 5, .inl (G.1, 144, .inl dp)), (ma 6, .inl (G.1, 144, .inl vl)), (ma 7, .inl (G.1, 4, .inl of)), (ma 8, .inl (G.1, 14, .inl (tN aF))), (ma 9, .inl (G.1, 14, .inl (tN nF))), (ma 10, .inl (G.1, 14, .inl lo)), (ma 11, .inl (G.1, 14, .inl hi)), (ma 12, .inl (G.1, 14, .inl (upd be lv nb))), (ma 13, .inl (G.1, 14, .inl ga)), (ma 14, .inl (G.1, 14, .inl (tN tF)))] H := hP
        have hD : va_D A [(q, .inr (8, [.ref (ma 0), .ref (ma 1), .int (nI sN), .ref (ma 2), .int (nI L), .int th, .ref (ma 3), .ref (ma 4), .ref (ma 5), .ref (ma 6), .int (nI nN), .int ct, .int ht, .ref (ma 7), .ref (ma 8), .ref (ma 9), .ref (ma 10), .ref (ma 11), .ref (ma 12), .ref (ma 13), .ref (ma 14), .int sp, .int iw, .int mn])), (ma 0, .inl (G.1, 457, .inl sr)), (ma 4, .inl (G.1, 144, .inl kd)), (ma 5, .inl (G.1, 144, .inl dp)), (ma 6, .inl (G.1, 144, .inl vl)), (ma 7, .inl (G.1, 4, .inl of)), (ma 8, .inl (G.1, 14, .inl (tN aF))), (ma 9, .inl (G.1, 14, .inl (tN nF))), (ma 10, .inl (G.1, 14, .inl lo)), (ma 11, .inl (G.1, 14, .inl hi)), (ma 12, .inl (G.1, 14, .inl (upd be lv nb))), (ma 13, .inl (G.1, 14, .inl ga)), (ma 14, .inl (G.1, 14, .inl (tN tF)))] := hD
        refine lv_iload hx hb dX8_searches_324 (lv_at hl 0 rfl) ?_
        refine lv_if_ne (tgt := 339) hx hb dX8_searches_326 (by decide) (fun h => absurd (by decide) h) (fun _ => ?_)
        refine lv_aload_n hx hb dX8_searches_329 rfl (lv_at hl 3 rfl) ?_
        refine lv_iload hx hb dX8_searches_330 (lv_at hl 5 rfl) ?_
        refine aftI0 C (runV_G (As := [.int (nI lv)]) (rest := []) (ci := 8) (N := 24) (T := TX8) (q0 := 0) C (mX8_nextOf l D G q ma sN L nN th ct ht sp iw mn of nF tF o lv (by omega) ho hO hT (by omega)) hS hP hD [0, 5, 7, 12] rfl (by decide) rfl rfl (ys_X8_nextOf) kw_21_22 kw_21_23 kw_22_0 ⟨Nat.le_of_ble_eq_true rfl, Nat.le_of_ble_eq_true rfl⟩ hl.1 (Nat.le_of_ble_eq_true rfl) dX8_searches_332 rfl rfl ⟨Nat.zero_le _, Nat.zero_le _⟩) hS hP hD [0, 5, 7, 12] rfl (fun r332 _ H locs hp332 hP hS => ?_)
        refine ro_top (z := nI (nOf (odf o) (nF lv) (4 - tF lv) (tF lv))) hx hp332 ?_
        refine lv_iconst (v := 4) hx hb dX8_searches_335 (by decide) ?_
        refine lv_icmp_ne (tgt := 343) hx hb dX8_searches_336 (by decide) (fun c_336 => ?_) (fun c_336 => ?_)
        · have c_336 := neq_f (a := nOf (odf o) (nF lv) (4 - tF lv) (tF lv)) (b := 4) (by omega) (by omega) c_336
          refine lv_iconst (v := 0) hx hb dX8_searches_343 (by decide) ?_
          refine lv_istore (lv' := [(9, .int 0), (11, .int 0), (10, .int ((ga lv) - res)), (8, .int (nI (dpt - lv))), (0, .ref q), (1, .int (nI dpt)), (5, .int (nI lv)), (6, .int 0), (7, .int res)]) hx hb dX8_searches_344 hl (by decide) rfl (fun ls hl => ?_)
          refine lv_iload hx hb dX8_searches_346 (lv_at hl 0 rfl) ?_
          refine lv_if_eq (tgt := 368) hx hb dX8_searches_348 (by decide) (fun _ => ?_) (fun h => absurd (by decide) h)
          refine lv_iload hx hb dX8_searches_368 (lv_at hl 0 rfl) ?_
          refine lv_if_eq (tgt := 382) hx hb dX8_searches_370 (by decide) (fun _ => ?_) (fun h => absurd (by decide) h)
          exact (kkC c_295 (by omega)) _ _ _ hP (hD.fst rfl) hS (lv_sub hl [4, 5, 6] rfl)
        · have c_336 := neq_t (a := nOf (odf o) (nF lv) (4 - tF lv) (tF lv)) (b := 4) (by omega) (by omega) c_336
          refine lv_iconst (v := 1) hx hb dX8_searches_339 (by decide) ?_
          refine lv_goto (tgt := 344) hx hb dX8_searches_340 (by decide) ?_
          refine lv_istore (lv' := [(9, .int 1), (11, .int 0), (10, .int ((ga lv) - res)), (8, .int (nI (dpt - lv))), (0, .ref q), (1, .int (nI dpt)), (5, .int (nI lv)), (6, .int 0), (7, .int res)]) hx hb dX8_searches_344 hl (by decide) rfl (fun ls hl => ?_)
          refine lv_iload hx hb dX8_searches_346 (lv_at hl 0 rfl) ?_
          refine lv_if_eq (tgt := 368) hx hb dX8_searches_348 (by decide) (fun h => absurd h (by decide)) (fun _ => ?_)
          refine lv_aload_n hx hb dX8_searches_351 rfl (lv_at hl 4 rfl) ?_
          refine lv_iload hx hb dX8_searches_352 (lv_at hl 6 rfl) ?_
          refine lv_iload hx hb dX8_searches_354 (lv_at hl 3 rfl) ?_
          refine aftV C (runV_G (As := [.int (nI lv), .int (nI (dpt - lv))]) (rest := []) (ci := 8) (N := 24) (T := TX8) (q0 := 0) C (mX8_keeps l D G q ma sN L nN th ct ht sp iw mn sr p x y M kd dp vl aF nF lo hi (upd be lv nb) lv (dpt - lv) hR hM (by omega) hn1 (by omega) hu) hS hP hD [0, 1, 2, 3, 4, 6, 7, 8, 9, 10] rfl (by decide) rfl rfl (ys_X8_keeps) kw_22_2 kw_22_3 kw_22_4 ⟨Nat.le_of_ble_eq_true rfl, Nat.le_of_ble_eq_true rfl⟩ hl.1 (Nat.le_of_ble_eq_true rfl) dX8_searches_356 rfl rfl ⟨Nat.zero_le _, Nat.zero_le _⟩) hS hP hD [0, 1, 2, 3, 4, 6, 7, 8, 9, 10] rfl (fun _ => rfl) (fun _ H locs hp356 hP hD hS => ?_)
          have hP : va_P D vwCl [(q, .inr (8, [.ref (ma 0), .ref (ma 1), .int (nI sN), .ref (ma 2), .int (nI L), .int th, .ref (ma 3), .ref (ma 4), .ref (ma 5), .ref (ma 6), .int (nI nN), .int ct, .int ht, .ref (ma 7), .ref (ma 8), .ref (ma 9), .ref (ma 10), .ref (ma 11), .ref (ma 12), .ref (ma 13), .ref (ma 14), .int sp, .int iw, .int mn])), (ma 0, .inl (G.1, 457, .inl sr)), (ma 4, .inl (G.1, 144, .inl (kpF (x 20) kd (aF lv * 12 + nF lv - 1) (kn (lo lv) (hi lv) ((upd be lv nb) lv))))), (ma 5, .inl (G.1, 144, .inl (kpF (x 20) dp (aF lv * 12 + nF lv - 1) (nI (dpt - lv))))), (ma 6, .inl (G.1, 144, .inl (kpF (x 20) vl (aF lv * 12 + nF lv - 1) ((upd be lv nb) lv)))), (ma 7, .inl (G.1, 4, .inl of)), (ma 8, .inl (G.1, 14, .inl (tN aF))), (ma 9, .inl (G.1, 14, .inl (tN nF))), (ma 10, .inl (G.1, 14, .inl lo)), (ma 11, .inl (G.1, 14, .inl hi)), (ma 12, .inl (G.1, 14, .inl (upd be lv nb))), (ma 13, .inl (G.1, 14, .inl ga)), (ma 14, .inl (G.1, 14, .inl (tN tF)))] H := hP
          have hD : va_D A [(q, .inr (8, [.ref (ma 0), .ref (ma 1), .int (nI sN), .ref (ma 2), .int (nI L), .int th, .ref (ma 3), .ref (ma 4), .ref (ma 5), .ref (ma 6), .int (nI nN), .int ct, .int ht, .ref (ma 7), .ref (ma 8), .ref (ma 9), .ref (ma 10), .ref (ma 11), .ref (ma 12), .ref (ma 13), .ref (ma 14), .int sp, .int iw, .int mn])), (ma 0, .inl (G.1, 457, .inl sr)), (ma 4, .inl (G.1, 144, .inl (kpF (x 20) kd (aF lv * 12 + nF lv - 1) (kn (lo lv) (hi lv) ((upd be lv nb) lv))))), (ma 5, .inl (G.1, 144, .inl (kpF (x 20) dp (aF lv * 12 + nF lv - 1) (nI (dpt - lv))))), (ma 6, .inl (G.1, 144, .inl (kpF (x 20) vl (aF lv * 12 + nF lv - 1) ((upd be lv nb) lv)))), (ma 7, .inl (G.1, 4, .inl of)), (ma 8, .inl (G.1, 14, .inl (tN aF))), (ma 9, .inl (G.1, 14, .inl (tN nF))), (ma 10, .inl (G.1, 14, .inl lo)), (ma 11, .inl (G.1, 14, .inl hi)), (ma 12, .inl (G.1, 14, .inl (upd be lv nb))), (ma 13, .inl (G.1, 14, .inl ga)), (ma 14, .inl (G.1, 14, .inl (tN tF)))] := hD
          refine lv_aload_n hx hb dX8_searches_359 rfl (lv_at hl 4 rfl) ?_
          refine va_get (D := D) (ci := 8) (v := .ref (ma 12)) (C := RX8) (T := TX8) (N := 24) hx hb hts inlX8 hown hK hP 0 rfl rfl 18 (by decide) (hts _ kw_5_18) (fun _ h9 => h9) rfl dX8_searches_360 ?_
          refine lv_iload hx hb dX8_searches_363 (lv_at hl 6 rfl) ?_
          refine ro_iald (k := lv) (v := nb) hx hb hK hP 10 0 rfl rfl rfl (by omega) (by decide) pk_us dX8_searches_365 ?_
          refine lv_istore (lv' := [(7, .int nb), (9, .int 1), (11, .int 0), (10, .int ((ga lv) - res)), (8, .int (nI (dpt - lv))), (0, .ref q), (1, .int (nI dpt)), (5, .int (nI lv)), (6, .int 0)]) hx hb dX8_searches_366 hl (by decide) rfl (fun ls hl => ?_)
          refine lv_iload hx hb dX8_searches_368 (lv_at hl 1 rfl) ?_
          refine lv_if_eq (tgt := 382) hx hb dX8_searches_370 (by decide) (fun h => absurd h (by decide)) (fun _ => ?_)
          refine lv_iinc (v := nI lv + (-1)) (lv' := [(5, .int (nI lv + (-1))), (7, .int nb), (9, .int 1), (11, .int 0), (10, .int ((ga lv) - res)), (8, .int (nI (dpt - lv))), (0, .ref q), (1, .int (nI dpt)), (6, .int 0)]) hx hb dX8_searches_373 hl (k := 7) rfl rfl (by decide) rfl (fun ls hl => ?_)
          refine lv_iconst (v := 0) hx hb dX8_searches_376 (by decide) ?_
          refine lv_istore (lv' := [(6, .int 0), (5, .int (nI lv + (-1))), (7, .int nb), (9, .int 1), (11, .int 0), (10, .int ((ga lv) - res)), (8, .int (nI (dpt - lv))), (0, .ref q), (1, .int (nI dpt))]) hx hb dX8_searches_377 hl (by decide) rfl (fun ls hl => ?_)
          refine lv_goto (tgt := 550) hx hb dX8_searches_379 (by decide) ?_
          refine lv_goto (tgt := 115) hx hb dX8_searches_550 (by decide) ?_
          exact (kkE c_295 (by omega)) _ _ _ hP (hD.fst rfl) hS (lv_sub hl [7, 8, 1, 0, 2] rfl)
      · refine lv_iconst (v := 1) hx hb dX8_searches_298 (by decide) ?_
        refine lv_goto (tgt := 303) hx hb dX8_searches_299 (by decide) ?_
        refine lv_istore (lv' := [(11, .int 1), (10, .int ((ga lv) - res)), (8, .int (nI (dpt - lv))), (0, .ref q), (1, .int (nI dpt)), (5, .int (nI lv)), (6, .int 0), (7, .int res)]) hx hb dX8_searches_303 hl (by decide) rfl (fun ls hl => ?_)
        refine lv_aload_n hx hb dX8_searches_305 rfl (lv_at hl 3 rfl) ?_
        refine lv_dup hx hb dX8_searches_306 rfl ?_
        refine va_get (D := D) (ci := 8) (v := .int ct) (C := RX8) (T := TX8) (N := 24) hx hb hts inlX8 hown hK hP 0 rfl rfl 11 (by decide) (hts _ kw_21_2) (fun _ h9 => h9) rfl dX8_searches_307 ?_
        refine lv_iload hx hb dX8_searches_310 (lv_at hl 0 rfl) ?_
        refine lv_if_eq (tgt := 319) hx hb dX8_searches_312 (by decide) (fun h => absurd h (by decide)) (fun _ => ?_)
        refine lv_iconst (v := 1) hx hb dX8_searches_315 (by decide) ?_
        refine lv_goto (tgt := 320) hx hb dX8_searches_316 (by decide) ?_
        refine ro_iadd (z := ct + 1) hx hb rfl dX8_searches_320 ?_
        refine va_put (D := D) (ci := 8) (v := .int (ct + 1)) (ty := .int) (C := RX8) (T := TX8) (N := 24) hx hb hts inlX8 tyX8 tyX8_ok nmX8 hown hK hP hD hS 0 rfl rfl 11 (by decide) (hts _ kw_21_2) (fun _ h9 => h9) rfl (by decide +kernel) rfl rfl (Nat.le_of_ble_eq_true rfl) dX8_searches_321 (fun H locs hP hD hS => ?_)
        have hP : va_P D vwCl [(q, .inr (8, [.ref (ma 0), .ref (ma 1), .int (nI sN), .ref (ma 2), .int (nI L), .int th, .ref (ma 3), .ref (ma 4), .ref (ma 5), .ref (ma 6), .int (nI nN), .int (ct + 1), .int ht, .ref (ma 7), .ref (ma 8), .ref (ma 9), .ref (ma 10), .ref (ma 11), .ref (ma 12), .ref (ma 13), .ref (ma 14), .int sp, .int iw, .int mn])), (ma 0, .inl (G.1, 457, .inl sr)), (ma 4, .inl (G.1, 144, .inl kd)), (ma 5, .inl (G.1, 144, .inl dp)), (ma 6, .inl (G.1, 144, .inl vl)), (ma 7, .inl (G.1, 4, .inl of)), (ma 8, .inl (G.1, 14, .inl (tN aF))), (ma 9, .inl (G.1, 14, .inl (tN nF))), (ma 10, .inl (G.1, 14, .inl lo)), (ma 11, .inl (G.1, 14, .inl hi)), (ma 12, .inl (G.1, 14, .inl (upd be lv nb))), (ma 13, .inl (G.1, 14, .inl ga)), (ma 14, .inl (G.1, 14, .inl (tN tF)))] H := hP
        have hD : va_D A [(q, .inr (8, [.ref (ma 0), .ref (ma 1), .int (nI sN), .ref (ma 2), .int (nI L), .int th, .ref (ma 3), .ref (ma 4), .ref (ma 5), .ref (ma 6), .int (nI nN), .int (ct + 1), .int ht, .ref (ma 7), .ref (ma 8), .ref (ma 9), .ref (ma 10), .ref (ma 11), .ref (ma 12), .ref (ma 13), .ref (ma 14), .int sp, .int iw, .int mn])), (ma 0, .inl (G.1, 457, .inl sr)), (ma 4, .inl (G.1, 144, .inl kd)), (ma 5, .inl (G.1, 144, .inl dp)), (ma 6, .inl (G.1, 144, .inl vl)), (ma 7, .inl (G.1, 4, .inl of)), (ma 8, .inl (G.1, 14, .inl (tN aF))), (ma 9, .inl (G.1, 14, .inl (tN nF))), (ma 10, .inl (G.1, 14, .inl lo)), (ma 11, .inl (G.1, 14, .inl hi)), (ma 12, .inl (G.1, 14, .inl (upd be lv nb))), (ma 13, .inl (G.1, 14, .inl ga)), (ma 14, .inl (G.1, 14, .inl (tN tF)))] := hD
        refine lv_iload hx hb dX8_searches_324 (lv_at hl 0 rfl) ?_
        refine lv_if_ne (tgt := 339) hx hb dX8_searches_326 (by decide) (fun _ => ?_) (fun h => absurd h (by decide))
        refine lv_iconst (v := 1) hx hb dX8_searches_339 (by decide) ?_
        refine lv_goto (tgt := 344) hx hb dX8_searches_340 (by decide) ?_
        refine lv_istore (lv' := [(9, .int 1), (11, .int 1), (10, .int ((ga lv) - res)), (8, .int (nI (dpt - lv))), (0, .ref q), (1, .int (nI dpt)), (5, .int (nI lv)), (6, .int 0), (7, .int res)]) hx hb dX8_searches_344 hl (by decide) rfl (fun ls hl => ?_)
        refine lv_iload hx hb dX8_searches_346 (lv_at hl 0 rfl) ?_
        refine lv_if_eq (tgt := 368) hx hb dX8_searches_348 (by decide) (fun h => absurd h (by decide)) (fun _ => ?_)
        refine lv_aload_n hx hb dX8_searches_351 rfl (lv_at hl 4 rfl) ?_
        refine lv_iload hx hb dX8_searches_352 (lv_at hl 6 rfl) ?_
        refine lv_iload hx hb dX8_searches_354 (lv_at hl 3 rfl) ?_
        refine aftV C (runV_G (As := [.int (nI lv), .int (nI (dpt - lv))]) (rest := []) (ci := 8) (N := 24) (T := TX8) (q0 := 0) C (mX8_keeps l D G q ma sN L nN th (ct + 1) ht sp iw mn sr p x y M kd dp vl aF nF lo hi (upd be lv nb) lv (dpt - lv) hR hM (by omega) hn1 (by omega) hu) hS hP hD [0, 1, 2, 3, 4, 6, 7, 8, 9, 10] rfl (by decide) rfl rfl (ys_X8_keeps) kw_22_2 kw_22_3 kw_22_4 ⟨Nat.le_of_ble_eq_true rfl, Nat.le_of_ble_eq_true rfl⟩ hl.1 (Nat.le_of_ble_eq_true rfl) dX8_searches_356 rfl rfl ⟨Nat.zero_le _, Nat.zero_le _⟩) hS hP hD [0, 1, 2, 3, 4, 6, 7, 8, 9, 10] rfl (fun _ => rfl) (fun _ H locs hp356 hP hD hS => ?_)
        have hP : va_P D vwCl [(q, .inr (8, [.ref (ma 0), .ref (ma 1), .int (nI sN), .ref (ma 2), .int (nI L), .int th, .ref (ma 3), .ref (ma 4), .ref (ma 5), .ref (ma 6), .int (nI nN), .int (ct + 1), .int ht, .ref (ma 7), .ref (ma 8), .ref (ma 9), .ref (ma 10), .ref (ma 11), .ref (ma 12), .ref (ma 13), .ref (ma 14), .int sp, .int iw, .int mn])), (ma 0, .inl (G.1, 457, .inl sr)), (ma 4, .inl (G.1, 144, .inl (kpF (x 20) kd (aF lv * 12 + nF lv - 1) (kn (lo lv) (hi lv) ((upd be lv nb) lv))))), (ma 5, .inl (G.1, 144, .inl (kpF (x 20) dp (aF lv * 12 + nF lv - 1) (nI (dpt - lv))))), (ma 6, .inl (G.1, 144, .inl (kpF (x 20) vl (aF lv * 12 + nF lv - 1) ((upd be lv nb) lv)))), (ma 7, .inl (G.1, 4, .inl of)), (ma 8, .inl (G.1, 14, .inl (tN aF))), (ma 9, .inl (G.1, 14, .inl (tN nF))), (ma 10, .inl (G.1, 14, .inl lo)), (ma 11, .inl (G.1, 14, .inl hi)), (ma 12, .inl (G.1, 14, .inl (upd be lv nb))), (ma 13, .inl (G.1, 14, .inl ga)), (ma 14, .inl (G.1, 14, .inl (tN tF)))] H := hP
        have hD : va_D A [(q, .inr (8, [.ref (ma 0), .ref (ma 1), .int (nI sN), .ref (ma 2), .int (nI L), .int th, .ref (ma 3), .ref (ma 4), .ref (ma 5), .ref (ma 6), .int (nI nN), .int (ct + 1), .int ht, .ref (ma 7), .ref (ma 8), .ref (ma 9), .ref (ma 10), .ref (ma 11), .ref (ma 12), .ref (ma 13), .ref (ma 14), .int sp, .int iw, .int mn])), (ma 0, .inl (G.1, 457, .inl sr)), (ma 4, .inl (G.1, 144, .inl (kpF (x 20) kd (aF lv * 12 + nF lv - 1) (kn (lo lv) (hi lv) ((upd be lv nb) lv))))), (ma 5, .inl (G.1, 144, .inl (kpF (x 20) dp (aF lv * 12 + nF lv - 1) (nI (dpt - lv))))), (ma 6, .inl (G.1, 144, .inl (kpF (x 20) vl (aF lv * 12 + nF lv - 1) ((upd be lv nb) lv)))), (ma 7, .inl (G.1, 4, .inl of)), (ma 8, .inl (G.1, 14, .inl (tN aF))), (ma 9, .inl (G.1, 14, .inl (tN nF))), (ma 10, .inl (G.1, 14, .inl lo)), (ma 11, .inl (G.1, 14, .inl hi)), (ma 12, .inl (G.1, 14, .inl (upd be lv nb))), (ma 13, .inl (G.1, 14, .inl ga)), (ma 14, .inl (G.1, 14, .inl (tN tF)))] := hD
        refine lv_aload_n hx hb dX8_searches_359 rfl (lv_at hl 4 rfl) ?_
        refine va_get (D := D) (ci := 8) (v := .ref (ma 12)) (C := RX8) (T := TX8) (N := 24) hx hb hts inlX8 hown hK hP 0 rfl rfl 18 (by decide) (hts _ kw_5_18) (fun _ h9 => h9) rfl dX8_searches_360 ?_
        refine lv_iload hx hb dX8_searches_363 (lv_at hl 6 rfl) ?_
        refine ro_iald (k := lv) (v := nb) hx hb hK hP 10 0 rfl rfl rfl (by omega) (by decide) pk_us dX8_searches_365 ?_
        refine lv_istore (lv' := [(7, .int nb), (9, .int 1), (11, .int 1), (10, .int ((ga lv) - res)), (8, .int (nI (dpt - lv))), (0, .ref q), (1, .int (nI dpt)), (5, .int (nI lv)), (6, .int 0)]) hx hb dX8_searches_366 hl (by decide) rfl (fun ls hl => ?_)
        refine lv_iload hx hb dX8_searches_368 (lv_at hl 1 rfl) ?_
        refine lv_if_eq (tgt := 382) hx hb dX8_searches_370 (by decide) (fun h => absurd h (by decide)) (fun _ => ?_)
        refine lv_iinc (v := nI lv + (-1)) (lv' := [(5, .int (nI lv + (-1))), (7, .int nb), (9, .int 1), (11, .int 1), (10, .int ((ga lv) - res)), (8, .int (nI (dpt - lv))), (0, .ref q), (1, .int (nI dpt)), (6, .int 0)]) hx hb dX8_searches_373 hl (k := 7) rfl rfl (by decide) rfl (fun ls hl => ?_)
        refine lv_iconst (v := 0) hx hb dX8_searches_376 (by decide) ?_
        refine lv_istore (lv' := [(6, .int 0), (5, .int (nI lv + (-1))), (7, .int nb), (9, .int 1), (11, .int 1), (10, .int ((ga lv) - res)), (8, .int (nI (dpt - lv))), (0, .ref q), (1, .int (nI dpt))]) hx hb dX8_searches_377 hl (by decide) rfl (fun ls hl => ?_)
        refine lv_goto (tgt := 550) hx hb dX8_searches_379 (by decide) ?_
        refine lv_goto (tgt := 115) hx hb dX8_searches_550 (by decide) ?_
        exact (kkX c_295) _ _ _ hP (hD.fst rfl) hS (lv_sub hl [7, 8, 1, 0, 2] rfl)
    · refine lv_iload hx hb dX8_searches_261 (lv_at hl 0 rfl) ?_
      refine lv_aload_n hx hb dX8_searches_263 rfl (lv_at hl 2 rfl) ?_
      refine va_get (D := D) (ci := 8) (v := .ref (ma 12)) (C := RX8) (T := TX8) (N := 24) hx hb hts inlX8 hown hK hP 0 rfl rfl 18 (by decide) (hts _ kw_5_18) (fun _ h9 => h9) rfl dX8_searches_264 ?_
      refine lv_iload hx hb dX8_searches_267 (lv_at hl 4 rfl) ?_
      refine ro_iald (k := lv) (v := be lv) hx hb hK hP 10 0 rfl rfl rfl (by omega) (by decide) rfl dX8_searches_269 ?_
      refine lv_icmp_le (tgt := 278) hx hb dX8_searches_270 (by decide) (fun c_270 => ?_) (fun c_270 => ?_)
      · refine lv_aload_n hx hb dX8_searches_278 rfl (lv_at hl 2 rfl) ?_
        refine va_get (D := D) (ci := 8) (v := .ref (ma 12)) (C := RX8) (T := TX8) (N := 24) hx hb hts inlX8 hown hK hP 0 rfl rfl 18 (by decide) (hts _ kw_5_18) (fun _ h9 => h9) rfl dX8_searches_279 ?_
        refine lv_iload hx hb dX8_searches_282 (lv_at hl 4 rfl) ?_
        refine ro_iald (k := lv) (v := be lv) hx hb hK hP 10 0 rfl rfl rfl (by omega) (by decide) rfl dX8_searches_284 ?_
        refine ro_top (z := nb) hx (hb3 c_258 (Int32.not_lt.mpr c_270)).symm ?_
        refine ro_iast (k := lv) hx hb hK hP hD hS 10 0 rfl rfl rfl (by omega) (by decide) dX8_searches_285 (fun H locs hP hD hS => ?_)
        have hP : va_P D vwCl [(q, .inr (8, [.ref (ma 0), .ref (ma 1), .int (nI sN), .ref (ma 2), .int (nI L), .int th, .ref (ma 3), .ref (ma 4), .ref (ma 5), .ref (ma 6), .int (nI nN), .int ct, .int ht, .ref (ma 7), .ref (ma 8), .ref (ma 9), .ref (ma 10), .ref (ma 11), .ref (ma 12), .ref (ma 13), .ref (ma 14), .int sp, .int iw, .int mn])), (ma 0, .inl (G.1, 457, .inl sr)), (ma 4, .inl (G.1, 144, .inl kd)), (ma 5, .inl (G.1, 144, .inl dp)), (ma 6, .inl (G.1, 144, .inl vl)), (ma 7, .inl (G.1, 4, .inl of)), (ma 8, .inl (G.1, 14, .inl (tN aF))), (ma 9, .inl (G.1, 14, .inl (tN nF))), (ma 10, .inl (G.1, 14, .inl lo)), (ma 11, .inl (G.1, 14, .inl hi)), (ma 12, .inl (G.1, 14, .inl (upd be lv nb))), (ma 13, .inl (G.1, 14, .inl ga)), (ma 14, .inl (G.1, 14, .inl (tN tF)))] H := hP
        have hD : va_D A [(q, .inr (8, [.ref (ma 0), .ref (ma 1), .int (nI sN), .ref (ma 2), .int (nI L), .int th, .ref (ma 3), .ref (ma 4), .ref (ma 5), .ref (ma 6), .int (nI nN), .int ct, .int ht, .ref (ma 7), .ref (ma 8), .ref (ma 9), .ref (ma 10), .ref (ma 11), .ref (ma 12), .ref (ma 13), .ref (ma 14), .int sp, .int iw, .int mn])), (ma 0, .inl (G.1, 457, .inl sr)), (ma 4, .inl (G.1, 144, .inl kd)), (ma 5, .inl (G.1, 144, .inl dp)), (ma 6, .inl (G.1, 144, .inl vl)), (ma 7, .inl (G.1, 4, .inl of)), (ma 8, .inl (G.1, 14, .inl (tN aF))), (ma 9, .inl (G.1, 14, .inl (tN nF))), (ma 10, .inl (G.1, 14, .inl lo)), (ma 11, .inl (G.1, 14, .inl hi)), (ma 12, .inl (G.1, 14, .inl (upd be lv nb))), (ma 13, .inl (G.1, 14, .inl ga)), (ma 14, .inl (G.1, 14, .inl (tN tF)))] := hD
        refine lv_iload hx hb dX8_searches_286 (lv_at hl 0 rfl) ?_
        refine lv_aload_n hx hb dX8_searches_288 rfl (lv_at hl 2 rfl) ?_
        refine va_get (D := D) (ci := 8) (v := .ref (ma 11)) (C := RX8) (T := TX8) (N := 24) hx hb hts inlX8 hown hK hP 0 rfl rfl 17 (by decide) (hts _ kw_5_17) (fun _ h9 => h9) rfl dX8_searches_289 ?_
        refine lv_iload hx hb dX8_searches_292 (lv_at hl 4 rfl) ?_
        refine ro_iald (k := lv) (v := hi lv) hx hb hK hP 9 0 rfl rfl rfl (by omega) (by decide) rfl dX8_searches_294 ?_
        refine lv_icmp_lt (tgt := 302) hx hb dX8_searches_295 (by decide) (fun c_295 => ?_) (fun c_295 => ?_)
        · refine lv_iconst (v := 0) hx hb dX8_searches_302 (by decide) ?_
          refine lv_istore (lv' := [(11, .int 0), (10, .int ((ga lv) - res)), (8, .int (nI (dpt - lv))), (0, .ref q), (1, .int (nI dpt)), (5, .int (nI lv)), (6, .int 0), (7, .int res)]) hx hb dX8_searches_303 hl (by decide) rfl (fun ls hl => ?_)
          refine lv_aload_n hx hb dX8_searches_305 rfl (lv_at hl 3 rfl) ?_
          refine lv_dup hx hb dX8_searches_306 rfl ?_
          refine va_get (D := D) (ci := 8) (v := .int ct) (C := RX8) (T := TX8) (N := 24) hx hb hts inlX8 hown hK hP 0 rfl rfl 11 (by decide) (hts _ kw_21_2) (fun _ h9 => h9) rfl dX8_searches_307 ?_
          refine lv_iload hx hb dX8_searches_310 (lv_at hl 0 rfl) ?_
          refine lv_if_eq (tgt := 319) hx hb dX8_searches_312 (by decide) (fun _ => ?_) (fun h => absurd (by decide) h)
          refine lv_iconst (v := 0) hx hb dX8_searches_319 (by decide) ?_
          refine ro_iadd (z := ct) hx hb (Int32.add_zero _) dX8_searches_320 ?_
          refine va_put (D := D) (ci := 8) (v := .int ct) (ty := .int) (C := RX8) (T := TX8) (N := 24) hx hb hts inlX8 tyX8 tyX8_ok nmX8 hown hK hP hD hS 0 rfl rfl 11 (by decide) (hts _ kw_21_2) (fun _ h9 => h9) rfl (by decide +kernel) rfl rfl (Nat.le_of_ble_eq_true rfl) dX8_searches_321 (fun H locs hP hD hS => ?_)
          have hP : va_P D vwCl [(q, .inr (8, [.ref (ma 0), .ref (ma 1), .int (nI sN), .ref (ma 2), .int (nI L), .int th, .ref (ma 3), .ref (ma 4), .ref (ma 5), .ref (ma 6), .int (nI nN), .int ct, .int ht, .ref (ma 7), .ref (ma 8), .ref (ma 9), .ref (ma 10), .ref (ma 11), .ref (ma 12), .ref (ma 13), .ref (ma 14), .int sp, .int iw, .int mn])), (ma 0, .inl (G.1, 457, .inl sr)), (ma 4, .inl (G.1, 144, .inl kd)), (ma 5, .inl (G.1, 144, .inl dp)), (ma 6, .inl (G.1, 144, .inl vl)), (ma 7, .inl (G.1, 4, .inl of)), (ma 8, .inl (G.1, 14, .inl (tN aF))), (ma 9, .inl (G.1, 14, .inl (tN nF))), (ma 10, .inl (G.1, 14, .inl lo)), (ma 11, .inl (G.1, 14, .inl hi)), (ma 12, .inl (G.1, 14, .inl (upd be lv nb))), (ma 13, .inl (G.1, 14, .inl ga)), (ma 14, .inl (G.1, 14, .inl (tN tF)))] H := hP
          have hD : va_D A [(q, .inr (8, [.ref (ma 0), .ref (ma 1), .int (nI sN), .ref (ma 2), .int (nI L), .int th, .ref (ma 3), .ref (ma 4), .ref (ma 5), .ref (ma 6), .int (nI nN), .int ct, .int ht, .ref (ma 7), .ref (ma 8), .ref (ma 9), .ref (ma 10), .ref (ma 11), .ref (ma 12), .ref (ma 13), .ref (ma 14), .int sp, .int iw, .int mn])), (ma 0, .inl (G.1, 457, .inl sr)), (ma 4, .inl (G.1, 144, .inl kd)), (ma 5, .inl (G.1, 144, .inl dp)), (ma 6, .inl (G.1, 144, .inl vl)), (ma 7, .inl (G.1, 4, .inl of)), (ma 8, .inl (G.1, 14, .inl (tN aF))), (ma 9, .inl (G.1, 14, .inl (tN nF))), (ma 10, .inl (G.1, 14, .inl lo)), (ma 11, .inl (G.1, 14, .inl hi)), (ma 12, .inl (G.1, 14, .inl (upd be lv nb))), (ma 13, .inl (G.1, 14, .inl ga)), (ma 14, .inl (G.1, 14, .inl (tN tF)))] := hD
          refine lv_iload hx hb dX8_searches_324 (lv_at hl 0 rfl) ?_
          refine lv_if_ne (tgt := 339) hx hb dX8_searches_326 (by decide) (fun h => absurd (by decide) h) (fun _ => ?_)
          refine lv_aload_n hx hb dX8_searches_329 rfl (lv_at hl 3 rfl) ?_
          refine lv_iload hx hb dX8_searches_330 (lv_at hl 5 rfl) ?_
          refine aftI0 C (runV_G (As := [.int (nI lv)]) (rest := []) (ci := 8) (N := 24) (T := TX8) (q0 := 0) C (mX8_nextOf l D G q ma sN L nN th ct ht sp iw mn of nF tF o lv (by omega) ho hO hT (by omega)) hS hP hD [0, 5, 7, 12] rfl (by decide) rfl rfl (ys_X8_nextOf) kw_21_22 kw_21_23 kw_22_0 ⟨Nat.le_of_ble_eq_true rfl, Nat.le_of_ble_eq_true rfl⟩ hl.1 (Nat.le_of_ble_eq_true rfl) dX8_searches_332 rfl rfl ⟨Nat.zero_le _, Nat.zero_le _⟩) hS hP hD [0, 5, 7, 12] rfl (fun r332 _ H locs hp332 hP hS => ?_)
          refine ro_top (z := nI (nOf (odf o) (nF lv) (4 - tF lv) (tF lv))) hx hp332 ?_
          refine lv_iconst (v := 4) hx hb dX8_searches_335 (by decide) ?_
          refine lv_icmp_ne (tgt := 343) hx hb dX8_searches_336 (by decide) (fun c_336 => ?_) (fun c_336 => ?_)
          · have c_336 := neq_f (a := nOf (odf o) (nF lv) (4 - tF lv) (tF lv)) (b := 4) (by omega) (by omega) c_336
            refine lv_iconst (v := 0) hx hb dX8_searches_343 (by decide) ?_
            refine lv_istore (lv' := [(9, .int 0), (11, .int 0), (10, .int ((ga lv) - res)), (8, .int (nI (dpt - lv))), (0, .ref q), (1, .int (nI dpt)), (5, .int (nI lv)), (6, .int 0), (7, .int res)]) hx hb dX8_searches_344 hl (by decide) rfl (fun ls hl => ?_)
            refine lv_iload hx hb dX8_searches_346 (lv_at hl 0 rfl) ?_
            refine lv_if_eq (tgt := 368) hx hb dX8_searches_348 (by decide) (fun _ => ?_) (fun h => absurd (by decide) h)
            refine lv_iload hx hb dX8_searches_368 (lv_at hl 0 rfl) ?_
            refine lv_if_eq (tgt := 382) hx hb dX8_searches_370 (by decide) (fun _ => ?_) (fun h => absurd (by decide) h)
            exact (kkC c_295 (by omega)) _ _ _ hP (hD.fst rfl) hS (lv_sub hl [4, 5, 6] rfl)
          · have c_336 := neq_t (a := nOf (odf o) (nF lv) (4 - tF lv) (tF lv)) (b := 4) (by omega) (by omega) c_336
            refine lv_iconst (v := 1) hx hb dX8_searches_339 (by decide) ?_
            refine lv_goto (tgt := 344) hx hb dX8_searches_340 (by decide) ?_
            refine lv_istore (lv' := [(9, .int 1), (11, .int 0), (10, .int ((ga lv) - res)), (8, .int (nI (dpt - lv))), (0, .ref q), (1, .int (nI dpt)), (5, .int (nI lv)), (6, .int 0), (7, .int res)]) hx hb dX8_searches_344 hl (by decide) rfl (fun ls hl => ?_)
            refine lv_iload hx hb dX8_searches_346 (lv_at hl 0 rfl) ?_
            refine lv_if_eq (tgt := 368) hx hb dX8_searches_348 (by decide) (fun h => absurd h (by decide)) (fun _ => ?_)
            refine lv_aload_n hx hb dX8_searches_351 rfl (lv_at hl 4 rfl) ?_
            refine lv_iload hx hb dX8_searches_352 (lv_at hl 6 rfl) ?_
            refine lv_iload hx hb dX8_searches_354 (lv_at hl 3 rfl) ?_
            refine aftV C (runV_G (As := [.int (nI lv), .int (nI (dpt - lv))]) (rest := []) (ci := 8) (N := 24) (T := TX8) (q0 := 0) C (mX8_keeps l D G q ma sN L nN th ct ht sp iw mn sr p x y M kd dp vl aF nF lo hi (upd be lv nb) lv (dpt - lv) hR hM (by omega) hn1 (by omega) hu) hS hP hD [0, 1, 2, 3, 4, 6, 7, 8, 9, 10] rfl (by decide) rfl rfl (ys_X8_keeps) kw_22_2 kw_22_3 kw_22_4 ⟨Nat.le_of_ble_eq_true rfl, Nat.le_of_ble_eq_true rfl⟩ hl.1 (Nat.le_of_ble_eq_true rfl) dX8_searches_356 rfl rfl ⟨Nat.zero_le _, Nat.zero_le _⟩) hS hP hD [0, 1, 2, 3, 4, 6, 7, 8, 9, 10] rfl (fun _ => rfl) (fun _ H locs hp356 hP hD hS => ?_)
            have hP : va_P D vwCl [(q, .inr (8, [.ref (ma 0), .ref (ma 1), .int (nI sN), .ref (ma 2), .int (nI L), .int th, .ref (ma 3), .ref (ma 4), .ref (ma 5), .ref (ma 6), .int (nI nN), .int ct, .int ht, .ref (ma 7), .ref (ma 8), .ref (ma 9), .ref (ma 10), .ref (ma 11), .ref (ma 12), .ref (ma 13), .ref (ma 14), .int sp, .int iw, .int mn])), (ma 0, .inl (G.1, 457, .inl sr)), (ma 4, .inl (G.1, 144, .inl (kpF (x 20) kd (aF lv * 12 + nF lv - 1) (kn (lo lv) (hi lv) ((upd be lv nb) lv))))), (ma 5, .inl (G.1, 144, .inl (kpF (x 20) dp (aF lv * 12 + nF lv - 1) (nI (dpt - lv))))), (ma 6, .inl (G.1, 144, .inl (kpF (x 20) vl (aF lv * 12 + nF lv - 1) ((upd be lv nb) lv)))), (ma 7, .inl (G.1, 4, .inl of)), (ma 8, .inl (G.1, 14, .inl (tN aF))), (ma 9, .inl (G.1, 14, .inl (tN nF))), (ma 10, .inl (G.1, 14, .inl lo)), (ma 11, .inl (G.1, 14, .inl hi)), (ma 12, .inl (G.1, 14, .inl (upd be lv nb))), (ma 13, .inl (G.1, 14, .inl ga)), (ma 14, .inl (G.1, 14, .inl (tN tF)))] H := hP
            have hD : va_D A [(q, .inr (8, [.ref (ma 0), .ref (ma 1), .int (nI sN), .ref (ma 2), .int (nI L), .int th, .ref (ma 3), .ref (ma 4), .ref (ma 5), .ref (ma 6), .int (nI nN), .int ct, .int ht, .ref (ma 7), .ref (ma 8), .ref (ma 9), .ref (ma 10), .ref (ma 11), .ref (ma 12), .ref (ma 13), .ref (ma 14), .int sp, .int iw, .int mn])), (ma 0, .inl (G.1, 457, .inl sr)), (ma 4, .inl (G.1, 144, .inl (kpF (x 20) kd (aF lv * 12 + nF lv - 1) (kn (lo lv) (hi lv) ((upd be lv nb) lv))))), (ma 5, .inl (G.1, 144, .inl (kpF (x 20) dp (aF lv * 12 + nF lv - 1) (nI (dpt - lv))))), (ma 6, .inl (G.1, 144, .inl (kpF (x 20) vl (aF lv * 12 + nF lv - 1) ((upd be lv nb) lv)))), (ma 7, .inl (G.1, 4, .inl of)), (ma 8, .inl (G.1, 14, .inl (tN aF))), (ma 9, .inl (G.1, 14, .inl (tN nF))), (ma 10, .inl (G.1, 14, .inl lo)), (ma 11, .inl (G.1, 14, .inl hi)), (ma 12, .inl (G.1, 14, .inl (upd be lv nb))), (ma 13, .inl (G.1, 14, .inl ga)), (ma 14, .inl (G.1, 14, .inl (tN tF)))] := hD
            refine lv_aload_n hx hb dX8_searches_359 rfl (lv_at hl 4 rfl) ?_
            refine va_get (D := D) (ci := 8) (v := .ref (ma 12)) (C := RX8) (T := TX8) (N := 24) hx hb hts inlX8 hown hK hP 0 rfl rfl 18 (by decide) (hts _ kw_5_18) (fun _ h9 => h9) rfl dX8_searches_360 ?_
            refine lv_iload hx hb dX8_searches_363 (lv_at hl 6 rfl) ?_
            refine ro_iald (k := lv) (v := nb) hx hb hK hP 10 0 rfl rfl rfl (by omega) (by decide) pk_us dX8_searches_365 ?_
            refine lv_istore (lv' := [(7, .int nb), (9, .int 1), (11, .int 0), (10, .int ((ga lv) - res)), (8, .int (nI (dpt - lv))), (0, .ref q), (1, .int (nI dpt)), (5, .int (nI lv)), (6, .int 0)]) hx hb dX8_searches_366 hl (by decide) rfl (fun ls hl => ?_)
            refine lv_iload hx hb dX8_searches_368 (lv_at hl 1 rfl) ?_
            refine lv_if_eq (tgt := 382) hx hb dX8_searches_370 (by decide) (fun h => absurd h (by decide)) (fun _ => ?_)
            refine lv_iinc (v := nI lv + (-1)) (lv' := [(5, .int (nI lv + (-1))), (7, .int nb), (9, .int 1), (11, .int 0), (10, .int ((ga lv) - res)), (8, .int (nI (dpt - lv))), (0, .ref q), (1, .int (nI dpt)), (6, .int 0)]) hx hb dX8_searches_373 hl (k := 7) rfl rfl (by decide) rfl (fun ls hl => ?_)
            refine lv_iconst (v := 0) hx hb dX8_searches_376 (by decide) ?_
            refine lv_istore (lv' := [(6, .int 0), (5, .int (nI lv + (-1))), (7, .int nb), (9, .int 1), (11, .int 0), (10, .int ((ga lv) - res)), (8, .int (nI (dpt - lv))), (0, .ref q), (1, .int (nI dpt))]) hx hb dX8_searches_377 hl (by decide) rfl (fun ls hl => ?_)
            refine lv_goto (tgt := 550) hx hb dX8_searches_379 (by decide) ?_
            refine lv_goto (tgt := 115) hx hb dX8_searches_550 (by decide) ?_
            exact (kkE c_295 (by omega)) _ _ _ hP (hD.fst rfl) hS (lv_sub hl [7, 8, 1, 0, 2] rfl)
        · refine lv_iconst (v := 1) hx hb dX8_searches_298 (by decide) ?_
          refine lv_goto (tgt := 303) hx hb dX8_searches_299 (by decide) ?_
          refine lv_istore (lv' := [(11, .int 1), (10, .int ((ga lv) - res)), (8, .int (nI (dpt - lv))), (0, .ref q), (1, .int (nI dpt)), (5, .int (nI lv)), (6, .int 0), (7, .int res)]) hx hb dX8_searches_303 hl (by decide) rfl (fun ls hl => ?_)
          refine lv_aload_n hx hb dX8_searches_305 rfl (lv_at hl 3 rfl) ?_
          refine lv_dup hx hb dX8_searches_306 rfl ?_
          refine va_get (D := D) (ci := 8) (v := .int ct) (C := RX8) (T := TX8) (N := 24) hx hb hts inlX8 hown hK hP 0 rfl rfl 11 (by decide) (hts _ kw_21_2) (fun _ h9 => h9) rfl dX8_searches_307 ?_
          refine lv_iload hx hb dX8_searches_310 (lv_at hl 0 rfl) ?_
          refine lv_if_eq (tgt := 319) hx hb dX8_searches_312 (by decide) (fun h => absurd h (by decide)) (fun _ => ?_)
          refine lv_iconst (v := 1) hx hb dX8_searches_315 (by decide) ?_
          refine lv_goto (tgt := 320) hx hb dX8_searches_316 (by decide) ?_
          refine ro_iadd (z := ct + 1) hx hb rfl dX8_searches_320 ?_
          refine va_put (D := D) (ci := 8) (v := .int (ct + 1)) (ty := .int) (C := RX8) (T := TX8) (N := 24) hx hb hts inlX8 tyX8 tyX8_ok nmX8 hown hK hP hD hS 0 rfl rfl 11 (by decide) (hts _ kw_21_2) (fun _ h9 => h9) rfl (by decide +kernel) rfl rfl (Nat.le_of_ble_eq_true rfl) dX8_searches_321 (fun H locs hP hD hS => ?_)
          have hP : va_P D vwCl [(q, .inr (8, [.ref (ma 0), .ref (ma 1), .int (nI sN), .ref (ma 2), .int (nI L), .int th, .ref (ma 3), .ref (ma 4), .ref (ma 5), .ref (ma 6), .int (nI nN), .int (ct + 1), .int ht, .ref (ma 7), .ref (ma 8), .ref (ma 9), .ref (ma 10), .ref (ma 11), .ref (ma 12), .ref (ma 13), .ref (ma 14), .int sp, .int iw, .int mn])), (ma 0, .inl (G.1, 457, .inl sr)), (ma 4, .inl (G.1, 144, .inl kd)), (ma 5, .inl (G.1, 144, .inl dp)), (ma 6, .inl (G.1, 144, .inl vl)), (ma 7, .inl (G.1, 4, .inl of)), (ma 8, .inl (G.1, 14, .inl (tN aF))), (ma 9, .inl (G.1, 14, .inl (tN nF))), (ma 10, .inl (G.1, 14, .inl lo)), (ma 11, .inl (G.1, 14, .inl hi)), (ma 12, .inl (G.1, 14, .inl (upd be lv nb))), (ma 13, .inl (G.1, 14, .inl ga)), (ma 14, .inl (G.1, 14, .inl (tN tF)))] H := hP
          have hD : va_D A [(q, .inr (8, [.ref (ma 0), .ref (ma 1), .int (nI sN), .ref (ma 2), .int (nI L), .int th, .ref (ma 3), .ref (ma 4), .ref (ma 5), .ref (ma 6), .int (nI nN), .int (ct + 1), .int ht, .ref (ma 7), .ref (ma 8), .ref (ma 9), .ref (ma 10), .ref (ma 11), .ref (ma 12), .ref (ma 13), .ref (ma 14), .int sp, .int iw, .int mn])), (ma 0, .inl (G.1, 457, .inl sr)), (ma 4, .inl (G.1, 144, .inl kd)), (ma 5, .inl (G.1, 144, .inl dp)), (ma 6, .inl (G.1, 144, .inl vl)), (ma 7, .inl (G.1, 4, .inl of)), (ma 8, .inl (G.1, 14, .inl (tN aF))), (ma 9, .inl (G.1, 14, .inl (tN nF))), (ma 10, .inl (G.1, 14, .inl lo)), (ma 11, .inl (G.1, 14, .inl hi)), (ma 12, .inl (G.1, 14, .inl (upd be lv nb))), (ma 13, .inl (G.1, 14, .inl ga)), (ma 14, .inl (G.1, 14, .inl (tN tF)))] := hD
          refine lv_iload hx hb dX8_searches_324 (lv_at hl 0 rfl) ?_
          refine lv_if_ne (tgt := 339) hx hb dX8_searches_326 (by decide) (fun _ => ?_) (fun h => absurd h (by decide))
          refine lv_iconst (v := 1) hx hb dX8_searches_339 (by decide) ?_
          refine lv_goto (tgt := 344) hx hb dX8_searches_340 (by decide) ?_
          refine lv_istore (lv' := [(9, .int 1), (11, .int 1), (10, .int ((ga lv) - res)), (8, .int (nI (dpt - lv))), (0, .ref q), (1, .int (nI dpt)), (5, .int (nI lv)), (6, .int 0), (7, .int res)]) hx hb dX8_searches_344 hl (by decide) rfl (fun ls hl => ?_)
          refine lv_iload hx hb dX8_searches_346 (lv_at hl 0 rfl) ?_
          refine lv_if_eq (tgt := 368) hx hb dX8_searches_348 (by decide) (fun h => absurd h (by decide)) (fun _ => ?_)
          refine lv_aload_n hx hb dX8_searches_351 rfl (lv_at hl 4 rfl) ?_
          refine lv_iload hx hb dX8_searches_352 (lv_at hl 6 rfl) ?_
          refine lv_iload hx hb dX8_searches_354 (lv_at hl 3 rfl) ?_
          refine aftV C (runV_G (As := [.int (nI lv), .int (nI (dpt - lv))]) (rest := []) (ci := 8) (N := 24) (T := TX8) (q0 := 0) C (mX8_keeps l D G q ma sN L nN th (ct + 1) ht sp iw mn sr p x y M kd dp vl aF nF lo hi (upd be lv nb) lv (dpt - lv) hR hM (by omega) hn1 (by omega) hu) hS hP hD [0, 1, 2, 3, 4, 6, 7, 8, 9, 10] rfl (by decide) rfl rfl (ys_X8_keeps) kw_22_2 kw_22_3 kw_22_4 ⟨Nat.le_of_ble_eq_true rfl, Nat.le_of_ble_eq_true rfl⟩ hl.1 (Nat.le_of_ble_eq_true rfl) dX8_searches_356 rfl rfl ⟨Nat.zero_le _, Nat.zero_le _⟩) hS hP hD [0, 1, 2, 3, 4, 6, 7, 8, 9, 10] rfl (fun _ => rfl) (fun _ H locs hp356 hP hD hS => ?_)
          have hP : va_P D vwCl [(q, .inr (8, [.ref (ma 0), .ref (ma 1), .int (nI sN), .ref (ma 2), .int (nI L), .int th, .ref (ma 3), .ref (ma 4), .ref (ma 5), .ref (ma 6), .int (nI nN), .int (ct + 1), .int ht, .ref (ma 7), .ref (ma 8), .ref (ma 9), .ref (ma 10), .ref (ma 11), .ref (ma 12), .ref (ma 13), .ref (ma 14), .int sp, .int iw, .int mn])), (ma 0, .inl (G.1, 457, .inl sr)), (ma 4, .inl (G.1, 144, .inl (kpF (x 20) kd (aF lv * 12 + nF lv - 1) (kn (lo lv) (hi lv) ((upd be lv nb) lv))))), (ma 5, .inl (G.1, 144, .inl (kpF (x 20) dp (aF lv * 12 + nF lv - 1) (nI (dpt - lv))))), (ma 6, .inl (G.1, 144, .inl (kpF (x 20) vl (aF lv * 12 + nF lv - 1) ((upd be lv nb) lv)))), (ma 7, .inl (G.1, 4, .inl of)), (ma 8, .inl (G.1, 14, .inl (tN aF))), (ma 9, .inl (G.1, 14, .inl (tN nF))), (ma 10, .inl (G.1, 14, .inl lo)), (ma 11, .inl (G.1, 14, .inl hi)), (ma 12, .inl (G.1, 14, .inl (upd be lv nb))), (ma 13, .inl (G.1, 14, .inl ga)), (ma 14, .inl (G.1, 14, .inl (tN tF)))] H := hP
          have hD : va_D A [(q, .inr (8, [.ref (ma 0), .ref (ma 1), .int (nI sN), .ref (ma 2), .int (nI L), .int th, .ref (ma 3), .ref (ma 4), .ref (ma 5), .ref (ma 6), .int (nI nN), .int (ct + 1), .int ht, .ref (ma 7), .ref (ma 8), .ref (ma 9), .ref (ma 10), .ref (ma 11), .ref (ma 12), .ref (ma 13), .ref (ma 14), .int sp, .int iw, .int mn])), (ma 0, .inl (G.1, 457, .inl sr)), (ma 4, .inl (G.1, 144, .inl (kpF (x 20) kd (aF lv * 12 + nF lv - 1) (kn (lo lv) (hi lv) ((upd be lv nb) lv))))), (ma 5, .inl (G.1, 144, .inl (kpF (x 20) dp (aF lv * 12 + nF lv - 1) (nI (dpt - lv))))), (ma 6, .inl (G.1, 144, .inl (kpF (x 20) vl (aF lv * 12 + nF lv - 1) ((upd be lv nb) lv)))), (ma 7, .inl (G.1, 4, .inl of)), (ma 8, .inl (G.1, 14, .inl (tN aF))), (ma 9, .inl (G.1, 14, .inl (tN nF))), (ma 10, .inl (G.1, 14, .inl lo)), (ma 11, .inl (G.1, 14, .inl hi)), (ma 12, .inl (G.1, 14, .inl (upd be lv nb))), (ma 13, .inl (G.1, 14, .inl ga)), (ma 14, .inl (G.1, 14, .inl (tN tF)))] := hD
          refine lv_aload_n hx hb dX8_searches_359 rfl (lv_at hl 4 rfl) ?_
          refine va_get (D := D) (ci := 8) (v := .ref (ma 12)) (C := RX8) (T := TX8) (N := 24) hx hb hts inlX8 hown hK hP 0 rfl rfl 18 (by decide) (hts _ kw_5_18) (fun _ h9 => h9) rfl dX8_searches_360 ?_
          refine lv_iload hx hb dX8_searches_363 (lv_at hl 6 rfl) ?_
          refine ro_iald (k := lv) (v := nb) hx hb hK hP 10 0 rfl rfl rfl (by omega) (by decide) pk_us dX8_searches_365 ?_
          refine lv_istore (lv' := [(7, .int nb), (9, .int 1), (11, .int 1), (10, .int ((ga lv) - res)), (8, .int (nI (dpt - lv))), (0, .ref q), (1, .int (nI dpt)), (5, .int (nI lv)), (6, .int 0)]) hx hb dX8_searches_366 hl (by decide) rfl (fun ls hl => ?_)
          refine lv_iload hx hb dX8_searches_368 (lv_at hl 1 rfl) ?_
          refine lv_if_eq (tgt := 382) hx hb dX8_searches_370 (by decide) (fun h => absurd h (by decide)) (fun _ => ?_)
          refine lv_iinc (v := nI lv + (-1)) (lv' := [(5, .int (nI lv + (-1))), (7, .int nb), (9, .int 1), (11, .int 1), (10, .int ((ga lv) - res)), (8, .int (nI (dpt - lv))), (0, .ref q), (1, .int (nI dpt)), (6, .int 0)]) hx hb dX8_searches_373 hl (k := 7) rfl rfl (by decide) rfl (fun ls hl => ?_)
          refine lv_iconst (v := 0) hx hb dX8_searches_376 (by decide) ?_
          refine lv_istore (lv' := [(6, .int 0), (5, .int (nI lv + (-1))), (7, .int nb), (9, .int 1), (11, .int 1), (10, .int ((ga lv) - res)), (8, .int (nI (dpt - lv))), (0, .ref q), (1, .int (nI dpt))]) hx hb dX8_searches_377 hl (by decide) rfl (fun ls hl => ?_)
          refine lv_goto (tgt := 550) hx hb dX8_searches_379 (by decide) ?_
          refine lv_goto (tgt := 115) hx hb dX8_searches_550 (by decide) ?_
          exact (kkX c_295) _ _ _ hP (hD.fst rfl) hS (lv_sub hl [7, 8, 1, 0, 2] rfl)
      · refine lv_iload hx hb dX8_searches_273 (lv_at hl 0 rfl) ?_
        refine lv_goto (tgt := 285) hx hb dX8_searches_275 (by decide) ?_
        refine ro_top (z := nb) hx (hb2 c_258 (Int32.not_le.mp c_270)).symm ?_
        refine ro_iast (k := lv) hx hb hK hP hD hS 10 0 rfl rfl rfl (by omega) (by decide) dX8_searches_285 (fun H locs hP hD hS => ?_)
        have hP : va_P D vwCl [(q, .inr (8, [.ref (ma 0), .ref (ma 1), .int (nI sN), .ref (ma 2), .int (nI L), .int th, .ref (ma 3), .ref (ma 4), .ref (ma 5), .ref (ma 6), .int (nI nN), .int ct, .int ht, .ref (ma 7), .ref (ma 8), .ref (ma 9), .ref (ma 10), .ref (ma 11), .ref (ma 12), .ref (ma 13), .ref (ma 14), .int sp, .int iw, .int mn])), (ma 0, .inl (G.1, 457, .inl sr)), (ma 4, .inl (G.1, 144, .inl kd)), (ma 5, .inl (G.1, 144, .inl dp)), (ma 6, .inl (G.1, 144, .inl vl)), (ma 7, .inl (G.1, 4, .inl of)), (ma 8, .inl (G.1, 14, .inl (tN aF))), (ma 9, .inl (G.1, 14, .inl (tN nF))), (ma 10, .inl (G.1, 14, .inl lo)), (ma 11, .inl (G.1, 14, .inl hi)), (ma 12, .inl (G.1, 14, .inl (upd be lv nb))), (ma 13, .inl (G.1, 14, .inl ga)), (ma 14, .inl (G.1, 14, .inl (tN tF)))] H := hP
        have hD : va_D A [(q, .inr (8, [.ref (ma 0), .ref (ma 1), .int (nI sN), .ref (ma 2), .int (nI L), .int th, .ref (ma 3), .ref (ma 4), .ref (ma 5), .ref (ma 6), .int (nI nN), .int ct, .int ht, .ref (ma 7), .ref (ma 8), .ref (ma 9), .ref (ma 10), .ref (ma 11), .ref (ma 12), .ref (ma 13), .ref (ma 14), .int sp, .int iw, .int mn])), (ma 0, .inl (G.1, 457, .inl sr)), (ma 4, .inl (G.1, 144, .inl kd)), (ma 5, .inl (G.1, 144, .inl dp)), (ma 6, .inl (G.1, 144, .inl vl)), (ma 7, .inl (G.1, 4, .inl of)), (ma 8, .inl (G.1, 14, .inl (tN aF))), (ma 9, .inl (G.1, 14, .inl (tN nF))), (ma 10, .inl (G.1, 14, .inl lo)), (ma 11, .inl (G.1, 14, .inl hi)), (ma 12, .inl (G.1, 14, .inl (upd be lv nb))), (ma 13, .inl (G.1, 14, .inl ga)), (ma 14, .inl (G.1, 14, .inl (tN tF)))] := hD
        refine lv_iload hx hb dX8_searches_286 (lv_at hl 0 rfl) ?_
        refine lv_aload_n hx hb dX8_searches_288 rfl (lv_at hl 2 rfl) ?_
        refine va_get (D := D) (ci := 8) (v := .ref (ma 11)) (C := RX8) (T := TX8) (N := 24) hx hb hts inlX8 hown hK hP 0 rfl rfl 17 (by decide) (hts _ kw_5_17) (fun _ h9 => h9) rfl dX8_searches_289 ?_
        refine lv_iload hx hb dX8_searches_292 (lv_at hl 4 rfl) ?_
        refine ro_iald (k := lv) (v := hi lv) hx hb hK hP 9 0 rfl rfl rfl (by omega) (by decide) rfl dX8_searches_294 ?_
        refine lv_icmp_lt (tgt := 302) hx hb dX8_searches_295 (by decide) (fun c_295 => ?_) (fun c_295 => ?_)
        · refine lv_iconst (v := 0) hx hb dX8_searches_302 (by decide) ?_
          refine lv_istore (lv' := [(11, .int 0), (10, .int ((ga lv) - res)), (8, .int (nI (dpt - lv))), (0, .ref q), (1, .int (nI dpt)), (5, .int (nI lv)), (6, .int 0), (7, .int res)]) hx hb dX8_searches_303 hl (by decide) rfl (fun ls hl => ?_)
          refine lv_aload_n hx hb dX8_searches_305 rfl (lv_at hl 3 rfl) ?_
          refine lv_dup hx hb dX8_searches_306 rfl ?_
          refine va_get (D := D) (ci := 8) (v := .int ct) (C := RX8) (T := TX8) (N := 24) hx hb hts inlX8 hown hK hP 0 rfl rfl 11 (by decide) (hts _ kw_21_2) (fun _ h9 => h9) rfl dX8_searches_307 ?_
          refine lv_iload hx hb dX8_searches_310 (lv_at hl 0 rfl) ?_
          refine lv_if_eq (tgt := 319) hx hb dX8_searches_312 (by decide) (fun _ => ?_) (fun h => absurd (by decide) h)
          refine lv_iconst (v := 0) hx hb dX8_searches_319 (by decide) ?_
          refine ro_iadd (z := ct) hx hb (Int32.add_zero _) dX8_searches_320 ?_
          refine va_put (D := D) (ci := 8) (v := .int ct) (ty := .int) (C := RX8) (T := TX8) (N := 24) hx hb hts inlX8 tyX8 tyX8_ok nmX8 hown hK hP hD hS 0 rfl rfl 11 (by decide) (hts _ kw_21_2) (fun _ h9 => h9) rfl (by decide +kernel) rfl rfl (Nat.le_of_ble_eq_true rfl) dX8_searches_321 (fun H locs hP hD hS => ?_)
          have hP : va_P D vwCl [(q, .inr (8, [.ref (ma 0), .ref (ma 1), .int (nI sN), .ref (ma 2), .int (nI L), .int th, .ref (ma 3), .ref (ma 4), .ref (ma 5), .ref (ma 6), .int (nI nN), .int ct, .int ht, .ref (ma 7), .ref (ma 8), .ref (ma 9), .ref (ma 10), .ref (ma 11), .ref (ma 12), .ref (ma 13), .ref (ma 14), .int sp, .int iw, .int mn])), (ma 0, .inl (G.1, 457, .inl sr)), (ma 4, .inl (G.1, 144, .inl kd)), (ma 5, .inl (G.1, 144, .inl dp)), (ma 6, .inl (G.1, 144, .inl vl)), (ma 7, .inl (G.1, 4, .inl of)), (ma 8, .inl (G.1, 14, .inl (tN aF))), (ma 9, .inl (G.1, 14, .inl (tN nF))), (ma 10, .inl (G.1, 14, .inl lo)), (ma 11, .inl (G.1, 14, .inl hi)), (ma 12, .inl (G.1, 14, .inl (upd be lv nb))), (ma 13, .inl (G.1, 14, .inl ga)), (ma 14, .inl (G.1, 14, .inl (tN tF)))] H := hP
          have hD : va_D A [(q, .inr (8, [.ref (ma 0), .ref (ma 1), .int (nI sN), .ref (ma 2), .int (nI L), .int th, .ref (ma 3), .ref (ma 4), .ref (ma 5), .ref (ma 6), .int (nI nN), .int ct, .int ht, .ref (ma 7), .ref (ma 8), .ref (ma 9), .ref (ma 10), .ref (ma 11), .ref (ma 12), .ref (ma 13), .ref (ma 14), .int sp, .int iw, .int mn])), (ma 0, .inl (G.1, 457, .inl sr)), (ma 4, .inl (G.1, 144, .inl kd)), (ma 5, .inl (G.1, 144, .inl dp)), (ma 6, .inl (G.1, 144, .inl vl)), (ma 7, .inl (G.1, 4, .inl of)), (ma 8, .inl (G.1, 14, .inl (tN aF))), (ma 9, .inl (G.1, 14, .inl (tN nF))), (ma 10, .inl (G.1, 14, .inl lo)), (ma 11, .inl (G.1, 14, .inl hi)), (ma 12, .inl (G.1, 14, .inl (upd be lv nb))), (ma 13, .inl (G.1, 14, .inl ga)), (ma 14, .inl (G.1, 14, .inl (tN tF)))] := hD
          refine lv_iload hx hb dX8_searches_324 (lv_at hl 0 rfl) ?_
          refine lv_if_ne (tgt := 339) hx hb dX8_searches_326 (by decide) (fun h => absurd (by decide) h) (fun _ => ?_)
          refine lv_aload_n hx hb dX8_searches_329 rfl (lv_at hl 3 rfl) ?_
          refine lv_iload hx hb dX8_searches_330 (lv_at hl 5 rfl) ?_
          refine aftI0 C (runV_G (As := [.int (nI lv)]) (rest := []) (ci := 8) (N := 24) (T := TX8) (q0 := 0) C (mX8_nextOf l D G q ma sN L nN th ct ht sp iw mn of nF tF o lv (by omega) ho hO hT (by omega)) hS hP hD [0, 5, 7, 12] rfl (by decide) rfl rfl (ys_X8_nextOf) kw_21_22 kw_21_23 kw_22_0 ⟨Nat.le_of_ble_eq_true rfl, Nat.le_of_ble_eq_true rfl⟩ hl.1 (Nat.le_of_ble_eq_true rfl) dX8_searches_332 rfl rfl ⟨Nat.zero_le _, Nat.zero_le _⟩) hS hP hD [0, 5, 7, 12] rfl (fun r332 _ H locs hp332 hP hS => ?_)
          refine ro_top (z := nI (nOf (odf o) (nF lv) (4 - tF lv) (tF lv))) hx hp332 ?_
          refine lv_iconst (v := 4) hx hb dX8_searches_335 (by decide) ?_
          refine lv_icmp_ne (tgt := 343) hx hb dX8_searches_336 (by decide) (fun c_336 => ?_) (fun c_336 => ?_)
          · have c_336 := neq_f (a := nOf (odf o) (nF lv) (4 - tF lv) (tF lv)) (b := 4) (by omega) (by omega) c_336
            refine lv_iconst (v := 0) hx hb dX8_searches_343 (by decide) ?_
            refine lv_istore (lv' := [(9, .int 0), (11, .int 0), (10, .int ((ga lv) - res)), (8, .int (nI (dpt - lv))), (0, .ref q), (1, .int (nI dpt)), (5, .int (nI lv)), (6, .int 0), (7, .int res)]) hx hb dX8_searches_344 hl (by decide) rfl (fun ls hl => ?_)
            refine lv_iload hx hb dX8_searches_346 (lv_at hl 0 rfl) ?_
            refine lv_if_eq (tgt := 368) hx hb dX8_searches_348 (by decide) (fun _ => ?_) (fun h => absurd (by decide) h)
            refine lv_iload hx hb dX8_searches_368 (lv_at hl 0 rfl) ?_
            refine lv_if_eq (tgt := 382) hx hb dX8_searches_370 (by decide) (fun _ => ?_) (fun h => absurd (by decide) h)
            exact (kkC c_295 (by omega)) _ _ _ hP (hD.fst rfl) hS (lv_sub hl [4, 5, 6] rfl)
          · have c_336 := neq_t (a := nOf (odf o) (nF lv) (4 - tF lv) (tF lv)) (b := 4) (by omega) (by omega) c_336
            refine lv_iconst (v := 1) hx hb dX8_searches_339 (by decide) ?_
            refine lv_goto (tgt := 344) hx hb dX8_searches_340 (by decide) ?_
            refine lv_istore (lv' := [(9, .int 1), (11, .int 0), (10, .int ((ga lv) - res)), (8, .int (nI (dpt - lv))), (0, .ref q), (1, .int (nI dpt)), (5, .int (nI lv)), (6, .int 0), (7, .int res)]) hx hb dX8_searches_344 hl (by decide) rfl (fun ls hl => ?_)
            refine lv_iload hx hb dX8_searches_346 (lv_at hl 0 rfl) ?_
            refine lv_if_eq (tgt := 368) hx hb dX8_searches_348 (by decide) (fun h => absurd h (by decide)) (fun _ => ?_)
            refine lv_aload_n hx hb dX8_searches_351 rfl (lv_at hl 4 rfl) ?_
            refine lv_iload hx hb dX8_searches_352 (lv_at hl 6 rfl) ?_
            refine lv_iload hx hb dX8_searches_354 (lv_at hl 3 rfl) ?_
            refine aftV C (runV_G (As := [.int (nI lv), .int (nI (dpt - lv))]) (rest := []) (ci := 8) (N := 24) (T := TX8) (q0 := 0) C (mX8_keeps l D G q ma sN L nN th ct ht sp iw mn sr p x y M kd dp vl aF nF lo hi (upd be lv nb) lv (dpt - lv) hR hM (by omega) hn1 (by omega) hu) hS hP hD [0, 1, 2, 3, 4, 6, 7, 8, 9, 10] rfl (by decide) rfl rfl (ys_X8_keeps) kw_22_2 kw_22_3 kw_22_4 ⟨Nat.le_of_ble_eq_true rfl, Nat.le_of_ble_eq_true rfl⟩ hl.1 (Nat.le_of_ble_eq_true rfl) dX8_searches_356 rfl rfl ⟨Nat.zero_le _, Nat.zero_le _⟩) hS hP hD [0, 1, 2, 3, 4, 6, 7, 8, 9, 10] rfl (fun _ => rfl) (fun _ H locs hp356 hP hD hS => ?_)
            have hP : va_P D vwCl [(q, .inr (8, [.ref (ma 0), .ref (ma 1), .int (nI sN), .ref (ma 2), .int (nI L), .int th, .ref (ma 3), .ref (ma 4), .ref (ma 5), .ref (ma 6), .int (nI nN), .int ct, .int ht, .ref (ma 7), .ref (ma 8), .ref (ma 9), .ref (ma 10), .ref (ma 11), .ref (ma 12), .ref (ma 13), .ref (ma 14), .int sp, .int iw, .int mn])), (ma 0, .inl (G.1, 457, .inl sr)), (ma 4, .inl (G.1, 144, .inl (kpF (x 20) kd (aF lv * 12 + nF lv - 1) (kn (lo lv) (hi lv) ((upd be lv nb) lv))))), (ma 5, .inl (G.1, 144, .inl (kpF (x 20) dp (aF lv * 12 + nF lv - 1) (nI (dpt - lv))))), (ma 6, .inl (G.1, 144, .inl (kpF (x 20) vl (aF lv * 12 + nF lv - 1) ((upd be lv nb) lv)))), (ma 7, .inl (G.1, 4, .inl of)), (ma 8, .inl (G.1, 14, .inl (tN aF))), (ma 9, .inl (G.1, 14, .inl (tN nF))), (ma 10, .inl (G.1, 14, .inl lo)), (ma 11, .inl (G.1, 14, .inl hi)), (ma 12, .inl (G.1, 14, .inl (upd be lv nb))), (ma 13, .inl (G.1, 14, .inl ga)), (ma 14, .inl (G.1, 14, .inl (tN tF)))] H := hP
            have hD : va_D A [(q, .inr (8, [.ref (ma 0), .ref (ma 1), .int (nI sN), .ref (ma 2), .int (nI L), .int th, .ref (ma 3), .ref (ma 4), .ref (ma 5), .ref (ma 6), .int (nI nN), .int ct, .int ht, .ref (ma 7), .ref (ma 8), .ref (ma 9), .ref (ma 10), .ref (ma 11), .ref (ma 12), .ref (ma 13), .ref (ma 14), .int sp, .int iw, .int mn])), (ma 0, .inl (G.1, 457, .inl sr)), (ma 4, .inl (G.1, 144, .inl (kpF (x 20) kd (aF lv * 12 + nF lv - 1) (kn (lo lv) (hi lv) ((upd be lv nb) lv))))), (ma 5, .inl (G.1, 144, .inl (kpF (x 20) dp (aF lv * 12 + nF lv - 1) (nI (dpt - lv))))), (ma 6, .inl (G.1, 144, .inl (kpF (x 20) vl (aF lv * 12 + nF lv - 1) ((upd be lv nb) lv)))), (ma 7, .inl (G.1, 4, .inl of)), (ma 8, .inl (G.1, 14, .inl (tN aF))), (ma 9, .inl (G.1, 14, .inl (tN nF))), (ma 10, .inl (G.1, 14, .inl lo)), (ma 11, .inl (G.1, 14, .inl hi)), (ma 12, .inl (G.1, 14, .inl (upd be lv nb))), (ma 13, .inl (G.1, 14, .inl ga)), (ma 14, .inl (G.1, 14, .inl (tN tF)))] := hD
            refine lv_aload_n hx hb dX8_searches_359 rfl (lv_at hl 4 rfl) ?_
            refine va_get (D := D) (ci := 8) (v := .ref (ma 12)) (C := RX8) (T := TX8) (N := 24) hx hb hts inlX8 hown hK hP 0 rfl rfl 18 (by decide) (hts _ kw_5_18) (fun _ h9 => h9) rfl dX8_searches_360 ?_
            refine lv_iload hx hb dX8_searches_363 (lv_at hl 6 rfl) ?_
            refine ro_iald (k := lv) (v := nb) hx hb hK hP 10 0 rfl rfl rfl (by omega) (by decide) pk_us dX8_searches_365 ?_
            refine lv_istore (lv' := [(7, .int nb), (9, .int 1), (11, .int 0), (10, .int ((ga lv) - res)), (8, .int (nI (dpt - lv))), (0, .ref q), (1, .int (nI dpt)), (5, .int (nI lv)), (6, .int 0)]) hx hb dX8_searches_366 hl (by decide) rfl (fun ls hl => ?_)
            refine lv_iload hx hb dX8_searches_368 (lv_at hl 1 rfl) ?_
            refine lv_if_eq (tgt := 382) hx hb dX8_searches_370 (by decide) (fun h => absurd h (by decide)) (fun _ => ?_)
            refine lv_iinc (v := nI lv + (-1)) (lv' := [(5, .int (nI lv + (-1))), (7, .int nb), (9, .int 1), (11, .int 0), (10, .int ((ga lv) - res)), (8, .int (nI (dpt - lv))), (0, .ref q), (1, .int (nI dpt)), (6, .int 0)]) hx hb dX8_searches_373 hl (k := 7) rfl rfl (by decide) rfl (fun ls hl => ?_)
            refine lv_iconst (v := 0) hx hb dX8_searches_376 (by decide) ?_
            refine lv_istore (lv' := [(6, .int 0), (5, .int (nI lv + (-1))), (7, .int nb), (9, .int 1), (11, .int 0), (10, .int ((ga lv) - res)), (8, .int (nI (dpt - lv))), (0, .ref q), (1, .int (nI dpt))]) hx hb dX8_searches_377 hl (by decide) rfl (fun ls hl => ?_)
            refine lv_goto (tgt := 550) hx hb dX8_searches_379 (by decide) ?_
            refine lv_goto (tgt := 115) hx hb dX8_searches_550 (by decide) ?_
            exact (kkE c_295 (by omega)) _ _ _ hP (hD.fst rfl) hS (lv_sub hl [7, 8, 1, 0, 2] rfl)
        · refine lv_iconst (v := 1) hx hb dX8_searches_298 (by decide) ?_
          refine lv_goto (tgt := 303) hx hb dX8_searches_299 (by decide) ?_
          refine lv_istore (lv' := [(11, .int 1), (10, .int ((ga lv) - res)), (8, .int (nI (dpt - lv))), (0, .ref q), (1, .int (nI dpt)), (5, .int (nI lv)), (6, .int 0), (7, .int res)]) hx hb dX8_searches_303 hl (by decide) rfl (fun ls hl => ?_)
          refine lv_aload_n hx hb dX8_searches_305 rfl (lv_at hl 3 rfl) ?_
          refine lv_dup hx hb dX8_searches_306 rfl ?_
          refine va_get (D := D) (ci := 8) (v := .int ct) (C := RX8) (T := TX8) (N := 24) hx hb hts inlX8 hown hK hP 0 rfl rfl 11 (by decide) (hts _ kw_21_2) (fun _ h9 => h9) rfl dX8_searches_307 ?_
          refine lv_iload hx hb dX8_searches_310 (lv_at hl 0 rfl) ?_
          refine lv_if_eq (tgt := 319) hx hb dX8_searches_312 (by decide) (fun h => absurd h (by decide)) (fun _ => ?_)
          refine lv_iconst (v := 1) hx hb dX8_searches_315 (by decide) ?_
          refine lv_goto (tgt := 320) hx hb dX8_searches_316 (by decide) ?_
          refine ro_iadd (z := ct + 1) hx hb rfl dX8_searches_320 ?_
          refine va_put (D := D) (ci := 8) (v := .int (ct + 1)) (ty := .int) (C := RX8) (T := TX8) (N := 24) hx hb hts inlX8 tyX8 tyX8_ok nmX8 hown hK hP hD hS 0 rfl rfl 11 (by decide) (hts _ kw_21_2) (fun _ h9 => h9) rfl (by decide +kernel) rfl rfl (Nat.le_of_ble_eq_true rfl) dX8_searches_321 (fun H locs hP hD hS => ?_)
          have hP : va_P D vwCl [(q, .inr (8, [.ref (ma 0), .ref (ma 1), .int (nI sN), .ref (ma 2), .int (nI L), .int th, .ref (ma 3), .ref (ma 4), .ref (ma 5), .ref (ma 6), .int (nI nN), .int (ct + 1), .int ht, .ref (ma 7), .ref (ma 8), .ref (ma 9), .ref (ma 10), .ref (ma 11), .ref (ma 12), .ref (ma 13), .ref (ma 14), .int sp, .int iw, .int mn])), (ma 0, .inl (G.1, 457, .inl sr)), (ma 4, .inl (G.1, 144, .inl kd)), (ma 5, .inl (G.1, 144, .inl dp)), (ma 6, .inl (G.1, 144, .inl vl)), (ma 7, .inl (G.1, 4, .inl of)), (ma 8, .inl (G.1, 14, .inl (tN aF))), (ma 9, .inl (G.1, 14, .inl (tN nF))), (ma 10, .inl (G.1, 14, .inl lo)), (ma 11, .inl (G.1, 14, .inl hi)), (ma 12, .inl (G.1, 14, .inl (upd be lv nb))), (ma 13, .inl (G.1, 14, .inl ga)), (ma 14, .inl (G.1, 14, .inl (tN tF)))] H := hP
          have hD : va_D A [(q, .inr (8, [.ref (ma 0), .ref (ma 1), .int (nI sN), .ref (ma 2), .int (nI L), .int th, .ref (ma 3), .ref (ma 4), .ref (ma 5), .ref (ma 6), .int (nI nN), .int (ct + 1), .int ht, .ref (ma 7), .ref (ma 8), .ref (ma 9), .ref (ma 10), .ref (ma 11), .ref (ma 12), .ref (ma 13), .ref (ma 14), .int sp, .int iw, .int mn])), (ma 0, .inl (G.1, 457, .inl sr)), (ma 4, .inl (G.1, 144, .inl kd)), (ma 5, .inl (G.1, 144, .inl dp)), (ma 6, .inl (G.1, 144, .inl vl)), (ma 7, .inl (G.1, 4, .inl of)), (ma 8, .inl (G.1, 14, .inl (tN aF))), (ma 9, .inl (G.1, 14, .inl (tN nF))), (ma 10, .inl (G.1, 14, .inl lo)), (ma 11, .inl (G.1, 14, .inl hi)), (ma 12, .inl (G.1, 14, .inl (upd be lv nb))), (ma 13, .inl (G.1, 14, .inl ga)), (ma 14, .inl (G.1, 14, .inl (tN tF)))] := hD
          refine lv_iload hx hb dX8_searches_324 (lv_at hl 0 rfl) ?_
          refine lv_if_ne (tgt := 339) hx hb dX8_searches_326 (by decide) (fun _ => ?_) (fun h => absurd h (by decide))
          refine lv_iconst (v := 1) hx hb dX8_searches_339 (by decide) ?_
          refine lv_goto (tgt := 344) hx hb dX8_searches_340 (by decide) ?_
          refine lv_istore (lv' := [(9, .int 1), (11, .int 1), (10, .int ((ga lv) - res)), (8, .int (nI (dpt - lv))), (0, .ref q), (1, .int (nI dpt)), (5, .int (nI lv)), (6, .int 0), (7, .int res)]) hx hb dX8_searches_344 hl (by decide) rfl (fun ls hl => ?_)
          refine lv_iload hx hb dX8_searches_346 (lv_at hl 0 rfl) ?_
          refine lv_if_eq (tgt := 368) hx hb dX8_searches_348 (by decide) (fun h => absurd h (by decide)) (fun _ => ?_)
          refine lv_aload_n hx hb dX8_searches_351 rfl (lv_at hl 4 rfl) ?_
          refine lv_iload hx hb dX8_searches_352 (lv_at hl 6 rfl) ?_
          refine lv_iload hx hb dX8_searches_354 (lv_at hl 3 rfl) ?_
          refine aftV C (runV_G (As := [.int (nI lv), .int (nI (dpt - lv))]) (rest := []) (ci := 8) (N := 24) (T := TX8) (q0 := 0) C (mX8_keeps l D G q ma sN L nN th (ct + 1) ht sp iw mn sr p x y M kd dp vl aF nF lo hi (upd be lv nb) lv (dpt - lv) hR hM (by omega) hn1 (by omega) hu) hS hP hD [0, 1, 2, 3, 4, 6, 7, 8, 9, 10] rfl (by decide) rfl rfl (ys_X8_keeps) kw_22_2 kw_22_3 kw_22_4 ⟨Nat.le_of_ble_eq_true rfl, Nat.le_of_ble_eq_true rfl⟩ hl.1 (Nat.le_of_ble_eq_true rfl) dX8_searches_356 rfl rfl ⟨Nat.zero_le _, Nat.zero_le _⟩) hS hP hD [0, 1, 2, 3, 4, 6, 7, 8, 9, 10] rfl (fun _ => rfl) (fun _ H locs hp356 hP hD hS => ?_)
          have hP : va_P D vwCl [(q, .inr (8, [.ref (ma 0), .ref (ma 1), .int (nI sN), .ref (ma 2), .int (nI L), .int th, .ref (ma 3), .ref (ma 4), .ref (ma 5), .ref (ma 6), .int (nI nN), .int (ct + 1), .int ht, .ref (ma 7), .ref (ma 8), .ref (ma 9), .ref (ma 10), .ref (ma 11), .ref (ma 12), .ref (ma 13), .ref (ma 14), .int sp, .int iw, .int mn])), (ma 0, .inl (G.1, 457, .inl sr)), (ma 4, .inl (G.1, 144, .inl (kpF (x 20) kd (aF lv * 12 + nF lv - 1) (kn (lo lv) (hi lv) ((upd be lv nb) lv))))), (ma 5, .inl (G.1, 144, .inl (kpF (x 20) dp (aF lv * 12 + nF lv - 1) (nI (dpt - lv))))), (ma 6, .inl (G.1, 144, .inl (kpF (x 20) vl (aF lv * 12 + nF lv - 1) ((upd be lv nb) lv)))), (ma 7, .inl (G.1, 4, .inl of)), (ma 8, .inl (G.1, 14, .inl (tN aF))), (ma 9, .inl (G.1, 14, .inl (tN nF))), (ma 10, .inl (G.1, 14, .inl lo)), (ma 11, .inl (G.1, 14, .inl hi)), (ma 12, .inl (G.1, 14, .inl (upd be lv nb))), (ma 13, .inl (G.1, 14, .inl ga)), (ma 14, .inl (G.1, 14, .inl (tN tF)))] H := hP
          have hD : va_D A [(q, .inr (8, [.ref (ma 0), .ref (ma 1), .int (nI sN), .ref (ma 2), .int (nI L), .int th, .ref (ma 3), .ref (ma 4), .ref (ma 5), .ref (ma 6), .int (nI nN), .int (ct + 1), .int ht, .ref (ma 7), .ref (ma 8), .ref (ma 9), .ref (ma 10), .ref (ma 11), .ref (ma 12), .ref (ma 13), .ref (ma 14), .int sp, .int iw, .int mn])), (ma 0, .inl (G.1, 457, .inl sr)), (ma 4, .inl (G.1, 144, .inl (kpF (x 20) kd (aF lv * 12 + nF lv - 1) (kn (lo lv) (hi lv) ((upd be lv nb) lv))))), (ma 5, .inl (G.1, 144, .inl (kpF (x 20) dp (aF lv * 12 + nF lv - 1) (nI (dpt - lv))))), (ma 6, .inl (G.1, 144, .inl (kpF (x 20) vl (aF lv * 12 + nF lv - 1) ((upd be lv nb) lv)))), (ma 7, .inl (G.1, 4, .inl of)), (ma 8, .inl (G.1, 14, .inl (tN aF))), (ma 9, .inl (G.1, 14, .inl (tN nF))), (ma 10, .inl (G.1, 14, .inl lo)), (ma 11, .inl (G.1, 14, .inl hi)), (ma 12, .inl (G.1, 14, .inl (upd be lv nb))), (ma 13, .inl (G.1, 14, .inl ga)), (ma 14, .inl (G.1, 14, .inl (tN tF)))] := hD
          refine lv_aload_n hx hb dX8_searches_359 rfl (lv_at hl 4 rfl) ?_
          refine va_get (D := D) (ci := 8) (v := .ref (ma 12)) (C := RX8) (T := TX8) (N := 24) hx hb hts inlX8 hown hK hP 0 rfl rfl 18 (by decide) (hts _ kw_5_18) (fun _ h9 => h9) rfl dX8_searches_360 ?_
          refine lv_iload hx hb dX8_searches_363 (lv_at hl 6 rfl) ?_
          refine ro_iald (k := lv) (v := nb) hx hb hK hP 10 0 rfl rfl rfl (by omega) (by decide) pk_us dX8_searches_365 ?_
          refine lv_istore (lv' := [(7, .int nb), (9, .int 1), (11, .int 1), (10, .int ((ga lv) - res)), (8, .int (nI (dpt - lv))), (0, .ref q), (1, .int (nI dpt)), (5, .int (nI lv)), (6, .int 0)]) hx hb dX8_searches_366 hl (by decide) rfl (fun ls hl => ?_)
          refine lv_iload hx hb dX8_searches_368 (lv_at hl 1 rfl) ?_
          refine lv_if_eq (tgt := 382) hx hb dX8_searches_370 (by decide) (fun h => absurd h (by decide)) (fun _ => ?_)
          refine lv_iinc (v := nI lv + (-1)) (lv' := [(5, .int (nI lv + (-1))), (7, .int nb), (9, .int 1), (11, .int 1), (10, .int ((ga lv) - res)), (8, .int (nI (dpt - lv))), (0, .ref q), (1, .int (nI dpt)), (6, .int 0)]) hx hb dX8_searches_373 hl (k := 7) rfl rfl (by decide) rfl (fun ls hl => ?_)
          refine lv_iconst (v := 0) hx hb dX8_searches_376 (by decide) ?_
          refine lv_istore (lv' := [(6, .int 0), (5, .int (nI lv + (-1))), (7, .int nb), (9, .int 1), (11, .int 1), (10, .int ((ga lv) - res)), (8, .int (nI (dpt - lv))), (0, .ref q), (1, .int (nI dpt))]) hx hb dX8_searches_377 hl (by decide) rfl (fun ls hl => ?_)
          refine lv_goto (tgt := 550) hx hb dX8_searches_379 (by decide) ?_
          refine lv_goto (tgt := 115) hx hb dX8_searches_550 (by decide) ?_
          exact (kkX c_295) _ _ _ hP (hD.fst rfl) hS (lv_sub hl [7, 8, 1, 0, 2] rfl)
  · have c_137 := nle_f (a := nN) (b := x 19) (by omega) (by omega) c_137
    omega
set_option maxHeartbeats 800000 in
set_option maxRecDepth 100000 in
theorem sgC {pr : Program} {l : Launch} {e : Env} {s9 : State} {m9 : MethodId} {args : Array Value} {below : List Frame} {meth : Method} {c9 : Code} {A : Nat → Prop} {D : va_G} {G : u_G} {QQ : State → Prop} (C : Cx pr m9 s9 args meth c9 cX8_searches 13 RX8 (some .int) A D G) {q : Nat} {ma : Nat → Nat} {sN L nN : Nat} {th ct ht sp iw mn : Int32} {sr p : Nat → Int32} {x : Nat → Nat} {y : Nat → Int32} {M : Nat} {kd dp vl : Nat → Int32} {of : Nat → Int32} {aF nF tF : Nat → Nat} {lo hi be ga : Nat → Int32} {o lv dpt : Nat} {k : Nat} {bd : Int32}  (hR : RowR sr x y M p) (hM : M ≤ 12) (hlv : lv ≤ dpt) (hdp : dpt ≤ 12) (hnN : nN ≤ 10000) (hx19 : x 19 ≤ 5000) (hu : x 20 ≤ 1) (hfn : aF lv + nF lv ≤ M) (ho : o < 24) (hO : ∀ j, j < 4 → of j = nI (odf o j)) (hT : tF lv ≤ 4) (hkk : nOf (odf o) (nF lv) (4 - tF lv) (tF lv) = k) (hk4 : k < 4) (hmn : tk (odf o k) ≤ nF lv) (hld : lv < dpt) (hd1 : be lv = -999 → bd = lo lv) (hd2 : ¬ be lv = -999 → lo lv < be lv → bd = be lv) (hd3 : ¬ be lv = -999 → ¬ lo lv < be lv → bd = lo lv) (kkG : GdW pr l e s9 m9 args below meth c9 A D QQ [(q, .inr (8, [.ref (ma 0), .ref (ma 1), .int (nI sN), .ref (ma 2), .int (nI L), .int th, .ref (ma 3), .ref (ma 4), .ref (ma 5), .ref (ma 6), .int (nI (nN + 1)), .int ct, .int ht, .ref (ma 7), .ref (ma 8), .ref (ma 9), .ref (ma 10), .ref (ma 11), .ref (ma 12), .ref (ma 13), .ref (ma 14), .int sp, .int iw, .int mn])), (ma 0, .inl (G.1, 457, .inl sr)), (ma 4, .inl (G.1, 144, .inl kd)), (ma 5, .inl (G.1, 144, .inl dp)), (ma 6, .inl (G.1, 144, .inl vl)), (ma 7, .inl (G.1, 4, .inl of)), (ma 8, .inl (G.1, 14, .inl (tN (va_up aF (lv + 1) (bh (aF lv) (odf o k)))))), (ma 9, .inl (G.1, 14, .inl (tN (va_up nF (lv + 1) (nF lv - tk (odf o k)))))), (ma 10, .inl (G.1, 14, .inl (upd lo (lv + 1) ((cn p (aF lv) (nF lv) (odf o k)) - hi lv)))), (ma 11, .inl (G.1, 14, .inl (upd hi (lv + 1) ((cn p (aF lv) (nF lv) (odf o k)) - bd)))), (ma 12, .inl (G.1, 14, .inl (upd be (lv + 1) (-999)))), (ma 13, .inl (G.1, 14, .inl (upd ga lv (cn p (aF lv) (nF lv) (odf o k))))), (ma 14, .inl (G.1, 14, .inl (tN (va_up (va_up tF lv (k + 1)) (lv + 1) 0))))] 115 [(0, .ref q), (1, .int (nI dpt)), (5, .int (nI (lv + 1))), (6, .int 1)]) : GdW pr l e s9 m9 args below meth c9 A D QQ [(q, .inr (8, [.ref (ma 0), .ref (ma 1), .int (nI sN), .ref (ma 2), .int (nI L), .int th, .ref (ma 3), .ref (ma 4), .ref (ma 5), .ref (ma 6), .int (nI nN), .int ct, .int ht, .ref (ma 7), .ref (ma 8), .ref (ma 9), .ref (ma 10), .ref (ma 11), .ref (ma 12), .ref (ma 13), .ref (ma 14), .int sp, .int iw, .int mn])), (ma 0, .inl (G.1, 457, .inl sr)), (ma 4, .inl (G.1, 144, .inl kd)), (ma 5, .inl (G.1, 144, .inl dp)), (ma 6, .inl (G.1, 144, .inl vl)), (ma 7, .inl (G.1, 4, .inl of)), (ma 8, .inl (G.1, 14, .inl (tN aF))), (ma 9, .inl (G.1, 14, .inl (tN nF))), (ma 10, .inl (G.1, 14, .inl lo)), (ma 11, .inl (G.1, 14, .inl hi)), (ma 12, .inl (G.1, 14, .inl be)), (ma 13, .inl (G.1, 14, .inl ga)), (ma 14, .inl (G.1, 14, .inl (tN tF)))] 382 [(0, .ref q), (1, .int (nI dpt)), (5, .int (nI lv))] := by
  intro H locs ls hP hD hS hl
  obtain ⟨hx, hb, hml, hown, hts, hr, hlocks, hA, hAm⟩ := id C
  have hK := hAm.1
  have hm4 := odf_lt ho hk4
  refine lv_aload_n hx hb dX8_searches_382 rfl (lv_at hl 0 rfl) ?_
  refine lv_iload hx hb dX8_searches_383 (lv_at hl 2 rfl) ?_
  refine aftI0 C (runV_G (As := [.int (nI lv)]) (rest := []) (ci := 8) (N := 24) (T := TX8) (q0 := 0) C (mX8_nextOf l D G q ma sN L nN th ct ht sp iw mn of nF tF o lv (by omega) ho hO hT (by omega)) hS hP hD [0, 5, 7, 12] rfl (by decide) rfl rfl (ys_X8_nextOf) kw_21_22 kw_21_23 kw_22_0 ⟨Nat.le_of_ble_eq_true rfl, Nat.le_of_ble_eq_true rfl⟩ hl.1 (Nat.le_of_ble_eq_true rfl) dX8_searches_385 rfl rfl ⟨Nat.zero_le _, Nat.zero_le _⟩) hS hP hD [0, 5, 7, 12] rfl (fun r385 _ H locs hp385 hP hS => ?_)
  refine ro_top (z := nI (nOf (odf o) (nF lv) (4 - tF lv) (tF lv))) hx hp385 ?_
  refine ro_top (z := nI k) hx (congrArg nI hkk) ?_
  refine lv_istore (lv' := [(10, .int (nI k)), (0, .ref q), (1, .int (nI dpt)), (5, .int (nI lv))]) hx hb dX8_searches_388 hl (by decide) rfl (fun ls hl => ?_)
  refine lv_aload_n hx hb dX8_searches_390 rfl (lv_at hl 1 rfl) ?_
  refine va_get (D := D) (ci := 8) (v := .ref (ma 7)) (C := RX8) (T := TX8) (N := 24) hx hb hts inlX8 hown hK hP 0 rfl rfl 13 (by decide) (hts _ kw_5_13) (fun _ h9 => h9) rfl dX8_searches_391 ?_
  refine lv_iload hx hb dX8_searches_394 (lv_at hl 0 rfl) ?_
  refine ro_iald (k := k) (v := nI (odf o k)) hx hb hK hP 5 0 rfl rfl rfl (by omega) (by decide) (hO k hk4) dX8_searches_396 ?_
  refine lv_istore (lv' := [(11, .int (nI (odf o k))), (10, .int (nI k)), (0, .ref q), (1, .int (nI dpt)), (5, .int (nI lv))]) hx hb dX8_searches_397 hl (by decide) rfl (fun ls hl => ?_)
  refine lv_aload_n hx hb dX8_searches_399 rfl (lv_at hl 2 rfl) ?_
  refine va_get (D := D) (ci := 8) (v := .ref (ma 14)) (C := RX8) (T := TX8) (N := 24) hx hb hts inlX8 hown hK hP 0 rfl rfl 20 (by decide) (hts _ kw_5_20) (fun _ h9 => h9) rfl dX8_searches_400 ?_
  refine lv_iload hx hb dX8_searches_403 (lv_at hl 4 rfl) ?_
  refine lv_iload hx hb dX8_searches_405 (lv_at hl 1 rfl) ?_
  refine lv_iconst (v := 1) hx hb dX8_searches_407 (by decide) ?_
  refine ro_iadd (z := nI (k + 1)) hx hb (nI_add k 1) dX8_searches_408 ?_
  refine ro_iast (k := lv) hx hb hK hP hD hS 12 0 rfl rfl rfl (by omega) (by decide) dX8_searches_409 (fun H locs hP hD hS => ?_)
  have hP : va_P D vwCl [(q, .inr (8, [.ref (ma 0), .ref (ma 1), .int (nI sN), .ref (ma 2), .int (nI L), .int th, .ref (ma 3), .ref (ma 4), .ref (ma 5), .ref (ma 6), .int (nI nN), .int ct, .int ht, .ref (ma 7), .ref (ma 8), .ref (ma 9), .ref (ma 10), .ref (ma 11), .ref (ma 12), .ref (ma 13), .ref (ma 14), .int sp, .int iw, .int mn])), (ma 0, .inl (G.1, 457, .inl sr)), (ma 4, .inl (G.1, 144, .inl kd)), (ma 5, .inl (G.1, 144, .inl dp)), (ma 6, .inl (G.1, 144, .inl vl)), (ma 7, .inl (G.1, 4, .inl of)), (ma 8, .inl (G.1, 14, .inl (tN aF))), (ma 9, .inl (G.1, 14, .inl (tN nF))), (ma 10, .inl (G.1, 14, .inl lo)), (ma 11, .inl (G.1, 14, .inl hi)), (ma 12, .inl (G.1, 14, .inl be)), (ma 13, .inl (G.1, 14, .inl ga)), (ma 14, .inl (G.1, 14, .inl (upd (tN tF) lv (nI (k + 1)))))] H := hP
  have hD : va_D A [(q, .inr (8, [.ref (ma 0), .ref (ma 1), .int (nI sN), .ref (ma 2), .int (nI L), .int th, .ref (ma 3), .ref (ma 4), .ref (ma 5), .ref (ma 6), .int (nI nN), .int ct, .int ht, .ref (ma 7), .ref (ma 8), .ref (ma 9), .ref (ma 10), .ref (ma 11), .ref (ma 12), .ref (ma 13), .ref (ma 14), .int sp, .int iw, .int mn])), (ma 0, .inl (G.1, 457, .inl sr)), (ma 4, .inl (G.1, 144, .inl kd)), (ma 5, .inl (G.1, 144, .inl dp)), (ma 6, .inl (G.1, 144, .inl vl)), (ma 7, .inl (G.1, 4, .inl of)), (ma 8, .inl (G.1, 14, .inl (tN aF))), (ma 9, .inl (G.1, 14, .inl (tN nF))), (ma 10, .inl (G.1, 14, .inl lo)), (ma 11, .inl (G.1, 14, .inl hi)), (ma 12, .inl (G.1, 14, .inl be)), (ma 13, .inl (G.1, 14, .inl ga)), (ma 14, .inl (G.1, 14, .inl (upd (tN tF) lv (nI (k + 1)))))] := hD
  rw [tN_up] at hP hD
  refine lv_aload_n hx hb dX8_searches_410 rfl (lv_at hl 2 rfl) ?_
  refine va_get (D := D) (ci := 8) (v := .ref (ma 13)) (C := RX8) (T := TX8) (N := 24) hx hb hts inlX8 hown hK hP 0 rfl rfl 19 (by decide) (hts _ kw_5_19) (fun _ h9 => h9) rfl dX8_searches_411 ?_
  refine lv_iload hx hb dX8_searches_414 (lv_at hl 4 rfl) ?_
  refine lv_aload_n hx hb dX8_searches_416 rfl (lv_at hl 2 rfl) ?_
  refine lv_aload_n hx hb dX8_searches_417 rfl (lv_at hl 2 rfl) ?_
  refine va_get (D := D) (ci := 8) (v := .ref (ma 8)) (C := RX8) (T := TX8) (N := 24) hx hb hts inlX8 hown hK hP 0 rfl rfl 14 (by decide) (hts _ kw_5_14) (fun _ h9 => h9) rfl dX8_searches_418 ?_
  refine lv_iload hx hb dX8_searches_421 (lv_at hl 4 rfl) ?_
  refine ro_iald (k := lv) (v := nI (aF lv)) hx hb hK hP 6 0 rfl rfl rfl (by omega) (by decide) rfl dX8_searches_423 ?_
  refine lv_aload_n hx hb dX8_searches_424 rfl (lv_at hl 2 rfl) ?_
  refine va_get (D := D) (ci := 8) (v := .ref (ma 9)) (C := RX8) (T := TX8) (N := 24) hx hb hts inlX8 hown hK hP 0 rfl rfl 15 (by decide) (hts _ kw_5_15) (fun _ h9 => h9) rfl dX8_searches_425 ?_
  refine lv_iload hx hb dX8_searches_428 (lv_at hl 4 rfl) ?_
  refine ro_iald (k := lv) (v := nI (nF lv)) hx hb hK hP 7 0 rfl rfl rfl (by omega) (by decide) rfl dX8_searches_430 ?_
  refine lv_iload hx hb dX8_searches_431 (lv_at hl 0 rfl) ?_
  refine aftI0 C (runV_G (As := [.int (nI (aF lv)), .int (nI (nF lv)), .int (nI (odf o k))]) (rest := [.int (nI lv), .ref (ma 13)]) (ci := 8) (N := 24) (T := TX8) (q0 := 0) C (mX8_coinsOf l D G q ma sN L th (nI nN) ct ht sp iw mn sr p M (aF lv) (nF lv) (odf o k) hm4 hmn hfn hM hR.pp) hS hP hD [0, 1] rfl (by decide) rfl rfl (ys_X8_coinsOf) kw_12_23 kw_13_0 kw_13_1 ⟨Nat.le_of_ble_eq_true rfl, Nat.le_of_ble_eq_true rfl⟩ hl.1 (Nat.le_of_ble_eq_true rfl) dX8_searches_433 rfl rfl ⟨Nat.zero_le _, Nat.zero_le _⟩) hS hP hD [0, 1] rfl (fun r433 _ H locs hp433 hP hS => ?_)
  refine ro_top (z := cn p (aF lv) (nF lv) (odf o k)) hx hp433 ?_
  refine ro_iast (k := lv) hx hb hK hP hD hS 11 0 rfl rfl rfl (by omega) (by decide) dX8_searches_436 (fun H locs hP hD hS => ?_)
  have hP : va_P D vwCl [(q, .inr (8, [.ref (ma 0), .ref (ma 1), .int (nI sN), .ref (ma 2), .int (nI L), .int th, .ref (ma 3), .ref (ma 4), .ref (ma 5), .ref (ma 6), .int (nI nN), .int ct, .int ht, .ref (ma 7), .ref (ma 8), .ref (ma 9), .ref (ma 10), .ref (ma 11), .ref (ma 12), .ref (ma 13), .ref (ma 14), .int sp, .int iw, .int mn])), (ma 0, .inl (G.1, 457, .inl sr)), (ma 4, .inl (G.1, 144, .inl kd)), (ma 5, .inl (G.1, 144, .inl dp)), (ma 6, .inl (G.1, 144, .inl vl)), (ma 7, .inl (G.1, 4, .inl of)), (ma 8, .inl (G.1, 14, .inl (tN aF))), (ma 9, .inl (G.1, 14, .inl (tN nF))), (ma 10, .inl (G.1, 14, .inl lo)), (ma 11, .inl (G.1, 14, .inl hi)), (ma 12, .inl (G.1, 14, .inl be)), (ma 13, .inl (G.1, 14, .inl (upd ga lv (cn p (aF lv) (nF lv) (odf o k))))), (ma 14, .inl (G.1, 14, .inl (tN (va_up tF lv (k + 1)))))] H := hP
  have hD : va_D A [(q, .inr (8, [.ref (ma 0), .ref (ma 1), .int (nI sN), .ref (ma 2), .int (nI L), .int th, .ref (ma 3), .ref (ma 4), .ref (ma 5), .ref (ma 6), .int (nI nN), .int ct, .int ht, .ref (ma 7), .ref (ma 8), .ref (ma 9), .ref (ma 10), .ref (ma 11), .ref (ma 12), .ref (ma 13), .ref (ma 14), .int sp, .int iw, .int mn])), (ma 0, .inl (G.1, 457, .inl sr)), (ma 4, .inl (G.1, 144, .inl kd)), (ma 5, .inl (G.1, 144, .inl dp)), (ma 6, .inl (G.1, 144, .inl vl)), (ma 7, .inl (G.1, 4, .inl of)), (ma 8, .inl (G.1, 14, .inl (tN aF))), (ma 9, .inl (G.1, 14, .inl (tN nF))), (ma 10, .inl (G.1, 14, .inl lo)), (ma 11, .inl (G.1, 14, .inl hi)), (ma 12, .inl (G.1, 14, .inl be)), (ma 13, .inl (G.1, 14, .inl (upd ga lv (cn p (aF lv) (nF lv) (odf o k))))), (ma 14, .inl (G.1, 14, .inl (tN (va_up tF lv (k + 1)))))] := hD
  refine lv_aload_n hx hb dX8_searches_437 rfl (lv_at hl 2 rfl) ?_
  refine va_get (D := D) (ci := 8) (v := .ref (ma 12)) (C := RX8) (T := TX8) (N := 24) hx hb hts inlX8 hown hK hP 0 rfl rfl 18 (by decide) (hts _ kw_5_18) (fun _ h9 => h9) rfl dX8_searches_438 ?_
  refine lv_iload hx hb dX8_searches_441 (lv_at hl 4 rfl) ?_
  refine ro_iald (k := lv) (v := be lv) hx hb hK hP 10 0 rfl rfl rfl (by omega) (by decide) rfl dX8_searches_443 ?_
  refine lv_sipush (v := (-999)) hx hb dX8_searches_444 (by decide) ?_
  refine lv_icmp_eq (tgt := 477) hx hb dX8_searches_447 (by decide) (fun c_447 => ?_) (fun c_447 => ?_)
  · refine lv_aload_n hx hb dX8_searches_477 rfl (lv_at hl 2 rfl) ?_
    refine va_get (D := D) (ci := 8) (v := .ref (ma 10)) (C := RX8) (T := TX8) (N := 24) hx hb hts inlX8 hown hK hP 0 rfl rfl 16 (by decide) (hts _ kw_5_16) (fun _ h9 => h9) rfl dX8_searches_478 ?_
    refine lv_iload hx hb dX8_searches_481 (lv_at hl 4 rfl) ?_
    refine ro_iald (k := lv) (v := lo lv) hx hb hK hP 8 0 rfl rfl rfl (by omega) (by decide) rfl dX8_searches_483 ?_
    refine ro_top (z := bd) hx (by first | exact (hd1 c_447).symm | exact (hd1 (by simpa using c_447)).symm) ?_
    refine lv_istore (lv' := [(12, .int bd), (11, .int (nI (odf o k))), (10, .int (nI k)), (0, .ref q), (1, .int (nI dpt)), (5, .int (nI lv))]) hx hb dX8_searches_484 hl (by decide) rfl (fun ls hl => ?_)
    refine lv_aload_n hx hb dX8_searches_486 rfl (lv_at hl 3 rfl) ?_
    refine lv_iload hx hb dX8_searches_487 (lv_at hl 5 rfl) ?_
    refine lv_iconst (v := 1) hx hb dX8_searches_489 (by decide) ?_
    refine ro_iadd (z := nI (lv + 1)) hx hb (nI_add lv 1) dX8_searches_490 ?_
    refine lv_aload_n hx hb dX8_searches_491 rfl (lv_at hl 3 rfl) ?_
    refine va_get (D := D) (ci := 8) (v := .ref (ma 8)) (C := RX8) (T := TX8) (N := 24) hx hb hts inlX8 hown hK hP 0 rfl rfl 14 (by decide) (hts _ kw_5_14) (fun _ h9 => h9) rfl dX8_searches_492 ?_
    refine lv_iload hx hb dX8_searches_495 (lv_at hl 5 rfl) ?_
    refine ro_iald (k := lv) (v := nI (aF lv)) hx hb hK hP 6 0 rfl rfl rfl (by omega) (by decide) rfl dX8_searches_497 ?_
    refine lv_iload hx hb dX8_searches_498 (lv_at hl 1 rfl) ?_
    refine aftI0 C (runS_G (As := [.int (nI (aF lv)), .int (nI (odf o k))]) (rest := [.int (nI (lv + 1)), .ref q]) C (mX8_behind l D G (aF lv) (odf o k) hm4 (by omega)) hS hP hD [] rfl (by decide) (ys_X8_behind) kw_13_3 kw_13_4 ⟨Nat.le_of_ble_eq_true rfl, Nat.le_of_ble_eq_true rfl⟩ hl.1 (Nat.le_of_ble_eq_true rfl) dX8_searches_500 rfl rfl ⟨Nat.zero_le _, Nat.zero_le _⟩) hS hP hD [] rfl (fun r500 _ H locs hp500 hP hS => ?_)
    refine ro_top (z := nI (bh (aF lv) (odf o k))) hx hp500 ?_
    refine lv_aload_n hx hb dX8_searches_503 rfl (lv_at hl 3 rfl) ?_
    refine va_get (D := D) (ci := 8) (v := .ref (ma 9)) (C := RX8) (T := TX8) (N := 24) hx hb hts inlX8 hown hK hP 0 rfl rfl 15 (by decide) (hts _ kw_5_15) (fun _ h9 => h9) rfl dX8_searches_504 ?_
    refine lv_iload hx hb dX8_searches_507 (lv_at hl 5 rfl) ?_
    refine ro_iald (k := lv) (v := nI (nF lv)) hx hb hK hP 7 0 rfl rfl rfl (by omega) (by decide) rfl dX8_searches_509 ?_
    refine lv_iload hx hb dX8_searches_510 (lv_at hl 1 rfl) ?_
    refine aftI0 C (runS_G (As := [.int (nI (odf o k))]) (rest := [.int (nI (nF lv)), .int (nI (bh (aF lv) (odf o k))), .int (nI (lv + 1)), .ref q]) C (mX8_takes l D G (odf o k) hm4) hS hP hD [] rfl (by decide) (ys_X8_takes) kw_12_16 kw_12_17 ⟨Nat.le_of_ble_eq_true rfl, Nat.le_of_ble_eq_true rfl⟩ hl.1 (Nat.le_of_ble_eq_true rfl) dX8_searches_512 rfl rfl ⟨Nat.zero_le _, Nat.zero_le _⟩) hS hP hD [] rfl (fun r512 _ H locs hp512 hP hS => ?_)
    refine ro_top (z := nI (tk (odf o k))) hx hp512 ?_
    refine ro_isub (z := nI (nF lv - (tk (odf o k)))) hx hb (pk_sub (a := nF lv) (b := tk (odf o k)) (by omega)) dX8_searches_515 ?_
    refine lv_aload_n hx hb dX8_searches_516 rfl (lv_at hl 3 rfl) ?_
    refine va_get (D := D) (ci := 8) (v := .ref (ma 13)) (C := RX8) (T := TX8) (N := 24) hx hb hts inlX8 hown hK hP 0 rfl rfl 19 (by decide) (hts _ kw_5_19) (fun _ h9 => h9) rfl dX8_searches_517 ?_
    refine lv_iload hx hb dX8_searches_520 (lv_at hl 5 rfl) ?_
    refine ro_iald (k := lv) (v := cn p (aF lv) (nF lv) (odf o k)) hx hb hK hP 11 0 rfl rfl rfl (by omega) (by decide) pk_us dX8_searches_522 ?_
    refine lv_aload_n hx hb dX8_searches_523 rfl (lv_at hl 3 rfl) ?_
    refine va_get (D := D) (ci := 8) (v := .ref (ma 11)) (C := RX8) (T := TX8) (N := 24) hx hb hts inlX8 hown hK hP 0 rfl rfl 17 (by decide) (hts _ kw_5_17) (fun _ h9 => h9) rfl dX8_searches_524 ?_
    refine lv_iload hx hb dX8_searches_527 (lv_at hl 5 rfl) ?_
    refine ro_iald (k := lv) (v := hi lv) hx hb hK hP 9 0 rfl rfl rfl (by omega) (by decide) rfl dX8_searches_529 ?_
    refine lv_isub hx hb dX8_searches_530 ?_
    refine lv_aload_n hx hb dX8_searches_531 rfl (lv_at hl 3 rfl) ?_
    refine va_get (D := D) (ci := 8) (v := .ref (ma 13)) (C := RX8) (T := TX8) (N := 24) hx hb hts inlX8 hown hK hP 0 rfl rfl 19 (by decide) (hts _ kw_5_19) (fun _ h9 => h9) rfl dX8_searches_532 ?_
    refine lv_iload hx hb dX8_searches_535 (lv_at hl 5 rfl) ?_
    refine ro_iald (k := lv) (v := cn p (aF lv) (nF lv) (odf o k)) hx hb hK hP 11 0 rfl rfl rfl (by omega) (by decide) pk_us dX8_searches_537 ?_
    refine lv_iload hx hb dX8_searches_538 (lv_at hl 0 rfl) ?_
    refine lv_isub hx hb dX8_searches_540 ?_
    refine aftV C (runV_G (As := [.int (nI (lv + 1)), .int (nI (bh (aF lv) (odf o k))), .int (nI (nF lv - (tk (odf o k)))), .int ((cn p (aF lv) (nF lv) (odf o k)) - (hi lv)), .int ((cn p (aF lv) (nF lv) (odf o k)) - bd)]) (rest := []) (ci := 8) (N := 24) (T := TX8) (q0 := 0) C (mX8_enters l D G q ma sN L nN th ct ht sp iw mn aF nF (va_up tF lv (k + 1)) lo hi be (lv + 1) (bh (aF lv) (odf o k)) (nF lv - (tk (odf o k))) ((cn p (aF lv) (nF lv) (odf o k)) - (hi lv)) ((cn p (aF lv) (nF lv) (odf o k)) - bd) (by omega)) hS hP hD [0, 6, 7, 8, 9, 10, 12] rfl (by decide) rfl rfl (ys_X8_enters) kw_21_11 kw_21_12 kw_21_13 ⟨Nat.le_of_ble_eq_true rfl, Nat.le_of_ble_eq_true rfl⟩ hl.1 (Nat.le_of_ble_eq_true rfl) dX8_searches_541 rfl rfl ⟨Nat.zero_le _, Nat.zero_le _⟩) hS hP hD [0, 6, 7, 8, 9, 10, 12] rfl (fun _ => rfl) (fun _ H locs hp541 hP hD hS => ?_)
    have hP : va_P D vwCl [(q, .inr (8, [.ref (ma 0), .ref (ma 1), .int (nI sN), .ref (ma 2), .int (nI L), .int th, .ref (ma 3), .ref (ma 4), .ref (ma 5), .ref (ma 6), .int (nI (nN + 1)), .int ct, .int ht, .ref (ma 7), .ref (ma 8), .ref (ma 9), .ref (ma 10), .ref (ma 11), .ref (ma 12), .ref (ma 13), .ref (ma 14), .int sp, .int iw, .int mn])), (ma 0, .inl (G.1, 457, .inl sr)), (ma 4, .inl (G.1, 144, .inl kd)), (ma 5, .inl (G.1, 144, .inl dp)), (ma 6, .inl (G.1, 144, .inl vl)), (ma 7, .inl (G.1, 4, .inl of)), (ma 8, .inl (G.1, 14, .inl (tN (va_up aF (lv + 1) (bh (aF lv) (odf o k)))))), (ma 9, .inl (G.1, 14, .inl (tN (va_up nF (lv + 1) (nF lv - (tk (odf o k))))))), (ma 10, .inl (G.1, 14, .inl (upd lo (lv + 1) ((cn p (aF lv) (nF lv) (odf o k)) - (hi lv))))), (ma 11, .inl (G.1, 14, .inl (upd hi (lv + 1) ((cn p (aF lv) (nF lv) (odf o k)) - bd)))), (ma 12, .inl (G.1, 14, .inl (upd be (lv + 1) (-999)))), (ma 13, .inl (G.1, 14, .inl (upd ga lv (cn p (aF lv) (nF lv) (odf o k))))), (ma 14, .inl (G.1, 14, .inl (tN (va_up (va_up tF lv (k + 1)) (lv + 1) 0))))] H := hP
    have hD : va_D A [(q, .inr (8, [.ref (ma 0), .ref (ma 1), .int (nI sN), .ref (ma 2), .int (nI L), .int th, .ref (ma 3), .ref (ma 4), .ref (ma 5), .ref (ma 6), .int (nI (nN + 1)), .int ct, .int ht, .ref (ma 7), .ref (ma 8), .ref (ma 9), .ref (ma 10), .ref (ma 11), .ref (ma 12), .ref (ma 13), .ref (ma 14), .int sp, .int iw, .int mn])), (ma 0, .inl (G.1, 457, .inl sr)), (ma 4, .inl (G.1, 144, .inl kd)), (ma 5, .inl (G.1, 144, .inl dp)), (ma 6, .inl (G.1, 144, .inl vl)), (ma 7, .inl (G.1, 4, .inl of)), (ma 8, .inl (G.1, 14, .inl (tN (va_up aF (lv + 1) (bh (aF lv) (odf o k)))))), (ma 9, .inl (G.1, 14, .inl (tN (va_up nF (lv + 1) (nF lv - (tk (odf o k))))))), (ma 10, .inl (G.1, 14, .inl (upd lo (lv + 1) ((cn p (aF lv) (nF lv) (odf o k)) - (hi lv))))), (ma 11, .inl (G.1, 14, .inl (upd hi (lv + 1) ((cn p (aF lv) (nF lv) (odf o k)) - bd)))), (ma 12, .inl (G.1, 14, .inl (upd be (lv + 1) (-999)))), (ma 13, .inl (G.1, 14, .inl (upd ga lv (cn p (aF lv) (nF lv) (odf o k))))), (ma 14, .inl (G.1, 14, .inl (tN (va_up (va_up tF lv (k + 1)) (lv + 1) 0))))] := hD
    refine lv_iinc (v := nI (lv + 1)) (lv' := [(5, .int (nI (lv + 1))), (12, .int bd), (11, .int (nI (odf o k))), (10, .int (nI k)), (0, .ref q), (1, .int (nI dpt))]) hx hb dX8_searches_544 hl (k := 5) rfl (nI_add lv 1) (by decide) rfl (fun ls hl => ?_)
    refine lv_iconst (v := 1) hx hb dX8_searches_547 (by decide) ?_
    refine lv_istore (lv' := [(6, .int 1), (5, .int (nI (lv + 1))), (12, .int bd), (11, .int (nI (odf o k))), (10, .int (nI k)), (0, .ref q), (1, .int (nI dpt))]) hx hb dX8_searches_548 hl (by decide) rfl (fun ls hl => ?_)
    refine lv_goto (tgt := 115) hx hb dX8_searches_550 (by decide) ?_
    exact kkG _ _ _ hP (hD.fst rfl) hS (lv_sub hl [5, 6, 1, 0] rfl)
  · refine lv_aload_n hx hb dX8_searches_450 rfl (lv_at hl 2 rfl) ?_
    refine va_get (D := D) (ci := 8) (v := .ref (ma 12)) (C := RX8) (T := TX8) (N := 24) hx hb hts inlX8 hown hK hP 0 rfl rfl 18 (by decide) (hts _ kw_5_18) (fun _ h9 => h9) rfl dX8_searches_451 ?_
    refine lv_iload hx hb dX8_searches_454 (lv_at hl 4 rfl) ?_
    refine ro_iald (k := lv) (v := be lv) hx hb hK hP 10 0 rfl rfl rfl (by omega) (by decide) rfl dX8_searches_456 ?_
    refine lv_aload_n hx hb dX8_searches_457 rfl (lv_at hl 2 rfl) ?_
    refine va_get (D := D) (ci := 8) (v := .ref (ma 10)) (C := RX8) (T := TX8) (N := 24) hx hb hts inlX8 hown hK hP 0 rfl rfl 16 (by decide) (hts _ kw_5_16) (fun _ h9 => h9) rfl dX8_searches_458 ?_
    refine lv_iload hx hb dX8_searches_461 (lv_at hl 4 rfl) ?_
    refine ro_iald (k := lv) (v := lo lv) hx hb hK hP 8 0 rfl rfl rfl (by omega) (by decide) rfl dX8_searches_463 ?_
    refine lv_icmp_le (tgt := 477) hx hb dX8_searches_464 (by decide) (fun c_464 => ?_) (fun c_464 => ?_)
    · refine lv_aload_n hx hb dX8_searches_477 rfl (lv_at hl 2 rfl) ?_
      refine va_get (D := D) (ci := 8) (v := .ref (ma 10)) (C := RX8) (T := TX8) (N := 24) hx hb hts inlX8 hown hK hP 0 rfl rfl 16 (by decide) (hts _ kw_5_16) (fun _ h9 => h9) rfl dX8_searches_478 ?_
      refine lv_iload hx hb dX8_searches_481 (lv_at hl 4 rfl) ?_
      refine ro_iald (k := lv) (v := lo lv) hx hb hK hP 8 0 rfl rfl rfl (by omega) (by decide) rfl dX8_searches_483 ?_
      refine ro_top (z := bd) hx (by first | exact (hd3 c_447 (Int32.not_lt.mpr c_464)).symm | exact (hd3 c_447 c_464).symm) ?_
      refine lv_istore (lv' := [(12, .int bd), (11, .int (nI (odf o k))), (10, .int (nI k)), (0, .ref q), (1, .int (nI dpt)), (5, .int (nI lv))]) hx hb dX8_searches_484 hl (by decide) rfl (fun ls hl => ?_)
      refine lv_aload_n hx hb dX8_searches_486 rfl (lv_at hl 3 rfl) ?_
      refine lv_iload hx hb dX8_searches_487 (lv_at hl 5 rfl) ?_
      refine lv_iconst (v := 1) hx hb dX8_searches_489 (by decide) ?_
      refine ro_iadd (z := nI (lv + 1)) hx hb (nI_add lv 1) dX8_searches_490 ?_
      refine lv_aload_n hx hb dX8_searches_491 rfl (lv_at hl 3 rfl) ?_
      refine va_get (D := D) (ci := 8) (v := .ref (ma 8)) (C := RX8) (T := TX8) (N := 24) hx hb hts inlX8 hown hK hP 0 rfl rfl 14 (by decide) (hts _ kw_5_14) (fun _ h9 => h9) rfl dX8_searches_492 ?_
      refine lv_iload hx hb dX8_searches_495 (lv_at hl 5 rfl) ?_
      refine ro_iald (k := lv) (v := nI (aF lv)) hx hb hK hP 6 0 rfl rfl rfl (by omega) (by decide) rfl dX8_searches_497 ?_
      refine lv_iload hx hb dX8_searches_498 (lv_at hl 1 rfl) ?_
      refine aftI0 C (runS_G (As := [.int (nI (aF lv)), .int (nI (odf o k))]) (rest := [.int (nI (lv + 1)), .ref q]) C (mX8_behind l D G (aF lv) (odf o k) hm4 (by omega)) hS hP hD [] rfl (by decide) (ys_X8_behind) kw_13_3 kw_13_4 ⟨Nat.le_of_ble_eq_true rfl, Nat.le_of_ble_eq_true rfl⟩ hl.1 (Nat.le_of_ble_eq_true rfl) dX8_searches_500 rfl rfl ⟨Nat.zero_le _, Nat.zero_le _⟩) hS hP hD [] rfl (fun r500 _ H locs hp500 hP hS => ?_)
      refine ro_top (z := nI (bh (aF lv) (odf o k))) hx hp500 ?_
      refine lv_aload_n hx hb dX8_searches_503 rfl (lv_at hl 3 rfl) ?_
      refine va_get (D := D) (ci := 8) (v := .ref (ma 9)) (C := RX8) (T := TX8) (N := 24) hx hb hts inlX8 hown hK hP 0 rfl rfl 15 (by decide) (hts _ kw_5_15) (fun _ h9 => h9) rfl dX8_searches_504 ?_
      refine lv_iload hx hb dX8_searches_507 (lv_at hl 5 rfl) ?_
      refine ro_iald (k := lv) (v := nI (nF lv)) hx hb hK hP 7 0 rfl rfl rfl (by omega) (by decide) rfl dX8_searches_509 ?_
      refine lv_iload hx hb dX8_searches_510 (lv_at hl 1 rfl) ?_
      refine aftI0 C (runS_G (As := [.int (nI (odf o k))]) (rest := [.int (nI (nF lv)), .int (nI (bh (aF lv) (odf o k))), .int (nI (lv + 1)), .ref q]) C (mX8_takes l D G (odf o k) hm4) hS hP hD [] rfl (by decide) (ys_X8_takes) kw_12_16 kw_12_17 ⟨Nat.le_of_ble_eq_true rfl, Nat.le_of_ble_eq_true rfl⟩ hl.1 (Nat.le_of_ble_eq_true rfl) dX8_searches_512 rfl rfl ⟨Nat.zero_le _, Nat.zero_le _⟩) hS hP hD [] rfl (fun r512 _ H locs hp512 hP hS => ?_)
      refine ro_top (z := nI (tk (odf o k))) hx hp512 ?_
      refine ro_isub (z := nI (nF lv - (tk (odf o k)))) hx hb (pk_sub (a := nF lv) (b := tk (odf o k)) (by omega)) dX8_searches_515 ?_
      refine lv_aload_n hx hb dX8_searches_516 rfl (lv_at hl 3 rfl) ?_
      refine va_get (D := D) (ci := 8) (v := .ref (ma 13)) (C := RX8) (T := TX8) (N := 24) hx hb hts inlX8 hown hK hP 0 rfl rfl 19 (by decide) (hts _ kw_5_19) (fun _ h9 => h9) rfl dX8_searches_517 ?_
      refine lv_iload hx hb dX8_searches_520 (lv_at hl 5 rfl) ?_
      refine ro_iald (k := lv) (v := cn p (aF lv) (nF lv) (odf o k)) hx hb hK hP 11 0 rfl rfl rfl (by omega) (by decide) pk_us dX8_searches_522 ?_
      refine lv_aload_n hx hb dX8_searches_523 rfl (lv_at hl 3 rfl) ?_
      refine va_get (D := D) (ci := 8) (v := .ref (ma 11)) (C := RX8) (T := TX8) (N := 24) hx hb hts inlX8 hown hK hP 0 rfl rfl 17 (by decide) (hts _ kw_5_17) (fun _ h9 => h9) rfl dX8_searches_524 ?_
      refine lv_iload hx hb dX8_searches_527 (lv_at hl 5 rfl) ?_
      refine ro_iald (k := lv) (v := hi lv) hx hb hK hP 9 0 rfl rfl rfl (by omega) (by decide) rfl dX8_searches_529 ?_
      refine lv_isub hx hb dX8_searches_530 ?_
      refine lv_aload_n hx hb dX8_searches_531 rfl (lv_at hl 3 rfl) ?_
      refine va_get (D := D) (ci := 8) (v := .ref (ma 13)) (C := RX8) (T := TX8) (N := 24) hx hb hts inlX8 hown hK hP 0 rfl rfl 19 (by decide) (hts _ kw_5_19) (fun _ h9 => h9) rfl dX8_searches_532 ?_
      refine lv_iload hx hb dX8_searches_535 (lv_at hl 5 rfl) ?_
      refine ro_iald (k := lv) (v := cn p (aF lv) (nF lv) (odf o k)) hx hb hK hP 11 0 rfl rfl rfl (by omega) (by decide) pk_us dX8_searches_537 ?_
      refine lv_iload hx hb dX8_searches_538 (lv_at hl 0 rfl) ?_
      refine lv_isub hx hb dX8_searches_540 ?_
      refine aftV C (runV_G (As := [.int (nI (lv + 1)), .int (nI (bh (aF lv) (odf o k))), .int (nI (nF lv - (tk (odf o k)))), .int ((cn p (aF lv) (nF lv) (odf o k)) - (hi lv)), .int ((cn p (aF lv) (nF lv) (odf o k)) - bd)]) (rest := []) (ci := 8) (N := 24) (T := TX8) (q0 := 0) C (mX8_enters l D G q ma sN L nN th ct ht sp iw mn aF nF (va_up tF lv (k + 1)) lo hi be (lv + 1) (bh (aF lv) (odf o k)) (nF lv - (tk (odf o k))) ((cn p (aF lv) (nF lv) (odf o k)) - (hi lv)) ((cn p (aF lv) (nF lv) (odf o k)) - bd) (by omega)) hS hP hD [0, 6, 7, 8, 9, 10, 12] rfl (by decide) rfl rfl (ys_X8_enters) kw_21_11 kw_21_12 kw_21_13 ⟨Nat.le_of_ble_eq_true rfl, Nat.le_of_ble_eq_true rfl⟩ hl.1 (Nat.le_of_ble_eq_true rfl) dX8_searches_541 rfl rfl ⟨Nat.zero_le _, Nat.zero_le _⟩) hS hP hD [0, 6, 7, 8, 9, 10, 12] rfl (fun _ => rfl) (fun _ H locs hp541 hP hD hS => ?_)
      have hP : va_P D vwCl [(q, .inr (8, [.ref (ma 0), .ref (ma 1), .int (nI sN), .ref (ma 2), .int (nI L), .int th, .ref (ma 3), .ref (ma 4), .ref (ma 5), .ref (ma 6), .int (nI (nN + 1)), .int ct, .int ht, .ref (ma 7), .ref (ma 8), .ref (ma 9), .ref (ma 10), .ref (ma 11), .ref (ma 12), .ref (ma 13), .ref (ma 14), .int sp, .int iw, .int mn])), (ma 0, .inl (G.1, 457, .inl sr)), (ma 4, .inl (G.1, 144, .inl kd)), (ma 5, .inl (G.1, 144, .inl dp)), (ma 6, .inl (G.1, 144, .inl vl)), (ma 7, .inl (G.1, 4, .inl of)), (ma 8, .inl (G.1, 14, .inl (tN (va_up aF (lv + 1) (bh (aF lv) (odf o k)))))), (ma 9, .inl (G.1, 14, .inl (tN (va_up nF (lv + 1) (nF lv - (tk (odf o k))))))), (ma 10, .inl (G.1, 14, .inl (upd lo (lv + 1) ((cn p (aF lv) (nF lv) (odf o k)) - (hi lv))))), (ma 11, .inl (G.1, 14, .inl (upd hi (lv + 1) ((cn p (aF lv) (nF lv) (odf o k)) - bd)))), (ma 12, .inl (G.1, 14, .inl (upd be (lv + 1) (-999)))), (ma 13, .inl (G.1, 14, .inl (upd ga lv (cn p (aF lv) (nF lv) (odf o k))))), (ma 14, .inl (G.1, 14, .inl (tN (va_up (va_up tF lv (k + 1)) (lv + 1) 0))))] H := hP
      have hD : va_D A [(q, .inr (8, [.ref (ma 0), .ref (ma 1), .int (nI sN), .ref (ma 2), .int (nI L), .int th, .ref (ma 3), .ref (ma 4), .ref (ma 5), .ref (ma 6), .int (nI (nN + 1)), .int ct, .int ht, .ref (ma 7), .ref (ma 8), .ref (ma 9), .ref (ma 10), .ref (ma 11), .ref (ma 12), .ref (ma 13), .ref (ma 14), .int sp, .int iw, .int mn])), (ma 0, .inl (G.1, 457, .inl sr)), (ma 4, .inl (G.1, 144, .inl kd)), (ma 5, .inl (G.1, 144, .inl dp)), (ma 6, .inl (G.1, 144, .inl vl)), (ma 7, .inl (G.1, 4, .inl of)), (ma 8, .inl (G.1, 14, .inl (tN (va_up aF (lv + 1) (bh (aF lv) (odf o k)))))), (ma 9, .inl (G.1, 14, .inl (tN (va_up nF (lv + 1) (nF lv - (tk (odf o k))))))), (ma 10, .inl (G.1, 14, .inl (upd lo (lv + 1) ((cn p (aF lv) (nF lv) (odf o k)) - (hi lv))))), (ma 11, .inl (G.1, 14, .inl (upd hi (lv + 1) ((cn p (aF lv) (nF lv) (odf o k)) - bd)))), (ma 12, .inl (G.1, 14, .inl (upd be (lv + 1) (-999)))), (ma 13, .inl (G.1, 14, .inl (upd ga lv (cn p (aF lv) (nF lv) (odf o k))))), (ma 14, .inl (G.1, 14, .inl (tN (va_up (va_up tF lv (k + 1)) (lv + 1) 0))))] := hD
      refine lv_iinc (v := nI (lv + 1)) (lv' := [(5, .int (nI (lv + 1))), (12, .int bd), (11, .int (nI (odf o k))), (10, .int (nI k)), (0, .ref q), (1, .int (nI dpt))]) hx hb dX8_searches_544 hl (k := 5) rfl (nI_add lv 1) (by decide) rfl (fun ls hl => ?_)
      refine lv_iconst (v := 1) hx hb dX8_searches_547 (by decide) ?_
      refine lv_istore (lv' := [(6, .int 1), (5, .int (nI (lv + 1))), (12, .int bd), (11, .int (nI (odf o k))), (10, .int (nI k)), (0, .ref q), (1, .int (nI dpt))]) hx hb dX8_searches_548 hl (by decide) rfl (fun ls hl => ?_)
      refine lv_goto (tgt := 115) hx hb dX8_searches_550 (by decide) ?_
      exact kkG _ _ _ hP (hD.fst rfl) hS (lv_sub hl [5, 6, 1, 0] rfl)
    · refine lv_aload_n hx hb dX8_searches_467 rfl (lv_at hl 2 rfl) ?_
      refine va_get (D := D) (ci := 8) (v := .ref (ma 12)) (C := RX8) (T := TX8) (N := 24) hx hb hts inlX8 hown hK hP 0 rfl rfl 18 (by decide) (hts _ kw_5_18) (fun _ h9 => h9) rfl dX8_searches_468 ?_
      refine lv_iload hx hb dX8_searches_471 (lv_at hl 4 rfl) ?_
      refine ro_iald (k := lv) (v := be lv) hx hb hK hP 10 0 rfl rfl rfl (by omega) (by decide) rfl dX8_searches_473 ?_
      refine lv_goto (tgt := 484) hx hb dX8_searches_474 (by decide) ?_
      refine ro_top (z := bd) hx (by first | exact (hd2 c_447 (Int32.not_le.mp c_464)).symm | exact (hd2 c_447 c_464).symm) ?_
      refine lv_istore (lv' := [(12, .int bd), (11, .int (nI (odf o k))), (10, .int (nI k)), (0, .ref q), (1, .int (nI dpt)), (5, .int (nI lv))]) hx hb dX8_searches_484 hl (by decide) rfl (fun ls hl => ?_)
      refine lv_aload_n hx hb dX8_searches_486 rfl (lv_at hl 3 rfl) ?_
      refine lv_iload hx hb dX8_searches_487 (lv_at hl 5 rfl) ?_
      refine lv_iconst (v := 1) hx hb dX8_searches_489 (by decide) ?_
      refine ro_iadd (z := nI (lv + 1)) hx hb (nI_add lv 1) dX8_searches_490 ?_
      refine lv_aload_n hx hb dX8_searches_491 rfl (lv_at hl 3 rfl) ?_
      refine va_get (D := D) (ci := 8) (v := .ref (ma 8)) (C := RX8) (T := TX8) (N := 24) hx hb hts inlX8 hown hK hP 0 rfl rfl 14 (by decide) (hts _ kw_5_14) (fun _ h9 => h9) rfl dX8_searches_492 ?_
      refine lv_iload hx hb dX8_searches_495 (lv_at hl 5 rfl) ?_
      refine ro_iald (k := lv) (v := nI (aF lv)) hx hb hK hP 6 0 rfl rfl rfl (by omega) (by decide) rfl dX8_searches_497 ?_
      refine lv_iload hx hb dX8_searches_498 (lv_at hl 1 rfl) ?_
      refine aftI0 C (runS_G (As := [.int (nI (aF lv)), .int (nI (odf o k))]) (rest := [.int (nI (lv + 1)), .ref q]) C (mX8_behind l D G (aF lv) (odf o k) hm4 (by omega)) hS hP hD [] rfl (by decide) (ys_X8_behind) kw_13_3 kw_13_4 ⟨Nat.le_of_ble_eq_true rfl, Nat.le_of_ble_eq_true rfl⟩ hl.1 (Nat.le_of_ble_eq_true rfl) dX8_searches_500 rfl rfl ⟨Nat.zero_le _, Nat.zero_le _⟩) hS hP hD [] rfl (fun r500 _ H locs hp500 hP hS => ?_)
      refine ro_top (z := nI (bh (aF lv) (odf o k))) hx hp500 ?_
      refine lv_aload_n hx hb dX8_searches_503 rfl (lv_at hl 3 rfl) ?_
      refine va_get (D := D) (ci := 8) (v := .ref (ma 9)) (C := RX8) (T := TX8) (N := 24) hx hb hts inlX8 hown hK hP 0 rfl rfl 15 (by decide) (hts _ kw_5_15) (fun _ h9 => h9) rfl dX8_searches_504 ?_
      refine lv_iload hx hb dX8_searches_507 (lv_at hl 5 rfl) ?_
      refine ro_iald (k := lv) (v := nI (nF lv)) hx hb hK hP 7 0 rfl rfl rfl (by omega) (by decide) rfl dX8_searches_509 ?_
      refine lv_iload hx hb dX8_searches_510 (lv_at hl 1 rfl) ?_
      refine aftI0 C (runS_G (As := [.int (nI (odf o k))]) (rest := [.int (nI (nF lv)), .int (nI (bh (aF lv) (odf o k))), .int (nI (lv + 1)), .ref q]) C (mX8_takes l D G (odf o k) hm4) hS hP hD [] rfl (by decide) (ys_X8_takes) kw_12_16 kw_12_17 ⟨Nat.le_of_ble_eq_true rfl, Nat.le_of_ble_eq_true rfl⟩ hl.1 (Nat.le_of_ble_eq_true rfl) dX8_searches_512 rfl rfl ⟨Nat.zero_le _, Nat.zero_le _⟩) hS hP hD [] rfl (fun r512 _ H locs hp512 hP hS => ?_)
      refine ro_top (z := nI (tk (odf o k))) hx hp512 ?_
      refine ro_isub (z := nI (nF lv - (tk (odf o k)))) hx hb (pk_sub (a := nF lv) (b := tk (odf o k)) (by omega)) dX8_searches_515 ?_
      refine lv_aload_n hx hb dX8_searches_516 rfl (lv_at hl 3 rfl) ?_
      refine va_get (D := D) (ci := 8) (v := .ref (ma 13)) (C := RX8) (T := TX8) (N := 24) hx hb hts inlX8 hown hK hP 0 rfl rfl 19 (by decide) (hts _ kw_5_19) (fun _ h9 => h9) rfl dX8_searches_517 ?_
      refine lv_iload hx hb dX8_searches_520 (lv_at hl 5 rfl) ?_
      refine ro_iald (k := lv) (v := cn p (aF lv) (nF lv) (odf o k)) hx hb hK hP 11 0 rfl rfl rfl (by omega) (by decide) pk_us dX8_searches_522 ?_
      refine lv_aload_n hx hb dX8_searches_523 rfl (lv_at hl 3 rfl) ?_
      refine va_get (D := D) (ci := 8) (v := .ref (ma 11)) (C := RX8) (T := TX8) (N := 24) hx hb hts inlX8 hown hK hP 0 rfl rfl 17 (by decide) (hts _ kw_5_17) (fun _ h9 => h9) rfl dX8_searches_524 ?_
      refine lv_iload hx hb dX8_searches_527 (lv_at hl 5 rfl) ?_
      refine ro_iald (k := lv) (v := hi lv) hx hb hK hP 9 0 rfl rfl rfl (by omega) (by decide) rfl dX8_searches_529 ?_
      refine lv_isub hx hb dX8_searches_530 ?_
      refine lv_aload_n hx hb dX8_searches_531 rfl (lv_at hl 3 rfl) ?_
      refine va_get (D := D) (ci := 8) (v := .ref (ma 13)) (C := RX8) (T := TX8) (N := 24) hx hb hts inlX8 hown hK hP 0 rfl rfl 19 (by decide) (hts _ kw_5_19) (fun _ h9 => h9) rfl dX8_searches_532 ?_
      refine lv_iload hx hb dX8_searches_535 (lv_at hl 5 rfl) ?_
      refine ro_iald (k := lv) (v := cn p (aF lv) (nF lv) (odf o k)) hx hb hK hP 11 0 rfl rfl rfl (by omega) (by decide) pk_us dX8_searches_537 ?_
      refine lv_iload hx hb dX8_searches_538 (lv_at hl 0 rfl) ?_
      refine lv_isub hx hb dX8_searches_540 ?_
      refine aftV C (runV_G (As := [.int (nI (lv + 1)), .int (nI (bh (aF lv) (odf o k))), .int (nI (nF lv - (tk (odf o k)))), .int ((cn p (aF lv) (nF lv) (odf o k)) - (hi lv)), .int ((cn p (aF lv) (nF lv) (odf o k)) - bd)]) (rest := []) (ci := 8) (N := 24) (T := TX8) (q0 := 0) C (mX8_enters l D G q ma sN L nN th ct ht sp iw mn aF nF (va_up tF lv (k + 1)) lo hi be (lv + 1) (bh (aF lv) (odf o k)) (nF lv - (tk (odf o k))) ((cn p (aF lv) (nF lv) (odf o k)) - (hi lv)) ((cn p (aF lv) (nF lv) (odf o k)) - bd) (by omega)) hS hP hD [0, 6, 7, 8, 9, 10, 12] rfl (by decide) rfl rfl (ys_X8_enters) kw_21_11 kw_21_12 kw_21_13 ⟨Nat.le_of_ble_eq_true rfl, Nat.le_of_ble_eq_true rfl⟩ hl.1 (Nat.le_of_ble_eq_true rfl) dX8_searches_541 rfl rfl ⟨Nat.zero_le _, Nat.zero_le _⟩) hS hP hD [0, 6, 7, 8, 9, 10, 12] rfl (fun _ => rfl) (fun _ H locs hp541 hP hD hS => ?_)
      have hP : va_P D vwCl [(q, .inr (8, [.ref (ma 0), .ref (ma 1), .int (nI sN), .ref (ma 2), .int (nI L), .int th, .ref (ma 3), .ref (ma 4), .ref (ma 5), .ref (ma 6), .int (nI (nN + 1)), .int ct, .int ht, .ref (ma 7), .ref (ma 8), .ref (ma 9), .ref (ma 10), .ref (ma 11), .ref (ma 12), .ref (ma 13), .ref (ma 14), .int sp, .int iw, .int mn])), (ma 0, .inl (G.1, 457, .inl sr)), (ma 4, .inl (G.1, 144, .inl kd)), (ma 5, .inl (G.1, 144, .inl dp)), (ma 6, .inl (G.1, 144, .inl vl)), (ma 7, .inl (G.1, 4, .inl of)), (ma 8, .inl (G.1, 14, .inl (tN (va_up aF (lv + 1) (bh (aF lv) (odf o k)))))), (ma 9, .inl (G.1, 14, .inl (tN (va_up nF (lv + 1) (nF lv - (tk (odf o k))))))), (ma 10, .inl (G.1, 14, .inl (upd lo (lv + 1) ((cn p (aF lv) (nF lv) (odf o k)) - (hi lv))))), (ma 11, .inl (G.1, 14, .inl (upd hi (lv + 1) ((cn p (aF lv) (nF lv) (odf o k)) - bd)))), (ma 12, .inl (G.1, 14, .inl (upd be (lv + 1) (-999)))), (ma 13, .inl (G.1, 14, .inl (upd ga lv (cn p (aF lv) (nF lv) (odf o k))))), (ma 14, .inl (G.1, 14, .inl (tN (va_up (va_up tF lv (k + 1)) (lv + 1) 0))))] H := hP
      have hD : va_D A [(q, .inr (8, [.ref (ma 0), .ref (ma 1), .int (nI sN), .ref (ma 2), .int (nI L), .int th, .ref (ma 3), .ref (ma 4), .ref (ma 5), .ref (ma 6), .int (nI (nN + 1)), .int ct, .int ht, .ref (ma 7), .ref (ma 8), .ref (ma 9), .ref (ma 10), .ref (ma 11), .ref (ma 12), .ref (ma 13), .ref (ma 14), .int sp, .int iw, .int mn])), (ma 0, .inl (G.1, 457, .inl sr)), (ma 4, .inl (G.1, 144, .inl kd)), (ma 5, .inl (G.1, 144, .inl dp)), (ma 6, .inl (G.1, 144, .inl vl)), (ma 7, .inl (G.1, 4, .inl of)), (ma 8, .inl (G.1, 14, .inl (tN (va_up aF (lv + 1) (bh (aF lv) (odf o k)))))), (ma 9, .inl (G.1, 14, .inl (tN (va_up nF (lv + 1) (nF lv - (tk (odf o k))))))), (ma 10, .inl (G.1, 14, .inl (upd lo (lv + 1) ((cn p (aF lv) (nF lv) (odf o k)) - (hi lv))))), (ma 11, .inl (G.1, 14, .inl (upd hi (lv + 1) ((cn p (aF lv) (nF lv) (odf o k)) - bd)))), (ma 12, .inl (G.1, 14, .inl (upd be (lv + 1) (-999)))), (ma 13, .inl (G.1, 14, .inl (upd ga lv (cn p (aF lv) (nF lv) (odf o k))))), (ma 14, .inl (G.1, 14, .inl (tN (va_up (va_up tF lv (k + 1)) (lv + 1) 0))))] := hD
      refine lv_iinc (v := nI (lv + 1)) (lv' := [(5, .int (nI (lv + 1))), (12, .int bd), (11, .int (nI (odf o k))), (10, .int (nI k)), (0, .ref q), (1, .int (nI dpt))]) hx hb dX8_searches_544 hl (k := 5) rfl (nI_add lv 1) (by decide) rfl (fun ls hl => ?_)
      refine lv_iconst (v := 1) hx hb dX8_searches_547 (by decide) ?_
      refine lv_istore (lv' := [(6, .int 1), (5, .int (nI (lv + 1))), (12, .int bd), (11, .int (nI (odf o k))), (10, .int (nI k)), (0, .ref q), (1, .int (nI dpt))]) hx hb dX8_searches_548 hl (by decide) rfl (fun ls hl => ?_)
      refine lv_goto (tgt := 115) hx hb dX8_searches_550 (by decide) ?_
      exact kkG _ _ _ hP (hD.fst rfl) hS (lv_sub hl [5, 6, 1, 0] rfl)
