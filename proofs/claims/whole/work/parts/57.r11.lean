/-! pieces of a search: from one place of the code to the next -/
abbrev GdW (pr : Program) (l : Launch) (e : Env) (s9 : State) (m9 : MethodId) (args : Array Value) (below : List Frame) (meth : Method) (c9 : Code) (A : Nat → Prop) (D : va_G) (QQ : State → Prop) (ws : va_W) (pc : Nat) (lv : List (Nat × Value)) : Prop :=
  ∀ (H : Heap) (locs : List Loc) (ls : Array Slot), va_P D vwCl ws H → va_D A ws → va_S A s9.heap H locs → lv_has ls 13 lv → W pr l e (rmG 4 0 0) s9 m9 args below meth c9 H locs 0 0 QQ (F0 m9 pc ls [])
set_option maxHeartbeats 800000 in
set_option maxRecDepth 100000 in
theorem sgA {pr : Program} {l : Launch} {e : Env} {s9 : State} {m9 : MethodId} {args : Array Value} {below : List Frame} {meth : Method} {c9 : Code} {A : Nat → Prop} {D : va_G} {G : u_G} {QQ : State → Prop} (C : Cx pr m9 s9 args meth c9 cX8_searches 13 RX8 (some .int) A D G) {q : Nat} {ma : Nat → Nat} {sN L nN : Nat} {th ct ht sp iw mn : Int32} {sr p : Nat → Int32} {x : Nat → Nat} {y : Nat → Int32} {M : Nat} {kd dp vl : Nat → Int32} {of : Nat → Int32} {aF nF tF : Nat → Nat} {lo hi be ga : Nat → Int32} {o lv dpt : Nat}  (hR : RowR sr x y M p) (hM : M ≤ 12) (hlv : lv ≤ dpt) (hdp : dpt ≤ 12) (hnN : nN ≤ 10000) (hx19 : x 19 ≤ 5000) (hu : x 20 ≤ 1) (hfn : aF lv + nF lv ≤ M) (ho : o < 24) (hO : ∀ j, j < 4 → of j = nI (odf o j)) (kkS : x 19 < nN → GdW pr l e s9 m9 args below meth c9 A D QQ [(q, .inr (8, [.ref (ma 0), .ref (ma 1), .int (nI sN), .ref (ma 2), .int (nI L), .int th, .ref (ma 3), .ref (ma 4), .ref (ma 5), .ref (ma 6), .int (nI nN), .int ct, .int ht, .ref (ma 7), .ref (ma 8), .ref (ma 9), .ref (ma 10), .ref (ma 11), .ref (ma 12), .ref (ma 13), .ref (ma 14), .int sp, .int iw, .int mn])), (ma 0, .inl (G.1, 457, .inl sr)), (ma 4, .inl (G.1, 144, .inl kd)), (ma 5, .inl (G.1, 144, .inl dp)), (ma 6, .inl (G.1, 144, .inl vl)), (ma 7, .inl (G.1, 4, .inl of)), (ma 8, .inl (G.1, 14, .inl (tN aF))), (ma 9, .inl (G.1, 14, .inl (tN nF))), (ma 10, .inl (G.1, 14, .inl lo)), (ma 11, .inl (G.1, 14, .inl hi)), (ma 12, .inl (G.1, 14, .inl be)), (ma 13, .inl (G.1, 14, .inl ga)), (ma 14, .inl (G.1, 14, .inl (tN tF)))] 140 [(0, .ref q)]) (kk0 : nN ≤ x 19 → (nF lv = 0 ∨ lv = dpt) → GdW pr l e s9 m9 args below meth c9 A D QQ [(q, .inr (8, [.ref (ma 0), .ref (ma 1), .int (nI sN), .ref (ma 2), .int (nI L), .int th, .ref (ma 3), .ref (ma 4), .ref (ma 5), .ref (ma 6), .int (nI nN), .int ct, .int ht, .ref (ma 7), .ref (ma 8), .ref (ma 9), .ref (ma 10), .ref (ma 11), .ref (ma 12), .ref (ma 13), .ref (ma 14), .int sp, .int iw, .int mn])), (ma 0, .inl (G.1, 457, .inl sr)), (ma 4, .inl (G.1, 144, .inl kd)), (ma 5, .inl (G.1, 144, .inl dp)), (ma 6, .inl (G.1, 144, .inl vl)), (ma 7, .inl (G.1, 4, .inl of)), (ma 8, .inl (G.1, 14, .inl (tN aF))), (ma 9, .inl (G.1, 14, .inl (tN nF))), (ma 10, .inl (G.1, 14, .inl lo)), (ma 11, .inl (G.1, 14, .inl hi)), (ma 12, .inl (G.1, 14, .inl be)), (ma 13, .inl (G.1, 14, .inl ga)), (ma 14, .inl (G.1, 14, .inl (tN tF)))] 115 [(0, .ref q), (1, .int (nI dpt)), (5, .int (nI lv + (-1))), (6, .int 0), (7, .int 0)]) (kkH : nN ≤ x 19 → ¬ nF lv = 0 → lv < dpt → (x 20 = 0 ∧ hitP kd vl dp (aF lv * 12 + nF lv - 1) (dpt - lv) (lo lv) (hi lv)) → GdW pr l e s9 m9 args below meth c9 A D QQ [(q, .inr (8, [.ref (ma 0), .ref (ma 1), .int (nI sN), .ref (ma 2), .int (nI L), .int th, .ref (ma 3), .ref (ma 4), .ref (ma 5), .ref (ma 6), .int (nI nN), .int ct, .int (ht + 1), .ref (ma 7), .ref (ma 8), .ref (ma 9), .ref (ma 10), .ref (ma 11), .ref (ma 12), .ref (ma 13), .ref (ma 14), .int sp, .int iw, .int mn])), (ma 0, .inl (G.1, 457, .inl sr)), (ma 4, .inl (G.1, 144, .inl kd)), (ma 5, .inl (G.1, 144, .inl dp)), (ma 6, .inl (G.1, 144, .inl vl)), (ma 7, .inl (G.1, 4, .inl of)), (ma 8, .inl (G.1, 14, .inl (tN aF))), (ma 9, .inl (G.1, 14, .inl (tN nF))), (ma 10, .inl (G.1, 14, .inl lo)), (ma 11, .inl (G.1, 14, .inl hi)), (ma 12, .inl (G.1, 14, .inl be)), (ma 13, .inl (G.1, 14, .inl ga)), (ma 14, .inl (G.1, 14, .inl (tN tF)))] 115 [(0, .ref q), (1, .int (nI dpt)), (5, .int (nI lv + (-1))), (6, .int 0), (7, .int (vl (aF lv * 12 + nF lv - 1)))]) (kkC : nN ≤ x 19 → ¬ nF lv = 0 → lv < dpt → ¬ (x 20 = 0 ∧ hitP kd vl dp (aF lv * 12 + nF lv - 1) (dpt - lv) (lo lv) (hi lv)) → GdW pr l e s9 m9 args below meth c9 A D QQ [(q, .inr (8, [.ref (ma 0), .ref (ma 1), .int (nI sN), .ref (ma 2), .int (nI L), .int th, .ref (ma 3), .ref (ma 4), .ref (ma 5), .ref (ma 6), .int (nI nN), .int ct, .int ht, .ref (ma 7), .ref (ma 8), .ref (ma 9), .ref (ma 10), .ref (ma 11), .ref (ma 12), .ref (ma 13), .ref (ma 14), .int sp, .int iw, .int mn])), (ma 0, .inl (G.1, 457, .inl sr)), (ma 4, .inl (G.1, 144, .inl kd)), (ma 5, .inl (G.1, 144, .inl dp)), (ma 6, .inl (G.1, 144, .inl vl)), (ma 7, .inl (G.1, 4, .inl of)), (ma 8, .inl (G.1, 14, .inl (tN aF))), (ma 9, .inl (G.1, 14, .inl (tN nF))), (ma 10, .inl (G.1, 14, .inl lo)), (ma 11, .inl (G.1, 14, .inl hi)), (ma 12, .inl (G.1, 14, .inl be)), (ma 13, .inl (G.1, 14, .inl ga)), (ma 14, .inl (G.1, 14, .inl (tN tF)))] 382 [(0, .ref q), (1, .int (nI dpt)), (5, .int (nI lv))]) : GdW pr l e s9 m9 args below meth c9 A D QQ [(q, .inr (8, [.ref (ma 0), .ref (ma 1), .int (nI sN), .ref (ma 2), .int (nI L), .int th, .ref (ma 3), .ref (ma 4), .ref (ma 5), .ref (ma 6), .int (nI nN), .int ct, .int ht, .ref (ma 7), .ref (ma 8), .ref (ma 9), .ref (ma 10), .ref (ma 11), .ref (ma 12), .ref (ma 13), .ref (ma 14), .int sp, .int iw, .int mn])), (ma 0, .inl (G.1, 457, .inl sr)), (ma 4, .inl (G.1, 144, .inl kd)), (ma 5, .inl (G.1, 144, .inl dp)), (ma 6, .inl (G.1, 144, .inl vl)), (ma 7, .inl (G.1, 4, .inl of)), (ma 8, .inl (G.1, 14, .inl (tN aF))), (ma 9, .inl (G.1, 14, .inl (tN nF))), (ma 10, .inl (G.1, 14, .inl lo)), (ma 11, .inl (G.1, 14, .inl hi)), (ma 12, .inl (G.1, 14, .inl be)), (ma 13, .inl (G.1, 14, .inl ga)), (ma 14, .inl (G.1, 14, .inl (tN tF)))] 115 [(0, .ref q), (1, .int (nI dpt)), (5, .int (nI lv)), (6, .int 1)] := by
  intro H locs ls hP hD hS hl
  obtain ⟨hx, hb, hml, hown, hts, hr, hlocks, hA, hAm⟩ := id C
  have hK := hAm.1
  refine lv_iload hx hb dX8_searches_115 (lv_at hl 2 rfl) ?_
  refine lv_if_lt (tgt := 553) hx hb dX8_searches_117 (by decide) (fun h => absurd h (nI_pos (by omega))) (fun _ => ?_)
  refine lv_iload_n hx hb dX8_searches_120 rfl (lv_at hl 1 rfl) ?_
  refine lv_iload hx hb dX8_searches_121 (lv_at hl 2 rfl) ?_
  refine ro_isub (z := nI (dpt - lv)) hx hb (pk_sub (a := dpt) (b := lv) (by omega)) dX8_searches_123 ?_
  refine lv_istore (lv' := [(8, .int (nI (dpt - lv))), (0, .ref q), (1, .int (nI dpt)), (5, .int (nI lv)), (6, .int 1)]) hx hb dX8_searches_124 hl (by decide) rfl (fun ls hl => ?_)
  refine lv_aload_n hx hb dX8_searches_126 rfl (lv_at hl 1 rfl) ?_
  refine va_get (D := D) (ci := 8) (v := .int (nI nN)) (C := RX8) (T := TX8) (N := 24) hx hb hts inlX8 hown hK hP 0 rfl rfl 10 (by decide) (hts _ kw_21_1) (fun _ h9 => h9) rfl dX8_searches_127 ?_
  refine lv_aload_n hx hb dX8_searches_130 rfl (lv_at hl 1 rfl) ?_
  refine va_get (D := D) (ci := 8) (v := .ref (ma 0)) (C := RX8) (T := TX8) (N := 24) hx hb hts inlX8 hown hK hP 0 rfl rfl 0 (by decide) (hts _ kw_5_6) (fun _ h9 => h9) rfl dX8_searches_131 ?_
  refine lv_bipush (v := 19) hx hb dX8_searches_134 (by decide) ?_
  refine ro_iald (k := 19) (v := nI (x 19)) hx hb hK hP 1 0 rfl rfl rfl (by decide) (by decide) hR.n19 dX8_searches_136 ?_
  refine lv_icmp_le (tgt := 144) hx hb dX8_searches_137 (by decide) (fun c_137 => ?_) (fun c_137 => ?_)
  · have c_137 := nle_t (a := nN) (b := x 19) (by omega) (by omega) c_137
    refine lv_iload hx hb dX8_searches_144 (lv_at hl 4 rfl) ?_
    refine lv_if_eq (tgt := 230) hx hb dX8_searches_146 (by decide) (fun h => absurd h (by decide)) (fun _ => ?_)
    refine lv_aload_n hx hb dX8_searches_149 rfl (lv_at hl 1 rfl) ?_
    refine va_get (D := D) (ci := 8) (v := .ref (ma 9)) (C := RX8) (T := TX8) (N := 24) hx hb hts inlX8 hown hK hP 0 rfl rfl 15 (by decide) (hts _ kw_5_15) (fun _ h9 => h9) rfl dX8_searches_150 ?_
    refine lv_iload hx hb dX8_searches_153 (lv_at hl 3 rfl) ?_
    refine ro_iald (k := lv) (v := nI (nF lv)) hx hb hK hP 7 0 rfl rfl rfl (by omega) (by decide) rfl dX8_searches_155 ?_
    refine lv_if_eq (tgt := 164) hx hb dX8_searches_156 (by decide) (fun c_156 => ?_) (fun c_156 => ?_)
    · have c_156 := neq_t (a := nF lv) (b := 0) (by omega) (by omega) c_156
      refine lv_iconst (v := 1) hx hb dX8_searches_164 (by decide) ?_
      refine lv_goto (tgt := 169) hx hb dX8_searches_165 (by decide) ?_
      refine lv_istore (lv' := [(9, .int 1), (8, .int (nI (dpt - lv))), (0, .ref q), (1, .int (nI dpt)), (5, .int (nI lv)), (6, .int 1)]) hx hb dX8_searches_169 hl (by decide) rfl (fun ls hl => ?_)
      refine lv_iconst (v := 0) hx hb dX8_searches_171 (by decide) ?_
      refine lv_istore (lv' := [(7, .int 0), (9, .int 1), (8, .int (nI (dpt - lv))), (0, .ref q), (1, .int (nI dpt)), (5, .int (nI lv)), (6, .int 1)]) hx hb dX8_searches_172 hl (by decide) rfl (fun ls hl => ?_)
      refine lv_iload hx hb dX8_searches_174 (lv_at hl 1 rfl) ?_
      refine lv_if_ne (tgt := 368) hx hb dX8_searches_176 (by decide) (fun _ => ?_) (fun h => absurd h (by decide))
      refine lv_iload hx hb dX8_searches_368 (lv_at hl 1 rfl) ?_
      refine lv_if_eq (tgt := 382) hx hb dX8_searches_370 (by decide) (fun h => absurd h (by decide)) (fun _ => ?_)
      refine lv_iinc (v := nI lv + (-1)) (lv' := [(5, .int (nI lv + (-1))), (7, .int 0), (9, .int 1), (8, .int (nI (dpt - lv))), (0, .ref q), (1, .int (nI dpt)), (6, .int 1)]) hx hb dX8_searches_373 hl (k := 5) rfl rfl (by decide) rfl (fun ls hl => ?_)
      refine lv_iconst (v := 0) hx hb dX8_searches_376 (by decide) ?_
      refine lv_istore (lv' := [(6, .int 0), (5, .int (nI lv + (-1))), (7, .int 0), (9, .int 1), (8, .int (nI (dpt - lv))), (0, .ref q), (1, .int (nI dpt))]) hx hb dX8_searches_377 hl (by decide) rfl (fun ls hl => ?_)
      refine lv_goto (tgt := 550) hx hb dX8_searches_379 (by decide) ?_
      refine lv_goto (tgt := 115) hx hb dX8_searches_550 (by decide) ?_
      exact (kk0 c_137 (by omega)) _ _ _ hP (hD.fst rfl) hS (lv_sub hl [5, 6, 1, 0, 2] rfl)
    · have c_156 := neq_f (a := nF lv) (b := 0) (by omega) (by omega) c_156
      refine lv_iload hx hb dX8_searches_159 (lv_at hl 0 rfl) ?_
      refine lv_if_ne (tgt := 168) hx hb dX8_searches_161 (by decide) (fun c_161 => ?_) (fun c_161 => ?_)
      · have c_161 := neq_f (a := dpt - lv) (b := 0) (by omega) (by omega) c_161
        refine lv_iconst (v := 0) hx hb dX8_searches_168 (by decide) ?_
        refine lv_istore (lv' := [(9, .int 0), (8, .int (nI (dpt - lv))), (0, .ref q), (1, .int (nI dpt)), (5, .int (nI lv)), (6, .int 1)]) hx hb dX8_searches_169 hl (by decide) rfl (fun ls hl => ?_)
        refine lv_iconst (v := 0) hx hb dX8_searches_171 (by decide) ?_
        refine lv_istore (lv' := [(7, .int 0), (9, .int 0), (8, .int (nI (dpt - lv))), (0, .ref q), (1, .int (nI dpt)), (5, .int (nI lv)), (6, .int 1)]) hx hb dX8_searches_172 hl (by decide) rfl (fun ls hl => ?_)
        refine lv_iload hx hb dX8_searches_174 (lv_at hl 1 rfl) ?_
        refine lv_if_ne (tgt := 368) hx hb dX8_searches_176 (by decide) (fun h => absurd (by decide) h) (fun _ => ?_)
        refine lv_aload_n hx hb dX8_searches_179 rfl (lv_at hl 3 rfl) ?_
        refine lv_iload hx hb dX8_searches_180 (lv_at hl 5 rfl) ?_
        refine lv_iload hx hb dX8_searches_182 (lv_at hl 2 rfl) ?_
        refine aftI0 C (runV_G (As := [.int (nI lv), .int (nI (dpt - lv))]) (rest := []) (ci := 8) (N := 24) (T := TX8) (q0 := 0) C (mX8_isHit l D G q ma sN L nN th ct ht sp iw mn sr p x y M kd dp vl aF nF lo hi lv (dpt - lv) hR hM (by omega) (by omega) (by omega) hu) hS hP hD [0, 1, 2, 3, 4, 6, 7, 8, 9] rfl (by decide) rfl rfl (ys_X8_isHit) kw_21_15 kw_21_16 kw_21_17 ⟨Nat.le_of_ble_eq_true rfl, Nat.le_of_ble_eq_true rfl⟩ hl.1 (Nat.le_of_ble_eq_true rfl) dX8_searches_184 rfl rfl ⟨Nat.zero_le _, Nat.zero_le _⟩) hS hP hD [0, 1, 2, 3, 4, 6, 7, 8, 9] rfl (fun r184 _ H locs hp184 hP hS => ?_)
        refine ro_top (z := bI (x 20 = 0 ∧ hitP kd vl dp (aF lv * 12 + nF lv - 1) (dpt - lv) (lo lv) (hi lv))) hx hp184 ?_
        refine lv_if_eq (tgt := 368) hx hb dX8_searches_187 (by decide) (fun c_187 => ?_) (fun c_187 => ?_)
        · have c_187 := bI_0 c_187
          refine lv_iload hx hb dX8_searches_368 (lv_at hl 1 rfl) ?_
          refine lv_if_eq (tgt := 382) hx hb dX8_searches_370 (by decide) (fun _ => ?_) (fun h => absurd (by decide) h)
          exact (kkC c_137 (by omega) (by omega) c_187) _ _ _ hP (hD.fst rfl) hS (lv_sub hl [3, 4, 5] rfl)
        · have c_187 := bI_1 c_187
          refine lv_aload_n hx hb dX8_searches_190 rfl (lv_at hl 3 rfl) ?_
          refine lv_dup hx hb dX8_searches_191 rfl ?_
          refine va_get (D := D) (ci := 8) (v := .int ht) (C := RX8) (T := TX8) (N := 24) hx hb hts inlX8 hown hK hP 0 rfl rfl 12 (by decide) (hts _ kw_21_3) (fun _ h9 => h9) rfl dX8_searches_192 ?_
          refine lv_iconst (v := 1) hx hb dX8_searches_195 (by decide) ?_
          refine lv_iadd hx hb dX8_searches_196 ?_
          refine va_put (D := D) (ci := 8) (v := .int (ht + 1)) (ty := .int) (C := RX8) (T := TX8) (N := 24) hx hb hts inlX8 tyX8 tyX8_ok nmX8 hown hK hP hD hS 0 rfl rfl 12 (by decide) (hts _ kw_21_3) (fun _ h9 => h9) rfl (by decide +kernel) rfl rfl (Nat.le_of_ble_eq_true rfl) dX8_searches_197 (fun H locs hP hD hS => ?_)
          have hP : va_P D vwCl [(q, .inr (8, [.ref (ma 0), .ref (ma 1), .int (nI sN), .ref (ma 2), .int (nI L), .int th, .ref (ma 3), .ref (ma 4), .ref (ma 5), .ref (ma 6), .int (nI nN), .int ct, .int (ht + 1), .ref (ma 7), .ref (ma 8), .ref (ma 9), .ref (ma 10), .ref (ma 11), .ref (ma 12), .ref (ma 13), .ref (ma 14), .int sp, .int iw, .int mn])), (ma 0, .inl (G.1, 457, .inl sr)), (ma 4, .inl (G.1, 144, .inl kd)), (ma 5, .inl (G.1, 144, .inl dp)), (ma 6, .inl (G.1, 144, .inl vl)), (ma 7, .inl (G.1, 4, .inl of)), (ma 8, .inl (G.1, 14, .inl (tN aF))), (ma 9, .inl (G.1, 14, .inl (tN nF))), (ma 10, .inl (G.1, 14, .inl lo)), (ma 11, .inl (G.1, 14, .inl hi)), (ma 12, .inl (G.1, 14, .inl be)), (ma 13, .inl (G.1, 14, .inl ga)), (ma 14, .inl (G.1, 14, .inl (tN tF)))] H := hP
          have hD : va_D A [(q, .inr (8, [.ref (ma 0), .ref (ma 1), .int (nI sN), .ref (ma 2), .int (nI L), .int th, .ref (ma 3), .ref (ma 4), .ref (ma 5), .ref (ma 6), .int (nI nN), .int ct, .int (ht + 1), .ref (ma 7), .ref (ma 8), .ref (ma 9), .ref (ma 10), .ref (ma 11), .ref (ma 12), .ref (ma 13), .ref (ma 14), .int sp, .int iw, .int mn])), (ma 0, .inl (G.1, 457, .inl sr)), (ma 4, .inl (G.1, 144, .inl kd)), (ma 5, .inl (G.1, 144, .inl dp)), (ma 6, .inl (G.1, 144, .inl vl)), (ma 7, .inl (G.1, 4, .inl of)), (ma 8, .inl (G.1, 14, .inl (tN aF))), (ma 9, .inl (G.1, 14, .inl (tN nF))), (ma 10, .inl (G.1, 14, .inl lo)), (ma 11, .inl (G.1, 14, .inl hi)), (ma 12, .inl (G.1, 14, .inl be)), (ma 13, .inl (G.1, 14, .inl ga)), (ma 14, .inl (G.1, 14, .inl (tN tF)))] := hD
          refine lv_aload_n hx hb dX8_searches_200 rfl (lv_at hl 3 rfl) ?_
          refine va_get (D := D) (ci := 8) (v := .ref (ma 6)) (C := RX8) (T := TX8) (N := 24) hx hb hts inlX8 hown hK hP 0 rfl rfl 9 (by decide) (hts _ kw_5_12) (fun _ h9 => h9) rfl dX8_searches_201 ?_
          refine lv_aload_n hx hb dX8_searches_204 rfl (lv_at hl 3 rfl) ?_
          refine va_get (D := D) (ci := 8) (v := .ref (ma 8)) (C := RX8) (T := TX8) (N := 24) hx hb hts inlX8 hown hK hP 0 rfl rfl 14 (by decide) (hts _ kw_5_14) (fun _ h9 => h9) rfl dX8_searches_205 ?_
          refine lv_iload hx hb dX8_searches_208 (lv_at hl 5 rfl) ?_
          refine ro_iald (k := lv) (v := nI (aF lv)) hx hb hK hP 6 0 rfl rfl rfl (by omega) (by decide) rfl dX8_searches_210 ?_
          refine lv_aload_n hx hb dX8_searches_211 rfl (lv_at hl 3 rfl) ?_
          refine va_get (D := D) (ci := 8) (v := .ref (ma 9)) (C := RX8) (T := TX8) (N := 24) hx hb hts inlX8 hown hK hP 0 rfl rfl 15 (by decide) (hts _ kw_5_15) (fun _ h9 => h9) rfl dX8_searches_212 ?_
          refine lv_iload hx hb dX8_searches_215 (lv_at hl 5 rfl) ?_
          refine ro_iald (k := lv) (v := nI (nF lv)) hx hb hK hP 7 0 rfl rfl rfl (by omega) (by decide) rfl dX8_searches_217 ?_
          refine aftI0 C (runS_G (As := [.int (nI (aF lv)), .int (nI (nF lv))]) (rest := [.ref (ma 6)]) C (mX8_entry l D G (aF lv) (nF lv) (by omega)) hS hP hD [] rfl (by decide) (ys_X8_entry) kw_21_19 kw_21_20 ⟨Nat.le_of_ble_eq_true rfl, Nat.le_of_ble_eq_true rfl⟩ hl.1 (Nat.le_of_ble_eq_true rfl) dX8_searches_218 rfl rfl ⟨Nat.zero_le _, Nat.zero_le _⟩) hS hP hD [] rfl (fun r218 _ H locs hp218 hP hS => ?_)
          refine ro_top (z := nI ((aF lv) * 12 + (nF lv) - 1)) hx hp218 ?_
          refine ro_iald (k := (aF lv) * 12 + (nF lv) - 1) (v := vl ((aF lv) * 12 + (nF lv) - 1)) hx hb hK hP 4 0 rfl rfl rfl (by omega) (by decide) rfl dX8_searches_221 ?_
          refine lv_istore (lv' := [(7, .int (vl ((aF lv) * 12 + (nF lv) - 1))), (9, .int 0), (8, .int (nI (dpt - lv))), (0, .ref q), (1, .int (nI dpt)), (5, .int (nI lv)), (6, .int 1)]) hx hb dX8_searches_222 hl (by decide) rfl (fun ls hl => ?_)
          refine lv_iconst (v := 1) hx hb dX8_searches_224 (by decide) ?_
          refine lv_istore (lv' := [(9, .int 1), (7, .int (vl ((aF lv) * 12 + (nF lv) - 1))), (8, .int (nI (dpt - lv))), (0, .ref q), (1, .int (nI dpt)), (5, .int (nI lv)), (6, .int 1)]) hx hb dX8_searches_225 hl (by decide) rfl (fun ls hl => ?_)
          refine lv_goto (tgt := 368) hx hb dX8_searches_227 (by decide) ?_
          refine lv_iload hx hb dX8_searches_368 (lv_at hl 0 rfl) ?_
          refine lv_if_eq (tgt := 382) hx hb dX8_searches_370 (by decide) (fun h => absurd h (by decide)) (fun _ => ?_)
          refine lv_iinc (v := nI lv + (-1)) (lv' := [(5, .int (nI lv + (-1))), (9, .int 1), (7, .int (vl ((aF lv) * 12 + (nF lv) - 1))), (8, .int (nI (dpt - lv))), (0, .ref q), (1, .int (nI dpt)), (6, .int 1)]) hx hb dX8_searches_373 hl (k := 5) rfl rfl (by decide) rfl (fun ls hl => ?_)
          refine lv_iconst (v := 0) hx hb dX8_searches_376 (by decide) ?_
          refine lv_istore (lv' := [(6, .int 0), (5, .int (nI lv + (-1))), (9, .int 1), (7, .int (vl ((aF lv) * 12 + (nF lv) - 1))), (8, .int (nI (dpt - lv))), (0, .ref q), (1, .int (nI dpt))]) hx hb dX8_searches_377 hl (by decide) rfl (fun ls hl => ?_)
          refine lv_goto (tgt := 550) hx hb dX8_searches_379 (by decide) ?_
          refine lv_goto (tgt := 115) hx hb dX8_searches_550 (by decide) ?_
          exact (kkH c_137 (by omega) (by omega) c_187) _ _ _ hP (hD.fst rfl) hS (lv_sub hl [5, 6, 1, 0, 3] rfl)
      · have c_161 := neq_t (a := dpt - lv) (b := 0) (by omega) (by omega) c_161
        refine lv_iconst (v := 1) hx hb dX8_searches_164 (by decide) ?_
        refine lv_goto (tgt := 169) hx hb dX8_searches_165 (by decide) ?_
        refine lv_istore (lv' := [(9, .int 1), (8, .int (nI (dpt - lv))), (0, .ref q), (1, .int (nI dpt)), (5, .int (nI lv)), (6, .int 1)]) hx hb dX8_searches_169 hl (by decide) rfl (fun ls hl => ?_)
        refine lv_iconst (v := 0) hx hb dX8_searches_171 (by decide) ?_
        refine lv_istore (lv' := [(7, .int 0), (9, .int 1), (8, .int (nI (dpt - lv))), (0, .ref q), (1, .int (nI dpt)), (5, .int (nI lv)), (6, .int 1)]) hx hb dX8_searches_172 hl (by decide) rfl (fun ls hl => ?_)
        refine lv_iload hx hb dX8_searches_174 (lv_at hl 1 rfl) ?_
        refine lv_if_ne (tgt := 368) hx hb dX8_searches_176 (by decide) (fun _ => ?_) (fun h => absurd h (by decide))
        refine lv_iload hx hb dX8_searches_368 (lv_at hl 1 rfl) ?_
        refine lv_if_eq (tgt := 382) hx hb dX8_searches_370 (by decide) (fun h => absurd h (by decide)) (fun _ => ?_)
        refine lv_iinc (v := nI lv + (-1)) (lv' := [(5, .int (nI lv + (-1))), (7, .int 0), (9, .int 1), (8, .int (nI (dpt - lv))), (0, .ref q), (1, .int (nI dpt)), (6, .int 1)]) hx hb dX8_searches_373 hl (k := 5) rfl rfl (by decide) rfl (fun ls hl => ?_)
        refine lv_iconst (v := 0) hx hb dX8_searches_376 (by decide) ?_
        refine lv_istore (lv' := [(6, .int 0), (5, .int (nI lv + (-1))), (7, .int 0), (9, .int 1), (8, .int (nI (dpt - lv))), (0, .ref q), (1, .int (nI dpt))]) hx hb dX8_searches_377 hl (by decide) rfl (fun ls hl => ?_)
        refine lv_goto (tgt := 550) hx hb dX8_searches_379 (by decide) ?_
        refine lv_goto (tgt := 115) hx hb dX8_searches_550 (by decide) ?_
        exact (kk0 c_137 (by omega)) _ _ _ hP (hD.fst rfl) hS (lv_sub hl [5, 6, 1, 0, 2] rfl)
  · have c_137 := nle_f (a := nN) (b := x 19) (by omega) (by omega) c_137
    exact (kkS (by omega)) _ _ _ hP (hD.fst rfl) hS (lv_sub hl [1] rfl)
