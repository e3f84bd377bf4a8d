/-! the law's loop -/
set_option maxHeartbeats 4000000 in
set_option maxRecDepth 100000 in
theorem law_loop {pr : Program} {l : Launch} {e : Env} {s : State} {m9 : MethodId} {args : Array Value} {below : List Frame} {meth : Method} {c9 : Code} {A : Nat → Prop} {D : va_G} {G : u_G} {QQ : State → Prop} {b N9 q ou qm : Nat} {sc : Nat → Int32} (C0 : ∀ d : Drawn, Cx pr m9 (s.setDrawn d) args meth c9 code 9 RL (some .boolean) A D G) (hX : va_X b N9 sc s s.heap) (hbl : b < s.heap.size) (hbA : ¬ A b) (hN : N9 ≤ 2048) (hlt : l.stackTraces = false)
    (E : ∀ (d : Drawn) (H : Heap) (locs : List Loc) (ls : Array Slot) (cl sl : Nat), s.drawn.sameBut d lw_cs → va_S A s.heap H locs → cl ≤ 601024 → sl ≤ 7293034 → W pr l e room_1 (s.setDrawn d) m9 args below meth c9 H locs cl sl QQ (F0 m9 1388 ls [])) :
    ∀ (n i cl sl : Nat) (d : Drawn), N9 < i + 4 * n → i ≤ N9 → 4 * cl ≤ 320 + i → 4 * sl ≤ 28000 + 6 * i → s.drawn.sameBut d lw_cs → ∀ (H : Heap) (locs : List Loc) (ls : Array Slot), LI D G A q ou qm H → va_S A s.heap H locs → lv_has ls 9 (LB b q qm ou i) → W pr l e room_1 (s.setDrawn d) m9 args below meth c9 H locs cl sl QQ (F0 m9 23 ls []) := by
  intro n
  induction n with
  | zero => intro i cl sl d h1 h2; exact absurd h1 (by omega)
  | succ n ih =>
    intro i cl sl d h1 h2 h3 h4 hd H locs ls hI hS hl
    have C := C0 d
    obtain ⟨hx, hb, hml, hown, hts, hr, hlocks, hA, hAm⟩ := id C
    have hl : lv_has ls 9 [(0, .ref b), (1, .ref q), (2, .ref qm), (3, .ref ou), (4, .int (nI i))] := hl
    refine lv_iload hx hb dL_law_23 (lv_at hl 4 rfl) ?_
    refine lv_aload_n hx hb dL_law_25 rfl (lv_at hl 0 rfl) ?_
    refine va_slen hx hb hX hbl hbA hS dL_law_26 ?_
    refine lv_iconst (v := 4) hx hb dL_law_27 (by decide) ?_
    refine lv_isub hx hb dL_law_28 ?_
    refine lv_icmp_gt (tgt := 1388) hx hb dL_law_29 (by decide) (fun c1 => ?_) (fun c1 => ?_)
    · exact E d H locs ls cl sl hd hS (by omega) (by omega)
    · have hi4 : i + 4 ≤ N9 := by
        rw [Int32.lt_iff_toInt_lt] at c1
        have e1 : (Int32.ofNat N9 - 4).toInt = (N9 : Int) - 4 := nI_m4 hN
        have e2 : (nI i).toInt = (i : Int) := nI_toInt (by omega)
        rw [e1, e2] at c1
        omega
      have hc : cl + 1 ≤ 601024 := by omega
      have hs : sl + 6 ≤ 7293034 := by omega
      have K1 : ∀ (d : Drawn) (H : Heap) (locs : List Loc) (ls : Array Slot), s.drawn.sameBut d lw_cs → LI D G A q ou qm H → va_S A s.heap H locs → lv_has ls 9 (LB b q qm ou i) → W pr l e room_1 (s.setDrawn d) m9 args below meth c9 H locs (cl + 1) (sl + 6) QQ (F0 m9 1382 ls []) := by
        intro d H locs ls hd hI hS hl
        have hl : lv_has ls 9 [(0, .ref b), (1, .ref q), (2, .ref qm), (3, .ref ou), (4, .int (nI i))] := hl
        refine lv_iinc (v := nI (i + 4)) (lv' := [(4, .int (nI (i + 4))), (0, .ref b), (1, .ref q), (2, .ref qm), (3, .ref ou)]) hx hb dL_law_1382 hl (k := 4) rfl (nI_add i 4) (by decide) rfl (fun ls hl => ?_)
        refine lv_goto (tgt := 23) hx hb dL_law_1385 (by decide) ?_
        exact ih (i + 4) (cl + 1) (sl + 6) d (by omega) (by omega) (by omega) (by omega) hd H locs ls hI hS (lv_sub hl [1, 2, 3, 4, 0] rfl)
      have K2 := fun (H : Heap) (locs : List Loc) (ls : Array Slot) hI hS hl => K1 d H locs ls hd hI hS hl
      refine lv_aload_n hx hb dL_law_32 rfl (lv_at hl 0 rfl) ?_
      refine lv_iload hx hb dL_law_33 (lv_at hl 4 rfl) ?_
      have hX2 : va_X b N9 sc (s.setDrawn d) s.heap := hX
      refine ro_sld (k := i) hx hb hX2 hbl hbA hS hN rfl (by omega) dL_law_35 ?_
      refine lv_bipush (v := 63) hx hb dL_law_36 (by decide) ?_
      refine lv_iand hx hb dL_law_38 ?_
      obtain ⟨k, hk, hk2⟩ := and63 (sc i)
      refine ro_top (z := nI k) hx hk ?_
      rcases (show k = 0 ∨ k = 1 ∨ k = 2 ∨ k = 3 ∨ k = 4 ∨ k = 5 ∨ k = 6 ∨ k = 7 ∨ k = 8 ∨ k = 9 ∨ k = 10 ∨ k = 11 ∨ k = 12 ∨ k = 13 ∨ k = 14 ∨ k = 15 ∨ k = 16 ∨ k = 17 ∨ k = 18 ∨ k = 19 ∨ k = 20 ∨ k = 21 ∨ k = 22 ∨ k = 23 ∨ k = 24 ∨ k = 25 ∨ k = 26 ∨ k = 27 ∨ k = 28 ∨ k = 29 ∨ k = 30 ∨ k = 31 ∨ k = 32 ∨ 33 ≤ k by omega) with rfl | rfl | rfl | rfl | rfl | rfl | rfl | rfl | rfl | rfl | rfl | rfl | rfl | rfl | rfl | rfl | rfl | rfl | rfl | rfl | rfl | rfl | rfl | rfl | rfl | rfl | rfl | rfl | rfl | rfl | rfl | rfl | rfl | h33
      · refine lv_tableIn (off := 145) (tgt := 184) hx hb dL_law_39 (by decide) (by decide) (by decide) (by decide) ?_
        exact cs_load (s9 := s.setDrawn d) C hX2 hbl hbA hN hi4 hlt hc hs K2 _ _ _ hI hS hl
      · refine lv_tableIn (off := 189) (tgt := 228) hx hb dL_law_39 (by decide) (by decide) (by decide) (by decide) ?_
        exact cs_play (s9 := s.setDrawn d) C hX2 hbl hbA hN hi4 hlt hc hs K2 _ _ _ hI hS hl
      · refine lv_tableIn (off := 245) (tgt := 284) hx hb dL_law_39 (by decide) (by decide) (by decide) (by decide) ?_
        exact cs_playBest (s9 := s.setDrawn d) C hX2 hbl hbA hN hi4 hlt hc hs K2 _ _ _ hI hS hl
      · refine lv_tableIn (off := 301) (tgt := 340) hx hb dL_law_39 (by decide) (by decide) (by decide) (by decide) ?_
        exact cs_turn (s9 := s.setDrawn d) C hX2 hbl hbA hN hi4 hlt hc hs K2 _ _ _ hI hS hl
      · refine lv_tableIn (off := 314) (tgt := 353) hx hb dL_law_39 (by decide) (by decide) (by decide) (by decide) ?_
        exact cs_left (s9 := s.setDrawn d) C hX2 hbl hbA hN hi4 hlt hc hs K2 _ _ _ hI hS hl
      · refine lv_tableIn (off := 327) (tgt := 366) hx hb dL_law_39 (by decide) (by decide) (by decide) (by decide) ?_
        exact cs_pile (s9 := s.setDrawn d) C hX2 hbl hbA hN hi4 hlt hc hs K2 _ _ _ hI hS hl
      · refine lv_tableIn (off := 383) (tgt := 422) hx hb dL_law_39 (by decide) (by decide) (by decide) (by decide) ?_
        exact cs_coins (s9 := s.setDrawn d) C hX2 hbl hbA hN hi4 hlt hc hs K2 _ _ _ hI hS hl
      · refine lv_tableIn (off := 439) (tgt := 478) hx hb dL_law_39 (by decide) (by decide) (by decide) (by decide) ?_
        exact cs_value (s9 := s.setDrawn d) C hX2 hbl hbA hN hi4 hlt hc hs K2 _ _ _ hI hS hl
      · refine lv_tableIn (off := 452) (tgt := 491) hx hb dL_law_39 (by decide) (by decide) (by decide) (by decide) ?_
        exact cs_resultOf (s9 := s.setDrawn d) C hX2 hbl hbA hN hi4 hlt hc hs K2 _ _ _ hI hS hl
      · refine lv_tableIn (off := 508) (tgt := 547) hx hb dL_law_39 (by decide) (by decide) (by decide) (by decide) ?_
        exact cs_bestMove (s9 := s.setDrawn d) C hX2 hbl hbA hN hi4 hlt hc hs K2 _ _ _ hI hS hl
      · refine lv_tableIn (off := 521) (tgt := 560) hx hb dL_law_39 (by decide) (by decide) (by decide) (by decide) ?_
        exact cs_line (s9 := s.setDrawn d) C hX2 hbl hbA hN hi4 hlt hc hs K2 _ _ _ hI hS hl
      · refine lv_tableIn (off := 577) (tgt := 616) hx hb dL_law_39 (by decide) (by decide) (by decide) (by decide) ?_
        exact cs_margin (s9 := s.setDrawn d) C hX2 hbl hbA hN hi4 hlt hc hs K2 _ _ _ hI hS hl
      · refine lv_tableIn (off := 590) (tgt := 629) hx hb dL_law_39 (by decide) (by decide) (by decide) (by decide) ?_
        exact cs_search (s9 := s.setDrawn d) C hX2 hbl hbA hN hi4 hlt hc hs K2 _ _ _ hI hS hl
      · refine lv_tableIn (off := 670) (tgt := 709) hx hb dL_law_39 (by decide) (by decide) (by decide) (by decide) ?_
        exact cs_result (s9 := s.setDrawn d) C hX2 hbl hbA hN hi4 hlt hc hs K2 _ _ _ hI hS hl
      · refine lv_tableIn (off := 683) (tgt := 722) hx hb dL_law_39 (by decide) (by decide) (by decide) (by decide) ?_
        exact cs_nodes (s9 := s.setDrawn d) C hX2 hbl hbA hN hi4 hlt hc hs K2 _ _ _ hI hS hl
      · refine lv_tableIn (off := 696) (tgt := 735) hx hb dL_law_39 (by decide) (by decide) (by decide) (by decide) ?_
        exact cs_cuts (s9 := s.setDrawn d) C hX2 hbl hbA hN hi4 hlt hc hs K2 _ _ _ hI hS hl
      · refine lv_tableIn (off := 709) (tgt := 748) hx hb dL_law_39 (by decide) (by decide) (by decide) (by decide) ?_
        exact cs_hits (s9 := s.setDrawn d) C hX2 hbl hbA hN hi4 hlt hc hs K2 _ _ _ hI hS hl
      · refine lv_tableIn (off := 722) (tgt := 761) hx hb dL_law_39 (by decide) (by decide) (by decide) (by decide) ?_
        exact cs_entries (s9 := s.setDrawn d) C hX2 hbl hbA hN hi4 hlt hc hs K2 _ _ _ hI hS hl
      · refine lv_tableIn (off := 735) (tgt := 774) hx hb dL_law_39 (by decide) (by decide) (by decide) (by decide) ?_
        exact cs_entryKind (s9 := s.setDrawn d) C hX2 hbl hbA hN hi4 hlt hc hs K2 _ _ _ hI hS hl
      · refine lv_tableIn (off := 803) (tgt := 842) hx hb dL_law_39 (by decide) (by decide) (by decide) (by decide) ?_
        exact cs_entryValue (s9 := s.setDrawn d) C hX2 hbl hbA hN hi4 hlt hc hs K2 _ _ _ hI hS hl
      · refine lv_tableIn (off := 871) (tgt := 910) hx hb dL_law_39 (by decide) (by decide) (by decide) (by decide) ?_
        exact cs_hitShare C0 hX hbl hbA hN hi4 hlt hc hs hd K1 _ _ _ hI hS hl
      · refine lv_tableIn (off := 912) (tgt := 951) hx hb dL_law_39 (by decide) (by decide) (by decide) (by decide) ?_
        exact cs_setOrder (s9 := s.setDrawn d) C hX2 hbl hbA hN hi4 hlt hc hs K2 _ _ _ hI hS hl
      · refine lv_tableIn (off := 968) (tgt := 1007) hx hb dL_law_39 (by decide) (by decide) (by decide) (by decide) ?_
        exact cs_order (s9 := s.setDrawn d) C hX2 hbl hbA hN hi4 hlt hc hs K2 _ _ _ hI hS hl
      · refine lv_tableIn (off := 1024) (tgt := 1063) hx hb dL_law_39 (by decide) (by decide) (by decide) (by decide) ?_
        exact cs_setLimit (s9 := s.setDrawn d) C hX2 hbl hbA hN hi4 hlt hc hs K2 _ _ _ hI hS hl
      · refine lv_tableIn (off := 1080) (tgt := 1119) hx hb dL_law_39 (by decide) (by decide) (by decide) (by decide) ?_
        exact cs_useTable (s9 := s.setDrawn d) C hX2 hbl hbA hN hi4 hlt hc hs K2 _ _ _ hI hS hl
      · refine lv_tableIn (off := 1121) (tgt := 1160) hx hb dL_law_39 (by decide) (by decide) (by decide) (by decide) ?_
        exact cs_nodesWith (s9 := s.setDrawn d) C hX2 hbl hbA hN hi4 hlt hc hs K2 _ _ _ hI hS hl
      · refine lv_tableIn (off := 1177) (tgt := 1216) hx hb dL_law_39 (by decide) (by decide) (by decide) (by decide) ?_
        exact cs_bestOrder (s9 := s.setDrawn d) C hX2 hbl hbA hN hi4 hlt hc hs K2 _ _ _ hI hS hl
      · refine lv_tableIn (off := 1190) (tgt := 1229) hx hb dL_law_39 (by decide) (by decide) (by decide) (by decide) ?_
        exact cs_append (s9 := s.setDrawn d) C hX2 hbl hbA hN hi4 hlt hc hs K2 _ _ _ hI hS hl
      · refine lv_tableIn (off := 1246) (tgt := 1285) hx hb dL_law_39 (by decide) (by decide) (by decide) (by decide) ?_
        exact cs_clearText (s9 := s.setDrawn d) C hX2 hbl hbA hN hi4 hlt hc hs K2 _ _ _ hI hS hl
      · refine lv_tableIn (off := 1259) (tgt := 1298) hx hb dL_law_39 (by decide) (by decide) (by decide) (by decide) ?_
        exact cs_firstError (s9 := s.setDrawn d) C hX2 hbl hbA hN hi4 hlt hc hs K2 _ _ _ hI hS hl
      · refine lv_tableIn (off := 1272) (tgt := 1311) hx hb dL_law_39 (by decide) (by decide) (by decide) (by decide) ?_
        exact cs_undo (s9 := s.setDrawn d) C hX2 hbl hbA hN hi4 hlt hc hs K2 _ _ _ hI hS hl
      · refine lv_tableIn (off := 1316) (tgt := 1355) hx hb dL_law_39 (by decide) (by decide) (by decide) (by decide) ?_
        exact cs_savedStates (s9 := s.setDrawn d) C hX2 hbl hbA hN hi4 hlt hc hs K2 _ _ _ hI hS hl
      · refine lv_tableIn (off := 1329) (tgt := 1368) hx hb dL_law_39 (by decide) (by decide) (by decide) (by decide) ?_
        exact cs_digest (s9 := s.setDrawn d) C hX2 hbl hbA hN hi4 hlt hc hs K2 _ _ _ hI hS hl
      · refine lv_tableOut (tgt := 1382) hx hb dL_law_39 (Or.inr (by rw [nI_toInt (by omega)]; omega)) (by decide) ?_
        refine W.widen (k := cl + 1) (n := sl + 6) (by omega) (by omega) ?_
        exact K1 d H locs _ hd hI hS hl
