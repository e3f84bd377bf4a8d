section LCASE
variable {pr : Program} {l : Launch} {e : Env} {s9 : State} {m9 : MethodId} {args : Array Value} {below : List Frame} {meth : Method} {c9 : Code} {A : Nat → Prop} {D : va_G} {G : u_G} {QQ : State → Prop} {cl sl : Nat} {b N9 i q ou qm : Nat} {sc : Nat → Int32}
set_option maxHeartbeats 4000000 in
theorem cs_load (C : Cx pr m9 s9 args meth c9 code 9 RL (some .boolean) A D G) (hX : va_X b N9 sc s9 s9.heap) (hbl : b < s9.heap.size) (hbA : ¬ A b) (hN : N9 ≤ 2048) (hi4 : i + 4 ≤ N9) (hlt : l.stackTraces = false) (hc : cl + 1 ≤ 601024) (hs : sl + 6 ≤ 7293034) (K : ∀ (H : Heap) (locs : List Loc) (ls : Array Slot), LI D G A q ou qm H → va_S A s9.heap H locs → lv_has ls 9 (LB b q qm ou i) → W pr l e room_1 s9 m9 args below meth c9 H locs (cl + 1) (sl + 6) QQ (F0 m9 1382 ls [])) : ∀ (H : Heap) (locs : List Loc) (ls : Array Slot), LI D G A q ou qm H → va_S A s9.heap H locs → lv_has ls 9 (LB b q qm ou i) → W pr l e room_1 s9 m9 args below meth c9 H locs cl sl QQ (F0 m9 184 ls []) := by
  intro H locs ls hI hS hl
  obtain ⟨sa, ha, ta, fa, ea, ma, x, y, p, sv, og, cg, sN, a, xs, ys, ps, L, cnt, num, F, t, v, w, c, uo, th, nd, ct, ht, sp, iw, mn, sr, M, bw, fl, kd, dp, vl, of, aF, nF, tF, lo, hi, be, ga, ⟨hP, hD⟩, hF⟩ := hI
  have hsN : sN = cg := hF.2.2.2.1.2
  subst hsN
  by_cases h : (rdA t L F).1 = L ∧ 0 < (rdA t L F).2.2.1
  · exact sg_load_ok C hX hbl hbA hN hi4 hlt hc hs hF K h.1 h.2 _ _ _ hP hD hS hl
  · exact sg_load_T1 C hX hbl hbA hN hi4 hlt hc hs hF K h _ _ _ hP hD hS hl
set_option maxHeartbeats 4000000 in
theorem cs_play (C : Cx pr m9 s9 args meth c9 code 9 RL (some .boolean) A D G) (hX : va_X b N9 sc s9 s9.heap) (hbl : b < s9.heap.size) (hbA : ¬ A b) (hN : N9 ≤ 2048) (hi4 : i + 4 ≤ N9) (hlt : l.stackTraces = false) (hc : cl + 1 ≤ 601024) (hs : sl + 6 ≤ 7293034) (K : ∀ (H : Heap) (locs : List Loc) (ls : Array Slot), LI D G A q ou qm H → va_S A s9.heap H locs → lv_has ls 9 (LB b q qm ou i) → W pr l e room_1 s9 m9 args below meth c9 H locs (cl + 1) (sl + 6) QQ (F0 m9 1382 ls [])) : ∀ (H : Heap) (locs : List Loc) (ls : Array Slot), LI D G A q ou qm H → va_S A s9.heap H locs → lv_has ls 9 (LB b q qm ou i) → W pr l e room_1 s9 m9 args below meth c9 H locs cl sl QQ (F0 m9 228 ls []) := by
  intro H locs ls hI hS hl
  obtain ⟨sa, ha, ta, fa, ea, ma, x, y, p, sv, og, cg, sN, a, xs, ys, ps, L, cnt, num, F, t, v, w, c, uo, th, nd, ct, ht, sp, iw, mn, sr, M, bw, fl, kd, dp, vl, of, aF, nF, tF, lo, hi, be, ga, ⟨hP, hD⟩, hF⟩ := hI
  have hsN : sN = cg := hF.2.2.2.1.2
  subst hsN
  by_cases h : 0 ≤ (sc (i + 1)).toInt ∧ (sc (i + 1)).toInt < 4
  · obtain ⟨m, hv, hk1, hk2⟩ := of_rng (v := sc (i + 1)) 4 (by omega) (by omega) (by omega)
    by_cases h2 : tk m ≤ x 14
    · exact sg_play_ok C hX hbl hbA hN hi4 hlt hc hs hF K hv hk1 h2 _ _ _ hP hD hS hl
    · exact sg_play_T2 C hX hbl hbA hN hi4 hlt hc hs hF K hv hk1 h2 _ _ _ hP hD hS hl
  · exact sg_play_T1 C hX hbl hbA hN hi4 hlt hc hs hF K rfl (by rw [ltl (k := 0) (z := 0) (by decide), gel (k := 4) (z := 4) (by decide)]; omega) (by rw [ltl (k := 0) (z := 0) (by decide), gtl (k := 3) (z := 3) (by decide)]; omega) _ _ _ hP hD hS hl
set_option maxHeartbeats 4000000 in
theorem cs_playBest (C : Cx pr m9 s9 args meth c9 code 9 RL (some .boolean) A D G) (hX : va_X b N9 sc s9 s9.heap) (hbl : b < s9.heap.size) (hbA : ¬ A b) (hN : N9 ≤ 2048) (hi4 : i + 4 ≤ N9) (hlt : l.stackTraces = false) (hc : cl + 1 ≤ 601024) (hs : sl + 6 ≤ 7293034) (K : ∀ (H : Heap) (locs : List Loc) (ls : Array Slot), LI D G A q ou qm H → va_S A s9.heap H locs → lv_has ls 9 (LB b q qm ou i) → W pr l e room_1 s9 m9 args below meth c9 H locs (cl + 1) (sl + 6) QQ (F0 m9 1382 ls [])) : ∀ (H : Heap) (locs : List Loc) (ls : Array Slot), LI D G A q ou qm H → va_S A s9.heap H locs → lv_has ls 9 (LB b q qm ou i) → W pr l e room_1 s9 m9 args below meth c9 H locs cl sl QQ (F0 m9 284 ls []) := by
  intro H locs ls hI hS hl
  obtain ⟨sa, ha, ta, fa, ea, ma, x, y, p, sv, og, cg, sN, a, xs, ys, ps, L, cnt, num, F, t, v, w, c, uo, th, nd, ct, ht, sp, iw, mn, sr, M, bw, fl, kd, dp, vl, of, aF, nF, tF, lo, hi, be, ga, ⟨hP, hD⟩, hF⟩ := hI
  have hsN : sN = cg := hF.2.2.2.1.2
  subst hsN
  by_cases h : 1 ≤ (sc (i + 1)).toInt ∧ (sc (i + 1)).toInt < 13
  · obtain ⟨k, hv, hk1, hk2⟩ := of_rng (v := sc (i + 1)) 13 (by omega) (by omega) (by omega)
    exact sg_playBest_ok C hX hbl hbA hN hi4 hlt hc hs hF K hv (by omega) (by omega) _ _ _ hP hD hS hl
  · exact sg_playBest_T1 C hX hbl hbA hN hi4 hlt hc hs hF K rfl (by rw [ltl (k := 1) (z := 1) (by decide), lel (k := 12) (z := 12) (by decide)]; omega) (by rw [ltl (k := 1) (z := 1) (by decide), gtl (k := 12) (z := 12) (by decide)]; omega) _ _ _ hP hD hS hl
set_option maxHeartbeats 4000000 in
theorem cs_turn (C : Cx pr m9 s9 args meth c9 code 9 RL (some .boolean) A D G) (hX : va_X b N9 sc s9 s9.heap) (hbl : b < s9.heap.size) (hbA : ¬ A b) (hN : N9 ≤ 2048) (hi4 : i + 4 ≤ N9) (hlt : l.stackTraces = false) (hc : cl + 1 ≤ 601024) (hs : sl + 6 ≤ 7293034) (K : ∀ (H : Heap) (locs : List Loc) (ls : Array Slot), LI D G A q ou qm H → va_S A s9.heap H locs → lv_has ls 9 (LB b q qm ou i) → W pr l e room_1 s9 m9 args below meth c9 H locs (cl + 1) (sl + 6) QQ (F0 m9 1382 ls [])) : ∀ (H : Heap) (locs : List Loc) (ls : Array Slot), LI D G A q ou qm H → va_S A s9.heap H locs → lv_has ls 9 (LB b q qm ou i) → W pr l e room_1 s9 m9 args below meth c9 H locs cl sl QQ (F0 m9 340 ls []) := by
  intro H locs ls hI hS hl
  obtain ⟨sa, ha, ta, fa, ea, ma, x, y, p, sv, og, cg, sN, a, xs, ys, ps, L, cnt, num, F, t, v, w, c, uo, th, nd, ct, ht, sp, iw, mn, sr, M, bw, fl, kd, dp, vl, of, aF, nF, tF, lo, hi, be, ga, ⟨hP, hD⟩, hF⟩ := hI
  have hsN : sN = cg := hF.2.2.2.1.2
  subst hsN
  exact sg_turn C hX hbl hbA hN hi4 hlt hc hs hF K  _ _ _ hP hD hS hl
set_option maxHeartbeats 4000000 in
theorem cs_left (C : Cx pr m9 s9 args meth c9 code 9 RL (some .boolean) A D G) (hX : va_X b N9 sc s9 s9.heap) (hbl : b < s9.heap.size) (hbA : ¬ A b) (hN : N9 ≤ 2048) (hi4 : i + 4 ≤ N9) (hlt : l.stackTraces = false) (hc : cl + 1 ≤ 601024) (hs : sl + 6 ≤ 7293034) (K : ∀ (H : Heap) (locs : List Loc) (ls : Array Slot), LI D G A q ou qm H → va_S A s9.heap H locs → lv_has ls 9 (LB b q qm ou i) → W pr l e room_1 s9 m9 args below meth c9 H locs (cl + 1) (sl + 6) QQ (F0 m9 1382 ls [])) : ∀ (H : Heap) (locs : List Loc) (ls : Array Slot), LI D G A q ou qm H → va_S A s9.heap H locs → lv_has ls 9 (LB b q qm ou i) → W pr l e room_1 s9 m9 args below meth c9 H locs cl sl QQ (F0 m9 353 ls []) := by
  intro H locs ls hI hS hl
  obtain ⟨sa, ha, ta, fa, ea, ma, x, y, p, sv, og, cg, sN, a, xs, ys, ps, L, cnt, num, F, t, v, w, c, uo, th, nd, ct, ht, sp, iw, mn, sr, M, bw, fl, kd, dp, vl, of, aF, nF, tF, lo, hi, be, ga, ⟨hP, hD⟩, hF⟩ := hI
  have hsN : sN = cg := hF.2.2.2.1.2
  subst hsN
  exact sg_left C hX hbl hbA hN hi4 hlt hc hs hF K  _ _ _ hP hD hS hl
set_option maxHeartbeats 4000000 in
theorem cs_pile (C : Cx pr m9 s9 args meth c9 code 9 RL (some .boolean) A D G) (hX : va_X b N9 sc s9 s9.heap) (hbl : b < s9.heap.size) (hbA : ¬ A b) (hN : N9 ≤ 2048) (hi4 : i + 4 ≤ N9) (hlt : l.stackTraces = false) (hc : cl + 1 ≤ 601024) (hs : sl + 6 ≤ 7293034) (K : ∀ (H : Heap) (locs : List Loc) (ls : Array Slot), LI D G A q ou qm H → va_S A s9.heap H locs → lv_has ls 9 (LB b q qm ou i) → W pr l e room_1 s9 m9 args below meth c9 H locs (cl + 1) (sl + 6) QQ (F0 m9 1382 ls [])) : ∀ (H : Heap) (locs : List Loc) (ls : Array Slot), LI D G A q ou qm H → va_S A s9.heap H locs → lv_has ls 9 (LB b q qm ou i) → W pr l e room_1 s9 m9 args below meth c9 H locs cl sl QQ (F0 m9 366 ls []) := by
  intro H locs ls hI hS hl
  obtain ⟨sa, ha, ta, fa, ea, ma, x, y, p, sv, og, cg, sN, a, xs, ys, ps, L, cnt, num, F, t, v, w, c, uo, th, nd, ct, ht, sp, iw, mn, sr, M, bw, fl, kd, dp, vl, of, aF, nF, tF, lo, hi, be, ga, ⟨hP, hD⟩, hF⟩ := hI
  have hsN : sN = cg := hF.2.2.2.1.2
  subst hsN
  have hx14 : x 14 ≤ 12 := by have h8 := hF.1.2.1; have h9 := hF.1.2.2.2.1; omega
  by_cases h : 0 ≤ (sc (i + 1)).toInt ∧ (sc (i + 1)).toInt < (x 14 : Int)
  · obtain ⟨k, hv, hk1, hk2⟩ := of_rng (v := sc (i + 1)) (x 14) (by omega) (by omega) (by omega)
    exact sg_pile_ok C hX hbl hbA hN hi4 hlt hc hs hF K hv hk1 _ _ _ hP hD hS hl
  · exact sg_pile_T1 C hX hbl hbA hN hi4 hlt hc hs hF K rfl (by rw [ltl (k := 0) (z := 0) (by decide), ltl (k := nI (x 14)) (z := (x 14 : Int)) (nI_toInt (by omega))]; omega) (by rw [ltl (k := 0) (z := 0) (by decide), gtl (k := nI (x 14) - 1) (z := (x 14 : Int) - 1) (nI_m1 _ (by omega))]; omega) _ _ _ hP hD hS hl
set_option maxHeartbeats 4000000 in
theorem cs_coins (C : Cx pr m9 s9 args meth c9 code 9 RL (some .boolean) A D G) (hX : va_X b N9 sc s9 s9.heap) (hbl : b < s9.heap.size) (hbA : ¬ A b) (hN : N9 ≤ 2048) (hi4 : i + 4 ≤ N9) (hlt : l.stackTraces = false) (hc : cl + 1 ≤ 601024) (hs : sl + 6 ≤ 7293034) (K : ∀ (H : Heap) (locs : List Loc) (ls : Array Slot), LI D G A q ou qm H → va_S A s9.heap H locs → lv_has ls 9 (LB b q qm ou i) → W pr l e room_1 s9 m9 args below meth c9 H locs (cl + 1) (sl + 6) QQ (F0 m9 1382 ls [])) : ∀ (H : Heap) (locs : List Loc) (ls : Array Slot), LI D G A q ou qm H → va_S A s9.heap H locs → lv_has ls 9 (LB b q qm ou i) → W pr l e room_1 s9 m9 args below meth c9 H locs cl sl QQ (F0 m9 422 ls []) := by
  intro H locs ls hI hS hl
  obtain ⟨sa, ha, ta, fa, ea, ma, x, y, p, sv, og, cg, sN, a, xs, ys, ps, L, cnt, num, F, t, v, w, c, uo, th, nd, ct, ht, sp, iw, mn, sr, M, bw, fl, kd, dp, vl, of, aF, nF, tF, lo, hi, be, ga, ⟨hP, hD⟩, hF⟩ := hI
  have hsN : sN = cg := hF.2.2.2.1.2
  subst hsN
  by_cases h : 0 ≤ (sc (i + 1)).toInt ∧ (sc (i + 1)).toInt < 2
  · obtain ⟨k, hv, hk1, hk2⟩ := of_rng (v := sc (i + 1)) 2 (by omega) (by omega) (by omega)
    exact sg_coins_ok C hX hbl hbA hN hi4 hlt hc hs hF K hv (by omega) _ _ _ hP hD hS hl
  · exact sg_coins_T1 C hX hbl hbA hN hi4 hlt hc hs hF K rfl (by rw [ltl (k := 0) (z := 0) (by decide), lel (k := 1) (z := 1) (by decide)]; omega) (by rw [ltl (k := 0) (z := 0) (by decide), gtl (k := 1) (z := 1) (by decide)]; omega) _ _ _ hP hD hS hl
set_option maxHeartbeats 4000000 in
theorem cs_value (C : Cx pr m9 s9 args meth c9 code 9 RL (some .boolean) A D G) (hX : va_X b N9 sc s9 s9.heap) (hbl : b < s9.heap.size) (hbA : ¬ A b) (hN : N9 ≤ 2048) (hi4 : i + 4 ≤ N9) (hlt : l.stackTraces = false) (hc : cl + 1 ≤ 601024) (hs : sl + 6 ≤ 7293034) (K : ∀ (H : Heap) (locs : List Loc) (ls : Array Slot), LI D G A q ou qm H → va_S A s9.heap H locs → lv_has ls 9 (LB b q qm ou i) → W pr l e room_1 s9 m9 args below meth c9 H locs (cl + 1) (sl + 6) QQ (F0 m9 1382 ls [])) : ∀ (H : Heap) (locs : List Loc) (ls : Array Slot), LI D G A q ou qm H → va_S A s9.heap H locs → lv_has ls 9 (LB b q qm ou i) → W pr l e room_1 s9 m9 args below meth c9 H locs cl sl QQ (F0 m9 478 ls []) := by
  intro H locs ls hI hS hl
  obtain ⟨sa, ha, ta, fa, ea, ma, x, y, p, sv, og, cg, sN, a, xs, ys, ps, L, cnt, num, F, t, v, w, c, uo, th, nd, ct, ht, sp, iw, mn, sr, M, bw, fl, kd, dp, vl, of, aF, nF, tF, lo, hi, be, ga, ⟨hP, hD⟩, hF⟩ := hI
  have hsN : sN = cg := hF.2.2.2.1.2
  subst hsN
  exact sg_value C hX hbl hbA hN hi4 hlt hc hs hF K  _ _ _ hP hD hS hl
set_option maxHeartbeats 4000000 in
theorem cs_resultOf (C : Cx pr m9 s9 args meth c9 code 9 RL (some .boolean) A D G) (hX : va_X b N9 sc s9 s9.heap) (hbl : b < s9.heap.size) (hbA : ¬ A b) (hN : N9 ≤ 2048) (hi4 : i + 4 ≤ N9) (hlt : l.stackTraces = false) (hc : cl + 1 ≤ 601024) (hs : sl + 6 ≤ 7293034) (K : ∀ (H : Heap) (locs : List Loc) (ls : Array Slot), LI D G A q ou qm H → va_S A s9.heap H locs → lv_has ls 9 (LB b q qm ou i) → W pr l e room_1 s9 m9 args below meth c9 H locs (cl + 1) (sl + 6) QQ (F0 m9 1382 ls [])) : ∀ (H : Heap) (locs : List Loc) (ls : Array Slot), LI D G A q ou qm H → va_S A s9.heap H locs → lv_has ls 9 (LB b q qm ou i) → W pr l e room_1 s9 m9 args below meth c9 H locs cl sl QQ (F0 m9 491 ls []) := by
  intro H locs ls hI hS hl
  obtain ⟨sa, ha, ta, fa, ea, ma, x, y, p, sv, og, cg, sN, a, xs, ys, ps, L, cnt, num, F, t, v, w, c, uo, th, nd, ct, ht, sp, iw, mn, sr, M, bw, fl, kd, dp, vl, of, aF, nF, tF, lo, hi, be, ga, ⟨hP, hD⟩, hF⟩ := hI
  have hsN : sN = cg := hF.2.2.2.1.2
  subst hsN
  by_cases h : 0 ≤ (sc (i + 1)).toInt ∧ (sc (i + 1)).toInt < 4
  · obtain ⟨m, hv, hk1, hk2⟩ := of_rng (v := sc (i + 1)) 4 (by omega) (by omega) (by omega)
    exact sg_resultOf_ok C hX hbl hbA hN hi4 hlt hc hs hF K hv hk1 _ _ _ hP hD hS hl
  · exact sg_resultOf_T1 C hX hbl hbA hN hi4 hlt hc hs hF K rfl (by rw [ltl (k := 0) (z := 0) (by decide), gel (k := 4) (z := 4) (by decide)]; omega) (by rw [ltl (k := 0) (z := 0) (by decide), gtl (k := 3) (z := 3) (by decide)]; omega) _ _ _ hP hD hS hl
set_option maxHeartbeats 4000000 in
theorem cs_bestMove (C : Cx pr m9 s9 args meth c9 code 9 RL (some .boolean) A D G) (hX : va_X b N9 sc s9 s9.heap) (hbl : b < s9.heap.size) (hbA : ¬ A b) (hN : N9 ≤ 2048) (hi4 : i + 4 ≤ N9) (hlt : l.stackTraces = false) (hc : cl + 1 ≤ 601024) (hs : sl + 6 ≤ 7293034) (K : ∀ (H : Heap) (locs : List Loc) (ls : Array Slot), LI D G A q ou qm H → va_S A s9.heap H locs → lv_has ls 9 (LB b q qm ou i) → W pr l e room_1 s9 m9 args below meth c9 H locs (cl + 1) (sl + 6) QQ (F0 m9 1382 ls [])) : ∀ (H : Heap) (locs : List Loc) (ls : Array Slot), LI D G A q ou qm H → va_S A s9.heap H locs → lv_has ls 9 (LB b q qm ou i) → W pr l e room_1 s9 m9 args below meth c9 H locs cl sl QQ (F0 m9 547 ls []) := by
  intro H locs ls hI hS hl
  obtain ⟨sa, ha, ta, fa, ea, ma, x, y, p, sv, og, cg, sN, a, xs, ys, ps, L, cnt, num, F, t, v, w, c, uo, th, nd, ct, ht, sp, iw, mn, sr, M, bw, fl, kd, dp, vl, of, aF, nF, tF, lo, hi, be, ga, ⟨hP, hD⟩, hF⟩ := hI
  have hsN : sN = cg := hF.2.2.2.1.2
  subst hsN
  exact sg_bestMove C hX hbl hbA hN hi4 hlt hc hs hF K  _ _ _ hP hD hS hl
set_option maxHeartbeats 4000000 in
theorem cs_line (C : Cx pr m9 s9 args meth c9 code 9 RL (some .boolean) A D G) (hX : va_X b N9 sc s9 s9.heap) (hbl : b < s9.heap.size) (hbA : ¬ A b) (hN : N9 ≤ 2048) (hi4 : i + 4 ≤ N9) (hlt : l.stackTraces = false) (hc : cl + 1 ≤ 601024) (hs : sl + 6 ≤ 7293034) (K : ∀ (H : Heap) (locs : List Loc) (ls : Array Slot), LI D G A q ou qm H → va_S A s9.heap H locs → lv_has ls 9 (LB b q qm ou i) → W pr l e room_1 s9 m9 args below meth c9 H locs (cl + 1) (sl + 6) QQ (F0 m9 1382 ls [])) : ∀ (H : Heap) (locs : List Loc) (ls : Array Slot), LI D G A q ou qm H → va_S A s9.heap H locs → lv_has ls 9 (LB b q qm ou i) → W pr l e room_1 s9 m9 args below meth c9 H locs cl sl QQ (F0 m9 560 ls []) := by
  intro H locs ls hI hS hl
  obtain ⟨sa, ha, ta, fa, ea, ma, x, y, p, sv, og, cg, sN, a, xs, ys, ps, L, cnt, num, F, t, v, w, c, uo, th, nd, ct, ht, sp, iw, mn, sr, M, bw, fl, kd, dp, vl, of, aF, nF, tF, lo, hi, be, ga, ⟨hP, hD⟩, hF⟩ := hI
  have hsN : sN = cg := hF.2.2.2.1.2
  subst hsN
  have hr1 := (toInt_rng (sc (i + 1))).2
  by_cases h : 0 ≤ (sc (i + 1)).toInt
  · obtain ⟨k, hv, hk1, hk2⟩ := of_rng (v := sc (i + 1)) (2 ^ 31) (by omega) (by omega) (by omega)
    exact sg_line_ok C hX hbl hbA hN hi4 hlt hc hs hF K hv hk1 _ _ _ hP hD hS hl
  · exact sg_line_T1 C hX hbl hbA hN hi4 hlt hc hs hF K rfl (by rw [gel (k := 0) (z := 0) (by decide)]; omega) _ _ _ hP hD hS hl
set_option maxHeartbeats 4000000 in
theorem cs_margin (C : Cx pr m9 s9 args meth c9 code 9 RL (some .boolean) A D G) (hX : va_X b N9 sc s9 s9.heap) (hbl : b < s9.heap.size) (hbA : ¬ A b) (hN : N9 ≤ 2048) (hi4 : i + 4 ≤ N9) (hlt : l.stackTraces = false) (hc : cl + 1 ≤ 601024) (hs : sl + 6 ≤ 7293034) (K : ∀ (H : Heap) (locs : List Loc) (ls : Array Slot), LI D G A q ou qm H → va_S A s9.heap H locs → lv_has ls 9 (LB b q qm ou i) → W pr l e room_1 s9 m9 args below meth c9 H locs (cl + 1) (sl + 6) QQ (F0 m9 1382 ls [])) : ∀ (H : Heap) (locs : List Loc) (ls : Array Slot), LI D G A q ou qm H → va_S A s9.heap H locs → lv_has ls 9 (LB b q qm ou i) → W pr l e room_1 s9 m9 args below meth c9 H locs cl sl QQ (F0 m9 616 ls []) := by
  intro H locs ls hI hS hl
  obtain ⟨sa, ha, ta, fa, ea, ma, x, y, p, sv, og, cg, sN, a, xs, ys, ps, L, cnt, num, F, t, v, w, c, uo, th, nd, ct, ht, sp, iw, mn, sr, M, bw, fl, kd, dp, vl, of, aF, nF, tF, lo, hi, be, ga, ⟨hP, hD⟩, hF⟩ := hI
  have hsN : sN = cg := hF.2.2.2.1.2
  subst hsN
  exact sg_margin C hX hbl hbA hN hi4 hlt hc hs hF K  _ _ _ hP hD hS hl
set_option maxHeartbeats 4000000 in
theorem cs_search (C : Cx pr m9 s9 args meth c9 code 9 RL (some .boolean) A D G) (hX : va_X b N9 sc s9 s9.heap) (hbl : b < s9.heap.size) (hbA : ¬ A b) (hN : N9 ≤ 2048) (hi4 : i + 4 ≤ N9) (hlt : l.stackTraces = false) (hc : cl + 1 ≤ 601024) (hs : sl + 6 ≤ 7293034) (K : ∀ (H : Heap) (locs : List Loc) (ls : Array Slot), LI D G A q ou qm H → va_S A s9.heap H locs → lv_has ls 9 (LB b q qm ou i) → W pr l e room_1 s9 m9 args below meth c9 H locs (cl + 1) (sl + 6) QQ (F0 m9 1382 ls [])) : ∀ (H : Heap) (locs : List Loc) (ls : Array Slot), LI D G A q ou qm H → va_S A s9.heap H locs → lv_has ls 9 (LB b q qm ou i) → W pr l e room_1 s9 m9 args below meth c9 H locs cl sl QQ (F0 m9 629 ls []) := by
  intro H locs ls hI hS hl
  obtain ⟨sa, ha, ta, fa, ea, ma, x, y, p, sv, og, cg, sN, a, xs, ys, ps, L, cnt, num, F, t, v, w, c, uo, th, nd, ct, ht, sp, iw, mn, sr, M, bw, fl, kd, dp, vl, of, aF, nF, tF, lo, hi, be, ga, ⟨hP, hD⟩, hF⟩ := hI
  have hsN : sN = cg := hF.2.2.2.1.2
  subst hsN
  by_cases h : (0 ≤ (sc (i + 1)).toInt ∧ (sc (i + 1)).toInt < 13) ∧ (-240 ≤ (sc (i + 2)).toInt ∧ (sc (i + 2)).toInt < 241) ∧ (sc (i + 2)).toInt < (sc (i + 3)).toInt ∧ (sc (i + 3)).toInt ≤ 241
  · obtain ⟨k, hv, hk1, hk2⟩ := of_rng (v := sc (i + 1)) 13 (by omega) (by omega) (by omega)
    exact sg_search_ok C hX hbl hbA hN hi4 hlt hc hs hF K hv rfl rfl (by omega) (by rw [ltl (k := -240) (z := -240) (by decide)]; omega) (by rw [ltl (k := 241) (z := 241) (by decide)]; omega) (by rw [Int32.le_iff_toInt_le]; omega) (by rw [lel (k := 241) (z := 241) (by decide)]; omega) _ _ _ hP hD hS hl
  · exact sg_search_T1 C hX hbl hbA hN hi4 hlt hc hs hF K rfl rfl rfl (by rw [ltl (k := 0) (z := 0) (by decide), lel (k := 12) (z := 12) (by decide), ltl (k := -240) (z := -240) (by decide), ltl (k := 241) (z := 241) (by decide), lel (k := 241) (z := 241) (by decide), Int32.le_iff_toInt_le]; omega) (by intro hh; rw [ltl (k := 0) (z := 0) (by decide), gtl (k := 12) (z := 12) (by decide), ltl (k := -240) (z := -240) (by decide), gtl (k := 240) (z := 240) (by decide), gtl (k := 241) (z := 241) (by decide)] at hh; have e9 := i_p1 (v := sc (i + 2)) (by omega) (by omega); rw [ltl e9] at hh; omega) _ _ _ hP hD hS hl
set_option maxHeartbeats 4000000 in
theorem cs_result (C : Cx pr m9 s9 args meth c9 code 9 RL (some .boolean) A D G) (hX : va_X b N9 sc s9 s9.heap) (hbl : b < s9.heap.size) (hbA : ¬ A b) (hN : N9 ≤ 2048) (hi4 : i + 4 ≤ N9) (hlt : l.stackTraces = false) (hc : cl + 1 ≤ 601024) (hs : sl + 6 ≤ 7293034) (K : ∀ (H : Heap) (locs : List Loc) (ls : Array Slot), LI D G A q ou qm H → va_S A s9.heap H locs → lv_has ls 9 (LB b q qm ou i) → W pr l e room_1 s9 m9 args below meth c9 H locs (cl + 1) (sl + 6) QQ (F0 m9 1382 ls [])) : ∀ (H : Heap) (locs : List Loc) (ls : Array Slot), LI D G A q ou qm H → va_S A s9.heap H locs → lv_has ls 9 (LB b q qm ou i) → W pr l e room_1 s9 m9 args below meth c9 H locs cl sl QQ (F0 m9 709 ls []) := by
  intro H locs ls hI hS hl
  obtain ⟨sa, ha, ta, fa, ea, ma, x, y, p, sv, og, cg, sN, a, xs, ys, ps, L, cnt, num, F, t, v, w, c, uo, th, nd, ct, ht, sp, iw, mn, sr, M, bw, fl, kd, dp, vl, of, aF, nF, tF, lo, hi, be, ga, ⟨hP, hD⟩, hF⟩ := hI
  have hsN : sN = cg := hF.2.2.2.1.2
  subst hsN
  exact sg_result C hX hbl hbA hN hi4 hlt hc hs hF K  _ _ _ hP hD hS hl
set_option maxHeartbeats 4000000 in
theorem cs_nodes (C : Cx pr m9 s9 args meth c9 code 9 RL (some .boolean) A D G) (hX : va_X b N9 sc s9 s9.heap) (hbl : b < s9.heap.size) (hbA : ¬ A b) (hN : N9 ≤ 2048) (hi4 : i + 4 ≤ N9) (hlt : l.stackTraces = false) (hc : cl + 1 ≤ 601024) (hs : sl + 6 ≤ 7293034) (K : ∀ (H : Heap) (locs : List Loc) (ls : Array Slot), LI D G A q ou qm H → va_S A s9.heap H locs → lv_has ls 9 (LB b q qm ou i) → W pr l e room_1 s9 m9 args below meth c9 H locs (cl + 1) (sl + 6) QQ (F0 m9 1382 ls [])) : ∀ (H : Heap) (locs : List Loc) (ls : Array Slot), LI D G A q ou qm H → va_S A s9.heap H locs → lv_has ls 9 (LB b q qm ou i) → W pr l e room_1 s9 m9 args below meth c9 H locs cl sl QQ (F0 m9 722 ls []) := by
  intro H locs ls hI hS hl
  obtain ⟨sa, ha, ta, fa, ea, ma, x, y, p, sv, og, cg, sN, a, xs, ys, ps, L, cnt, num, F, t, v, w, c, uo, th, nd, ct, ht, sp, iw, mn, sr, M, bw, fl, kd, dp, vl, of, aF, nF, tF, lo, hi, be, ga, ⟨hP, hD⟩, hF⟩ := hI
  have hsN : sN = cg := hF.2.2.2.1.2
  subst hsN
  exact sg_nodes C hX hbl hbA hN hi4 hlt hc hs hF K  _ _ _ hP hD hS hl
set_option maxHeartbeats 4000000 in
theorem cs_cuts (C : Cx pr m9 s9 args meth c9 code 9 RL (some .boolean) A D G) (hX : va_X b N9 sc s9 s9.heap) (hbl : b < s9.heap.size) (hbA : ¬ A b) (hN : N9 ≤ 2048) (hi4 : i + 4 ≤ N9) (hlt : l.stackTraces = false) (hc : cl + 1 ≤ 601024) (hs : sl + 6 ≤ 7293034) (K : ∀ (H : Heap) (locs : List Loc) (ls : Array Slot), LI D G A q ou qm H → va_S A s9.heap H locs → lv_has ls 9 (LB b q qm ou i) → W pr l e room_1 s9 m9 args below meth c9 H locs (cl + 1) (sl + 6) QQ (F0 m9 1382 ls [])) : ∀ (H : Heap) (locs : List Loc) (ls : Array Slot), LI D G A q ou qm H → va_S A s9.heap H locs → lv_has ls 9 (LB b q qm ou i) → W pr l e room_1 s9 m9 args below meth c9 H locs cl sl QQ (F0 m9 735 ls []) := by
  intro H locs ls hI hS hl
  obtain ⟨sa, ha, ta, fa, ea, ma, x, y, p, sv, og, cg, sN, a, xs, ys, ps, L, cnt, num, F, t, v, w, c, uo, th, nd, ct, ht, sp, iw, mn, sr, M, bw, fl, kd, dp, vl, of, aF, nF, tF, lo, hi, be, ga, ⟨hP, hD⟩, hF⟩ := hI
  have hsN : sN = cg := hF.2.2.2.1.2
  subst hsN
  exact sg_cuts C hX hbl hbA hN hi4 hlt hc hs hF K  _ _ _ hP hD hS hl
set_option maxHeartbeats 4000000 in
theorem cs_hits (C : Cx pr m9 s9 args meth c9 code 9 RL (some .boolean) A D G) (hX : va_X b N9 sc s9 s9.heap) (hbl : b < s9.heap.size) (hbA : ¬ A b) (hN : N9 ≤ 2048) (hi4 : i + 4 ≤ N9) (hlt : l.stackTraces = false) (hc : cl + 1 ≤ 601024) (hs : sl + 6 ≤ 7293034) (K : ∀ (H : Heap) (locs : List Loc) (ls : Array Slot), LI D G A q ou qm H → va_S A s9.heap H locs → lv_has ls 9 (LB b q qm ou i) → W pr l e room_1 s9 m9 args below meth c9 H locs (cl + 1) (sl + 6) QQ (F0 m9 1382 ls [])) : ∀ (H : Heap) (locs : List Loc) (ls : Array Slot), LI D G A q ou qm H → va_S A s9.heap H locs → lv_has ls 9 (LB b q qm ou i) → W pr l e room_1 s9 m9 args below meth c9 H locs cl sl QQ (F0 m9 748 ls []) := by
  intro H locs ls hI hS hl
  obtain ⟨sa, ha, ta, fa, ea, ma, x, y, p, sv, og, cg, sN, a, xs, ys, ps, L, cnt, num, F, t, v, w, c, uo, th, nd, ct, ht, sp, iw, mn, sr, M, bw, fl, kd, dp, vl, of, aF, nF, tF, lo, hi, be, ga, ⟨hP, hD⟩, hF⟩ := hI
  have hsN : sN = cg := hF.2.2.2.1.2
  subst hsN
  exact sg_hits C hX hbl hbA hN hi4 hlt hc hs hF K  _ _ _ hP hD hS hl
set_option maxHeartbeats 4000000 in
theorem cs_entries (C : Cx pr m9 s9 args meth c9 code 9 RL (some .boolean) A D G) (hX : va_X b N9 sc s9 s9.heap) (hbl : b < s9.heap.size) (hbA : ¬ A b) (hN : N9 ≤ 2048) (hi4 : i + 4 ≤ N9) (hlt : l.stackTraces = false) (hc : cl + 1 ≤ 601024) (hs : sl + 6 ≤ 7293034) (K : ∀ (H : Heap) (locs : List Loc) (ls : Array Slot), LI D G A q ou qm H → va_S A s9.heap H locs → lv_has ls 9 (LB b q qm ou i) → W pr l e room_1 s9 m9 args below meth c9 H locs (cl + 1) (sl + 6) QQ (F0 m9 1382 ls [])) : ∀ (H : Heap) (locs : List Loc) (ls : Array Slot), LI D G A q ou qm H → va_S A s9.heap H locs → lv_has ls 9 (LB b q qm ou i) → W pr l e room_1 s9 m9 args below meth c9 H locs cl sl QQ (F0 m9 761 ls []) := by
  intro H locs ls hI hS hl
  obtain ⟨sa, ha, ta, fa, ea, ma, x, y, p, sv, og, cg, sN, a, xs, ys, ps, L, cnt, num, F, t, v, w, c, uo, th, nd, ct, ht, sp, iw, mn, sr, M, bw, fl, kd, dp, vl, of, aF, nF, tF, lo, hi, be, ga, ⟨hP, hD⟩, hF⟩ := hI
  have hsN : sN = cg := hF.2.2.2.1.2
  subst hsN
  exact sg_entries C hX hbl hbA hN hi4 hlt hc hs hF K  _ _ _ hP hD hS hl
set_option maxHeartbeats 4000000 in
theorem cs_entryKind (C : Cx pr m9 s9 args meth c9 code 9 RL (some .boolean) A D G) (hX : va_X b N9 sc s9 s9.heap) (hbl : b < s9.heap.size) (hbA : ¬ A b) (hN : N9 ≤ 2048) (hi4 : i + 4 ≤ N9) (hlt : l.stackTraces = false) (hc : cl + 1 ≤ 601024) (hs : sl + 6 ≤ 7293034) (K : ∀ (H : Heap) (locs : List Loc) (ls : Array Slot), LI D G A q ou qm H → va_S A s9.heap H locs → lv_has ls 9 (LB b q qm ou i) → W pr l e room_1 s9 m9 args below meth c9 H locs (cl + 1) (sl + 6) QQ (F0 m9 1382 ls [])) : ∀ (H : Heap) (locs : List Loc) (ls : Array Slot), LI D G A q ou qm H → va_S A s9.heap H locs → lv_has ls 9 (LB b q qm ou i) → W pr l e room_1 s9 m9 args below meth c9 H locs cl sl QQ (F0 m9 774 ls []) := by
  intro H locs ls hI hS hl
  obtain ⟨sa, ha, ta, fa, ea, ma, x, y, p, sv, og, cg, sN, a, xs, ys, ps, L, cnt, num, F, t, v, w, c, uo, th, nd, ct, ht, sp, iw, mn, sr, M, bw, fl, kd, dp, vl, of, aF, nF, tF, lo, hi, be, ga, ⟨hP, hD⟩, hF⟩ := hI
  have hsN : sN = cg := hF.2.2.2.1.2
  subst hsN
  by_cases h : (0 ≤ (sc (i + 1)).toInt ∧ (sc (i + 1)).toInt < 12) ∧ 1 ≤ (sc (i + 2)).toInt ∧ (sc (i + 2)).toInt < 13
  · obtain ⟨f, hv, hk1, hk2⟩ := of_rng (v := sc (i + 1)) 12 (by omega) (by omega) (by omega)
    obtain ⟨cc, hv2, hk3, hk4⟩ := of_rng (v := sc (i + 2)) 13 (by omega) (by omega) (by omega)
    exact sg_entryKind_ok C hX hbl hbA hN hi4 hlt hc hs hF K hv hv2 hk1 (by omega) (by omega) _ _ _ hP hD hS hl
  · exact sg_entryKind_T1 C hX hbl hbA hN hi4 hlt hc hs hF K rfl rfl (by rw [ltl (k := 0) (z := 0) (by decide), gel (k := 12) (z := 12) (by decide), ltl (k := 1) (z := 1) (by decide), gtl (k := 12) (z := 12) (by decide)]; omega) (by rw [ltl (k := 0) (z := 0) (by decide), gtl (k := 11) (z := 11) (by decide), ltl (k := 1) (z := 1) (by decide), gtl (k := 12) (z := 12) (by decide)]; omega) _ _ _ hP hD hS hl
set_option maxHeartbeats 4000000 in
theorem cs_entryValue (C : Cx pr m9 s9 args meth c9 code 9 RL (some .boolean) A D G) (hX : va_X b N9 sc s9 s9.heap) (hbl : b < s9.heap.size) (hbA : ¬ A b) (hN : N9 ≤ 2048) (hi4 : i + 4 ≤ N9) (hlt : l.stackTraces = false) (hc : cl + 1 ≤ 601024) (hs : sl + 6 ≤ 7293034) (K : ∀ (H : Heap) (locs : List Loc) (ls : Array Slot), LI D G A q ou qm H → va_S A s9.heap H locs → lv_has ls 9 (LB b q qm ou i) → W pr l e room_1 s9 m9 args below meth c9 H locs (cl + 1) (sl + 6) QQ (F0 m9 1382 ls [])) : ∀ (H : Heap) (locs : List Loc) (ls : Array Slot), LI D G A q ou qm H → va_S A s9.heap H locs → lv_has ls 9 (LB b q qm ou i) → W pr l e room_1 s9 m9 args below meth c9 H locs cl sl QQ (F0 m9 842 ls []) := by
  intro H locs ls hI hS hl
  obtain ⟨sa, ha, ta, fa, ea, ma, x, y, p, sv, og, cg, sN, a, xs, ys, ps, L, cnt, num, F, t, v, w, c, uo, th, nd, ct, ht, sp, iw, mn, sr, M, bw, fl, kd, dp, vl, of, aF, nF, tF, lo, hi, be, ga, ⟨hP, hD⟩, hF⟩ := hI
  have hsN : sN = cg := hF.2.2.2.1.2
  subst hsN
  by_cases h : (0 ≤ (sc (i + 1)).toInt ∧ (sc (i + 1)).toInt < 12) ∧ 1 ≤ (sc (i + 2)).toInt ∧ (sc (i + 2)).toInt < 13
  · obtain ⟨f, hv, hk1, hk2⟩ := of_rng (v := sc (i + 1)) 12 (by omega) (by omega) (by omega)
    obtain ⟨cc, hv2, hk3, hk4⟩ := of_rng (v := sc (i + 2)) 13 (by omega) (by omega) (by omega)
    exact sg_entryValue_ok C hX hbl hbA hN hi4 hlt hc hs hF K hv hv2 hk1 (by omega) (by omega) _ _ _ hP hD hS hl
  · exact sg_entryValue_T1 C hX hbl hbA hN hi4 hlt hc hs hF K rfl rfl (by rw [ltl (k := 0) (z := 0) (by decide), gel (k := 12) (z := 12) (by decide), ltl (k := 1) (z := 1) (by decide), gtl (k := 12) (z := 12) (by decide)]; omega) (by rw [ltl (k := 0) (z := 0) (by decide), gtl (k := 11) (z := 11) (by decide), ltl (k := 1) (z := 1) (by decide), gtl (k := 12) (z := 12) (by decide)]; omega) _ _ _ hP hD hS hl
set_option maxHeartbeats 4000000 in
theorem cs_setOrder (C : Cx pr m9 s9 args meth c9 code 9 RL (some .boolean) A D G) (hX : va_X b N9 sc s9 s9.heap) (hbl : b < s9.heap.size) (hbA : ¬ A b) (hN : N9 ≤ 2048) (hi4 : i + 4 ≤ N9) (hlt : l.stackTraces = false) (hc : cl + 1 ≤ 601024) (hs : sl + 6 ≤ 7293034) (K : ∀ (H : Heap) (locs : List Loc) (ls : Array Slot), LI D G A q ou qm H → va_S A s9.heap H locs → lv_has ls 9 (LB b q qm ou i) → W pr l e room_1 s9 m9 args below meth c9 H locs (cl + 1) (sl + 6) QQ (F0 m9 1382 ls [])) : ∀ (H : Heap) (locs : List Loc) (ls : Array Slot), LI D G A q ou qm H → va_S A s9.heap H locs → lv_has ls 9 (LB b q qm ou i) → W pr l e room_1 s9 m9 args below meth c9 H locs cl sl QQ (F0 m9 951 ls []) := by
  intro H locs ls hI hS hl
  obtain ⟨sa, ha, ta, fa, ea, ma, x, y, p, sv, og, cg, sN, a, xs, ys, ps, L, cnt, num, F, t, v, w, c, uo, th, nd, ct, ht, sp, iw, mn, sr, M, bw, fl, kd, dp, vl, of, aF, nF, tF, lo, hi, be, ga, ⟨hP, hD⟩, hF⟩ := hI
  have hsN : sN = cg := hF.2.2.2.1.2
  subst hsN
  by_cases h : 0 ≤ (sc (i + 1)).toInt ∧ (sc (i + 1)).toInt < 24
  · obtain ⟨o, hv, hk1, hk2⟩ := of_rng (v := sc (i + 1)) 24 (by omega) (by omega) (by omega)
    exact sg_setOrder_ok C hX hbl hbA hN hi4 hlt hc hs hF K hv hk1 _ _ _ hP hD hS hl
  · exact sg_setOrder_T1 C hX hbl hbA hN hi4 hlt hc hs hF K rfl (by rw [ltl (k := 0) (z := 0) (by decide), gel (k := 24) (z := 24) (by decide)]; omega) (by rw [ltl (k := 0) (z := 0) (by decide), gtl (k := 23) (z := 23) (by decide)]; omega) _ _ _ hP hD hS hl
set_option maxHeartbeats 4000000 in
theorem cs_order (C : Cx pr m9 s9 args meth c9 code 9 RL (some .boolean) A D G) (hX : va_X b N9 sc s9 s9.heap) (hbl : b < s9.heap.size) (hbA : ¬ A b) (hN : N9 ≤ 2048) (hi4 : i + 4 ≤ N9) (hlt : l.stackTraces = false) (hc : cl + 1 ≤ 601024) (hs : sl + 6 ≤ 7293034) (K : ∀ (H : Heap) (locs : List Loc) (ls : Array Slot), LI D G A q ou qm H → va_S A s9.heap H locs → lv_has ls 9 (LB b q qm ou i) → W pr l e room_1 s9 m9 args below meth c9 H locs (cl + 1) (sl + 6) QQ (F0 m9 1382 ls [])) : ∀ (H : Heap) (locs : List Loc) (ls : Array Slot), LI D G A q ou qm H → va_S A s9.heap H locs → lv_has ls 9 (LB b q qm ou i) → W pr l e room_1 s9 m9 args below meth c9 H locs cl sl QQ (F0 m9 1007 ls []) := by
  intro H locs ls hI hS hl
  obtain ⟨sa, ha, ta, fa, ea, ma, x, y, p, sv, og, cg, sN, a, xs, ys, ps, L, cnt, num, F, t, v, w, c, uo, th, nd, ct, ht, sp, iw, mn, sr, M, bw, fl, kd, dp, vl, of, aF, nF, tF, lo, hi, be, ga, ⟨hP, hD⟩, hF⟩ := hI
  have hsN : sN = cg := hF.2.2.2.1.2
  subst hsN
  by_cases h : 0 ≤ (sc (i + 1)).toInt ∧ (sc (i + 1)).toInt < 4
  · obtain ⟨k, hv, hk1, hk2⟩ := of_rng (v := sc (i + 1)) 4 (by omega) (by omega) (by omega)
    exact sg_order_ok C hX hbl hbA hN hi4 hlt hc hs hF K hv hk1 _ _ _ hP hD hS hl
  · exact sg_order_T1 C hX hbl hbA hN hi4 hlt hc hs hF K rfl (by rw [ltl (k := 0) (z := 0) (by decide), ltl (k := 4) (z := 4) (by decide)]; omega) (by rw [ltl (k := 0) (z := 0) (by decide), gtl (k := 3) (z := 3) (by decide)]; omega) _ _ _ hP hD hS hl
set_option maxHeartbeats 4000000 in
theorem cs_setLimit (C : Cx pr m9 s9 args meth c9 code 9 RL (some .boolean) A D G) (hX : va_X b N9 sc s9 s9.heap) (hbl : b < s9.heap.size) (hbA : ¬ A b) (hN : N9 ≤ 2048) (hi4 : i + 4 ≤ N9) (hlt : l.stackTraces = false) (hc : cl + 1 ≤ 601024) (hs : sl + 6 ≤ 7293034) (K : ∀ (H : Heap) (locs : List Loc) (ls : Array Slot), LI D G A q ou qm H → va_S A s9.heap H locs → lv_has ls 9 (LB b q qm ou i) → W pr l e room_1 s9 m9 args below meth c9 H locs (cl + 1) (sl + 6) QQ (F0 m9 1382 ls [])) : ∀ (H : Heap) (locs : List Loc) (ls : Array Slot), LI D G A q ou qm H → va_S A s9.heap H locs → lv_has ls 9 (LB b q qm ou i) → W pr l e room_1 s9 m9 args below meth c9 H locs cl sl QQ (F0 m9 1063 ls []) := by
  intro H locs ls hI hS hl
  obtain ⟨sa, ha, ta, fa, ea, ma, x, y, p, sv, og, cg, sN, a, xs, ys, ps, L, cnt, num, F, t, v, w, c, uo, th, nd, ct, ht, sp, iw, mn, sr, M, bw, fl, kd, dp, vl, of, aF, nF, tF, lo, hi, be, ga, ⟨hP, hD⟩, hF⟩ := hI
  have hsN : sN = cg := hF.2.2.2.1.2
  subst hsN
  by_cases h : 1 ≤ (sc (i + 1)).toInt ∧ (sc (i + 1)).toInt < 5001
  · obtain ⟨k, hv, hk1, hk2⟩ := of_rng (v := sc (i + 1)) 5001 (by omega) (by omega) (by omega)
    exact sg_setLimit_ok C hX hbl hbA hN hi4 hlt hc hs hF K hv (by omega) (by omega) _ _ _ hP hD hS hl
  · exact sg_setLimit_T1 C hX hbl hbA hN hi4 hlt hc hs hF K rfl (by rw [ltl (k := 1) (z := 1) (by decide), lel (k := 5000) (z := 5000) (by decide)]; omega) (by rw [ltl (k := 1) (z := 1) (by decide), gtl (k := 5000) (z := 5000) (by decide)]; omega) _ _ _ hP hD hS hl
set_option maxHeartbeats 4000000 in
theorem cs_useTable (C : Cx pr m9 s9 args meth c9 code 9 RL (some .boolean) A D G) (hX : va_X b N9 sc s9 s9.heap) (hbl : b < s9.heap.size) (hbA : ¬ A b) (hN : N9 ≤ 2048) (hi4 : i + 4 ≤ N9) (hlt : l.stackTraces = false) (hc : cl + 1 ≤ 601024) (hs : sl + 6 ≤ 7293034) (K : ∀ (H : Heap) (locs : List Loc) (ls : Array Slot), LI D G A q ou qm H → va_S A s9.heap H locs → lv_has ls 9 (LB b q qm ou i) → W pr l e room_1 s9 m9 args below meth c9 H locs (cl + 1) (sl + 6) QQ (F0 m9 1382 ls [])) : ∀ (H : Heap) (locs : List Loc) (ls : Array Slot), LI D G A q ou qm H → va_S A s9.heap H locs → lv_has ls 9 (LB b q qm ou i) → W pr l e room_1 s9 m9 args below meth c9 H locs cl sl QQ (F0 m9 1119 ls []) := by
  intro H locs ls hI hS hl
  obtain ⟨sa, ha, ta, fa, ea, ma, x, y, p, sv, og, cg, sN, a, xs, ys, ps, L, cnt, num, F, t, v, w, c, uo, th, nd, ct, ht, sp, iw, mn, sr, M, bw, fl, kd, dp, vl, of, aF, nF, tF, lo, hi, be, ga, ⟨hP, hD⟩, hF⟩ := hI
  have hsN : sN = cg := hF.2.2.2.1.2
  subst hsN
  by_cases h : sc (i + 1) = 0
  · exact sg_useTable_n C hX hbl hbA hN hi4 hlt hc hs hF K h _ _ _ hP hD hS hl
  · exact sg_useTable_y C hX hbl hbA hN hi4 hlt hc hs hF K h _ _ _ hP hD hS hl
set_option maxHeartbeats 4000000 in
theorem cs_nodesWith (C : Cx pr m9 s9 args meth c9 code 9 RL (some .boolean) A D G) (hX : va_X b N9 sc s9 s9.heap) (hbl : b < s9.heap.size) (hbA : ¬ A b) (hN : N9 ≤ 2048) (hi4 : i + 4 ≤ N9) (hlt : l.stackTraces = false) (hc : cl + 1 ≤ 601024) (hs : sl + 6 ≤ 7293034) (K : ∀ (H : Heap) (locs : List Loc) (ls : Array Slot), LI D G A q ou qm H → va_S A s9.heap H locs → lv_has ls 9 (LB b q qm ou i) → W pr l e room_1 s9 m9 args below meth c9 H locs (cl + 1) (sl + 6) QQ (F0 m9 1382 ls [])) : ∀ (H : Heap) (locs : List Loc) (ls : Array Slot), LI D G A q ou qm H → va_S A s9.heap H locs → lv_has ls 9 (LB b q qm ou i) → W pr l e room_1 s9 m9 args below meth c9 H locs cl sl QQ (F0 m9 1160 ls []) := by
  intro H locs ls hI hS hl
  obtain ⟨sa, ha, ta, fa, ea, ma, x, y, p, sv, og, cg, sN, a, xs, ys, ps, L, cnt, num, F, t, v, w, c, uo, th, nd, ct, ht, sp, iw, mn, sr, M, bw, fl, kd, dp, vl, of, aF, nF, tF, lo, hi, be, ga, ⟨hP, hD⟩, hF⟩ := hI
  have hsN : sN = cg := hF.2.2.2.1.2
  subst hsN
  by_cases h : 0 ≤ (sc (i + 1)).toInt ∧ (sc (i + 1)).toInt < 24
  · obtain ⟨o, hv, hk1, hk2⟩ := of_rng (v := sc (i + 1)) 24 (by omega) (by omega) (by omega)
    exact sg_nodesWith_ok C hX hbl hbA hN hi4 hlt hc hs hF K hv hk1 _ _ _ hP hD hS hl
  · exact sg_nodesWith_T1 C hX hbl hbA hN hi4 hlt hc hs hF K rfl (by rw [ltl (k := 0) (z := 0) (by decide), gel (k := 24) (z := 24) (by decide)]; omega) (by rw [ltl (k := 0) (z := 0) (by decide), gtl (k := 23) (z := 23) (by decide)]; omega) _ _ _ hP hD hS hl
set_option maxHeartbeats 4000000 in
theorem cs_bestOrder (C : Cx pr m9 s9 args meth c9 code 9 RL (some .boolean) A D G) (hX : va_X b N9 sc s9 s9.heap) (hbl : b < s9.heap.size) (hbA : ¬ A b) (hN : N9 ≤ 2048) (hi4 : i + 4 ≤ N9) (hlt : l.stackTraces = false) (hc : cl + 1 ≤ 601024) (hs : sl + 6 ≤ 7293034) (K : ∀ (H : Heap) (locs : List Loc) (ls : Array Slot), LI D G A q ou qm H → va_S A s9.heap H locs → lv_has ls 9 (LB b q qm ou i) → W pr l e room_1 s9 m9 args below meth c9 H locs (cl + 1) (sl + 6) QQ (F0 m9 1382 ls [])) : ∀ (H : Heap) (locs : List Loc) (ls : Array Slot), LI D G A q ou qm H → va_S A s9.heap H locs → lv_has ls 9 (LB b q qm ou i) → W pr l e room_1 s9 m9 args below meth c9 H locs cl sl QQ (F0 m9 1216 ls []) := by
  intro H locs ls hI hS hl
  obtain ⟨sa, ha, ta, fa, ea, ma, x, y, p, sv, og, cg, sN, a, xs, ys, ps, L, cnt, num, F, t, v, w, c, uo, th, nd, ct, ht, sp, iw, mn, sr, M, bw, fl, kd, dp, vl, of, aF, nF, tF, lo, hi, be, ga, ⟨hP, hD⟩, hF⟩ := hI
  have hsN : sN = cg := hF.2.2.2.1.2
  subst hsN
  exact sg_bestOrder C hX hbl hbA hN hi4 hlt hc hs hF K  _ _ _ hP hD hS hl
set_option maxHeartbeats 4000000 in
theorem cs_append (C : Cx pr m9 s9 args meth c9 code 9 RL (some .boolean) A D G) (hX : va_X b N9 sc s9 s9.heap) (hbl : b < s9.heap.size) (hbA : ¬ A b) (hN : N9 ≤ 2048) (hi4 : i + 4 ≤ N9) (hlt : l.stackTraces = false) (hc : cl + 1 ≤ 601024) (hs : sl + 6 ≤ 7293034) (K : ∀ (H : Heap) (locs : List Loc) (ls : Array Slot), LI D G A q ou qm H → va_S A s9.heap H locs → lv_has ls 9 (LB b q qm ou i) → W pr l e room_1 s9 m9 args below meth c9 H locs (cl + 1) (sl + 6) QQ (F0 m9 1382 ls [])) : ∀ (H : Heap) (locs : List Loc) (ls : Array Slot), LI D G A q ou qm H → va_S A s9.heap H locs → lv_has ls 9 (LB b q qm ou i) → W pr l e room_1 s9 m9 args below meth c9 H locs cl sl QQ (F0 m9 1229 ls []) := by
  intro H locs ls hI hS hl
  obtain ⟨sa, ha, ta, fa, ea, ma, x, y, p, sv, og, cg, sN, a, xs, ys, ps, L, cnt, num, F, t, v, w, c, uo, th, nd, ct, ht, sp, iw, mn, sr, M, bw, fl, kd, dp, vl, of, aF, nF, tF, lo, hi, be, ga, ⟨hP, hD⟩, hF⟩ := hI
  have hsN : sN = cg := hF.2.2.2.1.2
  subst hsN
  by_cases h : 33 ≤ (sc (i + 1)).toInt ∧ (sc (i + 1)).toInt < 127
  · obtain ⟨cc, hv, hk1, hk2⟩ := of_rng (v := sc (i + 1)) 127 (by omega) (by omega) (by omega)
    by_cases h2 : L < 60
    · exact sg_append_ok C hX hbl hbA hN hi4 hlt hc hs hF K hv (by omega) (by omega) h2 _ _ _ hP hD hS hl
    · exact sg_append_T2 C hX hbl hbA hN hi4 hlt hc hs hF K hv (by omega) (by omega) (by have h8 := hF.2.2.2.2.2.1; omega) _ _ _ hP hD hS hl
  · exact sg_append_T1 C hX hbl hbA hN hi4 hlt hc hs hF K rfl (by rw [ltl (k := 33) (z := 33) (by decide), lel (k := 126) (z := 126) (by decide)]; omega) (by rw [ltl (k := 33) (z := 33) (by decide), gtl (k := 126) (z := 126) (by decide)]; omega) _ _ _ hP hD hS hl
set_option maxHeartbeats 4000000 in
theorem cs_clearText (C : Cx pr m9 s9 args meth c9 code 9 RL (some .boolean) A D G) (hX : va_X b N9 sc s9 s9.heap) (hbl : b < s9.heap.size) (hbA : ¬ A b) (hN : N9 ≤ 2048) (hi4 : i + 4 ≤ N9) (hlt : l.stackTraces = false) (hc : cl + 1 ≤ 601024) (hs : sl + 6 ≤ 7293034) (K : ∀ (H : Heap) (locs : List Loc) (ls : Array Slot), LI D G A q ou qm H → va_S A s9.heap H locs → lv_has ls 9 (LB b q qm ou i) → W pr l e room_1 s9 m9 args below meth c9 H locs (cl + 1) (sl + 6) QQ (F0 m9 1382 ls [])) : ∀ (H : Heap) (locs : List Loc) (ls : Array Slot), LI D G A q ou qm H → va_S A s9.heap H locs → lv_has ls 9 (LB b q qm ou i) → W pr l e room_1 s9 m9 args below meth c9 H locs cl sl QQ (F0 m9 1285 ls []) := by
  intro H locs ls hI hS hl
  obtain ⟨sa, ha, ta, fa, ea, ma, x, y, p, sv, og, cg, sN, a, xs, ys, ps, L, cnt, num, F, t, v, w, c, uo, th, nd, ct, ht, sp, iw, mn, sr, M, bw, fl, kd, dp, vl, of, aF, nF, tF, lo, hi, be, ga, ⟨hP, hD⟩, hF⟩ := hI
  have hsN : sN = cg := hF.2.2.2.1.2
  subst hsN
  exact sg_clearText C hX hbl hbA hN hi4 hlt hc hs hF K  _ _ _ hP hD hS hl
set_option maxHeartbeats 4000000 in
theorem cs_firstError (C : Cx pr m9 s9 args meth c9 code 9 RL (some .boolean) A D G) (hX : va_X b N9 sc s9 s9.heap) (hbl : b < s9.heap.size) (hbA : ¬ A b) (hN : N9 ≤ 2048) (hi4 : i + 4 ≤ N9) (hlt : l.stackTraces = false) (hc : cl + 1 ≤ 601024) (hs : sl + 6 ≤ 7293034) (K : ∀ (H : Heap) (locs : List Loc) (ls : Array Slot), LI D G A q ou qm H → va_S A s9.heap H locs → lv_has ls 9 (LB b q qm ou i) → W pr l e room_1 s9 m9 args below meth c9 H locs (cl + 1) (sl + 6) QQ (F0 m9 1382 ls [])) : ∀ (H : Heap) (locs : List Loc) (ls : Array Slot), LI D G A q ou qm H → va_S A s9.heap H locs → lv_has ls 9 (LB b q qm ou i) → W pr l e room_1 s9 m9 args below meth c9 H locs cl sl QQ (F0 m9 1298 ls []) := by
  intro H locs ls hI hS hl
  obtain ⟨sa, ha, ta, fa, ea, ma, x, y, p, sv, og, cg, sN, a, xs, ys, ps, L, cnt, num, F, t, v, w, c, uo, th, nd, ct, ht, sp, iw, mn, sr, M, bw, fl, kd, dp, vl, of, aF, nF, tF, lo, hi, be, ga, ⟨hP, hD⟩, hF⟩ := hI
  have hsN : sN = cg := hF.2.2.2.1.2
  subst hsN
  exact sg_firstError C hX hbl hbA hN hi4 hlt hc hs hF K  _ _ _ hP hD hS hl
set_option maxHeartbeats 4000000 in
theorem cs_undo (C : Cx pr m9 s9 args meth c9 code 9 RL (some .boolean) A D G) (hX : va_X b N9 sc s9 s9.heap) (hbl : b < s9.heap.size) (hbA : ¬ A b) (hN : N9 ≤ 2048) (hi4 : i + 4 ≤ N9) (hlt : l.stackTraces = false) (hc : cl + 1 ≤ 601024) (hs : sl + 6 ≤ 7293034) (K : ∀ (H : Heap) (locs : List Loc) (ls : Array Slot), LI D G A q ou qm H → va_S A s9.heap H locs → lv_has ls 9 (LB b q qm ou i) → W pr l e room_1 s9 m9 args below meth c9 H locs (cl + 1) (sl + 6) QQ (F0 m9 1382 ls [])) : ∀ (H : Heap) (locs : List Loc) (ls : Array Slot), LI D G A q ou qm H → va_S A s9.heap H locs → lv_has ls 9 (LB b q qm ou i) → W pr l e room_1 s9 m9 args below meth c9 H locs cl sl QQ (F0 m9 1311 ls []) := by
  intro H locs ls hI hS hl
  obtain ⟨sa, ha, ta, fa, ea, ma, x, y, p, sv, og, cg, sN, a, xs, ys, ps, L, cnt, num, F, t, v, w, c, uo, th, nd, ct, ht, sp, iw, mn, sr, M, bw, fl, kd, dp, vl, of, aF, nF, tF, lo, hi, be, ga, ⟨hP, hD⟩, hF⟩ := hI
  have hsN : sN = cg := hF.2.2.2.1.2
  by_cases h : 1 ≤ cg
  · subst hsN
    exact sg_undo_ok C hX hbl hbA hN hi4 hlt hc hs hF K h _ _ _ hP hD hS hl
  · subst hsN
    exact sg_undo_T1 C hX hbl hbA hN hi4 hlt hc hs hF K (by omega) _ _ _ hP hD hS hl
set_option maxHeartbeats 4000000 in
theorem cs_savedStates (C : Cx pr m9 s9 args meth c9 code 9 RL (some .boolean) A D G) (hX : va_X b N9 sc s9 s9.heap) (hbl : b < s9.heap.size) (hbA : ¬ A b) (hN : N9 ≤ 2048) (hi4 : i + 4 ≤ N9) (hlt : l.stackTraces = false) (hc : cl + 1 ≤ 601024) (hs : sl + 6 ≤ 7293034) (K : ∀ (H : Heap) (locs : List Loc) (ls : Array Slot), LI D G A q ou qm H → va_S A s9.heap H locs → lv_has ls 9 (LB b q qm ou i) → W pr l e room_1 s9 m9 args below meth c9 H locs (cl + 1) (sl + 6) QQ (F0 m9 1382 ls [])) : ∀ (H : Heap) (locs : List Loc) (ls : Array Slot), LI D G A q ou qm H → va_S A s9.heap H locs → lv_has ls 9 (LB b q qm ou i) → W pr l e room_1 s9 m9 args below meth c9 H locs cl sl QQ (F0 m9 1355 ls []) := by
  intro H locs ls hI hS hl
  obtain ⟨sa, ha, ta, fa, ea, ma, x, y, p, sv, og, cg, sN, a, xs, ys, ps, L, cnt, num, F, t, v, w, c, uo, th, nd, ct, ht, sp, iw, mn, sr, M, bw, fl, kd, dp, vl, of, aF, nF, tF, lo, hi, be, ga, ⟨hP, hD⟩, hF⟩ := hI
  have hsN : sN = cg := hF.2.2.2.1.2
  subst hsN
  exact sg_savedStates C hX hbl hbA hN hi4 hlt hc hs hF K  _ _ _ hP hD hS hl
set_option maxHeartbeats 4000000 in
theorem cs_digest (C : Cx pr m9 s9 args meth c9 code 9 RL (some .boolean) A D G) (hX : va_X b N9 sc s9 s9.heap) (hbl : b < s9.heap.size) (hbA : ¬ A b) (hN : N9 ≤ 2048) (hi4 : i + 4 ≤ N9) (hlt : l.stackTraces = false) (hc : cl + 1 ≤ 601024) (hs : sl + 6 ≤ 7293034) (K : ∀ (H : Heap) (locs : List Loc) (ls : Array Slot), LI D G A q ou qm H → va_S A s9.heap H locs → lv_has ls 9 (LB b q qm ou i) → W pr l e room_1 s9 m9 args below meth c9 H locs (cl + 1) (sl + 6) QQ (F0 m9 1382 ls [])) : ∀ (H : Heap) (locs : List Loc) (ls : Array Slot), LI D G A q ou qm H → va_S A s9.heap H locs → lv_has ls 9 (LB b q qm ou i) → W pr l e room_1 s9 m9 args below meth c9 H locs cl sl QQ (F0 m9 1368 ls []) := by
  intro H locs ls hI hS hl
  obtain ⟨sa, ha, ta, fa, ea, ma, x, y, p, sv, og, cg, sN, a, xs, ys, ps, L, cnt, num, F, t, v, w, c, uo, th, nd, ct, ht, sp, iw, mn, sr, M, bw, fl, kd, dp, vl, of, aF, nF, tF, lo, hi, be, ga, ⟨hP, hD⟩, hF⟩ := hI
  have hsN : sN = cg := hF.2.2.2.1.2
  subst hsN
  exact sg_digest C hX hbl hbA hN hi4 hlt hc hs hF K  _ _ _ hP hD hS hl
end LCASE
