/-! the law from its entry: two new objects -/
set_option maxHeartbeats 4000000 in
set_option maxRecDepth 100000 in
theorem law_entry {pr : Program} {l : Launch} {e : Env} {s9 : State} {m9 : MethodId} {args : Array Value} {below : List Frame} {meth : Method} {c9 : Code} {A : Nat → Prop} {D : va_G} {G : u_G} {QQ : State → Prop} (C9 : Cx pr m9 s9 args meth c9 code 9 RL (some .boolean) A D G) (hlt : l.stackTraces = false) (hN : G.2.2.2.2.2.1 ≤ 260) (E : ∀ (H : Heap) (locs : List Loc) (ls : Array Slot) (cl sl : Nat), va_S A s9.heap H locs → cl ≤ 600130 → sl ≤ 7301079 → W pr l e room_1 s9 m9 args below meth c9 H locs cl sl QQ (F0 m9 334 ls [.int 1])) (ls : Array Slot) (hl : lv_has ls 9 [(0, .ref G.2.2.2.2.1)]) : W pr l e room_1 s9 m9 args below meth c9 s9.heap [] 0 0 QQ (F0 m9 0 ls []) := by
  obtain ⟨hx, hb, hml, hown, hts, hr, hlocks, hA, hAm⟩ := id C9
  have hK := hAm.1
  have hS : va_S A s9.heap s9.heap [] := va_S.rf
  have hP : va_P D vwCl [] s9.heap := fun k q h => by simp at h
  have hD : va_D A [] := ⟨fun i j p q h => by simp at h, fun k q h => by simp at h⟩
  refine va_new (ci := 7) (fs := [.null, .null, .null, .null, .null]) (C := RX7) (T := TX7) (N := 5) hx hb hts inlX7 tyX7 tyX7_ok hown (hts _ kw_1_0) (hts _ kw_1_1) (hts _ kw_1_2) hK hP hD hS hA rfl (fun j hj => by rcases (show j = 0 ∨ j = 1 ∨ j = 2 ∨ j = 3 ∨ j = 4 by omega) with rfl | rfl | rfl | rfl | rfl <;> rfl) (Nat.le_of_ble_eq_true rfl) (Nat.le_of_ble_eq_true rfl) dL_law_0 (fun o H hP hD hS => ?_)
  have hP : va_P D vwCl [(o, .inr (7, [.null, .null, .null, .null, .null]))] H := hP
  have hD : va_D A [(o, .inr (7, [.null, .null, .null, .null, .null]))] := hD
  refine lv_dup hx hb dL_law_3 rfl ?_
  refine aftV0 (wr := []) C9 (runI_G (As := []) (rest := [.ref o]) C9 (mX7_init l D G o) hS hP hD [0] rfl (by decide) rfl ys_X7_init kw_1_4 kw_1_5 ⟨Nat.le_of_ble_eq_true rfl, Nat.le_of_ble_eq_true rfl⟩ hl.1 (Nat.le_of_ble_eq_true rfl) dL_law_4 rfl rfl ⟨rm_c (by omega), rm_s (by omega)⟩) hS hP hD [0] [] rfl rfl (by decide) (by decide) (fun u0 H locs hp0 hP hD hS => ?_)
  obtain ⟨K1, hK1⟩ : ∃ K1 : AD, K1 = u0 := ⟨_, rfl⟩
  have hP : va_P D vwCl (OW G o K1 S00 C00) H := by rw [hK1]; exact hP
  have hD : va_D A (OW G o K1 S00 C00) := by rw [hK1]; exact hD
  refine lv_astore_n (lv' := [(1, .ref o), (0, .ref G.2.2.2.2.1)]) hx hb dL_law_7 rfl hl (by decide) rfl (fun ls hl => ?_)
  refine va_new (ci := 7) (fs := [.null, .null, .null, .null, .null]) (C := RX7) (T := TX7) (N := 5) hx hb hts inlX7 tyX7 tyX7_ok hown (hts _ kw_1_0) (hts _ kw_1_1) (hts _ kw_1_2) hK hP hD hS hA rfl (fun j hj => by rcases (show j = 0 ∨ j = 1 ∨ j = 2 ∨ j = 3 ∨ j = 4 by omega) with rfl | rfl | rfl | rfl | rfl <;> rfl) (Nat.le_of_ble_eq_true rfl) (Nat.le_of_ble_eq_true rfl) dL_law_8 (fun q H hP hD hS => ?_)
  refine lv_dup hx hb dL_law_11 rfl ?_
  refine aftV0 (wr := OW G o K1 S00 C00) C9 (runI_G (As := []) (rest := [.ref q]) C9 (mX7_init l D G q) hS hP hD [57] rfl (by decide) rfl ys_X7_init kw_1_4 kw_1_5 ⟨Nat.le_of_ble_eq_true rfl, Nat.le_of_ble_eq_true rfl⟩ hl.1 (Nat.le_of_ble_eq_true rfl) dL_law_12 rfl rfl ⟨rm_c (by omega), rm_s (by omega)⟩) hS hP hD [57] (List.range' 0 57) rfl OW2_get1 (by decide) (by decide) (fun u8 H locs hp8 hP hD hS => ?_)
  obtain ⟨K2, hK2⟩ : ∃ K2 : AD, K2 = u8 := ⟨_, rfl⟩
  have hP : va_P D vwCl (OW G o K1 S00 C00 ++ OW G q K2 S00 C00) H := by rw [hK2]; exact hP
  have hD : va_D A (OW G o K1 S00 C00 ++ OW G q K2 S00 C00) := by rw [hK2]; exact hD
  refine lv_astore_n (lv' := [(2, .ref q), (1, .ref o), (0, .ref G.2.2.2.2.1)]) hx hb dL_law_15 rfl hl (by decide) rfl (fun ls hl => ?_)
  exact law_begin C9 hlt hN E _ _ (by omega) (by omega) _ _ _ hP hD hS (lv_sub hl [2, 1, 0] rfl)
