/-! what the start gives: classes, arrays, texts, tables, the script -/
abbrev fl0 : List Cond := flatC (Jvm.Cond.and given_1 narrow_1)
def pk8 {α : Type} (a0 a1 a2 a3 a4 a5 a6 a7 : α) : Nat → α := fun k => match k with | 0 => a0 | 1 => a1 | 2 => a2 | 3 => a3 | 4 => a4 | 5 => a5 | 6 => a6 | _ => a7
set_option maxHeartbeats 4000000 in
set_option maxRecDepth 100000 in
theorem fl_ord : ∀ j, j < 96 → fl0[7 + j]? = some (Cond.eq (.elem (.static "BoundSearch" "ORDER_MOVES" "[I") (.int (Int32.ofNat j))) (.int (ordM j))) := by decide +kernel
set_option maxHeartbeats 4000000 in
set_option maxRecDepth 100000 in
theorem fl_arr : Cond.arrayOf (.static "BoundSearch" "ORDER_MOVES" "[I") .int ∈ fl0 := List.mem_of_getElem? (i := 5) (by decide +kernel)
set_option maxHeartbeats 4000000 in
set_option maxRecDepth 100000 in
theorem fl_len : Cond.eq (.length (.static "BoundSearch" "ORDER_MOVES" "[I")) (.int (Int32.ofNat 96)) ∈ fl0 := List.mem_of_getElem? (i := 6) (by decide +kernel)
set_option maxHeartbeats 4000000 in
set_option maxRecDepth 100000 in
theorem fl_un : Cond.isRef (.static Bundle.tN "UNASSIGNED_STACK" Bundle.steD) ∈ fl0 := List.mem_of_getElem? (i := 103) (by decide +kernel)
set_option maxHeartbeats 4000000 in
set_option maxRecDepth 100000 in
theorem fl_su : Cond.isRef (.static Bundle.tN "SUPPRESSED_SENTINEL" Bundle.listD) ∈ fl0 := List.mem_of_getElem? (i := 104) (by decide +kernel)
set_option maxHeartbeats 4000000 in
set_option maxRecDepth 100000 in
theorem fl_c1 : Cond.not (.castable "java/lang/IllegalStateException" "java/lang/IndexOutOfBoundsException") ∈ fl0 := List.mem_of_getElem? (i := 133) (by decide +kernel)
set_option maxHeartbeats 4000000 in
set_option maxRecDepth 100000 in
theorem fl_c2 : Cond.not (.castable "java/lang/IllegalStateException" "java/lang/IllegalArgumentException") ∈ fl0 := List.mem_of_getElem? (i := 123) (by decide +kernel)
set_option maxHeartbeats 4000000 in
set_option maxRecDepth 100000 in
theorem fl_sk : ∀ x ∈ skl, Cond.exactly (.string "BoundSearch" x.1) "java/lang/String" ∈ fl0 := (List.forall_mem_cons.mpr ⟨List.mem_of_getElem? (i := 135) (by decide +kernel), (List.forall_mem_cons.mpr ⟨List.mem_of_getElem? (i := 156) (by decide +kernel), (List.forall_mem_cons.mpr ⟨List.mem_of_getElem? (i := 182) (by decide +kernel), (List.forall_mem_cons.mpr ⟨List.mem_of_getElem? (i := 209) (by decide +kernel), (List.forall_mem_cons.mpr ⟨List.mem_of_getElem? (i := 237) (by decide +kernel), (List.forall_mem_cons.mpr ⟨List.mem_of_getElem? (i := 266) (by decide +kernel), (List.forall_mem_cons.mpr ⟨List.mem_of_getElem? (i := 295) (by decide +kernel), (List.forall_mem_cons.mpr ⟨List.mem_of_getElem? (i := 323) (by decide +kernel), (List.forall_mem_cons.mpr ⟨List.mem_of_getElem? (i := 362) (by decide +kernel), (List.forall_mem_cons.mpr ⟨List.mem_of_getElem? (i := 395) (by decide +kernel), (List.forall_mem_cons.mpr ⟨List.mem_of_getElem? (i := 432) (by decide +kernel), (List.forall_mem_cons.mpr ⟨List.mem_of_getElem? (i := 467) (by decide +kernel), (List.forall_mem_cons.mpr ⟨List.mem_of_getElem? (i := 503) (by decide +kernel), (List.forall_mem_cons.mpr ⟨List.mem_of_getElem? (i := 542) (by decide +kernel), (List.forall_mem_cons.mpr ⟨List.mem_of_getElem? (i := 580) (by decide +kernel), (List.forall_mem_cons.mpr ⟨List.mem_of_getElem? (i := 615) (by decide +kernel), (List.forall_mem_cons.mpr ⟨List.mem_of_getElem? (i := 659) (by decide +kernel), (fun _ h9 => absurd h9 List.not_mem_nil)⟩)⟩)⟩)⟩)⟩)⟩)⟩)⟩)⟩)⟩)⟩)⟩)⟩)⟩)⟩)⟩)⟩)
set_option maxHeartbeats 4000000 in
set_option maxRecDepth 100000 in
theorem lt_sk : ∀ x ∈ skl, Cond.stringRef RX7 x.1 x.2 ∈ lw_tbl := by decide +kernel
set_option maxHeartbeats 4000000 in
set_option maxRecDepth 100000 in
theorem lt_ls : Cond.laysStatic "BoundSearch" "ORDER_MOVES" "[I" ∈ lw_tbl ∧ Cond.initialized "BoundSearch" ∈ lw_tbl ∧ Cond.arrayOver (.object "BoundSearch$State") ∈ lw_tbl ∧ Cond.arrayClass .int ∈ lw_tbl := by decide +kernel
set_option maxHeartbeats 4000000 in
set_option maxRecDepth 100000 in
theorem lt_th : Cond.laysStatic Bundle.tN "UNASSIGNED_STACK" Bundle.steD ∈ lw_tbl ∧ Cond.laysStatic Bundle.tN "SUPPRESSED_SENTINEL" Bundle.listD ∈ lw_tbl ∧ Cond.initialized Bundle.tN ∈ lw_tbl := by decide +kernel
theorem arr_of {s : State} {cA : ClassId} {kA : Class} {comp : ClassId} {ty : FieldType} (h2 : s.vm.classes[cA]? = some kA) (h3 : kA.kind = .array comp ty) : ArrOfT s cA ty := fun n z => ⟨fun k h => (by cases h), kA, h2, comp, h3⟩
/-- the script, as a table that nobody writes -/
theorem scr_T {s : State} {b L : Nat} {xs : Nat → Int32} {A : Nat → Prop} (hX : va_X b L xs s s.heap) (hL : L ≤ 260) (hbA : ¬ A b) : va_T .int b L (fun j => .int (xs j)) A s s.heap := by
  obtain ⟨scr, h1, h2, h3, h4, h5⟩ := hX
  exact ⟨scr, h1, h2, h3, Nat.le_of_eq h4.symm, by rw [h4], h5, hbA⟩
set_option maxHeartbeats 4000000 in
set_option maxRecDepth 100000 in
theorem law_amb {s : State} {b L : Nat} {xs : Nat → Int32} (hX : va_X b L xs s s.heap) (hL : L ≤ 260) (hbl : b < s.heap.size) (hts : ∀ w ∈ lw_tbl, w.before #[Value.ref b] s = true) (hgv : (Jvm.Cond.and given_1 narrow_1).before #[Value.ref b] s = true) : ∃ (D : va_G) (G : u_G), (G.2.2.2.2.1 = b ∧ G.2.2.2.2.2.1 = L) ∧ Amb D G (fun q : Nat => s.heap.size ≤ q) s s.heap := by
  have hA : ∀ a : Nat, a < s.heap.size → ¬ (fun q : Nat => s.heap.size ≤ q) a := fun a h => Nat.not_le.mpr h
  have hf : ∀ c ∈ fl0, c.before #[Value.ref b] s = true := flat_of_before _ hgv
  obtain ⟨c0, i0, k0⟩ := u_known (C := RX0) (T := TX0) (N := 6) (n := 6) hts lwin_X0 (hts _ (wsL_law_in _ kw_2_14))
  obtain ⟨c1, i1, k1⟩ := u_known (C := RX1) (T := TX1) (N := 2) (n := 2) hts lwin_X1 (hts _ (wsL_law_in _ kw_1_23))
  obtain ⟨c2, i2, k2⟩ := u_known (C := RX2) (T := TX2) (N := 6) (n := 6) hts lwin_X2 (hts _ (wsL_law_in _ kw_2_10))
  obtain ⟨c3, i3, k3⟩ := u_known (C := RX3) (T := TX3) (N := 3) (n := 3) hts lwin_X3 (hts _ (wsL_law_in _ kw_1_15))
  obtain ⟨c4, i4, k4⟩ := u_known (C := RX4) (T := TX4) (N := 5) (n := 5) hts lwin_X4 (hts _ (wsL_law_in _ kw_1_19))
  obtain ⟨c5, i5, k5⟩ := u_known (C := RX5) (T := TX5) (N := 7) (n := 7) hts lwin_X5 (hts _ (wsL_law_in _ kw_2_3))
  obtain ⟨c6, i6, k6⟩ := u_known (C := RX6) (T := TX6) (N := 5) (n := 5) hts lwin_X6 (hts _ (wsL_law_in _ kw_1_11))
  obtain ⟨c7, i7, k7⟩ := u_known (C := RX7) (T := TX7) (N := 5) (n := 5) hts lwin_X7 (hts _ (wsL_law_in _ kw_1_1))
  have hKc : ∀ (k : Nat) (q : vw_C), vwCl[k]? = some q → u_Kn s q.1 q.2.1 q.2.2 (pk8 c0 c1 c2 c3 c4 c5 c6 c7 k) (pk8 i0 i1 i2 i3 i4 i5 i6 i7 k) := by
    intro k q hq
    match k, hq with
    | 0, hq => cases hq; exact k0
    | 1, hq => cases hq; exact k1
    | 2, hq => cases hq; exact k2
    | 3, hq => cases hq; exact k3
    | 4, hq => cases hq; exact k4
    | 5, hq => cases hq; exact k5
    | 6, hq => cases hq; exact k6
    | 7, hq => cases hq; exact k7
    | k + 8, hq => simp at hq
  obtain ⟨cI, kI, pI, hI1, hI2, hI3⟩ := Cond.arrayClass_spec (hts _ lt_ls.2.2.2)
  obtain ⟨pS, cS, kS, hS1, -, hS2, hS3, hS4⟩ := Cond.arrayOver_spec (hts _ lt_ls.2.2.1)
  obtain ⟨t, ht, hT⟩ := va_Tof (tm := .static "BoundSearch" "ORDER_MOVES" "[I") (ty := .int) (N := 96) (f := fun j => .int (ordM j)) (A := fun q : Nat => s.heap.size ≤ q) (by decide) (hf _ fl_arr) (va_eqt (hf _ fl_len)) (fun j hj => va_eqt (hf _ (List.mem_of_getElem? (fl_ord j hj)))) hA
  refine ⟨(pk8 c0 c1 c2 c3 c4 c5 c6 c7, pk8 i0 i1 i2 i3 i4 i5 i6 i7), (cI, cS, cI, t, b, L, xs), ⟨rfl, rfl⟩, ⟨hKc, ?_⟩, ?_, ?_, ?_, ?_, ?_⟩
  · intro k q hq
    match k, hq with
    | 0, hq => cases hq; exact ⟨arr_of hI2 hI3, hI1⟩
    | 1, hq => cases hq; exact ⟨arr_of hS2 hS3, kS, pS, hS2, hS3, hS1, hS4⟩
    | k + 2, hq => simp at hq
  · exact fun w hw => va_Nw.of (isNw_ot (List.all_eq_true.mp nwl_is w hw)) (hts w (nwl_in w hw))
  · intro x hx
    obtain ⟨a, c, cA, kA, q1, -⟩ := Cond.exactly_spec (args := #[Value.ref b]) (first := s) (o := none) (s := s) (idx := []) (t := .string "BoundSearch" x.1) (cls := "java/lang/String") (hf _ (fl_sk x hx))
    exact ⟨a, vk_R.of (hts _ (lt_sk x hx)) q1⟩
  · exact ⟨va_Nc.of (hf _ fl_c1), va_Nc.of (hf _ fl_c2), va_AO.of (hts _ lt_ls.2.2.1)⟩
  · exact ⟨va_Zof (hts _ lt_ls.1) (hts _ lt_ls.2.1) ht hA, hT, scr_T hX hL (hA b hbl)⟩
  · exact ⟨vx_Zqof (hts _ lt_th.1) (hts _ lt_th.2.2) (hf _ fl_un) hA, vx_Zqof (hts _ lt_th.2.1) (hts _ lt_th.2.2) (hf _ fl_su) hA⟩
