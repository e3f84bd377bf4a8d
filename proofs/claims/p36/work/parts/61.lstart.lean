set_option maxHeartbeats 4000000 in
set_option maxRecDepth 100000 in
theorem whole_start {p : Program} {e : Env} {s : State} {m : MethodId} {below : List Frame} {meth : Method} {c : Code} (l : Launch) (hflags : l.flags = flags0) {b L : Nat} {xs : Nat → Int32} (hL : L ≤ 260) (C0 : lw_At p s m meth c b L xs) : W p l e room_1 s m #[Value.ref b] below meth c s.heap [] 0 0 (lw_Z below #[Value.ref b] s) (entryFrame m ([Value.ref b] : List Value).toArray 9) := by
  obtain ⟨hx, hb, hr, hml, hown, hts0, hX, hbl, hlocks, hgv⟩ := id C0
  obtain ⟨D, G, ⟨hGb, hGL⟩, hAm⟩ := law_amb hX hL hbl hts0 hgv
  obtain ⟨A, hAe⟩ : ∃ A : Nat → Prop, A = fun q : Nat => s.heap.size ≤ q := ⟨_, rfl⟩
  rw [← hAe] at hAm
  have hA : ∀ q : Nat, s.heap.size ≤ q → A q := fun q h => by rw [hAe]; exact h
  have hA2 : ∀ q : Nat, A q → s.heap.size ≤ q := fun q h => by rw [hAe] at h; exact h
  have hts : ∀ w ∈ wsL_law, w.before #[Value.ref b] s = true := fun w h => hts0 w (wsL_law_in w h)
  have C1 : Cx p m s #[Value.ref b] meth c code 9 RL (some .boolean) A D G := ⟨hx, hb, hml, hown, hts, hr, hlocks, hA, hAm⟩
  have hd0 := Drawn.sameBut.refl s.drawn lw_cs
  refine W.base ?_
  have E : ∀ (H : Heap) (locs : List Loc) (ls : Array Slot) (cl sl : Nat), va_S A s.heap H locs → cl ≤ 600130 → sl ≤ 7301079 → W p l e room_1 (s.setDrawn s.drawn) m #[Value.ref b] below meth c H locs cl sl (lw_Z below #[Value.ref b] s) (F0 m 334 ls [.int 1]) := by
    intro H locs ls cl sl hS h1 h2
    refine va_forget (fun q hq => hA2 _ (hS.2.2 q hq)) ?_
    refine W.widen (k := 600130) (n := 7301079) h1 h2 ?_
    exact lw_ret hd0 hx hb hr hlocks dL_law_334
  have hl := lv_entry ([.ref b]) (n := 9) (Nat.le_of_ble_eq_true rfl)
  rw [lg_entry_eq]
  generalize (lg_sl ([.ref b]) ++ List.replicate (9 - (lg_sl ([.ref b])).length) Slot.unset).toArray = ls at hl ⊢
  have hl : lv_has ls 9 [(0, .ref G.2.2.2.2.1)] := by rw [hGb]; exact hl
  exact law_entry (C1.draw s.drawn) (no_traces hflags) (by rw [hGL]; exact hL) E ls hl
