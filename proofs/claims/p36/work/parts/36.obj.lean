/-! an object of the class as one piece; contracts over it; calls of them -/
theorem Amb.sub {D : va_G} {G : u_G} {A B : Nat → Prop} {s : State} {H : Heap} (h : Amb D G A s H) (hAB : ∀ q, B q → A q) : Amb D G B s H := by
  obtain ⟨h1, h2, h3, h4, h5, h6, h7⟩ := h
  exact ⟨h1, h2, h3, h4, h5.narrow hAB, h6.narrow hAB, h7.narrow hAB⟩
theorem va_A_sub {w ws : va_W} {sz : Nat} (isC : List Nat) (hC : isC.map (fun i => ws[i]?) = w.map some) : ∀ q, va_A w sz q → va_A ws sz q := by
  intro q h
  rcases h with ⟨k, e, h⟩ | h
  · have h1 : (isC.map (fun i => ws[i]?))[k]? = some (some (q, e)) := by rw [hC, List.getElem?_map, h]; rfl
    rw [List.getElem?_map] at h1
    cases hi : isC[k]? with
    | none => rw [hi] at h1; cases h1
    | some i => rw [hi] at h1; exact Or.inl ⟨i, e, Option.some.inj h1⟩
  · exact Or.inr h
theorem pcG_sub {D : va_G} {G : u_G} {av : List Value} {w ws : va_W} {sz : Nat} {a : Array Value} {s : State} (isC : List Nat) (hC : isC.map (fun i => ws[i]?) = w.map some) (hn : va_nd isC = true) (h : PcG D G av ws sz a s) : PcG D G av w sz a s := by
  obtain ⟨h1, h2, hP, hD, hAm⟩ := h
  have hPc : va_P D vwCl w s.heap := hP.sub isC (by
    have h1 : isC.filterMap (fun i => ws[i]?) = (isC.map (fun i => ws[i]?)).filterMap id := by rw [List.filterMap_map]; rfl
    rw [h1, hC, List.filterMap_map]
    show List.filterMap (id ∘ some) w = w
    exact List.filterMap_some)
  exact ⟨h1, h2, hPc, hD.sub isC hn hC, hAm.sub (va_A_sub isC hC)⟩
section LIFT
variable {S S2 : Type} {l : Launch} {D : va_G} {G : u_G} {y : MethodName} {b : ByteArray} {nL h mc ms : Nat} {rt : FieldType} {av : List Value} {w ws : va_W}
/-- a contract over some cells, said over more of them -/
theorem MtI.lift {p : Int32 → S → Prop} {w' : S → va_W} (hM : MtI l D G y b nL rt h mc ms av w p w') (isC : List Nat) (hC : isC.map (fun i => ws[i]?) = w.map some) (hn : va_nd isC = true) (hsm : ∀ u, (w' u).map Prod.fst = w.map Prod.fst) {p2 : Int32 → S2 → Prop} {w2 : S2 → va_W} (f : S → S2) (hp : ∀ r u, p r u → p2 r (f u)) (hw : ∀ r u, p r u → wput ws isC (w' u) = w2 (f u)) : MtI l D G y b nL rt h mc ms av ws p2 w2 := by
  intro sz pr e ha hc hk s m args below hf happ hPre hK
  obtain ⟨n, o, a1, a2, a3, ⟨⟨r, u, ho, hpr, hB⟩, hF1, hF2⟩, L, hFE, hL⟩ := hM sz pr e ha hc hk s m args below hf happ (pcG_sub isC hC hn hPre) hK
  have hsz : s.heap.size = sz := hPre.2.1
  have hP := hPre.2.2.1
  have hD := hPre.2.2.2.1
  subst hsz
  refine ⟨n, o, a1, a2, a3, ⟨⟨r, f u, ho, hp r u hpr, ?_⟩, hF1, fun q h1 h2 => hF2 q h1 (fun h => h2 (va_A_sub isC hC q h))⟩, L, hFE, fun q hq => va_A_sub isC hC _ (hL q hq)⟩
  show va_P D vwCl (w2 (f u)) _
  rw [← hw r u hpr]
  exact (wjoin hP hD isC hC (hsm u) hF2 hB).1
theorem MtI.lift0 {p : Int32 → S → Prop} (hM : MtI l D G y b nL rt h mc ms av w p (fun _ => w)) (isC : List Nat) (hC : isC.map (fun i => ws[i]?) = w.map some) (hn : va_nd isC = true) : MtI l D G y b nL rt h mc ms av ws p (fun _ => ws) :=
  hM.lift isC hC hn (fun _ => rfl) id (fun _ _ h => h) (fun _ _ _ => wput_self isC w ws hC)
theorem MtL.lift0 {p : Int64 → S → Prop} (hM : MtL l D G y b nL h mc ms av w p (fun _ => w)) (isC : List Nat) (hC : isC.map (fun i => ws[i]?) = w.map some) (hn : va_nd isC = true) : MtL l D G y b nL h mc ms av ws p (fun _ => ws) := by
  intro sz pr e ha hc hk s m args below hf happ hPre hK
  obtain ⟨n, o, a1, a2, a3, ⟨⟨r, u, ho, hpr, hB⟩, hF1, hF2⟩, L, hFE, hL⟩ := hM sz pr e ha hc hk s m args below hf happ (pcG_sub isC hC hn hPre) hK
  have hsz : s.heap.size = sz := hPre.2.1
  have hP := hPre.2.2.1
  have hD := hPre.2.2.2.1
  subst hsz
  refine ⟨n, o, a1, a2, a3, ⟨⟨r, u, ho, hpr, ?_⟩, hF1, fun q h1 h2 => hF2 q h1 (fun h => h2 (va_A_sub isC hC q h))⟩, L, hFE, fun q hq => va_A_sub isC hC _ (hL q hq)⟩
  have hj := (wjoin hP hD isC hC (w1 := w) rfl hF2 hB).1
  rw [wput_self isC w ws hC] at hj
  exact hj
/-- a method that answers a double and draws nothing -/
def MtF (l : Launch) (D : va_G) (G : u_G) (y : MethodName) (b : ByteArray) (nL : Nat) (h : Nat) (av : List Value) (w : va_W) (p : UInt64 → Prop) : Prop :=
  ∀ sz, Met l y (wsG y b nL (some .double)) (rmG h 0 0) (PcG D G av w sz) (va_Qd (fun (r : UInt64) (_ : Unit) => p r) (fun _ t => WB D w t) (va_A w sz)) 0 0 (va_A w sz)
theorem MtF.of {p : UInt64 → Prop} (hy : plainName y.cls = true) (hn : (lg_sl av).length ≤ nL)
    (body : ∀ (pr : Program) (e : Env) (s : State) (m : MethodId) (below : List Frame) (meth : Method) (c : Code) (A : Nat → Prop) (ls : Array Slot), Cx pr m s av.toArray meth c b nL y.cls (some .double) A D G → va_P D vwCl w s.heap → va_D A w → lv_has ls nL (lv_args 0 av) →
      W pr l e (rmG h 0 0) s m av.toArray below meth c s.heap [] 0 0 (MQ below (va_Qd (fun (r : UInt64) (_ : Unit) => p r) (fun _ t => WB D w t) A) av.toArray s 0 0 A) (F0 m 0 ls [])) : MtF l D G y b nL h av w p := by
  intro sz
  refine Met.ofW (cc := b) (maxL := nL) (ret := some .double) hy rfl ?_
  intro pr e s m args below meth c s₁ B hml hv
  obtain ⟨rfl, rfl, hP, hD0, hAm⟩ := hv
  have hts := atoms_spec (ws := wsG y b nL (some .double)) B.pre
  have hD := hD0.self (sz := s.heap.size)
  rw [lg_entry_eq]
  exact body pr e s m below meth c _ _ ⟨B.exec, B.bytes, hml, findClass_of_methodNamed B.named, fun x hx => hts x (List.mem_cons_of_mem _ hx), B.returns, B.notSynchronized, fun q hq => Or.inr hq, hAm⟩ hP hD (lv_entry av hn)
theorem MtF.lift0 {p : UInt64 → Prop} (hM : MtF l D G y b nL h av w p) (isC : List Nat) (hC : isC.map (fun i => ws[i]?) = w.map some) (hn : va_nd isC = true) : MtF l D G y b nL h av ws p := by
  intro sz pr e ha hc hk s m args below hf happ hPre hK
  obtain ⟨n, o, a1, a2, a3, ⟨⟨r, u, ho, hpr, hB⟩, hF1, hF2⟩, L, hFE, hL⟩ := hM sz pr e ha hc hk s m args below hf happ (pcG_sub isC hC hn hPre) hK
  have hsz : s.heap.size = sz := hPre.2.1
  have hP := hPre.2.2.1
  have hD := hPre.2.2.2.1
  subst hsz
  refine ⟨n, o, a1, a2, a3, ⟨⟨r, u, ho, hpr, ?_⟩, hF1, fun q h1 h2 => hF2 q h1 (fun h => h2 (va_A_sub isC hC q h))⟩, L, hFE, fun q hq => va_A_sub isC hC _ (hL q hq)⟩
  have hj := (wjoin hP hD isC hC (w1 := w) rfl hF2 hB).1
  rw [wput_self isC w ws hC] at hj
  exact hj
end LIFT
section OCALLS
variable {pr : Program} {l : Launch} {e : Env} {R : Room} {s : State} {m : MethodId} {args : Array Value} {below : List Frame} {meth : Method} {c : Code} {H : Heap} {locs : List Loc} {cells slots : Nat} {QQ : State → Prop}
variable {cc : ByteArray} {nL0 : Nat} {own : String} {rt0 : Option FieldType} {A : Nat → Prop} {D : va_G} {G : u_G}
variable {y : MethodName} {b : ByteArray} {nL n index h mc ms : Nat} {rt : FieldType} {hh : List (Nat × Nat × Nat × Nat)} {As rest st0 : List Value} {w ws : va_W} {pc : Nat} {ls : Array Slot} {S : Type}
/-- a static call of a method without handlers -/
theorem oS {p' : Int32 → S → Prop} {w' wz : S → va_W} (C : Cx pr m s args meth c cc nL0 own rt0 A D G) (hM : MtI l D G y b nL rt h mc ms As w p' w') (hsm : ∀ u, (w' u).map Prod.fst = w.map Prod.fst) (hS : va_S A s.heap H locs) (hP : va_P D vwCl ws H) (hD : va_D A ws) (isC : List Nat) (hC : isC.map (fun i => ws[i]?) = w.map some) (hn : va_nd isC = true) (hW : ∀ u, wput ws isC (w' u) = wz u)
    (Y : YS y b nL (some rt) n) (kl : Cond.methodLink own index y ∈ wsL_law) (ks : Cond.static y ∈ wsL_law) (hrm : h + 1 ≤ R.frames ∧ 8 + (nL + 11) + 40 * h ≤ R.locals) (hl : ls.size = nL0) (hst : (rest.map fun v => v.category).sum ≤ 8) (hdg : decode cc pc = .ok (.invokestatic index, 3)) (hlen : As.length = n) (hstk : st0 = As.reverse ++ rest) (hf : cells + mc ≤ R.cells ∧ slots + ms ≤ R.slots)
    (kk : ∀ (r : Int32) (u : S) (H1 : Heap) (locs1 : List Loc), p' r u → va_P D vwCl (wz u) H1 → va_D A (wz u) → va_S A s.heap H1 locs1 → W pr l e R s m args below meth c H1 locs1 (cells + mc) (slots + ms) QQ (F0 m (pc + 3) ls (.int r :: rest))) : W pr l e R s m args below meth c H locs cells slots QQ (F0 m pc ls st0) := by
  have hF := va_free hD hS C.2.2.2.2.2.2.2.1 isC hC
  refine va_calli (runS_G C hM hS hP hD isC hC hn Y kl ks hrm hl hst hdg hlen hstk hf) hS (fun q _ h => hF q h) hF (fun r u t H1 locs1 ht hvm hw hB hz hk hS1 => ?_)
  have hB' : va_P D vwCl (w' u) H1 := ht ▸ hB
  obtain ⟨hP1, hD1⟩ := wjoin hP hD isC hC (hsm u) hk hB'
  rw [hW u] at hP1 hD1
  exact kk r u H1 locs1 hw hP1 hD1 hS1
/-- a static call of a method with handlers -/
theorem oW {p' : Int32 → S → Prop} {w' wz : S → va_W} (C : Cx pr m s args meth c cc nL0 own rt0 A D G) (hM : MtW l D G y b nL hh h mc ms As w p' w') (hsm : ∀ u, (w' u).map Prod.fst = w.map Prod.fst) (hS : va_S A s.heap H locs) (hP : va_P D vwCl ws H) (hD : va_D A ws) (isC : List Nat) (hC : isC.map (fun i => ws[i]?) = w.map some) (hn : va_nd isC = true) (hW : ∀ u, wput ws isC (w' u) = wz u)
    (Y : YW y b nL hh n) (kl : Cond.methodLink own index y ∈ wsL_law) (ks : Cond.static y ∈ wsL_law) (hrm : h + 1 ≤ R.frames ∧ 8 + (nL + 11) + 40 * h ≤ R.locals) (hl : ls.size = nL0) (hst : (rest.map fun v => v.category).sum ≤ 8) (hdg : decode cc pc = .ok (.invokestatic index, 3)) (hlen : As.length = n) (hstk : st0 = As.reverse ++ rest) (hf : cells + mc ≤ R.cells ∧ slots + ms ≤ R.slots)
    (kk : ∀ (r : Int32) (u : S) (H1 : Heap) (locs1 : List Loc), p' r u → va_P D vwCl (wz u) H1 → va_D A (wz u) → va_S A s.heap H1 locs1 → W pr l e R s m args below meth c H1 locs1 (cells + mc) (slots + ms) QQ (F0 m (pc + 3) ls (.int r :: rest))) : W pr l e R s m args below meth c H locs cells slots QQ (F0 m pc ls st0) := by
  refine callW C hM hsm hS hP hD isC hC hn Y kl ks hrm hl hst hdg hlen hstk hf (fun r u H1 locs1 hw hP1 hD1 hS1 => ?_)
  rw [hW u] at hP1 hD1
  exact kk r u H1 locs1 hw hP1 hD1 hS1
/-- a call on the object -/
theorem oV {bq q0 ci N : Nat} {T : u_T} {fs : List Value} {p' : Int32 → S → Prop} {w' wz : S → va_W} (C : Cx pr m s args meth c cc nL0 own rt0 A D G) (hM : MtI l D G y b nL rt h mc ms (.ref bq :: As) w p' w') (hsm : ∀ u, (w' u).map Prod.fst = w.map Prod.fst) (hS : va_S A s.heap H locs) (hP : va_P D vwCl ws H) (hD : va_D A ws) (isC : List Nat) (hC : isC.map (fun i => ws[i]?) = w.map some) (hn : va_nd isC = true) (hW : ∀ u, wput ws isC (w' u) = wz u)
    (he : ws[q0]? = some (bq, .inr (ci, fs))) (hci : vwCl[ci]? = some (y.cls, T, N)) (Y : YS y b nL (some rt) n) (kl : Cond.methodLink own index y ∈ wsL_law) (ki : Cond.instanceMethod y ∈ wsL_law) (ks : Cond.selects y.cls y y ∈ wsL_law) (hrm : h + 1 ≤ R.frames ∧ 8 + (nL + 11) + 40 * h ≤ R.locals) (hl : ls.size = nL0) (hst : (rest.map fun v => v.category).sum ≤ 8) (hdg : decode cc pc = .ok (.invokevirtual index, 3)) (hlen : As.length = n) (hstk : st0 = As.reverse ++ .ref bq :: rest) (hf : cells + mc ≤ R.cells ∧ slots + ms ≤ R.slots)
    (kk : ∀ (r : Int32) (u : S) (H1 : Heap) (locs1 : List Loc), p' r u → va_P D vwCl (wz u) H1 → va_D A (wz u) → va_S A s.heap H1 locs1 → W pr l e R s m args below meth c H1 locs1 (cells + mc) (slots + ms) QQ (F0 m (pc + 3) ls (.int r :: rest))) : W pr l e R s m args below meth c H locs cells slots QQ (F0 m pc ls st0) := by
  have hF := va_free hD hS C.2.2.2.2.2.2.2.1 isC hC
  refine va_calli (runV_G C hM hS hP hD isC hC hn he hci Y kl ki ks hrm hl hst hdg hlen hstk hf) hS (fun q _ h => hF q h) hF (fun r u t H1 locs1 ht hvm hw hB hz hk hS1 => ?_)
  have hB' : va_P D vwCl (w' u) H1 := ht ▸ hB
  obtain ⟨hP1, hD1⟩ := wjoin hP hD isC hC (hsm u) hk hB'
  rw [hW u] at hP1 hD1
  exact kk r u H1 locs1 hw hP1 hD1 hS1
/-- .. that answers a long, and changes nothing -/
theorem oL {bq q0 ci N : Nat} {T : u_T} {fs : List Value} {p' : Int64 → Unit → Prop} (C : Cx pr m s args meth c cc nL0 own rt0 A D G) (hM : MtL l D G y b nL h mc ms (.ref bq :: As) w p' (fun _ => w)) (hS : va_S A s.heap H locs) (hP : va_P D vwCl ws H) (hD : va_D A ws) (isC : List Nat) (hC : isC.map (fun i => ws[i]?) = w.map some) (hn : va_nd isC = true)
    (he : ws[q0]? = some (bq, .inr (ci, fs))) (hci : vwCl[ci]? = some (y.cls, T, N)) (Y : YS y b nL (some .long) n) (kl : Cond.methodLink own index y ∈ wsL_law) (ki : Cond.instanceMethod y ∈ wsL_law) (ks : Cond.selects y.cls y y ∈ wsL_law) (hrm : h + 1 ≤ R.frames ∧ 8 + (nL + 11) + 40 * h ≤ R.locals) (hl : ls.size = nL0) (hst : (rest.map fun v => v.category).sum ≤ 8) (hdg : decode cc pc = .ok (.invokevirtual index, 3)) (hlen : As.length = n) (hstk : st0 = As.reverse ++ .ref bq :: rest) (hf : cells + mc ≤ R.cells ∧ slots + ms ≤ R.slots)
    (kk : ∀ (r : Int64) (H1 : Heap) (locs1 : List Loc), p' r () → va_P D vwCl ws H1 → va_S A s.heap H1 locs1 → W pr l e R s m args below meth c H1 locs1 (cells + mc) (slots + ms) QQ (F0 m (pc + 3) ls (.long r :: rest))) : W pr l e R s m args below meth c H locs cells slots QQ (F0 m pc ls st0) := by
  have hF := va_free hD hS C.2.2.2.2.2.2.2.1 isC hC
  refine va_calll (runV_G C hM hS hP hD isC hC hn he hci Y kl ki ks hrm hl hst hdg hlen hstk hf) hS (fun q _ h => hF q h) hF (fun r u t H1 locs1 ht hvm hw hB hz hk hS1 => ?_)
  have hB' : va_P D vwCl w H1 := ht ▸ hB
  obtain ⟨hP1, hD1⟩ := wjoin hP hD isC hC (w1 := w) rfl hk hB'
  rw [wput_self isC w ws hC] at hP1
  exact kk r H1 locs1 hw hP1 hS1
/-- .. that answers a double, and changes nothing -/
theorem oF {bq q0 ci N : Nat} {T : u_T} {fs : List Value} {p' : UInt64 → Prop} (C : Cx pr m s args meth c cc nL0 own rt0 A D G) (hM : MtF l D G y b nL h (.ref bq :: As) w p') (hS : va_S A s.heap H locs) (hP : va_P D vwCl ws H) (hD : va_D A ws) (isC : List Nat) (hC : isC.map (fun i => ws[i]?) = w.map some) (hn : va_nd isC = true)
    (he : ws[q0]? = some (bq, .inr (ci, fs))) (hci : vwCl[ci]? = some (y.cls, T, N)) (Y : YS y b nL (some .double) n) (kl : Cond.methodLink own index y ∈ wsL_law) (ki : Cond.instanceMethod y ∈ wsL_law) (ks : Cond.selects y.cls y y ∈ wsL_law) (hrm : h + 1 ≤ R.frames ∧ 8 + (nL + 11) + 40 * h ≤ R.locals) (hl : ls.size = nL0) (hst : (rest.map fun v => v.category).sum ≤ 8) (hdg : decode cc pc = .ok (.invokevirtual index, 3)) (hlen : As.length = n) (hstk : st0 = As.reverse ++ .ref bq :: rest) (hf : cells + 0 ≤ R.cells ∧ slots + 0 ≤ R.slots)
    (kk : ∀ (r : UInt64) (H1 : Heap) (locs1 : List Loc), p' r → va_P D vwCl ws H1 → va_S A s.heap H1 locs1 → W pr l e R s m args below meth c H1 locs1 cells slots QQ (F0 m (pc + 3) ls (.double r :: rest))) : W pr l e R s m args below meth c H locs cells slots QQ (F0 m pc ls st0) := by
  have hF := va_free hD hS C.2.2.2.2.2.2.2.1 isC hC
  refine va_calld (runV_G C hM hS hP hD isC hC hn he hci Y kl ki ks hrm hl hst hdg hlen hstk hf) hS (fun q _ h => hF q h) hF (fun r u t H1 locs1 ht hvm hw hB hz hk hS1 => ?_)
  have hB' : va_P D vwCl w H1 := ht ▸ hB
  obtain ⟨hP1, hD1⟩ := wjoin hP hD isC hC (w1 := w) rfl hk hB'
  rw [wput_self isC w ws hC] at hP1
  exact kk r H1 locs1 hw hP1 hS1
end OCALLS
/-- one piece of the world, as a whole -/
theorem whole_get (w : va_W) : (List.range' 0 w.length).map (fun i => w[i]?) = w.map some := by
  have h := range_get w []
  simpa using h
theorem whole_put {w w' : va_W} (h : w'.length = w.length) : wput w (List.range' 0 w.length) w' = w' := by
  have h1 := wput_right w w' [] h
  simpa using h1
theorem fst_get (w T : va_W) : (List.range' 0 w.length).map (fun i => (w ++ T)[i]?) = w.map some := by
  rw [← whole_get w]
  refine List.map_congr_left (fun i hi => ?_)
  have h := List.mem_range'_1.mp hi
  exact List.getElem?_append_left (by omega)
theorem fst_put {w w' : va_W} (T : va_W) (h : w'.length = w.length) : wput (w ++ T) (List.range' 0 w.length) w' = w' ++ T := by
  have h1 := wput_left (T := T) (J := []) (T' := []) (List.range' 0 w.length) w' w (by rw [List.length_range', h]) (fun i hi => by have := List.mem_range'_1.mp hi; omega)
  rw [List.append_nil, List.append_nil] at h1
  rw [h1, whole_put h]
  rfl
theorem snd_get (w T : va_W) : (List.range' w.length T.length).map (fun i => (w ++ T)[i]?) = T.map some := range_get T w
theorem snd_put {T T' : va_W} (w : va_W) (h : T'.length = T.length) : wput (w ++ T) (List.range' w.length T.length) T' = w ++ T' := wput_right T T' w h
/-- the addresses; the state: small numbers, others, piles, the ring, the saved states, the row of the text's numbers; the rest: the values' table, the text, what a search leaves -/
abbrev AD : Type := (Nat → Nat) × (Nat → Nat) × (Nat → Nat) × (Nat → Nat) × (Nat → Nat) × (Nat → Nat → Nat)
abbrev AS : Type := (Nat → Nat) × (Nat → Int32) × (Nat → Int32) × Nat × Nat × (Nat → Nat → Nat) × (Nat → Nat → Int32) × (Nat → Nat → Int32) × (Nat → Int32)
abbrev SC : Type := (Nat → Int32) × Nat × Nat × Nat × (Nat → Nat) × (Nat → Nat) × (Nat → Int32) × (Nat → Nat → Int32)
abbrev AS.x (S : AS) : Nat → Nat := S.1
abbrev AS.y (S : AS) : Nat → Int32 := S.2.1
abbrev AS.p (S : AS) : Nat → Int32 := S.2.2.1
abbrev AS.og (S : AS) : Nat := S.2.2.2.1
abbrev AS.cg (S : AS) : Nat := S.2.2.2.2.1
abbrev AS.xs (S : AS) : Nat → Nat → Nat := S.2.2.2.2.2.1
abbrev AS.ys (S : AS) : Nat → Nat → Int32 := S.2.2.2.2.2.2.1
abbrev AS.ps (S : AS) : Nat → Nat → Int32 := S.2.2.2.2.2.2.2.1
abbrev AS.F (S : AS) : Nat → Int32 := S.2.2.2.2.2.2.2.2
abbrev SC.sv (C : SC) : Nat → Int32 := C.1
abbrev SC.L (C : SC) : Nat := C.2.1
abbrev SC.cnt (C : SC) : Nat := C.2.2.1
abbrev SC.num (C : SC) : Nat := C.2.2.2.1
abbrev SC.t (C : SC) : Nat → Nat := C.2.2.2.2.1
abbrev SC.v (C : SC) : Nat → Nat := C.2.2.2.2.2.1
abbrev SC.w (C : SC) : Nat → Int32 := C.2.2.2.2.2.2.1
abbrev SC.c (C : SC) : Nat → Nat → Int32 := C.2.2.2.2.2.2.2
def OW (G : u_G) (q : Nat) (K : AD) (S : AS) (C : SC) : va_W := ([(q, .inr (7, [.ref (K.1 0), .ref (K.2.1 0), .ref (K.2.2.1 0), .ref (K.2.2.2.1 0), .ref (K.2.2.2.2.1 0)])), (K.1 0, .inr (6, [.ref (K.1 1), .ref (K.1 3), .int (nI (S.x 18)), .int (nI (S.x 19)), .int (bI (S.x 20 = 0))])), (K.1 1, .inr (2, [.ref (K.1 2), .int (nI (S.x 13)), .int (nI (S.x 14)), .int (nI (S.x 15)), .int (S.y 16), .int (S.y 17)])), (K.1 2, .inl (G.1, 12, .inl S.p)), (K.1 3, .inr (0, [.int (S.y 21), .int (nI (S.x 22)), .int (S.y 23), .int (S.y 24), .ref (K.1 4), .ref (K.1 5)])), (K.1 4, .inl (G.1, 144, .inl (kdY S.y))), (K.1 5, .inl (G.1, 144, .inl (vlY S.y))), (K.2.1 0, .inr (3, [.ref (K.2.1 1), .int (nI S.og), .int (nI S.cg)])), (K.2.1 1, .inl (G.2.1, 6, .inr (.inr (.inr (.inr (sqf K.2.2.2.2.2)))))), (K.2.2.1 0, .inr (4, [.ref (K.2.2.1 1), .int (nI C.L), .ref (K.2.2.1 2), .int (nI C.cnt), .int (nI C.num)])), (K.2.2.1 1, .inl (G.1, 60, .inl (tN C.t))), (K.2.2.1 2, .inl (G.1, 12, .inl S.F)), (K.2.2.2.1 0, .inr (1, [.ref (K.2.2.2.1 1), .ref (K.2.2.2.1 2)])), (K.2.2.2.1 1, .inl (G.1, 12, .inl S.p)), (K.2.2.2.1 2, .inl (G.1, 144, .inl C.sv)), (K.2.2.2.2.1 0, .inr (5, [.ref (K.2.2.2.2.1 1), .ref (K.2.2.2.2.1 4), .ref (K.2.2.2.2.1 5), .int (nI (C.v 0)), .int (nI (C.v 1)), .int (C.w 0), .int (C.w 1)])), (K.2.2.2.2.1 1, .inr (0, [.int (C.w 2), .int (nI (C.v 2)), .int (C.w 3), .int (C.w 4), .ref (K.2.2.2.2.1 2), .ref (K.2.2.2.2.1 3)])), (K.2.2.2.2.1 2, .inl (G.1, 144, .inl (C.c 0))), (K.2.2.2.2.1 3, .inl (G.1, 144, .inl (C.c 1))), (K.2.2.2.2.1 4, .inl (G.1, 12, .inl (C.c 2))), (K.2.2.2.2.1 5, .inl (G.1, 144, .inl (C.c 3)))] ++ svw G K.2.2.2.2.2 S.xs S.ys S.ps)
theorem OW_len (G : u_G) (q : Nat) (K : AD) (S : AS) (C : SC) : (OW G q K S C).length = 57 := rfl
theorem OW_get (G : u_G) (q : Nat) (K : AD) (S : AS) (C : SC) : (List.range' 0 57).map (fun i => (OW G q K S C)[i]?) = (OW G q K S C).map some := whole_get (OW G q K S C)
theorem OW_put (G : u_G) (q q2 : Nat) (K K2 : AD) (S S2 : AS) (C C2 : SC) : wput (OW G q K S C) (List.range' 0 57) (OW G q2 K2 S2 C2) = OW G q2 K2 S2 C2 := whole_put (w := OW G q K S C) rfl
theorem OW_fst (G : u_G) (q : Nat) (K : AD) (S S2 : AS) (C C2 : SC) : (OW G q K S2 C2).map Prod.fst = (OW G q K S C).map Prod.fst := rfl
/-- a call that saves: the state behind it -/
abbrev AS.sav (S : AS) (x2 : Nat → Nat) (y2 p2 F2 : Nat → Int32) : AS := (x2, y2, p2, svO S.og S.cg, svC S.cg, sx S.xs (ri (S.og + S.cg)) S.x, sx S.ys (ri (S.og + S.cg)) S.y, sx S.ps (ri (S.og + S.cg)) S.p, F2)
theorem o_turn (l : Launch) (D : va_G) (G : u_G) (q : Nat) (K : AD) (S : AS) (C : SC) : MtI l D G yX7_turn cX7_turn 1 .int 1 0 0 [.ref q] (OW G q K S C) (fun (r : Int32) (_ : Unit) => r = nI (S.x 15)) (fun (_ : Unit) => OW G q K S C) :=
  (mX7_turn l D G q K.1 K.2.1 K.2.2.1 K.2.2.2.1 K.2.2.2.2.1 S.x S.y S.p ).lift0 [0, 1, 2, 3, 4, 5, 6] rfl (by decide)
theorem o_left (l : Launch) (D : va_G) (G : u_G) (q : Nat) (K : AD) (S : AS) (C : SC) : MtI l D G yX7_left cX7_left 1 .int 1 0 0 [.ref q] (OW G q K S C) (fun (r : Int32) (_ : Unit) => r = nI (S.x 14)) (fun (_ : Unit) => OW G q K S C) :=
  (mX7_left l D G q K.1 K.2.1 K.2.2.1 K.2.2.2.1 K.2.2.2.2.1 S.x S.y S.p ).lift0 [0, 1, 2, 3, 4, 5, 6] rfl (by decide)
theorem o_result (l : Launch) (D : va_G) (G : u_G) (q : Nat) (K : AD) (S : AS) (C : SC) : MtI l D G yX7_result cX7_result 1 .int 1 0 0 [.ref q] (OW G q K S C) (fun (r : Int32) (_ : Unit) => r = S.y 21) (fun (_ : Unit) => OW G q K S C) :=
  (mX7_result l D G q K.1 K.2.1 K.2.2.1 K.2.2.2.1 K.2.2.2.2.1 S.x S.y S.p ).lift0 [0, 1, 2, 3, 4, 5, 6] rfl (by decide)
theorem o_nodes (l : Launch) (D : va_G) (G : u_G) (q : Nat) (K : AD) (S : AS) (C : SC) : MtI l D G yX7_nodes cX7_nodes 1 .int 1 0 0 [.ref q] (OW G q K S C) (fun (r : Int32) (_ : Unit) => r = nI (S.x 22)) (fun (_ : Unit) => OW G q K S C) :=
  (mX7_nodes l D G q K.1 K.2.1 K.2.2.1 K.2.2.2.1 K.2.2.2.2.1 S.x S.y S.p ).lift0 [0, 1, 2, 3, 4, 5, 6] rfl (by decide)
theorem o_cuts (l : Launch) (D : va_G) (G : u_G) (q : Nat) (K : AD) (S : AS) (C : SC) : MtI l D G yX7_cuts cX7_cuts 1 .int 1 0 0 [.ref q] (OW G q K S C) (fun (r : Int32) (_ : Unit) => r = S.y 23) (fun (_ : Unit) => OW G q K S C) :=
  (mX7_cuts l D G q K.1 K.2.1 K.2.2.1 K.2.2.2.1 K.2.2.2.2.1 S.x S.y S.p ).lift0 [0, 1, 2, 3, 4, 5, 6] rfl (by decide)
theorem o_hits (l : Launch) (D : va_G) (G : u_G) (q : Nat) (K : AD) (S : AS) (C : SC) : MtI l D G yX7_hits cX7_hits 1 .int 1 0 0 [.ref q] (OW G q K S C) (fun (r : Int32) (_ : Unit) => r = S.y 24) (fun (_ : Unit) => OW G q K S C) :=
  (mX7_hits l D G q K.1 K.2.1 K.2.2.1 K.2.2.2.1 K.2.2.2.2.1 S.x S.y S.p ).lift0 [0, 1, 2, 3, 4, 5, 6] rfl (by decide)
theorem o_value (l : Launch) (D : va_G) (G : u_G) (q : Nat) (K : AD) (S : AS) (C : SC) (hfn : S.x 13 + S.x 14 ≤ 12) (hPR : PR S.p) (hSV : SV S.p C.sv (S.x 13 + S.x 14)) : MtI l D G yX7_value cX7_value 1 .int 4 0 0 [.ref q] (OW G q K S C) (fun (r : Int32) (_ : Unit) => r = V S.p (S.x 14) (S.x 13)) (fun (_ : Unit) => OW G q K S C) :=
  (mX7_value l D G q K.1 K.2.1 K.2.2.1 K.2.2.2.1 K.2.2.2.2.1 S.x S.y S.p C.sv hfn hPR hSV).lift0 [0, 1, 2, 3, 4, 5, 6, 12, 13, 14] rfl (by decide)
theorem o_bestMove (l : Launch) (D : va_G) (G : u_G) (q : Nat) (K : AD) (S : AS) (C : SC) (hfn : S.x 13 + S.x 14 ≤ 12) (hPR : PR S.p) (hSV : SV S.p C.sv (S.x 13 + S.x 14)) : MtI l D G yX7_bestMove cX7_bestMove 1 .int 6 0 0 [.ref q] (OW G q K S C) (fun (r : Int32) (_ : Unit) => r = (bm (rV S.p (V S.p) (S.x 13) (S.x 14)) 4).1) (fun (_ : Unit) => OW G q K S C) :=
  (mX7_bestMove l D G q K.1 K.2.1 K.2.2.1 K.2.2.2.1 K.2.2.2.2.1 S.x S.y S.p C.sv hfn hPR hSV).lift0 [0, 1, 2, 3, 4, 5, 6, 12, 13, 14] rfl (by decide)
theorem o_margin (l : Launch) (D : va_G) (G : u_G) (q : Nat) (K : AD) (S : AS) (C : SC) (hfn : S.x 13 + S.x 14 ≤ 12) (hPR : PR S.p) (hSV : SV S.p C.sv (S.x 13 + S.x 14)) : MtI l D G yX7_margin cX7_margin 4 .int 7 0 0 [.ref q] (OW G q K S C) (fun (r : Int32) (_ : Unit) => r = mgA S.p (S.x 13) (S.x 14)) (fun (_ : Unit) => OW G q K S C) :=
  (mX7_margin l D G q K.1 K.2.1 K.2.2.1 K.2.2.2.1 K.2.2.2.2.1 S.x S.y S.p C.sv hfn hPR hSV).lift0 [0, 1, 2, 3, 4, 5, 6, 12, 13, 14] rfl (by decide)
theorem o_entries (l : Launch) (D : va_G) (G : u_G) (q : Nat) (K : AD) (S : AS) (C : SC) : MtI l D G yX7_entries cX7_entries 3 .int 2 0 0 [.ref q] (OW G q K S C) (fun (r : Int32) (_ : Unit) => r = nI (enN (kdY S.y) 144)) (fun (_ : Unit) => OW G q K S C) :=
  (mX7_entries l D G q K.1 K.2.1 K.2.2.1 K.2.2.2.1 K.2.2.2.2.1 S.x S.y S.p ).lift0 [0, 1, 2, 3, 4, 5, 6] rfl (by decide)
theorem o_savedStates (l : Launch) (D : va_G) (G : u_G) (q : Nat) (K : AD) (S : AS) (C : SC) : MtI l D G yX7_savedStates cX7_savedStates 1 .int 1 0 0 [.ref q] (OW G q K S C) (fun (r : Int32) (_ : Unit) => r = nI S.cg) (fun (_ : Unit) => OW G q K S C) :=
  (mX7_savedStates l D G q K.1 K.2.1 K.2.2.1 K.2.2.2.1 K.2.2.2.2.1 S.og S.cg K.2.2.2.2.2 ).lift0 [0, 7, 8] rfl (by decide)
theorem o_digest (l : Launch) (D : va_G) (G : u_G) (q : Nat) (K : AD) (S : AS) (C : SC) (hfn : S.x 13 + S.x 14 ≤ 12) (hPR : PR S.p) (hSV : SV S.p C.sv (S.x 13 + S.x 14)) (ho : S.x 18 < 24) : MtL l D G yX7_digest cX7_digest 4 8 0 0 [.ref q] (OW G q K S C) (fun (r : Int64) (_ : Unit) => r = dig S.p S.x S.y) (fun (_ : Unit) => OW G q K S C) :=
  (mX7_digest l D G q K.1 K.2.1 K.2.2.1 K.2.2.2.1 K.2.2.2.2.1 S.x S.y S.p C.sv hfn hPR hSV ho).lift0 [0, 1, 2, 3, 4, 5, 6, 12, 13, 14] rfl (by decide)
set_option maxRecDepth 20000 in
theorem o_clearText (l : Launch) (D : va_G) (G : u_G) (q : Nat) (K : AD) (S : AS) (C : SC) : MtI l D G yX7_clearText cX7_clearText 2 .int 1 0 0 [.ref q] (OW G q K S C) (fun (r : Int32) (_ : Unit) => r = nI C.L) (fun (_ : Unit) => OW G q K S (C.sv, 0, C.cnt, C.num, C.t, C.v, C.w, C.c)) :=
  (mX7_clearText l D G q K.1 K.2.1 K.2.2.1 K.2.2.2.1 K.2.2.2.2.1 C.L C.cnt C.num S.F C.t ).lift [0, 9, 10, 11] rfl (by decide) (fun _ => rfl) id (fun _ _ h => h) (fun _ _ _ => rfl)
set_option maxRecDepth 20000 in
theorem o_firstError (l : Launch) (D : va_G) (G : u_G) (q : Nat) (K : AD) (S : AS) (C : SC) (hL : C.L ≤ 60) (ht : ∀ k, k < C.L → C.t k < 128) : MtI l D G yX7_firstError cX7_firstError 1 .int 4 0 0 [.ref q] (OW G q K S C) (fun (r : Int32) (_ : Unit) => r = nI ((rdA C.t C.L S.F).1)) (fun (_ : Unit) => OW G q K (S.x, S.y, S.p, S.og, S.cg, S.xs, S.ys, S.ps, (rdA C.t C.L S.F).2.2.2) (C.sv, C.L, (rdA C.t C.L S.F).2.1, (rdA C.t C.L S.F).2.2.1, C.t, C.v, C.w, C.c)) :=
  (mX7_firstError l D G q K.1 K.2.1 K.2.2.1 K.2.2.2.1 K.2.2.2.2.1 C.L C.cnt C.num S.F C.t hL ht).lift [0, 9, 10, 11] rfl (by decide) (fun _ => rfl) id (fun _ _ h => h) (fun _ _ _ => rfl)
set_option maxRecDepth 20000 in
theorem o_bestOrder (l : Launch) (D : va_G) (G : u_G) (q : Nat) (K : AD) (S : AS) (C : SC) (hfn : S.x 13 + S.x 14 ≤ 12) (hlim : S.x 19 ≤ 5000) : MtI l D G yX7_bestOrder cX7_bestOrder 5 .int 31 0 0 [.ref q] (OW G q K S C) (fun (r : Int32) (u : (Nat → Nat) × (Nat → Int32) × (Nat → Nat → Int32)) => r = nI (boN S.p S.x 23).1) (fun (u : (Nat → Nat) × (Nat → Int32) × (Nat → Nat → Int32)) => OW G q K S (C.sv, C.L, C.cnt, C.num, C.t, u.1, u.2.1, u.2.2)) :=
  (mX7_bestOrder l D G q K.1 K.2.1 K.2.2.1 K.2.2.2.1 K.2.2.2.2.1 S.x S.y S.p C.v C.w C.c hfn hlim).lift [0, 1, 2, 3, 4, 5, 6, 15, 16, 17, 18, 19, 20] rfl (by decide) (fun _ => rfl) id (fun _ _ h => h) (fun _ _ _ => rfl)
set_option maxRecDepth 20000 in
theorem o_useTable (l : Launch) (D : va_G) (G : u_G) (q : Nat) (K : AD) (S : AS) (C : SC) (k : Nat) (hog : S.og < 6) (hcg : S.cg ≤ 6) : MtI l D G yX7_useTable cX7_useTable 3 .boolean 5 0 0 [.ref q, .int (bI (k = 0))] (OW G q K S C) (fun (r : Int32) (_ : Unit) => r = bI (S.x 20 = 0)) (fun (_ : Unit) => OW G q K (S.sav (va_up S.x 20 k) S.y S.p S.F) C) :=
  (mX7_useTable l D G q K.1 K.2.1 K.2.2.1 K.2.2.2.1 K.2.2.2.2.1 S.x S.y S.p S.og S.cg K.2.2.2.2.2 S.xs S.ys S.ps k hog hcg).lift ([0, 1, 2, 3, 4, 5, 6, 7, 8] ++ List.range' 21 36) (tail_get (pre := ([(q, .inr (7, [.ref (K.1 0), .ref (K.2.1 0), .ref (K.2.2.1 0), .ref (K.2.2.2.1 0), .ref (K.2.2.2.2.1 0)])), (K.1 0, .inr (6, [.ref (K.1 1), .ref (K.1 3), .int (nI (S.x 18)), .int (nI (S.x 19)), .int (bI (S.x 20 = 0))])), (K.1 1, .inr (2, [.ref (K.1 2), .int (nI (S.x 13)), .int (nI (S.x 14)), .int (nI (S.x 15)), .int (S.y 16), .int (S.y 17)])), (K.1 2, .inl (G.1, 12, .inl S.p)), (K.1 3, .inr (0, [.int (S.y 21), .int (nI (S.x 22)), .int (S.y 23), .int (S.y 24), .ref (K.1 4), .ref (K.1 5)])), (K.1 4, .inl (G.1, 144, .inl (kdY S.y))), (K.1 5, .inl (G.1, 144, .inl (vlY S.y))), (K.2.1 0, .inr (3, [.ref (K.2.1 1), .int (nI S.og), .int (nI S.cg)])), (K.2.1 1, .inl (G.2.1, 6, .inr (.inr (.inr (.inr (sqf K.2.2.2.2.2)))))), (K.2.2.1 0, .inr (4, [.ref (K.2.2.1 1), .int (nI C.L), .ref (K.2.2.1 2), .int (nI C.cnt), .int (nI C.num)])), (K.2.2.1 1, .inl (G.1, 60, .inl (tN C.t))), (K.2.2.1 2, .inl (G.1, 12, .inl S.F)), (K.2.2.2.1 0, .inr (1, [.ref (K.2.2.2.1 1), .ref (K.2.2.2.1 2)])), (K.2.2.2.1 1, .inl (G.1, 12, .inl S.p)), (K.2.2.2.1 2, .inl (G.1, 144, .inl C.sv)), (K.2.2.2.2.1 0, .inr (5, [.ref (K.2.2.2.2.1 1), .ref (K.2.2.2.2.1 4), .ref (K.2.2.2.2.1 5), .int (nI (C.v 0)), .int (nI (C.v 1)), .int (C.w 0), .int (C.w 1)])), (K.2.2.2.2.1 1, .inr (0, [.int (C.w 2), .int (nI (C.v 2)), .int (C.w 3), .int (C.w 4), .ref (K.2.2.2.2.1 2), .ref (K.2.2.2.2.1 3)])), (K.2.2.2.2.1 2, .inl (G.1, 144, .inl (C.c 0))), (K.2.2.2.2.1 3, .inl (G.1, 144, .inl (C.c 1))), (K.2.2.2.2.1 4, .inl (G.1, 12, .inl (C.c 2))), (K.2.2.2.2.1 5, .inl (G.1, 144, .inl (C.c 3)))] : va_W)) (w := ([(q, .inr (7, [.ref (K.1 0), .ref (K.2.1 0), .ref (K.2.2.1 0), .ref (K.2.2.2.1 0), .ref (K.2.2.2.2.1 0)])), (K.1 0, .inr (6, [.ref (K.1 1), .ref (K.1 3), .int (nI (S.x 18)), .int (nI (S.x 19)), .int (bI (S.x 20 = 0))])), (K.1 1, .inr (2, [.ref (K.1 2), .int (nI (S.x 13)), .int (nI (S.x 14)), .int (nI (S.x 15)), .int (S.y 16), .int (S.y 17)])), (K.1 2, .inl (G.1, 12, .inl S.p)), (K.1 3, .inr (0, [.int (S.y 21), .int (nI (S.x 22)), .int (S.y 23), .int (S.y 24), .ref (K.1 4), .ref (K.1 5)])), (K.1 4, .inl (G.1, 144, .inl (kdY S.y))), (K.1 5, .inl (G.1, 144, .inl (vlY S.y))), (K.2.1 0, .inr (3, [.ref (K.2.1 1), .int (nI S.og), .int (nI S.cg)])), (K.2.1 1, .inl (G.2.1, 6, .inr (.inr (.inr (.inr (sqf K.2.2.2.2.2))))))] : va_W)) (isP := [0, 1, 2, 3, 4, 5, 6, 7, 8]) rfl svw_len rfl) (by decide) (fun _ => rfl) id (fun _ _ h => h) (fun _ _ _ => tail_put (pre := ([(q, .inr (7, [.ref (K.1 0), .ref (K.2.1 0), .ref (K.2.2.1 0), .ref (K.2.2.2.1 0), .ref (K.2.2.2.2.1 0)])), (K.1 0, .inr (6, [.ref (K.1 1), .ref (K.1 3), .int (nI (S.x 18)), .int (nI (S.x 19)), .int (bI (S.x 20 = 0))])), (K.1 1, .inr (2, [.ref (K.1 2), .int (nI (S.x 13)), .int (nI (S.x 14)), .int (nI (S.x 15)), .int (S.y 16), .int (S.y 17)])), (K.1 2, .inl (G.1, 12, .inl S.p)), (K.1 3, .inr (0, [.int (S.y 21), .int (nI (S.x 22)), .int (S.y 23), .int (S.y 24), .ref (K.1 4), .ref (K.1 5)])), (K.1 4, .inl (G.1, 144, .inl (kdY S.y))), (K.1 5, .inl (G.1, 144, .inl (vlY S.y))), (K.2.1 0, .inr (3, [.ref (K.2.1 1), .int (nI S.og), .int (nI S.cg)])), (K.2.1 1, .inl (G.2.1, 6, .inr (.inr (.inr (.inr (sqf K.2.2.2.2.2)))))), (K.2.2.1 0, .inr (4, [.ref (K.2.2.1 1), .int (nI C.L), .ref (K.2.2.1 2), .int (nI C.cnt), .int (nI C.num)])), (K.2.2.1 1, .inl (G.1, 60, .inl (tN C.t))), (K.2.2.1 2, .inl (G.1, 12, .inl S.F)), (K.2.2.2.1 0, .inr (1, [.ref (K.2.2.2.1 1), .ref (K.2.2.2.1 2)])), (K.2.2.2.1 1, .inl (G.1, 12, .inl S.p)), (K.2.2.2.1 2, .inl (G.1, 144, .inl C.sv)), (K.2.2.2.2.1 0, .inr (5, [.ref (K.2.2.2.2.1 1), .ref (K.2.2.2.2.1 4), .ref (K.2.2.2.2.1 5), .int (nI (C.v 0)), .int (nI (C.v 1)), .int (C.w 0), .int (C.w 1)])), (K.2.2.2.2.1 1, .inr (0, [.int (C.w 2), .int (nI (C.v 2)), .int (C.w 3), .int (C.w 4), .ref (K.2.2.2.2.1 2), .ref (K.2.2.2.2.1 3)])), (K.2.2.2.2.1 2, .inl (G.1, 144, .inl (C.c 0))), (K.2.2.2.2.1 3, .inl (G.1, 144, .inl (C.c 1))), (K.2.2.2.2.1 4, .inl (G.1, 12, .inl (C.c 2))), (K.2.2.2.2.1 5, .inl (G.1, 144, .inl (C.c 3)))] : va_W)) rfl svw_len svw_len rfl (by decide) rfl)
/-- the share of hits, as a number -/
def hsV (n : Nat) (h : Int32) : UInt64 := if n = 0 then FP.dconst0 else FP.ddiv (FP.i2d h) (FP.i2d (nI n))
theorem hs_num {n : Nat} {h : Int32} (h1 : 0 < n) (h2 : n < 2 ^ 31) : FP.Core.dIsNaN (FP.ddiv (FP.i2d h) (FP.i2d (nI n))) = false := by
  refine FP.Core.ddiv_out (FP.Core.i2d_fin h).notNaN (FP.Core.i2d_fin _) (fun hz => FP.Core.i2d_ne_zero (v := nI n) ?_ ((FP.Core.zero_bits2 _).mp hz))
  intro h0
  have e : (nI n).toInt = (n : Int) := nI_toInt h2
  rw [h0] at e
  have e2 : (0 : Int32).toInt = 0 := rfl
  omega
theorem num_ok {r : UInt64} (h : FP.Core.dIsNaN r = false) : vf_n64 r := by
  have h1 : ¬ 9218868437227405312 < r.toNat % 2 ^ 63 := fun h2 => by
    rw [(FP.Core.isNaN_bits r).mpr h2] at h
    cases h
  unfold vf_n64
  rw [UInt64.le_iff_toNat_le, UInt64.toNat_and]
  have h2 : r.toNat &&& 0x7fffffffffffffff = r.toNat % 2 ^ 63 := Nat.and_two_pow_sub_one_eq_mod r.toNat 63
  show r.toNat &&& 0x7fffffffffffffff ≤ 9218868437227405312
  rw [h2]
  omega
theorem hs_self {n : Nat} {h : Int32} (h2 : n < 2 ^ 31) : Op.cmpValue (FP.dcmp (hsV n h) (hsV n h)) CmpOp.l = 0 := by
  have h3 : FP.Core.dIsNaN (hsV n h) = false := by
    unfold hsV
    by_cases c : n = 0
    · rw [if_pos c]; decide +kernel
    · rw [if_neg c]; exact hs_num (by omega) h2
  have h4 : FP.dcmp (hsV n h) (hsV n h) = some Ordering.eq := FP.Core.dcmp_refl h3
  rw [h4]
  rfl
set_option maxHeartbeats 800000 in
set_option maxRecDepth 100000 in
theorem fX7_hitShare (l : Launch) (D : va_G) (G : u_G) (q : Nat) (sa ha ta fa ea : Nat → Nat) (x : Nat → Nat) (y p : Nat → Int32)  (hn : x 22 < 2 ^ 31) : MtF l D G yX7_hitShare cX7_hitShare 2 1 [.ref q] [(q, .inr (7, [.ref (sa 0), .ref (ha 0), .ref (ta 0), .ref (fa 0), .ref (ea 0)])), (sa 0, .inr (6, [.ref (sa 1), .ref (sa 3), .int (nI (x 18)), .int (nI (x 19)), .int (bI (x 20 = 0))])), (sa 1, .inr (2, [.ref (sa 2), .int (nI (x 13)), .int (nI (x 14)), .int (nI (x 15)), .int (y 16), .int (y 17)])), (sa 2, .inl (G.1, 12, .inl p)), (sa 3, .inr (0, [.int (y 21), .int (nI (x 22)), .int (y 23), .int (y 24), .ref (sa 4), .ref (sa 5)])), (sa 4, .inl (G.1, 144, .inl (kdY y))), (sa 5, .inl (G.1, 144, .inl (vlY y)))] (fun r => r = hsV (x 22) (y 24)) := by
  refine MtF.of (by decide) (Nat.le_of_ble_eq_true rfl) ?_
  intro pr e s9 m9 below meth c9 A ls C hP hD hl
  obtain ⟨hx, hb, hml, hown, hts, hr, hlocks, hA, hAm⟩ := id C
  have hK := hAm.1
  have hS : va_S A s9.heap s9.heap [] := va_S.rf
  have hl : lv_has ls 2 [(0, .ref q)] := hl
  refine lv_aload_n hx hb dX7_hitShare_0 rfl (lv_at hl 0 rfl) ?_
  refine va_get (D := D) (ci := 7) (v := .ref (sa 0)) (C := RX7) (T := TX7) (N := 5) hx hb hts inlX7 hown hK hP 0 rfl rfl 0 (by decide) (hts _ kw_1_13) (fun _ h9 => h9) rfl dX7_hitShare_1 ?_
  refine va_get (D := D) (ci := 6) (v := .ref (sa 3)) (C := RX6) (T := TX6) (N := 5) hx hb hts inlX6 hown hK hP 1 rfl rfl 1 (by decide) (hts _ kw_9_0) (fun _ h9 => h9) rfl dX7_hitShare_4 ?_
  refine va_get (D := D) (ci := 0) (v := .int (nI (x 22))) (C := RX0) (T := TX0) (N := 6) hx hb hts inlX0 hown hK hP 4 rfl rfl 1 (by decide) (hts _ kw_9_6) (fun _ h9 => h9) rfl dX7_hitShare_7 ?_
  refine lv_istore_n (lv' := [(1, .int (nI (x 22))), (0, .ref q)]) hx hb dX7_hitShare_10 rfl hl (by decide) rfl (fun ls hl => ?_)
  refine lv_iload_n hx hb dX7_hitShare_11 rfl (lv_at hl 0 rfl) ?_
  refine lv_if_le (tgt := 32) hx hb dX7_hitShare_12 (by decide) (fun c_12 => ?_) (fun c_12 => ?_)
  · have c_12 := nle_t (a := x 22) (b := 0) (by omega) (by omega) c_12
    refine lv_dconst0 hx hb dX7_hitShare_32 ?_
    exact endD C (by unfold hsV; rw [if_pos (by omega)]) hS hP dX7_hitShare_33
  · have c_12 := nle_f (a := x 22) (b := 0) (by omega) (by omega) c_12
    refine lv_aload_n hx hb dX7_hitShare_15 rfl (lv_at hl 1 rfl) ?_
    refine va_get (D := D) (ci := 7) (v := .ref (sa 0)) (C := RX7) (T := TX7) (N := 5) hx hb hts inlX7 hown hK hP 0 rfl rfl 0 (by decide) (hts _ kw_1_13) (fun _ h9 => h9) rfl dX7_hitShare_16 ?_
    refine va_get (D := D) (ci := 6) (v := .ref (sa 3)) (C := RX6) (T := TX6) (N := 5) hx hb hts inlX6 hown hK hP 1 rfl rfl 1 (by decide) (hts _ kw_9_0) (fun _ h9 => h9) rfl dX7_hitShare_19 ?_
    refine va_get (D := D) (ci := 0) (v := .int (y 24)) (C := RX0) (T := TX0) (N := 6) hx hb hts inlX0 hown hK hP 4 rfl rfl 3 (by decide) (hts _ kw_9_7) (fun _ h9 => h9) rfl dX7_hitShare_22 ?_
    refine lv_i2d hx hb dX7_hitShare_25 ?_
    refine lv_iload_n hx hb dX7_hitShare_26 rfl (lv_at hl 0 rfl) ?_
    refine lv_i2d hx hb dX7_hitShare_27 ?_
    refine lv_ddiv hx hb dX7_hitShare_28 (num_ok (hs_num (by omega) hn)) ?_
    refine lv_goto (tgt := 33) hx hb dX7_hitShare_29 (by decide) ?_
    exact endD C (by unfold hsV; rw [if_neg (by omega)]) hS hP dX7_hitShare_33
theorem o_hitShare (l : Launch) (D : va_G) (G : u_G) (q : Nat) (K : AD) (S : AS) (C : SC) (hn : S.x 22 < 2 ^ 31) : MtF l D G yX7_hitShare cX7_hitShare 2 1 [.ref q] (OW G q K S C) (fun r => r = hsV (S.x 22) (S.y 24)) :=
  (fX7_hitShare l D G q K.1 K.2.1 K.2.2.1 K.2.2.2.1 K.2.2.2.2.1 S.x S.y S.p hn).lift0 [0, 1, 2, 3, 4, 5, 6] rfl (by decide)
