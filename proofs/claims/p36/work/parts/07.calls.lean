/-! the call rows over my contracts -/
theorem wput_all {Pq : Nat × va_E → Prop} : ∀ (is : List Nat) (w ws : va_W), is.length = w.length → (∀ q ∈ w, Pq q) → (∀ (k : Nat) (q : Nat × va_E), k ∉ is → ws[k]? = some q → Pq q) → ∀ (k : Nat) (q : Nat × va_E), (wput ws is w)[k]? = some q → Pq q
  | [], [], _, _, _, h2, k, q, hq => h2 k q List.not_mem_nil hq
  | i :: is, e :: w, ws, hl, h1, h2, k, q, hq => by
    refine wput_all is w (ws.set i e) (Nat.succ.inj hl) (fun q hq => h1 q (List.mem_cons_of_mem _ hq)) (fun k q hk hq => ?_) k q hq
    by_cases hi : i = k
    · subst hi
      rw [List.getElem?_set] at hq
      simp only [if_true] at hq
      split at hq
      · cases hq; exact h1 _ List.mem_cons_self
      · cases hq
    · rw [List.getElem?_set_ne hi] at hq
      exact h2 k q (fun h => (List.mem_cons.mp h).elim (fun e => hi e.symm) hk) hq
  | [], _ :: _, _, hl, _, _, _, _, _ => absurd hl (by simp)
  | _ :: _, [], _, hl, _, _, _, _, _ => absurd hl (by simp)
theorem wput_fst : ∀ (is : List Nat) (w ws : va_W), is.map (fun i => (ws[i]?).map Prod.fst) = w.map (fun q => some q.1) → (wput ws is w).map Prod.fst = ws.map Prod.fst
  | [], [], _, _ => rfl
  | [], _ :: _, _, _ => rfl
  | _ :: _, [], _, _ => rfl
  | i :: is, e :: w, ws, h => by
    simp only [List.map_cons, List.cons.injEq] at h
    have hset : (ws.set i e).map Prod.fst = ws.map Prod.fst := by
      apply List.ext_getElem?
      intro k
      by_cases hi : i = k
      · subst hi
        rw [List.getElem?_map, List.getElem?_map, h.1]
        rw [List.getElem?_set]
        simp only [if_true]
        cases hx : ws[i]? with
        | none => rw [hx] at h; exact absurd h.1 (by simp)
        | some z =>
          have hlt : i < ws.length := (List.getElem?_eq_some_iff.mp hx).1
          simp [hlt]
      · rw [List.getElem?_map, List.getElem?_map, List.getElem?_set_ne hi]
    have hg : ∀ j : Nat, ((ws.set i e)[j]?).map Prod.fst = (ws[j]?).map Prod.fst := fun j => by
      rw [← List.getElem?_map, ← List.getElem?_map, hset]
    show (wput (ws.set i e) is w).map Prod.fst = _
    rw [wput_fst is w (ws.set i e) (by rw [← h.2]; exact List.map_congr_left fun j _ => hg j), hset]
theorem wput_self : ∀ (is : List Nat) (w ws : va_W), is.map (fun i => ws[i]?) = w.map some → wput ws is w = ws
  | [], [], _, _ => rfl
  | [], _ :: _, _, _ => rfl
  | _ :: _, [], _, _ => rfl
  | i :: is, e :: w, ws, h => by
    simp only [List.map_cons, List.cons.injEq] at h
    have hset : ws.set i e = ws := by
      obtain ⟨hlt, he⟩ := List.getElem?_eq_some_iff.mp h.1
      rw [← he]; exact List.set_getElem_self hlt
    show wput (ws.set i e) is w = ws
    rw [hset]
    exact wput_self is w ws h.2
theorem va_D.fst {A : Nat → Prop} {ws ws' : va_W} (h : va_D A ws) (e : ws'.map Prod.fst = ws.map Prod.fst) : va_D A ws' := by
  have g : ∀ (k : Nat) (q : Nat × va_E), ws'[k]? = some q → ∃ z, ws[k]? = some z ∧ z.1 = q.1 := fun k q hq => by
    have h1 : (ws'.map Prod.fst)[k]? = some q.1 := by rw [List.getElem?_map, hq]; rfl
    rw [e, List.getElem?_map] at h1
    cases hz : ws[k]? with
    | none => rw [hz] at h1; cases h1
    | some z => rw [hz] at h1; exact ⟨z, rfl, Option.some.inj h1⟩
  refine ⟨fun i j p q hi hj hpq => ?_, fun k q hk => ?_⟩
  · obtain ⟨z1, e1, e2⟩ := g i p hi
    obtain ⟨z2, e3, e4⟩ := g j q hj
    exact h.1 i j z1 z2 e1 e3 (by rw [e2, e4, hpq])
  · obtain ⟨z1, e1, e2⟩ := g k q hk
    rw [← e2]; exact h.2 k z1 e1
theorem wjoin {A : Nat → Prop} {D : va_G} {ws w w1 : va_W} {H H1 : Heap} (hP : va_P D vwCl ws H) (hD : va_D A ws) (isC : List Nat) (hC : isC.map (fun i => ws[i]?) = w.map some) (hsm : w1.map Prod.fst = w.map Prod.fst)
    (hk : ∀ q : Nat, q < H.size → ¬ va_A w H.size q → H1[q]? = H[q]?) (hP1 : va_P D vwCl w1 H1) : va_P D vwCl (wput ws isC w1) H1 ∧ va_D A (wput ws isC w1) := by
  have hlen : isC.length = w1.length := by
    have h1 := congrArg List.length hC
    have h2 := congrArg List.length hsm
    simp only [List.length_map] at h1 h2
    omega
  have hfst : isC.map (fun i => (ws[i]?).map Prod.fst) = w1.map (fun q => some q.1) := by
    have h1 : isC.map (fun i => (ws[i]?).map Prod.fst) = (isC.map (fun i => ws[i]?)).map (Option.map Prod.fst) := by rw [List.map_map]; rfl
    rw [h1, hC, List.map_map]
    have h2 : w1.map (fun q => some q.1) = (w1.map Prod.fst).map some := by rw [List.map_map]; rfl
    rw [h2, hsm, List.map_map]
    rfl
  have hin : ∀ (k : Nat) (q : Nat × va_E), w[k]? = some q → ∃ i, i ∈ isC ∧ ws[i]? = some q := fun k q hq => by
    have h1 : (isC.map (fun i => ws[i]?))[k]? = some (some q) := by rw [hC, List.getElem?_map, hq]; rfl
    rw [List.getElem?_map] at h1
    cases hi : isC[k]? with
    | none => rw [hi] at h1; cases h1
    | some i => rw [hi] at h1; exact ⟨i, List.mem_of_getElem? hi, Option.some.inj h1⟩
  refine ⟨fun k q hq => ?_, hD.fst (wput_fst isC w1 ws hfst)⟩
  refine wput_all (Pq := fun q => va_at D vwCl q H1) isC w1 ws hlen (fun q hq => ?_) (fun k q hk9 hq => ?_) k q hq
  · obtain ⟨j, hj⟩ := List.getElem?_of_mem hq
    exact hP1 j q hj
  · have hl := (hP k q hq).lt
    refine (hP k q hq).kept (hk q.1 hl (fun h => ?_))
    rcases h with ⟨k2, e, h⟩ | h
    · obtain ⟨i, h3, h4⟩ := hin k2 (q.1, e) h
      have hij := hD.1 k i q (q.1, e) hq h4 rfl
      subst hij
      exact hk9 h3
    · omega
theorem gw_in {y : MethodName} {b : ByteArray} {nL : Nat} {ret : Option FieldType} (hc : Cond.code y b nL ret ∈ wsL_law) : GoodIn wsL_law (wsG y b nL ret) := fun w hw => (List.mem_cons.mp hw).elim (fun e => by rw [e]; exact ⟨hc, good_of_word (List.all_eq_true.mp kw_good _ hc)⟩) (fun h => ⟨h, good_of_word (List.all_eq_true.mp kw_good _ h)⟩)
/-- what is fixed of a callee: its words, its class's name, its parameters -/
def YS (y : MethodName) (b : ByteArray) (nL : Nat) (ret : Option FieldType) (n : Nat) : Prop := Cond.code y b nL ret ∈ wsL_law ∧ Cond.initialized y.cls ∈ wsL_law ∧ (y.cls ≠ "java/lang/invoke/MethodHandle" ∧ y.cls ≠ "java/lang/invoke/VarHandle" ∧ (parseMethodDescriptor y.desc).map (fun d => d.parameters.length) = some n)
section CALLS
variable {pr : Program} {l : Launch} {e : Env} {R : Room} {s : State} {m : MethodId} {args : Array Value} {below : List Frame} {meth : Method} {c : Code} {H : Heap} {locs : List Loc} {cells slots : Nat} {QQ : State → Prop}
variable {cc : ByteArray} {nL0 : Nat} {own : String} {rt0 : Option FieldType} {A : Nat → Prop} {D : va_G} {G : u_G}
variable {y : MethodName} {b : ByteArray} {nL n index h mc ms : Nat} {ret : Option FieldType} {As rest st0 : List Value} {w ws : va_W} {Q : Nat → Array Value → State → Outcome → State → Prop} {pc : Nat} {ls : Array Slot}
theorem pcG_ok (C : Cx pr m s args meth c cc nL0 own rt0 A D G) (hS : va_S A s.heap H locs) (hP : va_P D vwCl ws H) (hD : va_D A ws) (isC : List Nat) (hC : isC.map (fun i => ws[i]?) = w.map some) (hn : va_nd isC = true) (av : List Value) : ∀ U : State, U.heap = H → s.WarmedH U.vm → PcG D G av w H.size av.toArray U := by
  intro U hU hW
  obtain ⟨-, -, -, -, -, -, -, hA, hAm⟩ := C
  have hF := va_free hD hS hA isC hC
  have hPc : va_P D vwCl w H := hP.sub isC (by
    have h1 : isC.filterMap (fun i => ws[i]?) = (isC.map (fun i => ws[i]?)).filterMap id := by rw [List.filterMap_map]; rfl
    rw [h1, hC, List.filterMap_map]
    show List.filterMap (id ∘ some) w = w
    exact List.filterMap_some)
  have hDc := (hD.sub isC hn hC).weaken (B := fun _ => True) (fun _ _ _ _ => trivial)
  refine ⟨rfl, by rw [hU], by rw [hU]; exact hPc, hDc, ?_⟩
  exact Amb.call hAm hS hF hU hW
theorem cx_fix (C : Cx pr m s args meth c cc nL0 own rt0 A D G) : CallFix pr m c cc nL0 s args wsL_law own := ⟨C.1, C.2.1, C.2.2.1, C.2.2.2.1, C.2.2.2.2.1⟩
theorem cb_of (C : Cx pr m s args meth c cc nL0 own rt0 A D G) (Y : YS y b nL ret n) (kl : Cond.methodLink own index y ∈ wsL_law) (hrm : h + 1 ≤ R.frames ∧ 8 + (nL + 11) + 40 * h ≤ R.locals) : CallB R s args own index y b nL ret (wsG y b nL ret) (rmG h mc ms) mc ms n := by
  have hts := C.2.2.2.2.1
  exact callB_of n hts (gw_in Y.1) rfl rfl rfl (hts _ Y.2.1) (hts _ kl) Y.2.2 hrm
theorem runS_G (C : Cx pr m s args meth c cc nL0 own rt0 A D G) (hM : ∀ sz, Met l y (wsG y b nL ret) (rmG h mc ms) (PcG D G As w sz) (Q sz) mc ms (va_A w sz)) (hS : va_S A s.heap H locs) (hP : va_P D vwCl ws H) (hD : va_D A ws) (isC : List Nat) (hC : isC.map (fun i => ws[i]?) = w.map some) (hn : va_nd isC = true)
    (Y : YS y b nL ret n) (kl : Cond.methodLink own index y ∈ wsL_law) (ks : Cond.static y ∈ wsL_law) (hrm : h + 1 ≤ R.frames ∧ 8 + (nL + 11) + 40 * h ≤ R.locals) (hl : ls.size = nL0) (hst : (rest.map fun v => v.category).sum ≤ 8) (hdg : decode cc pc = .ok (.invokestatic index, 3)) (hlen : As.length = n) (hstk : st0 = As.reverse ++ rest) (hf : cells + mc ≤ R.cells ∧ slots + ms ≤ R.slots) :
    va_Run pr l e R s m args below meth c H locs cells slots mc ms (F0 m pc ls st0) rest (Q H.size As.toArray) (va_A w H.size) :=
  va_runS (cx_fix C) (hM H.size) ⟨cb_of C Y kl hrm, C.2.2.2.2.1 _ ks⟩ ⟨PcG_blind, pcG_ok C hS hP hD isC hC hn As⟩ rfl hlen hl hstk (lv_room hst) hdg hf
theorem runV_G {bq q0 ci N : Nat} {T : u_T} {fs : List Value} (C : Cx pr m s args meth c cc nL0 own rt0 A D G) (hM : ∀ sz, Met l y (wsG y b nL ret) (rmG h mc ms) (PcG D G (.ref bq :: As) w sz) (Q sz) mc ms (va_A w sz)) (hS : va_S A s.heap H locs) (hP : va_P D vwCl ws H) (hD : va_D A ws) (isC : List Nat) (hC : isC.map (fun i => ws[i]?) = w.map some) (hn : va_nd isC = true)
    (he : ws[q0]? = some (bq, .inr (ci, fs))) (hci : vwCl[ci]? = some (y.cls, T, N)) (Y : YS y b nL ret n) (kl : Cond.methodLink own index y ∈ wsL_law) (ki : Cond.instanceMethod y ∈ wsL_law) (ks : Cond.selects y.cls y y ∈ wsL_law) (hrm : h + 1 ≤ R.frames ∧ 8 + (nL + 11) + 40 * h ≤ R.locals) (hl : ls.size = nL0) (hst : (rest.map fun v => v.category).sum ≤ 8) (hdg : decode cc pc = .ok (.invokevirtual index, 3)) (hlen : As.length = n) (hstk : st0 = As.reverse ++ .ref bq :: rest) (hf : cells + mc ≤ R.cells ∧ slots + ms ≤ R.slots) :
    va_Run pr l e R s m args below meth c H locs cells slots mc ms (F0 m pc ls st0) rest (Q H.size (.ref bq :: As).toArray) (va_A w H.size) :=
  va_runV (cx_fix C) (hM H.size) ⟨cb_of C Y kl hrm, C.2.2.2.2.1 _ ki, C.2.2.2.2.1 _ ks⟩ ⟨PcG_blind, va_recv C.2.2.2.2.2.2.2.2.1 hP hci he, pcG_ok C hS hP hD isC hC hn (.ref bq :: As)⟩ rfl hlen hl hstk (lv_room hst) hdg hf
theorem runSN_G {host : String} (C : Cx pr m s args meth c cc nL0 own rt0 A D G) (hM : ∀ sz, Met l y (wsG y b nL ret) (rmG h mc ms) (PcG D G As w sz) (Q sz) mc ms (va_A w sz)) (hS : va_S A s.heap H locs) (hP : va_P D vwCl ws H) (hD : va_D A ws) (isC : List Nat) (hC : isC.map (fun i => ws[i]?) = w.map some) (hn : va_nd isC = true)
    (Y : YS y b nL ret n) (kl : Cond.methodLinkNest own index y host ∈ nwl) (ks : Cond.static y ∈ wsL_law) (hrm : h + 1 ≤ R.frames ∧ 8 + (nL + 11) + 40 * h ≤ R.locals) (hl : ls.size = nL0) (hst : (rest.map fun v => v.category).sum ≤ 8) (hdg : decode cc pc = .ok (.invokestatic index, 3)) (hlen : As.length = n) (hstk : st0 = As.reverse ++ rest) (hf : cells + mc ≤ R.cells ∧ slots + ms ≤ R.slots) :
    va_Run pr l e R s m args below meth c H locs cells slots mc ms (F0 m pc ls st0) rest (Q H.size As.toArray) (va_A w H.size) :=
  va_runSN (cx_fix C) (hM H.size) ⟨va_cnB n C.2.2.2.2.1 (gw_in Y.1) rfl rfl rfl (C.2.2.2.2.2.2.2.2.2.1 _ kl) (C.2.2.2.2.1 _ Y.2.1) Y.2.2 hrm, C.2.2.2.2.1 _ ks, trivial⟩ ⟨PcG_blind, pcG_ok C hS hP hD isC hC hn As⟩ rfl hlen hl hstk (lv_room hst) hdg hf
theorem runI_G {bq : Nat} (C : Cx pr m s args meth c cc nL0 own rt0 A D G) (hM : ∀ sz, Met l y (wsG y b nL none) (rmG h mc ms) (PcG D G (.ref bq :: As) w sz) (Q sz) mc ms (va_A w sz)) (hS : va_S A s.heap H locs) (hP : va_P D vwCl ws H) (hD : va_D A ws) (isC : List Nat) (hC : isC.map (fun i => ws[i]?) = w.map some) (hn : va_nd isC = true)
    (hy : y.name = "<init>") (Y : YS y b nL none n) (kl : Cond.methodLink own index y ∈ wsL_law) (ki : Cond.instanceMethod y ∈ wsL_law) (hrm : h + 1 ≤ R.frames ∧ 8 + (nL + 11) + 40 * h ≤ R.locals) (hl : ls.size = nL0) (hst : (rest.map fun v => v.category).sum ≤ 8) (hdg : decode cc pc = .ok (.invokespecial index, 3)) (hlen : As.length = n) (hstk : st0 = As.reverse ++ .ref bq :: rest) (hf : cells + mc ≤ R.cells ∧ slots + ms ≤ R.slots) :
    va_Run pr l e R s m args below meth c H locs cells slots mc ms (F0 m pc ls st0) rest (Q H.size (.ref bq :: As).toArray) (va_A w H.size) :=
  va_runI (cx_fix C) (hM H.size) ⟨cb_of C Y kl hrm, hy, C.2.2.2.2.1 _ ki⟩ ⟨PcG_blind, pcG_ok C hS hP hD isC hC hn (.ref bq :: As)⟩ rfl hlen hl hstk (lv_room hst) hdg hf
theorem runIN_G {bq : Nat} {host : String} (C : Cx pr m s args meth c cc nL0 own rt0 A D G) (hM : ∀ sz, Met l y (wsG y b nL none) (rmG h mc ms) (PcG D G (.ref bq :: As) w sz) (Q sz) mc ms (va_A w sz)) (hS : va_S A s.heap H locs) (hP : va_P D vwCl ws H) (hD : va_D A ws) (isC : List Nat) (hC : isC.map (fun i => ws[i]?) = w.map some) (hn : va_nd isC = true)
    (hy : y.name = "<init>") (Y : YS y b nL none n) (kl : Cond.methodLinkNest own index y host ∈ nwl) (ki : Cond.instanceMethod y ∈ wsL_law) (hrm : h + 1 ≤ R.frames ∧ 8 + (nL + 11) + 40 * h ≤ R.locals) (hl : ls.size = nL0) (hst : (rest.map fun v => v.category).sum ≤ 8) (hdg : decode cc pc = .ok (.invokespecial index, 3)) (hlen : As.length = n) (hstk : st0 = As.reverse ++ .ref bq :: rest) (hf : cells + mc ≤ R.cells ∧ slots + ms ≤ R.slots) :
    va_Run pr l e R s m args below meth c H locs cells slots mc ms (F0 m pc ls st0) rest (Q H.size (.ref bq :: As).toArray) (va_A w H.size) :=
  va_runIN (cx_fix C) (hM H.size) ⟨va_cnB n C.2.2.2.2.1 (gw_in Y.1) rfl rfl rfl (C.2.2.2.2.2.2.2.2.2.1 _ kl) (C.2.2.2.2.1 _ Y.2.1) Y.2.2 hrm, hy, C.2.2.2.2.1 _ ki⟩ ⟨PcG_blind, pcG_ok C hS hP hD isC hC hn (.ref bq :: As)⟩ rfl hlen hl hstk (lv_room hst) hdg hf
variable {S : Type} {a : Array Value}
theorem aftI {p' : Int32 → S → Prop} {w' : S → va_W} (C : Cx pr m s args meth c cc nL0 own rt0 A D G) (hr : va_Run pr l e R s m args below meth c H locs cells slots 0 0 (F0 m pc ls st0) rest (va_Qi p' (fun u t => WB D (w' u) t) (va_A w H.size) a) (va_A w H.size)) (hS : va_S A s.heap H locs) (hP : va_P D vwCl ws H) (hD : va_D A ws) (isC : List Nat) (hC : isC.map (fun i => ws[i]?) = w.map some) (hsm : ∀ u, (w' u).map Prod.fst = w.map Prod.fst)
    (kk : ∀ (r : Int32) (u : S) (H1 : Heap) (locs1 : List Loc), p' r u → va_P D vwCl (wput ws isC (w' u)) H1 → va_D A (wput ws isC (w' u)) → va_S A s.heap H1 locs1 → W pr l e R s m args below meth c H1 locs1 cells slots QQ (F0 m (pc + 3) ls (.int r :: rest))) : W pr l e R s m args below meth c H locs cells slots QQ (F0 m pc ls st0) := by
  have hF := va_free hD hS C.2.2.2.2.2.2.2.1 isC hC
  refine va_calli hr hS (fun q _ h => hF q h) hF (fun r u t H1 locs1 ht hvm hw hB hz hk hS1 => ?_)
  have hB' : va_P D vwCl (w' u) H1 := ht ▸ hB
  obtain ⟨hP1, hD1⟩ := wjoin hP hD isC hC (hsm u) hk hB'
  exact kk r u H1 locs1 hw hP1 hD1 hS1
theorem aftL {p' : Int64 → S → Prop} {w' : S → va_W} (C : Cx pr m s args meth c cc nL0 own rt0 A D G) (hr : va_Run pr l e R s m args below meth c H locs cells slots 0 0 (F0 m pc ls st0) rest (va_Ql p' (fun u t => WB D (w' u) t) (va_A w H.size) a) (va_A w H.size)) (hS : va_S A s.heap H locs) (hP : va_P D vwCl ws H) (hD : va_D A ws) (isC : List Nat) (hC : isC.map (fun i => ws[i]?) = w.map some) (hsm : ∀ u, (w' u).map Prod.fst = w.map Prod.fst)
    (kk : ∀ (r : Int64) (u : S) (H1 : Heap) (locs1 : List Loc), p' r u → va_P D vwCl (wput ws isC (w' u)) H1 → va_D A (wput ws isC (w' u)) → va_S A s.heap H1 locs1 → W pr l e R s m args below meth c H1 locs1 cells slots QQ (F0 m (pc + 3) ls (.long r :: rest))) : W pr l e R s m args below meth c H locs cells slots QQ (F0 m pc ls st0) := by
  have hF := va_free hD hS C.2.2.2.2.2.2.2.1 isC hC
  refine va_calll hr hS (fun q _ h => hF q h) hF (fun r u t H1 locs1 ht hvm hw hB hz hk hS1 => ?_)
  have hB' : va_P D vwCl (w' u) H1 := ht ▸ hB
  obtain ⟨hP1, hD1⟩ := wjoin hP hD isC hC (hsm u) hk hB'
  exact kk r u H1 locs1 hw hP1 hD1 hS1
theorem aftV {p' : S → Prop} {w' : S → va_W} (C : Cx pr m s args meth c cc nL0 own rt0 A D G) (hr : va_Run pr l e R s m args below meth c H locs cells slots 0 0 (F0 m pc ls st0) rest (va_Qv p' (fun u t => WB D (w' u) t ∧ va_D (va_A w H.size) (w' u)) (va_A w H.size) a) (va_A w H.size)) (hS : va_S A s.heap H locs) (hP : va_P D vwCl ws H) (hD : va_D A ws) (isC : List Nat) (hC : isC.map (fun i => ws[i]?) = w.map some) (hsm : ∀ u, (w' u).map Prod.fst = w.map Prod.fst)
    (kk : ∀ (u : S) (H1 : Heap) (locs1 : List Loc), p' u → va_P D vwCl (wput ws isC (w' u)) H1 → va_D A (wput ws isC (w' u)) → va_S A s.heap H1 locs1 → W pr l e R s m args below meth c H1 locs1 cells slots QQ (F0 m (pc + 3) ls rest)) : W pr l e R s m args below meth c H locs cells slots QQ (F0 m pc ls st0) := by
  have hF := va_free hD hS C.2.2.2.2.2.2.2.1 isC hC
  refine va_callv hr hS (fun q _ h => hF q h) hF (fun u t H1 locs1 ht hvm hw hB hz hk hS1 => ?_)
  have hB' : va_P D vwCl (w' u) H1 := ht ▸ hB.1
  obtain ⟨hP1, hD1⟩ := wjoin hP hD isC hC (hsm u) hk hB'
  exact kk u H1 locs1 hw hP1 hD1 hS1
theorem aftI0 {p' : Int32 → S → Prop} (C : Cx pr m s args meth c cc nL0 own rt0 A D G) (hr : va_Run pr l e R s m args below meth c H locs cells slots 0 0 (F0 m pc ls st0) rest (va_Qi p' (fun _ t => WB D w t) (va_A w H.size) a) (va_A w H.size)) (hS : va_S A s.heap H locs) (hP : va_P D vwCl ws H) (hD : va_D A ws) (isC : List Nat) (hC : isC.map (fun i => ws[i]?) = w.map some)
    (kk : ∀ (r : Int32) (u : S) (H1 : Heap) (locs1 : List Loc), p' r u → va_P D vwCl ws H1 → va_S A s.heap H1 locs1 → W pr l e R s m args below meth c H1 locs1 cells slots QQ (F0 m (pc + 3) ls (.int r :: rest))) : W pr l e R s m args below meth c H locs cells slots QQ (F0 m pc ls st0) :=
  aftI (w' := fun _ => w) C hr hS hP hD isC hC (fun _ => rfl) (fun r u H1 locs1 h1 h2 _ h4 => kk r u H1 locs1 h1 (wput_self isC w ws hC ▸ h2) h4)
theorem aftL0 {p' : Int64 → S → Prop} (C : Cx pr m s args meth c cc nL0 own rt0 A D G) (hr : va_Run pr l e R s m args below meth c H locs cells slots 0 0 (F0 m pc ls st0) rest (va_Ql p' (fun _ t => WB D w t) (va_A w H.size) a) (va_A w H.size)) (hS : va_S A s.heap H locs) (hP : va_P D vwCl ws H) (hD : va_D A ws) (isC : List Nat) (hC : isC.map (fun i => ws[i]?) = w.map some)
    (kk : ∀ (r : Int64) (u : S) (H1 : Heap) (locs1 : List Loc), p' r u → va_P D vwCl ws H1 → va_S A s.heap H1 locs1 → W pr l e R s m args below meth c H1 locs1 cells slots QQ (F0 m (pc + 3) ls (.long r :: rest))) : W pr l e R s m args below meth c H locs cells slots QQ (F0 m pc ls st0) :=
  aftL (w' := fun _ => w) C hr hS hP hD isC hC (fun _ => rfl) (fun r u H1 locs1 h1 h2 _ h4 => kk r u H1 locs1 h1 (wput_self isC w ws hC ▸ h2) h4)
/-- behind a constructor: the rest's cells, then all that it has made -/
theorem aftV0 {p' : S → Prop} {w' : S → va_W} {wr : va_W} (C : Cx pr m s args meth c cc nL0 own rt0 A D G) (hr : va_Run pr l e R s m args below meth c H locs cells slots mc ms (F0 m pc ls st0) rest (va_Qv p' (fun u t => WB D (w' u) t ∧ va_D (va_A w H.size) (w' u)) (va_A w H.size) a) (va_A w H.size)) (hS : va_S A s.heap H locs) (hP : va_P D vwCl ws H) (hD : va_D A ws) (isC isR : List Nat) (hC : isC.map (fun i => ws[i]?) = w.map some) (hR : isR.map (fun i => ws[i]?) = wr.map some) (hn : va_nd isR = true) (hdis : ∀ i ∈ isR, i ∉ isC)
    (kk : ∀ (u : S) (H1 : Heap) (locs1 : List Loc), p' u → va_P D vwCl (wr ++ w' u) H1 → va_D A (wr ++ w' u) → va_S A s.heap H1 locs1 → W pr l e R s m args below meth c H1 locs1 (cells + mc) (slots + ms) QQ (F0 m (pc + 3) ls rest)) : W pr l e R s m args below meth c H locs cells slots QQ (F0 m pc ls st0) := by
  have hF := va_free hD hS C.2.2.2.2.2.2.2.1 isC hC
  refine va_callv hr hS (fun q _ h => hF q h) hF (fun u t H1 locs1 ht hvm hw hB hz hk hS1 => ?_)
  have hB' : va_P D vwCl (w' u) H1 := ht ▸ hB.1
  obtain ⟨hP1, hD1⟩ := va_join hP hD isC isR hC hR hn hdis hk hF hB' hB.2
  exact kk u H1 locs1 hw hP1 hD1 hS1
/-- the ends -/
theorem endI {p' : Int32 → S → Prop} {w' : S → va_W} {v : Int32} {rt : FieldType} (C : Cx pr m s args meth c cc nL0 own (some rt) A D G) (hnr : narrow rt (.int v) = .int v) (u : S) (hp : p' v u) (hS : va_S A s.heap H locs) (hP : va_P D vwCl (w' u) H) (hdg : decode cc pc = .ok (.ireturn, 1)) : W pr l e R s m args below meth c H locs cells slots (MQ below (va_Qi p' (fun u t => WB D (w' u) t) A) args s cells slots A) (F0 m pc ls [.int v]) := by
  obtain ⟨hx, hb, -, -, -, hr, hlocks, -, -⟩ := C
  exact W.zret hx hb hr hnr (fun t ht hW => ⟨⟨v, u, rfl, hp, (by show va_P D vwCl (w' u) t.heap; rw [ht]; exact hP)⟩, hS.F ht⟩) hS.2.2 hdg
theorem endL {p' : Int64 → S → Prop} {w' : S → va_W} {v : Int64} (C : Cx pr m s args meth c cc nL0 own (some .long) A D G) (u : S) (hp : p' v u) (hS : va_S A s.heap H locs) (hP : va_P D vwCl (w' u) H) (hdg : decode cc pc = .ok (.lreturn, 1)) : W pr l e R s m args below meth c H locs cells slots (MQ below (va_Ql p' (fun u t => WB D (w' u) t) A) args s cells slots A) (F0 m pc ls [.long v]) := by
  obtain ⟨hx, hb, -, -, -, hr, hlocks, -, -⟩ := C
  exact W.lret hx hb hr (fun t ht hW => ⟨⟨v, u, rfl, hp, (by show va_P D vwCl (w' u) t.heap; rw [ht]; exact hP)⟩, hS.F ht⟩) hS.2.2 hdg
theorem endV {p' : S → Prop} {w' : S → va_W} (C : Cx pr m s args meth c cc nL0 own none A D G) (u : S) (hp : p' u) (hS : va_S A s.heap H locs) (hP : va_P D vwCl (w' u) H) (hD : va_D A (w' u)) (hdg : decode cc pc = .ok (.return_, 1)) : W pr l e R s m args below meth c H locs cells slots (MQ below (va_Qv p' (fun u t => WB D (w' u) t ∧ va_D A (w' u)) A) args s cells slots A) (F0 m pc ls []) := by
  obtain ⟨hx, hb, -, -, -, hr, hlocks, -, -⟩ := C
  exact W.vret hx hb hr (fun t ht hW => ⟨⟨u, rfl, hp, (by show va_P D vwCl (w' u) t.heap; rw [ht]; exact hP), hD⟩, hS.F ht⟩) hS.2.2 hdg
end CALLS
