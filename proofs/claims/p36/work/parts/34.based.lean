/-! a method that may draw a NaN's bits -/
def MtD (l : Launch) (D : va_G) (G : u_G) (y : MethodName) (b : ByteArray) (nL : Nat) (h : Nat) (av : List Value) (w w2 : va_W) (p : UInt64 → Prop) : Prop :=
  ∀ sz, MetD lw_cs l y (wsG y b nL (some .double)) (rmG h 0 0) (PcG D G av w sz) (va_Qd (fun (r : UInt64) (_ : Unit) => p r) (fun _ t => WB D w2 t) (va_A w sz)) 0 0 (va_A w sz)
theorem Cx.draw {pr : Program} {s : State} {m : MethodId} {args : Array Value} {meth : Method} {c : Code} {cc : ByteArray} {nL : Nat} {own : String} {rt : Option FieldType} {A : Nat → Prop} {D : va_G} {G : u_G} (C : Cx pr m s args meth c cc nL own rt A D G) (d : Drawn) : Cx pr m (s.setDrawn d) args meth c cc nL own rt A D G := by
  obtain ⟨h1, h2, h3, h4, h5, h6, h7, h8, h9⟩ := C
  exact ⟨h1, h2, h3, h4, dr_words h5 d, h6, h7, h8, Amb.same h9 rfl⟩
theorem MtD.of {l : Launch} {D : va_G} {G : u_G} {y : MethodName} {b : ByteArray} {nL : Nat} {h : Nat} {av : List Value} {w w2 : va_W} {p : UInt64 → Prop} (hy : plainName y.cls = true) (hn : (lg_sl av).length ≤ nL)
    (body : ∀ (pr : Program) (e : Env) (s : State) (m : MethodId) (below : List Frame) (meth : Method) (c : Code) (A : Nat → Prop) (ls : Array Slot), (∀ d, Cx pr m (s.setDrawn d) av.toArray meth c b nL y.cls (some .double) A D G) → va_P D vwCl w s.heap → va_D A w → lv_has ls nL (lv_args 0 av) → s.drawn.sameBut s.drawn lw_cs →
      W pr l e (rmG h 0 0) (s.setDrawn s.drawn) m av.toArray below meth c s.heap [] 0 0 (MQD lw_cs below (va_Qd (fun (r : UInt64) (_ : Unit) => p r) (fun _ t => WB D w2 t) A) av.toArray s 0 0 A) (F0 m 0 ls [])) : MtD l D G y b nL h av w w2 p := by
  intro sz
  refine MetD.ofW (cc := b) (maxL := nL) (ret := some .double) hy rfl ?_
  intro pr e s m args below meth c s₁ B hml hv hd0
  obtain ⟨rfl, rfl, hP, hD0, hAm⟩ := hv
  have hts := atoms_spec (ws := wsG y b nL (some .double)) B.pre
  have hD := hD0.self (sz := s.heap.size)
  rw [lg_entry_eq]
  have C : Cx pr m s av.toArray meth c b nL y.cls (some .double) (va_A w s.heap.size) D G := ⟨B.exec, B.bytes, hml, findClass_of_methodNamed B.named, fun x hx => hts x (List.mem_cons_of_mem _ hx), B.returns, B.notSynchronized, fun q hq => Or.inr hq, hAm⟩
  exact body pr e s m below meth c _ _ (fun d => C.draw d) hP hD (lv_entry av hn) hd0
section CALLD
variable {pr : Program} {l : Launch} {e : Env} {R : Room} {s : State} {m : MethodId} {args : Array Value} {below : List Frame} {meth : Method} {c : Code} {H : Heap} {locs : List Loc} {cells slots : Nat} {QQ : State → Prop}
variable {cc : ByteArray} {nL0 : Nat} {own : String} {rt0 : Option FieldType} {A : Nat → Prop} {D : va_G} {G : u_G}
variable {y : MethodName} {b : ByteArray} {nL n index h : Nat} {As rest st0 : List Value} {w w2 ws : va_W} {pc : Nat} {ls : Array Slot}
theorem endD {p : UInt64 → Prop} {v : UInt64} (C : Cx pr m s args meth c cc nL0 own (some .double) A D G) (hp : p v) (hS : va_S A s.heap H locs) (hP : va_P D vwCl w2 H) (hdg : decode cc pc = .ok (.dreturn, 1)) : W pr l e R s m args below meth c H locs cells slots (MQ below (va_Qd (fun (r : UInt64) (_ : Unit) => p r) (fun _ t => WB D w2 t) A) args s cells slots A) (F0 m pc ls [.double v]) := by
  obtain ⟨hx, hb, -, -, -, hr, hlocks, -, -⟩ := C
  exact W.dret hx hb hr (fun t ht hW => ⟨⟨v, (), rfl, hp, (by show va_P D vwCl w2 t.heap; rw [ht]; exact hP)⟩, hS.F ht⟩) hS.2.2 hdg
/-- the call of one: the walk goes on over another record of draws -/
theorem callD {d0 : Drawn} {bq q0 ci N : Nat} {T : u_T} {fs : List Value} {p : UInt64 → Prop} (hd0 : s.drawn.sameBut d0 lw_cs) (C : Cx pr m (s.setDrawn d0) args meth c cc nL0 own rt0 A D G) (hM : MtD l D G y b nL h (.ref bq :: As) w w2 p) (hsm : w2.map Prod.fst = w.map Prod.fst) (hS : va_S A s.heap H locs) (hP : va_P D vwCl ws H) (hD : va_D A ws) (isC : List Nat) (hC : isC.map (fun i => ws[i]?) = w.map some) (hn : va_nd isC = true)
    (he : ws[q0]? = some (bq, .inr (ci, fs))) (hci : vwCl[ci]? = some (y.cls, T, N)) (Y : YS y b nL (some .double) n) (kl : Cond.methodLink own index y ∈ wsL_law) (ki : Cond.instanceMethod y ∈ wsL_law) (ks : Cond.selects y.cls y y ∈ wsL_law) (hrm : h + 1 ≤ R.frames ∧ 8 + (nL + 11) + 40 * h ≤ R.locals) (hl : ls.size = nL0) (hst : (rest.map fun v => v.category).sum ≤ 8) (hdg : decode cc pc = .ok (.invokevirtual index, 3)) (hlen : As.length = n) (hstk : st0 = As.reverse ++ .ref bq :: rest) (hf : cells + 0 ≤ R.cells ∧ slots + 0 ≤ R.slots)
    (kk : ∀ (r : UInt64) (d1 : Drawn) (H1 : Heap) (locs1 : List Loc), s.drawn.sameBut d1 lw_cs → p r → va_P D vwCl (wput ws isC w2) H1 → va_D A (wput ws isC w2) → va_S A s.heap H1 locs1 → W pr l e R (s.setDrawn d1) m args below meth c H1 locs1 cells slots QQ (F0 m (pc + 3) ls (.double r :: rest))) :
    W pr l e R (s.setDrawn d0) m args below meth c H locs cells slots QQ (F0 m pc ls st0) := by
  have hF := va_free hD hS C.2.2.2.2.2.2.2.1 isC hC
  refine va_calldD hd0 (va_runV_D (cx_fix C) (hM H.size) ⟨cb_of C Y kl hrm, C.2.2.2.2.1 _ ki, C.2.2.2.2.1 _ ks⟩ ⟨PcG_blind, va_recv C.2.2.2.2.2.2.2.2.1 hP hci he, pcG_ok C hS hP hD isC hC hn (.ref bq :: As)⟩ rfl hlen hl hstk (lv_room hst) hdg hf) hS (fun q _ h => hF q h) hF (fun r u t H1 locs1 ht hvm hw hB hz hk hS1 d1 hd1 => ?_)
  have hB' : va_P D vwCl w2 H1 := ht ▸ hB
  obtain ⟨hP1, hD1⟩ := wjoin hP hD isC hC hsm hk hB'
  exact kk r d1 H1 locs1 hd1 hw hP1 hD1 hS1
end CALLD
/-- the share of hits: of n nodes, h hits -/
def hsP (n : Nat) (h : Int32) (r : UInt64) : Prop := if n = 0 then r = FP.dconst0 else alike64 r (FP.ddiv (FP.i2d h) (FP.i2d (nI n))) = true
