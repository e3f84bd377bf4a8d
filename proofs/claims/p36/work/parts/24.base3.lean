/-! methods that throw: always, in the case at hand -/
def XCt (D : va_G) (w : va_W) (E1 : String) (A : Nat → Prop) : String → State → State → Prop := vx_X (fun _ : Unit => True) (fun E _ t => E = E1 ∧ WB D w t) A
def MtT (l : Launch) (D : va_G) (G : u_G) (y : MethodName) (b : ByteArray) (nL : Nat) (rt : FieldType) (h : Nat) (av : List Value) (w w2 : va_W) (E1 : String) : Prop :=
  ∀ sz, vx_Met l y (wsG y b nL (some rt)) (rmG h 1 6) (PcG D G av w sz) (va_Qi (fun (_ : Int32) (_ : Unit) => False) (fun _ t => WB D w t) (va_A w sz)) (XCt D w2 E1 (va_A w sz)) 1 6 (va_A w sz)
theorem MtT.of {l : Launch} {D : va_G} {G : u_G} {y : MethodName} {b : ByteArray} {nL : Nat} {rt : FieldType} {h : Nat} {av : List Value} {w w2 : va_W} {E1 : String} (hy : plainName y.cls = true) (hn : (lg_sl av).length ≤ nL)
    (body : ∀ (pr : Program) (e : Env) (s : State) (m : MethodId) (below : List Frame) (meth : Method) (c : Code) (A : Nat → Prop) (ls : Array Slot), Cx pr m s av.toArray meth c b nL y.cls (some rt) A D G → va_P D vwCl w s.heap → va_D A w → lv_has ls nL (lv_args 0 av) → (∀ x ∈ c.exceptionTable.toList, False) →
      W pr l e (rmG h 1 6) s m av.toArray below meth c s.heap [] 0 0 (vx_MQ below (va_Qi (fun (_ : Int32) (_ : Unit) => False) (fun _ t => WB D w t) A) (XCt D w2 E1 A) av.toArray s 1 6 A) (F0 m 0 ls [])) : MtT l D G y b nL rt h av w w2 E1 := by
  intro sz
  refine vx_ofW (cc := b) (maxL := nL) (ret := some rt) hy rfl ?_
  intro pr e s m args below meth c s₁ B hml hxt hv
  obtain ⟨rfl, rfl, hP, hD0, hAm⟩ := hv
  have hts := atoms_spec (ws := wsG y b nL (some rt)) B.pre
  have hD := hD0.self (sz := s.heap.size)
  rw [lg_entry_eq]
  exact body pr e s m below meth c _ _ ⟨B.exec, B.bytes, hml, findClass_of_methodNamed B.named, fun x hx => hts x (List.mem_cons_of_mem _ hx), B.returns, B.notSynchronized, fun q hq => Or.inr hq, hAm⟩ hP hD (lv_entry av hn) hxt
abbrev exN : List String := ["java/lang/RuntimeException", "java/lang/Exception"]
/-- an exception's words -/
def exF (E : String) (ic : Nat) : Prop := Bundle.fit E = true ∧ (∀ w ∈ (vx_atS RX7 ic E exN).filter goodWord, w ∈ wsL_law) ∧ (∀ w ∈ (vx_atS RX7 ic E exN).filter (fun w => !goodWord w), w ∈ nwl) ∧ (∀ w ∈ vx_atS RX7 ic E exN, vx_ot w = true)
theorem ex_IAE : exF "java/lang/IllegalArgumentException" 52 := ⟨by decide, fun _ h => List.mem_append_left _ (List.mem_append_right _ h), by decide +kernel, by decide +kernel⟩
theorem ex_IOOB : exF "java/lang/IndexOutOfBoundsException" 95 := ⟨by decide, fun _ h => List.mem_append_right _ h, by decide +kernel, by decide +kernel⟩
theorem ex_ISE : exF "java/lang/IllegalStateException" 104 := ⟨by decide, fun _ h => List.mem_append_left _ (List.mem_append_left _ (List.mem_append_right _ h)), by decide +kernel, by decide +kernel⟩
theorem exN_fit : ∀ n ∈ exN, Bundle.fit n = true := by decide +kernel
section THR
variable {pr : Program} {l : Launch} {e : Env} {s : State} {m : MethodId} {args : Array Value} {below : List Frame} {meth : Method} {c : Code} {H : Heap} {locs : List Loc} {QQ : State → Prop}
variable {cc : ByteArray} {nL0 : Nat} {rt0 : Option FieldType} {A : Nat → Prop} {D : va_G} {G : u_G} {w : va_W} {pc : Nat} {ls : Array Slot} {rest : List Value}
theorem thrT {E1 text : String} {ik is ic h : Nat} {Qc : Array Value → State → Outcome → State → Prop} (C : Cx pr m s args meth c cc nL0 RX7 rt0 A D G) (hlt : l.stackTraces = false) (hxt : ∀ x ∈ c.exceptionTable.toList, False) (hE : exF E1 ic) (kk : Cond.classLink RX7 ik E1 ∈ wsL_law) (ki : Cond.initialized E1 ∈ wsL_law) (ks : (is, text) ∈ skl)
    (hS : va_S A s.heap H locs) (hP : va_P D vwCl w H) (hl : ls.size = nL0)
    (d0 : decode cc pc = .ok (.new ik, 3)) (d3 : decode cc (pc + 3) = .ok (.dup, 1)) (d4 : decode cc (pc + 4) = .ok (.ldc is, 2)) (d6 : decode cc (pc + 6) = .ok (.invokespecial ic, 3)) (d9 : decode cc (pc + 9) = .ok (.athrow, 1))
    (hh : 6 ≤ h) (hr : (rest.map fun v => v.category).sum ≤ 8) :
    W pr l e (rmG h 1 6) s m args below meth c H locs 0 0 (vx_MQ below Qc (XCt D w E1 A) args s 1 6 A) (F0 m pc ls rest) := by
  obtain ⟨hx, hb, hml, hown, hts, hr0, hlocks, hA, hK, hN, hSK, hNC, htb, hU, hV⟩ := C
  obtain ⟨e1, e2, e3, e5⟩ := hE
  obtain ⟨sa, hsa⟩ := hSK _ ks
  refine vx_throwS (sa := sa) (names := exN) hx hb hlt hown e1 exN_fit (hts _ kk) (hts _ ki) hsa (vx_hat (B := nwl) (fun w hw => hts w (e2 w hw)) e3 (fun w hw => va_Nw.use (isNw_ot (List.all_eq_true.mp nwl_is w hw)) (hN w hw))) ?_ hU hV hS (hl.trans hml.symm) d0 d3 d4 d6 d9 (fun x hx => (hxt x hx).elim) (by show 2 + 3 < h; omega) (by show _ ≤ 40 * h; show (rest.map fun v => v.category).sum + (13 * (2 + 1) + 43) ≤ 40 * h; omega) (Nat.le_refl _) (Nat.le_refl _) hlocks ?_ hS.2.2 (Nat.le_refl _) (Nat.le_refl _)
  · intro w hw
    rcases List.mem_cons.mp hw with rfl | hw
    · rfl
    · rcases List.mem_cons.mp hw with rfl | hw
      · rfl
      · exact e5 w hw
  · intro t hal hz hk
    refine ⟨(), trivial, ⟨rfl, ?_⟩, ?_⟩
    · exact hP.kept (fun k q hq => hk q.1 (hP k q hq).lt)
    · exact ⟨Nat.le_trans hS.1 hz, fun q h1 h2 => (hk q (Nat.lt_of_lt_of_le h1 hS.1)).trans (hS.2.1 q h1 h2)⟩
end THR
/-! the law's wrappers: methods with a table of handlers -/
theorem Met.ofWH {l : Launch} {y : MethodName} {ws ws' : List Cond} {rm : Room} {Pc : Array Value → State → Prop} {Qc : Array Value → State → Outcome → State → Prop} {mc ms : Nat} {free : Addr → Prop} {cc : ByteArray} {maxL : Nat} {ret : Option FieldType} {hh : List (Nat × Nat × Nat × Nat)}
    (hy : plainName y.cls = true) (hw : ws = Cond.codeWith y cc maxL ret hh :: ws')
    (body : ∀ p e s m args below meth c s₁, BodyLoose p l y (headSpec ws rm) cc maxL ret e s m args below meth c s₁ → c.maxLocals = maxL → Pc args s →
      W p l e (headSpec ws rm).room s m args below meth c s.heap [] 0 0 (MQ below Qc args s mc ms free) (entryFrame m args maxL)) : Met l y ws rm Pc Qc mc ms free := by
  refine MetFree.of_bodyS (code := cc) (maxLocals := maxL) (ret := ret) hy ?_ ?_
  · intro args s m h hn
    obtain ⟨m9, meth, c, hn9, h1, h2, h3, h4, -, h5, h6, -⟩ := Cond.codeWith_spec (atoms_spec (ws := ws) h _ (by rw [hw]; exact List.mem_cons_self))
    cases hn.symm.trans hn9
    exact ⟨meth, c, h1, h2, h3, h4, h5, h6⟩
  · intro p e s m args below meth c s₁ B hml hP _
    have hh0 : s₁.heap = s.heap := by rw [B.state]; rfl
    obtain ⟨t, a1, o, b1, b2, b3⟩ := body p e s m args below meth c s₁ B hml hP s₁ hh0 (Stand.of_body B)
    exact ⟨t, o, a1, b1, b2, b3⟩
abbrev wsW (y : MethodName) (b : ByteArray) (nL : Nat) (hh : List (Nat × Nat × Nat × Nat)) : List Cond := .codeWith y b nL (some .int) hh :: wsL_law
def MtW {S : Type} (l : Launch) (D : va_G) (G : u_G) (y : MethodName) (b : ByteArray) (nL : Nat) (hh : List (Nat × Nat × Nat × Nat)) (h mc ms : Nat) (av : List Value) (w : va_W) (p : Int32 → S → Prop) (w' : S → va_W) : Prop :=
  ∀ sz, Met l y (wsW y b nL hh) (rmG h mc ms) (PcG D G av w sz) (va_Qi p (fun u t => WB D (w' u) t) (va_A w sz)) mc ms (va_A w sz)
theorem MtW.of {S : Type} {l : Launch} {D : va_G} {G : u_G} {y : MethodName} {b : ByteArray} {nL : Nat} {hh : List (Nat × Nat × Nat × Nat)} {h mc ms : Nat} {av : List Value} {w : va_W} {p : Int32 → S → Prop} {w' : S → va_W} (hy : plainName y.cls = true) (hn : (lg_sl av).length ≤ nL)
    (body : ∀ (pr : Program) (e : Env) (s : State) (m : MethodId) (below : List Frame) (meth : Method) (c : Code) (A : Nat → Prop) (ls : Array Slot), Cx pr m s av.toArray meth c b nL y.cls (some .int) A D G → va_P D vwCl w s.heap → va_D A w → lv_has ls nL (lv_args 0 av) → c.exceptionTable.toList = tableOf hh →
      W pr l e (rmG h mc ms) s m av.toArray below meth c s.heap [] 0 0 (MQ below (va_Qi p (fun u t => WB D (w' u) t) A) av.toArray s mc ms A) (F0 m 0 ls [])) : MtW l D G y b nL hh h mc ms av w p w' := by
  intro sz
  refine Met.ofWH (cc := b) (maxL := nL) (ret := some .int) hy rfl ?_
  intro pr e s m args below meth c s₁ B hml hv
  obtain ⟨rfl, rfl, hP, hD0, hAm⟩ := hv
  have hts := atoms_spec (ws := wsW y b nL hh) B.pre
  have hD := hD0.self (sz := s.heap.size)
  have htab := vx_table (x := y) B (hts _ List.mem_cons_self)
  rw [lg_entry_eq]
  exact body pr e s m below meth c _ _ ⟨B.exec, B.bytes, hml, findClass_of_methodNamed B.named, fun x hx => hts x (List.mem_cons_of_mem _ hx), B.returns, B.notSynchronized, fun q hq => Or.inr hq, hAm⟩ hP hD (lv_entry av hn) htab
section CALLT
variable {pr : Program} {l : Launch} {e : Env} {R : Room} {s : State} {m : MethodId} {args : Array Value} {below : List Frame} {meth : Method} {c : Code} {H : Heap} {locs : List Loc} {cells slots : Nat} {QQ : State → Prop}
variable {cc : ByteArray} {nL0 : Nat} {own : String} {rt0 : Option FieldType} {A : Nat → Prop} {D : va_G} {G : u_G}
variable {y : MethodName} {b : ByteArray} {nL n index h : Nat} {rt : FieldType} {As rest st0 : List Value} {w w2 ws : va_W} {pc : Nat} {ls : Array Slot}
/-- a call that throws -/
theorem callT {bq q0 ci N : Nat} {T : u_T} {fs : List Value} {E1 : String} (C : Cx pr m s args meth c cc nL0 own rt0 A D G) (hM : MtT l D G y b nL rt h (.ref bq :: As) w w2 E1) (hsm : w2.map Prod.fst = w.map Prod.fst) (hS : va_S A s.heap H locs) (hP : va_P D vwCl ws H) (hD : va_D A ws) (isC : List Nat) (hC : isC.map (fun i => ws[i]?) = w.map some) (hn : va_nd isC = true)
    (he : ws[q0]? = some (bq, .inr (ci, fs))) (hci : vwCl[ci]? = some (y.cls, T, N)) (Y : YS y b nL (some rt) n) (kl : Cond.methodLink own index y ∈ wsL_law) (ki : Cond.instanceMethod y ∈ wsL_law) (ks : Cond.selects y.cls y y ∈ wsL_law) (hrm : h + 1 ≤ R.frames ∧ 8 + (nL + 11) + 40 * h ≤ R.locals) (hl : ls.size = nL0) (hst : (rest.map fun v => v.category).sum ≤ 8) (hdg : decode cc pc = .ok (.invokevirtual index, 3)) (hlen : As.length = n) (hstk : st0 = As.reverse ++ .ref bq :: rest) (hf : cells + 1 ≤ R.cells ∧ slots + 6 ≤ R.slots)
    (kx : ∀ (ce : Cell) (q9 : Addr) (H1 : Heap) (locs1 : List Loc), va_P D vwCl (wput ws isC w2) H1 → va_D A (wput ws isC w2) → va_S A s.heap H1 locs1 → H1[q9]? = some ce → ce.vm = .none → s.vm.findClass E1 = some ce.cls → vx_W pr l e R s m args below meth c H1 locs1 (cells + 1) (slots + 6) QQ (F0 m pc ls rest) q9) :
    W pr l e R s m args below meth c H locs cells slots QQ (F0 m pc ls st0) := by
  have hF := va_free hD hS C.2.2.2.2.2.2.2.1 isC hC
  have hr : vx_Run pr l e R s m args below meth c H locs cells slots 1 6 (F0 m pc ls st0) rest _ _ _ := vx_runV (cx_fix C) (hM H.size) ⟨cb_of C Y kl hrm, C.2.2.2.2.1 _ ki, C.2.2.2.2.1 _ ks⟩ ⟨PcG_blind, va_recv C.2.2.2.2.2.2.2.2.1 hP hci he, pcG_ok C hS hP hD isC hC hn (.ref bq :: As)⟩ rfl hlen hl hstk (lv_room hst) hdg hf
  refine vx_calli hr hS (fun q _ h => hF q h) hF (fun q _ h => hF q h) (fun E ce q9 u t H1 locs1 ht hvm hpx hBX hz hk hS1 hce hcv hcl => ?_) (fun r u t H1 locs1 ht hvm hw hB hz hk hS1 => hw.elim)
  obtain ⟨rfl, hB⟩ := hBX
  have hB' : va_P D vwCl w2 H1 := ht ▸ hB
  obtain ⟨hP1, hD1⟩ := wjoin hP hD isC hC hsm hk hB'
  exact kx ce q9 H1 locs1 hP1 hD1 hS1 hce hcv hcl
end CALLT
