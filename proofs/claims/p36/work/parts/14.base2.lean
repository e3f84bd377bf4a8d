/-- a method that answers the reference ra, and changes nothing -/
def MtR (l : Launch) (D : va_G) (G : u_G) (y : MethodName) (b : ByteArray) (nL : Nat) (cn : String) (h : Nat) (av : List Value) (w : va_W) (ra : Nat) : Prop :=
  ∀ sz, Met l y (wsG y b nL (some (.object cn))) (rmG h 0 0) (PcG D G av w sz) (va_Qr (fun _ : Unit => True) (fun _ q t => q = ra ∧ WB D w t) (va_A w sz)) 0 0 (va_A w sz)
theorem MtR.of {l : Launch} {D : va_G} {G : u_G} {y : MethodName} {b : ByteArray} {nL : Nat} {cn : String} {h : Nat} {av : List Value} {w : va_W} {ra : Nat} (hy : plainName y.cls = true) (hn : (lg_sl av).length ≤ nL)
    (body : ∀ (pr : Program) (e : Env) (s : State) (m : MethodId) (below : List Frame) (meth : Method) (c : Code) (A : Nat → Prop) (ls : Array Slot), Cx pr m s av.toArray meth c b nL y.cls (some (.object cn)) A D G → va_P D vwCl w s.heap → va_D A w → lv_has ls nL (lv_args 0 av) →
      W pr l e (rmG h 0 0) s m av.toArray below meth c s.heap [] 0 0 (MQ below (va_Qr (fun _ : Unit => True) (fun _ q t => q = ra ∧ WB D w t) A) av.toArray s 0 0 A) (F0 m 0 ls [])) : MtR l D G y b nL cn h av w ra := by
  intro sz
  refine Met.ofW (cc := b) (maxL := nL) (ret := some (.object cn)) hy rfl ?_
  intro pr e s m args below meth c s₁ B hml hv
  obtain ⟨rfl, rfl, hP, hD0, hAm⟩ := hv
  have hts := atoms_spec (ws := wsG y b nL (some (.object cn))) B.pre
  have hD := hD0.self (sz := s.heap.size)
  rw [lg_entry_eq]
  exact body pr e s m below meth c _ _ ⟨B.exec, B.bytes, hml, findClass_of_methodNamed B.named, fun x hx => hts x (List.mem_cons_of_mem _ hx), B.returns, B.notSynchronized, fun q hq => Or.inr hq, hAm⟩ hP hD (lv_entry av hn)
section CALLR
variable {pr : Program} {l : Launch} {e : Env} {R : Room} {s : State} {m : MethodId} {args : Array Value} {below : List Frame} {meth : Method} {c : Code} {H : Heap} {locs : List Loc} {cells slots : Nat} {QQ : State → Prop}
variable {cc : ByteArray} {nL0 : Nat} {own : String} {rt0 : Option FieldType} {A : Nat → Prop} {D : va_G} {G : u_G}
variable {rest st0 : List Value} {w ws : va_W} {pc : Nat} {ls : Array Slot} {a : Array Value}
theorem aftR {ra : Nat} (C : Cx pr m s args meth c cc nL0 own rt0 A D G) (hr : va_Run pr l e R s m args below meth c H locs cells slots 0 0 (F0 m pc ls st0) rest (va_Qr (fun _ : Unit => True) (fun _ q t => q = ra ∧ WB D w t) (va_A w H.size) a) (va_A w H.size)) (hS : va_S A s.heap H locs) (hP : va_P D vwCl ws H) (hD : va_D A ws) (isC : List Nat) (hC : isC.map (fun i => ws[i]?) = w.map some)
    (kk : ∀ (H1 : Heap) (locs1 : List Loc), va_P D vwCl ws H1 → va_S A s.heap H1 locs1 → W pr l e R s m args below meth c H1 locs1 cells slots QQ (F0 m (pc + 3) ls (.ref ra :: rest))) : W pr l e R s m args below meth c H locs cells slots QQ (F0 m pc ls st0) := by
  have hF := va_free hD hS C.2.2.2.2.2.2.2.1 isC hC
  refine va_callr hr hS (fun q _ h => hF q h) hF (fun u q t H1 locs1 ht hvm hw hB hz hk hS1 => ?_)
  obtain ⟨hq, hB⟩ := hB
  subst hq
  have hB' : va_P D vwCl w H1 := ht ▸ hB
  obtain ⟨hP1, hD1⟩ := wjoin hP hD isC hC rfl hk hB'
  exact kk H1 locs1 (wput_self isC w ws hC ▸ hP1) hS1
theorem endR {ra : Nat} {cn : String} (C : Cx pr m s args meth c cc nL0 own (some (.object cn)) A D G) (hS : va_S A s.heap H locs) (hP : va_P D vwCl w H) (hdg : decode cc pc = .ok (.areturn, 1)) : W pr l e R s m args below meth c H locs cells slots (MQ below (va_Qr (fun _ : Unit => True) (fun _ q t => q = ra ∧ WB D w t) A) args s cells slots A) (F0 m pc ls [.ref ra]) := by
  obtain ⟨hx, hb, -, -, -, hr, hlocks, -, -⟩ := C
  exact W.aret hx hb hr (Or.inl ⟨_, rfl⟩) (Or.inr ⟨_, rfl⟩) (fun t ht hW => ⟨⟨(), ra, rfl, trivial, rfl, (by show va_P D vwCl w t.heap; rw [ht]; exact hP)⟩, hS.F ht⟩) hS.2.2 hdg
end CALLR
/-- the ring of the saved states: where the k-th place lies, and what a save makes of the oldest and the count -/
def ri (k : Nat) : Nat := if k < 6 then k else k - 6
theorem ri_lt {k : Nat} (h : k < 12) : ri k < 6 := by unfold ri; split <;> omega
def svO (o c : Nat) : Nat := if c < 6 then o else ri (o + 1)
def svC (c : Nat) : Nat := if c < 6 then c + 1 else c
def sqf (a : Nat → Nat → Nat) : Nat → Option Nat := fun i => some (a i 0)
/-- one of six replaced -/
def sx {α : Type} (f : Nat → α) (j : Nat) (v : α) : Nat → α := fun i => if i = j then v else f i
theorem six {j : Nat} (h : j < 6) : j = 0 ∨ j = 1 ∨ j = 2 ∨ j = 3 ∨ j = 4 ∨ j = 5 := by omega
abbrev svI (n j : Nat) : List Nat := [n + 6 * j, n + 6 * j + 1, n + 6 * j + 2, n + 6 * j + 3, n + 6 * j + 4, n + 6 * j + 5]
