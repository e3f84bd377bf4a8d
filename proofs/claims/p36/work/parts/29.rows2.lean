/-! new arrays -/
def zfL : Nat → Int64 := fun _ => 0
theorem fc_inj {U : State} {n : String} {a b : ClassId} (h1 : U.vm.findClass n = some a) (h2 : U.vm.findClass n = some b) : a = b := Option.some.inj (h1.symm.trans h2)
theorem va_P.arrQ {D : va_G} {cl : List vw_C} {ws : va_W} {H : Heap} (hP : va_P D cl ws H) (k : Nat) {a : Nat} {cA : ClassId} {n : Nat} {f g : Nat → Option Nat} (hk : ws[k]? = some (a, .inl (cA, n, .inr (.inr (.inr (.inr f)))))) (h : ∀ j, j < n → f j = g j) : va_P D cl (ws.set k (a, .inl (cA, n, .inr (.inr (.inr (.inr g)))))) H := by
  intro j q hq
  by_cases e : k = j
  · subst e
    rw [List.getElem?_set] at hq
    simp only [if_true] at hq
    split at hq
    · cases hq
      have h1 : H[a]? = some (vp_cell cA (n, .inr (.inr (.inr (.inr f))))) := hP k _ hk
      show H[a]? = some (vp_cell cA (n, .inr (.inr (.inr (.inr g)))))
      rw [h1, vp_cell_q, vp_cell_q, arrV_cg (fun j hj => by rw [h j hj])]
    · cases hq
  · rw [List.getElem?_set_ne e] at hq
    exact hP j q hq
section NEWA
variable {pr : Program} {l : Launch} {e : Env} {R : Room} {s : State} {m : MethodId} {args : Array Value} {below : List Frame} {meth : Method} {c : Code} {H : Heap} {locs : List Loc} {cells slots : Nat} {QQ : State → Prop}
variable {cc : ByteArray} {nL0 : Nat} {own : String} {rt0 : Option FieldType} {A : Nat → Prop} {D : va_G} {G : u_G} {ws : va_W} {pc : Nat} {ls : Array Slot} {rest : List Value}
theorem ro_newaI {n : Int32} {N : Nat} (C : Cx pr m s args meth c cc nL0 own rt0 A D G) (hS : va_S A s.heap H locs) (hP : va_P D vwCl ws H) (hD : va_D A ws) (hn : n = nI N) (hN : N ≤ 100000) (hcells : cells + 1 ≤ R.cells) (hslots : slots + N ≤ R.slots) (hdg : decode cc pc = .ok (.newarray .int, 2))
    (kk : ∀ (q : Nat) (H1 : Heap), va_P D vwCl (ws ++ [(q, .inl (G.1, N, .inl zf))]) H1 → va_D A (ws ++ [(q, .inl (G.1, N, .inl zf))]) → va_S A s.heap H1 locs → W pr l e R s m args below meth c H1 locs (cells + 1) (slots + N) QQ (F0 m (pc + 2) ls (.ref q :: rest))) : W pr l e R s m args below meth c H locs cells slots QQ (F0 m pc ls (.int n :: rest)) := by
  subst hn
  obtain ⟨hx, hb, hml, hown, hts, hr0, hlocks, hA, hK, -⟩ := C
  refine va_newa (atype := .int) (ty := .int) (a0 := (N, .inl zf)) (N' := N) hx hb (hts _ kw_2_23) rfl hK hP hD hS hA (fun cA => rfl) (nI_pos (by omega)) (nI_clamp (by omega)) (by show N * 4 ≤ _; omega) hcells hslots hdg (fun q cA H1 hK1 hP1 hD1 hS1 => ?_)
  have e1 : cA = G.1 := fc_inj (hK1.2 2 _ rfl).2 (hK.2 0 _ rfl).2
  subst e1
  exact kk q H1 hP1 hD1 hS1
theorem ro_newaQ {n : Int32} {N index : Nat} (C : Cx pr m s args meth c cc nL0 own rt0 A D G) (hS : va_S A s.heap H locs) (hP : va_P D vwCl ws H) (hD : va_D A ws) (hcl : (Cond.classLink own index "BoundSearch$State").before args s = true) (hn : n = nI N) (hN : N ≤ 100000) (hcells : cells + 1 ≤ R.cells) (hslots : slots + N ≤ R.slots) (hdg : decode cc pc = .ok (.anewarray index, 3))
    (kk : ∀ (q : Nat) (H1 : Heap), va_P D vwCl (ws ++ [(q, .inl (G.2.1, N, .inr (.inr (.inr (.inr (fun _ => none))))))]) H1 → va_D A (ws ++ [(q, .inl (G.2.1, N, .inr (.inr (.inr (.inr (fun _ => none))))))]) → va_S A s.heap H1 locs → W pr l e R s m args below meth c H1 locs (cells + 1) (slots + N) QQ (F0 m (pc + 3) ls (.ref q :: rest))) : W pr l e R s m args below meth c H locs cells slots QQ (F0 m pc ls (.int n :: rest)) := by
  subst hn
  obtain ⟨hx, hb, hml, hown, hts, hr0, hlocks, hA, hK, hN1, hSK, hNC, -⟩ := C
  refine va_newq (C := "BoundSearch$State") (N' := N) hx hb hown hcl hNC.2.2 hK hP hD hS hA (nI_pos (by omega)) (nI_clamp (by omega)) (by omega) hcells hslots hdg (fun q cA H1 hK1 hP1 hD1 hS1 => ?_)
  have e1 : cA = G.2.1 := by
    obtain ⟨-, -, -, -, -, h4⟩ := (hK1.2 2 _ rfl).2
    obtain ⟨-, -, -, -, -, h5⟩ := (hK.2 1 _ rfl).2
    exact fc_inj h4 h5
  subst e1
  exact kk q H1 hP1 hD1 hS1
end NEWA
/-- a fresh state -/
def x00 : Nat → Nat := fun k => if k = 19 then 5000 else 0
def y00 : Nat → Int32 := fun k => if k = 21 then -999 else 0
def v00 : Nat → Nat := fun _ => 0
def w00 : Nat → Int32 := fun i => if i = 2 then -999 else 0
def c00 : Nat → Nat → Int32 := fun _ => zf
def t00 : Nat → Nat := fun _ => 0
theorem kd00 (k : Nat) : kdY y00 k = 0 := if_neg (by omega)
theorem vl00 (k : Nat) : vlY y00 k = 0 := if_neg (by omega)
/-- addresses by their places -/
def ad6 (a b c d e f : Nat) : Nat → Nat := fun i => match i with | 0 => a | 1 => b | 2 => c | 3 => d | 4 => e | _ => f
def ad66 (a b c d e f : Nat → Nat) : Nat → Nat → Nat := fun i => match i with | 0 => a | 1 => b | 2 => c | 3 => d | 4 => e | _ => f
