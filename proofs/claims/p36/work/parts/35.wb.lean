/-! calling the law's wrappers -/
def YW (y : MethodName) (b : ByteArray) (nL : Nat) (hh : List (Nat × Nat × Nat × Nat)) (n : Nat) : Prop := Cond.codeWith y b nL (some .int) hh ∈ wsL_law ∧ Cond.initialized y.cls ∈ wsL_law ∧ (y.cls ≠ "java/lang/invoke/MethodHandle" ∧ y.cls ≠ "java/lang/invoke/VarHandle" ∧ (parseMethodDescriptor y.desc).map (fun d => d.parameters.length) = some n)
section CALLW
variable {pr : Program} {l : Launch} {e : Env} {R : Room} {s : State} {m : MethodId} {args : Array Value} {below : List Frame} {meth : Method} {c : Code} {H : Heap} {locs : List Loc} {cells slots : Nat} {QQ : State → Prop}
variable {cc : ByteArray} {nL0 : Nat} {own : String} {rt0 : Option FieldType} {A : Nat → Prop} {D : va_G} {G : u_G}
variable {y : MethodName} {b : ByteArray} {nL n index h mc ms : Nat} {hh : List (Nat × Nat × Nat × Nat)} {As rest st0 : List Value} {w ws : va_W} {pc : Nat} {ls : Array Slot} {S : Type}
theorem callW {p' : Int32 → S → Prop} {w' : S → va_W} (C : Cx pr m s args meth c cc nL0 own rt0 A D G) (hM : MtW l D G y b nL hh h mc ms As w p' w') (hsm : ∀ u, (w' u).map Prod.fst = w.map Prod.fst) (hS : va_S A s.heap H locs) (hP : va_P D vwCl ws H) (hD : va_D A ws) (isC : List Nat) (hC : isC.map (fun i => ws[i]?) = w.map some) (hn : va_nd isC = true)
    (Y : YW y b nL hh n) (kl : Cond.methodLink own index y ∈ wsL_law) (ks : Cond.static y ∈ wsL_law) (hrm : h + 1 ≤ R.frames ∧ 8 + (nL + 11) + 40 * h ≤ R.locals) (hl : ls.size = nL0) (hst : (rest.map fun v => v.category).sum ≤ 8) (hdg : decode cc pc = .ok (.invokestatic index, 3)) (hlen : As.length = n) (hstk : st0 = As.reverse ++ rest) (hf : cells + mc ≤ R.cells ∧ slots + ms ≤ R.slots)
    (kk : ∀ (r : Int32) (u : S) (H1 : Heap) (locs1 : List Loc), p' r u → va_P D vwCl (wput ws isC (w' u)) H1 → va_D A (wput ws isC (w' u)) → va_S A s.heap H1 locs1 → W pr l e R s m args below meth c H1 locs1 (cells + mc) (slots + ms) QQ (F0 m (pc + 3) ls (.int r :: rest))) : W pr l e R s m args below meth c H locs cells slots QQ (F0 m pc ls st0) := by
  have hts := C.2.2.2.2.1
  have hg : GoodIn wsL_law (va_wsS own index y (wsW y b nL hh)) := by
    intro w hw
    have hin : w ∈ wsL_law := by
      rcases List.mem_append.mp hw with h1 | h1
      · rcases List.mem_cons.mp h1 with rfl | h1
        · exact kl
        · rcases List.mem_cons.mp h1 with rfl | h1
          · exact ks
          · rcases List.mem_cons.mp h1 with rfl | h1
            · exact Y.2.1
            · exact absurd h1 List.not_mem_nil
      · rcases List.mem_cons.mp h1 with rfl | h1
        · exact Y.1
        · exact h1
    exact ⟨hin, good_of_word (List.all_eq_true.mp kw_good _ hin)⟩
  have hF := va_free hD hS C.2.2.2.2.2.2.2.1 isC hC
  have hr := vx_runSW (l := l) (e := e) (below := below) (meth := meth) (R := R) (H := H) (locs := locs) (cells := cells) (slots := slots) (g := F0 m pc ls st0) (rest := rest) (cx_fix C) (hM H.size) (vx_cwSW n hts hg rfl rfl rfl Y.2.2 hrm) ⟨PcG_blind, pcG_ok C hS hP hD isC hC hn As⟩ rfl hlen hl hstk (lv_room hst) hdg hf
  refine va_calli hr hS (fun q _ h => hF q h) hF (fun r u t H1 locs1 ht hvm hw hB hz hk hS1 => ?_)
  have hB' : va_P D vwCl (w' u) H1 := ht ▸ hB
  obtain ⟨hP1, hD1⟩ := wjoin hP hD isC hC (hsm u) hk hB'
  exact kk r u H1 locs1 hw hP1 hD1 hS1
end CALLW
