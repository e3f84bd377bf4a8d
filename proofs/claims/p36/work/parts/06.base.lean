/-! the ambient premises of every method: the classes, the links between nest mates, the texts, the table of the orders, what a throw needs -/
/-- the array classes; the table of the orders; the script: its cell, its length, its ints -/
abbrev u_G : Type := ClassId × ClassId × ClassId × Nat × Nat × Nat × (Nat → Int32)
abbrev tysG (G : u_G) : List (ClassId × FieldType) := [(G.1, .int), (G.2.1, .object "BoundSearch$State")]
def nwl : List Cond := [.methodLinkNest RX7 9 yX6_init "BoundSearch", .methodLinkNest RX6 11 yX2_init "BoundSearch", .methodLinkNest RX6 20 yX0_init "BoundSearch", .methodLinkNest RX3 24 yX6_init "BoundSearch", .methodLinkNest RX7 25 yX4_init "BoundSearch", .methodLinkNest RX7 32 yX1_init "BoundSearch", .methodLinkNest RX7 39 yX5_init "BoundSearch", .methodLinkNest RX5 11 yX0_init "BoundSearch", .methodLinkNest RX1 36 yX7_cell "BoundSearch", .methodLinkNest RX1 47 yX7_at "BoundSearch", .methodLinkNest RX2 31 yX7_copy "BoundSearch", .methodLinkNest RX0 31 yX7_copy "BoundSearch", .methodLinkNest RX5 48 yX7_copy "BoundSearch", .methodLinkNest RX0 35 yX7_put "BoundSearch", .methodLinkNest RX5 77 yX7_cell "BoundSearch", .methodLinkNest RX5 91 yX7_at "BoundSearch", .methodLinkNest RX5 108 yX7_moveOfOrder "BoundSearch", .methodLinkNest RX5 111 yX7_isPossible "BoundSearch", .methodLinkNest RX5 115 yX7_gainOf "BoundSearch", .methodLinkNest RX5 124 yX7_firstAfter "BoundSearch", .methodLinkNest RX5 127 yX7_leftAfter "BoundSearch", .methodLinkNest RX5 101 yX7_put "BoundSearch", .methodLinkNest RX4 32 yX7_at "BoundSearch", .methodLinkNest RX4 44 yX7_put "BoundSearch", .methodLinkNest RX1 51 yX7_isMove "BoundSearch", .methodLinkNest RX1 55 yX7_isPossible "BoundSearch", .methodLinkNest RX1 59 yX7_firstAfter "BoundSearch", .methodLinkNest RX1 62 yX7_leftAfter "BoundSearch", .methodLinkNest RX1 68 yX7_gainOf "BoundSearch", .methodLinkNest RX1 21 yX7_copy "BoundSearch", .methodLinkNest RX1 43 yX7_put "BoundSearch", .methodLinkNest RX2 35 yX7_gainOf "BoundSearch", .methodLinkNest RX2 39 yX7_firstAfter "BoundSearch", .methodLinkNest RX2 43 yX7_leftAfter "BoundSearch", .castable "java/lang/IllegalStateException" "java/lang/IllegalStateException", .castable "java/lang/IllegalArgumentException" "java/lang/IllegalArgumentException", .castable "java/lang/IndexOutOfBoundsException" "java/lang/IndexOutOfBoundsException", .declares ⟨"java/lang/RuntimeException", "<init>", "()V"⟩, .declares ⟨"java/lang/RuntimeException", "<init>", "(Ljava/lang/String;)V"⟩, .declares ⟨"java/lang/Exception", "<init>", "()V"⟩, .declares ⟨"java/lang/Exception", "<init>", "(Ljava/lang/String;)V"⟩, .declares ⟨"java/lang/Throwable", "<init>", "()V"⟩, .declares ⟨"java/lang/Throwable", "<init>", "(Ljava/lang/String;)V"⟩]
theorem nw_0 : (.methodLinkNest RX7 9 yX6_init "BoundSearch" : Cond) ∈ nwl := List.mem_of_getElem? (i := 0) rfl
theorem nw_1 : (.methodLinkNest RX6 11 yX2_init "BoundSearch" : Cond) ∈ nwl := List.mem_of_getElem? (i := 1) rfl
theorem nw_2 : (.methodLinkNest RX6 20 yX0_init "BoundSearch" : Cond) ∈ nwl := List.mem_of_getElem? (i := 2) rfl
theorem nw_3 : (.methodLinkNest RX3 24 yX6_init "BoundSearch" : Cond) ∈ nwl := List.mem_of_getElem? (i := 3) rfl
theorem nw_4 : (.methodLinkNest RX7 25 yX4_init "BoundSearch" : Cond) ∈ nwl := List.mem_of_getElem? (i := 4) rfl
theorem nw_5 : (.methodLinkNest RX7 32 yX1_init "BoundSearch" : Cond) ∈ nwl := List.mem_of_getElem? (i := 5) rfl
theorem nw_6 : (.methodLinkNest RX7 39 yX5_init "BoundSearch" : Cond) ∈ nwl := List.mem_of_getElem? (i := 6) rfl
theorem nw_7 : (.methodLinkNest RX5 11 yX0_init "BoundSearch" : Cond) ∈ nwl := List.mem_of_getElem? (i := 7) rfl
theorem nw_8 : (.methodLinkNest RX1 36 yX7_cell "BoundSearch" : Cond) ∈ nwl := List.mem_of_getElem? (i := 8) rfl
theorem nw_9 : (.methodLinkNest RX1 47 yX7_at "BoundSearch" : Cond) ∈ nwl := List.mem_of_getElem? (i := 9) rfl
theorem nw_10 : (.methodLinkNest RX2 31 yX7_copy "BoundSearch" : Cond) ∈ nwl := List.mem_of_getElem? (i := 10) rfl
theorem nw_11 : (.methodLinkNest RX0 31 yX7_copy "BoundSearch" : Cond) ∈ nwl := List.mem_of_getElem? (i := 11) rfl
theorem nw_12 : (.methodLinkNest RX5 48 yX7_copy "BoundSearch" : Cond) ∈ nwl := List.mem_of_getElem? (i := 12) rfl
theorem nw_13 : (.methodLinkNest RX0 35 yX7_put "BoundSearch" : Cond) ∈ nwl := List.mem_of_getElem? (i := 13) rfl
theorem nw_14 : (.methodLinkNest RX5 77 yX7_cell "BoundSearch" : Cond) ∈ nwl := List.mem_of_getElem? (i := 14) rfl
theorem nw_15 : (.methodLinkNest RX5 91 yX7_at "BoundSearch" : Cond) ∈ nwl := List.mem_of_getElem? (i := 15) rfl
theorem nw_16 : (.methodLinkNest RX5 108 yX7_moveOfOrder "BoundSearch" : Cond) ∈ nwl := List.mem_of_getElem? (i := 16) rfl
theorem nw_17 : (.methodLinkNest RX5 111 yX7_isPossible "BoundSearch" : Cond) ∈ nwl := List.mem_of_getElem? (i := 17) rfl
theorem nw_18 : (.methodLinkNest RX5 115 yX7_gainOf "BoundSearch" : Cond) ∈ nwl := List.mem_of_getElem? (i := 18) rfl
theorem nw_19 : (.methodLinkNest RX5 124 yX7_firstAfter "BoundSearch" : Cond) ∈ nwl := List.mem_of_getElem? (i := 19) rfl
theorem nw_20 : (.methodLinkNest RX5 127 yX7_leftAfter "BoundSearch" : Cond) ∈ nwl := List.mem_of_getElem? (i := 20) rfl
theorem nw_21 : (.methodLinkNest RX5 101 yX7_put "BoundSearch" : Cond) ∈ nwl := List.mem_of_getElem? (i := 21) rfl
theorem nw_22 : (.methodLinkNest RX4 32 yX7_at "BoundSearch" : Cond) ∈ nwl := List.mem_of_getElem? (i := 22) rfl
theorem nw_23 : (.methodLinkNest RX4 44 yX7_put "BoundSearch" : Cond) ∈ nwl := List.mem_of_getElem? (i := 23) rfl
theorem nw_24 : (.methodLinkNest RX1 51 yX7_isMove "BoundSearch" : Cond) ∈ nwl := List.mem_of_getElem? (i := 24) rfl
theorem nw_25 : (.methodLinkNest RX1 55 yX7_isPossible "BoundSearch" : Cond) ∈ nwl := List.mem_of_getElem? (i := 25) rfl
theorem nw_26 : (.methodLinkNest RX1 59 yX7_firstAfter "BoundSearch" : Cond) ∈ nwl := List.mem_of_getElem? (i := 26) rfl
theorem nw_27 : (.methodLinkNest RX1 62 yX7_leftAfter "BoundSearch" : Cond) ∈ nwl := List.mem_of_getElem? (i := 27) rfl
theorem nw_28 : (.methodLinkNest RX1 68 yX7_gainOf "BoundSearch" : Cond) ∈ nwl := List.mem_of_getElem? (i := 28) rfl
theorem nw_29 : (.methodLinkNest RX1 21 yX7_copy "BoundSearch" : Cond) ∈ nwl := List.mem_of_getElem? (i := 29) rfl
theorem nw_30 : (.methodLinkNest RX1 43 yX7_put "BoundSearch" : Cond) ∈ nwl := List.mem_of_getElem? (i := 30) rfl
theorem nw_31 : (.methodLinkNest RX2 35 yX7_gainOf "BoundSearch" : Cond) ∈ nwl := List.mem_of_getElem? (i := 31) rfl
theorem nw_32 : (.methodLinkNest RX2 39 yX7_firstAfter "BoundSearch" : Cond) ∈ nwl := List.mem_of_getElem? (i := 32) rfl
theorem nw_33 : (.methodLinkNest RX2 43 yX7_leftAfter "BoundSearch" : Cond) ∈ nwl := List.mem_of_getElem? (i := 33) rfl
theorem nw_34 : (.castable "java/lang/IllegalStateException" "java/lang/IllegalStateException" : Cond) ∈ nwl := List.mem_of_getElem? (i := 34) rfl
theorem nw_35 : (.castable "java/lang/IllegalArgumentException" "java/lang/IllegalArgumentException" : Cond) ∈ nwl := List.mem_of_getElem? (i := 35) rfl
theorem nw_36 : (.castable "java/lang/IndexOutOfBoundsException" "java/lang/IndexOutOfBoundsException" : Cond) ∈ nwl := List.mem_of_getElem? (i := 36) rfl
theorem nw_37 : (.declares ⟨"java/lang/RuntimeException", "<init>", "()V"⟩ : Cond) ∈ nwl := List.mem_of_getElem? (i := 37) rfl
theorem nw_38 : (.declares ⟨"java/lang/RuntimeException", "<init>", "(Ljava/lang/String;)V"⟩ : Cond) ∈ nwl := List.mem_of_getElem? (i := 38) rfl
theorem nw_39 : (.declares ⟨"java/lang/Exception", "<init>", "()V"⟩ : Cond) ∈ nwl := List.mem_of_getElem? (i := 39) rfl
theorem nw_40 : (.declares ⟨"java/lang/Exception", "<init>", "(Ljava/lang/String;)V"⟩ : Cond) ∈ nwl := List.mem_of_getElem? (i := 40) rfl
theorem nw_41 : (.declares ⟨"java/lang/Throwable", "<init>", "()V"⟩ : Cond) ∈ nwl := List.mem_of_getElem? (i := 41) rfl
theorem nw_42 : (.declares ⟨"java/lang/Throwable", "<init>", "(Ljava/lang/String;)V"⟩ : Cond) ∈ nwl := List.mem_of_getElem? (i := 42) rfl
set_option maxRecDepth 100000 in
theorem nwl_in : ∀ w ∈ nwl, w ∈ lw_tbl := by decide +kernel
def skl : List (Nat × String) := [(252, "no state is saved"), (165, "depth is out of range"), (167, "lower is out of range"), (169, "upper is out of range"), (218, "order is out of range"), (237, "code is out of range"), (239, "the buffer is full"), (50, "the buffer is not a row text"), (93, "there is no such move"), (102, "the move is not possible"), (109, "moves is out of range"), (225, "limit is out of range"), (130, "there is no such player"), (118, "there is no such pile"), (149, "index is negative"), (207, "there is no such position"), (220, "index is out of range")]
theorem sk_0 : ((252, "no state is saved") : Nat × String) ∈ skl := List.mem_of_getElem? (i := 0) rfl
theorem sk_1 : ((165, "depth is out of range") : Nat × String) ∈ skl := List.mem_of_getElem? (i := 1) rfl
theorem sk_2 : ((167, "lower is out of range") : Nat × String) ∈ skl := List.mem_of_getElem? (i := 2) rfl
theorem sk_3 : ((169, "upper is out of range") : Nat × String) ∈ skl := List.mem_of_getElem? (i := 3) rfl
theorem sk_4 : ((218, "order is out of range") : Nat × String) ∈ skl := List.mem_of_getElem? (i := 4) rfl
theorem sk_5 : ((237, "code is out of range") : Nat × String) ∈ skl := List.mem_of_getElem? (i := 5) rfl
theorem sk_6 : ((239, "the buffer is full") : Nat × String) ∈ skl := List.mem_of_getElem? (i := 6) rfl
theorem sk_7 : ((50, "the buffer is not a row text") : Nat × String) ∈ skl := List.mem_of_getElem? (i := 7) rfl
theorem sk_8 : ((93, "there is no such move") : Nat × String) ∈ skl := List.mem_of_getElem? (i := 8) rfl
theorem sk_9 : ((102, "the move is not possible") : Nat × String) ∈ skl := List.mem_of_getElem? (i := 9) rfl
theorem sk_10 : ((109, "moves is out of range") : Nat × String) ∈ skl := List.mem_of_getElem? (i := 10) rfl
theorem sk_11 : ((225, "limit is out of range") : Nat × String) ∈ skl := List.mem_of_getElem? (i := 11) rfl
theorem sk_12 : ((130, "there is no such player") : Nat × String) ∈ skl := List.mem_of_getElem? (i := 12) rfl
theorem sk_13 : ((118, "there is no such pile") : Nat × String) ∈ skl := List.mem_of_getElem? (i := 13) rfl
theorem sk_14 : ((149, "index is negative") : Nat × String) ∈ skl := List.mem_of_getElem? (i := 14) rfl
theorem sk_15 : ((207, "there is no such position") : Nat × String) ∈ skl := List.mem_of_getElem? (i := 15) rfl
theorem sk_16 : ((220, "index is out of range") : Nat × String) ∈ skl := List.mem_of_getElem? (i := 16) rfl
def isNw : Cond → Bool
  | .methodLinkNest .. => true
  | .fieldLinkNest .. => true
  | .castable .. => true
  | .declares .. => true
  | _ => false
set_option maxRecDepth 100000 in
theorem nwl_is : nwl.all isNw = true := by decide +kernel
theorem isNw_ot {w : Cond} (h : isNw w = true) : w.onTables = true := by
  cases w <;> first | rfl | (simp [isNw] at h)
theorem isNw_warm {w : Cond} (h : isNw w = true) {s U : State} (hW : s.WarmedH U.vm) (hz : va_Nw w s) : va_Nw w U := by
  cases w <;> first | exact va_Nw.warmM hW hz | exact va_Nw.warmF hW hz | exact va_Nw.warmC hW hz | exact va_Nw.warmD hW hz | (simp [isNw] at h)
def NW (U : State) : Prop := ∀ w ∈ nwl, va_Nw w U
theorem NW.warm {s U : State} (hW : s.WarmedH U.vm) (h : NW s) : NW U := fun w hw => isNw_warm (List.all_eq_true.mp nwl_is w hw) hW (h w hw)
theorem NW.same {s U : State} (hv : s.vm = U.vm) (h : NW s) : NW U := fun w hw => va_Nw.same (isNw_ot (List.all_eq_true.mp nwl_is w hw)) hv (h w hw)
def SK (U : State) : Prop := ∀ x ∈ skl, ∃ sa : Nat, vk_R RX7 x.1 x.2 sa U
theorem SK.warm {s U : State} (hW : s.WarmedH U.vm) (h : SK s) : SK U := fun x hx => (h x hx).elim fun sa hs => ⟨sa, vk_R.warm hW hs⟩
theorem SK.same {s U : State} (hv : U.vm = s.vm) (h : SK s) : SK U := fun x hx => (h x hx).elim fun sa hs => ⟨sa, vk_R.same hv hs⟩
def NC (U : State) : Prop := va_Nc "java/lang/IllegalStateException" "java/lang/IndexOutOfBoundsException" U ∧ va_Nc "java/lang/IllegalStateException" "java/lang/IllegalArgumentException" U ∧ va_AO "BoundSearch$State" U
theorem NC.moved {s U : State} (hv : s.vm.Alike U.vm) (h : NC s) : NC U := ⟨h.1.moved hv, h.2.1.moved hv, va_AO.moved hv h.2.2⟩

def ordL : List Nat := [0, 1, 2, 3, 0, 1, 3, 2, 0, 2, 1, 3, 0, 2, 3, 1, 0, 3, 1, 2, 0, 3, 2, 1, 1, 0, 2, 3, 1, 0, 3, 2, 1, 2, 0, 3, 1, 2, 3, 0, 1, 3, 0, 2, 1, 3, 2, 0, 2, 0, 1, 3, 2, 0, 3, 1, 2, 1, 0, 3, 2, 1, 3, 0, 2, 3, 0, 1, 2, 3, 1, 0, 3, 0, 1, 2, 3, 0, 2, 1, 3, 1, 0, 2, 3, 1, 2, 0, 3, 2, 0, 1, 3, 2, 1, 0]
def ordN (j : Nat) : Nat := ordL.getD j 0
theorem ordN_lt : ∀ j, j < 96 → ordN j < 4 := by decide +kernel
abbrev ordM (j : Nat) : Int32 := nI (ordN j)
def tb (t : Nat × Nat × Nat × (Nat → Int32)) (A : Nat → Prop) (U : State) (H : Heap) : Prop := va_Z "BoundSearch" "ORDER_MOVES" "[I" (.ref t.1) A U H ∧ va_T .int t.1 96 (fun j => .int (ordM j)) A U H ∧ va_T .int t.2.1 t.2.2.1 (fun j => .int (t.2.2.2 j)) A U H
theorem tb.moved {t : Nat × Nat × Nat × (Nat → Int32)} {A : Nat → Prop} {u U : State} {H : Heap} (hvm : u.vm.Alike U.vm) (h : tb t A u H) : tb t A U H := ⟨va_Z.moved hvm h.1, va_T.moved hvm h.2.1, va_T.moved hvm h.2.2⟩
theorem tb.kept {t : Nat × Nat × Nat × (Nat → Int32)} {A : Nat → Prop} {U : State} {H H1 : Heap} (h : tb t A U H) (hq : ∀ a : Nat, a < H.size → ¬ A a → H1[a]? = H[a]?) : tb t A U H1 := ⟨h.1.kept hq, h.2.1.kept hq, h.2.2.kept hq⟩
theorem tb.narrow {t : Nat × Nat × Nat × (Nat → Int32)} {A B : Nat → Prop} {U : State} {H : Heap} (h : tb t A U H) (hAB : ∀ q, B q → A q) : tb t B U H := ⟨h.1.narrow hAB, h.2.1.narrow hAB, h.2.2.narrow hAB⟩
def thU (A : Nat → Prop) (U : State) (H : Heap) : Prop := vx_Zq Bundle.tN "UNASSIGNED_STACK" Bundle.steD A U H ∧ vx_Zq Bundle.tN "SUPPRESSED_SENTINEL" Bundle.listD A U H
def Amb (D : va_G) (G : u_G) (A : Nat → Prop) (U : State) (H : Heap) : Prop := va_K D vwCl (tysG G) U ∧ NW U ∧ SK U ∧ NC U ∧ tb G.2.2.2 A U H ∧ thU A U H
theorem Amb.call {D : va_G} {G : u_G} {A B : Nat → Prop} {s U : State} {H : Heap} {locs : List Loc} (h : Amb D G A s s.heap) (hS : va_S A s.heap H locs) (hAB : ∀ q, B q → A q) (hU : U.heap = H) (hW : s.WarmedH U.vm) : Amb D G B U U.heap := by
  obtain ⟨h1, h2, h3, h4, h5, h6, h7⟩ := h
  have hk := hS.2.1
  rw [hU]
  exact ⟨va_K.moved hW.alike h1, h2.warm hW, h3.warm hW, h4.moved hW.alike, tb.moved hW.alike ((h5.kept hk).narrow hAB), vx_Zq.moved hW.alike ((h6.kept hk).narrow hAB), vx_Zq.moved hW.alike ((h7.kept hk).narrow hAB)⟩
theorem Amb.same {D : va_G} {G : u_G} {A : Nat → Prop} {s U : State} {H : Heap} (h : Amb D G A s H) (hv : U.vm = s.vm) : Amb D G A U H := by
  obtain ⟨h1, h2, h3, h4, h5, h6, h7⟩ := h
  have ha : s.vm.Alike U.vm := by rw [hv]; exact Vm.Alike.refl s.vm
  exact ⟨va_K.moved ha h1, h2.same hv.symm, h3.same hv, h4.moved ha, tb.moved ha h5, vx_Zq.moved ha h6, vx_Zq.moved ha h7⟩
/-- a world without another's cells: puts the cells of w at the places isC -/
def wput (ws : va_W) : List Nat → va_W → va_W
  | i :: is, e :: w => wput (ws.set i e) is w
  | _, _ => ws
abbrev rmG (h mc ms : Nat) : Room := { frames := h, cells := mc, slots := ms, locals := 40 * h }
def BG (D : va_G) (G : u_G) (w : va_W) (sz : Nat) (U : State) : Prop := U.heap.size = sz ∧ va_P D vwCl w U.heap ∧ va_D (fun _ => True) w ∧ Amb D G (va_A w sz) U U.heap
abbrev PcG (D : va_G) (G : u_G) (av : List Value) (w : va_W) (sz : Nat) : Array Value → State → Prop := va_Pc av (BG D G w sz)
theorem PcG_blind {D : va_G} {G : u_G} {av : List Value} {w : va_W} {sz : Nat} : FrameBlind (PcG D G av w sz) := by
  intro a U g mk q
  obtain ⟨q0, q1, q2, q3, q4⟩ := q
  exact ⟨q0, q1, q2, q3, Amb.same q4 rfl⟩
abbrev WB (D : va_G) (w : va_W) (t : State) : Prop := va_P D vwCl w t.heap
/-- a method's words: its code, and all the law's -/
abbrev wsG (y : MethodName) (b : ByteArray) (nL : Nat) (rt : Option FieldType) : List Cond := .code y b nL rt :: wsL_law
/-- contracts: an int (or a boolean) is answered; nothing; a long. p: what is known of the answer and of u; w': the world behind it -/
def MtI {S : Type} (l : Launch) (D : va_G) (G : u_G) (y : MethodName) (b : ByteArray) (nL : Nat) (rt : FieldType) (h mc ms : Nat) (av : List Value) (w : va_W) (p : Int32 → S → Prop) (w' : S → va_W) : Prop :=
  ∀ sz, Met l y (wsG y b nL (some rt)) (rmG h mc ms) (PcG D G av w sz) (va_Qi p (fun u t => WB D (w' u) t) (va_A w sz)) mc ms (va_A w sz)
def MtV {S : Type} (l : Launch) (D : va_G) (G : u_G) (y : MethodName) (b : ByteArray) (nL : Nat) (h mc ms : Nat) (av : List Value) (w : va_W) (p : S → Prop) (w' : S → va_W) : Prop :=
  ∀ sz, Met l y (wsG y b nL none) (rmG h mc ms) (PcG D G av w sz) (va_Qv p (fun u t => WB D (w' u) t ∧ va_D (va_A w sz) (w' u)) (va_A w sz)) mc ms (va_A w sz)
def MtL {S : Type} (l : Launch) (D : va_G) (G : u_G) (y : MethodName) (b : ByteArray) (nL : Nat) (h mc ms : Nat) (av : List Value) (w : va_W) (p : Int64 → S → Prop) (w' : S → va_W) : Prop :=
  ∀ sz, Met l y (wsG y b nL (some .long)) (rmG h mc ms) (PcG D G av w sz) (va_Ql p (fun u t => WB D (w' u) t) (va_A w sz)) mc ms (va_A w sz)
/-- what a body has at hand -/
def Cx (p : Program) (m : MethodId) (s : State) (args : Array Value) (meth : Method) (c : Code) (cc : ByteArray) (nL : Nat) (own : String) (rt : Option FieldType) (A : Nat → Prop) (D : va_G) (G : u_G) : Prop :=
  p.tables.exec = Jvm.exec ∧ c.code = cc ∧ c.maxLocals = nL ∧ s.vm.findClass own = some m.cls ∧ (∀ w ∈ wsL_law, w.before args s = true) ∧ meth.sig.returnType = rt ∧ meth.locks = false ∧ (∀ q : Nat, s.heap.size ≤ q → A q) ∧ Amb D G A s s.heap
section BODIES
variable {S : Type} {l : Launch} {D : va_G} {G : u_G} {y : MethodName} {b : ByteArray} {nL : Nat} {rt : FieldType} {h mc ms : Nat} {av : List Value} {w : va_W}
theorem MtI.of {p : Int32 → S → Prop} {w' : S → va_W} (hy : plainName y.cls = true) (hn : (lg_sl av).length ≤ nL)
    (body : ∀ (pr : Program) (e : Env) (s : State) (m : MethodId) (below : List Frame) (meth : Method) (c : Code) (A : Nat → Prop) (ls : Array Slot), Cx pr m s av.toArray meth c b nL y.cls (some rt) A D G → va_P D vwCl w s.heap → va_D A w → lv_has ls nL (lv_args 0 av) →
      W pr l e (rmG h mc ms) s m av.toArray below meth c s.heap [] 0 0 (MQ below (va_Qi p (fun u t => WB D (w' u) t) A) av.toArray s mc ms A) (F0 m 0 ls [])) : MtI l D G y b nL rt h mc ms av w p w' := by
  intro sz
  refine Met.ofW (cc := b) (maxL := nL) (ret := some rt) hy rfl ?_
  intro pr e s m args below meth c s₁ B hml hv
  obtain ⟨rfl, rfl, hP, hD0, hAm⟩ := hv
  have hts := atoms_spec (ws := wsG y b nL (some rt)) B.pre
  have hD := hD0.self (sz := s.heap.size)
  rw [lg_entry_eq]
  exact body pr e s m below meth c _ _ ⟨B.exec, B.bytes, hml, findClass_of_methodNamed B.named, fun x hx => hts x (List.mem_cons_of_mem _ hx), B.returns, B.notSynchronized, fun q hq => Or.inr hq, hAm⟩ hP hD (lv_entry av hn)
theorem MtV.of {p : S → Prop} {w' : S → va_W} (hy : plainName y.cls = true) (hn : (lg_sl av).length ≤ nL)
    (body : ∀ (pr : Program) (e : Env) (s : State) (m : MethodId) (below : List Frame) (meth : Method) (c : Code) (A : Nat → Prop) (ls : Array Slot), Cx pr m s av.toArray meth c b nL y.cls none A D G → va_P D vwCl w s.heap → va_D A w → lv_has ls nL (lv_args 0 av) → (y.name = "<init>" → meth.name = "<init>") →
      W pr l e (rmG h mc ms) s m av.toArray below meth c s.heap [] 0 0 (MQ below (va_Qv p (fun u t => WB D (w' u) t ∧ va_D A (w' u)) A) av.toArray s mc ms A) (F0 m 0 ls [])) : MtV l D G y b nL h mc ms av w p w' := by
  intro sz
  refine Met.ofW (cc := b) (maxL := nL) (ret := none) hy rfl ?_
  intro pr e s m args below meth c s₁ B hml hv
  obtain ⟨rfl, rfl, hP, hD0, hAm⟩ := hv
  have hts := atoms_spec (ws := wsG y b nL none) B.pre
  have hD := hD0.self (sz := s.heap.size)
  rw [lg_entry_eq]
  exact body pr e s m below meth c _ _ ⟨B.exec, B.bytes, hml, findClass_of_methodNamed B.named, fun x hx => hts x (List.mem_cons_of_mem _ hx), B.returns, B.notSynchronized, fun q hq => Or.inr hq, hAm⟩ hP hD (lv_entry av hn) (fun h9 => (name_of_methodNamed B.named B.method).1.trans h9)
theorem MtL.of {p : Int64 → S → Prop} {w' : S → va_W} (hy : plainName y.cls = true) (hn : (lg_sl av).length ≤ nL)
    (body : ∀ (pr : Program) (e : Env) (s : State) (m : MethodId) (below : List Frame) (meth : Method) (c : Code) (A : Nat → Prop) (ls : Array Slot), Cx pr m s av.toArray meth c b nL y.cls (some .long) A D G → va_P D vwCl w s.heap → va_D A w → lv_has ls nL (lv_args 0 av) →
      W pr l e (rmG h mc ms) s m av.toArray below meth c s.heap [] 0 0 (MQ below (va_Ql p (fun u t => WB D (w' u) t) A) av.toArray s mc ms A) (F0 m 0 ls [])) : MtL l D G y b nL h mc ms av w p w' := by
  intro sz
  refine Met.ofW (cc := b) (maxL := nL) (ret := some .long) hy rfl ?_
  intro pr e s m args below meth c s₁ B hml hv
  obtain ⟨rfl, rfl, hP, hD0, hAm⟩ := hv
  have hts := atoms_spec (ws := wsG y b nL (some .long)) B.pre
  have hD := hD0.self (sz := s.heap.size)
  rw [lg_entry_eq]
  exact body pr e s m below meth c _ _ ⟨B.exec, B.bytes, hml, findClass_of_methodNamed B.named, fun x hx => hts x (List.mem_cons_of_mem _ hx), B.returns, B.notSynchronized, fun q hq => Or.inr hq, hAm⟩ hP hD (lv_entry av hn)
end BODIES

