/-! the row's places -/
section RowRs
variable {sr : Nat → Int32} {x : Nat → Nat} {y : Nat → Int32} {M : Nat} {p : Nat → Int32}
theorem RowR.n0 (h : RowR sr x y M p) : sr 0 = nI M := h.1
theorem RowR.pp (h : RowR sr x y M p) : ∀ k, k < M → sr (1 + k) = p k := h.2.1
theorem RowR.n13 (h : RowR sr x y M p) : sr 13 = nI (x 13) := h.2.2.1.1
theorem RowR.n14 (h : RowR sr x y M p) : sr 14 = nI (x 14) := h.2.2.1.2.1
theorem RowR.n15 (h : RowR sr x y M p) : sr 15 = nI (x 15) := h.2.2.1.2.2.1
theorem RowR.n18 (h : RowR sr x y M p) : sr 18 = nI (x 18) := h.2.2.1.2.2.2.1
theorem RowR.n19 (h : RowR sr x y M p) : sr 19 = nI (x 19) := h.2.2.1.2.2.2.2.1
theorem RowR.n20 (h : RowR sr x y M p) : sr 20 = nI (x 20) := h.2.2.1.2.2.2.2.2.1
theorem RowR.n22 (h : RowR sr x y M p) : sr 22 = nI (x 22) := h.2.2.1.2.2.2.2.2.2
theorem RowR.n16 (h : RowR sr x y M p) : sr 16 = y 16 := h.2.2.2.1.1
theorem RowR.n17 (h : RowR sr x y M p) : sr 17 = y 17 := h.2.2.2.1.2.1
theorem RowR.n21 (h : RowR sr x y M p) : sr 21 = y 21 := h.2.2.2.1.2.2.1
theorem RowR.n23 (h : RowR sr x y M p) : sr 23 = y 23 := h.2.2.2.1.2.2.2.1
theorem RowR.n24 (h : RowR sr x y M p) : sr 24 = y 24 := h.2.2.2.1.2.2.2.2
theorem RowR.tb (h : RowR sr x y M p) {k : Nat} (h1 : 25 ≤ k) (h2 : k < 457) : sr k = y k := h.2.2.2.2 k h1 h2
/-- a row by its places -/
theorem RowR.mk (h0 : sr 0 = nI M) (hp : ∀ k, k < M → sr (1 + k) = p k) (h13 : sr 13 = nI (x 13)) (h14 : sr 14 = nI (x 14)) (h15 : sr 15 = nI (x 15)) (h16 : sr 16 = y 16) (h17 : sr 17 = y 17) (h18 : sr 18 = nI (x 18)) (h19 : sr 19 = nI (x 19)) (h20 : sr 20 = nI (x 20)) (h21 : sr 21 = y 21) (h22 : sr 22 = nI (x 22)) (h23 : sr 23 = y 23) (h24 : sr 24 = y 24) (ht : ∀ k, 25 ≤ k → k < 457 → sr k = y k) : RowR sr x y M p :=
  ⟨h0, hp, ⟨h13, h14, h15, h18, h19, h20, h22⟩, ⟨h16, h17, h21, h23, h24⟩, ht⟩
theorem RowR.mv (h : RowR sr x y M p) (hM : M ≤ 12) (ht : x 15 ≤ 1) (m : Nat) : RowR (upd (upd (upd (upd sr (16 + x 15) (sr (16 + x 15) + cn p (x 13) (x 14) m)) 13 (nI (bh (x 13) m))) 14 (nI (x 14 - tk m))) 15 (nI (1 - x 15))) (mvX x m) (mvY p x y m) M p := by
  refine .mk ?_ ?_ ?_ ?_ ?_ ?_ ?_ ?_ ?_ ?_ ?_ ?_ ?_ ?_ ?_
  · rw [pk_un (by omega), pk_un (by omega), pk_un (by omega), pk_un (by omega)]; exact h.n0
  · intro k hk
    rw [pk_un (by omega), pk_un (by omega), pk_un (by omega), pk_un (by omega)]; exact h.pp k hk
  · rw [pk_un (by omega), pk_un (by omega), pk_us]; rfl
  · rw [pk_un (by omega), pk_us]; rfl
  · rw [pk_us]; rfl
  · rw [pk_un (by omega), pk_un (by omega), pk_un (by omega)]
    show _ = mk0 (x 15) (y 16) (cn p (x 13) (x 14) m)
    unfold mk0
    by_cases c : x 15 = 0
    · rw [c, if_pos rfl]
      show upd sr 16 _ 16 = _
      rw [pk_us, h.n16]
    · rw [if_neg c, pk_un (by omega)]; exact h.n16
  · rw [pk_un (by omega), pk_un (by omega), pk_un (by omega)]
    show _ = mk1 (x 15) (y 17) (cn p (x 13) (x 14) m)
    unfold mk1
    by_cases c : x 15 = 0
    · rw [c, if_pos rfl, pk_un (by omega)]; exact h.n17
    · have c1 : x 15 = 1 := by omega
      rw [if_neg c, c1]
      show upd sr 17 _ 17 = _
      rw [pk_us, h.n17]
  · rw [pk_un (by omega), pk_un (by omega), pk_un (by omega), pk_un (by omega)]; exact h.n18
  · rw [pk_un (by omega), pk_un (by omega), pk_un (by omega), pk_un (by omega)]; exact h.n19
  · rw [pk_un (by omega), pk_un (by omega), pk_un (by omega), pk_un (by omega)]; exact h.n20
  · rw [pk_un (by omega), pk_un (by omega), pk_un (by omega), pk_un (by omega)]; exact h.n21
  · rw [pk_un (by omega), pk_un (by omega), pk_un (by omega), pk_un (by omega)]; exact h.n22
  · rw [pk_un (by omega), pk_un (by omega), pk_un (by omega), pk_un (by omega)]; exact h.n23
  · rw [pk_un (by omega), pk_un (by omega), pk_un (by omega), pk_un (by omega)]; exact h.n24
  · intro k h1 h2
    rw [pk_un (by omega), pk_un (by omega), pk_un (by omega), pk_un (by omega), h.tb h1 h2]
    show _ = va_up (va_up y 16 _) 17 _ k
    rw [va_up_ne _ _ (by omega), va_up_ne _ _ (by omega)]
/-- a number of the row is written -/
theorem RowR.upX (h : RowR sr x y M p) (hM : M ≤ 12) {j v : Nat} (hj : j = 18 ∨ j = 19 ∨ j = 20) : RowR (upd sr j (nI v)) (va_up x j v) y M p := by
  have ne : ∀ i, ¬ i = j → upd sr j (nI v) i = sr i := fun i hi => pk_un hi
  have nx : ∀ i, ¬ i = j → va_up x j v i = x i := fun i hi => va_up_ne _ _ hi
  have eq : upd sr j (nI v) j = nI (va_up x j v j) := by rw [pk_us]; exact congrArg nI (if_pos rfl : va_up x j v j = v).symm
  refine .mk ?_ ?_ ?_ ?_ ?_ ?_ ?_ ?_ ?_ ?_ ?_ ?_ ?_ ?_ ?_
  · rw [ne _ (by omega)]; exact h.n0
  · intro k hk; rw [ne _ (by omega)]; exact h.pp k hk
  · rw [ne _ (by omega), nx _ (by omega)]; exact h.n13
  · rw [ne _ (by omega), nx _ (by omega)]; exact h.n14
  · rw [ne _ (by omega), nx _ (by omega)]; exact h.n15
  · rw [ne _ (by omega)]; exact h.n16
  · rw [ne _ (by omega)]; exact h.n17
  · by_cases c : 18 = j
    · subst c; exact eq
    · rw [ne _ c, nx _ c]; exact h.n18
  · by_cases c : 19 = j
    · subst c; exact eq
    · rw [ne _ c, nx _ c]; exact h.n19
  · by_cases c : 20 = j
    · subst c; exact eq
    · rw [ne _ c, nx _ c]; exact h.n20
  · rw [ne _ (by omega)]; exact h.n21
  · rw [ne _ (by omega), nx _ (by omega)]; exact h.n22
  · rw [ne _ (by omega)]; exact h.n23
  · rw [ne _ (by omega)]; exact h.n24
  · intro k h1 h2; rw [ne _ (by omega)]; exact h.tb h1 h2
/-- a new game of c piles -/
theorem RowR.ld {F s9 : Nat → Int32} {c : Nat} (h : RowR sr x y M p) (hc : c ≤ 12) (hk : KP s9 sr F c) : RowR (upd (upd (upd (upd (upd (upd s9 0 (nI c)) 13 0) 14 (nI c)) 15 0) 16 0) 17 0) (ldX x c) (ldY y) c F := by
  refine .mk ?_ ?_ ?_ ?_ ?_ ?_ ?_ ?_ ?_ ?_ ?_ ?_ ?_ ?_ ?_
  · rw [pk_un (by omega), pk_un (by omega), pk_un (by omega), pk_un (by omega), pk_un (by omega), pk_us]
  · intro k hk2
    rw [pk_un (by omega), pk_un (by omega), pk_un (by omega), pk_un (by omega), pk_un (by omega), pk_un (by omega)]; exact hk.1 k hk2
  · rw [pk_un (by omega), pk_un (by omega), pk_un (by omega), pk_un (by omega), pk_us]; rfl
  · rw [pk_un (by omega), pk_un (by omega), pk_un (by omega), pk_us]; rfl
  · rw [pk_un (by omega), pk_un (by omega), pk_us]; rfl
  · rw [pk_un (by omega), pk_us]; rfl
  · rw [pk_us]; rfl
  · rw [pk_un (by omega), pk_un (by omega), pk_un (by omega), pk_un (by omega), pk_un (by omega), pk_un (by omega), hk.2 _ (by omega)]; exact h.n18
  · rw [pk_un (by omega), pk_un (by omega), pk_un (by omega), pk_un (by omega), pk_un (by omega), pk_un (by omega), hk.2 _ (by omega)]; exact h.n19
  · rw [pk_un (by omega), pk_un (by omega), pk_un (by omega), pk_un (by omega), pk_un (by omega), pk_un (by omega), hk.2 _ (by omega)]; exact h.n20
  · rw [pk_un (by omega), pk_un (by omega), pk_un (by omega), pk_un (by omega), pk_un (by omega), pk_un (by omega), hk.2 _ (by omega)]; exact h.n21
  · rw [pk_un (by omega), pk_un (by omega), pk_un (by omega), pk_un (by omega), pk_un (by omega), pk_un (by omega), hk.2 _ (by omega)]; exact h.n22
  · rw [pk_un (by omega), pk_un (by omega), pk_un (by omega), pk_un (by omega), pk_un (by omega), pk_un (by omega), hk.2 _ (by omega)]; exact h.n23
  · rw [pk_un (by omega), pk_un (by omega), pk_un (by omega), pk_un (by omega), pk_un (by omega), pk_un (by omega), hk.2 _ (by omega)]; exact h.n24
  · intro k h1 h2
    rw [pk_un (by omega), pk_un (by omega), pk_un (by omega), pk_un (by omega), pk_un (by omega), pk_un (by omega), hk.2 _ (by omega), h.tb h1 h2]
    show _ = va_up (va_up y 16 0) 17 0 k
    rw [va_up_ne _ _ (by omega), va_up_ne _ _ (by omega)]
end RowRs
theorem KP_zr {sr s0 F : Nat → Int32} {c k : Nat} {v : Int32} (h : KP sr s0 F c) (h1 : c ≤ k) (h2 : k < 12) : KP (upd sr (1 + k) v) s0 F c := by
  refine ⟨fun j hj => ?_, fun j hj => ?_⟩
  · rw [pk_un (by omega)]; exact h.1 j hj
  · rw [pk_un (by omega)]; exact h.2 j hj
/-- within bounds, as the reference asks it -/
theorem nin {k lo hi : Nat} (h1 : lo ≤ k) (h2 : k ≤ hi) (hb : hi < 2 ^ 31) : ¬ nI k < nI lo ∧ ¬ nI hi < nI k :=
  ⟨fun h => by have := (nI_ltI (by omega) (by omega)).mp h; omega, fun h => by have := (nI_ltI (by omega) (by omega)).mp h; omega⟩
