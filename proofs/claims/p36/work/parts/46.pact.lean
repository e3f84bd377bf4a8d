/-! the property, pure: numbers of refused calls; the calls of a step -/
theorem big_le {n : Nat} (k : Nat) (h : k < n) (hn : n < 2 ^ 31) : ¬ nI n ≤ nI k := fun h9 => absurd (nle_t hn (by omega) h9) (by omega)
theorem big_lt {n : Nat} (k : Nat) (h : k ≤ n) (hn : n < 2 ^ 31) : ¬ nI n < nI k := fun h9 => absurd (nlt_t hn (by omega) h9) (by omega)
theorem le_big {n : Nat} (k : Nat) (h : k ≤ n) (hn : n < 2 ^ 31) : nI k ≤ nI n := (nI_leI (by omega) hn).mpr h
theorem lt_big {n : Nat} (k : Nat) (h : k < n) (hn : n < 2 ^ 31) : nI k < nI n := (nI_ltI (by omega) hn).mpr h
theorem low_int {y : Nat} (hy : y < 100000) {c : Int32} (h1 : -1000 ≤ c.toInt) (h2 : c.toInt ≤ 1000) : (c - nI y).toInt = c.toInt - (y : Int) := by
  have e : (nI y).toInt = (y : Int) := nI_toInt (by omega)
  have h3 : sm c 1000 := ⟨h1, h2⟩
  have h4 : sm (nI y) 100000 := ⟨by omega, by omega⟩
  rw [(sm_sub h3 h4 (by omega)).2, e]
theorem m1_neg {y : Nat} (hy : y < 100000) : (-1 : Int32) - nI y < 0 := by
  have e : (-1 : Int32).toInt = -1 := by decide
  rw [Int32.lt_iff_toInt_lt, low_int hy (by omega) (by omega), e]
  show -1 - (y : Int) < 0
  omega
theorem m241 {y : Nat} (hy : y < 100000) : (-241 : Int32) - nI y < -240 := by
  have e : (-241 : Int32).toInt = -241 := by decide
  have e2 : (-240 : Int32).toInt = -240 := by decide
  rw [Int32.lt_iff_toInt_lt, low_int hy (by omega) (by omega), e, e2]
  omega
theorem p32 {y : Nat} (hy : y < 100000) : (32 : Int32) - nI y < 33 := by
  have e : (32 : Int32).toInt = 32 := by decide
  have e2 : (33 : Int32).toInt = 33 := by decide
  rw [Int32.lt_iff_toInt_lt, low_int hy (by omega) (by omega), e, e2]
  omega
theorem lt0_nle {x : Int32} (h : x < 0) : ¬ 0 ≤ x := by
  rw [Int32.lt_iff_toInt_lt] at h
  rw [Int32.le_iff_toInt_le]
  omega
/-- a number that is no move, no player, no place of an order -/
def NoI (v : Int32) : Prop := v.toInt < 0 ∨ 4 ≤ v.toInt
theorem NoI.mv {v : Int32} (h : NoI v) : ¬ (¬ v < 0 ∧ ¬ 4 ≤ v) := by
  have e0 : (0 : Int32).toInt = 0 := rfl
  have e4 : (4 : Int32).toInt = 4 := by decide
  rintro ⟨h1, h2⟩
  rw [Int32.lt_iff_toInt_lt, e0] at h1
  rw [Int32.le_iff_toInt_le, e4] at h2
  unfold NoI at h
  omega
theorem NoI.le1 {v : Int32} (h : NoI v) : v < 0 ∨ ¬ v ≤ 1 := by
  have e0 : (0 : Int32).toInt = 0 := rfl
  have e1 : (1 : Int32).toInt = 1 := by decide
  rw [Int32.lt_iff_toInt_lt, Int32.le_iff_toInt_le, e0, e1]
  unfold NoI at h
  omega
theorem NoI.lt4 {v : Int32} (h : NoI v) : v < 0 ∨ ¬ v < 4 := by
  have e0 : (0 : Int32).toInt = 0 := rfl
  have e4 : (4 : Int32).toInt = 4 := by decide
  rw [Int32.lt_iff_toInt_lt, Int32.lt_iff_toInt_lt, e0, e4]
  unfold NoI at h
  omega
theorem NoI.hi {y : Nat} (hy : y < 100000) : NoI (nI (4 + y)) := by
  right
  rw [nI_toInt (by omega)]
  omega
theorem NoI.lo {y : Nat} (hy : y < 100000) : NoI ((-1 : Int32) - nI y) := by
  left
  have h := m1_neg hy
  rw [Int32.lt_iff_toInt_lt] at h
  exact h
/-- the numbers of a step -/
def mnA (G : u_G) (k : Nat) : Nat := 1 + ceN G k / 16 % 12
/-- the bounds of a step's search -/
def loA (G : u_G) (k : Nat) : Int32 := nI (ceN G k / 16 / 16 % 91) - 45
def hiA (G : u_G) (k : Nat) : Int32 := loA G k + 1 + nI (ceN G k / 16 / 2048 % 60)
theorem loA_int (G : u_G) (k : Nat) : (loA G k).toInt = ((ceN G k / 16 / 16 % 91 : Nat) : Int) - 45 := by
  have e : (nI (ceN G k / 16 / 16 % 91)).toInt = ((ceN G k / 16 / 16 % 91 : Nat) : Int) := nI_toInt (by omega)
  have e2 : (45 : Int32).toInt = 45 := by decide
  unfold loA
  rw [(sm_sub (x := nI (ceN G k / 16 / 16 % 91)) (y := 45) (a := 100) (b := 45) ⟨by omega, by omega⟩ ⟨by omega, by omega⟩ (by omega)).2, e, e2]
theorem hiA_int (G : u_G) (k : Nat) : (hiA G k).toInt = (loA G k).toInt + 1 + ((ceN G k / 16 / 2048 % 60 : Nat) : Int) := by
  have h1 := loA_int G k
  have e : (nI (ceN G k / 16 / 2048 % 60)).toInt = ((ceN G k / 16 / 2048 % 60 : Nat) : Int) := nI_toInt (by omega)
  have e2 : (1 : Int32).toInt = 1 := by decide
  unfold hiA
  obtain ⟨h2, h3⟩ := sm_add (x := loA G k) (y := 1) (a := 100) (b := 1) ⟨by omega, by omega⟩ ⟨by omega, by omega⟩ (by omega)
  rw [(sm_add (x := loA G k + 1) (y := nI (ceN G k / 16 / 2048 % 60)) (a := 101) (b := 60) ⟨by have := h2.1; omega, by have := h2.2; omega⟩ ⟨by omega, by omega⟩ (by omega)).2, h3, e, e2]
theorem lo_1 (G : u_G) (k : Nat) : ¬ loA G k < -240 := by
  have h1 := loA_int G k
  have e : (-240 : Int32).toInt = -240 := by decide
  rw [Int32.lt_iff_toInt_lt, e]
  omega
theorem lo_2 (G : u_G) (k : Nat) : loA G k < 241 := by
  have h1 := loA_int G k
  have e : (241 : Int32).toInt = 241 := by decide
  rw [Int32.lt_iff_toInt_lt, e]
  omega
theorem hi_1 (G : u_G) (k : Nat) : ¬ hiA G k ≤ loA G k := by
  have h1 := hiA_int G k
  rw [Int32.le_iff_toInt_le]
  omega
theorem hi_2 (G : u_G) (k : Nat) : hiA G k ≤ 241 := by
  have h1 := hiA_int G k
  have h2 := loA_int G k
  have e : (241 : Int32).toInt = 241 := by decide
  rw [Int32.le_iff_toInt_le, e]
  omega
theorem COK.le {S S2 : AS} {C C2 : SC} (h : COK S C) (hp : S2.p = S.p) (hs : S2.x 13 + S2.x 14 ≤ S.x 13 + S.x 14) (h1 : C2.sv = C.sv) (h2 : C2.L = C.L) (h3 : C2.t = C.t) : COK S2 C2 := by
  obtain ⟨g1, g2, g3⟩ := h
  exact ⟨by rw [hp, h1]; exact g1.le hs, by rw [h2]; exact g2, by rw [h2, h3]; exact g3⟩
