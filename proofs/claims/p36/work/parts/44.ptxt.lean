/-! the property, pure: the law's numbers out of the script; the text that it types, and its reading -/
/-- the k-th number of the script, beyond its end by rule: not negative -/
def ceI (G : u_G) (k : Nat) : Int32 := (if k < G.2.2.2.2.2.1 then G.2.2.2.2.2.2 k else nI (50503 * (k + 31) + 67)) &&& 2147483647
def ceN (G : u_G) (k : Nat) : Nat := (ceI G k).toBitVec.toNat
theorem and_max (v : Int32) : (v &&& 2147483647).toBitVec.toNat < 2 ^ 31 := by
  rw [Int32.toBitVec_and, BitVec.toNat_and]
  have h : (2147483647 : Int32).toBitVec.toNat = 2147483647 := by decide
  rw [h]
  exact Nat.lt_succ_of_le Nat.and_le_right
theorem ceN_lt (G : u_G) (k : Nat) : ceN G k < 2 ^ 31 := and_max _
theorem ceI_eq (G : u_G) (k : Nat) : ceI G k = nI (ceN G k) := by
  have h1 := ceN_lt G k
  apply Int32.toBitVec_inj.mp
  apply BitVec.eq_of_toNat_eq
  show ceN G k = (Int32.ofNat (ceN G k)).toBitVec.toNat
  simp only [Int32.toBitVec_ofNat', BitVec.toNat_ofNat]
  omega
/-- quotients and rests of numbers that aren't negative -/
theorem nI_div {a b : Nat} (ha : a < 2 ^ 31) (hb : b < 2 ^ 31) : nI a / nI b = nI (a / b) := by
  apply Int32.toInt_inj.mp
  have h1 : (nI a).toInt = (a : Int) := nI_toInt ha
  have h2 : (nI b).toInt = (b : Int) := nI_toInt hb
  have h5 : a / b ≤ a := Nat.div_le_self a b
  have h4 : ((a : Int)).tdiv (b : Int) = ((a / b : Nat) : Int) := by
    rw [Int.tdiv_eq_ediv_of_nonneg (Int.natCast_nonneg a)]
    exact (Int.natCast_ediv a b).symm
  rw [Int32.toInt_div, h1, h2, h4]
  generalize a / b = q at h5 ⊢
  have h3 : (nI q).toInt = (q : Int) := nI_toInt (Nat.lt_of_le_of_lt h5 ha)
  rw [h3]
  exact bmod_id (by omega) (by omega)
theorem nI_rem {a b : Nat} (ha : a < 2 ^ 31) (hb : b < 2 ^ 31) : nI a - nI a / nI b * nI b = nI (a % b) := by
  have h1 : b * (a / b) + a % b = a := Nat.div_add_mod a b
  have h2 : a / b * b ≤ a := Nat.div_mul_le_self a b
  rw [nI_div ha hb, pk_mul, pk_sub h2, Nat.mul_comm (a / b) b]
  rw [show a - b * (a / b) = a % b by omega]
/-- a text read whole: L signs, cnt numbers, the last one num -/
theorem rd_snoc {t t2 : Nat → Nat} {c : Nat} : ∀ k i z y, rd t k i z = (i + k, y) → (∀ j, j < i + k → t2 j = t j) → t2 (i + k) = c → (acc c y.1 y.2.1 y.2.2).1 = true → rd t2 (k + 1) i z = (i + k + 1, (acc c y.1 y.2.1 y.2.2).2)
  | 0, i, z, y, h, h2, h3, h4 => by
    have e : z = y := congrArg Prod.snd h
    subst e
    rw [Nat.add_zero] at h3
    show (if (acc (t2 i) z.1 z.2.1 z.2.2).1 = true then rd t2 0 (i + 1) (acc (t2 i) z.1 z.2.1 z.2.2).2 else (i, (acc (t2 i) z.1 z.2.1 z.2.2).2)) = _
    rw [h3, if_pos h4]
    rfl
  | k + 1, i, z, y, h, h2, h3, h4 => by
    have h' : (if (acc (t i) z.1 z.2.1 z.2.2).1 = true then rd t k (i + 1) (acc (t i) z.1 z.2.1 z.2.2).2 else (i, (acc (t i) z.1 z.2.1 z.2.2).2)) = (i + (k + 1), y) := h
    by_cases c1 : (acc (t i) z.1 z.2.1 z.2.2).1 = true
    · rw [if_pos c1] at h'
      have h5 := rd_snoc (t := t) (t2 := t2) (c := c) k (i + 1) (acc (t i) z.1 z.2.1 z.2.2).2 y (by rw [h', show i + 1 + k = i + (k + 1) by omega]) (fun j hj => h2 j (by omega)) (by rw [show i + 1 + k = i + (k + 1) by omega]; exact h3) h4
      show (if (acc (t2 i) z.1 z.2.1 z.2.2).1 = true then rd t2 (k + 1) (i + 1) (acc (t2 i) z.1 z.2.1 z.2.2).2 else (i, (acc (t2 i) z.1 z.2.1 z.2.2).2)) = _
      rw [h2 i (by omega), if_pos c1, h5, show i + 1 + k = i + (k + 1) by omega]
    · rw [if_neg c1] at h'
      have e : i = i + (k + 1) := congrArg Prod.fst h'
      omega
theorem rdA_app {t : Nat → Nat} {L c cnt num cnt2 num2 : Nat} {F F1 F2 : Nat → Int32} (h : rdA t L F = (L, cnt, num, F1)) (ha : acc c cnt num F1 = (true, cnt2, num2, F2)) : rdA (va_up t L c) (L + 1) F = (L + 1, cnt2, num2, F2) := by
  unfold rdA at h ⊢
  have h2 := rd_snoc (t := t) (t2 := va_up t L c) (c := c) L 0 (1, 0, F) (cnt, num, F1) (by rw [h, Nat.zero_add]) (fun j hj => va_up_ne _ _ (by omega)) (by rw [Nat.zero_add]; exact va_up_self _ _ _) (by rw [ha])
  rw [h2, ha, Nat.zero_add]
theorem rdA_0 (t : Nat → Nat) (F : Nat → Int32) : rdA t 0 F = (0, 1, 0, F) := rfl
/-- a comma on an empty text isn't read -/
theorem rdA_comma {t : Nat → Nat} (h : t 0 = 44) (F : Nat → Int32) : rdA t 1 F = (0, 1, 0, F) := by
  show (if (acc (t 0) 1 0 F).1 = true then (1, (acc (t 0) 1 0 F).2) else (0, (acc (t 0) 1 0 F).2)) = (0, 1, 0, F)
  have e : acc 44 1 0 F = (false, 1, 0, F) := rfl
  rw [h, e]
  rfl
/-- the coins that the law types -/
def coN (G : u_G) (k : Nat) : Nat := 1 + ceN G k % 20
theorem coN_in (G : u_G) (k : Nat) : 1 ≤ coN G k ∧ coN G k ≤ 20 := by unfold coN; omega
/-- the row of numbers, the first k read -/
def tyF (G : u_G) (from9 k : Nat) (F : Nat → Int32) : Nat → Int32 := fun i => if i < k then nI (coN G (from9 + i)) else F i
theorem tyF_0 (G : u_G) (from9 : Nat) (F : Nat → Int32) : tyF G from9 0 F = F := by
  funext i
  exact if_neg (Nat.not_lt_zero i)
theorem tyF_up (G : u_G) (from9 k : Nat) (F : Nat → Int32) (v : Int32) : upd (upd (tyF G from9 k F) k v) k (nI (coN G (from9 + k))) = tyF G from9 (k + 1) F := by
  funext i
  by_cases e : i = k
  · subst e
    rw [pk_us]
    exact (if_pos (Nat.lt_succ_self i)).symm
  · rw [pk_un e, pk_un e]
    unfold tyF
    by_cases c : i < k
    · rw [if_pos c, if_pos (by omega)]
    · rw [if_neg c, if_neg (by omega)]
theorem tyF_up1 (G : u_G) (from9 k : Nat) (F : Nat → Int32) : upd (tyF G from9 k F) k (nI (coN G (from9 + k))) = tyF G from9 (k + 1) F := by
  funext i
  by_cases e : i = k
  · subst e
    rw [pk_us]
    exact (if_pos (Nat.lt_succ_self i)).symm
  · rw [pk_un e]
    unfold tyF
    by_cases c : i < k
    · rw [if_pos c, if_pos (by omega)]
    · rw [if_neg c, if_neg (by omega)]
theorem tyF_PR {G : u_G} {from9 k : Nat} {F : Nat → Int32} (h : PR F) : PR (tyF G from9 k F) := by
  intro i hi
  unfold tyF
  split
  · have := coN_in G (from9 + i)
    unfold sm
    rw [nI_toInt (by omega)]
    omega
  · exact h i hi
theorem tyF_PP (G : u_G) (from9 k : Nat) (F : Nat → Int32) : PP (tyF G from9 k F) 0 k := by
  intro i _ hi
  have e : tyF G from9 k F i = nI (coN G (from9 + i)) := if_pos (by omega)
  have := coN_in G (from9 + i)
  rw [e, nI_toInt (by omega)]
  omega
/-- a text of k numbers, ready for the next one's digits; and one whose k numbers are whole -/
def TA (G : u_G) (from9 k L : Nat) (t : Nat → Nat) : Prop := ∀ F, rdA t L F = (L, k + 1, 0, tyF G from9 k F)
def TB (G : u_G) (from9 k L : Nat) (t : Nat → Nat) : Prop := ∀ F, rdA t L F = (L, k, coN G (from9 + (k - 1)), tyF G from9 k F)
theorem TA_0 (G : u_G) (from9 : Nat) (t : Nat → Nat) : TA G from9 0 0 t := fun F => by rw [rdA_0, tyF_0]
theorem TB.comma {G : u_G} {from9 k L : Nat} {t : Nat → Nat} (h : TB G from9 k L t) (h1 : 1 ≤ k) (h2 : k < 12) : TA G from9 k (L + 1) (va_up t L 44) := fun F => by
  refine rdA_app (h F) ?_
  have := coN_in G (from9 + (k - 1))
  unfold acc
  rw [if_pos rfl, if_neg (by omega), if_neg (by omega)]
theorem acc_dig {c cnt num : Nat} {F : Nat → Int32} (h1 : 48 ≤ c) (h2 : c ≤ 57) (h3 : 1 ≤ num * 10 + c - 48) (h4 : num * 10 + c - 48 ≤ 20) : acc c cnt num F = (true, cnt, num * 10 + c - 48, upd F (cnt - 1) (nI (num * 10 + c - 48))) := by
  unfold acc
  rw [if_neg (by omega), if_neg (by omega), if_neg (by omega), if_neg (by omega), if_neg (by omega)]
theorem TA.one {G : u_G} {from9 k L : Nat} {t : Nat → Nat} (h : TA G from9 k L t) (hc : coN G (from9 + k) ≤ 9) : TB G from9 (k + 1) (L + 1) (va_up t L (48 + coN G (from9 + k) % 10)) := fun F => by
  have h1 := coN_in G (from9 + k)
  refine rdA_app (h F) ?_
  rw [acc_dig (by omega) (by omega) (by omega) (by omega)]
  rw [show 0 * 10 + (48 + coN G (from9 + k) % 10) - 48 = coN G (from9 + k) by omega, show k + 1 - 1 = k by omega, tyF_up1]
theorem TA.two {G : u_G} {from9 k L : Nat} {t : Nat → Nat} (h : TA G from9 k L t) (hc : 9 < coN G (from9 + k)) : TB G from9 (k + 1) (L + 1 + 1) (va_up (va_up t L (48 + coN G (from9 + k) / 10)) (L + 1) (48 + coN G (from9 + k) % 10)) := fun F => by
  have h1 := coN_in G (from9 + k)
  have h2 : rdA (va_up t L (48 + coN G (from9 + k) / 10)) (L + 1) F = (L + 1, k + 1, coN G (from9 + k) / 10, upd (tyF G from9 k F) k (nI (coN G (from9 + k) / 10))) := by
    refine rdA_app (h F) ?_
    rw [acc_dig (by omega) (by omega) (by omega) (by omega)]
    rw [show 0 * 10 + (48 + coN G (from9 + k) / 10) - 48 = coN G (from9 + k) / 10 by omega, show k + 1 - 1 = k by omega]
  refine rdA_app h2 ?_
  rw [acc_dig (by omega) (by omega) (by omega) (by omega)]
  rw [show coN G (from9 + k) / 10 * 10 + (48 + coN G (from9 + k) % 10) - 48 = coN G (from9 + k) by omega, show k + 1 - 1 = k by omega, tyF_up]
theorem va_up_128 {t : Nat → Nat} {L c : Nat} (h : ∀ k, k < L → t k < 128) (hc : c < 128) : ∀ k, k < L + 1 → va_up t L c k < 128 := fun k hk => by
  by_cases e : k = L
  · subst e; rw [va_up_self]; exact hc
  · rw [va_up_ne _ _ e]; exact h k (by omega)
