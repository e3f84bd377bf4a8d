/-! the reference's text, saved rows, moves -/
theorem nm_good' {t : Nat → Nat} {L i c : Nat} (F : Nat → Int32) {u : Bool × Nat × Nat × Nat} (h : u = nmA t L i c) (hn : ¬ u.1 = true) :
    rd t (L - i) i (c + 1, 0, F) = rd t (L - u.2.1) u.2.1 (c + 1, u.2.2.2, upd F c (nI u.2.2.2)) ∧ i < u.2.1 ∧ u.2.1 ≤ L ∧ 1 ≤ u.2.2.2 ∧ u.2.2.2 ≤ 20 ∧ u.2.2.1 = c + 1 ∧ (u.2.1 < L → ¬ t u.2.1 = 44 → ∀ F', acc (t u.2.1) (c + 1) u.2.2.2 F' = (false, c + 1, u.2.2.2, F')) := by
  obtain ⟨a, j, m, v⟩ := u
  have ha : a = false := Bool.eq_false_iff.mpr hn
  subst ha
  exact nm_good F h.symm
theorem nm_bad' {t : Nat → Nat} {L i c : Nat} (F : Nat → Int32) {u : Bool × Nat × Nat × Nat} (hi : i ≤ L) (h : u = nmA t L i c) (hb : u.1 = true) :
    rd t (L - i) i (c + 1, 0, F) = (i, c + 1, 0, F) ∧ u.2.1 = i ∧ u.2.2.1 = c := by
  by_cases q : 49 ≤ nx t L i ∧ nx t L i ≤ 57
  · have e : (nmA t L i c).1 = false := by
      unfold nmA
      rw [if_pos q]
      split <;> rfl
    rw [h, e] at hb
    cases hb
  · rw [nmA_bad q] at h
    exact ⟨nm_bad hi q, by rw [h], by rw [h]⟩
/-- after a whole number the text ends -/
theorem rd_end {t : Nat → Nat} {L j c v : Nat} {F : Nat → Int32} (h : L ≤ j) : rd t (L - j) j (c, v, F) = (j, c, v, F) := by
  rw [show L - j = 0 by omega]
  rfl
/-- ... or goes on wrongly -/
theorem rd_no {t : Nat → Nat} {L j c v : Nat} {F : Nat → Int32} (h : j < L) (hx : ¬ nx t L j = 44) (ha : j < L → ¬ t j = 44 → ∀ F', acc (t j) (c + 1) v F' = (false, c + 1, v, F')) : rd t (L - j) j (c + 1, v, F) = (j, c + 1, v, F) := by
  have e : nx t L j = t j := if_pos h
  rw [e] at hx
  exact rd_ff h (ha h hx F)
theorem rd_many {t : Nat → Nat} {L j c v : Nat} {F : Nat → Int32} (h : j < L) (hx : nx t L j = 44) (hc : 12 ≤ c) : rd t (L - j) j (c, v, F) = (j, c, v, F) := by
  have e : nx t L j = t j := if_pos h
  rw [e] at hx
  exact rd_ff h (acc_f (Or.inl ⟨hx, Or.inr hc⟩))
theorem rd_comma {t : Nat → Nat} {L j c v : Nat} {F : Nat → Int32} (h : j < L) (hx : nx t L j = 44) (hv : 1 ≤ v) (hc : c < 12) : rd t (L - j) j (c, v, F) = rd t (L - (j + 1)) (j + 1) (c + 1, 0, F) := by
  have e : nx t L j = t j := if_pos h
  rw [e] at hx
  exact rd_tt h (by rw [hx]; exact acc_c (by omega) hc)
theorem nmS_f {u : Bool × Nat × Nat × Nat} {sr : Nat → Int32} {c : Nat} (h : ¬ u.1 = true) : nmS u sr c = upd sr (1 + c) (nI u.2.2.2) := if_neg h
/-- the row while the text is read: c piles are kept -/
def KP (sr s0 F : Nat → Int32) (c : Nat) : Prop := (∀ k, k < c → sr (1 + k) = F k) ∧ ∀ k, k = 0 ∨ 12 < k → sr k = s0 k
theorem KP_step {sr s0 F : Nat → Int32} {c v : Nat} (hc : c ≤ 11) (h : KP sr s0 F c) : KP (upd sr (1 + c) (nI v)) s0 (upd F c (nI v)) (c + 1) := by
  refine ⟨fun k hk => ?_, fun k hk => ?_⟩
  · by_cases e : k = c
    · subst e; rw [pk_us, pk_us]
    · rw [pk_un (by omega), pk_un e]; exact h.1 k (by omega)
  · rw [pk_un (by omega)]; exact h.2 k hk
theorem KP_nm {sr s0 F : Nat → Int32} {c : Nat} {u : Bool × Nat × Nat × Nat} (hc : c ≤ 11) (h : KP sr s0 F c) (hn : ¬ u.1 = true) : KP (nmS u sr c) s0 (upd F c (nI u.2.2.2)) (c + 1) := by
  rw [nmS_f hn]; exact KP_step hc h
/-- saved rows, one behind the other -/
def bfF (rw : Nat → Nat → Int32) : Nat → Int32 := fun j => rw (j / 457) (j % 457)
def svN (n : Nat) : Nat := if n = 6 then 6 else n + 1
def svR (rw : Nat → Nat → Int32) (sr : Nat → Int32) (n : Nat) : Nat → Nat → Int32 := fun k => if n = 6 then (if k < 5 then rw (k + 1) else sr) else (if k = n then sr else rw k)
/-- g, with the first k of f from b on -/
def cpyA (f g : Nat → Int32) (b k : Nat) : Nat → Int32 := fun j => if b ≤ j ∧ j < b + k then f (j - b) else g j
theorem cpyA_zero (f g : Nat → Int32) (b : Nat) : cpyA f g b 0 = g := by
  funext j; exact if_neg (by omega)
theorem cpyA_succ (f g : Nat → Int32) (b k : Nat) : upd (cpyA f g b k) (b + k) (f k) = cpyA f g b (k + 1) := by
  funext j
  unfold upd cpyA
  by_cases h : j = b + k
  · subst h
    rw [if_pos rfl, if_pos (by omega), show b + k - b = k by omega]
  · rw [if_neg h]
    by_cases h2 : b ≤ j ∧ j < b + k
    · rw [if_pos h2, if_pos (by omega)]
    · rw [if_neg h2, if_neg (by omega)]
theorem sv_eq6 {rw : Nat → Nat → Int32} {sr : Nat → Int32} {j : Nat} (h : j < 2742) : cpyA sr (cpy (fun j => bfF rw (457 + j)) (bfF rw) 2285) (457 * 5) 457 j = bfF (svR rw sr 6) j := by
  unfold cpyA cpy bfF svR
  by_cases q : j < 2285
  · rw [if_neg (by omega), if_pos q, if_pos rfl, if_pos (by omega)]
    show rw ((457 + j) / 457) ((457 + j) % 457) = _
    rw [show (457 + j) / 457 = j / 457 + 1 by omega, show (457 + j) % 457 = j % 457 by omega]
  · rw [if_pos (by omega), if_pos rfl, if_neg (by omega), show j - 457 * 5 = j % 457 by omega]
theorem sv_eqN {rw : Nat → Nat → Int32} {sr : Nat → Int32} {j n : Nat} (h : j < 2742) (hn : n < 6) : cpyA sr (bfF rw) (457 * n) 457 j = bfF (svR rw sr n) j := by
  unfold cpyA bfF svR
  rw [if_neg (show ¬ n = 6 by omega)]
  by_cases q : 457 * n ≤ j ∧ j < 457 * n + 457
  · rw [if_pos q, if_pos (by omega), show j - 457 * n = j % 457 by omega]
  · rw [if_neg q, if_neg (by omega)]
theorem svN_6 : svN 6 = 6 := rfl
theorem svN_n {n : Nat} (h : ¬ n = 6) : svN n = n + 1 := if_neg h
theorem svN_le {n : Nat} (h : n ≤ 6) : svN n ≤ 6 := by unfold svN; split <;> omega
