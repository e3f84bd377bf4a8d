/-! the property: the start, the end, two objects side by side -/
theorem lg_cmp_self (x : Int64) : lg_cmp x x = 0 := by
  have h : ¬ x > x := Int64.lt_irrefl
  unfold lg_cmp
  rw [if_neg h, if_pos rfl]
theorem no_traces {l : Launch} (h : l.flags = flags0) : l.stackTraces = false := by
  unfold Launch.stackTraces
  rw [h]
  decide
theorem rm_c {k : Nat} (h : k ≤ 600130) : k ≤ room_1.cells := h
theorem rm_s {k : Nat} (h : k ≤ 7301079) : k ≤ room_1.slots := h
/-- as wide as can be: with a table and without -/
theorem wide_end {p : Nat → Int32} (hp : PR p) {o lim f n : Nat} (ho : o < 24) (hlim : lim ≤ 5000) (hfn : f + n ≤ 12) : (sAn (srch p (odf o) lim 0 12 f n (-240) 241 z0) = V p n f ∨ sAn (srch p (odf o) lim 0 12 f n (-240) 241 z0) = -999) ∧ (sAn (srch p (odf o) lim 1 12 f n (-240) 241 z0) = V p n f ∨ sAn (srch p (odf o) lim 1 12 f n (-240) 241 z0) = -999) ∧ (sAn (srch p (odf o) lim 1 12 f n (-240) 241 z0) = V p n f → sAn (srch p (odf o) lim 0 12 f n (-240) 241 z0) = V p n f) := by
  have hV := V_sm hp n f hfn
  have e1 : (-240 : Int32).toInt = -240 := by decide
  have e2 : (241 : Int32).toInt = 241 := by decide
  have hb1 : Bd n (-240) := ⟨by rw [e1]; omega, by rw [e1]; omega⟩
  have hb2 : Bd n 241 := ⟨by rw [e2]; omega, by rw [e2]; omega⟩
  have hab : (-240 : Int32).toInt < (241 : Int32).toInt := by rw [e1, e2]; omega
  have hx : ∀ u, (srch p (odf o) lim u 12 f n (-240) 241 z0).1 = false → (srch p (odf o) lim u 12 f n (-240) 241 z0).2.1 = V p n f := fun u h => by
    obtain ⟨⟨o1, o2, o3⟩, -⟩ := srch_snd hp (odf_lt4 ho) (odf_all _ ho) hlim u 12 f n (-240) 241 z0 (by omega) hfn (Nat.zero_le _) hab hb1 hb2 ZI_0 ZT_0 (TS_0 p) h
    rw [e1] at o1 o3
    rw [e2] at o2 o3
    apply Int32.toInt_inj.mp
    obtain ⟨v1, v2⟩ := hV
    omega
  have hm := srch_mono hp (odf_lt4 ho) (odf_all _ ho) hlim 12 f n (-240) 241 z0 z0 (by omega) hfn (Nat.zero_le _) (Nat.le_refl _) hab hb1 hb2 ZI_0 ZT_0 (TS_0 p) ZI_0 ZT_0 (TS_0 p)
  have h0 := hx 0
  have h1 := hx 1
  generalize srch p (odf o) lim 0 12 f n (-240) 241 z0 = R0 at *
  generalize srch p (odf o) lim 1 12 f n (-240) 241 z0 = R1 at *
  have hne : ¬ V p n f = -999 := fun h => by
    rw [h] at hV
    have := hV.1
    rw [i999] at this
    omega
  have k0 : sAn R0 = V p n f ∨ sAn R0 = -999 := by
    by_cases c : R0.1 = true
    · exact Or.inr (sAn_t c)
    · exact Or.inl (by rw [sAn_f c]; exact h0 (Bool.eq_false_iff.mpr c))
  refine ⟨k0, ?_, fun h => ?_⟩
  · by_cases c : R1.1 = true
    · exact Or.inr (sAn_t c)
    · exact Or.inl (by rw [sAn_f c]; exact h1 (Bool.eq_false_iff.mpr c))
  · by_cases c : R1.1 = true
    · rw [sAn_t c] at h
      exact absurd h.symm hne
    · have c2 := (hm (Bool.eq_false_iff.mpr c)).1
      rw [sAn_f (by rw [c2]; decide)]
      exact h0 c2
/-- a new object -/
def S00 : AS := (x00, y00, zf, 0, 0, fun _ => x00, fun _ => y00, fun _ => zf, zf)
def C00 : SC := (zf, 0, 0, 0, t00, v00, w00, c00)
theorem AOK_0 : AOK S00 := by
  have hz : PR zf := fun k _ => ⟨(by show (-20 : Int) ≤ (0 : Int32).toInt; decide), (by show (0 : Int32).toInt ≤ 20; decide)⟩
  refine ⟨⟨⟨by decide, by decide, by decide, ⟨by decide, by decide⟩, by decide⟩, ⟨hz, fun k h1 h2 => ?_⟩, ⟨⟨by decide, by decide⟩, by decide, by decide⟩, ⟨by decide, ⟨by decide, by decide⟩, ⟨by decide, by decide⟩, fun _ => by decide⟩, fun k _ => Or.inl (kd00 k)⟩, by decide, by decide, fun k hk => absurd hk (Nat.not_lt_zero k), hz⟩
  have h2 : k < 0 := h2
  exact absurd h2 (Nat.not_lt_zero _)
theorem SV_0 : SV S00.p zf (S00.x 13 + S00.x 14) := fun n f h1 h2 => by
  have h2 : f + n ≤ 0 := h2
  omega
theorem fc_0 : fcN zf x00 23 = 1 := by decide +kernel
theorem bo_0 : (boN zf x00 23).1 = 0 := by decide +kernel
section TWO
variable {G : u_G} {o q o2 q2 : Nat} {K1 K2 K3 K4 : AD} {S1 S2 S3 S4 : AS} {C1 C2 C3 C4 : SC}
theorem OW2_get1 {T : va_W} : (List.range' 0 57).map (fun i => (OW G o K1 S1 C1 ++ T)[i]?) = (OW G o K1 S1 C1).map some := fst_get (OW G o K1 S1 C1) T
theorem OW2_put1 {T : va_W} : wput (OW G o K1 S1 C1 ++ T) (List.range' 0 57) (OW G o2 K3 S3 C3) = OW G o2 K3 S3 C3 ++ T := fst_put (w := OW G o K1 S1 C1) T rfl
theorem OW2_get2 : (List.range' 57 57).map (fun i => (OW G o K1 S1 C1 ++ OW G q K2 S2 C2)[i]?) = (OW G q K2 S2 C2).map some := snd_get (OW G o K1 S1 C1) (OW G q K2 S2 C2)
theorem OW2_put2 : wput (OW G o K1 S1 C1 ++ OW G q K2 S2 C2) (List.range' 57 57) (OW G q2 K4 S4 C4) = OW G o K1 S1 C1 ++ OW G q2 K4 S4 C4 := snd_put (T := OW G q K2 S2 C2) (OW G o K1 S1 C1) rfl
theorem OW2_at1 {T : va_W} : (OW G o K1 S1 C1 ++ T)[0]? = some (o, .inr (7, [.ref (K1.1 0), .ref (K1.2.1 0), .ref (K1.2.2.1 0), .ref (K1.2.2.2.1 0), .ref (K1.2.2.2.2.1 0)])) := rfl
theorem OW2_at2 : (OW G o K1 S1 C1 ++ OW G q K2 S2 C2)[57]? = some (q, .inr (7, [.ref (K2.1 0), .ref (K2.2.1 0), .ref (K2.2.2.1 0), .ref (K2.2.2.2.1 0), .ref (K2.2.2.2.2.1 0)])) := by
  rw [List.getElem?_append_right (by rw [OW_len]; exact Nat.le_refl _), OW_len]
  rfl
end TWO
