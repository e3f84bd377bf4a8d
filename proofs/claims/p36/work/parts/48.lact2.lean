theorem AOK.un {S : AS} (h : AOK S) (hc : 1 ≤ S.cg) : AOK (S.xs (ri (S.og + (S.cg - 1))), S.ys (ri (S.og + (S.cg - 1))), S.ps (ri (S.og + (S.cg - 1))), S.og, S.cg - 1, S.xs, S.ys, S.ps, S.F) := by
  obtain ⟨g1, g2, g3, g4, g5⟩ := h
  exact ⟨g4 (S.cg - 1) (by omega), g2, (by show S.cg - 1 ≤ 6; omega), fun k hk => g4 k (by have hk : k < S.cg - 1 := hk; omega), g5⟩
/-- a step on an object: what it answers and the state behind it are the state's and the script's alone -/
theorem mL_acts (l : Launch) (D : va_G) (G : u_G) (hlt : l.stackTraces = false) (k : Nat) (hk : k < 40) (hN : G.2.2.2.2.2.1 ≤ 260) (S : AS) (hA0 : AOK S) : ∃ (r : Int32) (S2 : AS), AOK S2 ∧ ∀ (q : Nat) (K : AD) (C : SC), COK S C → MtI l D G yL_acts cL_acts 7 .int 40 1 6 [.ref q, .ref G.2.2.2.2.1, .int (nI k)] (OW G q K S C) (fun (x : Int32) (u : SC) => x = r ∧ COK S2 u) (fun (u : SC) => OW G q K S2 u) := by
  obtain ⟨⟨⟨w1, w2, w3, ⟨w4a, w4⟩, w5⟩, ⟨w6, w7⟩, w8, w9, w10⟩, hog, hcg, hSVD, hFR⟩ := id hA0
  have hce := ceN_lt G k
  have hmn : 1 ≤ mnA G k ∧ mnA G k ≤ 12 := by unfold mnA; omega
  by_cases hz : S.x 14 = 0
  · exact ⟨_, _, hA0.sav (hA0.1.ld (by omega) (tyF_PR (tyF_PR hFR)) (tyF_PP _ _ _ _)) (tyF_PR (tyF_PR hFR)), fun q K C hC => mL_acts_ld0 l D G q K S C k hk hN hA0 hC hz⟩
  rcases (show ceN G k % 16 = 0 ∨ ceN G k % 16 = 1 ∨ ceN G k % 16 = 2 ∨ ceN G k % 16 = 3 ∨ ceN G k % 16 = 4 ∨ ceN G k % 16 = 5 ∨ ceN G k % 16 = 6 ∨ ceN G k % 16 = 7 ∨ ceN G k % 16 = 8 ∨ ceN G k % 16 = 9 ∨ 10 ≤ ceN G k % 16 by omega) with hj | hj | hj | hj | hj | hj | hj | hj | hj | hj | hj
  · exact ⟨_, _, hA0.sav (hA0.1.ld (by omega) (tyF_PR (tyF_PR hFR)) (tyF_PP _ _ _ _)) (tyF_PR (tyF_PR hFR)), fun q K C hC => mL_acts_ld1 l D G q K S C k hk hN hA0 hC hz hj⟩
  · by_cases hm : tk (ceN G k / 16 % 4) ≤ S.x 14
    · exact ⟨_, _, hA0.sav (hA0.1.mv (by omega) hm) hFR, fun q K C hC => mL_acts_pl1 l D G q K S C k hk hN hA0 hC hz hj hm⟩
    · exact ⟨_, _, hA0, fun q K C hC => mL_acts_pt1 l D G q K S C k hk hN hA0 hC hlt hz hj hm⟩
  · by_cases hm : tk (ceN G k / 16 % 4) ≤ S.x 14
    · exact ⟨_, _, hA0.sav (hA0.1.mv (by omega) hm) hFR, fun q K C hC => mL_acts_pl2 l D G q K S C k hk hN hA0 hC hz hj hm⟩
    · exact ⟨_, _, hA0, fun q K C hC => mL_acts_pt2 l D G q K S C k hk hN hA0 hC hlt hz hj hm⟩
  · exact ⟨_, _, hA0.sav (StW.pl hA0.1 _).1 hFR, fun q K C hC => mL_acts_pb l D G q K S C k hk hN hA0 hC hz hj⟩
  · exact ⟨_, _, hA0.sav (hA0.1.o18 (by omega)) hFR, fun q K C hC => mL_acts_so4 l D G q K S C k hk hN hA0 hC hz hj⟩
  · exact ⟨_, _, hA0.sav (hA0.1.o18 (by omega)) hFR, fun q K C hC => mL_acts_so5 l D G q K S C k hk hN hA0 hC hz hj⟩
  · by_cases h3 : ceN G k / 16 % 3 = 0
    · exact ⟨_, _, hA0.sav (hA0.1.o19 (by omega) (by omega)) hFR, fun q K C hC => mL_acts_sla l D G q K S C k hk hN hA0 hC hz hj h3⟩
    · exact ⟨_, _, hA0.sav (hA0.1.o19 (by omega) (by omega)) hFR, fun q K C hC => mL_acts_slb l D G q K S C k hk hN hA0 hC hz hj h3⟩
  · by_cases h3 : 0 < ceN G k / 16 % 3
    · exact ⟨_, _, hA0.sav (hA0.1.o20 (by omega)) hFR, fun q K C hC => mL_acts_uta l D G q K S C k hk hN hA0 hC hz hj h3⟩
    · exact ⟨_, _, hA0.sav (hA0.1.o20 (by omega)) hFR, fun q K C hC => mL_acts_utb l D G q K S C k hk hN hA0 hC hz hj h3⟩
  · by_cases hc : 1 ≤ S.cg
    · exact ⟨_, _, AOK.un hA0 hc, fun q K C hC => mL_acts_un8 l D G q K S C k hk hN hA0 hC hz hj hc⟩
    · exact ⟨_, _, hA0, fun q K C hC => mL_acts_ut_8 l D G q K S C k hk hN hA0 hC hlt hz hj (by omega)⟩
  · by_cases hc : 1 ≤ S.cg
    · exact ⟨_, _, AOK.un hA0 hc, fun q K C hC => mL_acts_un9 l D G q K S C k hk hN hA0 hC hz hj hc⟩
    · exact ⟨_, _, hA0, fun q K C hC => mL_acts_ut_9 l D G q K S C k hk hN hA0 hC hlt hz hj (by omega)⟩
  · by_cases h3 : 0 < ceN G k / 16 % 3
    · exact ⟨_, _, hA0.sav (hA0.1.se _ _ _) hFR, fun q K C hC => mL_acts_sea l D G q K S C k hk hN hA0 hC hz hj h3⟩
    · exact ⟨_, _, hA0.sav (hA0.1.se _ _ _) hFR, fun q K C hC => mL_acts_seb l D G q K S C k hk hN hA0 hC hz hj h3⟩
