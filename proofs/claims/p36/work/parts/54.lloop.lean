set_option maxHeartbeats 8000000 in
set_option maxRecDepth 100000 in
theorem law_loop {pr : Program} {l : Launch} {e : Env} {s9 : State} {m9 : MethodId} {args : Array Value} {below : List Frame} {meth : Method} {c9 : Code} {A : Nat → Prop} {D : va_G} {G : u_G} {QQ : State → Prop} {o q : Nat} {K1 K2 : AD} (C9 : Cx pr m9 s9 args meth c9 code 9 RL (some .boolean) A D G) (hlt : l.stackTraces = false) (hN : G.2.2.2.2.2.1 ≤ 260) (E : ∀ (H : Heap) (locs : List Loc) (ls : Array Slot) (cl sl : Nat), va_S A s9.heap H locs → cl ≤ 600130 → sl ≤ 7301079 → W pr l e room_1 s9 m9 args below meth c9 H locs cl sl QQ (F0 m9 334 ls [.int 1])) : ∀ (n84 : Nat) (k : Nat) (S : AS) (C1 : SC) (C2 : SC) (cl : Nat) (sl : Nat) (hk : k ≤ 34) (hA0 : AOK S) (hC1 : COK S C1) (hC2 : COK S C2) (hcl : cl ≤ 300 + 40 * k) (hsl : sl ≤ 10000 + 240 * k) (_ : 34 - k < n84), ∀ (H : Heap) (locs : List Loc) (ls : Array Slot), va_P D vwCl (OW G o K1 S C1 ++ OW G q K2 S C2) H → va_D A (OW G o K1 S C1 ++ OW G q K2 S C2) → va_S A s9.heap H locs → lv_has ls 9 [(0, .ref G.2.2.2.2.1), (1, .ref o), (2, .ref q), (3, .int 1), (4, .int (nI k))] → W pr l e room_1 s9 m9 args below meth c9 H locs cl sl QQ (F0 m9 84 ls []) := by
  obtain ⟨hx, hb, hml, hown, hts, hr, hlocks, hA, hAm⟩ := id C9
  intro n84
  induction n84 with
  | zero => intro k S C1 C2 cl sl hk hA0 hC1 hC2 hcl hsl hm; exact absurd hm (Nat.not_lt_zero _)
  | succ n84 ih84 =>
    intro k S C1 C2 cl sl hk hA0 hC1 hC2 hcl hsl hm H locs ls hP hD hS hl
    refine lv_iload hx hb dL_law_84 (lv_at hl 4 rfl) ?_
    refine lv_bipush (v := 34) hx hb dL_law_86 (by decide) ?_
    refine lv_icmp_ge (tgt := 196) hx hb dL_law_88 (by decide) (fun c_88 => ?_) (fun c_88 => ?_)
    · have c_88 := nle_t (a := 34) (b := k) (by omega) (by omega) c_88
      exact law_end C9 hlt hN E S C1 C2 cl sl hA0 hC1 (by omega) (by omega) _ _ _ hP hD hS (lv_sub hl [0, 1, 2, 3] rfl)
    · have c_88 := nle_f (a := 34) (b := k) (by omega) (by omega) c_88
      obtain ⟨rr, S2, hA2, hact⟩ := mL_acts l D G hlt k (by omega) hN S hA0
      have hcg2 : S2.cg ≤ 6 := hA2.2.2.1
      refine lv_iload_n hx hb dL_law_91 rfl (lv_at hl 3 rfl) ?_
      refine lv_if_eq (tgt := 196) hx hb dL_law_92 (by decide) (fun h => absurd h (by decide)) (fun _ => ?_)
      refine lv_aload_n hx hb dL_law_95 rfl (lv_at hl 0 rfl) ?_
      refine lv_iload hx hb dL_law_96 (lv_at hl 4 rfl) ?_
      refine oS (As := [.ref G.2.2.2.2.1, .int (nI k)]) (rest := []) C9 (mL_cell l D G k (by omega) hN) (fun _ => rfl) hS hP hD [] rfl (by decide) (fun _ => rfl) ys_L_cell kw_16_15 kw_16_16 ⟨Nat.le_of_ble_eq_true rfl, Nat.le_of_ble_eq_true rfl⟩ hl.1 (Nat.le_of_ble_eq_true rfl) dL_law_98 rfl rfl ⟨rm_c (by omega), rm_s (by omega)⟩ (fun r98 u98 H locs hp98 hP hD hS => ?_)
      refine ro_top (z := nI (ceN G k)) hx hp98 ?_
      have hce := ceN_lt G k
      refine lv_istore (lv' := [(5, .int (nI (ceN G k))), (0, .ref G.2.2.2.2.1), (1, .ref o), (2, .ref q), (3, .int 1), (4, .int (nI k))]) hx hb dL_law_101 hl (by decide) rfl (fun ls hl => ?_)
      refine lv_aload_n hx hb dL_law_103 rfl (lv_at hl 2 rfl) ?_
      refine lv_aload_n hx hb dL_law_104 rfl (lv_at hl 1 rfl) ?_
      refine lv_iload hx hb dL_law_105 (lv_at hl 5 rfl) ?_
      refine oS (As := [.ref o, .ref G.2.2.2.2.1, .int (nI k)]) (rest := []) (wz := fun (D1 : SC) => OW G o K1 S2 D1 ++ OW G q K2 S C2) C9 (hact o K1 C1 hC1) (fun _ => OW_fst _ _ _ _ _ _ _) hS hP hD (List.range' 0 57) OW2_get1 (by decide) (fun _ => OW2_put1) ys_L_acts kw_16_20 kw_16_21 ⟨Nat.le_of_ble_eq_true rfl, Nat.le_of_ble_eq_true rfl⟩ hl.1 (Nat.le_of_ble_eq_true rfl) dL_law_107 rfl rfl ⟨rm_c (by omega), rm_s (by omega)⟩ (fun r107 D1 H locs hp107 hP hD hS => ?_)
      refine ro_top (z := rr) hx hp107.1 ?_
      have hD1 := hp107.2
      refine lv_istore (lv' := [(6, .int rr), (5, .int (nI (ceN G k))), (0, .ref G.2.2.2.2.1), (1, .ref o), (2, .ref q), (3, .int 1), (4, .int (nI k))]) hx hb dL_law_110 hl (by decide) rfl (fun ls hl => ?_)
      refine lv_iload hx hb dL_law_112 (lv_at hl 6 rfl) ?_
      refine lv_iconst (v := 3) hx hb dL_law_114 (by decide) ?_
      refine ro_irem (z := nI (k % 3)) hx hb (by decide) (nI_rem (a := k) (b := 3) (by omega) (by decide)) dL_law_115 ?_
      refine lv_if_gt (tgt := 131) hx hb dL_law_116 (by decide) (fun c_116 => ?_) (fun c_116 => ?_)
      · have c_116 := nlt_t (a := 0) (b := k % 3) (by omega) (by omega) c_116
        refine lv_aload_n hx hb dL_law_131 rfl (lv_at hl 4 rfl) ?_
        refine lv_aload_n hx hb dL_law_132 rfl (lv_at hl 2 rfl) ?_
        refine lv_iload hx hb dL_law_133 (lv_at hl 6 rfl) ?_
        refine oS (As := [.ref q, .ref G.2.2.2.2.1, .int (nI k)]) (rest := []) (wz := fun (D3 : SC) => OW G o K1 S2 D1 ++ OW G q K2 S2 D3) C9 (hact q K2 C2 hC2) (fun _ => OW_fst _ _ _ _ _ _ _) hS hP hD (List.range' 57 57) OW2_get2 (by decide) (fun _ => OW2_put2) ys_L_acts kw_16_20 kw_16_21 ⟨Nat.le_of_ble_eq_true rfl, Nat.le_of_ble_eq_true rfl⟩ hl.1 (Nat.le_of_ble_eq_true rfl) dL_law_135 rfl rfl ⟨rm_c (by omega), rm_s (by omega)⟩ (fun r135 D3 H locs hp135 hP hD hS => ?_)
        refine ro_top (z := rr) hx hp135.1 ?_
        have hD3 := hp135.2
        refine lv_iload hx hb dL_law_138 (lv_at hl 0 rfl) ?_
        refine lv_icmp_ne (tgt := 188) hx hb dL_law_140 (by decide) (fun c_140 => ?_) (fun c_140 => ?_)
        · exact absurd rfl c_140
        · refine lv_aload_n hx hb dL_law_143 rfl (lv_at hl 3 rfl) ?_
          refine oV (As := []) (rest := []) (q0 := 0) (ci := 7) (T := TX7) (N := 5) (wz := fun (_ : Unit) => OW G o K1 S2 D1 ++ OW G q K2 S2 D3) C9 (o_savedStates l D G o K1 S2 D1) (fun _ => OW_fst _ _ _ _ _ _ _) hS hP hD (List.range' 0 57) OW2_get1 (by decide) (fun _ => OW2_put1) OW2_at1 rfl ys_X7_savedStates kw_20_15 kw_20_16 kw_20_17 ⟨Nat.le_of_ble_eq_true rfl, Nat.le_of_ble_eq_true rfl⟩ hl.1 (Nat.le_of_ble_eq_true rfl) dL_law_144 rfl rfl ⟨rm_c (by omega), rm_s (by omega)⟩ (fun r144 u144 H locs hp144 hP hD hS => ?_)
          refine ro_top (z := nI S2.cg) hx hp144 ?_
          refine lv_aload_n hx hb dL_law_147 rfl (lv_at hl 4 rfl) ?_
          refine oV (As := []) (rest := [.int (nI S2.cg)]) (q0 := 57) (ci := 7) (T := TX7) (N := 5) (wz := fun (_ : Unit) => OW G o K1 S2 D1 ++ OW G q K2 S2 D3) C9 (o_savedStates l D G q K2 S2 D3) (fun _ => OW_fst _ _ _ _ _ _ _) hS hP hD (List.range' 57 57) OW2_get2 (by decide) (fun _ => OW2_put2) OW2_at2 rfl ys_X7_savedStates kw_20_15 kw_20_16 kw_20_17 ⟨Nat.le_of_ble_eq_true rfl, Nat.le_of_ble_eq_true rfl⟩ hl.1 (Nat.le_of_ble_eq_true rfl) dL_law_148 rfl rfl ⟨rm_c (by omega), rm_s (by omega)⟩ (fun r148 u148 H locs hp148 hP hD hS => ?_)
          refine ro_top (z := nI S2.cg) hx hp148 ?_
          refine lv_icmp_ne (tgt := 188) hx hb dL_law_151 (by decide) (fun c_151 => ?_) (fun c_151 => ?_)
          · have c_151 := neq_f (a := S2.cg) (b := S2.cg) (by omega) (by omega) c_151
            exact absurd rfl c_151
          · have c_151 := neq_t (a := S2.cg) (b := S2.cg) (by omega) (by omega) c_151
            refine lv_aload_n hx hb dL_law_154 rfl (lv_at hl 3 rfl) ?_
            refine oL (As := []) (rest := []) (q0 := 0) (ci := 7) (T := TX7) (N := 5) C9 (o_digest l D G o K1 S2 D1 hA2.1.1.1 hA2.1.2.1.1 hD1.1 hA2.1.1.2.2.1) hS hP hD (List.range' 0 57) OW2_get1 (by decide) OW2_at1 rfl ys_X7_digest kw_20_19 kw_20_20 kw_20_21 ⟨Nat.le_of_ble_eq_true rfl, Nat.le_of_ble_eq_true rfl⟩ hl.1 (Nat.le_of_ble_eq_true rfl) dL_law_155 rfl rfl ⟨rm_c (by omega), rm_s (by omega)⟩ (fun r155 H locs hp155 hP hS => ?_)
            refine W.eq (g2 := F0 m9 158 ls [.long (dig S2.p S2.x S2.y)]) (by rw [hp155]) ?_
            refine lv_aload_n hx hb dL_law_158 rfl (lv_at hl 4 rfl) ?_
            refine oL (As := []) (rest := [.long (dig S2.p S2.x S2.y)]) (q0 := 57) (ci := 7) (T := TX7) (N := 5) C9 (o_digest l D G q K2 S2 D3 hA2.1.1.1 hA2.1.2.1.1 hD3.1 hA2.1.1.2.2.1) hS hP hD (List.range' 57 57) OW2_get2 (by decide) OW2_at2 rfl ys_X7_digest kw_20_19 kw_20_20 kw_20_21 ⟨Nat.le_of_ble_eq_true rfl, Nat.le_of_ble_eq_true rfl⟩ hl.1 (Nat.le_of_ble_eq_true rfl) dL_law_159 rfl rfl ⟨rm_c (by omega), rm_s (by omega)⟩ (fun r159 H locs hp159 hP hS => ?_)
            refine W.eq (g2 := F0 m9 162 ls [.long (dig S2.p S2.x S2.y), .long (dig S2.p S2.x S2.y)]) (by rw [hp159]) ?_
            refine W.lcmp hx hb dL_law_162 ?_
            refine ro_top (z := 0) hx (lg_cmp_self _) ?_
            refine lv_if_ne (tgt := 188) hx hb dL_law_163 (by decide) (fun h => absurd (by decide) h) (fun _ => ?_)
            refine lv_iload hx hb dL_law_166 (lv_at hl 6 rfl) ?_
            refine lv_iconst (v := 2) hx hb dL_law_168 (by decide) ?_
            refine ro_irem (z := nI (k % 2)) hx hb (by decide) (nI_rem (a := k) (b := 2) (by omega) (by decide)) dL_law_169 ?_
            refine lv_if_ne (tgt := 177) hx hb dL_law_170 (by decide) (fun c_170 => ?_) (fun c_170 => ?_)
            · have c_170 := neq_f (a := k % 2) (b := 0) (by omega) (by omega) c_170
              refine lv_aload_n hx hb dL_law_177 rfl (lv_at hl 4 rfl) ?_
              refine oS (As := [.ref q]) (rest := []) (wz := fun (_ : Unit) => OW G o K1 S2 D1 ++ OW G q K2 S2 D3) C9 (mL_hangs l D G hlt q K2 S2 D3 hA2 hD3) (fun _ => OW_fst _ _ _ _ _ _ _) hS hP hD (List.range' 57 57) OW2_get2 (by decide) (fun _ => OW2_put2) ys_L_hangs kw_11_22 kw_11_23 ⟨Nat.le_of_ble_eq_true rfl, Nat.le_of_ble_eq_true rfl⟩ hl.1 (Nat.le_of_ble_eq_true rfl) dL_law_178 rfl rfl ⟨rm_c (by omega), rm_s (by omega)⟩ (fun r178 u178 H locs hp178 hP hD hS => ?_)
              refine ro_top (z := 1) hx hp178 ?_
              refine lv_if_eq (tgt := 188) hx hb dL_law_181 (by decide) (fun h => absurd h (by decide)) (fun _ => ?_)
              refine lv_iconst (v := 1) hx hb dL_law_184 (by decide) ?_
              refine lv_goto (tgt := 189) hx hb dL_law_185 (by decide) ?_
              refine lv_istore_n (lv' := [(3, .int 1), (6, .int rr), (5, .int (nI (ceN G k))), (0, .ref G.2.2.2.2.1), (1, .ref o), (2, .ref q), (4, .int (nI k))]) hx hb dL_law_189 rfl hl (by decide) rfl (fun ls hl => ?_)
              refine lv_iinc (v := nI (k + 1)) (lv' := [(4, .int (nI (k + 1))), (3, .int 1), (6, .int rr), (5, .int (nI (ceN G k))), (0, .ref G.2.2.2.2.1), (1, .ref o), (2, .ref q)]) hx hb dL_law_190 hl (k := 6) rfl (nI_add k 1) (by decide) rfl (fun ls hl => ?_)
              refine lv_goto (tgt := 84) hx hb dL_law_193 (by decide) ?_
              exact ih84 (k + 1) S2 D1 D3 _ _ (by omega) hA2 hD1 hD3 (by omega) (by omega) (by omega) _ _ _ hP hD hS (lv_sub hl [4, 5, 6, 1, 0] rfl)
            · have c_170 := neq_t (a := k % 2) (b := 0) (by omega) (by omega) c_170
              refine lv_aload_n hx hb dL_law_173 rfl (lv_at hl 3 rfl) ?_
              refine lv_goto (tgt := 178) hx hb dL_law_174 (by decide) ?_
              refine oS (As := [.ref o]) (rest := []) (wz := fun (_ : Unit) => OW G o K1 S2 D1 ++ OW G q K2 S2 D3) C9 (mL_hangs l D G hlt o K1 S2 D1 hA2 hD1) (fun _ => OW_fst _ _ _ _ _ _ _) hS hP hD (List.range' 0 57) OW2_get1 (by decide) (fun _ => OW2_put1) ys_L_hangs kw_11_22 kw_11_23 ⟨Nat.le_of_ble_eq_true rfl, Nat.le_of_ble_eq_true rfl⟩ hl.1 (Nat.le_of_ble_eq_true rfl) dL_law_178 rfl rfl ⟨rm_c (by omega), rm_s (by omega)⟩ (fun r178 u178 H locs hp178 hP hD hS => ?_)
              refine ro_top (z := 1) hx hp178 ?_
              refine lv_if_eq (tgt := 188) hx hb dL_law_181 (by decide) (fun h => absurd h (by decide)) (fun _ => ?_)
              refine lv_iconst (v := 1) hx hb dL_law_184 (by decide) ?_
              refine lv_goto (tgt := 189) hx hb dL_law_185 (by decide) ?_
              refine lv_istore_n (lv' := [(3, .int 1), (6, .int rr), (5, .int (nI (ceN G k))), (0, .ref G.2.2.2.2.1), (1, .ref o), (2, .ref q), (4, .int (nI k))]) hx hb dL_law_189 rfl hl (by decide) rfl (fun ls hl => ?_)
              refine lv_iinc (v := nI (k + 1)) (lv' := [(4, .int (nI (k + 1))), (3, .int 1), (6, .int rr), (5, .int (nI (ceN G k))), (0, .ref G.2.2.2.2.1), (1, .ref o), (2, .ref q)]) hx hb dL_law_190 hl (k := 6) rfl (nI_add k 1) (by decide) rfl (fun ls hl => ?_)
              refine lv_goto (tgt := 84) hx hb dL_law_193 (by decide) ?_
              exact ih84 (k + 1) S2 D1 D3 _ _ (by omega) hA2 hD1 hD3 (by omega) (by omega) (by omega) _ _ _ hP hD hS (lv_sub hl [4, 5, 6, 1, 0] rfl)
      · have c_116 := nlt_f (a := 0) (b := k % 3) (by omega) (by omega) c_116
        refine lv_aload_n hx hb dL_law_119 rfl (lv_at hl 4 rfl) ?_
        refine lv_iload hx hb dL_law_120 (lv_at hl 1 rfl) ?_
        refine lv_ldc (v := 100000) hx hb hown (hts _ kw_1_3) dL_law_122 ?_
        refine ro_irem (z := nI ((ceN G k) % 100000)) hx hb (by decide) (nI_rem (a := ceN G k) (b := 100000) (by omega) (by decide)) dL_law_124 ?_
        refine oS (As := [.ref q, .int (nI ((ceN G k) % 100000))]) (rest := []) (wz := fun (D2 : SC) => OW G o K1 S2 D1 ++ OW G q K2 S D2) C9 (mL_refuses l D G hlt q K2 S C2 (ceN G k % 100000) (by omega) hA0 hC2) (fun _ => OW_fst _ _ _ _ _ _ _) hS hP hD (List.range' 57 57) OW2_get2 (by decide) (fun _ => OW2_put2) ys_L_refuses kw_20_12 kw_20_13 ⟨Nat.le_of_ble_eq_true rfl, Nat.le_of_ble_eq_true rfl⟩ hl.1 (Nat.le_of_ble_eq_true rfl) dL_law_125 rfl rfl ⟨rm_c (by omega), rm_s (by omega)⟩ (fun r125 D2 H locs hp125 hP hD hS => ?_)
        refine ro_top (z := 1) hx hp125.1 ?_
        have hD2 := hp125.2
        refine lv_if_eq (tgt := 188) hx hb dL_law_128 (by decide) (fun h => absurd h (by decide)) (fun _ => ?_)
        refine lv_aload_n hx hb dL_law_131 rfl (lv_at hl 4 rfl) ?_
        refine lv_aload_n hx hb dL_law_132 rfl (lv_at hl 2 rfl) ?_
        refine lv_iload hx hb dL_law_133 (lv_at hl 6 rfl) ?_
        refine oS (As := [.ref q, .ref G.2.2.2.2.1, .int (nI k)]) (rest := []) (wz := fun (D3 : SC) => OW G o K1 S2 D1 ++ OW G q K2 S2 D3) C9 (hact q K2 D2 hD2) (fun _ => OW_fst _ _ _ _ _ _ _) hS hP hD (List.range' 57 57) OW2_get2 (by decide) (fun _ => OW2_put2) ys_L_acts kw_16_20 kw_16_21 ⟨Nat.le_of_ble_eq_true rfl, Nat.le_of_ble_eq_true rfl⟩ hl.1 (Nat.le_of_ble_eq_true rfl) dL_law_135 rfl rfl ⟨rm_c (by omega), rm_s (by omega)⟩ (fun r135 D3 H locs hp135 hP hD hS => ?_)
        refine ro_top (z := rr) hx hp135.1 ?_
        have hD3 := hp135.2
        refine lv_iload hx hb dL_law_138 (lv_at hl 0 rfl) ?_
        refine lv_icmp_ne (tgt := 188) hx hb dL_law_140 (by decide) (fun c_140 => ?_) (fun c_140 => ?_)
        · exact absurd rfl c_140
        · refine lv_aload_n hx hb dL_law_143 rfl (lv_at hl 3 rfl) ?_
          refine oV (As := []) (rest := []) (q0 := 0) (ci := 7) (T := TX7) (N := 5) (wz := fun (_ : Unit) => OW G o K1 S2 D1 ++ OW G q K2 S2 D3) C9 (o_savedStates l D G o K1 S2 D1) (fun _ => OW_fst _ _ _ _ _ _ _) hS hP hD (List.range' 0 57) OW2_get1 (by decide) (fun _ => OW2_put1) OW2_at1 rfl ys_X7_savedStates kw_20_15 kw_20_16 kw_20_17 ⟨Nat.le_of_ble_eq_true rfl, Nat.le_of_ble_eq_true rfl⟩ hl.1 (Nat.le_of_ble_eq_true rfl) dL_law_144 rfl rfl ⟨rm_c (by omega), rm_s (by omega)⟩ (fun r144 u144 H locs hp144 hP hD hS => ?_)
          refine ro_top (z := nI S2.cg) hx hp144 ?_
          refine lv_aload_n hx hb dL_law_147 rfl (lv_at hl 4 rfl) ?_
          refine oV (As := []) (rest := [.int (nI S2.cg)]) (q0 := 57) (ci := 7) (T := TX7) (N := 5) (wz := fun (_ : Unit) => OW G o K1 S2 D1 ++ OW G q K2 S2 D3) C9 (o_savedStates l D G q K2 S2 D3) (fun _ => OW_fst _ _ _ _ _ _ _) hS hP hD (List.range' 57 57) OW2_get2 (by decide) (fun _ => OW2_put2) OW2_at2 rfl ys_X7_savedStates kw_20_15 kw_20_16 kw_20_17 ⟨Nat.le_of_ble_eq_true rfl, Nat.le_of_ble_eq_true rfl⟩ hl.1 (Nat.le_of_ble_eq_true rfl) dL_law_148 rfl rfl ⟨rm_c (by omega), rm_s (by omega)⟩ (fun r148 u148 H locs hp148 hP hD hS => ?_)
          refine ro_top (z := nI S2.cg) hx hp148 ?_
          refine lv_icmp_ne (tgt := 188) hx hb dL_law_151 (by decide) (fun c_151 => ?_) (fun c_151 => ?_)
          · have c_151 := neq_f (a := S2.cg) (b := S2.cg) (by omega) (by omega) c_151
            exact absurd rfl c_151
          · have c_151 := neq_t (a := S2.cg) (b := S2.cg) (by omega) (by omega) c_151
            refine lv_aload_n hx hb dL_law_154 rfl (lv_at hl 3 rfl) ?_
            refine oL (As := []) (rest := []) (q0 := 0) (ci := 7) (T := TX7) (N := 5) C9 (o_digest l D G o K1 S2 D1 hA2.1.1.1 hA2.1.2.1.1 hD1.1 hA2.1.1.2.2.1) hS hP hD (List.range' 0 57) OW2_get1 (by decide) OW2_at1 rfl ys_X7_digest kw_20_19 kw_20_20 kw_20_21 ⟨Nat.le_of_ble_eq_true rfl, Nat.le_of_ble_eq_true rfl⟩ hl.1 (Nat.le_of_ble_eq_true rfl) dL_law_155 rfl rfl ⟨rm_c (by omega), rm_s (by omega)⟩ (fun r155 H locs hp155 hP hS => ?_)
            refine W.eq (g2 := F0 m9 158 ls [.long (dig S2.p S2.x S2.y)]) (by rw [hp155]) ?_
            refine lv_aload_n hx hb dL_law_158 rfl (lv_at hl 4 rfl) ?_
            refine oL (As := []) (rest := [.long (dig S2.p S2.x S2.y)]) (q0 := 57) (ci := 7) (T := TX7) (N := 5) C9 (o_digest l D G q K2 S2 D3 hA2.1.1.1 hA2.1.2.1.1 hD3.1 hA2.1.1.2.2.1) hS hP hD (List.range' 57 57) OW2_get2 (by decide) OW2_at2 rfl ys_X7_digest kw_20_19 kw_20_20 kw_20_21 ⟨Nat.le_of_ble_eq_true rfl, Nat.le_of_ble_eq_true rfl⟩ hl.1 (Nat.le_of_ble_eq_true rfl) dL_law_159 rfl rfl ⟨rm_c (by omega), rm_s (by omega)⟩ (fun r159 H locs hp159 hP hS => ?_)
            refine W.eq (g2 := F0 m9 162 ls [.long (dig S2.p S2.x S2.y), .long (dig S2.p S2.x S2.y)]) (by rw [hp159]) ?_
            refine W.lcmp hx hb dL_law_162 ?_
            refine ro_top (z := 0) hx (lg_cmp_self _) ?_
            refine lv_if_ne (tgt := 188) hx hb dL_law_163 (by decide) (fun h => absurd (by decide) h) (fun _ => ?_)
            refine lv_iload hx hb dL_law_166 (lv_at hl 6 rfl) ?_
            refine lv_iconst (v := 2) hx hb dL_law_168 (by decide) ?_
            refine ro_irem (z := nI (k % 2)) hx hb (by decide) (nI_rem (a := k) (b := 2) (by omega) (by decide)) dL_law_169 ?_
            refine lv_if_ne (tgt := 177) hx hb dL_law_170 (by decide) (fun c_170 => ?_) (fun c_170 => ?_)
            · have c_170 := neq_f (a := k % 2) (b := 0) (by omega) (by omega) c_170
              refine lv_aload_n hx hb dL_law_177 rfl (lv_at hl 4 rfl) ?_
              refine oS (As := [.ref q]) (rest := []) (wz := fun (_ : Unit) => OW G o K1 S2 D1 ++ OW G q K2 S2 D3) C9 (mL_hangs l D G hlt q K2 S2 D3 hA2 hD3) (fun _ => OW_fst _ _ _ _ _ _ _) hS hP hD (List.range' 57 57) OW2_get2 (by decide) (fun _ => OW2_put2) ys_L_hangs kw_11_22 kw_11_23 ⟨Nat.le_of_ble_eq_true rfl, Nat.le_of_ble_eq_true rfl⟩ hl.1 (Nat.le_of_ble_eq_true rfl) dL_law_178 rfl rfl ⟨rm_c (by omega), rm_s (by omega)⟩ (fun r178 u178 H locs hp178 hP hD hS => ?_)
              refine ro_top (z := 1) hx hp178 ?_
              refine lv_if_eq (tgt := 188) hx hb dL_law_181 (by decide) (fun h => absurd h (by decide)) (fun _ => ?_)
              refine lv_iconst (v := 1) hx hb dL_law_184 (by decide) ?_
              refine lv_goto (tgt := 189) hx hb dL_law_185 (by decide) ?_
              refine lv_istore_n (lv' := [(3, .int 1), (6, .int rr), (5, .int (nI (ceN G k))), (0, .ref G.2.2.2.2.1), (1, .ref o), (2, .ref q), (4, .int (nI k))]) hx hb dL_law_189 rfl hl (by decide) rfl (fun ls hl => ?_)
              refine lv_iinc (v := nI (k + 1)) (lv' := [(4, .int (nI (k + 1))), (3, .int 1), (6, .int rr), (5, .int (nI (ceN G k))), (0, .ref G.2.2.2.2.1), (1, .ref o), (2, .ref q)]) hx hb dL_law_190 hl (k := 6) rfl (nI_add k 1) (by decide) rfl (fun ls hl => ?_)
              refine lv_goto (tgt := 84) hx hb dL_law_193 (by decide) ?_
              exact ih84 (k + 1) S2 D1 D3 _ _ (by omega) hA2 hD1 hD3 (by omega) (by omega) (by omega) _ _ _ hP hD hS (lv_sub hl [4, 5, 6, 1, 0] rfl)
            · have c_170 := neq_t (a := k % 2) (b := 0) (by omega) (by omega) c_170
              refine lv_aload_n hx hb dL_law_173 rfl (lv_at hl 3 rfl) ?_
              refine lv_goto (tgt := 178) hx hb dL_law_174 (by decide) ?_
              refine oS (As := [.ref o]) (rest := []) (wz := fun (_ : Unit) => OW G o K1 S2 D1 ++ OW G q K2 S2 D3) C9 (mL_hangs l D G hlt o K1 S2 D1 hA2 hD1) (fun _ => OW_fst _ _ _ _ _ _ _) hS hP hD (List.range' 0 57) OW2_get1 (by decide) (fun _ => OW2_put1) ys_L_hangs kw_11_22 kw_11_23 ⟨Nat.le_of_ble_eq_true rfl, Nat.le_of_ble_eq_true rfl⟩ hl.1 (Nat.le_of_ble_eq_true rfl) dL_law_178 rfl rfl ⟨rm_c (by omega), rm_s (by omega)⟩ (fun r178 u178 H locs hp178 hP hD hS => ?_)
              refine ro_top (z := 1) hx hp178 ?_
              refine lv_if_eq (tgt := 188) hx hb dL_law_181 (by decide) (fun h => absurd h (by decide)) (fun _ => ?_)
              refine lv_iconst (v := 1) hx hb dL_law_184 (by decide) ?_
              refine lv_goto (tgt := 189) hx hb dL_law_185 (by decide) ?_
              refine lv_istore_n (lv' := [(3, .int 1), (6, .int rr), (5, .int (nI (ceN G k))), (0, .ref G.2.2.2.2.1), (1, .ref o), (2, .ref q), (4, .int (nI k))]) hx hb dL_law_189 rfl hl (by decide) rfl (fun ls hl => ?_)
              refine lv_iinc (v := nI (k + 1)) (lv' := [(4, .int (nI (k + 1))), (3, .int 1), (6, .int rr), (5, .int (nI (ceN G k))), (0, .ref G.2.2.2.2.1), (1, .ref o), (2, .ref q)]) hx hb dL_law_190 hl (k := 6) rfl (nI_add k 1) (by decide) rfl (fun ls hl => ?_)
              refine lv_goto (tgt := 84) hx hb dL_law_193 (by decide) ?_
              exact ih84 (k + 1) S2 D1 D3 _ _ (by omega) hA2 hD1 hD3 (by omega) (by omega) (by omega) _ _ _ hP hD hS (lv_sub hl [4, 5, 6, 1, 0] rfl)
