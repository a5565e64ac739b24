/-! methods, by program: a pure program and its contract each -/
def f_X3_draw_1 (σ : Mem) : Res := nm (σ 1 14) fun (v1 : Int32) => nm (v1 * 1103515245) fun (v2 : Int32) => nm (v2 + 12345) fun (v3 : Int32) => nm (mset σ 1 14 v3) fun (μ4 : Mem) => nm (μ4 1 14) fun (v5 : Int32) => nm ((v5.toUInt32 >>> ((8 : Int32).toUInt32 &&& Int32.toUInt32 31)).toInt32) fun (v6 : Int32) => some (v6, μ4)
set_option maxHeartbeats 4000000 in
set_option maxRecDepth 100000 in
theorem m_X3_draw_1 {l : Launch} {σ : Mem} {Z : Int32 × Mem}  (hf : f_X3_draw_1 σ = some Z) : CT l yX3_draw cX3_draw 1 (some .int) 0 (fun ad => [.ref (ad 1)]) σ Z := by
  refine g_openT RX3 (by decide) rfl (fun _ => Nat.le_of_ble_eq_true rfl) (fun p e s m below meth c D cI cB ad st ls E Y hr hk hl => ?_)
  have hx := E.1.1
  have hb := E.1.2.1
  have hl : lv_has ls 1 [(0, .ref (ad 1))] := hl
  unfold f_X3_draw_1 at hf
  refine lv_aload_n (pc := 0) hx hb dX3_draw_0 rfl (lv_at hl 0 rfl) ?_
  refine lv_aload_n (pc := 1) hx hb dX3_draw_1 rfl (lv_at hl 0 rfl) ?_
  refine g_geti (pc := 2) E Y 1 14 S_1 rfl V_3 (by decide) AL_X3 q_285 dX3_draw_2 hf (fun v1 hf => ?_)
  refine lv_ldc (pc := 5) (v := 1103515245) hx hb E.1.2.2.2.1 (E.1.2.2.2.2 _ q_230) dX3_draw_5 ?_
  refine g_imul (pc := 7) E dX3_draw_7 hf (fun v2 hf => ?_)
  refine lv_sipush (pc := 8) (v := 12345) hx hb dX3_draw_8 (by decide) ?_
  refine g_iadd (pc := 11) E dX3_draw_11 hf (fun v3 hf => ?_)
  refine g_put (pc := 12) E Y 1 14 S_1 rfl V_3 (by decide) AL_X3 tyX3 tyX3_ok nmX3 q_285 rfl rfl rfl dX3_draw_12 hf (fun μ4 H locs hf Y => ?_)
  refine lv_aload_n (pc := 15) hx hb dX3_draw_15 rfl (lv_at hl 0 rfl) ?_
  refine g_geti (pc := 16) E Y 1 14 S_1 rfl V_3 (by decide) AL_X3 q_285 dX3_draw_16 hf (fun v5 hf => ?_)
  refine lv_bipush (pc := 19) (v := 8) hx hb dX3_draw_19 (by decide) ?_
  refine g_iushr (pc := 21) E dX3_draw_21 hf (fun v6 hf => ?_)
  exact g_iret (pc := 22) E Y hr hk dX3_draw_22 hf
def fb_X0_byWeight_2_L4 (bk : Int32 → Int32 → Mem → Res) (x2 : Int32) (x3 : Int32) (σ : Mem) : Res := nm (σ 2 4) fun (v1 : Int32) => if v1 ≤ x3 then (some (0, σ)) else (gi x3 6 <| nm (σ 5 x3.toNatClampNeg) fun (v2 : Int32) => if v2 ≤ x2 then (gi x3 6 <| nm (σ 5 x3.toNatClampNeg) fun (v3 : Int32) => nm (x2 - v3) fun (v4 : Int32) => nm (x3 + 1) fun (v5 : Int32) => bk v4 v5 σ) else (some (x3, σ)))
def f_X0_byWeight_2_L4 : Nat → Int32 → Int32 → Mem → Res
  | 0, _, _, _ => none
  | n + 1, x2, x3, σ => fb_X0_byWeight_2_L4 (f_X0_byWeight_2_L4 n) x2 x3 σ
def f_X0_byWeight_2 (a0 : Int32) (σ : Mem) : Res := f_X0_byWeight_2_L4 1000 a0 0 σ
set_option maxHeartbeats 4000000 in
set_option maxRecDepth 100000 in
theorem m_X0_byWeight_2 {l : Launch} {σ : Mem} {Z : Int32 × Mem} {a0 : Int32} (hf : f_X0_byWeight_2 a0 σ = some Z) : CT l yX0_byWeight cX0_byWeight 4 (some .int) 0 (fun ad => [.ref (ad 2), .int a0]) σ Z := by
  refine g_openT RX0 (by decide) rfl (fun _ => Nat.le_of_ble_eq_true rfl) (fun p e s m below meth c D cI cB ad st ls E Y hr hk hl => ?_)
  have hx := E.1.1
  have hb := E.1.2.1
  have hl : lv_has ls 4 [(0, .ref (ad 2)), (1, .int a0)] := hl
  have hL_4 : ∀ (n : Nat) (x2 : Int32) (x3 : Int32) (σ : Mem) (H : Heap) (locs : List Loc) (ls : Array Slot), f_X0_byWeight_2_L4 n x2 x3 σ = some Z → Wo D cI cB ad (AA ad) σ s H locs → lv_has ls 4 [(0, .ref (ad 2)), (2, .int x2), (3, .int x3)] → W p l e (rmd 0) s m ([.ref (ad 2), .int a0] : List Value).toArray below meth c H locs 0 0 (QT_ below D cI cB ad st Z ([.ref (ad 2), .int a0] : List Value).toArray s) (F0 m 4 ls []) := by
    intro n
    induction n with
    | zero =>
      intro x2 x3 σ H locs ls hf
      cases (show (none : Res) = some Z from hf)
    | succ n ih =>
      intro x2 x3 σ H locs ls hf Y hl
      have hf : fb_X0_byWeight_2_L4 (f_X0_byWeight_2_L4 n) x2 x3 σ = some Z := hf
      unfold fb_X0_byWeight_2_L4 at hf
      refine lv_iload_n (pc := 4) hx hb dX0_byWeight_4 rfl (lv_at hl 2 rfl) ?_
      refine lv_aload_n (pc := 5) hx hb dX0_byWeight_5 rfl (lv_at hl 0 rfl) ?_
      refine g_geti (pc := 6) E Y 2 4 S_2 rfl V_0 (by decide) AL_X0 q_245 dX0_byWeight_6 hf (fun v1 hf => ?_)
      refine g_icmp_ge (pc := 9) (tgt := 39) E dX0_byWeight_9 (by decide) hf (fun hf => ?_) (fun hf => ?_)
      · refine lv_iconst (pc := 39) (v := 0) hx hb dX0_byWeight_39 (by decide) ?_
        exact g_iret (pc := 40) E Y hr hk dX0_byWeight_40 hf
      · refine lv_iload_n (pc := 12) hx hb dX0_byWeight_12 rfl (lv_at hl 1 rfl) ?_
        refine lv_aload_n (pc := 13) hx hb dX0_byWeight_13 rfl (lv_at hl 0 rfl) ?_
        refine g_getr (pc := 14) E Y 2 2 5 S_2 rfl V_0 (by decide) AL_X0 q_243 dX0_byWeight_14 ?_
        refine lv_iload_n (pc := 17) hx hb dX0_byWeight_17 rfl (lv_at hl 2 rfl) ?_
        refine g_iald (pc := 18) E Y 5 S_5 dX0_byWeight_18 hf (fun v2 hf => ?_)
        refine g_icmp_ge (pc := 19) (tgt := 24) E dX0_byWeight_19 (by decide) hf (fun hf => ?_) (fun hf => ?_)
        · refine lv_iload_n (pc := 24) hx hb dX0_byWeight_24 rfl (lv_at hl 1 rfl) ?_
          refine lv_aload_n (pc := 25) hx hb dX0_byWeight_25 rfl (lv_at hl 0 rfl) ?_
          refine g_getr (pc := 26) E Y 2 2 5 S_2 rfl V_0 (by decide) AL_X0 q_243 dX0_byWeight_26 ?_
          refine lv_iload_n (pc := 29) hx hb dX0_byWeight_29 rfl (lv_at hl 2 rfl) ?_
          refine g_iald (pc := 30) E Y 5 S_5 dX0_byWeight_30 hf (fun v3 hf => ?_)
          refine g_isub (pc := 31) E dX0_byWeight_31 hf (fun v4 hf => ?_)
          refine lv_istore_n (pc := 32) (lv' := [(2, .int v4), (0, .ref (ad 2)), (3, .int x3)]) hx hb dX0_byWeight_32 rfl hl (by decide) rfl (fun ls hl => ?_)
          refine g_iinc (pc := 33) E (fun v5 => [(3, .int v5), (2, .int v4), (0, .ref (ad 2))]) dX0_byWeight_33 hl (k := 2) rfl (t := 1) (by decide) (by decide) (fun _ => rfl) hf (fun v5 hf ls hl => ?_)
          refine lv_goto (pc := 36) (tgt := 4) hx hb dX0_byWeight_36 (by decide) ?_
          exact ih _ _ _ _ _ _ hf Y (lv_sub hl [2, 1, 0] rfl)
        · refine lv_iload_n (pc := 22) hx hb dX0_byWeight_22 rfl (lv_at hl 2 rfl) ?_
          exact g_iret (pc := 23) E Y hr hk dX0_byWeight_23 hf
  unfold f_X0_byWeight_2 at hf
  refine lv_iload_n (pc := 0) hx hb dX0_byWeight_0 rfl (lv_at hl 1 rfl) ?_
  refine lv_istore_n (pc := 1) (lv' := [(2, .int a0), (0, .ref (ad 2)), (1, .int a0)]) hx hb dX0_byWeight_1 rfl hl (by decide) rfl (fun ls hl => ?_)
  refine lv_iconst (pc := 2) (v := 0) hx hb dX0_byWeight_2 (by decide) ?_
  refine lv_istore_n (pc := 3) (lv' := [(3, .int 0), (2, .int a0), (0, .ref (ad 2)), (1, .int a0)]) hx hb dX0_byWeight_3 rfl hl (by decide) rfl (fun ls hl => ?_)
  exact hL_4 1000 _ _ _ _ _ _ hf Y (lv_sub hl [2, 1, 0] rfl)
def f_X3_isSafeByDraws_1 (σ : Mem) : Res := bd (f_X0_allWeights_2 σ) fun v1 μ2 => nm (μ2 7 5) fun (v3 : Int32) => if v3 ≤ 0 then (gb 0 (some (0, μ2))) else (if 0 < v1 then (bd (f_X3_draw_1 μ2) fun v4 μ5 => nm (μ5 7 5) fun (v6 : Int32) => gz v6 <| nm (v4 - v4 / v6 * v6) fun (v7 : Int32) => bd (f_X3_draw_1 μ5) fun v8 μ9 => gz 21 <| nm (v8 - v8 / 21 * 21) fun (v10 : Int32) => gi v7 5 <| nm (mset μ9 10 v7.toNatClampNeg v10) fun (μ11 : Mem) => bd (f_X3_draw_1 μ11) fun v12 μ13 => gz v1 <| nm (v12 - v12 / v1 * v1) fun (v14 : Int32) => bd (f_X0_byWeight_2 v14 μ13) fun v15 μ16 => bd (f_X3_draw_1 μ16) fun v17 μ18 => gz 4 <| nm (v17 - v17 / 4 * 4) fun (v19 : Int32) => if v19 = 0 then (gi v7 5 <| nm (μ18 10 v7.toNatClampNeg) fun (v22 : Int32) => bd (f_X3_isPicked_1 v7 v22 μ18) fun v23 μ24 => if v23 = 0 then (bd (f_X3_goes_1 v7 v15 μ24) fun v25 μ26 => gb v25 (some (v25, μ26))) else (bd (f_X3_isOut_1 v7 μ24) fun v27 μ28 => gb 0 (some (0, μ28)))) else (bd (f_X3_goes_1 v7 v15 μ18) fun v20 μ21 => gb v20 (some (v20, μ21)))) else (gb 0 (some (0, μ2))))
set_option maxHeartbeats 4000000 in
set_option maxRecDepth 100000 in
theorem m_X3_isSafeByDraws_1 {l : Launch} {σ : Mem} {Z : Int32 × Mem}  (hf : f_X3_isSafeByDraws_1 σ = some Z) : CT l yX3_isSafeByDraws cX3_isSafeByDraws 4 (some .boolean) 6 (fun ad => [.ref (ad 1)]) σ Z := by
  refine g_openT RX3 (by decide) rfl (fun _ => Nat.le_of_ble_eq_true rfl) (fun p e s m below meth c D cI cB ad st ls E Y hr hk hl => ?_)
  have hx := E.1.1
  have hb := E.1.2.1
  have hl : lv_has ls 4 [(0, .ref (ad 1))] := hl
  unfold f_X3_isSafeByDraws_1 at hf
  refine lv_aload_n (pc := 0) hx hb dX3_isSafeByDraws_0 rfl (lv_at hl 0 rfl) ?_
  refine g_getr (pc := 1) E Y 1 0 2 S_1 rfl V_3 (by decide) AL_X3 q_265 dX3_isSafeByDraws_1 ?_
  refine g_callVi (pc := 4) E Y 2 S_2 V_0 o_X0_allWeights q_590 [] rfl rfl (hR_of (by omega) (by decide)) hl.1 (rest := []) rfl (Nat.le_of_ble_eq_true rfl) dX3_isSafeByDraws_4 (fun z hz => m_X0_allWeights_2 hz) hf (fun v1 μ2 H locs hf Y => ?_)
  refine lv_istore_n (pc := 7) (lv' := [(1, .int v1), (0, .ref (ad 1))]) hx hb dX3_isSafeByDraws_7 rfl hl (by decide) rfl (fun ls hl => ?_)
  refine lv_aload_n (pc := 8) hx hb dX3_isSafeByDraws_8 rfl (lv_at hl 1 rfl) ?_
  refine g_getr (pc := 9) E Y 1 1 7 S_1 rfl V_3 (by decide) AL_X3 q_272 dX3_isSafeByDraws_9 ?_
  refine g_geti (pc := 12) E Y 7 5 S_7 rfl V_2 (by decide) AL_X2 q_271 dX3_isSafeByDraws_12 hf (fun v3 hf => ?_)
  refine g_if_le (pc := 15) (tgt := 22) E dX3_isSafeByDraws_15 (by decide) hf (fun hf => ?_) (fun hf => ?_)
  · refine lv_iconst (pc := 22) (v := 0) hx hb dX3_isSafeByDraws_22 (by decide) ?_
    exact g_zret (pc := 23) E Y hr hk dX3_isSafeByDraws_23 hf
  · refine lv_iload_n (pc := 18) hx hb dX3_isSafeByDraws_18 rfl (lv_at hl 0 rfl) ?_
    refine g_if_gt (pc := 19) (tgt := 24) E dX3_isSafeByDraws_19 (by decide) hf (fun hf => ?_) (fun hf => ?_)
    · refine lv_aload_n (pc := 24) hx hb dX3_isSafeByDraws_24 rfl (lv_at hl 1 rfl) ?_
      refine g_callVi (pc := 25) E Y 1 S_1 V_3 o_X3_draw q_591 [] rfl rfl (hR_of (by omega) (by decide)) hl.1 (rest := []) rfl (Nat.le_of_ble_eq_true rfl) dX3_isSafeByDraws_25 (fun z hz => m_X3_draw_1 hz) hf (fun v4 μ5 H locs hf Y => ?_)
      refine lv_aload_n (pc := 28) hx hb dX3_isSafeByDraws_28 rfl (lv_at hl 1 rfl) ?_
      refine g_getr (pc := 29) E Y 1 1 7 S_1 rfl V_3 (by decide) AL_X3 q_272 dX3_isSafeByDraws_29 ?_
      refine g_geti (pc := 32) E Y 7 5 S_7 rfl V_2 (by decide) AL_X2 q_271 dX3_isSafeByDraws_32 hf (fun v6 hf => ?_)
      refine g_irem (pc := 35) E dX3_isSafeByDraws_35 hf (fun v7 hf => ?_)
      refine lv_istore_n (pc := 36) (lv' := [(2, .int v7), (1, .int v1), (0, .ref (ad 1))]) hx hb dX3_isSafeByDraws_36 rfl hl (by decide) rfl (fun ls hl => ?_)
      refine lv_aload_n (pc := 37) hx hb dX3_isSafeByDraws_37 rfl (lv_at hl 2 rfl) ?_
      refine g_getr (pc := 38) E Y 1 1 7 S_1 rfl V_3 (by decide) AL_X3 q_272 dX3_isSafeByDraws_38 ?_
      refine g_getr (pc := 41) E Y 7 2 10 S_7 rfl V_2 (by decide) AL_X2 q_268 dX3_isSafeByDraws_41 ?_
      refine lv_iload_n (pc := 44) hx hb dX3_isSafeByDraws_44 rfl (lv_at hl 0 rfl) ?_
      refine lv_aload_n (pc := 45) hx hb dX3_isSafeByDraws_45 rfl (lv_at hl 2 rfl) ?_
      refine g_callVi (pc := 46) E Y 1 S_1 V_3 o_X3_draw q_591 [] rfl rfl (hR_of (by omega) (by decide)) hl.1 (rest := [.int v7, .ref (ad 10)]) rfl (Nat.le_of_ble_eq_true rfl) dX3_isSafeByDraws_46 (fun z hz => m_X3_draw_1 hz) hf (fun v8 μ9 H locs hf Y => ?_)
      refine lv_bipush (pc := 49) (v := 21) hx hb dX3_isSafeByDraws_49 (by decide) ?_
      refine g_irem (pc := 51) E dX3_isSafeByDraws_51 hf (fun v10 hf => ?_)
      refine g_iast (pc := 52) E Y 10 S_10 dX3_isSafeByDraws_52 hf (fun μ11 H locs hf Y => ?_)
      refine lv_aload_n (pc := 53) hx hb dX3_isSafeByDraws_53 rfl (lv_at hl 2 rfl) ?_
      refine g_getr (pc := 54) E Y 1 0 2 S_1 rfl V_3 (by decide) AL_X3 q_265 dX3_isSafeByDraws_54 ?_
      refine lv_aload_n (pc := 57) hx hb dX3_isSafeByDraws_57 rfl (lv_at hl 2 rfl) ?_
      refine g_callVi (pc := 58) E Y 1 S_1 V_3 o_X3_draw q_591 [] rfl rfl (hR_of (by omega) (by decide)) hl.1 (rest := [.ref (ad 2)]) rfl (Nat.le_of_ble_eq_true rfl) dX3_isSafeByDraws_58 (fun z hz => m_X3_draw_1 hz) hf (fun v12 μ13 H locs hf Y => ?_)
      refine lv_iload_n (pc := 61) hx hb dX3_isSafeByDraws_61 rfl (lv_at hl 1 rfl) ?_
      refine g_irem (pc := 62) E dX3_isSafeByDraws_62 hf (fun v14 hf => ?_)
      refine g_callVi (pc := 63) E Y 2 S_2 V_0 o_X0_byWeight q_592 [.int v14] rfl rfl (hR_of (by omega) (by decide)) hl.1 (rest := []) rfl (Nat.le_of_ble_eq_true rfl) dX3_isSafeByDraws_63 (fun z hz => m_X0_byWeight_2 hz) hf (fun v15 μ16 H locs hf Y => ?_)
      refine lv_istore_n (pc := 66) (lv' := [(3, .int v15), (2, .int v7), (1, .int v1), (0, .ref (ad 1))]) hx hb dX3_isSafeByDraws_66 rfl hl (by decide) rfl (fun ls hl => ?_)
      refine lv_aload_n (pc := 67) hx hb dX3_isSafeByDraws_67 rfl (lv_at hl 3 rfl) ?_
      refine g_callVi (pc := 68) E Y 1 S_1 V_3 o_X3_draw q_591 [] rfl rfl (hR_of (by omega) (by decide)) hl.1 (rest := []) rfl (Nat.le_of_ble_eq_true rfl) dX3_isSafeByDraws_68 (fun z hz => m_X3_draw_1 hz) hf (fun v17 μ18 H locs hf Y => ?_)
      refine lv_iconst (pc := 71) (v := 4) hx hb dX3_isSafeByDraws_71 (by decide) ?_
      refine g_irem (pc := 72) E dX3_isSafeByDraws_72 hf (fun v19 hf => ?_)
      refine g_if_ne (pc := 73) (tgt := 100) E dX3_isSafeByDraws_73 (by decide) hf (fun hf => ?_) (fun hf => ?_)
      · refine lv_aload_n (pc := 100) hx hb dX3_isSafeByDraws_100 rfl (lv_at hl 3 rfl) ?_
        refine lv_iload_n (pc := 101) hx hb dX3_isSafeByDraws_101 rfl (lv_at hl 1 rfl) ?_
        refine lv_iload_n (pc := 102) hx hb dX3_isSafeByDraws_102 rfl (lv_at hl 0 rfl) ?_
        refine g_callVi (pc := 103) E Y 1 S_1 V_3 o_X3_goes q_594 [.int v7, .int v15] rfl rfl (hR_of (by omega) (by decide)) hl.1 (rest := []) rfl (Nat.le_of_ble_eq_true rfl) dX3_isSafeByDraws_103 (fun z hz => m_X3_goes_1 hz) hf (fun v20 μ21 H locs hf Y => ?_)
        exact g_zret (pc := 106) E Y hr hk dX3_isSafeByDraws_106 hf
      · refine lv_aload_n (pc := 76) hx hb dX3_isSafeByDraws_76 rfl (lv_at hl 3 rfl) ?_
        refine lv_iload_n (pc := 77) hx hb dX3_isSafeByDraws_77 rfl (lv_at hl 1 rfl) ?_
        refine lv_aload_n (pc := 78) hx hb dX3_isSafeByDraws_78 rfl (lv_at hl 3 rfl) ?_
        refine g_getr (pc := 79) E Y 1 1 7 S_1 rfl V_3 (by decide) AL_X3 q_272 dX3_isSafeByDraws_79 ?_
        refine g_getr (pc := 82) E Y 7 2 10 S_7 rfl V_2 (by decide) AL_X2 q_268 dX3_isSafeByDraws_82 ?_
        refine lv_iload_n (pc := 85) hx hb dX3_isSafeByDraws_85 rfl (lv_at hl 1 rfl) ?_
        refine g_iald (pc := 86) E Y 10 S_10 dX3_isSafeByDraws_86 hf (fun v22 hf => ?_)
        refine g_callVi (pc := 87) E Y 1 S_1 V_3 o_X3_isPicked q_593 [.int v7, .int v22] rfl rfl (hR_of (by omega) (by decide)) hl.1 (rest := []) rfl (Nat.le_of_ble_eq_true rfl) dX3_isSafeByDraws_87 (fun z hz => m_X3_isPicked_1 hz) hf (fun v23 μ24 H locs hf Y => ?_)
        refine g_if_eq (pc := 90) (tgt := 100) E dX3_isSafeByDraws_90 (by decide) hf (fun hf => ?_) (fun hf => ?_)
        · refine lv_aload_n (pc := 100) hx hb dX3_isSafeByDraws_100 rfl (lv_at hl 3 rfl) ?_
          refine lv_iload_n (pc := 101) hx hb dX3_isSafeByDraws_101 rfl (lv_at hl 1 rfl) ?_
          refine lv_iload_n (pc := 102) hx hb dX3_isSafeByDraws_102 rfl (lv_at hl 0 rfl) ?_
          refine g_callVi (pc := 103) E Y 1 S_1 V_3 o_X3_goes q_594 [.int v7, .int v15] rfl rfl (hR_of (by omega) (by decide)) hl.1 (rest := []) rfl (Nat.le_of_ble_eq_true rfl) dX3_isSafeByDraws_103 (fun z hz => m_X3_goes_1 hz) hf (fun v25 μ26 H locs hf Y => ?_)
          exact g_zret (pc := 106) E Y hr hk dX3_isSafeByDraws_106 hf
        · refine lv_aload_n (pc := 93) hx hb dX3_isSafeByDraws_93 rfl (lv_at hl 3 rfl) ?_
          refine lv_iload_n (pc := 94) hx hb dX3_isSafeByDraws_94 rfl (lv_at hl 1 rfl) ?_
          refine g_callVv (pc := 95) E Y 1 S_1 V_3 o_X3_isOut q_589 [.int v7] rfl rfl (hR_of (by omega) (by decide)) hl.1 (rest := []) rfl (Nat.le_of_ble_eq_true rfl) dX3_isSafeByDraws_95 (fun z hz => m_X3_isOut_1 hz) hf (fun v27 μ28 H locs hf Y => ?_)
          refine lv_iconst (pc := 98) (v := 0) hx hb dX3_isSafeByDraws_98 (by decide) ?_
          exact g_zret (pc := 99) E Y hr hk dX3_isSafeByDraws_99 hf
    · refine lv_iconst (pc := 22) (v := 0) hx hb dX3_isSafeByDraws_22 (by decide) ?_
      exact g_zret (pc := 23) E Y hr hk dX3_isSafeByDraws_23 hf
def fb_X7_loose_0_L20 (bk : Int32 → Int32 → Int32 → Mem → Res) (x1 : Int32) (x2 : Int32) (x3 : Int32) (σ : Mem) : Res := if x1 ≤ x3 then (some (x2, σ)) else (bd (f_X3_isSafeByDraws_1 σ) fun v3 μ4 => if v3 = 0 then (nm (x3 + 1) fun (v5 : Int32) => bk x1 x2 v5 μ4) else (nm (x2 + 1) fun (v6 : Int32) => nm (x3 + 1) fun (v7 : Int32) => bk x1 v6 v7 μ4))
def f_X7_loose_0_L20 : Nat → Int32 → Int32 → Int32 → Mem → Res
  | 0, _, _, _, _ => none
  | n + 1, x1, x2, x3, σ => fb_X7_loose_0_L20 (f_X7_loose_0_L20 n) x1 x2 x3 σ
def f_X7_loose_0 (a0 : Int32) (σ : Mem) : Res := bd (f_X7_within a0 1 30 σ) fun v1 μ2 => if v1 = 0 then (bd (f_X7_error_0 1 μ2) fun v8 μ9 => some (v8, μ9)) else (f_X7_loose_0_L20 1000 a0 0 0 μ2)
set_option maxHeartbeats 4000000 in
set_option maxRecDepth 100000 in
theorem m_X7_loose_0 {l : Launch} {σ : Mem} {Z : Int32 × Mem} {a0 : Int32} (hf : f_X7_loose_0 a0 σ = some Z) : CT l yX7_loose cX7_loose 4 (some .int) 7 (fun ad => [.ref (ad 0), .int a0]) σ Z := by
  refine g_openT RX7 (by decide) rfl (fun _ => Nat.le_of_ble_eq_true rfl) (fun p e s m below meth c D cI cB ad st ls E Y hr hk hl => ?_)
  have hx := E.1.1
  have hb := E.1.2.1
  have hl : lv_has ls 4 [(0, .ref (ad 0)), (1, .int a0)] := hl
  have hL_20 : ∀ (n : Nat) (x1 : Int32) (x2 : Int32) (x3 : Int32) (σ : Mem) (H : Heap) (locs : List Loc) (ls : Array Slot), f_X7_loose_0_L20 n x1 x2 x3 σ = some Z → Wo D cI cB ad (AA ad) σ s H locs → lv_has ls 4 [(0, .ref (ad 0)), (1, .int x1), (2, .int x2), (3, .int x3)] → W p l e (rmd 7) s m ([.ref (ad 0), .int a0] : List Value).toArray below meth c H locs 0 0 (QT_ below D cI cB ad st Z ([.ref (ad 0), .int a0] : List Value).toArray s) (F0 m 20 ls []) := by
    intro n
    induction n with
    | zero =>
      intro x1 x2 x3 σ H locs ls hf
      cases (show (none : Res) = some Z from hf)
    | succ n ih =>
      intro x1 x2 x3 σ H locs ls hf Y hl
      have hf : fb_X7_loose_0_L20 (f_X7_loose_0_L20 n) x1 x2 x3 σ = some Z := hf
      unfold fb_X7_loose_0_L20 at hf
      refine lv_iload_n (pc := 20) hx hb dX7_loose_20 rfl (lv_at hl 3 rfl) ?_
      refine lv_iload_n (pc := 21) hx hb dX7_loose_21 rfl (lv_at hl 1 rfl) ?_
      refine g_icmp_ge (pc := 22) (tgt := 44) E dX7_loose_22 (by decide) hf (fun hf => ?_) (fun hf => ?_)
      · refine lv_iload_n (pc := 44) hx hb dX7_loose_44 rfl (lv_at hl 2 rfl) ?_
        exact g_iret (pc := 45) E Y hr hk dX7_loose_45 hf
      · refine lv_aload_n (pc := 25) hx hb dX7_loose_25 rfl (lv_at hl 0 rfl) ?_
        refine g_getr (pc := 26) E Y 0 0 1 S_0 rfl V_7 (by decide) AL_X7 q_301 dX7_loose_26 ?_
        refine g_callVi (pc := 29) E Y 1 S_1 V_3 o_X3_isSafeByDraws q_644 [] rfl rfl (hR_of (by omega) (by decide)) hl.1 (rest := []) rfl (Nat.le_of_ble_eq_true rfl) dX7_loose_29 (fun z hz => m_X3_isSafeByDraws_1 hz) hf (fun v3 μ4 H locs hf Y => ?_)
        refine g_if_eq (pc := 32) (tgt := 38) E dX7_loose_32 (by decide) hf (fun hf => ?_) (fun hf => ?_)
        · refine g_iinc (pc := 38) E (fun v5 => [(3, .int v5), (0, .ref (ad 0)), (1, .int x1), (2, .int x2)]) dX7_loose_38 hl (k := 3) rfl (t := 1) (by decide) (by decide) (fun _ => rfl) hf (fun v5 hf ls hl => ?_)
          refine lv_goto (pc := 41) (tgt := 20) hx hb dX7_loose_41 (by decide) ?_
          exact ih _ _ _ _ _ _ _ hf Y (lv_sub hl [1, 2, 3, 0] rfl)
        · refine g_iinc (pc := 35) E (fun v6 => [(2, .int v6), (0, .ref (ad 0)), (1, .int x1), (3, .int x3)]) dX7_loose_35 hl (k := 2) rfl (t := 1) (by decide) (by decide) (fun _ => rfl) hf (fun v6 hf ls hl => ?_)
          refine g_iinc (pc := 38) E (fun v7 => [(3, .int v7), (2, .int v6), (0, .ref (ad 0)), (1, .int x1)]) dX7_loose_38 hl (k := 3) rfl (t := 1) (by decide) (by decide) (fun _ => rfl) hf (fun v7 hf ls hl => ?_)
          refine lv_goto (pc := 41) (tgt := 20) hx hb dX7_loose_41 (by decide) ?_
          exact ih _ _ _ _ _ _ _ hf Y (lv_sub hl [2, 3, 1, 0] rfl)
  unfold f_X7_loose_0 at hf
  refine lv_iload_n (pc := 0) hx hb dX7_loose_0 rfl (lv_at hl 1 rfl) ?_
  refine lv_iconst (pc := 1) (v := 1) hx hb dX7_loose_1 (by decide) ?_
  refine lv_bipush (pc := 2) (v := 30) hx hb dX7_loose_2 (by decide) ?_
  refine g_callSi (pc := 4) E Y o_X7_within q_661 [.int a0, .int 1, .int 30] rfl rfl (hR_of (by omega) (by decide)) hl.1 (rest := []) rfl (Nat.le_of_ble_eq_true rfl) dX7_loose_4 (fun z hz => m_X7_within hz) hf (fun v1 μ2 H locs hf Y => ?_)
  refine g_if_ne (pc := 7) (tgt := 16) E dX7_loose_7 (by decide) hf (fun hf => ?_) (fun hf => ?_)
  · refine lv_iconst (pc := 16) (v := 0) hx hb dX7_loose_16 (by decide) ?_
    refine lv_istore_n (pc := 17) (lv' := [(2, .int 0), (0, .ref (ad 0)), (1, .int a0)]) hx hb dX7_loose_17 rfl hl (by decide) rfl (fun ls hl => ?_)
    refine lv_iconst (pc := 18) (v := 0) hx hb dX7_loose_18 (by decide) ?_
    refine lv_istore_n (pc := 19) (lv' := [(3, .int 0), (2, .int 0), (0, .ref (ad 0)), (1, .int a0)]) hx hb dX7_loose_19 rfl hl (by decide) rfl (fun ls hl => ?_)
    exact hL_20 1000 _ _ _ _ _ _ _ hf Y (lv_sub hl [2, 3, 1, 0] rfl)
  · refine lv_aload_n (pc := 10) hx hb dX7_loose_10 rfl (lv_at hl 0 rfl) ?_
    refine lv_iconst (pc := 11) (v := 1) hx hb dX7_loose_11 (by decide) ?_
    refine g_callVi (pc := 12) E Y 0 S_0 V_7 o_X7_error q_656 [.int 1] rfl rfl (hR_of (by omega) (by decide)) hl.1 (rest := []) rfl (Nat.le_of_ble_eq_true rfl) dX7_loose_12 (fun z hz => m_X7_error_0 hz) hf (fun v8 μ9 H locs hf Y => ?_)
    exact g_iret (pc := 15) E Y hr hk dX7_loose_15 hf
def f_X7_seed_0 (a0 : Int32) (σ : Mem) : Res := nm (σ 1 14) fun (v1 : Int32) => nm (mset σ 1 14 a0) fun (μ2 : Mem) => some (v1, μ2)
set_option maxHeartbeats 4000000 in
set_option maxRecDepth 100000 in
theorem m_X7_seed_0 {l : Launch} {σ : Mem} {Z : Int32 × Mem} {a0 : Int32} (hf : f_X7_seed_0 a0 σ = some Z) : CT l yX7_seed cX7_seed 3 (some .int) 0 (fun ad => [.ref (ad 0), .int a0]) σ Z := by
  refine g_openT RX7 (by decide) rfl (fun _ => Nat.le_of_ble_eq_true rfl) (fun p e s m below meth c D cI cB ad st ls E Y hr hk hl => ?_)
  have hx := E.1.1
  have hb := E.1.2.1
  have hl : lv_has ls 3 [(0, .ref (ad 0)), (1, .int a0)] := hl
  unfold f_X7_seed_0 at hf
  refine lv_aload_n (pc := 0) hx hb dX7_seed_0 rfl (lv_at hl 0 rfl) ?_
  refine g_getr (pc := 1) E Y 0 0 1 S_0 rfl V_7 (by decide) AL_X7 q_301 dX7_seed_1 ?_
  refine g_geti (pc := 4) E Y 1 14 S_1 rfl V_3 (by decide) AL_X3 q_315 dX7_seed_4 hf (fun v1 hf => ?_)
  refine lv_istore_n (pc := 7) (lv' := [(2, .int v1), (0, .ref (ad 0)), (1, .int a0)]) hx hb dX7_seed_7 rfl hl (by decide) rfl (fun ls hl => ?_)
  refine lv_aload_n (pc := 8) hx hb dX7_seed_8 rfl (lv_at hl 1 rfl) ?_
  refine g_getr (pc := 9) E Y 0 0 1 S_0 rfl V_7 (by decide) AL_X7 q_301 dX7_seed_9 ?_
  refine lv_iload_n (pc := 12) hx hb dX7_seed_12 rfl (lv_at hl 2 rfl) ?_
  refine g_put (pc := 13) E Y 1 14 S_1 rfl V_3 (by decide) AL_X3 tyX3 tyX3_ok nmX3 q_315 rfl rfl rfl dX7_seed_13 hf (fun μ2 H locs hf Y => ?_)
  refine lv_iload_n (pc := 16) hx hb dX7_seed_16 rfl (lv_at hl 0 rfl) ?_
  exact g_iret (pc := 17) E Y hr hk dX7_seed_17 hf
def fb_X6_bodyOf_L4 (bk : Int32 → Int32 → Int32 → Mem → Res) (x1 : Int32) (x2 : Int32) (x3 : Int32) (σ : Mem) : Res := if 7 ≤ x3 then (some (0, σ)) else (if x2 < 0 then (some (0, σ)) else (if 7 ≤ x2 then (some (0, σ)) else (nm (x2 * 4) fun (v1 : Int32) => nm (v1 + x1) fun (v2 : Int32) => gi v2 28 <| nm (tB v2.toNatClampNeg) fun (v3 : Int32) => if v3 = 0 then (gi x2 7 <| nm (tA x2.toNatClampNeg) fun (v4 : Int32) => nm (x3 + 1) fun (v5 : Int32) => bk x1 v4 v5 σ) else (some (v3, σ)))))
def f_X6_bodyOf_L4 : Nat → Int32 → Int32 → Int32 → Mem → Res
  | 0, _, _, _, _ => none
  | n + 1, x1, x2, x3, σ => fb_X6_bodyOf_L4 (f_X6_bodyOf_L4 n) x1 x2 x3 σ
def f_X6_bodyOf (a0 : Int32) (a1 : Int32) (σ : Mem) : Res := f_X6_bodyOf_L4 1000 a1 a0 0 σ
set_option maxHeartbeats 4000000 in
set_option maxRecDepth 100000 in
theorem m_X6_bodyOf {l : Launch} {σ : Mem} {Z : Int32 × Mem} {a0 : Int32} {a1 : Int32} (hf : f_X6_bodyOf a0 a1 σ = some Z) : CT l yX6_bodyOf cX6_bodyOf 5 (some .int) 0 (fun _ => [.int a0, .int a1]) σ Z := by
  refine g_openT RX6 (by decide) rfl (fun _ => Nat.le_of_ble_eq_true rfl) (fun p e s m below meth c D cI cB ad st ls E Y hr hk hl => ?_)
  have hx := E.1.1
  have hb := E.1.2.1
  have hl : lv_has ls 5 [(0, .int a0), (1, .int a1)] := hl
  have hL_4 : ∀ (n : Nat) (x1 : Int32) (x2 : Int32) (x3 : Int32) (σ : Mem) (H : Heap) (locs : List Loc) (ls : Array Slot), f_X6_bodyOf_L4 n x1 x2 x3 σ = some Z → Wo D cI cB ad (AA ad) σ s H locs → lv_has ls 5 [(1, .int x1), (2, .int x2), (3, .int x3)] → W p l e (rmd 0) s m ([.int a0, .int a1] : List Value).toArray below meth c H locs 0 0 (QT_ below D cI cB ad st Z ([.int a0, .int a1] : List Value).toArray s) (F0 m 4 ls []) := by
    intro n
    induction n with
    | zero =>
      intro x1 x2 x3 σ H locs ls hf
      cases (show (none : Res) = some Z from hf)
    | succ n ih =>
      intro x1 x2 x3 σ H locs ls hf Y hl
      have hf : fb_X6_bodyOf_L4 (f_X6_bodyOf_L4 n) x1 x2 x3 σ = some Z := hf
      unfold fb_X6_bodyOf_L4 at hf
      refine lv_iload_n (pc := 4) hx hb dX6_bodyOf_4 rfl (lv_at hl 2 rfl) ?_
      refine lv_bipush (pc := 5) (v := 7) hx hb dX6_bodyOf_5 (by decide) ?_
      refine g_icmp_ge (pc := 7) (tgt := 51) E dX6_bodyOf_7 (by decide) hf (fun hf => ?_) (fun hf => ?_)
      · refine lv_iconst (pc := 51) (v := 0) hx hb dX6_bodyOf_51 (by decide) ?_
        exact g_iret (pc := 52) E Y hr hk dX6_bodyOf_52 hf
      · refine lv_iload_n (pc := 10) hx hb dX6_bodyOf_10 rfl (lv_at hl 1 rfl) ?_
        refine g_if_lt (pc := 11) (tgt := 51) E dX6_bodyOf_11 (by decide) hf (fun hf => ?_) (fun hf => ?_)
        · refine lv_iconst (pc := 51) (v := 0) hx hb dX6_bodyOf_51 (by decide) ?_
          exact g_iret (pc := 52) E Y hr hk dX6_bodyOf_52 hf
        · refine lv_iload_n (pc := 14) hx hb dX6_bodyOf_14 rfl (lv_at hl 1 rfl) ?_
          refine lv_bipush (pc := 15) (v := 7) hx hb dX6_bodyOf_15 (by decide) ?_
          refine g_icmp_ge (pc := 17) (tgt := 51) E dX6_bodyOf_17 (by decide) hf (fun hf => ?_) (fun hf => ?_)
          · refine lv_iconst (pc := 51) (v := 0) hx hb dX6_bodyOf_51 (by decide) ?_
            exact g_iret (pc := 52) E Y hr hk dX6_bodyOf_52 hf
          · refine g_getsN1 (pc := 20) E Y dX6_bodyOf_20 ?_
            refine lv_iload_n (pc := 23) hx hb dX6_bodyOf_23 rfl (lv_at hl 1 rfl) ?_
            refine lv_iconst (pc := 24) (v := 4) hx hb dX6_bodyOf_24 (by decide) ?_
            refine g_imul (pc := 25) E dX6_bodyOf_25 hf (fun v1 hf => ?_)
            refine lv_iload_n (pc := 26) hx hb dX6_bodyOf_26 rfl (lv_at hl 0 rfl) ?_
            refine g_iadd (pc := 27) E dX6_bodyOf_27 hf (fun v2 hf => ?_)
            refine g_ti1 (pc := 28) E Y dX6_bodyOf_28 hf (fun v3 hf => ?_)
            refine lv_istore (pc := 29) (lv' := [(4, .int v3), (1, .int x1), (2, .int x2), (3, .int x3)]) hx hb dX6_bodyOf_29 hl (by decide) rfl (fun ls hl => ?_)
            refine lv_iload (pc := 31) hx hb dX6_bodyOf_31 (lv_at hl 0 rfl) ?_
            refine g_if_eq (pc := 33) (tgt := 39) E dX6_bodyOf_33 (by decide) hf (fun hf => ?_) (fun hf => ?_)
            · refine g_getsN0 (pc := 39) E Y dX6_bodyOf_39 ?_
              refine lv_iload_n (pc := 42) hx hb dX6_bodyOf_42 rfl (lv_at hl 2 rfl) ?_
              refine g_ti0 (pc := 43) E Y dX6_bodyOf_43 hf (fun v4 hf => ?_)
              refine lv_istore_n (pc := 44) (lv' := [(2, .int v4), (4, .int v3), (1, .int x1), (3, .int x3)]) hx hb dX6_bodyOf_44 rfl hl (by decide) rfl (fun ls hl => ?_)
              refine g_iinc (pc := 45) E (fun v5 => [(3, .int v5), (2, .int v4), (4, .int v3), (1, .int x1)]) dX6_bodyOf_45 hl (k := 3) rfl (t := 1) (by decide) (by decide) (fun _ => rfl) hf (fun v5 hf ls hl => ?_)
              refine lv_goto (pc := 48) (tgt := 4) hx hb dX6_bodyOf_48 (by decide) ?_
              exact ih _ _ _ _ _ _ _ hf Y (lv_sub hl [3, 1, 0] rfl)
            · refine lv_iload (pc := 36) hx hb dX6_bodyOf_36 (lv_at hl 0 rfl) ?_
              exact g_iret (pc := 38) E Y hr hk dX6_bodyOf_38 hf
  unfold f_X6_bodyOf at hf
  refine lv_iload_n (pc := 0) hx hb dX6_bodyOf_0 rfl (lv_at hl 0 rfl) ?_
  refine lv_istore_n (pc := 1) (lv' := [(2, .int a0), (0, .int a0), (1, .int a1)]) hx hb dX6_bodyOf_1 rfl hl (by decide) rfl (fun ls hl => ?_)
  refine lv_iconst (pc := 2) (v := 0) hx hb dX6_bodyOf_2 (by decide) ?_
  refine lv_istore_n (pc := 3) (lv' := [(3, .int 0), (2, .int a0), (0, .int a0), (1, .int a1)]) hx hb dX6_bodyOf_3 rfl hl (by decide) rfl (fun ls hl => ?_)
  exact hL_4 1000 _ _ _ _ _ _ _ hf Y (lv_sub hl [3, 1, 0] rfl)
def f_X6_begin_50 (a0 : Int32) (σ : Mem) : Res := nm (σ 50 1) fun (v1 : Int32) => if 30 ≤ v1 then (some (0, σ)) else (nm (σ 50 1) fun (v2 : Int32) => gi v2 30 <| nm (mset σ 51 v2.toNatClampNeg a0) fun (μ3 : Mem) => nm (μ3 50 1) fun (v4 : Int32) => nm (v4 + 1) fun (v5 : Int32) => nm (mset μ3 50 1 v5) fun (μ6 : Mem) => some (0, μ6))
set_option maxHeartbeats 4000000 in
set_option maxRecDepth 100000 in
theorem m_X6_begin_50 {l : Launch} {σ : Mem} {Z : Int32 × Mem} {a0 : Int32} (hf : f_X6_begin_50 a0 σ = some Z) : CV l yX6_begin cX6_begin 2 0 (fun ad => [.ref (ad 50), .int a0]) σ Z := by
  refine g_openV RX6 (by decide) rfl (fun _ => Nat.le_of_ble_eq_true rfl) (fun p e s m below meth c D cI cB ad st ls E Y hr hk hl => ?_)
  have hx := E.1.1
  have hb := E.1.2.1
  have hl : lv_has ls 2 [(0, .ref (ad 50)), (1, .int a0)] := hl
  unfold f_X6_begin_50 at hf
  refine lv_aload_n (pc := 0) hx hb dX6_begin_0 rfl (lv_at hl 0 rfl) ?_
  refine g_geti (pc := 1) E Y 50 1 S_50 rfl V_6 (by decide) AL_X6 q_295 dX6_begin_1 hf (fun v1 hf => ?_)
  refine lv_bipush (pc := 4) (v := 30) hx hb dX6_begin_4 (by decide) ?_
  refine g_icmp_ge (pc := 6) (tgt := 29) E dX6_begin_6 (by decide) hf (fun hf => ?_) (fun hf => ?_)
  · exact g_vret (pc := 29) E Y hr hk dX6_begin_29 hf
  · refine lv_aload_n (pc := 9) hx hb dX6_begin_9 rfl (lv_at hl 0 rfl) ?_
    refine g_getr (pc := 10) E Y 50 0 51 S_50 rfl V_6 (by decide) AL_X6 q_300 dX6_begin_10 ?_
    refine lv_aload_n (pc := 13) hx hb dX6_begin_13 rfl (lv_at hl 0 rfl) ?_
    refine g_geti (pc := 14) E Y 50 1 S_50 rfl V_6 (by decide) AL_X6 q_295 dX6_begin_14 hf (fun v2 hf => ?_)
    refine lv_iload_n (pc := 17) hx hb dX6_begin_17 rfl (lv_at hl 1 rfl) ?_
    refine g_iast (pc := 18) E Y 51 S_51 dX6_begin_18 hf (fun μ3 H locs hf Y => ?_)
    refine lv_aload_n (pc := 19) hx hb dX6_begin_19 rfl (lv_at hl 0 rfl) ?_
    refine lv_dup (pc := 20) hx hb dX6_begin_20 rfl ?_
    refine g_geti (pc := 21) E Y 50 1 S_50 rfl V_6 (by decide) AL_X6 q_295 dX6_begin_21 hf (fun v4 hf => ?_)
    refine lv_iconst (pc := 24) (v := 1) hx hb dX6_begin_24 (by decide) ?_
    refine g_iadd (pc := 25) E dX6_begin_25 hf (fun v5 hf => ?_)
    refine g_put (pc := 26) E Y 50 1 S_50 rfl V_6 (by decide) AL_X6 tyX6 tyX6_ok nmX6 q_295 rfl rfl rfl dX6_begin_26 hf (fun μ6 H locs hf Y => ?_)
    exact g_vret (pc := 29) E Y hr hk dX6_begin_29 hf
def f_X6_parts_50 (a0 : Int32) (σ : Mem) : Res := nm (σ 50 4) fun (v1 : Int32) => nm (σ 50 3) fun (v2 : Int32) => nm (v1 - v2) fun (v3 : Int32) => if v3 = 0 then (gb 1 <| nm (mset σ 50 2 1) fun (μ5 : Mem) => some (0, μ5)) else (gz v3 <| nm (a0 / v3) fun (v4 : Int32) => some (v4, σ))
set_option maxHeartbeats 4000000 in
set_option maxRecDepth 100000 in
theorem m_X6_parts_50 {l : Launch} {σ : Mem} {Z : Int32 × Mem} {a0 : Int32} (hf : f_X6_parts_50 a0 σ = some Z) : CT l yX6_parts cX6_parts 3 (some .int) 0 (fun ad => [.ref (ad 50), .int a0]) σ Z := by
  refine g_openT RX6 (by decide) rfl (fun _ => Nat.le_of_ble_eq_true rfl) (fun p e s m below meth c D cI cB ad st ls E Y hr hk hl => ?_)
  have hx := E.1.1
  have hb := E.1.2.1
  have hl : lv_has ls 3 [(0, .ref (ad 50)), (1, .int a0)] := hl
  unfold f_X6_parts_50 at hf
  refine lv_aload_n (pc := 0) hx hb dX6_parts_0 rfl (lv_at hl 0 rfl) ?_
  refine g_geti (pc := 1) E Y 50 4 S_50 rfl V_6 (by decide) AL_X6 q_298 dX6_parts_1 hf (fun v1 hf => ?_)
  refine lv_aload_n (pc := 4) hx hb dX6_parts_4 rfl (lv_at hl 0 rfl) ?_
  refine g_geti (pc := 5) E Y 50 3 S_50 rfl V_6 (by decide) AL_X6 q_297 dX6_parts_5 hf (fun v2 hf => ?_)
  refine g_isub (pc := 8) E dX6_parts_8 hf (fun v3 hf => ?_)
  refine lv_istore_n (pc := 9) (lv' := [(2, .int v3), (0, .ref (ad 50)), (1, .int a0)]) hx hb dX6_parts_9 rfl hl (by decide) rfl (fun ls hl => ?_)
  refine lv_iload_n (pc := 10) hx hb dX6_parts_10 rfl (lv_at hl 0 rfl) ?_
  refine g_if_ne (pc := 11) (tgt := 21) E dX6_parts_11 (by decide) hf (fun hf => ?_) (fun hf => ?_)
  · refine lv_iload_n (pc := 21) hx hb dX6_parts_21 rfl (lv_at hl 2 rfl) ?_
    refine lv_iload_n (pc := 22) hx hb dX6_parts_22 rfl (lv_at hl 0 rfl) ?_
    refine g_idiv (pc := 23) E dX6_parts_23 hf (fun v4 hf => ?_)
    exact g_iret (pc := 24) E Y hr hk dX6_parts_24 hf
  · refine lv_aload_n (pc := 14) hx hb dX6_parts_14 rfl (lv_at hl 1 rfl) ?_
    refine lv_iconst (pc := 15) (v := 1) hx hb dX6_parts_15 (by decide) ?_
    obtain ⟨h01, hf⟩ := gb_some hf
    refine g_put (pc := 16) E Y 50 2 S_50 rfl V_6 (by decide) AL_X6 tyX6 tyX6_ok nmX6 q_296 rfl (nar01 h01) (fit01 h01) dX6_parts_16 hf (fun μ5 H locs hf Y => ?_)
    refine lv_iconst (pc := 19) (v := 0) hx hb dX6_parts_19 (by decide) ?_
    exact g_iret (pc := 20) E Y hr hk dX6_parts_20 hf
def f_X6_partsOfCurve_50 (rc : Int32 → Int32 → Int32 → Int32 → Mem → Res) (a0 : Int32) (a1 : Int32) (σ : Mem) : Res := bd (rc 0 3 a0 a1 σ) fun v1 μ2 => nm (μ2 50 2) fun (v3 : Int32) => if v3 = 0 then (nm (μ2 50 5) fun (v4 : Int32) => bd (rc v4 1 1 a1 μ2) fun v5 μ6 => nm (v1 + v5) fun (v7 : Int32) => some (v7, μ6)) else (some (0, μ2))
set_option maxHeartbeats 4000000 in
set_option maxRecDepth 100000 in
theorem m_X6_partsOfCurve_50 {l : Launch} {σ : Mem} {Z : Int32 × Mem} {a0 : Int32} {a1 : Int32} {dr : Nat} (hdr : 10 ≤ dr) {rc : Int32 → Int32 → Int32 → Int32 → Mem → Res} (hrc : ∀ (b0 : Int32) (b1 : Int32) (b2 : Int32) (b3 : Int32) (τ : Mem) (Zr : Int32 × Mem), rc b0 b1 b2 b3 τ = some Zr → CT l yX6_say cX6_say 7 (some .int) dr (fun ad => [.ref (ad 50), .int b0, .int b1, .int b2, .int b3]) τ Zr) (hf : f_X6_partsOfCurve_50 rc a0 a1 σ = some Z) : CT l yX6_partsOfCurve cX6_partsOfCurve 4 (some .int) (dr + 1) (fun ad => [.ref (ad 50), .int a0, .int a1]) σ Z := by
  refine g_openT RX6 (by decide) rfl (fun _ => Nat.le_of_ble_eq_true rfl) (fun p e s m below meth c D cI cB ad st ls E Y hr hk hl => ?_)
  have hx := E.1.1
  have hb := E.1.2.1
  have hl : lv_has ls 4 [(0, .ref (ad 50)), (1, .int a0), (2, .int a1)] := hl
  unfold f_X6_partsOfCurve_50 at hf
  refine lv_aload_n (pc := 0) hx hb dX6_partsOfCurve_0 rfl (lv_at hl 0 rfl) ?_
  refine lv_iconst (pc := 1) (v := 0) hx hb dX6_partsOfCurve_1 (by decide) ?_
  refine lv_iconst (pc := 2) (v := 3) hx hb dX6_partsOfCurve_2 (by decide) ?_
  refine lv_iload_n (pc := 3) hx hb dX6_partsOfCurve_3 rfl (lv_at hl 1 rfl) ?_
  refine lv_iload_n (pc := 4) hx hb dX6_partsOfCurve_4 rfl (lv_at hl 2 rfl) ?_
  refine g_callVi (pc := 5) E Y 50 S_50 V_6 o_X6_say q_611 [.int 0, .int 3, .int a0, .int a1] rfl rfl (hR_of (by omega) (by decide)) hl.1 (rest := []) rfl (Nat.le_of_ble_eq_true rfl) dX6_partsOfCurve_5 (fun z hz => hrc _ _ _ _ _ _ hz) hf (fun v1 μ2 H locs hf Y => ?_)
  refine lv_istore_n (pc := 8) (lv' := [(3, .int v1), (0, .ref (ad 50)), (1, .int a0), (2, .int a1)]) hx hb dX6_partsOfCurve_8 rfl hl (by decide) rfl (fun ls hl => ?_)
  refine lv_aload_n (pc := 9) hx hb dX6_partsOfCurve_9 rfl (lv_at hl 1 rfl) ?_
  refine g_geti (pc := 10) E Y 50 2 S_50 rfl V_6 (by decide) AL_X6 q_296 dX6_partsOfCurve_10 hf (fun v3 hf => ?_)
  refine g_if_eq (pc := 13) (tgt := 18) E dX6_partsOfCurve_13 (by decide) hf (fun hf => ?_) (fun hf => ?_)
  · refine lv_iload_n (pc := 18) hx hb dX6_partsOfCurve_18 rfl (lv_at hl 0 rfl) ?_
    refine lv_aload_n (pc := 19) hx hb dX6_partsOfCurve_19 rfl (lv_at hl 1 rfl) ?_
    refine lv_aload_n (pc := 20) hx hb dX6_partsOfCurve_20 rfl (lv_at hl 1 rfl) ?_
    refine g_geti (pc := 21) E Y 50 5 S_50 rfl V_6 (by decide) AL_X6 q_299 dX6_partsOfCurve_21 hf (fun v4 hf => ?_)
    refine lv_iconst (pc := 24) (v := 1) hx hb dX6_partsOfCurve_24 (by decide) ?_
    refine lv_iconst (pc := 25) (v := 1) hx hb dX6_partsOfCurve_25 (by decide) ?_
    refine lv_iload_n (pc := 26) hx hb dX6_partsOfCurve_26 rfl (lv_at hl 3 rfl) ?_
    refine g_callVi (pc := 27) E Y 50 S_50 V_6 o_X6_say q_611 [.int v4, .int 1, .int 1, .int a1] rfl rfl (hR_of (by omega) (by decide)) hl.1 (rest := [.int v1]) rfl (Nat.le_of_ble_eq_true rfl) dX6_partsOfCurve_27 (fun z hz => hrc _ _ _ _ _ _ hz) hf (fun v5 μ6 H locs hf Y => ?_)
    refine g_iadd (pc := 30) E dX6_partsOfCurve_30 hf (fun v7 hf => ?_)
    exact g_iret (pc := 31) E Y hr hk dX6_partsOfCurve_31 hf
  · refine lv_iconst (pc := 16) (v := 0) hx hb dX6_partsOfCurve_16 (by decide) ?_
    exact g_iret (pc := 17) E Y hr hk dX6_partsOfCurve_17 hf
def fb_X6_say_50 (rc : Int32 → Int32 → Int32 → Int32 → Mem → Res) (a0 : Int32) (a1 : Int32) (a2 : Int32) (a3 : Int32) (σ : Mem) : Res := bd (f_X6_bodyOf a0 a1 σ) fun v1 μ2 => if a3 < 20 then (bd (f_X6_begin_50 v1 μ2) fun v3 μ4 => nm (a3 + 1) fun (v5 : Int32) => if v1 = 10 then (nm (μ4 50 3) fun (v6 : Int32) => nm (a2 + v6) fun (v7 : Int32) => some (v7, μ4)) else (if v1 = 11 then (nm (μ4 50 5) fun (v8 : Int32) => bd (rc v8 0 a2 v5 μ4) fun v9 μ10 => nm (v9 * 2) fun (v11 : Int32) => some (v11, μ10)) else (if v1 = 12 then (nm (μ4 50 5) fun (v12 : Int32) => bd (rc v12 1 a2 v5 μ4) fun v13 μ14 => nm (μ14 50 4) fun (v15 : Int32) => nm (v13 - v15) fun (v16 : Int32) => some (v16, μ14)) else (if v1 = 13 then (bd (f_X6_parts_50 a2 μ4) fun v17 μ18 => some (v17, μ18)) else (if v1 = 20 then (bd (rc 0 0 a2 v5 μ4) fun v19 μ20 => nm (v19 - 4) fun (v21 : Int32) => some (v21, μ20)) else (if v1 = 21 then (bd (f_X6_partsOfCurve_50 rc a2 v5 μ4) fun v22 μ23 => some (v22, μ23)) else (if v1 = 30 then (bd (rc 0 1 a2 v5 μ4) fun v24 μ25 => nm (0 - v24) fun (v26 : Int32) => some (v26, μ25)) else (if v1 = 40 then (gz 2 <| nm (a2 / 2) fun (v27 : Int32) => bd (rc 0 2 v27 v5 μ4) fun v28 μ29 => some (v28, μ29)) else (if v1 = 50 then (bd (rc 1 0 a2 v5 μ4) fun v30 μ31 => nm (v30 * 3) fun (v32 : Int32) => some (v32, μ31)) else (if v1 = 51 then (bd (rc 1 2 a2 v5 μ4) fun v33 μ34 => nm (μ34 50 3) fun (v35 : Int32) => nm (v33 ^^^ v35) fun (v36 : Int32) => some (v36, μ34)) else (if v1 = 60 then (nm (a2 + 1) fun (v37 : Int32) => bd (rc 2 1 v37 v5 μ4) fun v38 μ39 => some (v38, μ39)) else (if v1 = 70 then (some (9, μ4)) else (if v1 = 71 then (bd (rc 0 1 a2 v5 μ4) fun v40 μ41 => nm (μ41 50 4) fun (v42 : Int32) => nm (v40 + v42) fun (v43 : Int32) => some (v43, μ41)) else (some (0, μ4))))))))))))))) else (some (0, μ2))
set_option maxHeartbeats 4000000 in
set_option maxRecDepth 100000 in
theorem mb_X6_say_50 {l : Launch} {σ : Mem} {Z : Int32 × Mem} {a0 : Int32} {a1 : Int32} {a2 : Int32} {a3 : Int32} {dr : Nat} (hdr : 10 ≤ dr) {rc : Int32 → Int32 → Int32 → Int32 → Mem → Res} (hrc : ∀ (b0 : Int32) (b1 : Int32) (b2 : Int32) (b3 : Int32) (τ : Mem) (Zr : Int32 × Mem), rc b0 b1 b2 b3 τ = some Zr → CT l yX6_say cX6_say 7 (some .int) dr (fun ad => [.ref (ad 50), .int b0, .int b1, .int b2, .int b3]) τ Zr) (hf : fb_X6_say_50 rc a0 a1 a2 a3 σ = some Z) : CT l yX6_say cX6_say 7 (some .int) (dr + 2) (fun ad => [.ref (ad 50), .int a0, .int a1, .int a2, .int a3]) σ Z := by
  refine g_openT RX6 (by decide) rfl (fun _ => Nat.le_of_ble_eq_true rfl) (fun p e s m below meth c D cI cB ad st ls E Y hr hk hl => ?_)
  have hx := E.1.1
  have hb := E.1.2.1
  have hl : lv_has ls 7 [(0, .ref (ad 50)), (1, .int a0), (2, .int a1), (3, .int a2), (4, .int a3)] := hl
  unfold fb_X6_say_50 at hf
  refine lv_iload_n (pc := 0) hx hb dX6_say_0 rfl (lv_at hl 1 rfl) ?_
  refine lv_iload_n (pc := 1) hx hb dX6_say_1 rfl (lv_at hl 2 rfl) ?_
  refine g_callSi (pc := 2) E Y o_X6_bodyOf q_612 [.int a0, .int a1] rfl rfl (hR_of (by omega) (by decide)) hl.1 (rest := []) rfl (Nat.le_of_ble_eq_true rfl) dX6_say_2 (fun z hz => m_X6_bodyOf hz) hf (fun v1 μ2 H locs hf Y => ?_)
  refine lv_istore (pc := 5) (lv' := [(5, .int v1), (0, .ref (ad 50)), (1, .int a0), (2, .int a1), (3, .int a2), (4, .int a3)]) hx hb dX6_say_5 hl (by decide) rfl (fun ls hl => ?_)
  refine lv_iload (pc := 7) hx hb dX6_say_7 (lv_at hl 5 rfl) ?_
  refine lv_bipush (pc := 9) (v := 20) hx hb dX6_say_9 (by decide) ?_
  refine g_icmp_lt (pc := 11) (tgt := 16) E dX6_say_11 (by decide) hf (fun hf => ?_) (fun hf => ?_)
  · refine lv_aload_n (pc := 16) hx hb dX6_say_16 rfl (lv_at hl 1 rfl) ?_
    refine lv_iload (pc := 17) hx hb dX6_say_17 (lv_at hl 0 rfl) ?_
    refine g_callVv (pc := 19) E Y 50 S_50 V_6 o_X6_begin q_613 [.int v1] rfl rfl (hR_of (by omega) (by decide)) hl.1 (rest := []) rfl (Nat.le_of_ble_eq_true rfl) dX6_say_19 (fun z hz => m_X6_begin_50 hz) hf (fun v3 μ4 H locs hf Y => ?_)
    refine lv_iload (pc := 22) hx hb dX6_say_22 (lv_at hl 5 rfl) ?_
    refine lv_iconst (pc := 24) (v := 1) hx hb dX6_say_24 (by decide) ?_
    refine g_iadd (pc := 25) E dX6_say_25 hf (fun v5 hf => ?_)
    refine lv_istore (pc := 26) (lv' := [(6, .int v5), (5, .int v1), (0, .ref (ad 50)), (1, .int a0), (2, .int a1), (3, .int a2), (4, .int a3)]) hx hb dX6_say_26 hl (by decide) rfl (fun ls hl => ?_)
    refine lv_iload (pc := 28) hx hb dX6_say_28 (lv_at hl 1 rfl) ?_
    by_cases hc : v1 = 10
    · rw [if_pos hc] at hf
      refine lv_lookup (pc := 30) (tgt := 144) (off := 114) hx hb dX6_say_30 rfl (by rw [hc]; rfl) (by decide) ?_
      refine lv_iload_n (pc := 144) hx hb dX6_say_144 rfl (lv_at hl 5 rfl) ?_
      refine lv_aload_n (pc := 145) hx hb dX6_say_145 rfl (lv_at hl 2 rfl) ?_
      refine g_geti (pc := 146) E Y 50 3 S_50 rfl V_6 (by decide) AL_X6 q_297 dX6_say_146 hf (fun v6 hf => ?_)
      refine g_iadd (pc := 149) E dX6_say_149 hf (fun v7 hf => ?_)
      exact g_iret (pc := 150) E Y hr hk dX6_say_150 hf
    · rw [if_neg hc] at hf
      have n_10 := ti_ne (n := 10) (by decide) hc
      clear hc
      by_cases hc : v1 = 11
      · rw [if_pos hc] at hf
        refine lv_lookup (pc := 30) (tgt := 151) (off := 121) hx hb dX6_say_30 rfl (by rw [hc]; rfl) (by decide) ?_
        refine lv_aload_n (pc := 151) hx hb dX6_say_151 rfl (lv_at hl 2 rfl) ?_
        refine lv_aload_n (pc := 152) hx hb dX6_say_152 rfl (lv_at hl 2 rfl) ?_
        refine g_geti (pc := 153) E Y 50 5 S_50 rfl V_6 (by decide) AL_X6 q_299 dX6_say_153 hf (fun v8 hf => ?_)
        refine lv_iconst (pc := 156) (v := 0) hx hb dX6_say_156 (by decide) ?_
        refine lv_iload_n (pc := 157) hx hb dX6_say_157 rfl (lv_at hl 5 rfl) ?_
        refine lv_iload (pc := 158) hx hb dX6_say_158 (lv_at hl 0 rfl) ?_
        refine g_callVi (pc := 160) E Y 50 S_50 V_6 o_X6_say q_611 [.int v8, .int 0, .int a2, .int v5] rfl rfl (hR_of (by omega) (by decide)) hl.1 (rest := []) rfl (Nat.le_of_ble_eq_true rfl) dX6_say_160 (fun z hz => hrc _ _ _ _ _ _ hz) hf (fun v9 μ10 H locs hf Y => ?_)
        refine lv_iconst (pc := 163) (v := 2) hx hb dX6_say_163 (by decide) ?_
        refine g_imul (pc := 164) E dX6_say_164 hf (fun v11 hf => ?_)
        exact g_iret (pc := 165) E Y hr hk dX6_say_165 hf
      · rw [if_neg hc] at hf
        have n_11 := ti_ne (n := 11) (by decide) hc
        clear hc
        by_cases hc : v1 = 12
        · rw [if_pos hc] at hf
          refine lv_lookup (pc := 30) (tgt := 166) (off := 136) hx hb dX6_say_30 rfl (by rw [hc]; rfl) (by decide) ?_
          refine lv_aload_n (pc := 166) hx hb dX6_say_166 rfl (lv_at hl 2 rfl) ?_
          refine lv_aload_n (pc := 167) hx hb dX6_say_167 rfl (lv_at hl 2 rfl) ?_
          refine g_geti (pc := 168) E Y 50 5 S_50 rfl V_6 (by decide) AL_X6 q_299 dX6_say_168 hf (fun v12 hf => ?_)
          refine lv_iconst (pc := 171) (v := 1) hx hb dX6_say_171 (by decide) ?_
          refine lv_iload_n (pc := 172) hx hb dX6_say_172 rfl (lv_at hl 5 rfl) ?_
          refine lv_iload (pc := 173) hx hb dX6_say_173 (lv_at hl 0 rfl) ?_
          refine g_callVi (pc := 175) E Y 50 S_50 V_6 o_X6_say q_611 [.int v12, .int 1, .int a2, .int v5] rfl rfl (hR_of (by omega) (by decide)) hl.1 (rest := []) rfl (Nat.le_of_ble_eq_true rfl) dX6_say_175 (fun z hz => hrc _ _ _ _ _ _ hz) hf (fun v13 μ14 H locs hf Y => ?_)
          refine lv_aload_n (pc := 178) hx hb dX6_say_178 rfl (lv_at hl 2 rfl) ?_
          refine g_geti (pc := 179) E Y 50 4 S_50 rfl V_6 (by decide) AL_X6 q_298 dX6_say_179 hf (fun v15 hf => ?_)
          refine g_isub (pc := 182) E dX6_say_182 hf (fun v16 hf => ?_)
          exact g_iret (pc := 183) E Y hr hk dX6_say_183 hf
        · rw [if_neg hc] at hf
          have n_12 := ti_ne (n := 12) (by decide) hc
          clear hc
          by_cases hc : v1 = 13
          · rw [if_pos hc] at hf
            refine lv_lookup (pc := 30) (tgt := 184) (off := 154) hx hb dX6_say_30 rfl (by rw [hc]; rfl) (by decide) ?_
            refine lv_aload_n (pc := 184) hx hb dX6_say_184 rfl (lv_at hl 2 rfl) ?_
            refine lv_iload_n (pc := 185) hx hb dX6_say_185 rfl (lv_at hl 5 rfl) ?_
            refine g_callVi (pc := 186) E Y 50 S_50 V_6 o_X6_parts q_614 [.int a2] rfl rfl (hR_of (by omega) (by decide)) hl.1 (rest := []) rfl (Nat.le_of_ble_eq_true rfl) dX6_say_186 (fun z hz => m_X6_parts_50 hz) hf (fun v17 μ18 H locs hf Y => ?_)
            exact g_iret (pc := 189) E Y hr hk dX6_say_189 hf
          · rw [if_neg hc] at hf
            have n_13 := ti_ne (n := 13) (by decide) hc
            clear hc
            by_cases hc : v1 = 20
            · rw [if_pos hc] at hf
              refine lv_lookup (pc := 30) (tgt := 190) (off := 160) hx hb dX6_say_30 rfl (by rw [hc]; rfl) (by decide) ?_
              refine lv_aload_n (pc := 190) hx hb dX6_say_190 rfl (lv_at hl 2 rfl) ?_
              refine lv_iconst (pc := 191) (v := 0) hx hb dX6_say_191 (by decide) ?_
              refine lv_iconst (pc := 192) (v := 0) hx hb dX6_say_192 (by decide) ?_
              refine lv_iload_n (pc := 193) hx hb dX6_say_193 rfl (lv_at hl 5 rfl) ?_
              refine lv_iload (pc := 194) hx hb dX6_say_194 (lv_at hl 0 rfl) ?_
              refine g_callVi (pc := 196) E Y 50 S_50 V_6 o_X6_say q_611 [.int 0, .int 0, .int a2, .int v5] rfl rfl (hR_of (by omega) (by decide)) hl.1 (rest := []) rfl (Nat.le_of_ble_eq_true rfl) dX6_say_196 (fun z hz => hrc _ _ _ _ _ _ hz) hf (fun v19 μ20 H locs hf Y => ?_)
              refine lv_iconst (pc := 199) (v := 4) hx hb dX6_say_199 (by decide) ?_
              refine g_isub (pc := 200) E dX6_say_200 hf (fun v21 hf => ?_)
              exact g_iret (pc := 201) E Y hr hk dX6_say_201 hf
            · rw [if_neg hc] at hf
              have n_20 := ti_ne (n := 20) (by decide) hc
              clear hc
              by_cases hc : v1 = 21
              · rw [if_pos hc] at hf
                refine lv_lookup (pc := 30) (tgt := 202) (off := 172) hx hb dX6_say_30 rfl (by rw [hc]; rfl) (by decide) ?_
                refine lv_aload_n (pc := 202) hx hb dX6_say_202 rfl (lv_at hl 2 rfl) ?_
                refine lv_iload_n (pc := 203) hx hb dX6_say_203 rfl (lv_at hl 5 rfl) ?_
                refine lv_iload (pc := 204) hx hb dX6_say_204 (lv_at hl 0 rfl) ?_
                refine g_callVi (pc := 206) E Y 50 S_50 V_6 o_X6_partsOfCurve q_615 [.int a2, .int v5] rfl rfl (hR_of (by omega) (by decide)) hl.1 (rest := []) rfl (Nat.le_of_ble_eq_true rfl) dX6_say_206 (fun z hz => m_X6_partsOfCurve_50 hdr hrc hz) hf (fun v22 μ23 H locs hf Y => ?_)
                exact g_iret (pc := 209) E Y hr hk dX6_say_209 hf
              · rw [if_neg hc] at hf
                have n_21 := ti_ne (n := 21) (by decide) hc
                clear hc
                by_cases hc : v1 = 30
                · rw [if_pos hc] at hf
                  refine lv_lookup (pc := 30) (tgt := 210) (off := 180) hx hb dX6_say_30 rfl (by rw [hc]; rfl) (by decide) ?_
                  refine lv_iconst (pc := 210) (v := 0) hx hb dX6_say_210 (by decide) ?_
                  refine lv_aload_n (pc := 211) hx hb dX6_say_211 rfl (lv_at hl 2 rfl) ?_
                  refine lv_iconst (pc := 212) (v := 0) hx hb dX6_say_212 (by decide) ?_
                  refine lv_iconst (pc := 213) (v := 1) hx hb dX6_say_213 (by decide) ?_
                  refine lv_iload_n (pc := 214) hx hb dX6_say_214 rfl (lv_at hl 5 rfl) ?_
                  refine lv_iload (pc := 215) hx hb dX6_say_215 (lv_at hl 0 rfl) ?_
                  refine g_callVi (pc := 217) E Y 50 S_50 V_6 o_X6_say q_611 [.int 0, .int 1, .int a2, .int v5] rfl rfl (hR_of (by omega) (by decide)) hl.1 (rest := [.int 0]) rfl (Nat.le_of_ble_eq_true rfl) dX6_say_217 (fun z hz => hrc _ _ _ _ _ _ hz) hf (fun v24 μ25 H locs hf Y => ?_)
                  refine g_isub (pc := 220) E dX6_say_220 hf (fun v26 hf => ?_)
                  exact g_iret (pc := 221) E Y hr hk dX6_say_221 hf
                · rw [if_neg hc] at hf
                  have n_30 := ti_ne (n := 30) (by decide) hc
                  clear hc
                  by_cases hc : v1 = 40
                  · rw [if_pos hc] at hf
                    refine lv_lookup (pc := 30) (tgt := 222) (off := 192) hx hb dX6_say_30 rfl (by rw [hc]; rfl) (by decide) ?_
                    refine lv_aload_n (pc := 222) hx hb dX6_say_222 rfl (lv_at hl 2 rfl) ?_
                    refine lv_iconst (pc := 223) (v := 0) hx hb dX6_say_223 (by decide) ?_
                    refine lv_iconst (pc := 224) (v := 2) hx hb dX6_say_224 (by decide) ?_
                    refine lv_iload_n (pc := 225) hx hb dX6_say_225 rfl (lv_at hl 5 rfl) ?_
                    refine lv_iconst (pc := 226) (v := 2) hx hb dX6_say_226 (by decide) ?_
                    refine g_idiv (pc := 227) E dX6_say_227 hf (fun v27 hf => ?_)
                    refine lv_iload (pc := 228) hx hb dX6_say_228 (lv_at hl 0 rfl) ?_
                    refine g_callVi (pc := 230) E Y 50 S_50 V_6 o_X6_say q_611 [.int 0, .int 2, .int v27, .int v5] rfl rfl (hR_of (by omega) (by decide)) hl.1 (rest := []) rfl (Nat.le_of_ble_eq_true rfl) dX6_say_230 (fun z hz => hrc _ _ _ _ _ _ hz) hf (fun v28 μ29 H locs hf Y => ?_)
                    exact g_iret (pc := 233) E Y hr hk dX6_say_233 hf
                  · rw [if_neg hc] at hf
                    have n_40 := ti_ne (n := 40) (by decide) hc
                    clear hc
                    by_cases hc : v1 = 50
                    · rw [if_pos hc] at hf
                      refine lv_lookup (pc := 30) (tgt := 234) (off := 204) hx hb dX6_say_30 rfl (by rw [hc]; rfl) (by decide) ?_
                      refine lv_aload_n (pc := 234) hx hb dX6_say_234 rfl (lv_at hl 2 rfl) ?_
                      refine lv_iconst (pc := 235) (v := 1) hx hb dX6_say_235 (by decide) ?_
                      refine lv_iconst (pc := 236) (v := 0) hx hb dX6_say_236 (by decide) ?_
                      refine lv_iload_n (pc := 237) hx hb dX6_say_237 rfl (lv_at hl 5 rfl) ?_
                      refine lv_iload (pc := 238) hx hb dX6_say_238 (lv_at hl 0 rfl) ?_
                      refine g_callVi (pc := 240) E Y 50 S_50 V_6 o_X6_say q_611 [.int 1, .int 0, .int a2, .int v5] rfl rfl (hR_of (by omega) (by decide)) hl.1 (rest := []) rfl (Nat.le_of_ble_eq_true rfl) dX6_say_240 (fun z hz => hrc _ _ _ _ _ _ hz) hf (fun v30 μ31 H locs hf Y => ?_)
                      refine lv_iconst (pc := 243) (v := 3) hx hb dX6_say_243 (by decide) ?_
                      refine g_imul (pc := 244) E dX6_say_244 hf (fun v32 hf => ?_)
                      exact g_iret (pc := 245) E Y hr hk dX6_say_245 hf
                    · rw [if_neg hc] at hf
                      have n_50 := ti_ne (n := 50) (by decide) hc
                      clear hc
                      by_cases hc : v1 = 51
                      · rw [if_pos hc] at hf
                        refine lv_lookup (pc := 30) (tgt := 246) (off := 216) hx hb dX6_say_30 rfl (by rw [hc]; rfl) (by decide) ?_
                        refine lv_aload_n (pc := 246) hx hb dX6_say_246 rfl (lv_at hl 2 rfl) ?_
                        refine lv_iconst (pc := 247) (v := 1) hx hb dX6_say_247 (by decide) ?_
                        refine lv_iconst (pc := 248) (v := 2) hx hb dX6_say_248 (by decide) ?_
                        refine lv_iload_n (pc := 249) hx hb dX6_say_249 rfl (lv_at hl 5 rfl) ?_
                        refine lv_iload (pc := 250) hx hb dX6_say_250 (lv_at hl 0 rfl) ?_
                        refine g_callVi (pc := 252) E Y 50 S_50 V_6 o_X6_say q_611 [.int 1, .int 2, .int a2, .int v5] rfl rfl (hR_of (by omega) (by decide)) hl.1 (rest := []) rfl (Nat.le_of_ble_eq_true rfl) dX6_say_252 (fun z hz => hrc _ _ _ _ _ _ hz) hf (fun v33 μ34 H locs hf Y => ?_)
                        refine lv_aload_n (pc := 255) hx hb dX6_say_255 rfl (lv_at hl 2 rfl) ?_
                        refine g_geti (pc := 256) E Y 50 3 S_50 rfl V_6 (by decide) AL_X6 q_297 dX6_say_256 hf (fun v35 hf => ?_)
                        refine g_ixor (pc := 259) E dX6_say_259 hf (fun v36 hf => ?_)
                        exact g_iret (pc := 260) E Y hr hk dX6_say_260 hf
                      · rw [if_neg hc] at hf
                        have n_51 := ti_ne (n := 51) (by decide) hc
                        clear hc
                        by_cases hc : v1 = 60
                        · rw [if_pos hc] at hf
                          refine lv_lookup (pc := 30) (tgt := 261) (off := 231) hx hb dX6_say_30 rfl (by rw [hc]; rfl) (by decide) ?_
                          refine lv_aload_n (pc := 261) hx hb dX6_say_261 rfl (lv_at hl 2 rfl) ?_
                          refine lv_iconst (pc := 262) (v := 2) hx hb dX6_say_262 (by decide) ?_
                          refine lv_iconst (pc := 263) (v := 1) hx hb dX6_say_263 (by decide) ?_
                          refine lv_iload_n (pc := 264) hx hb dX6_say_264 rfl (lv_at hl 5 rfl) ?_
                          refine lv_iconst (pc := 265) (v := 1) hx hb dX6_say_265 (by decide) ?_
                          refine g_iadd (pc := 266) E dX6_say_266 hf (fun v37 hf => ?_)
                          refine lv_iload (pc := 267) hx hb dX6_say_267 (lv_at hl 0 rfl) ?_
                          refine g_callVi (pc := 269) E Y 50 S_50 V_6 o_X6_say q_611 [.int 2, .int 1, .int v37, .int v5] rfl rfl (hR_of (by omega) (by decide)) hl.1 (rest := []) rfl (Nat.le_of_ble_eq_true rfl) dX6_say_269 (fun z hz => hrc _ _ _ _ _ _ hz) hf (fun v38 μ39 H locs hf Y => ?_)
                          exact g_iret (pc := 272) E Y hr hk dX6_say_272 hf
                        · rw [if_neg hc] at hf
                          have n_60 := ti_ne (n := 60) (by decide) hc
                          clear hc
                          by_cases hc : v1 = 70
                          · rw [if_pos hc] at hf
                            refine lv_lookup (pc := 30) (tgt := 273) (off := 243) hx hb dX6_say_30 rfl (by rw [hc]; rfl) (by decide) ?_
                            refine lv_bipush (pc := 273) (v := 9) hx hb dX6_say_273 (by decide) ?_
                            exact g_iret (pc := 275) E Y hr hk dX6_say_275 hf
                          · rw [if_neg hc] at hf
                            have n_70 := ti_ne (n := 70) (by decide) hc
                            clear hc
                            by_cases hc : v1 = 71
                            · rw [if_pos hc] at hf
                              refine lv_lookup (pc := 30) (tgt := 276) (off := 246) hx hb dX6_say_30 rfl (by rw [hc]; rfl) (by decide) ?_
                              refine lv_aload_n (pc := 276) hx hb dX6_say_276 rfl (lv_at hl 2 rfl) ?_
                              refine lv_iconst (pc := 277) (v := 0) hx hb dX6_say_277 (by decide) ?_
                              refine lv_iconst (pc := 278) (v := 1) hx hb dX6_say_278 (by decide) ?_
                              refine lv_iload_n (pc := 279) hx hb dX6_say_279 rfl (lv_at hl 5 rfl) ?_
                              refine lv_iload (pc := 280) hx hb dX6_say_280 (lv_at hl 0 rfl) ?_
                              refine g_callVi (pc := 282) E Y 50 S_50 V_6 o_X6_say q_611 [.int 0, .int 1, .int a2, .int v5] rfl rfl (hR_of (by omega) (by decide)) hl.1 (rest := []) rfl (Nat.le_of_ble_eq_true rfl) dX6_say_282 (fun z hz => hrc _ _ _ _ _ _ hz) hf (fun v40 μ41 H locs hf Y => ?_)
                              refine lv_aload_n (pc := 285) hx hb dX6_say_285 rfl (lv_at hl 2 rfl) ?_
                              refine g_geti (pc := 286) E Y 50 4 S_50 rfl V_6 (by decide) AL_X6 q_298 dX6_say_286 hf (fun v42 hf => ?_)
                              refine g_iadd (pc := 289) E dX6_say_289 hf (fun v43 hf => ?_)
                              exact g_iret (pc := 290) E Y hr hk dX6_say_290 hf
                            · rw [if_neg hc] at hf
                              have n_71 := ti_ne (n := 71) (by decide) hc
                              clear hc
                              refine lv_lookup (pc := 30) (tgt := 291) (off := 261) hx hb dX6_say_30 rfl (lk_def (by simp only [List.all_cons, List.all_nil, Bool.and_true, Bool.and_eq_true, bne_iff_ne, ne_eq]; omega)) (by decide) ?_
                              refine lv_iconst (pc := 291) (v := 0) hx hb dX6_say_291 (by decide) ?_
                              exact g_iret (pc := 292) E Y hr hk dX6_say_292 hf
  · refine lv_iconst (pc := 14) (v := 0) hx hb dX6_say_14 (by decide) ?_
    exact g_iret (pc := 15) E Y hr hk dX6_say_15 hf
def f_X6_say_50 : Nat → Int32 → Int32 → Int32 → Int32 → Mem → Res
  | 0, _, _, _, _, _ => none
  | n + 1, a0, a1, a2, a3, σ => fb_X6_say_50 (f_X6_say_50 n) a0 a1 a2 a3 σ
theorem m_X6_say_50 {l : Launch} (n : Nat) : ∀ {σ : Mem} {Z : Int32 × Mem} {a0 : Int32} {a1 : Int32} {a2 : Int32} {a3 : Int32}, f_X6_say_50 n a0 a1 a2 a3 σ = some Z → CT l yX6_say cX6_say 7 (some .int) (10 + 2 * n) (fun ad => [.ref (ad 50), .int a0, .int a1, .int a2, .int a3]) σ Z := by
  induction n with
  | zero =>
    intro σ Z a0 a1 a2 a3 hf
    cases (show (none : Res) = some Z from hf)
  | succ n ih =>
    intro σ Z a0 a1 a2 a3 hf
    have h := mb_X6_say_50 (l := l) (dr := 10 + 2 * n) (by omega) (rc := f_X6_say_50 n) (fun _ _ _ _ _ _ h => ih h) (show fb_X6_say_50 (f_X6_say_50 n) a0 a1 a2 a3 σ = some Z from hf)
    rw [show 10 + 2 * (n + 1) = 10 + 2 * n + 2 by omega]
    exact h
def f_X6_speak_50 (a0 : Int32) (a1 : Int32) (a2 : Int32) (a3 : Int32) (a4 : Int32) (σ : Mem) : Res := nm (mset σ 50 1 0) fun (μ1 : Mem) => gb 0 <| nm (mset μ1 50 2 0) fun (μ2 : Mem) => nm (mset μ2 50 3 a0) fun (μ3 : Mem) => nm (mset μ3 50 5 a1) fun (μ4 : Mem) => nm (mset μ4 50 4 a2) fun (μ5 : Mem) => bd (f_X6_say_50 25 a1 a3 a4 0 μ5) fun v6 μ7 => some (v6, μ7)
set_option maxHeartbeats 4000000 in
set_option maxRecDepth 100000 in
theorem m_X6_speak_50 {l : Launch} {σ : Mem} {Z : Int32 × Mem} {a0 : Int32} {a1 : Int32} {a2 : Int32} {a3 : Int32} {a4 : Int32} (hf : f_X6_speak_50 a0 a1 a2 a3 a4 σ = some Z) : CT l yX6_speak cX6_speak 6 (some .int) 61 (fun ad => [.ref (ad 50), .int a0, .int a1, .int a2, .int a3, .int a4]) σ Z := by
  refine g_openT RX6 (by decide) rfl (fun _ => Nat.le_of_ble_eq_true rfl) (fun p e s m below meth c D cI cB ad st ls E Y hr hk hl => ?_)
  have hx := E.1.1
  have hb := E.1.2.1
  have hl : lv_has ls 6 [(0, .ref (ad 50)), (1, .int a0), (2, .int a1), (3, .int a2), (4, .int a3), (5, .int a4)] := hl
  unfold f_X6_speak_50 at hf
  refine lv_aload_n (pc := 0) hx hb dX6_speak_0 rfl (lv_at hl 0 rfl) ?_
  refine lv_iconst (pc := 1) (v := 0) hx hb dX6_speak_1 (by decide) ?_
  refine g_put (pc := 2) E Y 50 1 S_50 rfl V_6 (by decide) AL_X6 tyX6 tyX6_ok nmX6 q_295 rfl rfl rfl dX6_speak_2 hf (fun μ1 H locs hf Y => ?_)
  refine lv_aload_n (pc := 5) hx hb dX6_speak_5 rfl (lv_at hl 0 rfl) ?_
  refine lv_iconst (pc := 6) (v := 0) hx hb dX6_speak_6 (by decide) ?_
  obtain ⟨h01, hf⟩ := gb_some hf
  refine g_put (pc := 7) E Y 50 2 S_50 rfl V_6 (by decide) AL_X6 tyX6 tyX6_ok nmX6 q_296 rfl (nar01 h01) (fit01 h01) dX6_speak_7 hf (fun μ2 H locs hf Y => ?_)
  refine lv_aload_n (pc := 10) hx hb dX6_speak_10 rfl (lv_at hl 0 rfl) ?_
  refine lv_iload_n (pc := 11) hx hb dX6_speak_11 rfl (lv_at hl 1 rfl) ?_
  refine g_put (pc := 12) E Y 50 3 S_50 rfl V_6 (by decide) AL_X6 tyX6 tyX6_ok nmX6 q_297 rfl rfl rfl dX6_speak_12 hf (fun μ3 H locs hf Y => ?_)
  refine lv_aload_n (pc := 15) hx hb dX6_speak_15 rfl (lv_at hl 0 rfl) ?_
  refine lv_iload_n (pc := 16) hx hb dX6_speak_16 rfl (lv_at hl 2 rfl) ?_
  refine g_put (pc := 17) E Y 50 5 S_50 rfl V_6 (by decide) AL_X6 tyX6 tyX6_ok nmX6 q_299 rfl rfl rfl dX6_speak_17 hf (fun μ4 H locs hf Y => ?_)
  refine lv_aload_n (pc := 20) hx hb dX6_speak_20 rfl (lv_at hl 0 rfl) ?_
  refine lv_iload_n (pc := 21) hx hb dX6_speak_21 rfl (lv_at hl 3 rfl) ?_
  refine g_put (pc := 22) E Y 50 4 S_50 rfl V_6 (by decide) AL_X6 tyX6 tyX6_ok nmX6 q_298 rfl rfl rfl dX6_speak_22 hf (fun μ5 H locs hf Y => ?_)
  refine lv_aload_n (pc := 25) hx hb dX6_speak_25 rfl (lv_at hl 0 rfl) ?_
  refine lv_iload_n (pc := 26) hx hb dX6_speak_26 rfl (lv_at hl 2 rfl) ?_
  refine lv_iload (pc := 27) hx hb dX6_speak_27 (lv_at hl 4 rfl) ?_
  refine lv_iload (pc := 29) hx hb dX6_speak_29 (lv_at hl 5 rfl) ?_
  refine lv_iconst (pc := 31) (v := 0) hx hb dX6_speak_31 (by decide) ?_
  refine g_callVi (pc := 32) E Y 50 S_50 V_6 o_X6_say q_611 [.int a1, .int a3, .int a4, .int 0] rfl rfl (hR_of (by omega) (by decide)) hl.1 (rest := []) rfl (Nat.le_of_ble_eq_true rfl) dX6_speak_32 (fun z hz => m_X6_say_50 25 hz) hf (fun v6 μ7 H locs hf Y => ?_)
  exact g_iret (pc := 35) E Y hr hk dX6_speak_35 hf
def f_X7_voice_0 (a0 : Int32) (a1 : Int32) (a2 : Int32) (σ : Mem) : Res := bd (f_X7_isPitch_0 a0 σ) fun v1 μ2 => if v1 = 0 then (bd (f_X7_error_0 1 μ2) fun v3 μ4 => some (v3, μ4)) else (bd (f_X7_within a1 0 3 μ2) fun v5 μ6 => if v5 = 0 then (bd (f_X7_error_0 1 μ6) fun v14 μ15 => some (v14, μ15)) else (gi a0 6 <| nm (μ6 3 a0.toNatClampNeg) fun (v7 : Int32) => gi a0 6 <| nm (μ6 4 a0.toNatClampNeg) fun (v8 : Int32) => bd (f_X6_speak_50 a0 v7 v8 a1 a2 μ6) fun v9 μ10 => nm (μ10 50 2) fun (v11 : Int32) => if v11 = 0 then (some (v9, μ10)) else (bd (f_X7_error_0 6 μ10) fun v12 μ13 => some (v12, μ13))))
set_option maxHeartbeats 4000000 in
set_option maxRecDepth 100000 in
theorem m_X7_voice_0 {l : Launch} {σ : Mem} {Z : Int32 × Mem} {a0 : Int32} {a1 : Int32} {a2 : Int32} (hf : f_X7_voice_0 a0 a1 a2 σ = some Z) : CT l yX7_voice cX7_voice 5 (some .int) 62 (fun ad => [.ref (ad 0), .int a0, .int a1, .int a2]) σ Z := by
  refine g_openT RX7 (by decide) rfl (fun _ => Nat.le_of_ble_eq_true rfl) (fun p e s m below meth c D cI cB ad st ls E Y hr hk hl => ?_)
  have hx := E.1.1
  have hb := E.1.2.1
  have hl : lv_has ls 5 [(0, .ref (ad 0)), (1, .int a0), (2, .int a1), (3, .int a2)] := hl
  unfold f_X7_voice_0 at hf
  refine lv_aload_n (pc := 0) hx hb dX7_voice_0 rfl (lv_at hl 0 rfl) ?_
  refine lv_iload_n (pc := 1) hx hb dX7_voice_1 rfl (lv_at hl 1 rfl) ?_
  refine g_callVi (pc := 2) E Y 0 S_0 V_7 o_X7_isPitch q_658 [.int a0] rfl rfl (hR_of (by omega) (by decide)) hl.1 (rest := []) rfl (Nat.le_of_ble_eq_true rfl) dX7_voice_2 (fun z hz => m_X7_isPitch_0 hz) hf (fun v1 μ2 H locs hf Y => ?_)
  refine g_if_eq (pc := 5) (tgt := 17) E dX7_voice_5 (by decide) hf (fun hf => ?_) (fun hf => ?_)
  · refine lv_aload_n (pc := 17) hx hb dX7_voice_17 rfl (lv_at hl 0 rfl) ?_
    refine lv_iconst (pc := 18) (v := 1) hx hb dX7_voice_18 (by decide) ?_
    refine g_callVi (pc := 19) E Y 0 S_0 V_7 o_X7_error q_656 [.int 1] rfl rfl (hR_of (by omega) (by decide)) hl.1 (rest := []) rfl (Nat.le_of_ble_eq_true rfl) dX7_voice_19 (fun z hz => m_X7_error_0 hz) hf (fun v3 μ4 H locs hf Y => ?_)
    exact g_iret (pc := 22) E Y hr hk dX7_voice_22 hf
  · refine lv_iload_n (pc := 8) hx hb dX7_voice_8 rfl (lv_at hl 2 rfl) ?_
    refine lv_iconst (pc := 9) (v := 0) hx hb dX7_voice_9 (by decide) ?_
    refine lv_iconst (pc := 10) (v := 3) hx hb dX7_voice_10 (by decide) ?_
    refine g_callSi (pc := 11) E Y o_X7_within q_661 [.int a1, .int 0, .int 3] rfl rfl (hR_of (by omega) (by decide)) hl.1 (rest := []) rfl (Nat.le_of_ble_eq_true rfl) dX7_voice_11 (fun z hz => m_X7_within hz) hf (fun v5 μ6 H locs hf Y => ?_)
    refine g_if_ne (pc := 14) (tgt := 23) E dX7_voice_14 (by decide) hf (fun hf => ?_) (fun hf => ?_)
    · refine lv_aload_n (pc := 23) hx hb dX7_voice_23 rfl (lv_at hl 0 rfl) ?_
      refine g_getr (pc := 24) E Y 0 4 50 S_0 rfl V_7 (by decide) AL_X7 q_331 dX7_voice_24 ?_
      refine lv_iload_n (pc := 27) hx hb dX7_voice_27 rfl (lv_at hl 1 rfl) ?_
      refine lv_aload_n (pc := 28) hx hb dX7_voice_28 rfl (lv_at hl 0 rfl) ?_
      refine g_getr (pc := 29) E Y 0 0 1 S_0 rfl V_7 (by decide) AL_X7 q_301 dX7_voice_29 ?_
      refine g_getr (pc := 32) E Y 1 0 2 S_1 rfl V_3 (by decide) AL_X3 q_334 dX7_voice_32 ?_
      refine g_getr (pc := 35) E Y 2 0 3 S_2 rfl V_0 (by decide) AL_X0 q_336 dX7_voice_35 ?_
      refine lv_iload_n (pc := 38) hx hb dX7_voice_38 rfl (lv_at hl 1 rfl) ?_
      refine g_iald (pc := 39) E Y 3 S_3 dX7_voice_39 hf (fun v7 hf => ?_)
      refine lv_aload_n (pc := 40) hx hb dX7_voice_40 rfl (lv_at hl 0 rfl) ?_
      refine g_getr (pc := 41) E Y 0 0 1 S_0 rfl V_7 (by decide) AL_X7 q_301 dX7_voice_41 ?_
      refine g_getr (pc := 44) E Y 1 0 2 S_1 rfl V_3 (by decide) AL_X3 q_334 dX7_voice_44 ?_
      refine g_getr (pc := 47) E Y 2 1 4 S_2 rfl V_0 (by decide) AL_X0 q_337 dX7_voice_47 ?_
      refine lv_iload_n (pc := 50) hx hb dX7_voice_50 rfl (lv_at hl 1 rfl) ?_
      refine g_iald (pc := 51) E Y 4 S_4 dX7_voice_51 hf (fun v8 hf => ?_)
      refine lv_iload_n (pc := 52) hx hb dX7_voice_52 rfl (lv_at hl 2 rfl) ?_
      refine lv_iload_n (pc := 53) hx hb dX7_voice_53 rfl (lv_at hl 3 rfl) ?_
      refine g_callVi (pc := 54) E Y 50 S_50 V_6 o_X6_speak q_645 [.int a0, .int v7, .int v8, .int a1, .int a2] rfl rfl (hR_of (by omega) (by decide)) hl.1 (rest := []) rfl (Nat.le_of_ble_eq_true rfl) dX7_voice_54 (fun z hz => m_X6_speak_50 hz) hf (fun v9 μ10 H locs hf Y => ?_)
      refine lv_istore (pc := 57) (lv' := [(4, .int v9), (0, .ref (ad 0)), (1, .int a0), (2, .int a1), (3, .int a2)]) hx hb dX7_voice_57 hl (by decide) rfl (fun ls hl => ?_)
      refine lv_aload_n (pc := 59) hx hb dX7_voice_59 rfl (lv_at hl 1 rfl) ?_
      refine g_getr (pc := 60) E Y 0 4 50 S_0 rfl V_7 (by decide) AL_X7 q_331 dX7_voice_60 ?_
      refine g_geti (pc := 63) E Y 50 2 S_50 rfl V_6 (by decide) AL_X6 q_316 dX7_voice_63 hf (fun v11 hf => ?_)
      refine g_if_eq (pc := 66) (tgt := 78) E dX7_voice_66 (by decide) hf (fun hf => ?_) (fun hf => ?_)
      · refine lv_iload (pc := 78) hx hb dX7_voice_78 (lv_at hl 0 rfl) ?_
        exact g_iret (pc := 80) E Y hr hk dX7_voice_80 hf
      · refine lv_aload_n (pc := 69) hx hb dX7_voice_69 rfl (lv_at hl 1 rfl) ?_
        refine lv_bipush (pc := 70) (v := 6) hx hb dX7_voice_70 (by decide) ?_
        refine g_callVi (pc := 72) E Y 0 S_0 V_7 o_X7_error q_656 [.int 6] rfl rfl (hR_of (by omega) (by decide)) hl.1 (rest := []) rfl (Nat.le_of_ble_eq_true rfl) dX7_voice_72 (fun z hz => m_X7_error_0 hz) hf (fun v12 μ13 H locs hf Y => ?_)
        refine lv_goto (pc := 75) (tgt := 80) hx hb dX7_voice_75 (by decide) ?_
        exact g_iret (pc := 80) E Y hr hk dX7_voice_80 hf
    · refine lv_aload_n (pc := 17) hx hb dX7_voice_17 rfl (lv_at hl 0 rfl) ?_
      refine lv_iconst (pc := 18) (v := 1) hx hb dX7_voice_18 (by decide) ?_
      refine g_callVi (pc := 19) E Y 0 S_0 V_7 o_X7_error q_656 [.int 1] rfl rfl (hR_of (by omega) (by decide)) hl.1 (rest := []) rfl (Nat.le_of_ble_eq_true rfl) dX7_voice_19 (fun z hz => m_X7_error_0 hz) hf (fun v14 μ15 H locs hf Y => ?_)
      exact g_iret (pc := 22) E Y hr hk dX7_voice_22 hf
def f_X7_body_0 (a0 : Int32) (σ : Mem) : Res := if a0 < 0 then (bd (f_X7_error_0 2 σ) fun v1 μ2 => some (v1, μ2)) else (nm (σ 50 1) fun (v3 : Int32) => if a0 < v3 then (gi a0 30 <| nm (σ 51 a0.toNatClampNeg) fun (v4 : Int32) => some (v4, σ)) else (bd (f_X7_error_0 2 σ) fun v5 μ6 => some (v5, μ6)))
set_option maxHeartbeats 4000000 in
set_option maxRecDepth 100000 in
theorem m_X7_body_0 {l : Launch} {σ : Mem} {Z : Int32 × Mem} {a0 : Int32} (hf : f_X7_body_0 a0 σ = some Z) : CT l yX7_body cX7_body 2 (some .int) 1 (fun ad => [.ref (ad 0), .int a0]) σ Z := by
  refine g_openT RX7 (by decide) rfl (fun _ => Nat.le_of_ble_eq_true rfl) (fun p e s m below meth c D cI cB ad st ls E Y hr hk hl => ?_)
  have hx := E.1.1
  have hb := E.1.2.1
  have hl : lv_has ls 2 [(0, .ref (ad 0)), (1, .int a0)] := hl
  unfold f_X7_body_0 at hf
  refine lv_iload_n (pc := 0) hx hb dX7_body_0 rfl (lv_at hl 1 rfl) ?_
  refine g_if_lt (pc := 1) (tgt := 15) E dX7_body_1 (by decide) hf (fun hf => ?_) (fun hf => ?_)
  · refine lv_aload_n (pc := 15) hx hb dX7_body_15 rfl (lv_at hl 0 rfl) ?_
    refine lv_iconst (pc := 16) (v := 2) hx hb dX7_body_16 (by decide) ?_
    refine g_callVi (pc := 17) E Y 0 S_0 V_7 o_X7_error q_656 [.int 2] rfl rfl (hR_of (by omega) (by decide)) hl.1 (rest := []) rfl (Nat.le_of_ble_eq_true rfl) dX7_body_17 (fun z hz => m_X7_error_0 hz) hf (fun v1 μ2 H locs hf Y => ?_)
    exact g_iret (pc := 20) E Y hr hk dX7_body_20 hf
  · refine lv_iload_n (pc := 4) hx hb dX7_body_4 rfl (lv_at hl 1 rfl) ?_
    refine lv_aload_n (pc := 5) hx hb dX7_body_5 rfl (lv_at hl 0 rfl) ?_
    refine g_getr (pc := 6) E Y 0 4 50 S_0 rfl V_7 (by decide) AL_X7 q_331 dX7_body_6 ?_
    refine g_geti (pc := 9) E Y 50 1 S_50 rfl V_6 (by decide) AL_X6 q_317 dX7_body_9 hf (fun v3 hf => ?_)
    refine g_icmp_lt (pc := 12) (tgt := 21) E dX7_body_12 (by decide) hf (fun hf => ?_) (fun hf => ?_)
    · refine lv_aload_n (pc := 21) hx hb dX7_body_21 rfl (lv_at hl 0 rfl) ?_
      refine g_getr (pc := 22) E Y 0 4 50 S_0 rfl V_7 (by decide) AL_X7 q_331 dX7_body_22 ?_
      refine g_getr (pc := 25) E Y 50 0 51 S_50 rfl V_6 (by decide) AL_X6 q_318 dX7_body_25 ?_
      refine lv_iload_n (pc := 28) hx hb dX7_body_28 rfl (lv_at hl 1 rfl) ?_
      refine g_iald (pc := 29) E Y 51 S_51 dX7_body_29 hf (fun v4 hf => ?_)
      exact g_iret (pc := 30) E Y hr hk dX7_body_30 hf
    · refine lv_aload_n (pc := 15) hx hb dX7_body_15 rfl (lv_at hl 0 rfl) ?_
      refine lv_iconst (pc := 16) (v := 2) hx hb dX7_body_16 (by decide) ?_
      refine g_callVi (pc := 17) E Y 0 S_0 V_7 o_X7_error q_656 [.int 2] rfl rfl (hR_of (by omega) (by decide)) hl.1 (rest := []) rfl (Nat.le_of_ble_eq_true rfl) dX7_body_17 (fun z hz => m_X7_error_0 hz) hf (fun v5 μ6 H locs hf Y => ?_)
      exact g_iret (pc := 20) E Y hr hk dX7_body_20 hf
def fb_X4_lay_46_L17 (bk : Int32 → Int32 → Mem → Res) (x1 : Int32) (x4 : Int32) (σ : Mem) : Res := if 24 ≤ x4 then (some (0, σ)) else (nm (x1 * 24) fun (v3 : Int32) => nm (v3 + x4) fun (v4 : Int32) => gi v4 96 <| nm (mset σ 49 v4.toNatClampNeg 0) fun (μ5 : Mem) => nm (x4 + 1) fun (v6 : Int32) => bk x1 v6 μ5)
def f_X4_lay_46_L17 : Nat → Int32 → Int32 → Mem → Res
  | 0, _, _, _ => none
  | n + 1, x1, x4, σ => fb_X4_lay_46_L17 (f_X4_lay_46_L17 n) x1 x4 σ
def f_X4_lay_46 (a0 : Int32) (a1 : Int32) (a2 : Int32) (σ : Mem) : Res := gi a0 4 <| nm (mset σ 47 a0.toNatClampNeg a1) fun (μ1 : Mem) => gi a0 4 <| nm (mset μ1 48 a0.toNatClampNeg a2) fun (μ2 : Mem) => f_X4_lay_46_L17 1000 a0 0 μ2
set_option maxHeartbeats 4000000 in
set_option maxRecDepth 100000 in
theorem m_X4_lay_46 {l : Launch} {σ : Mem} {Z : Int32 × Mem} {a0 : Int32} {a1 : Int32} {a2 : Int32} (hf : f_X4_lay_46 a0 a1 a2 σ = some Z) : CV l yX4_lay cX4_lay 5 0 (fun ad => [.ref (ad 46), .int a0, .int a1, .int a2]) σ Z := by
  refine g_openV RX4 (by decide) rfl (fun _ => Nat.le_of_ble_eq_true rfl) (fun p e s m below meth c D cI cB ad st ls E Y hr hk hl => ?_)
  have hx := E.1.1
  have hb := E.1.2.1
  have hl : lv_has ls 5 [(0, .ref (ad 46)), (1, .int a0), (2, .int a1), (3, .int a2)] := hl
  have hL_17 : ∀ (n : Nat) (x1 : Int32) (x4 : Int32) (σ : Mem) (H : Heap) (locs : List Loc) (ls : Array Slot), f_X4_lay_46_L17 n x1 x4 σ = some Z → Wo D cI cB ad (AA ad) σ s H locs → lv_has ls 5 [(0, .ref (ad 46)), (1, .int x1), (4, .int x4)] → W p l e (rmd 0) s m ([.ref (ad 46), .int a0, .int a1, .int a2] : List Value).toArray below meth c H locs 0 0 (QV_ below D cI cB ad st Z ([.ref (ad 46), .int a0, .int a1, .int a2] : List Value).toArray s) (F0 m 17 ls []) := by
    intro n
    induction n with
    | zero =>
      intro x1 x4 σ H locs ls hf
      cases (show (none : Res) = some Z from hf)
    | succ n ih =>
      intro x1 x4 σ H locs ls hf Y hl
      have hf : fb_X4_lay_46_L17 (f_X4_lay_46_L17 n) x1 x4 σ = some Z := hf
      unfold fb_X4_lay_46_L17 at hf
      refine lv_iload (pc := 17) hx hb dX4_lay_17 (lv_at hl 2 rfl) ?_
      refine lv_bipush (pc := 19) (v := 24) hx hb dX4_lay_19 (by decide) ?_
      refine g_icmp_ge (pc := 21) (tgt := 43) E dX4_lay_21 (by decide) hf (fun hf => ?_) (fun hf => ?_)
      · exact g_vret (pc := 43) E Y hr hk dX4_lay_43 hf
      · refine lv_aload_n (pc := 24) hx hb dX4_lay_24 rfl (lv_at hl 0 rfl) ?_
        refine g_getr (pc := 25) E Y 46 2 49 S_46 rfl V_4 (by decide) AL_X4 q_289 dX4_lay_25 ?_
        refine lv_iload_n (pc := 28) hx hb dX4_lay_28 rfl (lv_at hl 1 rfl) ?_
        refine lv_bipush (pc := 29) (v := 24) hx hb dX4_lay_29 (by decide) ?_
        refine g_imul (pc := 31) E dX4_lay_31 hf (fun v3 hf => ?_)
        refine lv_iload (pc := 32) hx hb dX4_lay_32 (lv_at hl 2 rfl) ?_
        refine g_iadd (pc := 34) E dX4_lay_34 hf (fun v4 hf => ?_)
        refine lv_iconst (pc := 35) (v := 0) hx hb dX4_lay_35 (by decide) ?_
        refine g_iast (pc := 36) E Y 49 S_49 dX4_lay_36 hf (fun μ5 H locs hf Y => ?_)
        refine g_iinc (pc := 37) E (fun v6 => [(4, .int v6), (0, .ref (ad 46)), (1, .int x1)]) dX4_lay_37 hl (k := 2) rfl (t := 1) (by decide) (by decide) (fun _ => rfl) hf (fun v6 hf ls hl => ?_)
        refine lv_goto (pc := 40) (tgt := 17) hx hb dX4_lay_40 (by decide) ?_
        exact ih _ _ _ _ _ _ hf Y (lv_sub hl [1, 2, 0] rfl)
  unfold f_X4_lay_46 at hf
  refine lv_aload_n (pc := 0) hx hb dX4_lay_0 rfl (lv_at hl 0 rfl) ?_
  refine g_getr (pc := 1) E Y 46 0 47 S_46 rfl V_4 (by decide) AL_X4 q_290 dX4_lay_1 ?_
  refine lv_iload_n (pc := 4) hx hb dX4_lay_4 rfl (lv_at hl 1 rfl) ?_
  refine lv_iload_n (pc := 5) hx hb dX4_lay_5 rfl (lv_at hl 2 rfl) ?_
  refine g_iast (pc := 6) E Y 47 S_47 dX4_lay_6 hf (fun μ1 H locs hf Y => ?_)
  refine lv_aload_n (pc := 7) hx hb dX4_lay_7 rfl (lv_at hl 0 rfl) ?_
  refine g_getr (pc := 8) E Y 46 1 48 S_46 rfl V_4 (by decide) AL_X4 q_288 dX4_lay_8 ?_
  refine lv_iload_n (pc := 11) hx hb dX4_lay_11 rfl (lv_at hl 1 rfl) ?_
  refine lv_iload_n (pc := 12) hx hb dX4_lay_12 rfl (lv_at hl 3 rfl) ?_
  refine g_iast (pc := 13) E Y 48 S_48 dX4_lay_13 hf (fun μ2 H locs hf Y => ?_)
  refine lv_iconst (pc := 14) (v := 0) hx hb dX4_lay_14 (by decide) ?_
  refine lv_istore (pc := 15) (lv' := [(4, .int 0), (0, .ref (ad 46)), (1, .int a0), (2, .int a1), (3, .int a2)]) hx hb dX4_lay_15 hl (by decide) rfl (fun ls hl => ?_)
  exact hL_17 1000 _ _ _ _ _ _ hf Y (lv_sub hl [1, 2, 0] rfl)
def f_X7_sheet_0_L35 (x1 : Int32) (x2 : Int32) (x3 : Int32) (σ : Mem) : Res := if x2 = 0 then (bd (f_X4_lay_46 x1 0 0 σ) fun v11 μ12 => some (1, μ12)) else (if 0 ≤ x3 then (if x3 ≤ 24 then (bd (f_X4_lay_46 x1 x2 x3 σ) fun v5 μ6 => some (1, μ6)) else (bd (f_X7_error_0 1 σ) fun v7 μ8 => some (v7, μ8))) else (bd (f_X7_error_0 3 σ) fun v9 μ10 => some (v9, μ10)))
def f_X7_sheet_0 (a0 : Int32) (a1 : Int32) (a2 : Int32) (σ : Mem) : Res := bd (f_X7_isSheet a0 σ) fun v1 μ2 => if v1 = 0 then (bd (f_X7_error_0 1 μ2) fun v3 μ4 => some (v3, μ4)) else (if a1 = 0 then (f_X7_sheet_0_L35 a0 a1 a2 μ2) else (if a1 = 8 then (f_X7_sheet_0_L35 a0 a1 a2 μ2) else (if a1 = 16 then (f_X7_sheet_0_L35 a0 a1 a2 μ2) else (if a1 = 32 then (f_X7_sheet_0_L35 a0 a1 a2 μ2) else (bd (f_X7_error_0 1 μ2) fun v13 μ14 => some (v13, μ14))))))
set_option maxHeartbeats 4000000 in
set_option maxRecDepth 100000 in
theorem m_X7_sheet_0 {l : Launch} {σ : Mem} {Z : Int32 × Mem} {a0 : Int32} {a1 : Int32} {a2 : Int32} (hf : f_X7_sheet_0 a0 a1 a2 σ = some Z) : CT l yX7_sheet cX7_sheet 4 (some .int) 2 (fun ad => [.ref (ad 0), .int a0, .int a1, .int a2]) σ Z := by
  refine g_openT RX7 (by decide) rfl (fun _ => Nat.le_of_ble_eq_true rfl) (fun p e s m below meth c D cI cB ad st ls E Y hr hk hl => ?_)
  have hx := E.1.1
  have hb := E.1.2.1
  have hl : lv_has ls 4 [(0, .ref (ad 0)), (1, .int a0), (2, .int a1), (3, .int a2)] := hl
  have hL_35 : ∀ (x1 : Int32) (x2 : Int32) (x3 : Int32) (σ : Mem) (H : Heap) (locs : List Loc) (ls : Array Slot), f_X7_sheet_0_L35 x1 x2 x3 σ = some Z → Wo D cI cB ad (AA ad) σ s H locs → lv_has ls 4 [(0, .ref (ad 0)), (1, .int x1), (2, .int x2), (3, .int x3)] → W p l e (rmd 2) s m ([.ref (ad 0), .int a0, .int a1, .int a2] : List Value).toArray below meth c H locs 0 0 (QT_ below D cI cB ad st Z ([.ref (ad 0), .int a0, .int a1, .int a2] : List Value).toArray s) (F0 m 35 ls []) := by
    intro x1 x2 x3 σ H locs ls hf Y hl
    unfold f_X7_sheet_0_L35 at hf
    refine lv_iload_n (pc := 35) hx hb dX7_sheet_35 rfl (lv_at hl 2 rfl) ?_
    refine g_if_ne (pc := 36) (tgt := 51) E dX7_sheet_36 (by decide) hf (fun hf => ?_) (fun hf => ?_)
    · refine lv_iload_n (pc := 51) hx hb dX7_sheet_51 rfl (lv_at hl 3 rfl) ?_
      refine g_if_ge (pc := 52) (tgt := 61) E dX7_sheet_52 (by decide) hf (fun hf => ?_) (fun hf => ?_)
      · refine lv_iload_n (pc := 61) hx hb dX7_sheet_61 rfl (lv_at hl 3 rfl) ?_
        refine lv_bipush (pc := 62) (v := 24) hx hb dX7_sheet_62 (by decide) ?_
        refine g_icmp_le (pc := 64) (tgt := 73) E dX7_sheet_64 (by decide) hf (fun hf => ?_) (fun hf => ?_)
        · refine lv_aload_n (pc := 73) hx hb dX7_sheet_73 rfl (lv_at hl 0 rfl) ?_
          refine g_getr (pc := 74) E Y 0 3 46 S_0 rfl V_7 (by decide) AL_X7 q_326 dX7_sheet_74 ?_
          refine lv_iload_n (pc := 77) hx hb dX7_sheet_77 rfl (lv_at hl 1 rfl) ?_
          refine lv_iload_n (pc := 78) hx hb dX7_sheet_78 rfl (lv_at hl 2 rfl) ?_
          refine lv_iload_n (pc := 79) hx hb dX7_sheet_79 rfl (lv_at hl 3 rfl) ?_
          refine g_callVv (pc := 80) E Y 46 S_46 V_4 o_X4_lay q_646 [.int x1, .int x2, .int x3] rfl rfl (hR_of (by omega) (by decide)) hl.1 (rest := []) rfl (Nat.le_of_ble_eq_true rfl) dX7_sheet_80 (fun z hz => m_X4_lay_46 hz) hf (fun v5 μ6 H locs hf Y => ?_)
          refine lv_iconst (pc := 83) (v := 1) hx hb dX7_sheet_83 (by decide) ?_
          exact g_iret (pc := 84) E Y hr hk dX7_sheet_84 hf
        · refine lv_aload_n (pc := 67) hx hb dX7_sheet_67 rfl (lv_at hl 0 rfl) ?_
          refine lv_iconst (pc := 68) (v := 1) hx hb dX7_sheet_68 (by decide) ?_
          refine g_callVi (pc := 69) E Y 0 S_0 V_7 o_X7_error q_656 [.int 1] rfl rfl (hR_of (by omega) (by decide)) hl.1 (rest := []) rfl (Nat.le_of_ble_eq_true rfl) dX7_sheet_69 (fun z hz => m_X7_error_0 hz) hf (fun v7 μ8 H locs hf Y => ?_)
          exact g_iret (pc := 72) E Y hr hk dX7_sheet_72 hf
      · refine lv_aload_n (pc := 55) hx hb dX7_sheet_55 rfl (lv_at hl 0 rfl) ?_
        refine lv_iconst (pc := 56) (v := 3) hx hb dX7_sheet_56 (by decide) ?_
        refine g_callVi (pc := 57) E Y 0 S_0 V_7 o_X7_error q_656 [.int 3] rfl rfl (hR_of (by omega) (by decide)) hl.1 (rest := []) rfl (Nat.le_of_ble_eq_true rfl) dX7_sheet_57 (fun z hz => m_X7_error_0 hz) hf (fun v9 μ10 H locs hf Y => ?_)
        exact g_iret (pc := 60) E Y hr hk dX7_sheet_60 hf
    · refine lv_aload_n (pc := 39) hx hb dX7_sheet_39 rfl (lv_at hl 0 rfl) ?_
      refine g_getr (pc := 40) E Y 0 3 46 S_0 rfl V_7 (by decide) AL_X7 q_326 dX7_sheet_40 ?_
      refine lv_iload_n (pc := 43) hx hb dX7_sheet_43 rfl (lv_at hl 1 rfl) ?_
      refine lv_iconst (pc := 44) (v := 0) hx hb dX7_sheet_44 (by decide) ?_
      refine lv_iconst (pc := 45) (v := 0) hx hb dX7_sheet_45 (by decide) ?_
      refine g_callVv (pc := 46) E Y 46 S_46 V_4 o_X4_lay q_646 [.int x1, .int 0, .int 0] rfl rfl (hR_of (by omega) (by decide)) hl.1 (rest := []) rfl (Nat.le_of_ble_eq_true rfl) dX7_sheet_46 (fun z hz => m_X4_lay_46 hz) hf (fun v11 μ12 H locs hf Y => ?_)
      refine lv_iconst (pc := 49) (v := 1) hx hb dX7_sheet_49 (by decide) ?_
      exact g_iret (pc := 50) E Y hr hk dX7_sheet_50 hf
  unfold f_X7_sheet_0 at hf
  refine lv_iload_n (pc := 0) hx hb dX7_sheet_0 rfl (lv_at hl 1 rfl) ?_
  refine g_callSi (pc := 1) E Y o_X7_isSheet q_641 [.int a0] rfl rfl (hR_of (by omega) (by decide)) hl.1 (rest := []) rfl (Nat.le_of_ble_eq_true rfl) dX7_sheet_1 (fun z hz => m_X7_isSheet hz) hf (fun v1 μ2 H locs hf Y => ?_)
  refine g_if_eq (pc := 4) (tgt := 29) E dX7_sheet_4 (by decide) hf (fun hf => ?_) (fun hf => ?_)
  · refine lv_aload_n (pc := 29) hx hb dX7_sheet_29 rfl (lv_at hl 0 rfl) ?_
    refine lv_iconst (pc := 30) (v := 1) hx hb dX7_sheet_30 (by decide) ?_
    refine g_callVi (pc := 31) E Y 0 S_0 V_7 o_X7_error q_656 [.int 1] rfl rfl (hR_of (by omega) (by decide)) hl.1 (rest := []) rfl (Nat.le_of_ble_eq_true rfl) dX7_sheet_31 (fun z hz => m_X7_error_0 hz) hf (fun v3 μ4 H locs hf Y => ?_)
    exact g_iret (pc := 34) E Y hr hk dX7_sheet_34 hf
  · refine lv_iload_n (pc := 7) hx hb dX7_sheet_7 rfl (lv_at hl 2 rfl) ?_
    refine g_if_eq (pc := 8) (tgt := 35) E dX7_sheet_8 (by decide) hf (fun hf => ?_) (fun hf => ?_)
    · exact hL_35 _ _ _ _ _ _ _ hf Y (lv_sub hl [0, 1, 2, 3] rfl)
    · refine lv_iload_n (pc := 11) hx hb dX7_sheet_11 rfl (lv_at hl 2 rfl) ?_
      refine lv_bipush (pc := 12) (v := 8) hx hb dX7_sheet_12 (by decide) ?_
      refine g_icmp_eq (pc := 14) (tgt := 35) E dX7_sheet_14 (by decide) hf (fun hf => ?_) (fun hf => ?_)
      · exact hL_35 _ _ _ _ _ _ _ hf Y (lv_sub hl [0, 1, 2, 3] rfl)
      · refine lv_iload_n (pc := 17) hx hb dX7_sheet_17 rfl (lv_at hl 2 rfl) ?_
        refine lv_bipush (pc := 18) (v := 16) hx hb dX7_sheet_18 (by decide) ?_
        refine g_icmp_eq (pc := 20) (tgt := 35) E dX7_sheet_20 (by decide) hf (fun hf => ?_) (fun hf => ?_)
        · exact hL_35 _ _ _ _ _ _ _ hf Y (lv_sub hl [0, 1, 2, 3] rfl)
        · refine lv_iload_n (pc := 23) hx hb dX7_sheet_23 rfl (lv_at hl 2 rfl) ?_
          refine lv_bipush (pc := 24) (v := 32) hx hb dX7_sheet_24 (by decide) ?_
          refine g_icmp_eq (pc := 26) (tgt := 35) E dX7_sheet_26 (by decide) hf (fun hf => ?_) (fun hf => ?_)
          · exact hL_35 _ _ _ _ _ _ _ hf Y (lv_sub hl [0, 1, 2, 3] rfl)
          · refine lv_aload_n (pc := 29) hx hb dX7_sheet_29 rfl (lv_at hl 0 rfl) ?_
            refine lv_iconst (pc := 30) (v := 1) hx hb dX7_sheet_30 (by decide) ?_
            refine g_callVi (pc := 31) E Y 0 S_0 V_7 o_X7_error q_656 [.int 1] rfl rfl (hR_of (by omega) (by decide)) hl.1 (rest := []) rfl (Nat.le_of_ble_eq_true rfl) dX7_sheet_31 (fun z hz => m_X7_error_0 hz) hf (fun v13 μ14 H locs hf Y => ?_)
            exact g_iret (pc := 34) E Y hr hk dX7_sheet_34 hf
def f_X4_standsAt_46 (a0 : Int32) (a1 : Int32) (a2 : Int32) (σ : Mem) : Res := if a2 < 0 then (gb 0 (some (0, σ))) else (if a1 < 0 then (gb 0 (some (0, σ))) else (gi a0 4 <| nm (σ 48 a0.toNatClampNeg) fun (v1 : Int32) => if v1 < a1 then (gb 0 (some (0, σ))) else (gi a0 4 <| nm (σ 48 a0.toNatClampNeg) fun (v2 : Int32) => nm (v2 - a1) fun (v3 : Int32) => if v3 < a2 then (gb 0 (some (0, σ))) else (gb 1 (some (1, σ))))))
set_option maxHeartbeats 4000000 in
set_option maxRecDepth 100000 in
theorem m_X4_standsAt_46 {l : Launch} {σ : Mem} {Z : Int32 × Mem} {a0 : Int32} {a1 : Int32} {a2 : Int32} (hf : f_X4_standsAt_46 a0 a1 a2 σ = some Z) : CT l yX4_standsAt cX4_standsAt 4 (some .boolean) 0 (fun ad => [.ref (ad 46), .int a0, .int a1, .int a2]) σ Z := by
  refine g_openT RX4 (by decide) rfl (fun _ => Nat.le_of_ble_eq_true rfl) (fun p e s m below meth c D cI cB ad st ls E Y hr hk hl => ?_)
  have hx := E.1.1
  have hb := E.1.2.1
  have hl : lv_has ls 4 [(0, .ref (ad 46)), (1, .int a0), (2, .int a1), (3, .int a2)] := hl
  unfold f_X4_standsAt_46 at hf
  refine lv_iload_n (pc := 0) hx hb dX4_standsAt_0 rfl (lv_at hl 3 rfl) ?_
  refine g_if_lt (pc := 1) (tgt := 34) E dX4_standsAt_1 (by decide) hf (fun hf => ?_) (fun hf => ?_)
  · refine lv_iconst (pc := 34) (v := 0) hx hb dX4_standsAt_34 (by decide) ?_
    exact g_zret (pc := 35) E Y hr hk dX4_standsAt_35 hf
  · refine lv_iload_n (pc := 4) hx hb dX4_standsAt_4 rfl (lv_at hl 2 rfl) ?_
    refine g_if_lt (pc := 5) (tgt := 34) E dX4_standsAt_5 (by decide) hf (fun hf => ?_) (fun hf => ?_)
    · refine lv_iconst (pc := 34) (v := 0) hx hb dX4_standsAt_34 (by decide) ?_
      exact g_zret (pc := 35) E Y hr hk dX4_standsAt_35 hf
    · refine lv_iload_n (pc := 8) hx hb dX4_standsAt_8 rfl (lv_at hl 2 rfl) ?_
      refine lv_aload_n (pc := 9) hx hb dX4_standsAt_9 rfl (lv_at hl 0 rfl) ?_
      refine g_getr (pc := 10) E Y 46 1 48 S_46 rfl V_4 (by decide) AL_X4 q_288 dX4_standsAt_10 ?_
      refine lv_iload_n (pc := 13) hx hb dX4_standsAt_13 rfl (lv_at hl 1 rfl) ?_
      refine g_iald (pc := 14) E Y 48 S_48 dX4_standsAt_14 hf (fun v1 hf => ?_)
      refine g_icmp_gt (pc := 15) (tgt := 34) E dX4_standsAt_15 (by decide) hf (fun hf => ?_) (fun hf => ?_)
      · refine lv_iconst (pc := 34) (v := 0) hx hb dX4_standsAt_34 (by decide) ?_
        exact g_zret (pc := 35) E Y hr hk dX4_standsAt_35 hf
      · refine lv_iload_n (pc := 18) hx hb dX4_standsAt_18 rfl (lv_at hl 3 rfl) ?_
        refine lv_aload_n (pc := 19) hx hb dX4_standsAt_19 rfl (lv_at hl 0 rfl) ?_
        refine g_getr (pc := 20) E Y 46 1 48 S_46 rfl V_4 (by decide) AL_X4 q_288 dX4_standsAt_20 ?_
        refine lv_iload_n (pc := 23) hx hb dX4_standsAt_23 rfl (lv_at hl 1 rfl) ?_
        refine g_iald (pc := 24) E Y 48 S_48 dX4_standsAt_24 hf (fun v2 hf => ?_)
        refine lv_iload_n (pc := 25) hx hb dX4_standsAt_25 rfl (lv_at hl 2 rfl) ?_
        refine g_isub (pc := 26) E dX4_standsAt_26 hf (fun v3 hf => ?_)
        refine g_icmp_gt (pc := 27) (tgt := 34) E dX4_standsAt_27 (by decide) hf (fun hf => ?_) (fun hf => ?_)
        · refine lv_iconst (pc := 34) (v := 0) hx hb dX4_standsAt_34 (by decide) ?_
          exact g_zret (pc := 35) E Y hr hk dX4_standsAt_35 hf
        · refine lv_iconst (pc := 30) (v := 1) hx hb dX4_standsAt_30 (by decide) ?_
          refine lv_goto (pc := 31) (tgt := 35) hx hb dX4_standsAt_31 (by decide) ?_
          exact g_zret (pc := 35) E Y hr hk dX4_standsAt_35 hf
def f_X4_write_46 (a0 : Int32) (a1 : Int32) (a2 : Int32) (σ : Mem) : Res := gi a0 4 <| nm (σ 47 a0.toNatClampNeg) fun (v1 : Int32) => if v1 = 8 then (nm (a2 &&& 255) fun (v10 : Int32) => nm (a0 * 24) fun (v11 : Int32) => nm (v11 + a1) fun (v12 : Int32) => gi v12 96 <| nm (mset σ 49 v12.toNatClampNeg v10) fun (μ13 : Mem) => some (0, μ13)) else (gi a0 4 <| nm (σ 47 a0.toNatClampNeg) fun (v2 : Int32) => if v2 = 16 then (nm (a2 &&& 65535) fun (v6 : Int32) => nm (a0 * 24) fun (v7 : Int32) => nm (v7 + a1) fun (v8 : Int32) => gi v8 96 <| nm (mset σ 49 v8.toNatClampNeg v6) fun (μ9 : Mem) => some (0, μ9)) else (nm (a0 * 24) fun (v3 : Int32) => nm (v3 + a1) fun (v4 : Int32) => gi v4 96 <| nm (mset σ 49 v4.toNatClampNeg a2) fun (μ5 : Mem) => some (0, μ5)))
set_option maxHeartbeats 4000000 in
set_option maxRecDepth 100000 in
theorem m_X4_write_46 {l : Launch} {σ : Mem} {Z : Int32 × Mem} {a0 : Int32} {a1 : Int32} {a2 : Int32} (hf : f_X4_write_46 a0 a1 a2 σ = some Z) : CV l yX4_write cX4_write 5 0 (fun ad => [.ref (ad 46), .int a0, .int a1, .int a2]) σ Z := by
  refine g_openV RX4 (by decide) rfl (fun _ => Nat.le_of_ble_eq_true rfl) (fun p e s m below meth c D cI cB ad st ls E Y hr hk hl => ?_)
  have hx := E.1.1
  have hb := E.1.2.1
  have hl : lv_has ls 5 [(0, .ref (ad 46)), (1, .int a0), (2, .int a1), (3, .int a2)] := hl
  unfold f_X4_write_46 at hf
  refine lv_aload_n (pc := 0) hx hb dX4_write_0 rfl (lv_at hl 0 rfl) ?_
  refine g_getr (pc := 1) E Y 46 0 47 S_46 rfl V_4 (by decide) AL_X4 q_290 dX4_write_1 ?_
  refine lv_iload_n (pc := 4) hx hb dX4_write_4 rfl (lv_at hl 1 rfl) ?_
  refine g_iald (pc := 5) E Y 47 S_47 dX4_write_5 hf (fun v1 hf => ?_)
  refine lv_bipush (pc := 6) (v := 8) hx hb dX4_write_6 (by decide) ?_
  refine g_icmp_ne (pc := 8) (tgt := 19) E dX4_write_8 (by decide) hf (fun hf => ?_) (fun hf => ?_)
  · refine lv_aload_n (pc := 19) hx hb dX4_write_19 rfl (lv_at hl 0 rfl) ?_
    refine g_getr (pc := 20) E Y 46 0 47 S_46 rfl V_4 (by decide) AL_X4 q_290 dX4_write_20 ?_
    refine lv_iload_n (pc := 23) hx hb dX4_write_23 rfl (lv_at hl 1 rfl) ?_
    refine g_iald (pc := 24) E Y 47 S_47 dX4_write_24 hf (fun v2 hf => ?_)
    refine lv_bipush (pc := 25) (v := 16) hx hb dX4_write_25 (by decide) ?_
    refine g_icmp_ne (pc := 27) (tgt := 37) E dX4_write_27 (by decide) hf (fun hf => ?_) (fun hf => ?_)
    · refine lv_iload_n (pc := 37) hx hb dX4_write_37 rfl (lv_at hl 3 rfl) ?_
      refine lv_istore (pc := 38) (lv' := [(4, .int a2), (0, .ref (ad 46)), (1, .int a0), (2, .int a1), (3, .int a2)]) hx hb dX4_write_38 hl (by decide) rfl (fun ls hl => ?_)
      refine lv_aload_n (pc := 40) hx hb dX4_write_40 rfl (lv_at hl 1 rfl) ?_
      refine g_getr (pc := 41) E Y 46 2 49 S_46 rfl V_4 (by decide) AL_X4 q_289 dX4_write_41 ?_
      refine lv_iload_n (pc := 44) hx hb dX4_write_44 rfl (lv_at hl 2 rfl) ?_
      refine lv_bipush (pc := 45) (v := 24) hx hb dX4_write_45 (by decide) ?_
      refine g_imul (pc := 47) E dX4_write_47 hf (fun v3 hf => ?_)
      refine lv_iload_n (pc := 48) hx hb dX4_write_48 rfl (lv_at hl 3 rfl) ?_
      refine g_iadd (pc := 49) E dX4_write_49 hf (fun v4 hf => ?_)
      refine lv_iload (pc := 50) hx hb dX4_write_50 (lv_at hl 0 rfl) ?_
      refine g_iast (pc := 52) E Y 49 S_49 dX4_write_52 hf (fun μ5 H locs hf Y => ?_)
      exact g_vret (pc := 53) E Y hr hk dX4_write_53 hf
    · refine lv_iload_n (pc := 30) hx hb dX4_write_30 rfl (lv_at hl 3 rfl) ?_
      refine lv_ldc (pc := 31) (v := 65535) hx hb E.1.2.2.2.1 (E.1.2.2.2.2 _ q_231) dX4_write_31 ?_
      refine g_iand (pc := 33) E dX4_write_33 hf (fun v6 hf => ?_)
      refine lv_goto (pc := 34) (tgt := 38) hx hb dX4_write_34 (by decide) ?_
      refine lv_istore (pc := 38) (lv' := [(4, .int v6), (0, .ref (ad 46)), (1, .int a0), (2, .int a1), (3, .int a2)]) hx hb dX4_write_38 hl (by decide) rfl (fun ls hl => ?_)
      refine lv_aload_n (pc := 40) hx hb dX4_write_40 rfl (lv_at hl 1 rfl) ?_
      refine g_getr (pc := 41) E Y 46 2 49 S_46 rfl V_4 (by decide) AL_X4 q_289 dX4_write_41 ?_
      refine lv_iload_n (pc := 44) hx hb dX4_write_44 rfl (lv_at hl 2 rfl) ?_
      refine lv_bipush (pc := 45) (v := 24) hx hb dX4_write_45 (by decide) ?_
      refine g_imul (pc := 47) E dX4_write_47 hf (fun v7 hf => ?_)
      refine lv_iload_n (pc := 48) hx hb dX4_write_48 rfl (lv_at hl 3 rfl) ?_
      refine g_iadd (pc := 49) E dX4_write_49 hf (fun v8 hf => ?_)
      refine lv_iload (pc := 50) hx hb dX4_write_50 (lv_at hl 0 rfl) ?_
      refine g_iast (pc := 52) E Y 49 S_49 dX4_write_52 hf (fun μ9 H locs hf Y => ?_)
      exact g_vret (pc := 53) E Y hr hk dX4_write_53 hf
  · refine lv_iload_n (pc := 11) hx hb dX4_write_11 rfl (lv_at hl 3 rfl) ?_
    refine lv_sipush (pc := 12) (v := 255) hx hb dX4_write_12 (by decide) ?_
    refine g_iand (pc := 15) E dX4_write_15 hf (fun v10 hf => ?_)
    refine lv_goto (pc := 16) (tgt := 38) hx hb dX4_write_16 (by decide) ?_
    refine lv_istore (pc := 38) (lv' := [(4, .int v10), (0, .ref (ad 46)), (1, .int a0), (2, .int a1), (3, .int a2)]) hx hb dX4_write_38 hl (by decide) rfl (fun ls hl => ?_)
    refine lv_aload_n (pc := 40) hx hb dX4_write_40 rfl (lv_at hl 1 rfl) ?_
    refine g_getr (pc := 41) E Y 46 2 49 S_46 rfl V_4 (by decide) AL_X4 q_289 dX4_write_41 ?_
    refine lv_iload_n (pc := 44) hx hb dX4_write_44 rfl (lv_at hl 2 rfl) ?_
    refine lv_bipush (pc := 45) (v := 24) hx hb dX4_write_45 (by decide) ?_
    refine g_imul (pc := 47) E dX4_write_47 hf (fun v11 hf => ?_)
    refine lv_iload_n (pc := 48) hx hb dX4_write_48 rfl (lv_at hl 3 rfl) ?_
    refine g_iadd (pc := 49) E dX4_write_49 hf (fun v12 hf => ?_)
    refine lv_iload (pc := 50) hx hb dX4_write_50 (lv_at hl 0 rfl) ?_
    refine g_iast (pc := 52) E Y 49 S_49 dX4_write_52 hf (fun μ13 H locs hf Y => ?_)
    exact g_vret (pc := 53) E Y hr hk dX4_write_53 hf
def f_X7_put_0 (a0 : Int32) (a1 : Int32) (a2 : Int32) (σ : Mem) : Res := bd (f_X7_isSheet a0 σ) fun v1 μ2 => if v1 = 0 then (bd (f_X7_error_0 1 μ2) fun v13 μ14 => some (v13, μ14)) else (bd (f_X4_isMissing_46 a0 μ2) fun v3 μ4 => if v3 = 0 then (bd (f_X4_standsAt_46 a0 a1 1 μ4) fun v5 μ6 => if v5 = 0 then (bd (f_X7_error_0 1 μ6) fun v9 μ10 => some (v9, μ10)) else (bd (f_X4_write_46 a0 a1 a2 μ6) fun v7 μ8 => some (1, μ8))) else (bd (f_X7_error_0 2 μ4) fun v11 μ12 => some (v11, μ12)))
set_option maxHeartbeats 4000000 in
set_option maxRecDepth 100000 in
theorem m_X7_put_0 {l : Launch} {σ : Mem} {Z : Int32 × Mem} {a0 : Int32} {a1 : Int32} {a2 : Int32} (hf : f_X7_put_0 a0 a1 a2 σ = some Z) : CT l yX7_put cX7_put 4 (some .int) 2 (fun ad => [.ref (ad 0), .int a0, .int a1, .int a2]) σ Z := by
  refine g_openT RX7 (by decide) rfl (fun _ => Nat.le_of_ble_eq_true rfl) (fun p e s m below meth c D cI cB ad st ls E Y hr hk hl => ?_)
  have hx := E.1.1
  have hb := E.1.2.1
  have hl : lv_has ls 4 [(0, .ref (ad 0)), (1, .int a0), (2, .int a1), (3, .int a2)] := hl
  unfold f_X7_put_0 at hf
  refine lv_iload_n (pc := 0) hx hb dX7_put_0 rfl (lv_at hl 1 rfl) ?_
  refine g_callSi (pc := 1) E Y o_X7_isSheet q_641 [.int a0] rfl rfl (hR_of (by omega) (by decide)) hl.1 (rest := []) rfl (Nat.le_of_ble_eq_true rfl) dX7_put_1 (fun z hz => m_X7_isSheet hz) hf (fun v1 μ2 H locs hf Y => ?_)
  refine g_if_ne (pc := 4) (tgt := 13) E dX7_put_4 (by decide) hf (fun hf => ?_) (fun hf => ?_)
  · refine lv_aload_n (pc := 13) hx hb dX7_put_13 rfl (lv_at hl 0 rfl) ?_
    refine g_getr (pc := 14) E Y 0 3 46 S_0 rfl V_7 (by decide) AL_X7 q_326 dX7_put_14 ?_
    refine lv_iload_n (pc := 17) hx hb dX7_put_17 rfl (lv_at hl 1 rfl) ?_
    refine g_callVi (pc := 18) E Y 46 S_46 V_4 o_X4_isMissing q_642 [.int a0] rfl rfl (hR_of (by omega) (by decide)) hl.1 (rest := []) rfl (Nat.le_of_ble_eq_true rfl) dX7_put_18 (fun z hz => m_X4_isMissing_46 hz) hf (fun v3 μ4 H locs hf Y => ?_)
    refine g_if_eq (pc := 21) (tgt := 30) E dX7_put_21 (by decide) hf (fun hf => ?_) (fun hf => ?_)
    · refine lv_aload_n (pc := 30) hx hb dX7_put_30 rfl (lv_at hl 0 rfl) ?_
      refine g_getr (pc := 31) E Y 0 3 46 S_0 rfl V_7 (by decide) AL_X7 q_326 dX7_put_31 ?_
      refine lv_iload_n (pc := 34) hx hb dX7_put_34 rfl (lv_at hl 1 rfl) ?_
      refine lv_iload_n (pc := 35) hx hb dX7_put_35 rfl (lv_at hl 2 rfl) ?_
      refine lv_iconst (pc := 36) (v := 1) hx hb dX7_put_36 (by decide) ?_
      refine g_callVi (pc := 37) E Y 46 S_46 V_4 o_X4_standsAt q_647 [.int a0, .int a1, .int 1] rfl rfl (hR_of (by omega) (by decide)) hl.1 (rest := []) rfl (Nat.le_of_ble_eq_true rfl) dX7_put_37 (fun z hz => m_X4_standsAt_46 hz) hf (fun v5 μ6 H locs hf Y => ?_)
      refine g_if_ne (pc := 40) (tgt := 49) E dX7_put_40 (by decide) hf (fun hf => ?_) (fun hf => ?_)
      · refine lv_aload_n (pc := 49) hx hb dX7_put_49 rfl (lv_at hl 0 rfl) ?_
        refine g_getr (pc := 50) E Y 0 3 46 S_0 rfl V_7 (by decide) AL_X7 q_326 dX7_put_50 ?_
        refine lv_iload_n (pc := 53) hx hb dX7_put_53 rfl (lv_at hl 1 rfl) ?_
        refine lv_iload_n (pc := 54) hx hb dX7_put_54 rfl (lv_at hl 2 rfl) ?_
        refine lv_iload_n (pc := 55) hx hb dX7_put_55 rfl (lv_at hl 3 rfl) ?_
        refine g_callVv (pc := 56) E Y 46 S_46 V_4 o_X4_write q_648 [.int a0, .int a1, .int a2] rfl rfl (hR_of (by omega) (by decide)) hl.1 (rest := []) rfl (Nat.le_of_ble_eq_true rfl) dX7_put_56 (fun z hz => m_X4_write_46 hz) hf (fun v7 μ8 H locs hf Y => ?_)
        refine lv_iconst (pc := 59) (v := 1) hx hb dX7_put_59 (by decide) ?_
        exact g_iret (pc := 60) E Y hr hk dX7_put_60 hf
      · refine lv_aload_n (pc := 43) hx hb dX7_put_43 rfl (lv_at hl 0 rfl) ?_
        refine lv_iconst (pc := 44) (v := 1) hx hb dX7_put_44 (by decide) ?_
        refine g_callVi (pc := 45) E Y 0 S_0 V_7 o_X7_error q_656 [.int 1] rfl rfl (hR_of (by omega) (by decide)) hl.1 (rest := []) rfl (Nat.le_of_ble_eq_true rfl) dX7_put_45 (fun z hz => m_X7_error_0 hz) hf (fun v9 μ10 H locs hf Y => ?_)
        exact g_iret (pc := 48) E Y hr hk dX7_put_48 hf
    · refine lv_aload_n (pc := 24) hx hb dX7_put_24 rfl (lv_at hl 0 rfl) ?_
      refine lv_iconst (pc := 25) (v := 2) hx hb dX7_put_25 (by decide) ?_
      refine g_callVi (pc := 26) E Y 0 S_0 V_7 o_X7_error q_656 [.int 2] rfl rfl (hR_of (by omega) (by decide)) hl.1 (rest := []) rfl (Nat.le_of_ble_eq_true rfl) dX7_put_26 (fun z hz => m_X7_error_0 hz) hf (fun v11 μ12 H locs hf Y => ?_)
      exact g_iret (pc := 29) E Y hr hk dX7_put_29 hf
  · refine lv_aload_n (pc := 7) hx hb dX7_put_7 rfl (lv_at hl 0 rfl) ?_
    refine lv_iconst (pc := 8) (v := 1) hx hb dX7_put_8 (by decide) ?_
    refine g_callVi (pc := 9) E Y 0 S_0 V_7 o_X7_error q_656 [.int 1] rfl rfl (hR_of (by omega) (by decide)) hl.1 (rest := []) rfl (Nat.le_of_ble_eq_true rfl) dX7_put_9 (fun z hz => m_X7_error_0 hz) hf (fun v13 μ14 H locs hf Y => ?_)
    exact g_iret (pc := 12) E Y hr hk dX7_put_12 hf
def f_X4_copy_46 (a0 : Int32) (a1 : Int32) (a2 : Int32) (a3 : Int32) (a4 : Int32) (σ : Mem) : Res := nm (a0 * 24) fun (v1 : Int32) => nm (v1 + a1) fun (v2 : Int32) => nm (a2 * 24) fun (v3 : Int32) => nm (v3 + a3) fun (v4 : Int32) => gt (okc false v2 v4 a4 96 96 (σ 49)) <| nm (mrow σ 49 (va_cpy (σ 49) (σ 49) v2.toNatClampNeg v4.toNatClampNeg a4.toNatClampNeg)) fun (μ5 : Mem) => some (0, μ5)
set_option maxHeartbeats 4000000 in
set_option maxRecDepth 100000 in
theorem m_X4_copy_46 {l : Launch} {σ : Mem} {Z : Int32 × Mem} {a0 : Int32} {a1 : Int32} {a2 : Int32} {a3 : Int32} {a4 : Int32} (hf : f_X4_copy_46 a0 a1 a2 a3 a4 σ = some Z) : CV l yX4_copy cX4_copy 6 2 (fun ad => [.ref (ad 46), .int a0, .int a1, .int a2, .int a3, .int a4]) σ Z := by
  refine g_openV RX4 (by decide) rfl (fun _ => Nat.le_of_ble_eq_true rfl) (fun p e s m below meth c D cI cB ad st ls E Y hr hk hl => ?_)
  have hx := E.1.1
  have hb := E.1.2.1
  have hl : lv_has ls 6 [(0, .ref (ad 46)), (1, .int a0), (2, .int a1), (3, .int a2), (4, .int a3), (5, .int a4)] := hl
  unfold f_X4_copy_46 at hf
  refine lv_aload_n (pc := 0) hx hb dX4_copy_0 rfl (lv_at hl 0 rfl) ?_
  refine g_getr (pc := 1) E Y 46 2 49 S_46 rfl V_4 (by decide) AL_X4 q_289 dX4_copy_1 ?_
  refine lv_iload_n (pc := 4) hx hb dX4_copy_4 rfl (lv_at hl 1 rfl) ?_
  refine lv_bipush (pc := 5) (v := 24) hx hb dX4_copy_5 (by decide) ?_
  refine g_imul (pc := 7) E dX4_copy_7 hf (fun v1 hf => ?_)
  refine lv_iload_n (pc := 8) hx hb dX4_copy_8 rfl (lv_at hl 2 rfl) ?_
  refine g_iadd (pc := 9) E dX4_copy_9 hf (fun v2 hf => ?_)
  refine lv_aload_n (pc := 10) hx hb dX4_copy_10 rfl (lv_at hl 0 rfl) ?_
  refine g_getr (pc := 11) E Y 46 2 49 S_46 rfl V_4 (by decide) AL_X4 q_289 dX4_copy_11 ?_
  refine lv_iload_n (pc := 14) hx hb dX4_copy_14 rfl (lv_at hl 3 rfl) ?_
  refine lv_bipush (pc := 15) (v := 24) hx hb dX4_copy_15 (by decide) ?_
  refine g_imul (pc := 17) E dX4_copy_17 hf (fun v3 hf => ?_)
  refine lv_iload (pc := 18) hx hb dX4_copy_18 (lv_at hl 4 rfl) ?_
  refine g_iadd (pc := 20) E dX4_copy_20 hf (fun v4 hf => ?_)
  refine lv_iload (pc := 21) hx hb dX4_copy_21 (lv_at hl 5 rfl) ?_
  refine g_copy (pc := 23) E Y hl.1 49 49 0 (b := false) S_49 S_49 rfl q_604 q_723 q_903 q_360 (Nat.le_of_ble_eq_true rfl) (Nat.le_of_ble_eq_true rfl) dX4_copy_23 hf (fun μ5 H locs hf Y => ?_)
  exact g_vret (pc := 26) E Y hr hk dX4_copy_26 hf
def f_X7_move_0 (a0 : Int32) (a1 : Int32) (a2 : Int32) (a3 : Int32) (a4 : Int32) (σ : Mem) : Res := bd (f_X7_isSheet a0 σ) fun v1 μ2 => if v1 = 0 then (bd (f_X7_error_0 1 μ2) fun v3 μ4 => some (v3, μ4)) else (bd (f_X7_isSheet a2 μ2) fun v5 μ6 => if v5 = 0 then (bd (f_X7_error_0 1 μ6) fun v29 μ30 => some (v29, μ30)) else (bd (f_X4_isMissing_46 a0 μ6) fun v7 μ8 => if v7 = 0 then (bd (f_X4_isMissing_46 a2 μ8) fun v11 μ12 => if v11 = 0 then (gi a0 4 <| nm (μ12 47 a0.toNatClampNeg) fun (v13 : Int32) => gi a2 4 <| nm (μ12 47 a2.toNatClampNeg) fun (v14 : Int32) => if v13 = v14 then (bd (f_X4_standsAt_46 a0 a1 a4 μ12) fun v15 μ16 => if v15 = 0 then (bd (f_X7_error_0 1 μ16) fun v17 μ18 => some (v17, μ18)) else (bd (f_X4_standsAt_46 a2 a3 a4 μ16) fun v19 μ20 => if v19 = 0 then (bd (f_X7_error_0 1 μ20) fun v23 μ24 => some (v23, μ24)) else (bd (f_X4_copy_46 a0 a1 a2 a3 a4 μ20) fun v21 μ22 => some (a4, μ22)))) else (bd (f_X7_error_0 5 μ12) fun v25 μ26 => some (v25, μ26))) else (bd (f_X7_error_0 2 μ12) fun v27 μ28 => some (v27, μ28))) else (bd (f_X7_error_0 2 μ8) fun v9 μ10 => some (v9, μ10))))
set_option maxHeartbeats 4000000 in
set_option maxRecDepth 100000 in
theorem m_X7_move_0 {l : Launch} {σ : Mem} {Z : Int32 × Mem} {a0 : Int32} {a1 : Int32} {a2 : Int32} {a3 : Int32} {a4 : Int32} (hf : f_X7_move_0 a0 a1 a2 a3 a4 σ = some Z) : CT l yX7_move cX7_move 6 (some .int) 3 (fun ad => [.ref (ad 0), .int a0, .int a1, .int a2, .int a3, .int a4]) σ Z := by
  refine g_openT RX7 (by decide) rfl (fun _ => Nat.le_of_ble_eq_true rfl) (fun p e s m below meth c D cI cB ad st ls E Y hr hk hl => ?_)
  have hx := E.1.1
  have hb := E.1.2.1
  have hl : lv_has ls 6 [(0, .ref (ad 0)), (1, .int a0), (2, .int a1), (3, .int a2), (4, .int a3), (5, .int a4)] := hl
  unfold f_X7_move_0 at hf
  refine lv_iload_n (pc := 0) hx hb dX7_move_0 rfl (lv_at hl 1 rfl) ?_
  refine g_callSi (pc := 1) E Y o_X7_isSheet q_641 [.int a0] rfl rfl (hR_of (by omega) (by decide)) hl.1 (rest := []) rfl (Nat.le_of_ble_eq_true rfl) dX7_move_1 (fun z hz => m_X7_isSheet hz) hf (fun v1 μ2 H locs hf Y => ?_)
  refine g_if_eq (pc := 4) (tgt := 14) E dX7_move_4 (by decide) hf (fun hf => ?_) (fun hf => ?_)
  · refine lv_aload_n (pc := 14) hx hb dX7_move_14 rfl (lv_at hl 0 rfl) ?_
    refine lv_iconst (pc := 15) (v := 1) hx hb dX7_move_15 (by decide) ?_
    refine g_callVi (pc := 16) E Y 0 S_0 V_7 o_X7_error q_656 [.int 1] rfl rfl (hR_of (by omega) (by decide)) hl.1 (rest := []) rfl (Nat.le_of_ble_eq_true rfl) dX7_move_16 (fun z hz => m_X7_error_0 hz) hf (fun v3 μ4 H locs hf Y => ?_)
    exact g_iret (pc := 19) E Y hr hk dX7_move_19 hf
  · refine lv_iload_n (pc := 7) hx hb dX7_move_7 rfl (lv_at hl 3 rfl) ?_
    refine g_callSi (pc := 8) E Y o_X7_isSheet q_641 [.int a2] rfl rfl (hR_of (by omega) (by decide)) hl.1 (rest := []) rfl (Nat.le_of_ble_eq_true rfl) dX7_move_8 (fun z hz => m_X7_isSheet hz) hf (fun v5 μ6 H locs hf Y => ?_)
    refine g_if_ne (pc := 11) (tgt := 20) E dX7_move_11 (by decide) hf (fun hf => ?_) (fun hf => ?_)
    · refine lv_aload_n (pc := 20) hx hb dX7_move_20 rfl (lv_at hl 0 rfl) ?_
      refine g_getr (pc := 21) E Y 0 3 46 S_0 rfl V_7 (by decide) AL_X7 q_326 dX7_move_21 ?_
      refine lv_iload_n (pc := 24) hx hb dX7_move_24 rfl (lv_at hl 1 rfl) ?_
      refine g_callVi (pc := 25) E Y 46 S_46 V_4 o_X4_isMissing q_642 [.int a0] rfl rfl (hR_of (by omega) (by decide)) hl.1 (rest := []) rfl (Nat.le_of_ble_eq_true rfl) dX7_move_25 (fun z hz => m_X4_isMissing_46 hz) hf (fun v7 μ8 H locs hf Y => ?_)
      refine g_if_ne (pc := 28) (tgt := 42) E dX7_move_28 (by decide) hf (fun hf => ?_) (fun hf => ?_)
      · refine lv_aload_n (pc := 42) hx hb dX7_move_42 rfl (lv_at hl 0 rfl) ?_
        refine lv_iconst (pc := 43) (v := 2) hx hb dX7_move_43 (by decide) ?_
        refine g_callVi (pc := 44) E Y 0 S_0 V_7 o_X7_error q_656 [.int 2] rfl rfl (hR_of (by omega) (by decide)) hl.1 (rest := []) rfl (Nat.le_of_ble_eq_true rfl) dX7_move_44 (fun z hz => m_X7_error_0 hz) hf (fun v9 μ10 H locs hf Y => ?_)
        exact g_iret (pc := 47) E Y hr hk dX7_move_47 hf
      · refine lv_aload_n (pc := 31) hx hb dX7_move_31 rfl (lv_at hl 0 rfl) ?_
        refine g_getr (pc := 32) E Y 0 3 46 S_0 rfl V_7 (by decide) AL_X7 q_326 dX7_move_32 ?_
        refine lv_iload_n (pc := 35) hx hb dX7_move_35 rfl (lv_at hl 3 rfl) ?_
        refine g_callVi (pc := 36) E Y 46 S_46 V_4 o_X4_isMissing q_642 [.int a2] rfl rfl (hR_of (by omega) (by decide)) hl.1 (rest := []) rfl (Nat.le_of_ble_eq_true rfl) dX7_move_36 (fun z hz => m_X4_isMissing_46 hz) hf (fun v11 μ12 H locs hf Y => ?_)
        refine g_if_eq (pc := 39) (tgt := 48) E dX7_move_39 (by decide) hf (fun hf => ?_) (fun hf => ?_)
        · refine lv_aload_n (pc := 48) hx hb dX7_move_48 rfl (lv_at hl 0 rfl) ?_
          refine g_getr (pc := 49) E Y 0 3 46 S_0 rfl V_7 (by decide) AL_X7 q_326 dX7_move_49 ?_
          refine g_getr (pc := 52) E Y 46 0 47 S_46 rfl V_4 (by decide) AL_X4 q_319 dX7_move_52 ?_
          refine lv_iload_n (pc := 55) hx hb dX7_move_55 rfl (lv_at hl 1 rfl) ?_
          refine g_iald (pc := 56) E Y 47 S_47 dX7_move_56 hf (fun v13 hf => ?_)
          refine lv_aload_n (pc := 57) hx hb dX7_move_57 rfl (lv_at hl 0 rfl) ?_
          refine g_getr (pc := 58) E Y 0 3 46 S_0 rfl V_7 (by decide) AL_X7 q_326 dX7_move_58 ?_
          refine g_getr (pc := 61) E Y 46 0 47 S_46 rfl V_4 (by decide) AL_X4 q_319 dX7_move_61 ?_
          refine lv_iload_n (pc := 64) hx hb dX7_move_64 rfl (lv_at hl 3 rfl) ?_
          refine g_iald (pc := 65) E Y 47 S_47 dX7_move_65 hf (fun v14 hf => ?_)
          refine g_icmp_eq (pc := 66) (tgt := 75) E dX7_move_66 (by decide) hf (fun hf => ?_) (fun hf => ?_)
          · refine lv_aload_n (pc := 75) hx hb dX7_move_75 rfl (lv_at hl 0 rfl) ?_
            refine g_getr (pc := 76) E Y 0 3 46 S_0 rfl V_7 (by decide) AL_X7 q_326 dX7_move_76 ?_
            refine lv_iload_n (pc := 79) hx hb dX7_move_79 rfl (lv_at hl 1 rfl) ?_
            refine lv_iload_n (pc := 80) hx hb dX7_move_80 rfl (lv_at hl 2 rfl) ?_
            refine lv_iload (pc := 81) hx hb dX7_move_81 (lv_at hl 5 rfl) ?_
            refine g_callVi (pc := 83) E Y 46 S_46 V_4 o_X4_standsAt q_647 [.int a0, .int a1, .int a4] rfl rfl (hR_of (by omega) (by decide)) hl.1 (rest := []) rfl (Nat.le_of_ble_eq_true rfl) dX7_move_83 (fun z hz => m_X4_standsAt_46 hz) hf (fun v15 μ16 H locs hf Y => ?_)
            refine g_if_eq (pc := 86) (tgt := 104) E dX7_move_86 (by decide) hf (fun hf => ?_) (fun hf => ?_)
            · refine lv_aload_n (pc := 104) hx hb dX7_move_104 rfl (lv_at hl 0 rfl) ?_
              refine lv_iconst (pc := 105) (v := 1) hx hb dX7_move_105 (by decide) ?_
              refine g_callVi (pc := 106) E Y 0 S_0 V_7 o_X7_error q_656 [.int 1] rfl rfl (hR_of (by omega) (by decide)) hl.1 (rest := []) rfl (Nat.le_of_ble_eq_true rfl) dX7_move_106 (fun z hz => m_X7_error_0 hz) hf (fun v17 μ18 H locs hf Y => ?_)
              exact g_iret (pc := 109) E Y hr hk dX7_move_109 hf
            · refine lv_aload_n (pc := 89) hx hb dX7_move_89 rfl (lv_at hl 0 rfl) ?_
              refine g_getr (pc := 90) E Y 0 3 46 S_0 rfl V_7 (by decide) AL_X7 q_326 dX7_move_90 ?_
              refine lv_iload_n (pc := 93) hx hb dX7_move_93 rfl (lv_at hl 3 rfl) ?_
              refine lv_iload (pc := 94) hx hb dX7_move_94 (lv_at hl 4 rfl) ?_
              refine lv_iload (pc := 96) hx hb dX7_move_96 (lv_at hl 5 rfl) ?_
              refine g_callVi (pc := 98) E Y 46 S_46 V_4 o_X4_standsAt q_647 [.int a2, .int a3, .int a4] rfl rfl (hR_of (by omega) (by decide)) hl.1 (rest := []) rfl (Nat.le_of_ble_eq_true rfl) dX7_move_98 (fun z hz => m_X4_standsAt_46 hz) hf (fun v19 μ20 H locs hf Y => ?_)
              refine g_if_ne (pc := 101) (tgt := 110) E dX7_move_101 (by decide) hf (fun hf => ?_) (fun hf => ?_)
              · refine lv_aload_n (pc := 110) hx hb dX7_move_110 rfl (lv_at hl 0 rfl) ?_
                refine g_getr (pc := 111) E Y 0 3 46 S_0 rfl V_7 (by decide) AL_X7 q_326 dX7_move_111 ?_
                refine lv_iload_n (pc := 114) hx hb dX7_move_114 rfl (lv_at hl 1 rfl) ?_
                refine lv_iload_n (pc := 115) hx hb dX7_move_115 rfl (lv_at hl 2 rfl) ?_
                refine lv_iload_n (pc := 116) hx hb dX7_move_116 rfl (lv_at hl 3 rfl) ?_
                refine lv_iload (pc := 117) hx hb dX7_move_117 (lv_at hl 4 rfl) ?_
                refine lv_iload (pc := 119) hx hb dX7_move_119 (lv_at hl 5 rfl) ?_
                refine g_callVv (pc := 121) E Y 46 S_46 V_4 o_X4_copy q_649 [.int a0, .int a1, .int a2, .int a3, .int a4] rfl rfl (hR_of (by omega) (by decide)) hl.1 (rest := []) rfl (Nat.le_of_ble_eq_true rfl) dX7_move_121 (fun z hz => m_X4_copy_46 hz) hf (fun v21 μ22 H locs hf Y => ?_)
                refine lv_iload (pc := 124) hx hb dX7_move_124 (lv_at hl 5 rfl) ?_
                exact g_iret (pc := 126) E Y hr hk dX7_move_126 hf
              · refine lv_aload_n (pc := 104) hx hb dX7_move_104 rfl (lv_at hl 0 rfl) ?_
                refine lv_iconst (pc := 105) (v := 1) hx hb dX7_move_105 (by decide) ?_
                refine g_callVi (pc := 106) E Y 0 S_0 V_7 o_X7_error q_656 [.int 1] rfl rfl (hR_of (by omega) (by decide)) hl.1 (rest := []) rfl (Nat.le_of_ble_eq_true rfl) dX7_move_106 (fun z hz => m_X7_error_0 hz) hf (fun v23 μ24 H locs hf Y => ?_)
                exact g_iret (pc := 109) E Y hr hk dX7_move_109 hf
          · refine lv_aload_n (pc := 69) hx hb dX7_move_69 rfl (lv_at hl 0 rfl) ?_
            refine lv_iconst (pc := 70) (v := 5) hx hb dX7_move_70 (by decide) ?_
            refine g_callVi (pc := 71) E Y 0 S_0 V_7 o_X7_error q_656 [.int 5] rfl rfl (hR_of (by omega) (by decide)) hl.1 (rest := []) rfl (Nat.le_of_ble_eq_true rfl) dX7_move_71 (fun z hz => m_X7_error_0 hz) hf (fun v25 μ26 H locs hf Y => ?_)
            exact g_iret (pc := 74) E Y hr hk dX7_move_74 hf
        · refine lv_aload_n (pc := 42) hx hb dX7_move_42 rfl (lv_at hl 0 rfl) ?_
          refine lv_iconst (pc := 43) (v := 2) hx hb dX7_move_43 (by decide) ?_
          refine g_callVi (pc := 44) E Y 0 S_0 V_7 o_X7_error q_656 [.int 2] rfl rfl (hR_of (by omega) (by decide)) hl.1 (rest := []) rfl (Nat.le_of_ble_eq_true rfl) dX7_move_44 (fun z hz => m_X7_error_0 hz) hf (fun v27 μ28 H locs hf Y => ?_)
          exact g_iret (pc := 47) E Y hr hk dX7_move_47 hf
    · refine lv_aload_n (pc := 14) hx hb dX7_move_14 rfl (lv_at hl 0 rfl) ?_
      refine lv_iconst (pc := 15) (v := 1) hx hb dX7_move_15 (by decide) ?_
      refine g_callVi (pc := 16) E Y 0 S_0 V_7 o_X7_error q_656 [.int 1] rfl rfl (hR_of (by omega) (by decide)) hl.1 (rest := []) rfl (Nat.le_of_ble_eq_true rfl) dX7_move_16 (fun z hz => m_X7_error_0 hz) hf (fun v29 μ30 H locs hf Y => ?_)
      exact g_iret (pc := 19) E Y hr hk dX7_move_19 hf
def fb_X7_weightsBy_0_L55 (bk : Int32 → Int32 → Int32 → Mem → Res) (x1 : Int32) (x2 : Int32) (x3 : Int32) (σ : Mem) : Res := if x2 ≤ x3 then (some (x2, σ)) else (bd (f_X4_read_46 x1 x3 σ) fun v8 μ9 => bd (f_X7_isDigit v8 μ9) fun v10 μ11 => if v10 = 0 then (some (x3, μ11)) else (gi x3 6 <| nm (mset μ11 5 x3.toNatClampNeg v8) fun (μ12 : Mem) => nm (x3 + 1) fun (v13 : Int32) => bk x1 x2 v13 μ12))
def f_X7_weightsBy_0_L55 : Nat → Int32 → Int32 → Int32 → Mem → Res
  | 0, _, _, _, _ => none
  | n + 1, x1, x2, x3, σ => fb_X7_weightsBy_0_L55 (f_X7_weightsBy_0_L55 n) x1 x2 x3 σ
def f_X7_weightsBy_0 (a0 : Int32) (σ : Mem) : Res := bd (f_X7_isSheet a0 σ) fun v1 μ2 => if v1 = 0 then (bd (f_X7_error_0 1 μ2) fun v16 μ17 => some (v16, μ17)) else (bd (f_X4_isMissing_46 a0 μ2) fun v3 μ4 => if v3 = 0 then (gi a0 4 <| nm (μ4 48 a0.toNatClampNeg) fun (v5 : Int32) => nm (μ4 2 4) fun (v6 : Int32) => nm (if v6 < v5 then v6 else v5) fun (v7 : Int32) => f_X7_weightsBy_0_L55 1000 a0 v7 0 μ4) else (bd (f_X7_error_0 2 μ4) fun v14 μ15 => some (v14, μ15)))
set_option maxHeartbeats 4000000 in
set_option maxRecDepth 100000 in
theorem m_X7_weightsBy_0 {l : Launch} {σ : Mem} {Z : Int32 × Mem} {a0 : Int32} (hf : f_X7_weightsBy_0 a0 σ = some Z) : CT l yX7_weightsBy cX7_weightsBy 5 (some .int) 2 (fun ad => [.ref (ad 0), .int a0]) σ Z := by
  refine g_openT RX7 (by decide) rfl (fun _ => Nat.le_of_ble_eq_true rfl) (fun p e s m below meth c D cI cB ad st ls E Y hr hk hl => ?_)
  have hx := E.1.1
  have hb := E.1.2.1
  have hl : lv_has ls 5 [(0, .ref (ad 0)), (1, .int a0)] := hl
  have hL_55 : ∀ (n : Nat) (x1 : Int32) (x2 : Int32) (x3 : Int32) (σ : Mem) (H : Heap) (locs : List Loc) (ls : Array Slot), f_X7_weightsBy_0_L55 n x1 x2 x3 σ = some Z → Wo D cI cB ad (AA ad) σ s H locs → lv_has ls 5 [(0, .ref (ad 0)), (1, .int x1), (2, .int x2), (3, .int x3)] → W p l e (rmd 2) s m ([.ref (ad 0), .int a0] : List Value).toArray below meth c H locs 0 0 (QT_ below D cI cB ad st Z ([.ref (ad 0), .int a0] : List Value).toArray s) (F0 m 55 ls []) := by
    intro n
    induction n with
    | zero =>
      intro x1 x2 x3 σ H locs ls hf
      cases (show (none : Res) = some Z from hf)
    | succ n ih =>
      intro x1 x2 x3 σ H locs ls hf Y hl
      have hf : fb_X7_weightsBy_0_L55 (f_X7_weightsBy_0_L55 n) x1 x2 x3 σ = some Z := hf
      unfold fb_X7_weightsBy_0_L55 at hf
      refine lv_iload_n (pc := 55) hx hb dX7_weightsBy_55 rfl (lv_at hl 3 rfl) ?_
      refine lv_iload_n (pc := 56) hx hb dX7_weightsBy_56 rfl (lv_at hl 2 rfl) ?_
      refine g_icmp_ge (pc := 57) (tgt := 101) E dX7_weightsBy_57 (by decide) hf (fun hf => ?_) (fun hf => ?_)
      · refine lv_iload_n (pc := 101) hx hb dX7_weightsBy_101 rfl (lv_at hl 2 rfl) ?_
        exact g_iret (pc := 102) E Y hr hk dX7_weightsBy_102 hf
      · refine lv_aload_n (pc := 60) hx hb dX7_weightsBy_60 rfl (lv_at hl 0 rfl) ?_
        refine g_getr (pc := 61) E Y 0 3 46 S_0 rfl V_7 (by decide) AL_X7 q_326 dX7_weightsBy_61 ?_
        refine lv_iload_n (pc := 64) hx hb dX7_weightsBy_64 rfl (lv_at hl 1 rfl) ?_
        refine lv_iload_n (pc := 65) hx hb dX7_weightsBy_65 rfl (lv_at hl 3 rfl) ?_
        refine g_callVi (pc := 66) E Y 46 S_46 V_4 o_X4_read q_650 [.int x1, .int x3] rfl rfl (hR_of (by omega) (by decide)) hl.1 (rest := []) rfl (Nat.le_of_ble_eq_true rfl) dX7_weightsBy_66 (fun z hz => m_X4_read_46 hz) hf (fun v8 μ9 H locs hf Y => ?_)
        refine lv_istore (pc := 69) (lv' := [(4, .int v8), (0, .ref (ad 0)), (1, .int x1), (2, .int x2), (3, .int x3)]) hx hb dX7_weightsBy_69 hl (by decide) rfl (fun ls hl => ?_)
        refine lv_iload (pc := 71) hx hb dX7_weightsBy_71 (lv_at hl 0 rfl) ?_
        refine g_callSi (pc := 73) E Y o_X7_isDigit q_655 [.int v8] rfl rfl (hR_of (by omega) (by decide)) hl.1 (rest := []) rfl (Nat.le_of_ble_eq_true rfl) dX7_weightsBy_73 (fun z hz => m_X7_isDigit hz) hf (fun v10 μ11 H locs hf Y => ?_)
        refine g_if_ne (pc := 76) (tgt := 81) E dX7_weightsBy_76 (by decide) hf (fun hf => ?_) (fun hf => ?_)
        · refine lv_aload_n (pc := 81) hx hb dX7_weightsBy_81 rfl (lv_at hl 1 rfl) ?_
          refine g_getr (pc := 82) E Y 0 0 1 S_0 rfl V_7 (by decide) AL_X7 q_301 dX7_weightsBy_82 ?_
          refine g_getr (pc := 85) E Y 1 0 2 S_1 rfl V_3 (by decide) AL_X3 q_334 dX7_weightsBy_85 ?_
          refine g_getr (pc := 88) E Y 2 2 5 S_2 rfl V_0 (by decide) AL_X0 q_338 dX7_weightsBy_88 ?_
          refine lv_iload_n (pc := 91) hx hb dX7_weightsBy_91 rfl (lv_at hl 4 rfl) ?_
          refine lv_iload (pc := 92) hx hb dX7_weightsBy_92 (lv_at hl 0 rfl) ?_
          refine g_iast (pc := 94) E Y 5 S_5 dX7_weightsBy_94 hf (fun μ12 H locs hf Y => ?_)
          refine g_iinc (pc := 95) E (fun v13 => [(3, .int v13), (4, .int v8), (0, .ref (ad 0)), (1, .int x1), (2, .int x2)]) dX7_weightsBy_95 hl (k := 4) rfl (t := 1) (by decide) (by decide) (fun _ => rfl) hf (fun v13 hf ls hl => ?_)
          refine lv_goto (pc := 98) (tgt := 55) hx hb dX7_weightsBy_98 (by decide) ?_
          exact ih _ _ _ _ _ _ _ hf Y (lv_sub hl [2, 3, 4, 0] rfl)
        · refine lv_iload_n (pc := 79) hx hb dX7_weightsBy_79 rfl (lv_at hl 4 rfl) ?_
          exact g_iret (pc := 80) E Y hr hk dX7_weightsBy_80 hf
  unfold f_X7_weightsBy_0 at hf
  refine lv_iload_n (pc := 0) hx hb dX7_weightsBy_0 rfl (lv_at hl 1 rfl) ?_
  refine g_callSi (pc := 1) E Y o_X7_isSheet q_641 [.int a0] rfl rfl (hR_of (by omega) (by decide)) hl.1 (rest := []) rfl (Nat.le_of_ble_eq_true rfl) dX7_weightsBy_1 (fun z hz => m_X7_isSheet hz) hf (fun v1 μ2 H locs hf Y => ?_)
  refine g_if_ne (pc := 4) (tgt := 13) E dX7_weightsBy_4 (by decide) hf (fun hf => ?_) (fun hf => ?_)
  · refine lv_aload_n (pc := 13) hx hb dX7_weightsBy_13 rfl (lv_at hl 0 rfl) ?_
    refine g_getr (pc := 14) E Y 0 3 46 S_0 rfl V_7 (by decide) AL_X7 q_326 dX7_weightsBy_14 ?_
    refine lv_iload_n (pc := 17) hx hb dX7_weightsBy_17 rfl (lv_at hl 1 rfl) ?_
    refine g_callVi (pc := 18) E Y 46 S_46 V_4 o_X4_isMissing q_642 [.int a0] rfl rfl (hR_of (by omega) (by decide)) hl.1 (rest := []) rfl (Nat.le_of_ble_eq_true rfl) dX7_weightsBy_18 (fun z hz => m_X4_isMissing_46 hz) hf (fun v3 μ4 H locs hf Y => ?_)
    refine g_if_eq (pc := 21) (tgt := 30) E dX7_weightsBy_21 (by decide) hf (fun hf => ?_) (fun hf => ?_)
    · refine lv_aload_n (pc := 30) hx hb dX7_weightsBy_30 rfl (lv_at hl 0 rfl) ?_
      refine g_getr (pc := 31) E Y 0 3 46 S_0 rfl V_7 (by decide) AL_X7 q_326 dX7_weightsBy_31 ?_
      refine g_getr (pc := 34) E Y 46 1 48 S_46 rfl V_4 (by decide) AL_X4 q_320 dX7_weightsBy_34 ?_
      refine lv_iload_n (pc := 37) hx hb dX7_weightsBy_37 rfl (lv_at hl 1 rfl) ?_
      refine g_iald (pc := 38) E Y 48 S_48 dX7_weightsBy_38 hf (fun v5 hf => ?_)
      refine lv_aload_n (pc := 39) hx hb dX7_weightsBy_39 rfl (lv_at hl 0 rfl) ?_
      refine g_getr (pc := 40) E Y 0 0 1 S_0 rfl V_7 (by decide) AL_X7 q_301 dX7_weightsBy_40 ?_
      refine g_getr (pc := 43) E Y 1 0 2 S_1 rfl V_3 (by decide) AL_X3 q_334 dX7_weightsBy_43 ?_
      refine g_geti (pc := 46) E Y 2 4 S_2 rfl V_0 (by decide) AL_X0 q_335 dX7_weightsBy_46 hf (fun v6 hf => ?_)
      refine g_mmin (pc := 49) E hl.1 q_637 q_902 q_359 q_12 (hR_one (by omega)) (hR_lo (by omega) (Nat.le_of_ble_eq_true rfl)) dX7_weightsBy_49 hf (fun v7 hf => ?_)
      refine lv_istore_n (pc := 52) (lv' := [(2, .int v7), (0, .ref (ad 0)), (1, .int a0)]) hx hb dX7_weightsBy_52 rfl hl (by decide) rfl (fun ls hl => ?_)
      refine lv_iconst (pc := 53) (v := 0) hx hb dX7_weightsBy_53 (by decide) ?_
      refine lv_istore_n (pc := 54) (lv' := [(3, .int 0), (2, .int v7), (0, .ref (ad 0)), (1, .int a0)]) hx hb dX7_weightsBy_54 rfl hl (by decide) rfl (fun ls hl => ?_)
      exact hL_55 1000 _ _ _ _ _ _ _ hf Y (lv_sub hl [2, 3, 1, 0] rfl)
    · refine lv_aload_n (pc := 24) hx hb dX7_weightsBy_24 rfl (lv_at hl 0 rfl) ?_
      refine lv_iconst (pc := 25) (v := 2) hx hb dX7_weightsBy_25 (by decide) ?_
      refine g_callVi (pc := 26) E Y 0 S_0 V_7 o_X7_error q_656 [.int 2] rfl rfl (hR_of (by omega) (by decide)) hl.1 (rest := []) rfl (Nat.le_of_ble_eq_true rfl) dX7_weightsBy_26 (fun z hz => m_X7_error_0 hz) hf (fun v14 μ15 H locs hf Y => ?_)
      exact g_iret (pc := 29) E Y hr hk dX7_weightsBy_29 hf
  · refine lv_aload_n (pc := 7) hx hb dX7_weightsBy_7 rfl (lv_at hl 0 rfl) ?_
    refine lv_iconst (pc := 8) (v := 1) hx hb dX7_weightsBy_8 (by decide) ?_
    refine g_callVi (pc := 9) E Y 0 S_0 V_7 o_X7_error q_656 [.int 1] rfl rfl (hR_of (by omega) (by decide)) hl.1 (rest := []) rfl (Nat.le_of_ble_eq_true rfl) dX7_weightsBy_9 (fun z hz => m_X7_error_0 hz) hf (fun v16 μ17 H locs hf Y => ?_)
    exact g_iret (pc := 12) E Y hr hk dX7_weightsBy_12 hf
def fb_X7_judge_0_L55 (bk : Int32 → Int32 → Int32 → Mem → Res) (x1 : Int32) (x2 : Int32) (x3 : Int32) (σ : Mem) : Res := if x2 ≤ x3 then (some (x2, σ)) else (bd (f_X4_read_46 x1 x3 σ) fun v8 μ9 => bd (f_X3_air_1 x3 μ9) fun v10 μ11 => if v8 = v10 then (nm (x3 + 1) fun (v12 : Int32) => bk x1 x2 v12 μ11) else (some (x3, μ11)))
def f_X7_judge_0_L55 : Nat → Int32 → Int32 → Int32 → Mem → Res
  | 0, _, _, _, _ => none
  | n + 1, x1, x2, x3, σ => fb_X7_judge_0_L55 (f_X7_judge_0_L55 n) x1 x2 x3 σ
def f_X7_judge_0 (a0 : Int32) (σ : Mem) : Res := bd (f_X7_isSheet a0 σ) fun v1 μ2 => if v1 = 0 then (bd (f_X7_error_0 1 μ2) fun v15 μ16 => some (v15, μ16)) else (bd (f_X4_isMissing_46 a0 μ2) fun v3 μ4 => if v3 = 0 then (gi a0 4 <| nm (μ4 48 a0.toNatClampNeg) fun (v5 : Int32) => nm (μ4 2 4) fun (v6 : Int32) => nm (if v6 < v5 then v6 else v5) fun (v7 : Int32) => f_X7_judge_0_L55 1000 a0 v7 0 μ4) else (bd (f_X7_error_0 2 μ4) fun v13 μ14 => some (v13, μ14)))
set_option maxHeartbeats 4000000 in
set_option maxRecDepth 100000 in
theorem m_X7_judge_0 {l : Launch} {σ : Mem} {Z : Int32 × Mem} {a0 : Int32} (hf : f_X7_judge_0 a0 σ = some Z) : CT l yX7_judge cX7_judge 4 (some .int) 4 (fun ad => [.ref (ad 0), .int a0]) σ Z := by
  refine g_openT RX7 (by decide) rfl (fun _ => Nat.le_of_ble_eq_true rfl) (fun p e s m below meth c D cI cB ad st ls E Y hr hk hl => ?_)
  have hx := E.1.1
  have hb := E.1.2.1
  have hl : lv_has ls 4 [(0, .ref (ad 0)), (1, .int a0)] := hl
  have hL_55 : ∀ (n : Nat) (x1 : Int32) (x2 : Int32) (x3 : Int32) (σ : Mem) (H : Heap) (locs : List Loc) (ls : Array Slot), f_X7_judge_0_L55 n x1 x2 x3 σ = some Z → Wo D cI cB ad (AA ad) σ s H locs → lv_has ls 4 [(0, .ref (ad 0)), (1, .int x1), (2, .int x2), (3, .int x3)] → W p l e (rmd 4) s m ([.ref (ad 0), .int a0] : List Value).toArray below meth c H locs 0 0 (QT_ below D cI cB ad st Z ([.ref (ad 0), .int a0] : List Value).toArray s) (F0 m 55 ls []) := by
    intro n
    induction n with
    | zero =>
      intro x1 x2 x3 σ H locs ls hf
      cases (show (none : Res) = some Z from hf)
    | succ n ih =>
      intro x1 x2 x3 σ H locs ls hf Y hl
      have hf : fb_X7_judge_0_L55 (f_X7_judge_0_L55 n) x1 x2 x3 σ = some Z := hf
      unfold fb_X7_judge_0_L55 at hf
      refine lv_iload_n (pc := 55) hx hb dX7_judge_55 rfl (lv_at hl 3 rfl) ?_
      refine lv_iload_n (pc := 56) hx hb dX7_judge_56 rfl (lv_at hl 2 rfl) ?_
      refine g_icmp_ge (pc := 57) (tgt := 88) E dX7_judge_57 (by decide) hf (fun hf => ?_) (fun hf => ?_)
      · refine lv_iload_n (pc := 88) hx hb dX7_judge_88 rfl (lv_at hl 2 rfl) ?_
        exact g_iret (pc := 89) E Y hr hk dX7_judge_89 hf
      · refine lv_aload_n (pc := 60) hx hb dX7_judge_60 rfl (lv_at hl 0 rfl) ?_
        refine g_getr (pc := 61) E Y 0 3 46 S_0 rfl V_7 (by decide) AL_X7 q_326 dX7_judge_61 ?_
        refine lv_iload_n (pc := 64) hx hb dX7_judge_64 rfl (lv_at hl 1 rfl) ?_
        refine lv_iload_n (pc := 65) hx hb dX7_judge_65 rfl (lv_at hl 3 rfl) ?_
        refine g_callVi (pc := 66) E Y 46 S_46 V_4 o_X4_read q_650 [.int x1, .int x3] rfl rfl (hR_of (by omega) (by decide)) hl.1 (rest := []) rfl (Nat.le_of_ble_eq_true rfl) dX7_judge_66 (fun z hz => m_X4_read_46 hz) hf (fun v8 μ9 H locs hf Y => ?_)
        refine lv_aload_n (pc := 69) hx hb dX7_judge_69 rfl (lv_at hl 0 rfl) ?_
        refine g_getr (pc := 70) E Y 0 0 1 S_0 rfl V_7 (by decide) AL_X7 q_301 dX7_judge_70 ?_
        refine lv_iload_n (pc := 73) hx hb dX7_judge_73 rfl (lv_at hl 3 rfl) ?_
        refine g_callVi (pc := 74) E Y 1 S_1 V_3 o_X3_air q_659 [.int x3] rfl rfl (hR_of (by omega) (by decide)) hl.1 (rest := [.int v8]) rfl (Nat.le_of_ble_eq_true rfl) dX7_judge_74 (fun z hz => m_X3_air_1 hz) hf (fun v10 μ11 H locs hf Y => ?_)
        refine g_icmp_eq (pc := 77) (tgt := 82) E dX7_judge_77 (by decide) hf (fun hf => ?_) (fun hf => ?_)
        · refine g_iinc (pc := 82) E (fun v12 => [(3, .int v12), (0, .ref (ad 0)), (1, .int x1), (2, .int x2)]) dX7_judge_82 hl (k := 3) rfl (t := 1) (by decide) (by decide) (fun _ => rfl) hf (fun v12 hf ls hl => ?_)
          refine lv_goto (pc := 85) (tgt := 55) hx hb dX7_judge_85 (by decide) ?_
          exact ih _ _ _ _ _ _ _ hf Y (lv_sub hl [1, 2, 3, 0] rfl)
        · refine lv_iload_n (pc := 80) hx hb dX7_judge_80 rfl (lv_at hl 3 rfl) ?_
          exact g_iret (pc := 81) E Y hr hk dX7_judge_81 hf
  unfold f_X7_judge_0 at hf
  refine lv_iload_n (pc := 0) hx hb dX7_judge_0 rfl (lv_at hl 1 rfl) ?_
  refine g_callSi (pc := 1) E Y o_X7_isSheet q_641 [.int a0] rfl rfl (hR_of (by omega) (by decide)) hl.1 (rest := []) rfl (Nat.le_of_ble_eq_true rfl) dX7_judge_1 (fun z hz => m_X7_isSheet hz) hf (fun v1 μ2 H locs hf Y => ?_)
  refine g_if_ne (pc := 4) (tgt := 13) E dX7_judge_4 (by decide) hf (fun hf => ?_) (fun hf => ?_)
  · refine lv_aload_n (pc := 13) hx hb dX7_judge_13 rfl (lv_at hl 0 rfl) ?_
    refine g_getr (pc := 14) E Y 0 3 46 S_0 rfl V_7 (by decide) AL_X7 q_326 dX7_judge_14 ?_
    refine lv_iload_n (pc := 17) hx hb dX7_judge_17 rfl (lv_at hl 1 rfl) ?_
    refine g_callVi (pc := 18) E Y 46 S_46 V_4 o_X4_isMissing q_642 [.int a0] rfl rfl (hR_of (by omega) (by decide)) hl.1 (rest := []) rfl (Nat.le_of_ble_eq_true rfl) dX7_judge_18 (fun z hz => m_X4_isMissing_46 hz) hf (fun v3 μ4 H locs hf Y => ?_)
    refine g_if_eq (pc := 21) (tgt := 30) E dX7_judge_21 (by decide) hf (fun hf => ?_) (fun hf => ?_)
    · refine lv_aload_n (pc := 30) hx hb dX7_judge_30 rfl (lv_at hl 0 rfl) ?_
      refine g_getr (pc := 31) E Y 0 3 46 S_0 rfl V_7 (by decide) AL_X7 q_326 dX7_judge_31 ?_
      refine g_getr (pc := 34) E Y 46 1 48 S_46 rfl V_4 (by decide) AL_X4 q_320 dX7_judge_34 ?_
      refine lv_iload_n (pc := 37) hx hb dX7_judge_37 rfl (lv_at hl 1 rfl) ?_
      refine g_iald (pc := 38) E Y 48 S_48 dX7_judge_38 hf (fun v5 hf => ?_)
      refine lv_aload_n (pc := 39) hx hb dX7_judge_39 rfl (lv_at hl 0 rfl) ?_
      refine g_getr (pc := 40) E Y 0 0 1 S_0 rfl V_7 (by decide) AL_X7 q_301 dX7_judge_40 ?_
      refine g_getr (pc := 43) E Y 1 0 2 S_1 rfl V_3 (by decide) AL_X3 q_334 dX7_judge_43 ?_
      refine g_geti (pc := 46) E Y 2 4 S_2 rfl V_0 (by decide) AL_X0 q_335 dX7_judge_46 hf (fun v6 hf => ?_)
      refine g_mmin (pc := 49) E hl.1 q_637 q_902 q_359 q_12 (hR_one (by omega)) (hR_lo (by omega) (Nat.le_of_ble_eq_true rfl)) dX7_judge_49 hf (fun v7 hf => ?_)
      refine lv_istore_n (pc := 52) (lv' := [(2, .int v7), (0, .ref (ad 0)), (1, .int a0)]) hx hb dX7_judge_52 rfl hl (by decide) rfl (fun ls hl => ?_)
      refine lv_iconst (pc := 53) (v := 0) hx hb dX7_judge_53 (by decide) ?_
      refine lv_istore_n (pc := 54) (lv' := [(3, .int 0), (2, .int v7), (0, .ref (ad 0)), (1, .int a0)]) hx hb dX7_judge_54 rfl hl (by decide) rfl (fun ls hl => ?_)
      exact hL_55 1000 _ _ _ _ _ _ _ hf Y (lv_sub hl [2, 3, 1, 0] rfl)
    · refine lv_aload_n (pc := 24) hx hb dX7_judge_24 rfl (lv_at hl 0 rfl) ?_
      refine lv_iconst (pc := 25) (v := 2) hx hb dX7_judge_25 (by decide) ?_
      refine g_callVi (pc := 26) E Y 0 S_0 V_7 o_X7_error q_656 [.int 2] rfl rfl (hR_of (by omega) (by decide)) hl.1 (rest := []) rfl (Nat.le_of_ble_eq_true rfl) dX7_judge_26 (fun z hz => m_X7_error_0 hz) hf (fun v13 μ14 H locs hf Y => ?_)
      exact g_iret (pc := 29) E Y hr hk dX7_judge_29 hf
  · refine lv_aload_n (pc := 7) hx hb dX7_judge_7 rfl (lv_at hl 0 rfl) ?_
    refine lv_iconst (pc := 8) (v := 1) hx hb dX7_judge_8 (by decide) ?_
    refine g_callVi (pc := 9) E Y 0 S_0 V_7 o_X7_error q_656 [.int 1] rfl rfl (hR_of (by omega) (by decide)) hl.1 (rest := []) rfl (Nat.le_of_ble_eq_true rfl) dX7_judge_9 (fun z hz => m_X7_error_0 hz) hf (fun v15 μ16 H locs hf Y => ?_)
    exact g_iret (pc := 12) E Y hr hk dX7_judge_12 hf
def f_X0_takes_22_2 (σ : Mem) : Res := gt (okc false 0 0 6 6 6 (σ 3)) <| nm (mrow σ 23 (va_cpy (σ 3) (σ 23) (0 : Int32).toNatClampNeg (0 : Int32).toNatClampNeg (6 : Int32).toNatClampNeg)) fun (μ1 : Mem) => gt (okc false 0 0 6 6 6 (μ1 4)) <| nm (mrow μ1 24 (va_cpy (μ1 4) (μ1 24) (0 : Int32).toNatClampNeg (0 : Int32).toNatClampNeg (6 : Int32).toNatClampNeg)) fun (μ2 : Mem) => gt (okc false 0 0 6 6 6 (μ2 5)) <| nm (mrow μ2 25 (va_cpy (μ2 5) (μ2 25) (0 : Int32).toNatClampNeg (0 : Int32).toNatClampNeg (6 : Int32).toNatClampNeg)) fun (μ3 : Mem) => gt (okc false 0 0 6 6 6 (μ3 6)) <| nm (mrow μ3 26 (va_cpy (μ3 6) (μ3 26) (0 : Int32).toNatClampNeg (0 : Int32).toNatClampNeg (6 : Int32).toNatClampNeg)) fun (μ4 : Mem) => nm (μ4 2 4) fun (v5 : Int32) => nm (mset μ4 22 4 v5) fun (μ6 : Mem) => some (0, μ6)
set_option maxHeartbeats 4000000 in
set_option maxRecDepth 100000 in
theorem m_X0_takes_22_2 {l : Launch} {σ : Mem} {Z : Int32 × Mem}  (hf : f_X0_takes_22_2 σ = some Z) : CV l yX0_takes cX0_takes 2 2 (fun ad => [.ref (ad 22), .ref (ad 2)]) σ Z := by
  refine g_openV RX0 (by decide) rfl (fun _ => Nat.le_of_ble_eq_true rfl) (fun p e s m below meth c D cI cB ad st ls E Y hr hk hl => ?_)
  have hx := E.1.1
  have hb := E.1.2.1
  have hl : lv_has ls 2 [(0, .ref (ad 22)), (1, .ref (ad 2))] := hl
  unfold f_X0_takes_22_2 at hf
  refine lv_aload_n (pc := 0) hx hb dX0_takes_0 rfl (lv_at hl 1 rfl) ?_
  refine g_getr (pc := 1) E Y 2 0 3 S_2 rfl V_0 (by decide) AL_X0 q_246 dX0_takes_1 ?_
  refine lv_iconst (pc := 4) (v := 0) hx hb dX0_takes_4 (by decide) ?_
  refine lv_aload_n (pc := 5) hx hb dX0_takes_5 rfl (lv_at hl 0 rfl) ?_
  refine g_getr (pc := 6) E Y 22 0 23 S_22 rfl V_0 (by decide) AL_X0 q_246 dX0_takes_6 ?_
  refine lv_iconst (pc := 9) (v := 0) hx hb dX0_takes_9 (by decide) ?_
  refine lv_bipush (pc := 10) (v := 6) hx hb dX0_takes_10 (by decide) ?_
  refine g_copy (pc := 12) E Y hl.1 3 23 0 (b := false) S_3 S_23 rfl q_566 q_723 q_903 q_360 (Nat.le_of_ble_eq_true rfl) (Nat.le_of_ble_eq_true rfl) dX0_takes_12 hf (fun μ1 H locs hf Y => ?_)
  refine lv_aload_n (pc := 15) hx hb dX0_takes_15 rfl (lv_at hl 1 rfl) ?_
  refine g_getr (pc := 16) E Y 2 1 4 S_2 rfl V_0 (by decide) AL_X0 q_242 dX0_takes_16 ?_
  refine lv_iconst (pc := 19) (v := 0) hx hb dX0_takes_19 (by decide) ?_
  refine lv_aload_n (pc := 20) hx hb dX0_takes_20 rfl (lv_at hl 0 rfl) ?_
  refine g_getr (pc := 21) E Y 22 1 24 S_22 rfl V_0 (by decide) AL_X0 q_242 dX0_takes_21 ?_
  refine lv_iconst (pc := 24) (v := 0) hx hb dX0_takes_24 (by decide) ?_
  refine lv_bipush (pc := 25) (v := 6) hx hb dX0_takes_25 (by decide) ?_
  refine g_copy (pc := 27) E Y hl.1 4 24 0 (b := false) S_4 S_24 rfl q_566 q_723 q_903 q_360 (Nat.le_of_ble_eq_true rfl) (Nat.le_of_ble_eq_true rfl) dX0_takes_27 hf (fun μ2 H locs hf Y => ?_)
  refine lv_aload_n (pc := 30) hx hb dX0_takes_30 rfl (lv_at hl 1 rfl) ?_
  refine g_getr (pc := 31) E Y 2 2 5 S_2 rfl V_0 (by decide) AL_X0 q_243 dX0_takes_31 ?_
  refine lv_iconst (pc := 34) (v := 0) hx hb dX0_takes_34 (by decide) ?_
  refine lv_aload_n (pc := 35) hx hb dX0_takes_35 rfl (lv_at hl 0 rfl) ?_
  refine g_getr (pc := 36) E Y 22 2 25 S_22 rfl V_0 (by decide) AL_X0 q_243 dX0_takes_36 ?_
  refine lv_iconst (pc := 39) (v := 0) hx hb dX0_takes_39 (by decide) ?_
  refine lv_bipush (pc := 40) (v := 6) hx hb dX0_takes_40 (by decide) ?_
  refine g_copy (pc := 42) E Y hl.1 5 25 0 (b := false) S_5 S_25 rfl q_566 q_723 q_903 q_360 (Nat.le_of_ble_eq_true rfl) (Nat.le_of_ble_eq_true rfl) dX0_takes_42 hf (fun μ3 H locs hf Y => ?_)
  refine lv_aload_n (pc := 45) hx hb dX0_takes_45 rfl (lv_at hl 1 rfl) ?_
  refine g_getr (pc := 46) E Y 2 3 6 S_2 rfl V_0 (by decide) AL_X0 q_244 dX0_takes_46 ?_
  refine lv_iconst (pc := 49) (v := 0) hx hb dX0_takes_49 (by decide) ?_
  refine lv_aload_n (pc := 50) hx hb dX0_takes_50 rfl (lv_at hl 0 rfl) ?_
  refine g_getr (pc := 51) E Y 22 3 26 S_22 rfl V_0 (by decide) AL_X0 q_244 dX0_takes_51 ?_
  refine lv_iconst (pc := 54) (v := 0) hx hb dX0_takes_54 (by decide) ?_
  refine lv_bipush (pc := 55) (v := 6) hx hb dX0_takes_55 (by decide) ?_
  refine g_copy (pc := 57) E Y hl.1 6 26 0 (b := false) S_6 S_26 rfl q_566 q_723 q_903 q_360 (Nat.le_of_ble_eq_true rfl) (Nat.le_of_ble_eq_true rfl) dX0_takes_57 hf (fun μ4 H locs hf Y => ?_)
  refine lv_aload_n (pc := 60) hx hb dX0_takes_60 rfl (lv_at hl 0 rfl) ?_
  refine lv_aload_n (pc := 61) hx hb dX0_takes_61 rfl (lv_at hl 1 rfl) ?_
  refine g_geti (pc := 62) E Y 2 4 S_2 rfl V_0 (by decide) AL_X0 q_245 dX0_takes_62 hf (fun v5 hf => ?_)
  refine g_put (pc := 65) E Y 22 4 S_22 rfl V_0 (by decide) AL_X0 tyX0 tyX0_ok nmX0 q_245 rfl rfl rfl dX0_takes_65 hf (fun μ6 H locs hf Y => ?_)
  exact g_vret (pc := 68) E Y hr hk dX0_takes_68 hf
def f_X2_takes_27_7 (σ : Mem) : Res := gt (okc false 0 0 5 5 5 (σ 8)) <| nm (mrow σ 28 (va_cpy (σ 8) (σ 28) (0 : Int32).toNatClampNeg (0 : Int32).toNatClampNeg (5 : Int32).toNatClampNeg)) fun (μ1 : Mem) => gt (okc false 0 0 5 5 5 (μ1 9)) <| nm (mrow μ1 29 (va_cpy (μ1 9) (μ1 29) (0 : Int32).toNatClampNeg (0 : Int32).toNatClampNeg (5 : Int32).toNatClampNeg)) fun (μ2 : Mem) => gt (okc false 0 0 5 5 5 (μ2 10)) <| nm (mrow μ2 30 (va_cpy (μ2 10) (μ2 30) (0 : Int32).toNatClampNeg (0 : Int32).toNatClampNeg (5 : Int32).toNatClampNeg)) fun (μ3 : Mem) => gt (okc false 0 0 5 5 5 (μ3 11)) <| nm (mrow μ3 31 (va_cpy (μ3 11) (μ3 31) (0 : Int32).toNatClampNeg (0 : Int32).toNatClampNeg (5 : Int32).toNatClampNeg)) fun (μ4 : Mem) => gt (okc false 0 0 5 5 5 (μ4 12)) <| nm (mrow μ4 32 (va_cpy (μ4 12) (μ4 32) (0 : Int32).toNatClampNeg (0 : Int32).toNatClampNeg (5 : Int32).toNatClampNeg)) fun (μ5 : Mem) => nm (μ5 7 5) fun (v6 : Int32) => nm (mset μ5 27 5 v6) fun (μ7 : Mem) => some (0, μ7)
set_option maxHeartbeats 4000000 in
set_option maxRecDepth 100000 in
theorem m_X2_takes_27_7 {l : Launch} {σ : Mem} {Z : Int32 × Mem}  (hf : f_X2_takes_27_7 σ = some Z) : CV l yX2_takes cX2_takes 2 2 (fun ad => [.ref (ad 27), .ref (ad 7)]) σ Z := by
  refine g_openV RX2 (by decide) rfl (fun _ => Nat.le_of_ble_eq_true rfl) (fun p e s m below meth c D cI cB ad st ls E Y hr hk hl => ?_)
  have hx := E.1.1
  have hb := E.1.2.1
  have hl : lv_has ls 2 [(0, .ref (ad 27)), (1, .ref (ad 7))] := hl
  unfold f_X2_takes_27_7 at hf
  refine lv_aload_n (pc := 0) hx hb dX2_takes_0 rfl (lv_at hl 1 rfl) ?_
  refine g_getr (pc := 1) E Y 7 0 8 S_7 rfl V_2 (by decide) AL_X2 q_262 dX2_takes_1 ?_
  refine lv_iconst (pc := 4) (v := 0) hx hb dX2_takes_4 (by decide) ?_
  refine lv_aload_n (pc := 5) hx hb dX2_takes_5 rfl (lv_at hl 0 rfl) ?_
  refine g_getr (pc := 6) E Y 27 0 28 S_27 rfl V_2 (by decide) AL_X2 q_262 dX2_takes_6 ?_
  refine lv_iconst (pc := 9) (v := 0) hx hb dX2_takes_9 (by decide) ?_
  refine lv_iconst (pc := 10) (v := 5) hx hb dX2_takes_10 (by decide) ?_
  refine g_copy (pc := 11) E Y hl.1 8 28 0 (b := false) S_8 S_28 rfl q_579 q_723 q_903 q_360 (Nat.le_of_ble_eq_true rfl) (Nat.le_of_ble_eq_true rfl) dX2_takes_11 hf (fun μ1 H locs hf Y => ?_)
  refine lv_aload_n (pc := 14) hx hb dX2_takes_14 rfl (lv_at hl 1 rfl) ?_
  refine g_getr (pc := 15) E Y 7 1 9 S_7 rfl V_2 (by decide) AL_X2 q_257 dX2_takes_15 ?_
  refine lv_iconst (pc := 18) (v := 0) hx hb dX2_takes_18 (by decide) ?_
  refine lv_aload_n (pc := 19) hx hb dX2_takes_19 rfl (lv_at hl 0 rfl) ?_
  refine g_getr (pc := 20) E Y 27 1 29 S_27 rfl V_2 (by decide) AL_X2 q_257 dX2_takes_20 ?_
  refine lv_iconst (pc := 23) (v := 0) hx hb dX2_takes_23 (by decide) ?_
  refine lv_iconst (pc := 24) (v := 5) hx hb dX2_takes_24 (by decide) ?_
  refine g_copy (pc := 25) E Y hl.1 9 29 0 (b := false) S_9 S_29 rfl q_579 q_723 q_903 q_360 (Nat.le_of_ble_eq_true rfl) (Nat.le_of_ble_eq_true rfl) dX2_takes_25 hf (fun μ2 H locs hf Y => ?_)
  refine lv_aload_n (pc := 28) hx hb dX2_takes_28 rfl (lv_at hl 1 rfl) ?_
  refine g_getr (pc := 29) E Y 7 2 10 S_7 rfl V_2 (by decide) AL_X2 q_258 dX2_takes_29 ?_
  refine lv_iconst (pc := 32) (v := 0) hx hb dX2_takes_32 (by decide) ?_
  refine lv_aload_n (pc := 33) hx hb dX2_takes_33 rfl (lv_at hl 0 rfl) ?_
  refine g_getr (pc := 34) E Y 27 2 30 S_27 rfl V_2 (by decide) AL_X2 q_258 dX2_takes_34 ?_
  refine lv_iconst (pc := 37) (v := 0) hx hb dX2_takes_37 (by decide) ?_
  refine lv_iconst (pc := 38) (v := 5) hx hb dX2_takes_38 (by decide) ?_
  refine g_copy (pc := 39) E Y hl.1 10 30 0 (b := false) S_10 S_30 rfl q_579 q_723 q_903 q_360 (Nat.le_of_ble_eq_true rfl) (Nat.le_of_ble_eq_true rfl) dX2_takes_39 hf (fun μ3 H locs hf Y => ?_)
  refine lv_aload_n (pc := 42) hx hb dX2_takes_42 rfl (lv_at hl 1 rfl) ?_
  refine g_getr (pc := 43) E Y 7 3 11 S_7 rfl V_2 (by decide) AL_X2 q_259 dX2_takes_43 ?_
  refine lv_iconst (pc := 46) (v := 0) hx hb dX2_takes_46 (by decide) ?_
  refine lv_aload_n (pc := 47) hx hb dX2_takes_47 rfl (lv_at hl 0 rfl) ?_
  refine g_getr (pc := 48) E Y 27 3 31 S_27 rfl V_2 (by decide) AL_X2 q_259 dX2_takes_48 ?_
  refine lv_iconst (pc := 51) (v := 0) hx hb dX2_takes_51 (by decide) ?_
  refine lv_iconst (pc := 52) (v := 5) hx hb dX2_takes_52 (by decide) ?_
  refine g_copy (pc := 53) E Y hl.1 11 31 0 (b := false) S_11 S_31 rfl q_579 q_723 q_903 q_360 (Nat.le_of_ble_eq_true rfl) (Nat.le_of_ble_eq_true rfl) dX2_takes_53 hf (fun μ4 H locs hf Y => ?_)
  refine lv_aload_n (pc := 56) hx hb dX2_takes_56 rfl (lv_at hl 1 rfl) ?_
  refine g_getr (pc := 57) E Y 7 4 12 S_7 rfl V_2 (by decide) AL_X2 q_260 dX2_takes_57 ?_
  refine lv_iconst (pc := 60) (v := 0) hx hb dX2_takes_60 (by decide) ?_
  refine lv_aload_n (pc := 61) hx hb dX2_takes_61 rfl (lv_at hl 0 rfl) ?_
  refine g_getr (pc := 62) E Y 27 4 32 S_27 rfl V_2 (by decide) AL_X2 q_260 dX2_takes_62 ?_
  refine lv_iconst (pc := 65) (v := 0) hx hb dX2_takes_65 (by decide) ?_
  refine lv_iconst (pc := 66) (v := 5) hx hb dX2_takes_66 (by decide) ?_
  refine g_copy (pc := 67) E Y hl.1 12 32 0 (b := false) S_12 S_32 rfl q_579 q_723 q_903 q_360 (Nat.le_of_ble_eq_true rfl) (Nat.le_of_ble_eq_true rfl) dX2_takes_67 hf (fun μ5 H locs hf Y => ?_)
  refine lv_aload_n (pc := 70) hx hb dX2_takes_70 rfl (lv_at hl 0 rfl) ?_
  refine lv_aload_n (pc := 71) hx hb dX2_takes_71 rfl (lv_at hl 1 rfl) ?_
  refine g_geti (pc := 72) E Y 7 5 S_7 rfl V_2 (by decide) AL_X2 q_261 dX2_takes_72 hf (fun v6 hf => ?_)
  refine g_put (pc := 75) E Y 27 5 S_27 rfl V_2 (by decide) AL_X2 tyX2 tyX2_ok nmX2 q_261 rfl rfl rfl dX2_takes_75 hf (fun μ7 H locs hf Y => ?_)
  exact g_vret (pc := 78) E Y hr hk dX2_takes_78 hf
