/-! methods, by program: a pure program and its contract each -/
def f_X1_faultOf_41_19_L102 (x2 : Int32) (σ : Mem) : Res := nm (σ 41 6) fun (v8 : Int32) => if v8 = 0 then (nm (σ 41 4) fun (v9 : Int32) => if v9 ≤ 0 then (bd (f_X1_settle_41 1 σ) fun v10 μ11 => some ((-1), μ11)) else (some (x2, σ))) else (some (x2, σ))
def fb_X1_faultOf_41_19_L44 (bk : Int32 → Int32 → Int32 → Mem → Res) (x2 : Int32) (x3 : Int32) (x4 : Int32) (σ : Mem) : Res := if x2 ≤ x4 then (f_X1_faultOf_41_19_L102 x2 σ) else (if 60 ≤ x4 then (f_X1_faultOf_41_19_L102 x2 σ) else (gi x4 60 <| nm (σ 19 x4.toNatClampNeg) fun (v12 : Int32) => nm (σ 41 6) fun (v13 : Int32) => if v13 = 0 then (bd (f_X1_continues_41 v12 σ) fun v14 μ15 => if v14 = 0 then (some (x4, μ15)) else (nm (x4 + 1) fun (v16 : Int32) => bk x2 x3 v16 μ15)) else (bd (f_X1_begins_41 v12 x3 σ) fun v17 μ18 => if v17 = 0 then (some (x4, μ18)) else (nm (x4 + 1) fun (v19 : Int32) => bk x2 x3 v19 μ18))))
def f_X1_faultOf_41_19_L44 : Nat → Int32 → Int32 → Int32 → Mem → Res
  | 0, _, _, _, _ => none
  | n + 1, x2, x3, x4, σ => fb_X1_faultOf_41_19_L44 (f_X1_faultOf_41_19_L44 n) x2 x3 x4 σ
def f_X1_faultOf_41_19 (a1 : Int32) (a2 : Int32) (σ : Mem) : Res := nm (mset σ 42 2 0) fun (μ1 : Mem) => gb 1 <| nm (mset μ1 42 3 1) fun (μ2 : Mem) => nm (mset μ2 41 2 0) fun (μ3 : Mem) => nm (mset μ3 41 3 0) fun (μ4 : Mem) => nm (mset μ4 41 4 0) fun (μ5 : Mem) => nm (mset μ5 41 5 0) fun (μ6 : Mem) => gb 1 <| nm (mset μ6 41 6 1) fun (μ7 : Mem) => f_X1_faultOf_41_19_L44 1000 a1 a2 0 μ7
set_option maxHeartbeats 4000000 in
set_option maxRecDepth 100000 in
theorem m_X1_faultOf_41_19 {l : Launch} {σ : Mem} {Z : Int32 × Mem} {a1 : Int32} {a2 : Int32} (hf : f_X1_faultOf_41_19 a1 a2 σ = some Z) : CT l yX1_faultOf cX1_faultOf 7 (some .int) 4 (fun ad => [.ref (ad 41), .ref (ad 19), .int a1, .int a2]) σ Z := by
  refine g_openT RX1 (by decide) rfl (fun _ => Nat.le_of_ble_eq_true rfl) (fun p e s m below meth c D cI cB ad st ls E Y hr hk hl => ?_)
  have hx := E.1.1
  have hb := E.1.2.1
  have hl : lv_has ls 7 [(0, .ref (ad 41)), (1, .ref (ad 19)), (2, .int a1), (3, .int a2)] := hl
  have hL_102 : ∀ (x2 : Int32) (σ : Mem) (H : Heap) (locs : List Loc) (ls : Array Slot), f_X1_faultOf_41_19_L102 x2 σ = some Z → Wo D cI cB ad (AA ad) σ s H locs → lv_has ls 7 [(0, .ref (ad 41)), (2, .int x2)] → W p l e (rmd 4) s m ([.ref (ad 41), .ref (ad 19), .int a1, .int a2] : List Value).toArray below meth c H locs 0 0 (QT_ below D cI cB ad st Z ([.ref (ad 41), .ref (ad 19), .int a1, .int a2] : List Value).toArray s) (F0 m 102 ls []) := by
    intro x2 σ H locs ls hf Y hl
    unfold f_X1_faultOf_41_19_L102 at hf
    refine lv_aload_n (pc := 102) hx hb dX1_faultOf_102 rfl (lv_at hl 0 rfl) ?_
    refine g_geti (pc := 103) E Y 41 6 S_41 rfl V_1 (by decide) AL_X1 q_253 dX1_faultOf_103 hf (fun v8 hf => ?_)
    refine g_if_ne (pc := 106) (tgt := 116) E dX1_faultOf_106 (by decide) hf (fun hf => ?_) (fun hf => ?_)
    · refine lv_iload_n (pc := 116) hx hb dX1_faultOf_116 rfl (lv_at hl 1 rfl) ?_
      exact g_iret (pc := 117) E Y hr hk dX1_faultOf_117 hf
    · refine lv_aload_n (pc := 109) hx hb dX1_faultOf_109 rfl (lv_at hl 0 rfl) ?_
      refine g_geti (pc := 110) E Y 41 4 S_41 rfl V_1 (by decide) AL_X1 q_251 dX1_faultOf_110 hf (fun v9 hf => ?_)
      refine g_if_le (pc := 113) (tgt := 118) E dX1_faultOf_113 (by decide) hf (fun hf => ?_) (fun hf => ?_)
      · refine lv_aload_n (pc := 118) hx hb dX1_faultOf_118 rfl (lv_at hl 0 rfl) ?_
        refine lv_iconst (pc := 119) (v := 1) hx hb dX1_faultOf_119 (by decide) ?_
        refine g_callVv (pc := 120) E Y 41 S_41 V_1 o_X1_settle q_571 [.int 1] rfl rfl (hR_of (by omega) (by decide)) hl.1 (rest := []) rfl (Nat.le_of_ble_eq_true rfl) dX1_faultOf_120 (fun z hz => m_X1_settle_41 hz) hf (fun v10 μ11 H locs hf Y => ?_)
        refine lv_iconst (pc := 123) (v := (-1)) hx hb dX1_faultOf_123 (by decide) ?_
        exact g_iret (pc := 124) E Y hr hk dX1_faultOf_124 hf
      · refine lv_iload_n (pc := 116) hx hb dX1_faultOf_116 rfl (lv_at hl 1 rfl) ?_
        exact g_iret (pc := 117) E Y hr hk dX1_faultOf_117 hf
  have hL_44 : ∀ (n : Nat) (x2 : Int32) (x3 : Int32) (x4 : Int32) (σ : Mem) (H : Heap) (locs : List Loc) (ls : Array Slot), f_X1_faultOf_41_19_L44 n x2 x3 x4 σ = some Z → Wo D cI cB ad (AA ad) σ s H locs → lv_has ls 7 [(0, .ref (ad 41)), (1, .ref (ad 19)), (2, .int x2), (3, .int x3), (4, .int x4)] → W p l e (rmd 4) s m ([.ref (ad 41), .ref (ad 19), .int a1, .int a2] : List Value).toArray below meth c H locs 0 0 (QT_ below D cI cB ad st Z ([.ref (ad 41), .ref (ad 19), .int a1, .int a2] : List Value).toArray s) (F0 m 44 ls []) := by
    intro n
    induction n with
    | zero =>
      intro x2 x3 x4 σ H locs ls hf
      cases (show (none : Res) = some Z from hf)
    | succ n ih =>
      intro x2 x3 x4 σ H locs ls hf Y hl
      have hf : fb_X1_faultOf_41_19_L44 (f_X1_faultOf_41_19_L44 n) x2 x3 x4 σ = some Z := hf
      unfold fb_X1_faultOf_41_19_L44 at hf
      refine lv_iload (pc := 44) hx hb dX1_faultOf_44 (lv_at hl 4 rfl) ?_
      refine lv_iload_n (pc := 46) hx hb dX1_faultOf_46 rfl (lv_at hl 2 rfl) ?_
      refine g_icmp_ge (pc := 47) (tgt := 102) E dX1_faultOf_47 (by decide) hf (fun hf => ?_) (fun hf => ?_)
      · exact hL_102 _ _ _ _ _ hf Y (lv_sub hl [0, 2] rfl)
      · refine lv_iload (pc := 50) hx hb dX1_faultOf_50 (lv_at hl 4 rfl) ?_
        refine lv_aload_n (pc := 52) hx hb dX1_faultOf_52 rfl (lv_at hl 1 rfl) ?_
        refine g_alen (pc := 53) E Y 19 (b := true) (ty := .byte) 1 S_19 rfl (v := 60) (by decide) dX1_faultOf_53 ?_
        refine g_icmp_ge (pc := 54) (tgt := 102) E dX1_faultOf_54 (by decide) hf (fun hf => ?_) (fun hf => ?_)
        · exact hL_102 _ _ _ _ _ hf Y (lv_sub hl [0, 2] rfl)
        · refine lv_aload_n (pc := 57) hx hb dX1_faultOf_57 rfl (lv_at hl 1 rfl) ?_
          refine lv_iload (pc := 58) hx hb dX1_faultOf_58 (lv_at hl 4 rfl) ?_
          refine g_bald (pc := 60) E Y 19 S_19 dX1_faultOf_60 hf (fun v12 hf => ?_)
          refine lv_istore (pc := 61) (lv' := [(5, .int v12), (0, .ref (ad 41)), (1, .ref (ad 19)), (2, .int x2), (3, .int x3), (4, .int x4)]) hx hb dX1_faultOf_61 hl (by decide) rfl (fun ls hl => ?_)
          refine lv_aload_n (pc := 63) hx hb dX1_faultOf_63 rfl (lv_at hl 1 rfl) ?_
          refine g_geti (pc := 64) E Y 41 6 S_41 rfl V_1 (by decide) AL_X1 q_253 dX1_faultOf_64 hf (fun v13 hf => ?_)
          refine g_if_eq (pc := 67) (tgt := 80) E dX1_faultOf_67 (by decide) hf (fun hf => ?_) (fun hf => ?_)
          · refine lv_aload_n (pc := 80) hx hb dX1_faultOf_80 rfl (lv_at hl 1 rfl) ?_
            refine lv_iload (pc := 81) hx hb dX1_faultOf_81 (lv_at hl 0 rfl) ?_
            refine g_callVi (pc := 83) E Y 41 S_41 V_1 o_X1_continues q_570 [.int v12] rfl rfl (hR_of (by omega) (by decide)) hl.1 (rest := []) rfl (Nat.le_of_ble_eq_true rfl) dX1_faultOf_83 (fun z hz => m_X1_continues_41 hz) hf (fun v14 μ15 H locs hf Y => ?_)
            refine lv_istore (pc := 86) (lv' := [(6, .int v14), (5, .int v12), (0, .ref (ad 41)), (1, .ref (ad 19)), (2, .int x2), (3, .int x3), (4, .int x4)]) hx hb dX1_faultOf_86 hl (by decide) rfl (fun ls hl => ?_)
            refine lv_iload (pc := 88) hx hb dX1_faultOf_88 (lv_at hl 0 rfl) ?_
            refine g_if_ne (pc := 90) (tgt := 96) E dX1_faultOf_90 (by decide) hf (fun hf => ?_) (fun hf => ?_)
            · refine g_iinc (pc := 96) E (fun v16 => [(4, .int v16), (6, .int v14), (5, .int v12), (0, .ref (ad 41)), (1, .ref (ad 19)), (2, .int x2), (3, .int x3)]) dX1_faultOf_96 hl (k := 6) rfl (t := 1) (by decide) (by decide) (fun _ => rfl) hf (fun v16 hf ls hl => ?_)
              refine lv_goto (pc := 99) (tgt := 44) hx hb dX1_faultOf_99 (by decide) ?_
              exact ih _ _ _ _ _ _ _ hf Y (lv_sub hl [3, 4, 5, 6, 0] rfl)
            · refine lv_iload (pc := 93) hx hb dX1_faultOf_93 (lv_at hl 6 rfl) ?_
              exact g_iret (pc := 95) E Y hr hk dX1_faultOf_95 hf
          · refine lv_aload_n (pc := 70) hx hb dX1_faultOf_70 rfl (lv_at hl 1 rfl) ?_
            refine lv_iload (pc := 71) hx hb dX1_faultOf_71 (lv_at hl 0 rfl) ?_
            refine lv_iload_n (pc := 73) hx hb dX1_faultOf_73 rfl (lv_at hl 4 rfl) ?_
            refine g_callVi (pc := 74) E Y 41 S_41 V_1 o_X1_begins q_569 [.int v12, .int x3] rfl rfl (hR_of (by omega) (by decide)) hl.1 (rest := []) rfl (Nat.le_of_ble_eq_true rfl) dX1_faultOf_74 (fun z hz => m_X1_begins_41 hz) hf (fun v17 μ18 H locs hf Y => ?_)
            refine lv_goto (pc := 77) (tgt := 86) hx hb dX1_faultOf_77 (by decide) ?_
            refine lv_istore (pc := 86) (lv' := [(6, .int v17), (5, .int v12), (0, .ref (ad 41)), (1, .ref (ad 19)), (2, .int x2), (3, .int x3), (4, .int x4)]) hx hb dX1_faultOf_86 hl (by decide) rfl (fun ls hl => ?_)
            refine lv_iload (pc := 88) hx hb dX1_faultOf_88 (lv_at hl 0 rfl) ?_
            refine g_if_ne (pc := 90) (tgt := 96) E dX1_faultOf_90 (by decide) hf (fun hf => ?_) (fun hf => ?_)
            · refine g_iinc (pc := 96) E (fun v19 => [(4, .int v19), (6, .int v17), (5, .int v12), (0, .ref (ad 41)), (1, .ref (ad 19)), (2, .int x2), (3, .int x3)]) dX1_faultOf_96 hl (k := 6) rfl (t := 1) (by decide) (by decide) (fun _ => rfl) hf (fun v19 hf ls hl => ?_)
              refine lv_goto (pc := 99) (tgt := 44) hx hb dX1_faultOf_99 (by decide) ?_
              exact ih _ _ _ _ _ _ _ hf Y (lv_sub hl [3, 4, 5, 6, 0] rfl)
            · refine lv_iload (pc := 93) hx hb dX1_faultOf_93 (lv_at hl 6 rfl) ?_
              exact g_iret (pc := 95) E Y hr hk dX1_faultOf_95 hf
  unfold f_X1_faultOf_41_19 at hf
  refine lv_aload_n (pc := 0) hx hb dX1_faultOf_0 rfl (lv_at hl 0 rfl) ?_
  refine g_getr (pc := 1) E Y 41 0 42 S_41 rfl V_1 (by decide) AL_X1 q_247 dX1_faultOf_1 ?_
  refine lv_iconst (pc := 4) (v := 0) hx hb dX1_faultOf_4 (by decide) ?_
  refine g_put (pc := 5) E Y 42 2 S_42 rfl V_5 (by decide) AL_X5 tyX5 tyX5_ok nmX5 q_254 rfl rfl rfl dX1_faultOf_5 hf (fun μ1 H locs hf Y => ?_)
  refine lv_aload_n (pc := 8) hx hb dX1_faultOf_8 rfl (lv_at hl 0 rfl) ?_
  refine g_getr (pc := 9) E Y 41 0 42 S_41 rfl V_1 (by decide) AL_X1 q_247 dX1_faultOf_9 ?_
  refine lv_iconst (pc := 12) (v := 1) hx hb dX1_faultOf_12 (by decide) ?_
  obtain ⟨h01, hf⟩ := gb_some hf
  refine g_put (pc := 13) E Y 42 3 S_42 rfl V_5 (by decide) AL_X5 tyX5 tyX5_ok nmX5 q_255 rfl (nar01 h01) (fit01 h01) dX1_faultOf_13 hf (fun μ2 H locs hf Y => ?_)
  refine lv_aload_n (pc := 16) hx hb dX1_faultOf_16 rfl (lv_at hl 0 rfl) ?_
  refine lv_iconst (pc := 17) (v := 0) hx hb dX1_faultOf_17 (by decide) ?_
  refine g_put (pc := 18) E Y 41 2 S_41 rfl V_1 (by decide) AL_X1 tyX1 tyX1_ok nmX1 q_249 rfl rfl rfl dX1_faultOf_18 hf (fun μ3 H locs hf Y => ?_)
  refine lv_aload_n (pc := 21) hx hb dX1_faultOf_21 rfl (lv_at hl 0 rfl) ?_
  refine lv_iconst (pc := 22) (v := 0) hx hb dX1_faultOf_22 (by decide) ?_
  refine g_put (pc := 23) E Y 41 3 S_41 rfl V_1 (by decide) AL_X1 tyX1 tyX1_ok nmX1 q_250 rfl rfl rfl dX1_faultOf_23 hf (fun μ4 H locs hf Y => ?_)
  refine lv_aload_n (pc := 26) hx hb dX1_faultOf_26 rfl (lv_at hl 0 rfl) ?_
  refine lv_iconst (pc := 27) (v := 0) hx hb dX1_faultOf_27 (by decide) ?_
  refine g_put (pc := 28) E Y 41 4 S_41 rfl V_1 (by decide) AL_X1 tyX1 tyX1_ok nmX1 q_251 rfl rfl rfl dX1_faultOf_28 hf (fun μ5 H locs hf Y => ?_)
  refine lv_aload_n (pc := 31) hx hb dX1_faultOf_31 rfl (lv_at hl 0 rfl) ?_
  refine lv_iconst (pc := 32) (v := 0) hx hb dX1_faultOf_32 (by decide) ?_
  refine g_put (pc := 33) E Y 41 5 S_41 rfl V_1 (by decide) AL_X1 tyX1 tyX1_ok nmX1 q_252 rfl rfl rfl dX1_faultOf_33 hf (fun μ6 H locs hf Y => ?_)
  refine lv_aload_n (pc := 36) hx hb dX1_faultOf_36 rfl (lv_at hl 0 rfl) ?_
  refine lv_iconst (pc := 37) (v := 1) hx hb dX1_faultOf_37 (by decide) ?_
  obtain ⟨h01, hf⟩ := gb_some hf
  refine g_put (pc := 38) E Y 41 6 S_41 rfl V_1 (by decide) AL_X1 tyX1 tyX1_ok nmX1 q_253 rfl (nar01 h01) (fit01 h01) dX1_faultOf_38 hf (fun μ7 H locs hf Y => ?_)
  refine lv_iconst (pc := 41) (v := 0) hx hb dX1_faultOf_41 (by decide) ?_
  refine lv_istore (pc := 42) (lv' := [(4, .int 0), (0, .ref (ad 41)), (1, .ref (ad 19)), (2, .int a1), (3, .int a2)]) hx hb dX1_faultOf_42 hl (by decide) rfl (fun ls hl => ?_)
  exact hL_44 1000 _ _ _ _ _ _ _ hf Y (lv_sub hl [1, 2, 3, 4, 0] rfl)
def f_X5_takes_13_42 (σ : Mem) : Res := gt (okc false 0 0 60 60 60 (σ 43)) <| nm (mrow σ 14 (va_cpy (σ 43) (σ 14) (0 : Int32).toNatClampNeg (0 : Int32).toNatClampNeg (60 : Int32).toNatClampNeg)) fun (μ1 : Mem) => nm (μ1 42 2) fun (v2 : Int32) => nm (mset μ1 13 2 v2) fun (μ3 : Mem) => nm (μ3 42 3) fun (v4 : Int32) => gb v4 <| nm (mset μ3 13 3 v4) fun (μ5 : Mem) => some (0, μ5)
set_option maxHeartbeats 4000000 in
set_option maxRecDepth 100000 in
theorem m_X5_takes_13_42 {l : Launch} {σ : Mem} {Z : Int32 × Mem}  (hf : f_X5_takes_13_42 σ = some Z) : CV l yX5_takes cX5_takes 2 2 (fun ad => [.ref (ad 13), .ref (ad 42)]) σ Z := by
  refine g_openV RX5 (by decide) rfl (fun _ => Nat.le_of_ble_eq_true rfl) (fun p e s m below meth c D cI cB ad st ls E Y hr hk hl => ?_)
  have hx := E.1.1
  have hb := E.1.2.1
  have hl : lv_has ls 2 [(0, .ref (ad 13)), (1, .ref (ad 42))] := hl
  unfold f_X5_takes_13_42 at hf
  refine lv_aload_n (pc := 0) hx hb dX5_takes_0 rfl (lv_at hl 1 rfl) ?_
  refine g_getr (pc := 1) E Y 42 0 43 S_42 rfl V_5 (by decide) AL_X5 q_294 dX5_takes_1 ?_
  refine lv_iconst (pc := 4) (v := 0) hx hb dX5_takes_4 (by decide) ?_
  refine lv_aload_n (pc := 5) hx hb dX5_takes_5 rfl (lv_at hl 0 rfl) ?_
  refine g_getr (pc := 6) E Y 13 0 14 S_13 rfl V_5 (by decide) AL_X5 q_294 dX5_takes_6 ?_
  refine lv_iconst (pc := 9) (v := 0) hx hb dX5_takes_9 (by decide) ?_
  refine lv_bipush (pc := 10) (v := 60) hx hb dX5_takes_10 (by decide) ?_
  refine g_copy (pc := 12) E Y hl.1 43 14 0 (b := false) S_43 S_14 rfl q_606 q_723 q_903 q_360 (Nat.le_of_ble_eq_true rfl) (Nat.le_of_ble_eq_true rfl) dX5_takes_12 hf (fun μ1 H locs hf Y => ?_)
  refine lv_aload_n (pc := 15) hx hb dX5_takes_15 rfl (lv_at hl 0 rfl) ?_
  refine lv_aload_n (pc := 16) hx hb dX5_takes_16 rfl (lv_at hl 1 rfl) ?_
  refine g_geti (pc := 17) E Y 42 2 S_42 rfl V_5 (by decide) AL_X5 q_292 dX5_takes_17 hf (fun v2 hf => ?_)
  refine g_put (pc := 20) E Y 13 2 S_13 rfl V_5 (by decide) AL_X5 tyX5 tyX5_ok nmX5 q_292 rfl rfl rfl dX5_takes_20 hf (fun μ3 H locs hf Y => ?_)
  refine lv_aload_n (pc := 23) hx hb dX5_takes_23 rfl (lv_at hl 0 rfl) ?_
  refine lv_aload_n (pc := 24) hx hb dX5_takes_24 rfl (lv_at hl 1 rfl) ?_
  refine g_geti (pc := 25) E Y 42 3 S_42 rfl V_5 (by decide) AL_X5 q_293 dX5_takes_25 hf (fun v4 hf => ?_)
  obtain ⟨h01, hf⟩ := gb_some hf
  refine g_put (pc := 28) E Y 13 3 S_13 rfl V_5 (by decide) AL_X5 tyX5 tyX5_ok nmX5 q_293 rfl (nar01 h01) (fit01 h01) dX5_takes_28 hf (fun μ5 H locs hf Y => ?_)
  exact g_vret (pc := 31) E Y hr hk dX5_takes_31 hf
def f_X5_takes_16_42 (σ : Mem) : Res := gt (okc false 0 0 60 60 60 (σ 43)) <| nm (mrow σ 17 (va_cpy (σ 43) (σ 17) (0 : Int32).toNatClampNeg (0 : Int32).toNatClampNeg (60 : Int32).toNatClampNeg)) fun (μ1 : Mem) => nm (μ1 42 2) fun (v2 : Int32) => nm (mset μ1 16 2 v2) fun (μ3 : Mem) => nm (μ3 42 3) fun (v4 : Int32) => gb v4 <| nm (mset μ3 16 3 v4) fun (μ5 : Mem) => some (0, μ5)
set_option maxHeartbeats 4000000 in
set_option maxRecDepth 100000 in
theorem m_X5_takes_16_42 {l : Launch} {σ : Mem} {Z : Int32 × Mem}  (hf : f_X5_takes_16_42 σ = some Z) : CV l yX5_takes cX5_takes 2 2 (fun ad => [.ref (ad 16), .ref (ad 42)]) σ Z := by
  refine g_openV RX5 (by decide) rfl (fun _ => Nat.le_of_ble_eq_true rfl) (fun p e s m below meth c D cI cB ad st ls E Y hr hk hl => ?_)
  have hx := E.1.1
  have hb := E.1.2.1
  have hl : lv_has ls 2 [(0, .ref (ad 16)), (1, .ref (ad 42))] := hl
  unfold f_X5_takes_16_42 at hf
  refine lv_aload_n (pc := 0) hx hb dX5_takes_0 rfl (lv_at hl 1 rfl) ?_
  refine g_getr (pc := 1) E Y 42 0 43 S_42 rfl V_5 (by decide) AL_X5 q_294 dX5_takes_1 ?_
  refine lv_iconst (pc := 4) (v := 0) hx hb dX5_takes_4 (by decide) ?_
  refine lv_aload_n (pc := 5) hx hb dX5_takes_5 rfl (lv_at hl 0 rfl) ?_
  refine g_getr (pc := 6) E Y 16 0 17 S_16 rfl V_5 (by decide) AL_X5 q_294 dX5_takes_6 ?_
  refine lv_iconst (pc := 9) (v := 0) hx hb dX5_takes_9 (by decide) ?_
  refine lv_bipush (pc := 10) (v := 60) hx hb dX5_takes_10 (by decide) ?_
  refine g_copy (pc := 12) E Y hl.1 43 17 0 (b := false) S_43 S_17 rfl q_606 q_723 q_903 q_360 (Nat.le_of_ble_eq_true rfl) (Nat.le_of_ble_eq_true rfl) dX5_takes_12 hf (fun μ1 H locs hf Y => ?_)
  refine lv_aload_n (pc := 15) hx hb dX5_takes_15 rfl (lv_at hl 0 rfl) ?_
  refine lv_aload_n (pc := 16) hx hb dX5_takes_16 rfl (lv_at hl 1 rfl) ?_
  refine g_geti (pc := 17) E Y 42 2 S_42 rfl V_5 (by decide) AL_X5 q_292 dX5_takes_17 hf (fun v2 hf => ?_)
  refine g_put (pc := 20) E Y 16 2 S_16 rfl V_5 (by decide) AL_X5 tyX5 tyX5_ok nmX5 q_292 rfl rfl rfl dX5_takes_20 hf (fun μ3 H locs hf Y => ?_)
  refine lv_aload_n (pc := 23) hx hb dX5_takes_23 rfl (lv_at hl 0 rfl) ?_
  refine lv_aload_n (pc := 24) hx hb dX5_takes_24 rfl (lv_at hl 1 rfl) ?_
  refine g_geti (pc := 25) E Y 42 3 S_42 rfl V_5 (by decide) AL_X5 q_293 dX5_takes_25 hf (fun v4 hf => ?_)
  obtain ⟨h01, hf⟩ := gb_some hf
  refine g_put (pc := 28) E Y 16 3 S_16 rfl V_5 (by decide) AL_X5 tyX5 tyX5_ok nmX5 q_293 rfl (nar01 h01) (fit01 h01) dX5_takes_28 hf (fun μ5 H locs hf Y => ?_)
  exact g_vret (pc := 31) E Y hr hk dX5_takes_31 hf
def f_X7_text_0 (a0 : Int32) (σ : Mem) : Res := bd (f_X7_isUse a0 σ) fun v1 μ2 => if v1 = 0 then (bd (f_X7_error_0 1 μ2) fun v12 μ13 => some (v12, μ13)) else (nm (μ2 1 5) fun (v3 : Int32) => bd (f_X1_faultOf_41_19 v3 a0 μ2) fun v4 μ5 => nm (mset μ5 1 5 0) fun (μ6 : Mem) => if v4 < 0 then (if a0 = 0 then (bd (f_X5_takes_13_42 μ6) fun v7 μ8 => some (1, μ8)) else (bd (f_X5_takes_16_42 μ6) fun v9 μ10 => some (1, μ10))) else (nm ((-10) - v4) fun (v11 : Int32) => some (v11, μ6)))
set_option maxHeartbeats 4000000 in
set_option maxRecDepth 100000 in
theorem m_X7_text_0 {l : Launch} {σ : Mem} {Z : Int32 × Mem} {a0 : Int32} (hf : f_X7_text_0 a0 σ = some Z) : CT l yX7_text cX7_text 3 (some .int) 5 (fun ad => [.ref (ad 0), .int a0]) σ Z := by
  refine g_openT RX7 (by decide) rfl (fun _ => Nat.le_of_ble_eq_true rfl) (fun p e s m below meth c D cI cB ad st ls E Y hr hk hl => ?_)
  have hx := E.1.1
  have hb := E.1.2.1
  have hl : lv_has ls 3 [(0, .ref (ad 0)), (1, .int a0)] := hl
  unfold f_X7_text_0 at hf
  refine lv_iload_n (pc := 0) hx hb dX7_text_0 rfl (lv_at hl 1 rfl) ?_
  refine g_callSi (pc := 1) E Y o_X7_isUse q_626 [.int a0] rfl rfl (hR_of (by omega) (by decide)) hl.1 (rest := []) rfl (Nat.le_of_ble_eq_true rfl) dX7_text_1 (fun z hz => m_X7_isUse hz) hf (fun v1 μ2 H locs hf Y => ?_)
  refine g_if_ne (pc := 4) (tgt := 13) E dX7_text_4 (by decide) hf (fun hf => ?_) (fun hf => ?_)
  · refine lv_aload_n (pc := 13) hx hb dX7_text_13 rfl (lv_at hl 0 rfl) ?_
    refine g_getr (pc := 14) E Y 0 2 41 S_0 rfl V_7 (by decide) AL_X7 q_314 dX7_text_14 ?_
    refine lv_aload_n (pc := 17) hx hb dX7_text_17 rfl (lv_at hl 0 rfl) ?_
    refine g_getr (pc := 18) E Y 0 0 1 S_0 rfl V_7 (by decide) AL_X7 q_301 dX7_text_18 ?_
    refine g_getr (pc := 21) E Y 1 4 19 S_1 rfl V_3 (by decide) AL_X3 q_310 dX7_text_21 ?_
    refine lv_aload_n (pc := 24) hx hb dX7_text_24 rfl (lv_at hl 0 rfl) ?_
    refine g_getr (pc := 25) E Y 0 0 1 S_0 rfl V_7 (by decide) AL_X7 q_301 dX7_text_25 ?_
    refine g_geti (pc := 28) E Y 1 5 S_1 rfl V_3 (by decide) AL_X3 q_309 dX7_text_28 hf (fun v3 hf => ?_)
    refine lv_iload_n (pc := 31) hx hb dX7_text_31 rfl (lv_at hl 1 rfl) ?_
    refine g_callVi (pc := 32) E Y 41 S_41 V_1 o_X1_faultOf q_627 [.ref (ad 19), .int v3, .int a0] rfl rfl (hR_of (by omega) (by decide)) hl.1 (rest := []) rfl (Nat.le_of_ble_eq_true rfl) dX7_text_32 (fun z hz => m_X1_faultOf_41_19 hz) hf (fun v4 μ5 H locs hf Y => ?_)
    refine lv_istore_n (pc := 35) (lv' := [(2, .int v4), (0, .ref (ad 0)), (1, .int a0)]) hx hb dX7_text_35 rfl hl (by decide) rfl (fun ls hl => ?_)
    refine lv_aload_n (pc := 36) hx hb dX7_text_36 rfl (lv_at hl 1 rfl) ?_
    refine g_getr (pc := 37) E Y 0 0 1 S_0 rfl V_7 (by decide) AL_X7 q_301 dX7_text_37 ?_
    refine lv_iconst (pc := 40) (v := 0) hx hb dX7_text_40 (by decide) ?_
    refine g_put (pc := 41) E Y 1 5 S_1 rfl V_3 (by decide) AL_X3 tyX3 tyX3_ok nmX3 q_309 rfl rfl rfl dX7_text_41 hf (fun μ6 H locs hf Y => ?_)
    refine lv_iload_n (pc := 44) hx hb dX7_text_44 rfl (lv_at hl 0 rfl) ?_
    refine g_if_lt (pc := 45) (tgt := 53) E dX7_text_45 (by decide) hf (fun hf => ?_) (fun hf => ?_)
    · refine lv_aload_n (pc := 53) hx hb dX7_text_53 rfl (lv_at hl 1 rfl) ?_
      refine g_getr (pc := 54) E Y 0 0 1 S_0 rfl V_7 (by decide) AL_X7 q_301 dX7_text_54 ?_
      refine lv_iload_n (pc := 57) hx hb dX7_text_57 rfl (lv_at hl 2 rfl) ?_
      refine g_callTextOf (pc := 58) E Y q_628 (hR_of (by omega) (by decide)) hl.1 (rest := []) (Nat.le_of_ble_eq_true rfl) dX7_text_58 hf (fun hf H locs Y => ?_) (fun hf H locs Y => ?_)
      · refine lv_aload_n (pc := 61) hx hb dX7_text_61 rfl (lv_at hl 1 rfl) ?_
        refine g_getr (pc := 62) E Y 0 2 41 S_0 rfl V_7 (by decide) AL_X7 q_314 dX7_text_62 ?_
        refine g_getr (pc := 65) E Y 41 0 42 S_41 rfl V_1 (by decide) AL_X1 q_312 dX7_text_65 ?_
        refine g_callVv (pc := 68) E Y 13 S_13 V_5 o_X5_takes q_629 [.ref (ad 42)] rfl rfl (hR_of (by omega) (by decide)) hl.1 (rest := []) rfl (Nat.le_of_ble_eq_true rfl) dX7_text_68 (fun z hz => m_X5_takes_13_42 hz) hf (fun v7 μ8 H locs hf Y => ?_)
        refine lv_iconst (pc := 71) (v := 1) hx hb dX7_text_71 (by decide) ?_
        exact g_iret (pc := 72) E Y hr hk dX7_text_72 hf
      · refine lv_aload_n (pc := 61) hx hb dX7_text_61 rfl (lv_at hl 1 rfl) ?_
        refine g_getr (pc := 62) E Y 0 2 41 S_0 rfl V_7 (by decide) AL_X7 q_314 dX7_text_62 ?_
        refine g_getr (pc := 65) E Y 41 0 42 S_41 rfl V_1 (by decide) AL_X1 q_312 dX7_text_65 ?_
        refine g_callVv (pc := 68) E Y 16 S_16 V_5 o_X5_takes q_629 [.ref (ad 42)] rfl rfl (hR_of (by omega) (by decide)) hl.1 (rest := []) rfl (Nat.le_of_ble_eq_true rfl) dX7_text_68 (fun z hz => m_X5_takes_16_42 hz) hf (fun v9 μ10 H locs hf Y => ?_)
        refine lv_iconst (pc := 71) (v := 1) hx hb dX7_text_71 (by decide) ?_
        exact g_iret (pc := 72) E Y hr hk dX7_text_72 hf
    · refine lv_bipush (pc := 48) (v := (-10)) hx hb dX7_text_48 (by decide) ?_
      refine lv_iload_n (pc := 50) hx hb dX7_text_50 rfl (lv_at hl 0 rfl) ?_
      refine g_isub (pc := 51) E dX7_text_51 hf (fun v11 hf => ?_)
      exact g_iret (pc := 52) E Y hr hk dX7_text_52 hf
  · refine lv_aload_n (pc := 7) hx hb dX7_text_7 rfl (lv_at hl 0 rfl) ?_
    refine lv_iconst (pc := 8) (v := 1) hx hb dX7_text_8 (by decide) ?_
    refine g_callVi (pc := 9) E Y 0 S_0 V_7 o_X7_error q_656 [.int 1] rfl rfl (hR_of (by omega) (by decide)) hl.1 (rest := []) rfl (Nat.le_of_ble_eq_true rfl) dX7_text_9 (fun z hz => m_X7_error_0 hz) hf (fun v12 μ13 H locs hf Y => ?_)
    exact g_iret (pc := 12) E Y hr hk dX7_text_12 hf
def f_X7_untell_0 (a0 : Int32) (σ : Mem) : Res := bd (f_X7_isUse a0 σ) fun v1 μ2 => if v1 = 0 then (bd (f_X7_error_0 1 μ2) fun v9 μ10 => some (v9, μ10)) else (if a0 = 0 then (nm (μ2 13 3) fun (v3 : Int32) => if v3 = 0 then (gb 0 <| nm (mset μ2 13 3 0) fun (μ4 : Mem) => some (0, μ4)) else (gb 0 <| nm (mset μ2 13 3 0) fun (μ5 : Mem) => some (1, μ5))) else (nm (μ2 16 3) fun (v6 : Int32) => if v6 = 0 then (gb 0 <| nm (mset μ2 16 3 0) fun (μ7 : Mem) => some (0, μ7)) else (gb 0 <| nm (mset μ2 16 3 0) fun (μ8 : Mem) => some (1, μ8))))
set_option maxHeartbeats 4000000 in
set_option maxRecDepth 100000 in
theorem m_X7_untell_0 {l : Launch} {σ : Mem} {Z : Int32 × Mem} {a0 : Int32} (hf : f_X7_untell_0 a0 σ = some Z) : CT l yX7_untell cX7_untell 4 (some .int) 2 (fun ad => [.ref (ad 0), .int a0]) σ Z := by
  refine g_openT RX7 (by decide) rfl (fun _ => Nat.le_of_ble_eq_true rfl) (fun p e s m below meth c D cI cB ad st ls E Y hr hk hl => ?_)
  have hx := E.1.1
  have hb := E.1.2.1
  have hl : lv_has ls 4 [(0, .ref (ad 0)), (1, .int a0)] := hl
  unfold f_X7_untell_0 at hf
  refine lv_iload_n (pc := 0) hx hb dX7_untell_0 rfl (lv_at hl 1 rfl) ?_
  refine g_callSi (pc := 1) E Y o_X7_isUse q_626 [.int a0] rfl rfl (hR_of (by omega) (by decide)) hl.1 (rest := []) rfl (Nat.le_of_ble_eq_true rfl) dX7_untell_1 (fun z hz => m_X7_isUse hz) hf (fun v1 μ2 H locs hf Y => ?_)
  refine g_if_ne (pc := 4) (tgt := 13) E dX7_untell_4 (by decide) hf (fun hf => ?_) (fun hf => ?_)
  · refine lv_aload_n (pc := 13) hx hb dX7_untell_13 rfl (lv_at hl 0 rfl) ?_
    refine g_getr (pc := 14) E Y 0 0 1 S_0 rfl V_7 (by decide) AL_X7 q_301 dX7_untell_14 ?_
    refine lv_iload_n (pc := 17) hx hb dX7_untell_17 rfl (lv_at hl 1 rfl) ?_
    refine g_callTextOf (pc := 18) E Y q_628 (hR_of (by omega) (by decide)) hl.1 (rest := []) (Nat.le_of_ble_eq_true rfl) dX7_untell_18 hf (fun hf H locs Y => ?_) (fun hf H locs Y => ?_)
    · refine lv_astore_n (pc := 21) (lv' := [(2, .ref (ad 13)), (0, .ref (ad 0)), (1, .int a0)]) hx hb dX7_untell_21 rfl hl (by decide) rfl (fun ls hl => ?_)
      refine lv_aload_n (pc := 22) hx hb dX7_untell_22 rfl (lv_at hl 0 rfl) ?_
      refine g_geti (pc := 23) E Y 13 3 S_13 rfl V_5 (by decide) AL_X5 q_313 dX7_untell_23 hf (fun v3 hf => ?_)
      refine g_if_eq (pc := 26) (tgt := 33) E dX7_untell_26 (by decide) hf (fun hf => ?_) (fun hf => ?_)
      · refine lv_iconst (pc := 33) (v := 0) hx hb dX7_untell_33 (by decide) ?_
        refine lv_istore_n (pc := 34) (lv' := [(3, .int 0), (2, .ref (ad 13)), (0, .ref (ad 0)), (1, .int a0)]) hx hb dX7_untell_34 rfl hl (by decide) rfl (fun ls hl => ?_)
        refine lv_aload_n (pc := 35) hx hb dX7_untell_35 rfl (lv_at hl 1 rfl) ?_
        refine lv_iconst (pc := 36) (v := 0) hx hb dX7_untell_36 (by decide) ?_
        obtain ⟨h01, hf⟩ := gb_some hf
        refine g_put (pc := 37) E Y 13 3 S_13 rfl V_5 (by decide) AL_X5 tyX5 tyX5_ok nmX5 q_313 rfl (nar01 h01) (fit01 h01) dX7_untell_37 hf (fun μ4 H locs hf Y => ?_)
        refine lv_iload_n (pc := 40) hx hb dX7_untell_40 rfl (lv_at hl 0 rfl) ?_
        exact g_iret (pc := 41) E Y hr hk dX7_untell_41 hf
      · refine lv_iconst (pc := 29) (v := 1) hx hb dX7_untell_29 (by decide) ?_
        refine lv_goto (pc := 30) (tgt := 34) hx hb dX7_untell_30 (by decide) ?_
        refine lv_istore_n (pc := 34) (lv' := [(3, .int 1), (2, .ref (ad 13)), (0, .ref (ad 0)), (1, .int a0)]) hx hb dX7_untell_34 rfl hl (by decide) rfl (fun ls hl => ?_)
        refine lv_aload_n (pc := 35) hx hb dX7_untell_35 rfl (lv_at hl 1 rfl) ?_
        refine lv_iconst (pc := 36) (v := 0) hx hb dX7_untell_36 (by decide) ?_
        obtain ⟨h01, hf⟩ := gb_some hf
        refine g_put (pc := 37) E Y 13 3 S_13 rfl V_5 (by decide) AL_X5 tyX5 tyX5_ok nmX5 q_313 rfl (nar01 h01) (fit01 h01) dX7_untell_37 hf (fun μ5 H locs hf Y => ?_)
        refine lv_iload_n (pc := 40) hx hb dX7_untell_40 rfl (lv_at hl 0 rfl) ?_
        exact g_iret (pc := 41) E Y hr hk dX7_untell_41 hf
    · refine lv_astore_n (pc := 21) (lv' := [(2, .ref (ad 16)), (0, .ref (ad 0)), (1, .int a0)]) hx hb dX7_untell_21 rfl hl (by decide) rfl (fun ls hl => ?_)
      refine lv_aload_n (pc := 22) hx hb dX7_untell_22 rfl (lv_at hl 0 rfl) ?_
      refine g_geti (pc := 23) E Y 16 3 S_16 rfl V_5 (by decide) AL_X5 q_313 dX7_untell_23 hf (fun v6 hf => ?_)
      refine g_if_eq (pc := 26) (tgt := 33) E dX7_untell_26 (by decide) hf (fun hf => ?_) (fun hf => ?_)
      · refine lv_iconst (pc := 33) (v := 0) hx hb dX7_untell_33 (by decide) ?_
        refine lv_istore_n (pc := 34) (lv' := [(3, .int 0), (2, .ref (ad 16)), (0, .ref (ad 0)), (1, .int a0)]) hx hb dX7_untell_34 rfl hl (by decide) rfl (fun ls hl => ?_)
        refine lv_aload_n (pc := 35) hx hb dX7_untell_35 rfl (lv_at hl 1 rfl) ?_
        refine lv_iconst (pc := 36) (v := 0) hx hb dX7_untell_36 (by decide) ?_
        obtain ⟨h01, hf⟩ := gb_some hf
        refine g_put (pc := 37) E Y 16 3 S_16 rfl V_5 (by decide) AL_X5 tyX5 tyX5_ok nmX5 q_313 rfl (nar01 h01) (fit01 h01) dX7_untell_37 hf (fun μ7 H locs hf Y => ?_)
        refine lv_iload_n (pc := 40) hx hb dX7_untell_40 rfl (lv_at hl 0 rfl) ?_
        exact g_iret (pc := 41) E Y hr hk dX7_untell_41 hf
      · refine lv_iconst (pc := 29) (v := 1) hx hb dX7_untell_29 (by decide) ?_
        refine lv_goto (pc := 30) (tgt := 34) hx hb dX7_untell_30 (by decide) ?_
        refine lv_istore_n (pc := 34) (lv' := [(3, .int 1), (2, .ref (ad 16)), (0, .ref (ad 0)), (1, .int a0)]) hx hb dX7_untell_34 rfl hl (by decide) rfl (fun ls hl => ?_)
        refine lv_aload_n (pc := 35) hx hb dX7_untell_35 rfl (lv_at hl 1 rfl) ?_
        refine lv_iconst (pc := 36) (v := 0) hx hb dX7_untell_36 (by decide) ?_
        obtain ⟨h01, hf⟩ := gb_some hf
        refine g_put (pc := 37) E Y 16 3 S_16 rfl V_5 (by decide) AL_X5 tyX5 tyX5_ok nmX5 q_313 rfl (nar01 h01) (fit01 h01) dX7_untell_37 hf (fun μ8 H locs hf Y => ?_)
        refine lv_iload_n (pc := 40) hx hb dX7_untell_40 rfl (lv_at hl 0 rfl) ?_
        exact g_iret (pc := 41) E Y hr hk dX7_untell_41 hf
  · refine lv_aload_n (pc := 7) hx hb dX7_untell_7 rfl (lv_at hl 0 rfl) ?_
    refine lv_iconst (pc := 8) (v := 1) hx hb dX7_untell_8 (by decide) ?_
    refine g_callVi (pc := 9) E Y 0 S_0 V_7 o_X7_error q_656 [.int 1] rfl rfl (hR_of (by omega) (by decide)) hl.1 (rest := []) rfl (Nat.le_of_ble_eq_true rfl) dX7_untell_9 (fun z hz => m_X7_error_0 hz) hf (fun v9 μ10 H locs hf Y => ?_)
    exact g_iret (pc := 12) E Y hr hk dX7_untell_12 hf
def f_X7_law_0 (a0 : Int32) (a1 : Int32) (a2 : Int32) (a3 : Int32) (σ : Mem) : Res := bd (f_X7_isUse a0 σ) fun v1 μ2 => if v1 = 0 then (bd (f_X7_error_0 1 μ2) fun v5 μ6 => some (v5, μ6)) else (bd (f_X3_gives_1 a0 a1 a2 a3 μ2) fun v3 μ4 => some (v3, μ4))
set_option maxHeartbeats 4000000 in
set_option maxRecDepth 100000 in
theorem m_X7_law_0 {l : Launch} {σ : Mem} {Z : Int32 × Mem} {a0 : Int32} {a1 : Int32} {a2 : Int32} {a3 : Int32} (hf : f_X7_law_0 a0 a1 a2 a3 σ = some Z) : CT l yX7_law cX7_law 5 (some .int) 3 (fun ad => [.ref (ad 0), .int a0, .int a1, .int a2, .int a3]) σ Z := by
  refine g_openT RX7 (by decide) rfl (fun _ => Nat.le_of_ble_eq_true rfl) (fun p e s m below meth c D cI cB ad st ls E Y hr hk hl => ?_)
  have hx := E.1.1
  have hb := E.1.2.1
  have hl : lv_has ls 5 [(0, .ref (ad 0)), (1, .int a0), (2, .int a1), (3, .int a2), (4, .int a3)] := hl
  unfold f_X7_law_0 at hf
  refine lv_iload_n (pc := 0) hx hb dX7_law_0 rfl (lv_at hl 1 rfl) ?_
  refine g_callSi (pc := 1) E Y o_X7_isUse q_626 [.int a0] rfl rfl (hR_of (by omega) (by decide)) hl.1 (rest := []) rfl (Nat.le_of_ble_eq_true rfl) dX7_law_1 (fun z hz => m_X7_isUse hz) hf (fun v1 μ2 H locs hf Y => ?_)
  refine g_if_ne (pc := 4) (tgt := 13) E dX7_law_4 (by decide) hf (fun hf => ?_) (fun hf => ?_)
  · refine lv_aload_n (pc := 13) hx hb dX7_law_13 rfl (lv_at hl 0 rfl) ?_
    refine g_getr (pc := 14) E Y 0 0 1 S_0 rfl V_7 (by decide) AL_X7 q_301 dX7_law_14 ?_
    refine lv_iload_n (pc := 17) hx hb dX7_law_17 rfl (lv_at hl 1 rfl) ?_
    refine lv_iload_n (pc := 18) hx hb dX7_law_18 rfl (lv_at hl 2 rfl) ?_
    refine lv_iload_n (pc := 19) hx hb dX7_law_19 rfl (lv_at hl 3 rfl) ?_
    refine lv_iload (pc := 20) hx hb dX7_law_20 (lv_at hl 4 rfl) ?_
    refine g_callVi (pc := 22) E Y 1 S_1 V_3 o_X3_gives q_630 [.int a0, .int a1, .int a2, .int a3] rfl rfl (hR_of (by omega) (by decide)) hl.1 (rest := []) rfl (Nat.le_of_ble_eq_true rfl) dX7_law_22 (fun z hz => m_X3_gives_1 hz) hf (fun v3 μ4 H locs hf Y => ?_)
    exact g_iret (pc := 25) E Y hr hk dX7_law_25 hf
  · refine lv_aload_n (pc := 7) hx hb dX7_law_7 rfl (lv_at hl 0 rfl) ?_
    refine lv_iconst (pc := 8) (v := 1) hx hb dX7_law_8 (by decide) ?_
    refine g_callVi (pc := 9) E Y 0 S_0 V_7 o_X7_error q_656 [.int 1] rfl rfl (hR_of (by omega) (by decide)) hl.1 (rest := []) rfl (Nat.le_of_ble_eq_true rfl) dX7_law_9 (fun z hz => m_X7_error_0 hz) hf (fun v5 μ6 H locs hf Y => ?_)
    exact g_iret (pc := 12) E Y hr hk dX7_law_12 hf
def f_X7_margin_0 (a0 : Int32) (a1 : Int32) (a2 : Int32) (σ : Mem) : Res := bd (f_X7_isRunner_0 a0 σ) fun v1 μ2 => if v1 = 0 then (bd (f_X7_error_0 1 μ2) fun v3 μ4 => some (v3, μ4)) else (bd (f_X7_isPitch_0 a1 μ2) fun v5 μ6 => if v5 = 0 then (bd (f_X7_error_0 1 μ6) fun v7 μ8 => some (v7, μ8)) else (bd (f_X7_isFeet a2 μ6) fun v9 μ10 => if v9 = 0 then (bd (f_X7_error_0 1 μ10) fun v13 μ14 => some (v13, μ14)) else (bd (f_X3_marginFrom_1 a0 a1 a2 μ10) fun v11 μ12 => some (v11, μ12))))
set_option maxHeartbeats 4000000 in
set_option maxRecDepth 100000 in
theorem m_X7_margin_0 {l : Launch} {σ : Mem} {Z : Int32 × Mem} {a0 : Int32} {a1 : Int32} {a2 : Int32} (hf : f_X7_margin_0 a0 a1 a2 σ = some Z) : CT l yX7_margin cX7_margin 4 (some .int) 5 (fun ad => [.ref (ad 0), .int a0, .int a1, .int a2]) σ Z := by
  refine g_openT RX7 (by decide) rfl (fun _ => Nat.le_of_ble_eq_true rfl) (fun p e s m below meth c D cI cB ad st ls E Y hr hk hl => ?_)
  have hx := E.1.1
  have hb := E.1.2.1
  have hl : lv_has ls 4 [(0, .ref (ad 0)), (1, .int a0), (2, .int a1), (3, .int a2)] := hl
  unfold f_X7_margin_0 at hf
  refine lv_aload_n (pc := 0) hx hb dX7_margin_0 rfl (lv_at hl 0 rfl) ?_
  refine lv_iload_n (pc := 1) hx hb dX7_margin_1 rfl (lv_at hl 1 rfl) ?_
  refine g_callVi (pc := 2) E Y 0 S_0 V_7 o_X7_isRunner q_618 [.int a0] rfl rfl (hR_of (by omega) (by decide)) hl.1 (rest := []) rfl (Nat.le_of_ble_eq_true rfl) dX7_margin_2 (fun z hz => m_X7_isRunner_0 hz) hf (fun v1 μ2 H locs hf Y => ?_)
  refine g_if_eq (pc := 5) (tgt := 23) E dX7_margin_5 (by decide) hf (fun hf => ?_) (fun hf => ?_)
  · refine lv_aload_n (pc := 23) hx hb dX7_margin_23 rfl (lv_at hl 0 rfl) ?_
    refine lv_iconst (pc := 24) (v := 1) hx hb dX7_margin_24 (by decide) ?_
    refine g_callVi (pc := 25) E Y 0 S_0 V_7 o_X7_error q_656 [.int 1] rfl rfl (hR_of (by omega) (by decide)) hl.1 (rest := []) rfl (Nat.le_of_ble_eq_true rfl) dX7_margin_25 (fun z hz => m_X7_error_0 hz) hf (fun v3 μ4 H locs hf Y => ?_)
    exact g_iret (pc := 28) E Y hr hk dX7_margin_28 hf
  · refine lv_aload_n (pc := 8) hx hb dX7_margin_8 rfl (lv_at hl 0 rfl) ?_
    refine lv_iload_n (pc := 9) hx hb dX7_margin_9 rfl (lv_at hl 2 rfl) ?_
    refine g_callVi (pc := 10) E Y 0 S_0 V_7 o_X7_isPitch q_658 [.int a1] rfl rfl (hR_of (by omega) (by decide)) hl.1 (rest := []) rfl (Nat.le_of_ble_eq_true rfl) dX7_margin_10 (fun z hz => m_X7_isPitch_0 hz) hf (fun v5 μ6 H locs hf Y => ?_)
    refine g_if_eq (pc := 13) (tgt := 23) E dX7_margin_13 (by decide) hf (fun hf => ?_) (fun hf => ?_)
    · refine lv_aload_n (pc := 23) hx hb dX7_margin_23 rfl (lv_at hl 0 rfl) ?_
      refine lv_iconst (pc := 24) (v := 1) hx hb dX7_margin_24 (by decide) ?_
      refine g_callVi (pc := 25) E Y 0 S_0 V_7 o_X7_error q_656 [.int 1] rfl rfl (hR_of (by omega) (by decide)) hl.1 (rest := []) rfl (Nat.le_of_ble_eq_true rfl) dX7_margin_25 (fun z hz => m_X7_error_0 hz) hf (fun v7 μ8 H locs hf Y => ?_)
      exact g_iret (pc := 28) E Y hr hk dX7_margin_28 hf
    · refine lv_iload_n (pc := 16) hx hb dX7_margin_16 rfl (lv_at hl 3 rfl) ?_
      refine g_callSi (pc := 17) E Y o_X7_isFeet q_621 [.int a2] rfl rfl (hR_of (by omega) (by decide)) hl.1 (rest := []) rfl (Nat.le_of_ble_eq_true rfl) dX7_margin_17 (fun z hz => m_X7_isFeet hz) hf (fun v9 μ10 H locs hf Y => ?_)
      refine g_if_ne (pc := 20) (tgt := 29) E dX7_margin_20 (by decide) hf (fun hf => ?_) (fun hf => ?_)
      · refine lv_aload_n (pc := 29) hx hb dX7_margin_29 rfl (lv_at hl 0 rfl) ?_
        refine g_getr (pc := 30) E Y 0 0 1 S_0 rfl V_7 (by decide) AL_X7 q_301 dX7_margin_30 ?_
        refine lv_iload_n (pc := 33) hx hb dX7_margin_33 rfl (lv_at hl 1 rfl) ?_
        refine lv_iload_n (pc := 34) hx hb dX7_margin_34 rfl (lv_at hl 2 rfl) ?_
        refine lv_iload_n (pc := 35) hx hb dX7_margin_35 rfl (lv_at hl 3 rfl) ?_
        refine g_callVi (pc := 36) E Y 1 S_1 V_3 o_X3_marginFrom q_631 [.int a0, .int a1, .int a2] rfl rfl (hR_of (by omega) (by decide)) hl.1 (rest := []) rfl (Nat.le_of_ble_eq_true rfl) dX7_margin_36 (fun z hz => m_X3_marginFrom_1 hz) hf (fun v11 μ12 H locs hf Y => ?_)
        exact g_iret (pc := 39) E Y hr hk dX7_margin_39 hf
      · refine lv_aload_n (pc := 23) hx hb dX7_margin_23 rfl (lv_at hl 0 rfl) ?_
        refine lv_iconst (pc := 24) (v := 1) hx hb dX7_margin_24 (by decide) ?_
        refine g_callVi (pc := 25) E Y 0 S_0 V_7 o_X7_error q_656 [.int 1] rfl rfl (hR_of (by omega) (by decide)) hl.1 (rest := []) rfl (Nat.le_of_ble_eq_true rfl) dX7_margin_25 (fun z hz => m_X7_error_0 hz) hf (fun v13 μ14 H locs hf Y => ?_)
        exact g_iret (pc := 28) E Y hr hk dX7_margin_28 hf
def fb_X7_leadFor_0_L24 (bk : Int32 → Int32 → Int32 → Mem → Res) (x1 : Int32) (x2 : Int32) (x3 : Int32) (σ : Mem) : Res := if 20 < x3 then (bd (f_X7_error_0 2 σ) fun v7 μ8 => some (v7, μ8)) else (bd (f_X3_marginFrom_1 x1 x2 x3 σ) fun v9 μ10 => if v9 < 0 then (nm (x3 + 1) fun (v11 : Int32) => bk x1 x2 v11 μ10) else (some (x3, μ10)))
def f_X7_leadFor_0_L24 : Nat → Int32 → Int32 → Int32 → Mem → Res
  | 0, _, _, _, _ => none
  | n + 1, x1, x2, x3, σ => fb_X7_leadFor_0_L24 (f_X7_leadFor_0_L24 n) x1 x2 x3 σ
def f_X7_leadFor_0 (a0 : Int32) (a1 : Int32) (σ : Mem) : Res := bd (f_X7_isRunner_0 a0 σ) fun v1 μ2 => if v1 = 0 then (bd (f_X7_error_0 1 μ2) fun v3 μ4 => some (v3, μ4)) else (bd (f_X7_isPitch_0 a1 μ2) fun v5 μ6 => if v5 = 0 then (bd (f_X7_error_0 1 μ6) fun v12 μ13 => some (v12, μ13)) else (f_X7_leadFor_0_L24 1000 a0 a1 0 μ6))
set_option maxHeartbeats 4000000 in
set_option maxRecDepth 100000 in
theorem m_X7_leadFor_0 {l : Launch} {σ : Mem} {Z : Int32 × Mem} {a0 : Int32} {a1 : Int32} (hf : f_X7_leadFor_0 a0 a1 σ = some Z) : CT l yX7_leadFor cX7_leadFor 4 (some .int) 5 (fun ad => [.ref (ad 0), .int a0, .int a1]) σ Z := by
  refine g_openT RX7 (by decide) rfl (fun _ => Nat.le_of_ble_eq_true rfl) (fun p e s m below meth c D cI cB ad st ls E Y hr hk hl => ?_)
  have hx := E.1.1
  have hb := E.1.2.1
  have hl : lv_has ls 4 [(0, .ref (ad 0)), (1, .int a0), (2, .int a1)] := hl
  have hL_24 : ∀ (n : Nat) (x1 : Int32) (x2 : Int32) (x3 : Int32) (σ : Mem) (H : Heap) (locs : List Loc) (ls : Array Slot), f_X7_leadFor_0_L24 n x1 x2 x3 σ = some Z → Wo D cI cB ad (AA ad) σ s H locs → lv_has ls 4 [(0, .ref (ad 0)), (1, .int x1), (2, .int x2), (3, .int x3)] → W p l e (rmd 5) s m ([.ref (ad 0), .int a0, .int a1] : List Value).toArray below meth c H locs 0 0 (QT_ below D cI cB ad st Z ([.ref (ad 0), .int a0, .int a1] : List Value).toArray s) (F0 m 24 ls []) := by
    intro n
    induction n with
    | zero =>
      intro x1 x2 x3 σ H locs ls hf
      cases (show (none : Res) = some Z from hf)
    | succ n ih =>
      intro x1 x2 x3 σ H locs ls hf Y hl
      have hf : fb_X7_leadFor_0_L24 (f_X7_leadFor_0_L24 n) x1 x2 x3 σ = some Z := hf
      unfold fb_X7_leadFor_0_L24 at hf
      refine lv_iload_n (pc := 24) hx hb dX7_leadFor_24 rfl (lv_at hl 3 rfl) ?_
      refine lv_bipush (pc := 25) (v := 20) hx hb dX7_leadFor_25 (by decide) ?_
      refine g_icmp_gt (pc := 27) (tgt := 51) E dX7_leadFor_27 (by decide) hf (fun hf => ?_) (fun hf => ?_)
      · refine lv_aload_n (pc := 51) hx hb dX7_leadFor_51 rfl (lv_at hl 0 rfl) ?_
        refine lv_iconst (pc := 52) (v := 2) hx hb dX7_leadFor_52 (by decide) ?_
        refine g_callVi (pc := 53) E Y 0 S_0 V_7 o_X7_error q_656 [.int 2] rfl rfl (hR_of (by omega) (by decide)) hl.1 (rest := []) rfl (Nat.le_of_ble_eq_true rfl) dX7_leadFor_53 (fun z hz => m_X7_error_0 hz) hf (fun v7 μ8 H locs hf Y => ?_)
        exact g_iret (pc := 56) E Y hr hk dX7_leadFor_56 hf
      · refine lv_aload_n (pc := 30) hx hb dX7_leadFor_30 rfl (lv_at hl 0 rfl) ?_
        refine g_getr (pc := 31) E Y 0 0 1 S_0 rfl V_7 (by decide) AL_X7 q_301 dX7_leadFor_31 ?_
        refine lv_iload_n (pc := 34) hx hb dX7_leadFor_34 rfl (lv_at hl 1 rfl) ?_
        refine lv_iload_n (pc := 35) hx hb dX7_leadFor_35 rfl (lv_at hl 2 rfl) ?_
        refine lv_iload_n (pc := 36) hx hb dX7_leadFor_36 rfl (lv_at hl 3 rfl) ?_
        refine g_callVi (pc := 37) E Y 1 S_1 V_3 o_X3_marginFrom q_631 [.int x1, .int x2, .int x3] rfl rfl (hR_of (by omega) (by decide)) hl.1 (rest := []) rfl (Nat.le_of_ble_eq_true rfl) dX7_leadFor_37 (fun z hz => m_X3_marginFrom_1 hz) hf (fun v9 μ10 H locs hf Y => ?_)
        refine g_if_lt (pc := 40) (tgt := 45) E dX7_leadFor_40 (by decide) hf (fun hf => ?_) (fun hf => ?_)
        · refine g_iinc (pc := 45) E (fun v11 => [(3, .int v11), (0, .ref (ad 0)), (1, .int x1), (2, .int x2)]) dX7_leadFor_45 hl (k := 3) rfl (t := 1) (by decide) (by decide) (fun _ => rfl) hf (fun v11 hf ls hl => ?_)
          refine lv_goto (pc := 48) (tgt := 24) hx hb dX7_leadFor_48 (by decide) ?_
          exact ih _ _ _ _ _ _ _ hf Y (lv_sub hl [1, 2, 3, 0] rfl)
        · refine lv_iload_n (pc := 43) hx hb dX7_leadFor_43 rfl (lv_at hl 3 rfl) ?_
          exact g_iret (pc := 44) E Y hr hk dX7_leadFor_44 hf
  unfold f_X7_leadFor_0 at hf
  refine lv_aload_n (pc := 0) hx hb dX7_leadFor_0 rfl (lv_at hl 0 rfl) ?_
  refine lv_iload_n (pc := 1) hx hb dX7_leadFor_1 rfl (lv_at hl 1 rfl) ?_
  refine g_callVi (pc := 2) E Y 0 S_0 V_7 o_X7_isRunner q_618 [.int a0] rfl rfl (hR_of (by omega) (by decide)) hl.1 (rest := []) rfl (Nat.le_of_ble_eq_true rfl) dX7_leadFor_2 (fun z hz => m_X7_isRunner_0 hz) hf (fun v1 μ2 H locs hf Y => ?_)
  refine g_if_eq (pc := 5) (tgt := 16) E dX7_leadFor_5 (by decide) hf (fun hf => ?_) (fun hf => ?_)
  · refine lv_aload_n (pc := 16) hx hb dX7_leadFor_16 rfl (lv_at hl 0 rfl) ?_
    refine lv_iconst (pc := 17) (v := 1) hx hb dX7_leadFor_17 (by decide) ?_
    refine g_callVi (pc := 18) E Y 0 S_0 V_7 o_X7_error q_656 [.int 1] rfl rfl (hR_of (by omega) (by decide)) hl.1 (rest := []) rfl (Nat.le_of_ble_eq_true rfl) dX7_leadFor_18 (fun z hz => m_X7_error_0 hz) hf (fun v3 μ4 H locs hf Y => ?_)
    exact g_iret (pc := 21) E Y hr hk dX7_leadFor_21 hf
  · refine lv_aload_n (pc := 8) hx hb dX7_leadFor_8 rfl (lv_at hl 0 rfl) ?_
    refine lv_iload_n (pc := 9) hx hb dX7_leadFor_9 rfl (lv_at hl 2 rfl) ?_
    refine g_callVi (pc := 10) E Y 0 S_0 V_7 o_X7_isPitch q_658 [.int a1] rfl rfl (hR_of (by omega) (by decide)) hl.1 (rest := []) rfl (Nat.le_of_ble_eq_true rfl) dX7_leadFor_10 (fun z hz => m_X7_isPitch_0 hz) hf (fun v5 μ6 H locs hf Y => ?_)
    refine g_if_ne (pc := 13) (tgt := 22) E dX7_leadFor_13 (by decide) hf (fun hf => ?_) (fun hf => ?_)
    · refine lv_iconst (pc := 22) (v := 0) hx hb dX7_leadFor_22 (by decide) ?_
      refine lv_istore_n (pc := 23) (lv' := [(3, .int 0), (0, .ref (ad 0)), (1, .int a0), (2, .int a1)]) hx hb dX7_leadFor_23 rfl hl (by decide) rfl (fun ls hl => ?_)
      exact hL_24 1000 _ _ _ _ _ _ _ hf Y (lv_sub hl [1, 2, 3, 0] rfl)
    · refine lv_aload_n (pc := 16) hx hb dX7_leadFor_16 rfl (lv_at hl 0 rfl) ?_
      refine lv_iconst (pc := 17) (v := 1) hx hb dX7_leadFor_17 (by decide) ?_
      refine g_callVi (pc := 18) E Y 0 S_0 V_7 o_X7_error q_656 [.int 1] rfl rfl (hR_of (by omega) (by decide)) hl.1 (rest := []) rfl (Nat.le_of_ble_eq_true rfl) dX7_leadFor_18 (fun z hz => m_X7_error_0 hz) hf (fun v12 μ13 H locs hf Y => ?_)
      exact g_iret (pc := 21) E Y hr hk dX7_leadFor_21 hf
def f_X3_gainFrom_1 (a0 : Int32) (a1 : Int32) (a2 : Int32) (σ : Mem) : Res := bd (f_X3_marginFrom_1 a0 a1 a2 σ) fun v1 μ2 => bd (f_X3_gainOf_1 v1 μ2) fun v3 μ4 => some (v3, μ4)
set_option maxHeartbeats 4000000 in
set_option maxRecDepth 100000 in
theorem m_X3_gainFrom_1 {l : Launch} {σ : Mem} {Z : Int32 × Mem} {a0 : Int32} {a1 : Int32} {a2 : Int32} (hf : f_X3_gainFrom_1 a0 a1 a2 σ = some Z) : CT l yX3_gainFrom cX3_gainFrom 4 (some .int) 5 (fun ad => [.ref (ad 1), .int a0, .int a1, .int a2]) σ Z := by
  refine g_openT RX3 (by decide) rfl (fun _ => Nat.le_of_ble_eq_true rfl) (fun p e s m below meth c D cI cB ad st ls E Y hr hk hl => ?_)
  have hx := E.1.1
  have hb := E.1.2.1
  have hl : lv_has ls 4 [(0, .ref (ad 1)), (1, .int a0), (2, .int a1), (3, .int a2)] := hl
  unfold f_X3_gainFrom_1 at hf
  refine lv_aload_n (pc := 0) hx hb dX3_gainFrom_0 rfl (lv_at hl 0 rfl) ?_
  refine lv_aload_n (pc := 1) hx hb dX3_gainFrom_1 rfl (lv_at hl 0 rfl) ?_
  refine lv_iload_n (pc := 2) hx hb dX3_gainFrom_2 rfl (lv_at hl 1 rfl) ?_
  refine lv_iload_n (pc := 3) hx hb dX3_gainFrom_3 rfl (lv_at hl 2 rfl) ?_
  refine lv_iload_n (pc := 4) hx hb dX3_gainFrom_4 rfl (lv_at hl 3 rfl) ?_
  refine g_callVi (pc := 5) E Y 1 S_1 V_3 o_X3_marginFrom q_585 [.int a0, .int a1, .int a2] rfl rfl (hR_of (by omega) (by decide)) hl.1 (rest := [.ref (ad 1)]) rfl (Nat.le_of_ble_eq_true rfl) dX3_gainFrom_5 (fun z hz => m_X3_marginFrom_1 hz) hf (fun v1 μ2 H locs hf Y => ?_)
  refine g_callVi (pc := 8) E Y 1 S_1 V_3 o_X3_gainOf q_586 [.int v1] rfl rfl (hR_of (by omega) (by decide)) hl.1 (rest := []) rfl (Nat.le_of_ble_eq_true rfl) dX3_gainFrom_8 (fun z hz => m_X3_gainOf_1 hz) hf (fun v3 μ4 H locs hf Y => ?_)
  exact g_iret (pc := 11) E Y hr hk dX3_gainFrom_11 hf
def fb_X3_weighedGains_1_L5 (bk : Int32 → Int32 → Int32 → Int32 → Mem → Res) (x1 : Int32) (x2 : Int32) (x3 : Int32) (x4 : Int32) (σ : Mem) : Res := nm (σ 2 4) fun (v1 : Int32) => if v1 ≤ x4 then (some (x3, σ)) else (gi x4 6 <| nm (σ 5 x4.toNatClampNeg) fun (v2 : Int32) => bd (f_X3_gainFrom_1 x1 x4 x2 σ) fun v3 μ4 => nm (v2 * v3) fun (v5 : Int32) => nm (x3 + v5) fun (v6 : Int32) => nm (x4 + 1) fun (v7 : Int32) => bk x1 x2 v6 v7 μ4)
def f_X3_weighedGains_1_L5 : Nat → Int32 → Int32 → Int32 → Int32 → Mem → Res
  | 0, _, _, _, _, _ => none
  | n + 1, x1, x2, x3, x4, σ => fb_X3_weighedGains_1_L5 (f_X3_weighedGains_1_L5 n) x1 x2 x3 x4 σ
def f_X3_weighedGains_1 (a0 : Int32) (a1 : Int32) (σ : Mem) : Res := f_X3_weighedGains_1_L5 1000 a0 a1 0 0 σ
set_option maxHeartbeats 4000000 in
set_option maxRecDepth 100000 in
theorem m_X3_weighedGains_1 {l : Launch} {σ : Mem} {Z : Int32 × Mem} {a0 : Int32} {a1 : Int32} (hf : f_X3_weighedGains_1 a0 a1 σ = some Z) : CT l yX3_weighedGains cX3_weighedGains 5 (some .int) 6 (fun ad => [.ref (ad 1), .int a0, .int a1]) σ Z := by
  refine g_openT RX3 (by decide) rfl (fun _ => Nat.le_of_ble_eq_true rfl) (fun p e s m below meth c D cI cB ad st ls E Y hr hk hl => ?_)
  have hx := E.1.1
  have hb := E.1.2.1
  have hl : lv_has ls 5 [(0, .ref (ad 1)), (1, .int a0), (2, .int a1)] := hl
  have hL_5 : ∀ (n : Nat) (x1 : Int32) (x2 : Int32) (x3 : Int32) (x4 : Int32) (σ : Mem) (H : Heap) (locs : List Loc) (ls : Array Slot), f_X3_weighedGains_1_L5 n x1 x2 x3 x4 σ = some Z → Wo D cI cB ad (AA ad) σ s H locs → lv_has ls 5 [(0, .ref (ad 1)), (1, .int x1), (2, .int x2), (3, .int x3), (4, .int x4)] → W p l e (rmd 6) s m ([.ref (ad 1), .int a0, .int a1] : List Value).toArray below meth c H locs 0 0 (QT_ below D cI cB ad st Z ([.ref (ad 1), .int a0, .int a1] : List Value).toArray s) (F0 m 5 ls []) := by
    intro n
    induction n with
    | zero =>
      intro x1 x2 x3 x4 σ H locs ls hf
      cases (show (none : Res) = some Z from hf)
    | succ n ih =>
      intro x1 x2 x3 x4 σ H locs ls hf Y hl
      have hf : fb_X3_weighedGains_1_L5 (f_X3_weighedGains_1_L5 n) x1 x2 x3 x4 σ = some Z := hf
      unfold fb_X3_weighedGains_1_L5 at hf
      refine lv_iload (pc := 5) hx hb dX3_weighedGains_5 (lv_at hl 4 rfl) ?_
      refine lv_aload_n (pc := 7) hx hb dX3_weighedGains_7 rfl (lv_at hl 0 rfl) ?_
      refine g_getr (pc := 8) E Y 1 0 2 S_1 rfl V_3 (by decide) AL_X3 q_265 dX3_weighedGains_8 ?_
      refine g_geti (pc := 11) E Y 2 4 S_2 rfl V_0 (by decide) AL_X0 q_266 dX3_weighedGains_11 hf (fun v1 hf => ?_)
      refine g_icmp_ge (pc := 14) (tgt := 45) E dX3_weighedGains_14 (by decide) hf (fun hf => ?_) (fun hf => ?_)
      · refine lv_iload_n (pc := 45) hx hb dX3_weighedGains_45 rfl (lv_at hl 3 rfl) ?_
        exact g_iret (pc := 46) E Y hr hk dX3_weighedGains_46 hf
      · refine lv_iload_n (pc := 17) hx hb dX3_weighedGains_17 rfl (lv_at hl 3 rfl) ?_
        refine lv_aload_n (pc := 18) hx hb dX3_weighedGains_18 rfl (lv_at hl 0 rfl) ?_
        refine g_getr (pc := 19) E Y 1 0 2 S_1 rfl V_3 (by decide) AL_X3 q_265 dX3_weighedGains_19 ?_
        refine g_getr (pc := 22) E Y 2 2 5 S_2 rfl V_0 (by decide) AL_X0 q_267 dX3_weighedGains_22 ?_
        refine lv_iload (pc := 25) hx hb dX3_weighedGains_25 (lv_at hl 4 rfl) ?_
        refine g_iald (pc := 27) E Y 5 S_5 dX3_weighedGains_27 hf (fun v2 hf => ?_)
        refine lv_aload_n (pc := 28) hx hb dX3_weighedGains_28 rfl (lv_at hl 0 rfl) ?_
        refine lv_iload_n (pc := 29) hx hb dX3_weighedGains_29 rfl (lv_at hl 1 rfl) ?_
        refine lv_iload (pc := 30) hx hb dX3_weighedGains_30 (lv_at hl 4 rfl) ?_
        refine lv_iload_n (pc := 32) hx hb dX3_weighedGains_32 rfl (lv_at hl 2 rfl) ?_
        refine g_callVi (pc := 33) E Y 1 S_1 V_3 o_X3_gainFrom q_587 [.int x1, .int x4, .int x2] rfl rfl (hR_of (by omega) (by decide)) hl.1 (rest := [.int v2, .int x3]) rfl (Nat.le_of_ble_eq_true rfl) dX3_weighedGains_33 (fun z hz => m_X3_gainFrom_1 hz) hf (fun v3 μ4 H locs hf Y => ?_)
        refine g_imul (pc := 36) E dX3_weighedGains_36 hf (fun v5 hf => ?_)
        refine g_iadd (pc := 37) E dX3_weighedGains_37 hf (fun v6 hf => ?_)
        refine lv_istore_n (pc := 38) (lv' := [(3, .int v6), (0, .ref (ad 1)), (1, .int x1), (2, .int x2), (4, .int x4)]) hx hb dX3_weighedGains_38 rfl hl (by decide) rfl (fun ls hl => ?_)
        refine g_iinc (pc := 39) E (fun v7 => [(4, .int v7), (3, .int v6), (0, .ref (ad 1)), (1, .int x1), (2, .int x2)]) dX3_weighedGains_39 hl (k := 4) rfl (t := 1) (by decide) (by decide) (fun _ => rfl) hf (fun v7 hf ls hl => ?_)
        refine lv_goto (pc := 42) (tgt := 5) hx hb dX3_weighedGains_42 (by decide) ?_
        exact ih _ _ _ _ _ _ _ _ hf Y (lv_sub hl [2, 3, 4, 1, 0] rfl)
  unfold f_X3_weighedGains_1 at hf
  refine lv_iconst (pc := 0) (v := 0) hx hb dX3_weighedGains_0 (by decide) ?_
  refine lv_istore_n (pc := 1) (lv' := [(3, .int 0), (0, .ref (ad 1)), (1, .int a0), (2, .int a1)]) hx hb dX3_weighedGains_1 rfl hl (by decide) rfl (fun ls hl => ?_)
  refine lv_iconst (pc := 2) (v := 0) hx hb dX3_weighedGains_2 (by decide) ?_
  refine lv_istore (pc := 3) (lv' := [(4, .int 0), (3, .int 0), (0, .ref (ad 1)), (1, .int a0), (2, .int a1)]) hx hb dX3_weighedGains_3 hl (by decide) rfl (fun ls hl => ?_)
  exact hL_5 1000 _ _ _ _ _ _ _ _ hf Y (lv_sub hl [2, 3, 4, 1, 0] rfl)
def fb_X7_bestLead_0_L31 (bk : Int32 → Int32 → Int32 → Int32 → Int32 → Mem → Res) (x1 : Int32) (x2 : Int32) (x3 : Int32) (x4 : Int32) (x5 : Int32) (σ : Mem) : Res := if 20 < x5 then (if 0 ≤ x3 then (if x2 = 0 then (some (x3, σ)) else (some (x4, σ))) else (bd (f_X7_error_0 2 σ) fun v7 μ8 => some (v7, μ8))) else (bd (f_X3_isPicked_1 x1 x5 σ) fun v9 μ10 => if v9 = 0 then (bd (f_X3_weighedGains_1 x1 x5 μ10) fun v12 μ13 => if x3 < 0 then (nm (x5 + 1) fun (v14 : Int32) => bk x1 x2 x5 v12 v14 μ13) else (if v12 ≤ x4 then (nm (x5 + 1) fun (v15 : Int32) => bk x1 x2 x3 x4 v15 μ13) else (nm (x5 + 1) fun (v16 : Int32) => bk x1 x2 x5 v12 v16 μ13))) else (nm (x5 + 1) fun (v11 : Int32) => bk x1 x2 x3 x4 v11 μ10))
def f_X7_bestLead_0_L31 : Nat → Int32 → Int32 → Int32 → Int32 → Int32 → Mem → Res
  | 0, _, _, _, _, _, _ => none
  | n + 1, x1, x2, x3, x4, x5, σ => fb_X7_bestLead_0_L31 (f_X7_bestLead_0_L31 n) x1 x2 x3 x4 x5 σ
def f_X7_bestLead_0 (a0 : Int32) (a1 : Int32) (σ : Mem) : Res := bd (f_X7_isRunner_0 a0 σ) fun v1 μ2 => if v1 = 0 then (bd (f_X7_error_0 1 μ2) fun v3 μ4 => some (v3, μ4)) else (bd (f_X7_within a1 0 1 μ2) fun v5 μ6 => if v5 = 0 then (bd (f_X7_error_0 1 μ6) fun v17 μ18 => some (v17, μ18)) else (f_X7_bestLead_0_L31 1000 a0 a1 (-1) 0 0 μ6))
set_option maxHeartbeats 4000000 in
set_option maxRecDepth 100000 in
theorem m_X7_bestLead_0 {l : Launch} {σ : Mem} {Z : Int32 × Mem} {a0 : Int32} {a1 : Int32} (hf : f_X7_bestLead_0 a0 a1 σ = some Z) : CT l yX7_bestLead cX7_bestLead 7 (some .int) 7 (fun ad => [.ref (ad 0), .int a0, .int a1]) σ Z := by
  refine g_openT RX7 (by decide) rfl (fun _ => Nat.le_of_ble_eq_true rfl) (fun p e s m below meth c D cI cB ad st ls E Y hr hk hl => ?_)
  have hx := E.1.1
  have hb := E.1.2.1
  have hl : lv_has ls 7 [(0, .ref (ad 0)), (1, .int a0), (2, .int a1)] := hl
  have hL_31 : ∀ (n : Nat) (x1 : Int32) (x2 : Int32) (x3 : Int32) (x4 : Int32) (x5 : Int32) (σ : Mem) (H : Heap) (locs : List Loc) (ls : Array Slot), f_X7_bestLead_0_L31 n x1 x2 x3 x4 x5 σ = some Z → Wo D cI cB ad (AA ad) σ s H locs → lv_has ls 7 [(0, .ref (ad 0)), (1, .int x1), (2, .int x2), (3, .int x3), (4, .int x4), (5, .int x5)] → W p l e (rmd 7) s m ([.ref (ad 0), .int a0, .int a1] : List Value).toArray below meth c H locs 0 0 (QT_ below D cI cB ad st Z ([.ref (ad 0), .int a0, .int a1] : List Value).toArray s) (F0 m 31 ls []) := by
    intro n
    induction n with
    | zero =>
      intro x1 x2 x3 x4 x5 σ H locs ls hf
      cases (show (none : Res) = some Z from hf)
    | succ n ih =>
      intro x1 x2 x3 x4 x5 σ H locs ls hf Y hl
      have hf : fb_X7_bestLead_0_L31 (f_X7_bestLead_0_L31 n) x1 x2 x3 x4 x5 σ = some Z := hf
      unfold fb_X7_bestLead_0_L31 at hf
      refine lv_iload (pc := 31) hx hb dX7_bestLead_31 (lv_at hl 5 rfl) ?_
      refine lv_bipush (pc := 33) (v := 20) hx hb dX7_bestLead_33 (by decide) ?_
      refine g_icmp_gt (pc := 35) (tgt := 87) E dX7_bestLead_35 (by decide) hf (fun hf => ?_) (fun hf => ?_)
      · refine lv_iload_n (pc := 87) hx hb dX7_bestLead_87 rfl (lv_at hl 3 rfl) ?_
        refine g_if_ge (pc := 88) (tgt := 97) E dX7_bestLead_88 (by decide) hf (fun hf => ?_) (fun hf => ?_)
        · refine lv_iload_n (pc := 97) hx hb dX7_bestLead_97 rfl (lv_at hl 2 rfl) ?_
          refine g_if_ne (pc := 98) (tgt := 105) E dX7_bestLead_98 (by decide) hf (fun hf => ?_) (fun hf => ?_)
          · refine lv_iload (pc := 105) hx hb dX7_bestLead_105 (lv_at hl 4 rfl) ?_
            exact g_iret (pc := 107) E Y hr hk dX7_bestLead_107 hf
          · refine lv_iload_n (pc := 101) hx hb dX7_bestLead_101 rfl (lv_at hl 3 rfl) ?_
            refine lv_goto (pc := 102) (tgt := 107) hx hb dX7_bestLead_102 (by decide) ?_
            exact g_iret (pc := 107) E Y hr hk dX7_bestLead_107 hf
        · refine lv_aload_n (pc := 91) hx hb dX7_bestLead_91 rfl (lv_at hl 0 rfl) ?_
          refine lv_iconst (pc := 92) (v := 2) hx hb dX7_bestLead_92 (by decide) ?_
          refine g_callVi (pc := 93) E Y 0 S_0 V_7 o_X7_error q_656 [.int 2] rfl rfl (hR_of (by omega) (by decide)) hl.1 (rest := []) rfl (Nat.le_of_ble_eq_true rfl) dX7_bestLead_93 (fun z hz => m_X7_error_0 hz) hf (fun v7 μ8 H locs hf Y => ?_)
          exact g_iret (pc := 96) E Y hr hk dX7_bestLead_96 hf
      · refine lv_aload_n (pc := 38) hx hb dX7_bestLead_38 rfl (lv_at hl 0 rfl) ?_
        refine g_getr (pc := 39) E Y 0 0 1 S_0 rfl V_7 (by decide) AL_X7 q_301 dX7_bestLead_39 ?_
        refine lv_iload_n (pc := 42) hx hb dX7_bestLead_42 rfl (lv_at hl 1 rfl) ?_
        refine lv_iload (pc := 43) hx hb dX7_bestLead_43 (lv_at hl 5 rfl) ?_
        refine g_callVi (pc := 45) E Y 1 S_1 V_3 o_X3_isPicked q_620 [.int x1, .int x5] rfl rfl (hR_of (by omega) (by decide)) hl.1 (rest := []) rfl (Nat.le_of_ble_eq_true rfl) dX7_bestLead_45 (fun z hz => m_X3_isPicked_1 hz) hf (fun v9 μ10 H locs hf Y => ?_)
        refine g_if_ne (pc := 48) (tgt := 81) E dX7_bestLead_48 (by decide) hf (fun hf => ?_) (fun hf => ?_)
        · refine g_iinc (pc := 81) E (fun v11 => [(5, .int v11), (0, .ref (ad 0)), (1, .int x1), (2, .int x2), (3, .int x3), (4, .int x4)]) dX7_bestLead_81 hl (k := 5) rfl (t := 1) (by decide) (by decide) (fun _ => rfl) hf (fun v11 hf ls hl => ?_)
          refine lv_goto (pc := 84) (tgt := 31) hx hb dX7_bestLead_84 (by decide) ?_
          exact ih _ _ _ _ _ _ _ _ _ hf Y (lv_sub hl [1, 2, 3, 4, 5, 0] rfl)
        · refine lv_aload_n (pc := 51) hx hb dX7_bestLead_51 rfl (lv_at hl 0 rfl) ?_
          refine g_getr (pc := 52) E Y 0 0 1 S_0 rfl V_7 (by decide) AL_X7 q_301 dX7_bestLead_52 ?_
          refine lv_iload_n (pc := 55) hx hb dX7_bestLead_55 rfl (lv_at hl 1 rfl) ?_
          refine lv_iload (pc := 56) hx hb dX7_bestLead_56 (lv_at hl 5 rfl) ?_
          refine g_callVi (pc := 58) E Y 1 S_1 V_3 o_X3_weighedGains q_632 [.int x1, .int x5] rfl rfl (hR_of (by omega) (by decide)) hl.1 (rest := []) rfl (Nat.le_of_ble_eq_true rfl) dX7_bestLead_58 (fun z hz => m_X3_weighedGains_1 hz) hf (fun v12 μ13 H locs hf Y => ?_)
          refine lv_istore (pc := 61) (lv' := [(6, .int v12), (0, .ref (ad 0)), (1, .int x1), (2, .int x2), (3, .int x3), (4, .int x4), (5, .int x5)]) hx hb dX7_bestLead_61 hl (by decide) rfl (fun ls hl => ?_)
          refine lv_iload_n (pc := 63) hx hb dX7_bestLead_63 rfl (lv_at hl 4 rfl) ?_
          refine g_if_lt (pc := 64) (tgt := 74) E dX7_bestLead_64 (by decide) hf (fun hf => ?_) (fun hf => ?_)
          · refine lv_iload (pc := 74) hx hb dX7_bestLead_74 (lv_at hl 6 rfl) ?_
            refine lv_istore_n (pc := 76) (lv' := [(3, .int x5), (6, .int v12), (0, .ref (ad 0)), (1, .int x1), (2, .int x2), (4, .int x4), (5, .int x5)]) hx hb dX7_bestLead_76 rfl hl (by decide) rfl (fun ls hl => ?_)
            refine lv_iload (pc := 77) hx hb dX7_bestLead_77 (lv_at hl 1 rfl) ?_
            refine lv_istore (pc := 79) (lv' := [(4, .int v12), (3, .int x5), (6, .int v12), (0, .ref (ad 0)), (1, .int x1), (2, .int x2), (5, .int x5)]) hx hb dX7_bestLead_79 hl (by decide) rfl (fun ls hl => ?_)
            refine g_iinc (pc := 81) E (fun v14 => [(5, .int v14), (4, .int v12), (3, .int x5), (6, .int v12), (0, .ref (ad 0)), (1, .int x1), (2, .int x2)]) dX7_bestLead_81 hl (k := 6) rfl (t := 1) (by decide) (by decide) (fun _ => rfl) hf (fun v14 hf ls hl => ?_)
            refine lv_goto (pc := 84) (tgt := 31) hx hb dX7_bestLead_84 (by decide) ?_
            exact ih _ _ _ _ _ _ _ _ _ hf Y (lv_sub hl [4, 5, 6, 2, 1, 0] rfl)
          · refine lv_iload (pc := 67) hx hb dX7_bestLead_67 (lv_at hl 0 rfl) ?_
            refine lv_iload (pc := 69) hx hb dX7_bestLead_69 (lv_at hl 5 rfl) ?_
            refine g_icmp_le (pc := 71) (tgt := 81) E dX7_bestLead_71 (by decide) hf (fun hf => ?_) (fun hf => ?_)
            · refine g_iinc (pc := 81) E (fun v15 => [(5, .int v15), (6, .int v12), (0, .ref (ad 0)), (1, .int x1), (2, .int x2), (3, .int x3), (4, .int x4)]) dX7_bestLead_81 hl (k := 6) rfl (t := 1) (by decide) (by decide) (fun _ => rfl) hf (fun v15 hf ls hl => ?_)
              refine lv_goto (pc := 84) (tgt := 31) hx hb dX7_bestLead_84 (by decide) ?_
              exact ih _ _ _ _ _ _ _ _ _ hf Y (lv_sub hl [2, 3, 4, 5, 6, 0] rfl)
            · refine lv_iload (pc := 74) hx hb dX7_bestLead_74 (lv_at hl 6 rfl) ?_
              refine lv_istore_n (pc := 76) (lv' := [(3, .int x5), (6, .int v12), (0, .ref (ad 0)), (1, .int x1), (2, .int x2), (4, .int x4), (5, .int x5)]) hx hb dX7_bestLead_76 rfl hl (by decide) rfl (fun ls hl => ?_)
              refine lv_iload (pc := 77) hx hb dX7_bestLead_77 (lv_at hl 1 rfl) ?_
              refine lv_istore (pc := 79) (lv' := [(4, .int v12), (3, .int x5), (6, .int v12), (0, .ref (ad 0)), (1, .int x1), (2, .int x2), (5, .int x5)]) hx hb dX7_bestLead_79 hl (by decide) rfl (fun ls hl => ?_)
              refine g_iinc (pc := 81) E (fun v16 => [(5, .int v16), (4, .int v12), (3, .int x5), (6, .int v12), (0, .ref (ad 0)), (1, .int x1), (2, .int x2)]) dX7_bestLead_81 hl (k := 6) rfl (t := 1) (by decide) (by decide) (fun _ => rfl) hf (fun v16 hf ls hl => ?_)
              refine lv_goto (pc := 84) (tgt := 31) hx hb dX7_bestLead_84 (by decide) ?_
              exact ih _ _ _ _ _ _ _ _ _ hf Y (lv_sub hl [4, 5, 6, 2, 1, 0] rfl)
  unfold f_X7_bestLead_0 at hf
  refine lv_aload_n (pc := 0) hx hb dX7_bestLead_0 rfl (lv_at hl 0 rfl) ?_
  refine lv_iload_n (pc := 1) hx hb dX7_bestLead_1 rfl (lv_at hl 1 rfl) ?_
  refine g_callVi (pc := 2) E Y 0 S_0 V_7 o_X7_isRunner q_618 [.int a0] rfl rfl (hR_of (by omega) (by decide)) hl.1 (rest := []) rfl (Nat.le_of_ble_eq_true rfl) dX7_bestLead_2 (fun z hz => m_X7_isRunner_0 hz) hf (fun v1 μ2 H locs hf Y => ?_)
  refine g_if_eq (pc := 5) (tgt := 17) E dX7_bestLead_5 (by decide) hf (fun hf => ?_) (fun hf => ?_)
  · refine lv_aload_n (pc := 17) hx hb dX7_bestLead_17 rfl (lv_at hl 0 rfl) ?_
    refine lv_iconst (pc := 18) (v := 1) hx hb dX7_bestLead_18 (by decide) ?_
    refine g_callVi (pc := 19) E Y 0 S_0 V_7 o_X7_error q_656 [.int 1] rfl rfl (hR_of (by omega) (by decide)) hl.1 (rest := []) rfl (Nat.le_of_ble_eq_true rfl) dX7_bestLead_19 (fun z hz => m_X7_error_0 hz) hf (fun v3 μ4 H locs hf Y => ?_)
    exact g_iret (pc := 22) E Y hr hk dX7_bestLead_22 hf
  · refine lv_iload_n (pc := 8) hx hb dX7_bestLead_8 rfl (lv_at hl 2 rfl) ?_
    refine lv_iconst (pc := 9) (v := 0) hx hb dX7_bestLead_9 (by decide) ?_
    refine lv_iconst (pc := 10) (v := 1) hx hb dX7_bestLead_10 (by decide) ?_
    refine g_callSi (pc := 11) E Y o_X7_within q_661 [.int a1, .int 0, .int 1] rfl rfl (hR_of (by omega) (by decide)) hl.1 (rest := []) rfl (Nat.le_of_ble_eq_true rfl) dX7_bestLead_11 (fun z hz => m_X7_within hz) hf (fun v5 μ6 H locs hf Y => ?_)
    refine g_if_ne (pc := 14) (tgt := 23) E dX7_bestLead_14 (by decide) hf (fun hf => ?_) (fun hf => ?_)
    · refine lv_iconst (pc := 23) (v := (-1)) hx hb dX7_bestLead_23 (by decide) ?_
      refine lv_istore_n (pc := 24) (lv' := [(3, .int (-1)), (0, .ref (ad 0)), (1, .int a0), (2, .int a1)]) hx hb dX7_bestLead_24 rfl hl (by decide) rfl (fun ls hl => ?_)
      refine lv_iconst (pc := 25) (v := 0) hx hb dX7_bestLead_25 (by decide) ?_
      refine lv_istore (pc := 26) (lv' := [(4, .int 0), (3, .int (-1)), (0, .ref (ad 0)), (1, .int a0), (2, .int a1)]) hx hb dX7_bestLead_26 hl (by decide) rfl (fun ls hl => ?_)
      refine lv_iconst (pc := 28) (v := 0) hx hb dX7_bestLead_28 (by decide) ?_
      refine lv_istore (pc := 29) (lv' := [(5, .int 0), (4, .int 0), (3, .int (-1)), (0, .ref (ad 0)), (1, .int a0), (2, .int a1)]) hx hb dX7_bestLead_29 hl (by decide) rfl (fun ls hl => ?_)
      exact hL_31 1000 _ _ _ _ _ _ _ _ _ hf Y (lv_sub hl [3, 4, 5, 2, 1, 0] rfl)
    · refine lv_aload_n (pc := 17) hx hb dX7_bestLead_17 rfl (lv_at hl 0 rfl) ?_
      refine lv_iconst (pc := 18) (v := 1) hx hb dX7_bestLead_18 (by decide) ?_
      refine g_callVi (pc := 19) E Y 0 S_0 V_7 o_X7_error q_656 [.int 1] rfl rfl (hR_of (by omega) (by decide)) hl.1 (rest := []) rfl (Nat.le_of_ble_eq_true rfl) dX7_bestLead_19 (fun z hz => m_X7_error_0 hz) hf (fun v17 μ18 H locs hf Y => ?_)
      exact g_iret (pc := 22) E Y hr hk dX7_bestLead_22 hf
def fb_X0_allWeights_2_L4 (bk : Int32 → Int32 → Mem → Res) (x1 : Int32) (x2 : Int32) (σ : Mem) : Res := nm (σ 2 4) fun (v1 : Int32) => if v1 ≤ x2 then (some (x1, σ)) else (gi x2 6 <| nm (σ 5 x2.toNatClampNeg) fun (v2 : Int32) => nm (x1 + v2) fun (v3 : Int32) => nm (x2 + 1) fun (v4 : Int32) => bk v3 v4 σ)
def f_X0_allWeights_2_L4 : Nat → Int32 → Int32 → Mem → Res
  | 0, _, _, _ => none
  | n + 1, x1, x2, σ => fb_X0_allWeights_2_L4 (f_X0_allWeights_2_L4 n) x1 x2 σ
def f_X0_allWeights_2 (σ : Mem) : Res := f_X0_allWeights_2_L4 1000 0 0 σ
set_option maxHeartbeats 4000000 in
set_option maxRecDepth 100000 in
theorem m_X0_allWeights_2 {l : Launch} {σ : Mem} {Z : Int32 × Mem}  (hf : f_X0_allWeights_2 σ = some Z) : CT l yX0_allWeights cX0_allWeights 3 (some .int) 0 (fun ad => [.ref (ad 2)]) σ Z := by
  refine g_openT RX0 (by decide) rfl (fun _ => Nat.le_of_ble_eq_true rfl) (fun p e s m below meth c D cI cB ad st ls E Y hr hk hl => ?_)
  have hx := E.1.1
  have hb := E.1.2.1
  have hl : lv_has ls 3 [(0, .ref (ad 2))] := hl
  have hL_4 : ∀ (n : Nat) (x1 : Int32) (x2 : Int32) (σ : Mem) (H : Heap) (locs : List Loc) (ls : Array Slot), f_X0_allWeights_2_L4 n x1 x2 σ = some Z → Wo D cI cB ad (AA ad) σ s H locs → lv_has ls 3 [(0, .ref (ad 2)), (1, .int x1), (2, .int x2)] → W p l e (rmd 0) s m ([.ref (ad 2)] : List Value).toArray below meth c H locs 0 0 (QT_ below D cI cB ad st Z ([.ref (ad 2)] : List Value).toArray s) (F0 m 4 ls []) := by
    intro n
    induction n with
    | zero =>
      intro x1 x2 σ H locs ls hf
      cases (show (none : Res) = some Z from hf)
    | succ n ih =>
      intro x1 x2 σ H locs ls hf Y hl
      have hf : fb_X0_allWeights_2_L4 (f_X0_allWeights_2_L4 n) x1 x2 σ = some Z := hf
      unfold fb_X0_allWeights_2_L4 at hf
      refine lv_iload_n (pc := 4) hx hb dX0_allWeights_4 rfl (lv_at hl 2 rfl) ?_
      refine lv_aload_n (pc := 5) hx hb dX0_allWeights_5 rfl (lv_at hl 0 rfl) ?_
      refine g_geti (pc := 6) E Y 2 4 S_2 rfl V_0 (by decide) AL_X0 q_245 dX0_allWeights_6 hf (fun v1 hf => ?_)
      refine g_icmp_ge (pc := 9) (tgt := 27) E dX0_allWeights_9 (by decide) hf (fun hf => ?_) (fun hf => ?_)
      · refine lv_iload_n (pc := 27) hx hb dX0_allWeights_27 rfl (lv_at hl 1 rfl) ?_
        exact g_iret (pc := 28) E Y hr hk dX0_allWeights_28 hf
      · refine lv_iload_n (pc := 12) hx hb dX0_allWeights_12 rfl (lv_at hl 1 rfl) ?_
        refine lv_aload_n (pc := 13) hx hb dX0_allWeights_13 rfl (lv_at hl 0 rfl) ?_
        refine g_getr (pc := 14) E Y 2 2 5 S_2 rfl V_0 (by decide) AL_X0 q_243 dX0_allWeights_14 ?_
        refine lv_iload_n (pc := 17) hx hb dX0_allWeights_17 rfl (lv_at hl 2 rfl) ?_
        refine g_iald (pc := 18) E Y 5 S_5 dX0_allWeights_18 hf (fun v2 hf => ?_)
        refine g_iadd (pc := 19) E dX0_allWeights_19 hf (fun v3 hf => ?_)
        refine lv_istore_n (pc := 20) (lv' := [(1, .int v3), (0, .ref (ad 2)), (2, .int x2)]) hx hb dX0_allWeights_20 rfl hl (by decide) rfl (fun ls hl => ?_)
        refine g_iinc (pc := 21) E (fun v4 => [(2, .int v4), (1, .int v3), (0, .ref (ad 2))]) dX0_allWeights_21 hl (k := 2) rfl (t := 1) (by decide) (by decide) (fun _ => rfl) hf (fun v4 hf ls hl => ?_)
        refine lv_goto (pc := 24) (tgt := 4) hx hb dX0_allWeights_24 (by decide) ?_
        exact ih _ _ _ _ _ _ hf Y (lv_sub hl [2, 1, 0] rfl)
  unfold f_X0_allWeights_2 at hf
  refine lv_iconst (pc := 0) (v := 0) hx hb dX0_allWeights_0 (by decide) ?_
  refine lv_istore_n (pc := 1) (lv' := [(1, .int 0), (0, .ref (ad 2))]) hx hb dX0_allWeights_1 rfl hl (by decide) rfl (fun ls hl => ?_)
  refine lv_iconst (pc := 2) (v := 0) hx hb dX0_allWeights_2 (by decide) ?_
  refine lv_istore_n (pc := 3) (lv' := [(2, .int 0), (1, .int 0), (0, .ref (ad 2))]) hx hb dX0_allWeights_3 rfl hl (by decide) rfl (fun ls hl => ?_)
  exact hL_4 1000 _ _ _ _ _ _ hf Y (lv_sub hl [2, 1, 0] rfl)
def fb_X3_safeWeights_1_L5 (bk : Int32 → Int32 → Int32 → Int32 → Mem → Res) (x1 : Int32) (x2 : Int32) (x3 : Int32) (x4 : Int32) (σ : Mem) : Res := nm (σ 2 4) fun (v1 : Int32) => if v1 ≤ x4 then (some (x3, σ)) else (bd (f_X3_marginFrom_1 x1 x4 x2 σ) fun v2 μ3 => if v2 < 0 then (nm (x4 + 1) fun (v4 : Int32) => bk x1 x2 x3 v4 μ3) else (gi x4 6 <| nm (μ3 5 x4.toNatClampNeg) fun (v5 : Int32) => nm (x3 + v5) fun (v6 : Int32) => nm (x4 + 1) fun (v7 : Int32) => bk x1 x2 v6 v7 μ3))
def f_X3_safeWeights_1_L5 : Nat → Int32 → Int32 → Int32 → Int32 → Mem → Res
  | 0, _, _, _, _, _ => none
  | n + 1, x1, x2, x3, x4, σ => fb_X3_safeWeights_1_L5 (f_X3_safeWeights_1_L5 n) x1 x2 x3 x4 σ
def f_X3_safeWeights_1 (a0 : Int32) (a1 : Int32) (σ : Mem) : Res := f_X3_safeWeights_1_L5 1000 a0 a1 0 0 σ
set_option maxHeartbeats 4000000 in
set_option maxRecDepth 100000 in
theorem m_X3_safeWeights_1 {l : Launch} {σ : Mem} {Z : Int32 × Mem} {a0 : Int32} {a1 : Int32} (hf : f_X3_safeWeights_1 a0 a1 σ = some Z) : CT l yX3_safeWeights cX3_safeWeights 5 (some .int) 5 (fun ad => [.ref (ad 1), .int a0, .int a1]) σ Z := by
  refine g_openT RX3 (by decide) rfl (fun _ => Nat.le_of_ble_eq_true rfl) (fun p e s m below meth c D cI cB ad st ls E Y hr hk hl => ?_)
  have hx := E.1.1
  have hb := E.1.2.1
  have hl : lv_has ls 5 [(0, .ref (ad 1)), (1, .int a0), (2, .int a1)] := hl
  have hL_5 : ∀ (n : Nat) (x1 : Int32) (x2 : Int32) (x3 : Int32) (x4 : Int32) (σ : Mem) (H : Heap) (locs : List Loc) (ls : Array Slot), f_X3_safeWeights_1_L5 n x1 x2 x3 x4 σ = some Z → Wo D cI cB ad (AA ad) σ s H locs → lv_has ls 5 [(0, .ref (ad 1)), (1, .int x1), (2, .int x2), (3, .int x3), (4, .int x4)] → W p l e (rmd 5) s m ([.ref (ad 1), .int a0, .int a1] : List Value).toArray below meth c H locs 0 0 (QT_ below D cI cB ad st Z ([.ref (ad 1), .int a0, .int a1] : List Value).toArray s) (F0 m 5 ls []) := by
    intro n
    induction n with
    | zero =>
      intro x1 x2 x3 x4 σ H locs ls hf
      cases (show (none : Res) = some Z from hf)
    | succ n ih =>
      intro x1 x2 x3 x4 σ H locs ls hf Y hl
      have hf : fb_X3_safeWeights_1_L5 (f_X3_safeWeights_1_L5 n) x1 x2 x3 x4 σ = some Z := hf
      unfold fb_X3_safeWeights_1_L5 at hf
      refine lv_iload (pc := 5) hx hb dX3_safeWeights_5 (lv_at hl 4 rfl) ?_
      refine lv_aload_n (pc := 7) hx hb dX3_safeWeights_7 rfl (lv_at hl 0 rfl) ?_
      refine g_getr (pc := 8) E Y 1 0 2 S_1 rfl V_3 (by decide) AL_X3 q_265 dX3_safeWeights_8 ?_
      refine g_geti (pc := 11) E Y 2 4 S_2 rfl V_0 (by decide) AL_X0 q_266 dX3_safeWeights_11 hf (fun v1 hf => ?_)
      refine g_icmp_ge (pc := 14) (tgt := 47) E dX3_safeWeights_14 (by decide) hf (fun hf => ?_) (fun hf => ?_)
      · refine lv_iload_n (pc := 47) hx hb dX3_safeWeights_47 rfl (lv_at hl 3 rfl) ?_
        exact g_iret (pc := 48) E Y hr hk dX3_safeWeights_48 hf
      · refine lv_aload_n (pc := 17) hx hb dX3_safeWeights_17 rfl (lv_at hl 0 rfl) ?_
        refine lv_iload_n (pc := 18) hx hb dX3_safeWeights_18 rfl (lv_at hl 1 rfl) ?_
        refine lv_iload (pc := 19) hx hb dX3_safeWeights_19 (lv_at hl 4 rfl) ?_
        refine lv_iload_n (pc := 21) hx hb dX3_safeWeights_21 rfl (lv_at hl 2 rfl) ?_
        refine g_callVi (pc := 22) E Y 1 S_1 V_3 o_X3_marginFrom q_585 [.int x1, .int x4, .int x2] rfl rfl (hR_of (by omega) (by decide)) hl.1 (rest := []) rfl (Nat.le_of_ble_eq_true rfl) dX3_safeWeights_22 (fun z hz => m_X3_marginFrom_1 hz) hf (fun v2 μ3 H locs hf Y => ?_)
        refine g_if_lt (pc := 25) (tgt := 41) E dX3_safeWeights_25 (by decide) hf (fun hf => ?_) (fun hf => ?_)
        · refine g_iinc (pc := 41) E (fun v4 => [(4, .int v4), (0, .ref (ad 1)), (1, .int x1), (2, .int x2), (3, .int x3)]) dX3_safeWeights_41 hl (k := 4) rfl (t := 1) (by decide) (by decide) (fun _ => rfl) hf (fun v4 hf ls hl => ?_)
          refine lv_goto (pc := 44) (tgt := 5) hx hb dX3_safeWeights_44 (by decide) ?_
          exact ih _ _ _ _ _ _ _ _ hf Y (lv_sub hl [1, 2, 3, 4, 0] rfl)
        · refine lv_iload_n (pc := 28) hx hb dX3_safeWeights_28 rfl (lv_at hl 3 rfl) ?_
          refine lv_aload_n (pc := 29) hx hb dX3_safeWeights_29 rfl (lv_at hl 0 rfl) ?_
          refine g_getr (pc := 30) E Y 1 0 2 S_1 rfl V_3 (by decide) AL_X3 q_265 dX3_safeWeights_30 ?_
          refine g_getr (pc := 33) E Y 2 2 5 S_2 rfl V_0 (by decide) AL_X0 q_267 dX3_safeWeights_33 ?_
          refine lv_iload (pc := 36) hx hb dX3_safeWeights_36 (lv_at hl 4 rfl) ?_
          refine g_iald (pc := 38) E Y 5 S_5 dX3_safeWeights_38 hf (fun v5 hf => ?_)
          refine g_iadd (pc := 39) E dX3_safeWeights_39 hf (fun v6 hf => ?_)
          refine lv_istore_n (pc := 40) (lv' := [(3, .int v6), (0, .ref (ad 1)), (1, .int x1), (2, .int x2), (4, .int x4)]) hx hb dX3_safeWeights_40 rfl hl (by decide) rfl (fun ls hl => ?_)
          refine g_iinc (pc := 41) E (fun v7 => [(4, .int v7), (3, .int v6), (0, .ref (ad 1)), (1, .int x1), (2, .int x2)]) dX3_safeWeights_41 hl (k := 4) rfl (t := 1) (by decide) (by decide) (fun _ => rfl) hf (fun v7 hf ls hl => ?_)
          refine lv_goto (pc := 44) (tgt := 5) hx hb dX3_safeWeights_44 (by decide) ?_
          exact ih _ _ _ _ _ _ _ _ hf Y (lv_sub hl [2, 3, 4, 1, 0] rfl)
  unfold f_X3_safeWeights_1 at hf
  refine lv_iconst (pc := 0) (v := 0) hx hb dX3_safeWeights_0 (by decide) ?_
  refine lv_istore_n (pc := 1) (lv' := [(3, .int 0), (0, .ref (ad 1)), (1, .int a0), (2, .int a1)]) hx hb dX3_safeWeights_1 rfl hl (by decide) rfl (fun ls hl => ?_)
  refine lv_iconst (pc := 2) (v := 0) hx hb dX3_safeWeights_2 (by decide) ?_
  refine lv_istore (pc := 3) (lv' := [(4, .int 0), (3, .int 0), (0, .ref (ad 1)), (1, .int a0), (2, .int a1)]) hx hb dX3_safeWeights_3 hl (by decide) rfl (fun ls hl => ?_)
  exact hL_5 1000 _ _ _ _ _ _ _ _ hf Y (lv_sub hl [2, 3, 4, 1, 0] rfl)
def fb_X7_commonOf_L7 (bk : Int32 → Int32 → Int32 → Mem → Res) (x2 : Int32) (x3 : Int32) (x4 : Int32) (σ : Mem) : Res := if 64 ≤ x4 then (nm (if x2 < 1 then 1 else x2) fun (v1 : Int32) => some (v1, σ)) else (if x3 ≤ 0 then (nm (if x2 < 1 then 1 else x2) fun (v2 : Int32) => some (v2, σ)) else (gz x3 <| nm (x2 - x2 / x3 * x3) fun (v3 : Int32) => nm (x4 + 1) fun (v4 : Int32) => bk x3 v3 v4 σ))
def f_X7_commonOf_L7 : Nat → Int32 → Int32 → Int32 → Mem → Res
  | 0, _, _, _, _ => none
  | n + 1, x2, x3, x4, σ => fb_X7_commonOf_L7 (f_X7_commonOf_L7 n) x2 x3 x4 σ
def f_X7_commonOf (a0 : Int32) (a1 : Int32) (σ : Mem) : Res := f_X7_commonOf_L7 1000 a0 a1 0 σ
set_option maxHeartbeats 4000000 in
set_option maxRecDepth 100000 in
theorem m_X7_commonOf {l : Launch} {σ : Mem} {Z : Int32 × Mem} {a0 : Int32} {a1 : Int32} (hf : f_X7_commonOf a0 a1 σ = some Z) : CT l yX7_commonOf cX7_commonOf 6 (some .int) 1 (fun _ => [.int a0, .int a1]) σ Z := by
  refine g_openT RX7 (by decide) rfl (fun _ => Nat.le_of_ble_eq_true rfl) (fun p e s m below meth c D cI cB ad st ls E Y hr hk hl => ?_)
  have hx := E.1.1
  have hb := E.1.2.1
  have hl : lv_has ls 6 [(0, .int a0), (1, .int a1)] := hl
  have hL_7 : ∀ (n : Nat) (x2 : Int32) (x3 : Int32) (x4 : Int32) (σ : Mem) (H : Heap) (locs : List Loc) (ls : Array Slot), f_X7_commonOf_L7 n x2 x3 x4 σ = some Z → Wo D cI cB ad (AA ad) σ s H locs → lv_has ls 6 [(2, .int x2), (3, .int x3), (4, .int x4)] → W p l e (rmd 1) s m ([.int a0, .int a1] : List Value).toArray below meth c H locs 0 0 (QT_ below D cI cB ad st Z ([.int a0, .int a1] : List Value).toArray s) (F0 m 7 ls []) := by
    intro n
    induction n with
    | zero =>
      intro x2 x3 x4 σ H locs ls hf
      cases (show (none : Res) = some Z from hf)
    | succ n ih =>
      intro x2 x3 x4 σ H locs ls hf Y hl
      have hf : fb_X7_commonOf_L7 (f_X7_commonOf_L7 n) x2 x3 x4 σ = some Z := hf
      unfold fb_X7_commonOf_L7 at hf
      refine lv_iload (pc := 7) hx hb dX7_commonOf_7 (lv_at hl 2 rfl) ?_
      refine lv_bipush (pc := 9) (v := 64) hx hb dX7_commonOf_9 (by decide) ?_
      refine g_icmp_ge (pc := 11) (tgt := 34) E dX7_commonOf_11 (by decide) hf (fun hf => ?_) (fun hf => ?_)
      · refine lv_iload_n (pc := 34) hx hb dX7_commonOf_34 rfl (lv_at hl 0 rfl) ?_
        refine lv_iconst (pc := 35) (v := 1) hx hb dX7_commonOf_35 (by decide) ?_
        refine g_mmax (pc := 36) E hl.1 q_638 q_901 q_359 q_11 (hR_one (by omega)) (hR_lo (by omega) (Nat.le_of_ble_eq_true rfl)) dX7_commonOf_36 hf (fun v1 hf => ?_)
        exact g_iret (pc := 39) E Y hr hk dX7_commonOf_39 hf
      · refine lv_iload_n (pc := 14) hx hb dX7_commonOf_14 rfl (lv_at hl 1 rfl) ?_
        refine g_if_le (pc := 15) (tgt := 34) E dX7_commonOf_15 (by decide) hf (fun hf => ?_) (fun hf => ?_)
        · refine lv_iload_n (pc := 34) hx hb dX7_commonOf_34 rfl (lv_at hl 0 rfl) ?_
          refine lv_iconst (pc := 35) (v := 1) hx hb dX7_commonOf_35 (by decide) ?_
          refine g_mmax (pc := 36) E hl.1 q_638 q_901 q_359 q_11 (hR_one (by omega)) (hR_lo (by omega) (Nat.le_of_ble_eq_true rfl)) dX7_commonOf_36 hf (fun v2 hf => ?_)
          exact g_iret (pc := 39) E Y hr hk dX7_commonOf_39 hf
        · refine lv_iload_n (pc := 18) hx hb dX7_commonOf_18 rfl (lv_at hl 0 rfl) ?_
          refine lv_iload_n (pc := 19) hx hb dX7_commonOf_19 rfl (lv_at hl 1 rfl) ?_
          refine g_irem (pc := 20) E dX7_commonOf_20 hf (fun v3 hf => ?_)
          refine lv_istore (pc := 21) (lv' := [(5, .int v3), (2, .int x2), (3, .int x3), (4, .int x4)]) hx hb dX7_commonOf_21 hl (by decide) rfl (fun ls hl => ?_)
          refine lv_iload_n (pc := 23) hx hb dX7_commonOf_23 rfl (lv_at hl 2 rfl) ?_
          refine lv_istore_n (pc := 24) (lv' := [(2, .int x3), (5, .int v3), (3, .int x3), (4, .int x4)]) hx hb dX7_commonOf_24 rfl hl (by decide) rfl (fun ls hl => ?_)
          refine lv_iload (pc := 25) hx hb dX7_commonOf_25 (lv_at hl 1 rfl) ?_
          refine lv_istore_n (pc := 27) (lv' := [(3, .int v3), (2, .int x3), (5, .int v3), (4, .int x4)]) hx hb dX7_commonOf_27 rfl hl (by decide) rfl (fun ls hl => ?_)
          refine g_iinc (pc := 28) E (fun v4 => [(4, .int v4), (3, .int v3), (2, .int x3), (5, .int v3)]) dX7_commonOf_28 hl (k := 3) rfl (t := 1) (by decide) (by decide) (fun _ => rfl) hf (fun v4 hf ls hl => ?_)
          refine lv_goto (pc := 31) (tgt := 7) hx hb dX7_commonOf_31 (by decide) ?_
          exact ih _ _ _ _ _ _ _ hf Y (lv_sub hl [2, 1, 0] rfl)
  unfold f_X7_commonOf at hf
  refine lv_iload_n (pc := 0) hx hb dX7_commonOf_0 rfl (lv_at hl 0 rfl) ?_
  refine lv_istore_n (pc := 1) (lv' := [(2, .int a0), (0, .int a0), (1, .int a1)]) hx hb dX7_commonOf_1 rfl hl (by decide) rfl (fun ls hl => ?_)
  refine lv_iload_n (pc := 2) hx hb dX7_commonOf_2 rfl (lv_at hl 2 rfl) ?_
  refine lv_istore_n (pc := 3) (lv' := [(3, .int a1), (2, .int a0), (0, .int a0), (1, .int a1)]) hx hb dX7_commonOf_3 rfl hl (by decide) rfl (fun ls hl => ?_)
  refine lv_iconst (pc := 4) (v := 0) hx hb dX7_commonOf_4 (by decide) ?_
  refine lv_istore (pc := 5) (lv' := [(4, .int 0), (3, .int a1), (2, .int a0), (0, .int a0), (1, .int a1)]) hx hb dX7_commonOf_5 hl (by decide) rfl (fun ls hl => ?_)
  exact hL_7 1000 _ _ _ _ _ _ _ hf Y (lv_sub hl [2, 1, 0] rfl)
def f_X7_partOf (a0 : Int32) (a1 : Int32) (a2 : Int32) (σ : Mem) : Res := if a0 = 0 then (some (a2, σ)) else (if a1 = 0 then (some (a2, σ)) else (nm (if 0 ≤ a0 then a0 else 0 - a0) fun (v1 : Int32) => nm (if 0 ≤ a1 then a1 else 0 - a1) fun (v2 : Int32) => bd (f_X7_commonOf v1 v2 σ) fun v3 μ4 => if 0 ≤ a1 then (if a2 = 0 then (gz v3 <| nm (a0 / v3) fun (v6 : Int32) => some (v6, μ4)) else (gz v3 <| nm (a1 / v3) fun (v5 : Int32) => some (v5, μ4))) else (nm (-v3) fun (v7 : Int32) => if a2 = 0 then (gz v7 <| nm (a0 / v7) fun (v9 : Int32) => some (v9, μ4)) else (gz v7 <| nm (a1 / v7) fun (v8 : Int32) => some (v8, μ4)))))
set_option maxHeartbeats 4000000 in
set_option maxRecDepth 100000 in
theorem m_X7_partOf {l : Launch} {σ : Mem} {Z : Int32 × Mem} {a0 : Int32} {a1 : Int32} {a2 : Int32} (hf : f_X7_partOf a0 a1 a2 σ = some Z) : CT l yX7_partOf cX7_partOf 4 (some .int) 2 (fun _ => [.int a0, .int a1, .int a2]) σ Z := by
  refine g_openT RX7 (by decide) rfl (fun _ => Nat.le_of_ble_eq_true rfl) (fun p e s m below meth c D cI cB ad st ls E Y hr hk hl => ?_)
  have hx := E.1.1
  have hb := E.1.2.1
  have hl : lv_has ls 4 [(0, .int a0), (1, .int a1), (2, .int a2)] := hl
  unfold f_X7_partOf at hf
  refine lv_iload_n (pc := 0) hx hb dX7_partOf_0 rfl (lv_at hl 0 rfl) ?_
  refine g_if_eq (pc := 1) (tgt := 8) E dX7_partOf_1 (by decide) hf (fun hf => ?_) (fun hf => ?_)
  · refine lv_iload_n (pc := 8) hx hb dX7_partOf_8 rfl (lv_at hl 2 rfl) ?_
    exact g_iret (pc := 9) E Y hr hk dX7_partOf_9 hf
  · refine lv_iload_n (pc := 4) hx hb dX7_partOf_4 rfl (lv_at hl 1 rfl) ?_
    refine g_if_ne (pc := 5) (tgt := 10) E dX7_partOf_5 (by decide) hf (fun hf => ?_) (fun hf => ?_)
    · refine lv_iload_n (pc := 10) hx hb dX7_partOf_10 rfl (lv_at hl 0 rfl) ?_
      refine g_mabs (pc := 11) E hl.1 q_652 q_900 q_359 q_10 (hR_one (by omega)) (hR_lo (by omega) (Nat.le_of_ble_eq_true rfl)) dX7_partOf_11 hf (fun v1 hf => ?_)
      refine lv_iload_n (pc := 14) hx hb dX7_partOf_14 rfl (lv_at hl 1 rfl) ?_
      refine g_mabs (pc := 15) E hl.1 q_652 q_900 q_359 q_10 (hR_one (by omega)) (hR_lo (by omega) (Nat.le_of_ble_eq_true rfl)) dX7_partOf_15 hf (fun v2 hf => ?_)
      refine g_callSi (pc := 18) E Y o_X7_commonOf q_653 [.int v1, .int v2] rfl rfl (hR_of (by omega) (by decide)) hl.1 (rest := []) rfl (Nat.le_of_ble_eq_true rfl) dX7_partOf_18 (fun z hz => m_X7_commonOf hz) hf (fun v3 μ4 H locs hf Y => ?_)
      refine lv_istore_n (pc := 21) (lv' := [(3, .int v3), (0, .int a0), (1, .int a1), (2, .int a2)]) hx hb dX7_partOf_21 rfl hl (by decide) rfl (fun ls hl => ?_)
      refine lv_iload_n (pc := 22) hx hb dX7_partOf_22 rfl (lv_at hl 2 rfl) ?_
      refine g_if_ge (pc := 23) (tgt := 29) E dX7_partOf_23 (by decide) hf (fun hf => ?_) (fun hf => ?_)
      · refine lv_iload_n (pc := 29) hx hb dX7_partOf_29 rfl (lv_at hl 3 rfl) ?_
        refine g_if_ne (pc := 30) (tgt := 37) E dX7_partOf_30 (by decide) hf (fun hf => ?_) (fun hf => ?_)
        · refine lv_iload_n (pc := 37) hx hb dX7_partOf_37 rfl (lv_at hl 2 rfl) ?_
          refine lv_iload_n (pc := 38) hx hb dX7_partOf_38 rfl (lv_at hl 0 rfl) ?_
          refine g_idiv (pc := 39) E dX7_partOf_39 hf (fun v5 hf => ?_)
          exact g_iret (pc := 40) E Y hr hk dX7_partOf_40 hf
        · refine lv_iload_n (pc := 33) hx hb dX7_partOf_33 rfl (lv_at hl 1 rfl) ?_
          refine lv_goto (pc := 34) (tgt := 38) hx hb dX7_partOf_34 (by decide) ?_
          refine lv_iload_n (pc := 38) hx hb dX7_partOf_38 rfl (lv_at hl 0 rfl) ?_
          refine g_idiv (pc := 39) E dX7_partOf_39 hf (fun v6 hf => ?_)
          exact g_iret (pc := 40) E Y hr hk dX7_partOf_40 hf
      · refine lv_iload_n (pc := 26) hx hb dX7_partOf_26 rfl (lv_at hl 0 rfl) ?_
        refine g_ineg (pc := 27) E dX7_partOf_27 hf (fun v7 hf => ?_)
        refine lv_istore_n (pc := 28) (lv' := [(3, .int v7), (0, .int a0), (1, .int a1), (2, .int a2)]) hx hb dX7_partOf_28 rfl hl (by decide) rfl (fun ls hl => ?_)
        refine lv_iload_n (pc := 29) hx hb dX7_partOf_29 rfl (lv_at hl 3 rfl) ?_
        refine g_if_ne (pc := 30) (tgt := 37) E dX7_partOf_30 (by decide) hf (fun hf => ?_) (fun hf => ?_)
        · refine lv_iload_n (pc := 37) hx hb dX7_partOf_37 rfl (lv_at hl 2 rfl) ?_
          refine lv_iload_n (pc := 38) hx hb dX7_partOf_38 rfl (lv_at hl 0 rfl) ?_
          refine g_idiv (pc := 39) E dX7_partOf_39 hf (fun v8 hf => ?_)
          exact g_iret (pc := 40) E Y hr hk dX7_partOf_40 hf
        · refine lv_iload_n (pc := 33) hx hb dX7_partOf_33 rfl (lv_at hl 1 rfl) ?_
          refine lv_goto (pc := 34) (tgt := 38) hx hb dX7_partOf_34 (by decide) ?_
          refine lv_iload_n (pc := 38) hx hb dX7_partOf_38 rfl (lv_at hl 0 rfl) ?_
          refine g_idiv (pc := 39) E dX7_partOf_39 hf (fun v9 hf => ?_)
          exact g_iret (pc := 40) E Y hr hk dX7_partOf_40 hf
    · refine lv_iload_n (pc := 8) hx hb dX7_partOf_8 rfl (lv_at hl 2 rfl) ?_
      exact g_iret (pc := 9) E Y hr hk dX7_partOf_9 hf
def f_X7_odds_0 (a0 : Int32) (a1 : Int32) (σ : Mem) : Res := bd (f_X7_isRunner_0 a0 σ) fun v1 μ2 => if v1 = 0 then (bd (f_X7_error_0 1 μ2) fun v3 μ4 => some (v3, μ4)) else (bd (f_X7_within a1 0 1 μ2) fun v5 μ6 => if v5 = 0 then (bd (f_X7_error_0 1 μ6) fun v16 μ17 => some (v16, μ17)) else (bd (f_X0_allWeights_2 μ6) fun v7 μ8 => if v7 = 0 then (bd (f_X7_error_0 3 μ8) fun v14 μ15 => some (v14, μ15)) else (gi a0 5 <| nm (μ8 10 a0.toNatClampNeg) fun (v9 : Int32) => bd (f_X3_safeWeights_1 a0 v9 μ8) fun v10 μ11 => bd (f_X7_partOf v10 v7 a1 μ11) fun v12 μ13 => some (v12, μ13))))
set_option maxHeartbeats 4000000 in
set_option maxRecDepth 100000 in
theorem m_X7_odds_0 {l : Launch} {σ : Mem} {Z : Int32 × Mem} {a0 : Int32} {a1 : Int32} (hf : f_X7_odds_0 a0 a1 σ = some Z) : CT l yX7_odds cX7_odds 4 (some .int) 6 (fun ad => [.ref (ad 0), .int a0, .int a1]) σ Z := by
  refine g_openT RX7 (by decide) rfl (fun _ => Nat.le_of_ble_eq_true rfl) (fun p e s m below meth c D cI cB ad st ls E Y hr hk hl => ?_)
  have hx := E.1.1
  have hb := E.1.2.1
  have hl : lv_has ls 4 [(0, .ref (ad 0)), (1, .int a0), (2, .int a1)] := hl
  unfold f_X7_odds_0 at hf
  refine lv_aload_n (pc := 0) hx hb dX7_odds_0 rfl (lv_at hl 0 rfl) ?_
  refine lv_iload_n (pc := 1) hx hb dX7_odds_1 rfl (lv_at hl 1 rfl) ?_
  refine g_callVi (pc := 2) E Y 0 S_0 V_7 o_X7_isRunner q_618 [.int a0] rfl rfl (hR_of (by omega) (by decide)) hl.1 (rest := []) rfl (Nat.le_of_ble_eq_true rfl) dX7_odds_2 (fun z hz => m_X7_isRunner_0 hz) hf (fun v1 μ2 H locs hf Y => ?_)
  refine g_if_eq (pc := 5) (tgt := 17) E dX7_odds_5 (by decide) hf (fun hf => ?_) (fun hf => ?_)
  · refine lv_aload_n (pc := 17) hx hb dX7_odds_17 rfl (lv_at hl 0 rfl) ?_
    refine lv_iconst (pc := 18) (v := 1) hx hb dX7_odds_18 (by decide) ?_
    refine g_callVi (pc := 19) E Y 0 S_0 V_7 o_X7_error q_656 [.int 1] rfl rfl (hR_of (by omega) (by decide)) hl.1 (rest := []) rfl (Nat.le_of_ble_eq_true rfl) dX7_odds_19 (fun z hz => m_X7_error_0 hz) hf (fun v3 μ4 H locs hf Y => ?_)
    exact g_iret (pc := 22) E Y hr hk dX7_odds_22 hf
  · refine lv_iload_n (pc := 8) hx hb dX7_odds_8 rfl (lv_at hl 2 rfl) ?_
    refine lv_iconst (pc := 9) (v := 0) hx hb dX7_odds_9 (by decide) ?_
    refine lv_iconst (pc := 10) (v := 1) hx hb dX7_odds_10 (by decide) ?_
    refine g_callSi (pc := 11) E Y o_X7_within q_661 [.int a1, .int 0, .int 1] rfl rfl (hR_of (by omega) (by decide)) hl.1 (rest := []) rfl (Nat.le_of_ble_eq_true rfl) dX7_odds_11 (fun z hz => m_X7_within hz) hf (fun v5 μ6 H locs hf Y => ?_)
    refine g_if_ne (pc := 14) (tgt := 23) E dX7_odds_14 (by decide) hf (fun hf => ?_) (fun hf => ?_)
    · refine lv_aload_n (pc := 23) hx hb dX7_odds_23 rfl (lv_at hl 0 rfl) ?_
      refine g_getr (pc := 24) E Y 0 0 1 S_0 rfl V_7 (by decide) AL_X7 q_301 dX7_odds_24 ?_
      refine g_getr (pc := 27) E Y 1 0 2 S_1 rfl V_3 (by decide) AL_X3 q_334 dX7_odds_27 ?_
      refine g_callVi (pc := 30) E Y 2 S_2 V_0 o_X0_allWeights q_633 [] rfl rfl (hR_of (by omega) (by decide)) hl.1 (rest := []) rfl (Nat.le_of_ble_eq_true rfl) dX7_odds_30 (fun z hz => m_X0_allWeights_2 hz) hf (fun v7 μ8 H locs hf Y => ?_)
      refine lv_istore_n (pc := 33) (lv' := [(3, .int v7), (0, .ref (ad 0)), (1, .int a0), (2, .int a1)]) hx hb dX7_odds_33 rfl hl (by decide) rfl (fun ls hl => ?_)
      refine lv_iload_n (pc := 34) hx hb dX7_odds_34 rfl (lv_at hl 0 rfl) ?_
      refine g_if_ne (pc := 35) (tgt := 44) E dX7_odds_35 (by decide) hf (fun hf => ?_) (fun hf => ?_)
      · refine lv_aload_n (pc := 44) hx hb dX7_odds_44 rfl (lv_at hl 1 rfl) ?_
        refine g_getr (pc := 45) E Y 0 0 1 S_0 rfl V_7 (by decide) AL_X7 q_301 dX7_odds_45 ?_
        refine lv_iload_n (pc := 48) hx hb dX7_odds_48 rfl (lv_at hl 2 rfl) ?_
        refine lv_aload_n (pc := 49) hx hb dX7_odds_49 rfl (lv_at hl 1 rfl) ?_
        refine g_getr (pc := 50) E Y 0 0 1 S_0 rfl V_7 (by decide) AL_X7 q_301 dX7_odds_50 ?_
        refine g_getr (pc := 53) E Y 1 1 7 S_1 rfl V_3 (by decide) AL_X3 q_302 dX7_odds_53 ?_
        refine g_getr (pc := 56) E Y 7 2 10 S_7 rfl V_2 (by decide) AL_X2 q_304 dX7_odds_56 ?_
        refine lv_iload_n (pc := 59) hx hb dX7_odds_59 rfl (lv_at hl 2 rfl) ?_
        refine g_iald (pc := 60) E Y 10 S_10 dX7_odds_60 hf (fun v9 hf => ?_)
        refine g_callVi (pc := 61) E Y 1 S_1 V_3 o_X3_safeWeights q_634 [.int a0, .int v9] rfl rfl (hR_of (by omega) (by decide)) hl.1 (rest := []) rfl (Nat.le_of_ble_eq_true rfl) dX7_odds_61 (fun z hz => m_X3_safeWeights_1 hz) hf (fun v10 μ11 H locs hf Y => ?_)
        refine lv_iload_n (pc := 64) hx hb dX7_odds_64 rfl (lv_at hl 0 rfl) ?_
        refine lv_iload_n (pc := 65) hx hb dX7_odds_65 rfl (lv_at hl 3 rfl) ?_
        refine g_callSi (pc := 66) E Y o_X7_partOf q_635 [.int v10, .int v7, .int a1] rfl rfl (hR_of (by omega) (by decide)) hl.1 (rest := []) rfl (Nat.le_of_ble_eq_true rfl) dX7_odds_66 (fun z hz => m_X7_partOf hz) hf (fun v12 μ13 H locs hf Y => ?_)
        exact g_iret (pc := 69) E Y hr hk dX7_odds_69 hf
      · refine lv_aload_n (pc := 38) hx hb dX7_odds_38 rfl (lv_at hl 1 rfl) ?_
        refine lv_iconst (pc := 39) (v := 3) hx hb dX7_odds_39 (by decide) ?_
        refine g_callVi (pc := 40) E Y 0 S_0 V_7 o_X7_error q_656 [.int 3] rfl rfl (hR_of (by omega) (by decide)) hl.1 (rest := []) rfl (Nat.le_of_ble_eq_true rfl) dX7_odds_40 (fun z hz => m_X7_error_0 hz) hf (fun v14 μ15 H locs hf Y => ?_)
        exact g_iret (pc := 43) E Y hr hk dX7_odds_43 hf
    · refine lv_aload_n (pc := 17) hx hb dX7_odds_17 rfl (lv_at hl 0 rfl) ?_
      refine lv_iconst (pc := 18) (v := 1) hx hb dX7_odds_18 (by decide) ?_
      refine g_callVi (pc := 19) E Y 0 S_0 V_7 o_X7_error q_656 [.int 1] rfl rfl (hR_of (by omega) (by decide)) hl.1 (rest := []) rfl (Nat.le_of_ble_eq_true rfl) dX7_odds_19 (fun z hz => m_X7_error_0 hz) hf (fun v16 μ17 H locs hf Y => ?_)
      exact g_iret (pc := 22) E Y hr hk dX7_odds_22 hf
def f_X7_go_0 (a0 : Int32) (a1 : Int32) (σ : Mem) : Res := bd (f_X7_isRunner_0 a0 σ) fun v1 μ2 => if v1 = 0 then (bd (f_X7_error_0 1 μ2) fun v3 μ4 => some (v3, μ4)) else (bd (f_X7_within a1 0 1 μ2) fun v5 μ6 => if v5 = 0 then (bd (f_X7_error_0 1 μ6) fun v16 μ17 => some (v16, μ17)) else (bd (f_X0_allWeights_2 μ6) fun v7 μ8 => if v7 = 0 then (bd (f_X7_error_0 3 μ8) fun v14 μ15 => some (v14, μ15)) else (gi a0 5 <| nm (μ8 10 a0.toNatClampNeg) fun (v9 : Int32) => bd (f_X3_weighedGains_1 a0 v9 μ8) fun v10 μ11 => bd (f_X7_partOf v10 v7 a1 μ11) fun v12 μ13 => some (v12, μ13))))
set_option maxHeartbeats 4000000 in
set_option maxRecDepth 100000 in
theorem m_X7_go_0 {l : Launch} {σ : Mem} {Z : Int32 × Mem} {a0 : Int32} {a1 : Int32} (hf : f_X7_go_0 a0 a1 σ = some Z) : CT l yX7_go cX7_go 4 (some .int) 7 (fun ad => [.ref (ad 0), .int a0, .int a1]) σ Z := by
  refine g_openT RX7 (by decide) rfl (fun _ => Nat.le_of_ble_eq_true rfl) (fun p e s m below meth c D cI cB ad st ls E Y hr hk hl => ?_)
  have hx := E.1.1
  have hb := E.1.2.1
  have hl : lv_has ls 4 [(0, .ref (ad 0)), (1, .int a0), (2, .int a1)] := hl
  unfold f_X7_go_0 at hf
  refine lv_aload_n (pc := 0) hx hb dX7_go_0 rfl (lv_at hl 0 rfl) ?_
  refine lv_iload_n (pc := 1) hx hb dX7_go_1 rfl (lv_at hl 1 rfl) ?_
  refine g_callVi (pc := 2) E Y 0 S_0 V_7 o_X7_isRunner q_618 [.int a0] rfl rfl (hR_of (by omega) (by decide)) hl.1 (rest := []) rfl (Nat.le_of_ble_eq_true rfl) dX7_go_2 (fun z hz => m_X7_isRunner_0 hz) hf (fun v1 μ2 H locs hf Y => ?_)
  refine g_if_eq (pc := 5) (tgt := 17) E dX7_go_5 (by decide) hf (fun hf => ?_) (fun hf => ?_)
  · refine lv_aload_n (pc := 17) hx hb dX7_go_17 rfl (lv_at hl 0 rfl) ?_
    refine lv_iconst (pc := 18) (v := 1) hx hb dX7_go_18 (by decide) ?_
    refine g_callVi (pc := 19) E Y 0 S_0 V_7 o_X7_error q_656 [.int 1] rfl rfl (hR_of (by omega) (by decide)) hl.1 (rest := []) rfl (Nat.le_of_ble_eq_true rfl) dX7_go_19 (fun z hz => m_X7_error_0 hz) hf (fun v3 μ4 H locs hf Y => ?_)
    exact g_iret (pc := 22) E Y hr hk dX7_go_22 hf
  · refine lv_iload_n (pc := 8) hx hb dX7_go_8 rfl (lv_at hl 2 rfl) ?_
    refine lv_iconst (pc := 9) (v := 0) hx hb dX7_go_9 (by decide) ?_
    refine lv_iconst (pc := 10) (v := 1) hx hb dX7_go_10 (by decide) ?_
    refine g_callSi (pc := 11) E Y o_X7_within q_661 [.int a1, .int 0, .int 1] rfl rfl (hR_of (by omega) (by decide)) hl.1 (rest := []) rfl (Nat.le_of_ble_eq_true rfl) dX7_go_11 (fun z hz => m_X7_within hz) hf (fun v5 μ6 H locs hf Y => ?_)
    refine g_if_ne (pc := 14) (tgt := 23) E dX7_go_14 (by decide) hf (fun hf => ?_) (fun hf => ?_)
    · refine lv_aload_n (pc := 23) hx hb dX7_go_23 rfl (lv_at hl 0 rfl) ?_
      refine g_getr (pc := 24) E Y 0 0 1 S_0 rfl V_7 (by decide) AL_X7 q_301 dX7_go_24 ?_
      refine g_getr (pc := 27) E Y 1 0 2 S_1 rfl V_3 (by decide) AL_X3 q_334 dX7_go_27 ?_
      refine g_callVi (pc := 30) E Y 2 S_2 V_0 o_X0_allWeights q_633 [] rfl rfl (hR_of (by omega) (by decide)) hl.1 (rest := []) rfl (Nat.le_of_ble_eq_true rfl) dX7_go_30 (fun z hz => m_X0_allWeights_2 hz) hf (fun v7 μ8 H locs hf Y => ?_)
      refine lv_istore_n (pc := 33) (lv' := [(3, .int v7), (0, .ref (ad 0)), (1, .int a0), (2, .int a1)]) hx hb dX7_go_33 rfl hl (by decide) rfl (fun ls hl => ?_)
      refine lv_iload_n (pc := 34) hx hb dX7_go_34 rfl (lv_at hl 0 rfl) ?_
      refine g_if_ne (pc := 35) (tgt := 44) E dX7_go_35 (by decide) hf (fun hf => ?_) (fun hf => ?_)
      · refine lv_aload_n (pc := 44) hx hb dX7_go_44 rfl (lv_at hl 1 rfl) ?_
        refine g_getr (pc := 45) E Y 0 0 1 S_0 rfl V_7 (by decide) AL_X7 q_301 dX7_go_45 ?_
        refine lv_iload_n (pc := 48) hx hb dX7_go_48 rfl (lv_at hl 2 rfl) ?_
        refine lv_aload_n (pc := 49) hx hb dX7_go_49 rfl (lv_at hl 1 rfl) ?_
        refine g_getr (pc := 50) E Y 0 0 1 S_0 rfl V_7 (by decide) AL_X7 q_301 dX7_go_50 ?_
        refine g_getr (pc := 53) E Y 1 1 7 S_1 rfl V_3 (by decide) AL_X3 q_302 dX7_go_53 ?_
        refine g_getr (pc := 56) E Y 7 2 10 S_7 rfl V_2 (by decide) AL_X2 q_304 dX7_go_56 ?_
        refine lv_iload_n (pc := 59) hx hb dX7_go_59 rfl (lv_at hl 2 rfl) ?_
        refine g_iald (pc := 60) E Y 10 S_10 dX7_go_60 hf (fun v9 hf => ?_)
        refine g_callVi (pc := 61) E Y 1 S_1 V_3 o_X3_weighedGains q_632 [.int a0, .int v9] rfl rfl (hR_of (by omega) (by decide)) hl.1 (rest := []) rfl (Nat.le_of_ble_eq_true rfl) dX7_go_61 (fun z hz => m_X3_weighedGains_1 hz) hf (fun v10 μ11 H locs hf Y => ?_)
        refine lv_iload_n (pc := 64) hx hb dX7_go_64 rfl (lv_at hl 0 rfl) ?_
        refine lv_iload_n (pc := 65) hx hb dX7_go_65 rfl (lv_at hl 3 rfl) ?_
        refine g_callSi (pc := 66) E Y o_X7_partOf q_635 [.int v10, .int v7, .int a1] rfl rfl (hR_of (by omega) (by decide)) hl.1 (rest := []) rfl (Nat.le_of_ble_eq_true rfl) dX7_go_66 (fun z hz => m_X7_partOf hz) hf (fun v12 μ13 H locs hf Y => ?_)
        exact g_iret (pc := 69) E Y hr hk dX7_go_69 hf
      · refine lv_aload_n (pc := 38) hx hb dX7_go_38 rfl (lv_at hl 1 rfl) ?_
        refine lv_iconst (pc := 39) (v := 3) hx hb dX7_go_39 (by decide) ?_
        refine g_callVi (pc := 40) E Y 0 S_0 V_7 o_X7_error q_656 [.int 3] rfl rfl (hR_of (by omega) (by decide)) hl.1 (rest := []) rfl (Nat.le_of_ble_eq_true rfl) dX7_go_40 (fun z hz => m_X7_error_0 hz) hf (fun v14 μ15 H locs hf Y => ?_)
        exact g_iret (pc := 43) E Y hr hk dX7_go_43 hf
    · refine lv_aload_n (pc := 17) hx hb dX7_go_17 rfl (lv_at hl 0 rfl) ?_
      refine lv_iconst (pc := 18) (v := 1) hx hb dX7_go_18 (by decide) ?_
      refine g_callVi (pc := 19) E Y 0 S_0 V_7 o_X7_error q_656 [.int 1] rfl rfl (hR_of (by omega) (by decide)) hl.1 (rest := []) rfl (Nat.le_of_ble_eq_true rfl) dX7_go_19 (fun z hz => m_X7_error_0 hz) hf (fun v16 μ17 H locs hf Y => ?_)
      exact g_iret (pc := 22) E Y hr hk dX7_go_22 hf
def f_X7_duel_0 (a0 : Int32) (a1 : Int32) (a2 : Int32) (a3 : Int32) (σ : Mem) : Res := bd (f_X7_isRunner_0 a0 σ) fun v1 μ2 => if v1 = 0 then (bd (f_X7_error_0 1 μ2) fun v3 μ4 => some (v3, μ4)) else (bd (f_X7_isPitch_0 a1 μ2) fun v5 μ6 => if v5 = 0 then (bd (f_X7_error_0 1 μ6) fun v7 μ8 => some (v7, μ8)) else (bd (f_X7_isPitch_0 a2 μ6) fun v9 μ10 => if v9 = 0 then (bd (f_X7_error_0 1 μ10) fun v11 μ12 => some (v11, μ12)) else (bd (f_X7_within a3 0 1 μ10) fun v13 μ14 => if v13 = 0 then (bd (f_X7_error_0 1 μ14) fun v40 μ41 => some (v40, μ41)) else (gi a0 5 <| nm (μ14 10 a0.toNatClampNeg) fun (v15 : Int32) => bd (f_X3_gainFrom_1 a0 a1 v15 μ14) fun v16 μ17 => bd (f_X3_gainFrom_1 a0 a2 v15 μ17) fun v18 μ19 => bd (f_X3_costs_1 a1 μ19) fun v20 μ21 => bd (f_X3_costs_1 a2 μ21) fun v22 μ23 => nm (if v18 < v16 then v18 else v16) fun (v24 : Int32) => nm (if v22 < v20 then v22 else v20) fun (v25 : Int32) => nm (if v24 < v25 then v25 else v24) fun (v26 : Int32) => nm (if v16 < v20 then v20 else v16) fun (v27 : Int32) => nm (if v18 < v22 then v22 else v18) fun (v28 : Int32) => nm (if v28 < v27 then v28 else v27) fun (v29 : Int32) => if v26 = v29 then (bd (f_X7_partOf v26 1 a3 μ23) fun v38 μ39 => some (v38, μ39)) else (nm (v16 * v22) fun (v30 : Int32) => nm (v18 * v20) fun (v31 : Int32) => nm (v30 - v31) fun (v32 : Int32) => nm (v16 + v22) fun (v33 : Int32) => nm (v33 - v18) fun (v34 : Int32) => nm (v34 - v20) fun (v35 : Int32) => bd (f_X7_partOf v32 v35 a3 μ23) fun v36 μ37 => some (v36, μ37))))))
set_option maxHeartbeats 4000000 in
set_option maxRecDepth 100000 in
theorem m_X7_duel_0 {l : Launch} {σ : Mem} {Z : Int32 × Mem} {a0 : Int32} {a1 : Int32} {a2 : Int32} {a3 : Int32} (hf : f_X7_duel_0 a0 a1 a2 a3 σ = some Z) : CT l yX7_duel cX7_duel 12 (some .int) 6 (fun ad => [.ref (ad 0), .int a0, .int a1, .int a2, .int a3]) σ Z := by
  refine g_openT RX7 (by decide) rfl (fun _ => Nat.le_of_ble_eq_true rfl) (fun p e s m below meth c D cI cB ad st ls E Y hr hk hl => ?_)
  have hx := E.1.1
  have hb := E.1.2.1
  have hl : lv_has ls 12 [(0, .ref (ad 0)), (1, .int a0), (2, .int a1), (3, .int a2), (4, .int a3)] := hl
  unfold f_X7_duel_0 at hf
  refine lv_aload_n (pc := 0) hx hb dX7_duel_0 rfl (lv_at hl 0 rfl) ?_
  refine lv_iload_n (pc := 1) hx hb dX7_duel_1 rfl (lv_at hl 1 rfl) ?_
  refine g_callVi (pc := 2) E Y 0 S_0 V_7 o_X7_isRunner q_618 [.int a0] rfl rfl (hR_of (by omega) (by decide)) hl.1 (rest := []) rfl (Nat.le_of_ble_eq_true rfl) dX7_duel_2 (fun z hz => m_X7_isRunner_0 hz) hf (fun v1 μ2 H locs hf Y => ?_)
  refine g_if_eq (pc := 5) (tgt := 34) E dX7_duel_5 (by decide) hf (fun hf => ?_) (fun hf => ?_)
  · refine lv_aload_n (pc := 34) hx hb dX7_duel_34 rfl (lv_at hl 0 rfl) ?_
    refine lv_iconst (pc := 35) (v := 1) hx hb dX7_duel_35 (by decide) ?_
    refine g_callVi (pc := 36) E Y 0 S_0 V_7 o_X7_error q_656 [.int 1] rfl rfl (hR_of (by omega) (by decide)) hl.1 (rest := []) rfl (Nat.le_of_ble_eq_true rfl) dX7_duel_36 (fun z hz => m_X7_error_0 hz) hf (fun v3 μ4 H locs hf Y => ?_)
    exact g_iret (pc := 39) E Y hr hk dX7_duel_39 hf
  · refine lv_aload_n (pc := 8) hx hb dX7_duel_8 rfl (lv_at hl 0 rfl) ?_
    refine lv_iload_n (pc := 9) hx hb dX7_duel_9 rfl (lv_at hl 2 rfl) ?_
    refine g_callVi (pc := 10) E Y 0 S_0 V_7 o_X7_isPitch q_658 [.int a1] rfl rfl (hR_of (by omega) (by decide)) hl.1 (rest := []) rfl (Nat.le_of_ble_eq_true rfl) dX7_duel_10 (fun z hz => m_X7_isPitch_0 hz) hf (fun v5 μ6 H locs hf Y => ?_)
    refine g_if_eq (pc := 13) (tgt := 34) E dX7_duel_13 (by decide) hf (fun hf => ?_) (fun hf => ?_)
    · refine lv_aload_n (pc := 34) hx hb dX7_duel_34 rfl (lv_at hl 0 rfl) ?_
      refine lv_iconst (pc := 35) (v := 1) hx hb dX7_duel_35 (by decide) ?_
      refine g_callVi (pc := 36) E Y 0 S_0 V_7 o_X7_error q_656 [.int 1] rfl rfl (hR_of (by omega) (by decide)) hl.1 (rest := []) rfl (Nat.le_of_ble_eq_true rfl) dX7_duel_36 (fun z hz => m_X7_error_0 hz) hf (fun v7 μ8 H locs hf Y => ?_)
      exact g_iret (pc := 39) E Y hr hk dX7_duel_39 hf
    · refine lv_aload_n (pc := 16) hx hb dX7_duel_16 rfl (lv_at hl 0 rfl) ?_
      refine lv_iload_n (pc := 17) hx hb dX7_duel_17 rfl (lv_at hl 3 rfl) ?_
      refine g_callVi (pc := 18) E Y 0 S_0 V_7 o_X7_isPitch q_658 [.int a2] rfl rfl (hR_of (by omega) (by decide)) hl.1 (rest := []) rfl (Nat.le_of_ble_eq_true rfl) dX7_duel_18 (fun z hz => m_X7_isPitch_0 hz) hf (fun v9 μ10 H locs hf Y => ?_)
      refine g_if_eq (pc := 21) (tgt := 34) E dX7_duel_21 (by decide) hf (fun hf => ?_) (fun hf => ?_)
      · refine lv_aload_n (pc := 34) hx hb dX7_duel_34 rfl (lv_at hl 0 rfl) ?_
        refine lv_iconst (pc := 35) (v := 1) hx hb dX7_duel_35 (by decide) ?_
        refine g_callVi (pc := 36) E Y 0 S_0 V_7 o_X7_error q_656 [.int 1] rfl rfl (hR_of (by omega) (by decide)) hl.1 (rest := []) rfl (Nat.le_of_ble_eq_true rfl) dX7_duel_36 (fun z hz => m_X7_error_0 hz) hf (fun v11 μ12 H locs hf Y => ?_)
        exact g_iret (pc := 39) E Y hr hk dX7_duel_39 hf
      · refine lv_iload (pc := 24) hx hb dX7_duel_24 (lv_at hl 4 rfl) ?_
        refine lv_iconst (pc := 26) (v := 0) hx hb dX7_duel_26 (by decide) ?_
        refine lv_iconst (pc := 27) (v := 1) hx hb dX7_duel_27 (by decide) ?_
        refine g_callSi (pc := 28) E Y o_X7_within q_661 [.int a3, .int 0, .int 1] rfl rfl (hR_of (by omega) (by decide)) hl.1 (rest := []) rfl (Nat.le_of_ble_eq_true rfl) dX7_duel_28 (fun z hz => m_X7_within hz) hf (fun v13 μ14 H locs hf Y => ?_)
        refine g_if_ne (pc := 31) (tgt := 40) E dX7_duel_31 (by decide) hf (fun hf => ?_) (fun hf => ?_)
        · refine lv_aload_n (pc := 40) hx hb dX7_duel_40 rfl (lv_at hl 0 rfl) ?_
          refine g_getr (pc := 41) E Y 0 0 1 S_0 rfl V_7 (by decide) AL_X7 q_301 dX7_duel_41 ?_
          refine g_getr (pc := 44) E Y 1 1 7 S_1 rfl V_3 (by decide) AL_X3 q_302 dX7_duel_44 ?_
          refine g_getr (pc := 47) E Y 7 2 10 S_7 rfl V_2 (by decide) AL_X2 q_304 dX7_duel_47 ?_
          refine lv_iload_n (pc := 50) hx hb dX7_duel_50 rfl (lv_at hl 1 rfl) ?_
          refine g_iald (pc := 51) E Y 10 S_10 dX7_duel_51 hf (fun v15 hf => ?_)
          refine lv_istore (pc := 52) (lv' := [(5, .int v15), (0, .ref (ad 0)), (1, .int a0), (2, .int a1), (3, .int a2), (4, .int a3)]) hx hb dX7_duel_52 hl (by decide) rfl (fun ls hl => ?_)
          refine lv_aload_n (pc := 54) hx hb dX7_duel_54 rfl (lv_at hl 1 rfl) ?_
          refine g_getr (pc := 55) E Y 0 0 1 S_0 rfl V_7 (by decide) AL_X7 q_301 dX7_duel_55 ?_
          refine lv_iload_n (pc := 58) hx hb dX7_duel_58 rfl (lv_at hl 2 rfl) ?_
          refine lv_iload_n (pc := 59) hx hb dX7_duel_59 rfl (lv_at hl 3 rfl) ?_
          refine lv_iload (pc := 60) hx hb dX7_duel_60 (lv_at hl 0 rfl) ?_
          refine g_callVi (pc := 62) E Y 1 S_1 V_3 o_X3_gainFrom q_636 [.int a0, .int a1, .int v15] rfl rfl (hR_of (by omega) (by decide)) hl.1 (rest := []) rfl (Nat.le_of_ble_eq_true rfl) dX7_duel_62 (fun z hz => m_X3_gainFrom_1 hz) hf (fun v16 μ17 H locs hf Y => ?_)
          refine lv_istore (pc := 65) (lv' := [(6, .int v16), (5, .int v15), (0, .ref (ad 0)), (1, .int a0), (2, .int a1), (3, .int a2), (4, .int a3)]) hx hb dX7_duel_65 hl (by decide) rfl (fun ls hl => ?_)
          refine lv_aload_n (pc := 67) hx hb dX7_duel_67 rfl (lv_at hl 2 rfl) ?_
          refine g_getr (pc := 68) E Y 0 0 1 S_0 rfl V_7 (by decide) AL_X7 q_301 dX7_duel_68 ?_
          refine lv_iload_n (pc := 71) hx hb dX7_duel_71 rfl (lv_at hl 3 rfl) ?_
          refine lv_iload_n (pc := 72) hx hb dX7_duel_72 rfl (lv_at hl 5 rfl) ?_
          refine lv_iload (pc := 73) hx hb dX7_duel_73 (lv_at hl 1 rfl) ?_
          refine g_callVi (pc := 75) E Y 1 S_1 V_3 o_X3_gainFrom q_636 [.int a0, .int a2, .int v15] rfl rfl (hR_of (by omega) (by decide)) hl.1 (rest := []) rfl (Nat.le_of_ble_eq_true rfl) dX7_duel_75 (fun z hz => m_X3_gainFrom_1 hz) hf (fun v18 μ19 H locs hf Y => ?_)
          refine lv_istore (pc := 78) (lv' := [(7, .int v18), (6, .int v16), (5, .int v15), (0, .ref (ad 0)), (1, .int a0), (2, .int a1), (3, .int a2), (4, .int a3)]) hx hb dX7_duel_78 hl (by decide) rfl (fun ls hl => ?_)
          refine lv_aload_n (pc := 80) hx hb dX7_duel_80 rfl (lv_at hl 3 rfl) ?_
          refine g_getr (pc := 81) E Y 0 0 1 S_0 rfl V_7 (by decide) AL_X7 q_301 dX7_duel_81 ?_
          refine lv_iload_n (pc := 84) hx hb dX7_duel_84 rfl (lv_at hl 5 rfl) ?_
          refine g_callVi (pc := 85) E Y 1 S_1 V_3 o_X3_costs q_660 [.int a1] rfl rfl (hR_of (by omega) (by decide)) hl.1 (rest := []) rfl (Nat.le_of_ble_eq_true rfl) dX7_duel_85 (fun z hz => m_X3_costs_1 hz) hf (fun v20 μ21 H locs hf Y => ?_)
          refine lv_istore (pc := 88) (lv' := [(8, .int v20), (7, .int v18), (6, .int v16), (5, .int v15), (0, .ref (ad 0)), (1, .int a0), (2, .int a1), (3, .int a2), (4, .int a3)]) hx hb dX7_duel_88 hl (by decide) rfl (fun ls hl => ?_)
          refine lv_aload_n (pc := 90) hx hb dX7_duel_90 rfl (lv_at hl 4 rfl) ?_
          refine g_getr (pc := 91) E Y 0 0 1 S_0 rfl V_7 (by decide) AL_X7 q_301 dX7_duel_91 ?_
          refine lv_iload_n (pc := 94) hx hb dX7_duel_94 rfl (lv_at hl 7 rfl) ?_
          refine g_callVi (pc := 95) E Y 1 S_1 V_3 o_X3_costs q_660 [.int a2] rfl rfl (hR_of (by omega) (by decide)) hl.1 (rest := []) rfl (Nat.le_of_ble_eq_true rfl) dX7_duel_95 (fun z hz => m_X3_costs_1 hz) hf (fun v22 μ23 H locs hf Y => ?_)
          refine lv_istore (pc := 98) (lv' := [(9, .int v22), (8, .int v20), (7, .int v18), (6, .int v16), (5, .int v15), (0, .ref (ad 0)), (1, .int a0), (2, .int a1), (3, .int a2), (4, .int a3)]) hx hb dX7_duel_98 hl (by decide) rfl (fun ls hl => ?_)
          refine lv_iload (pc := 100) hx hb dX7_duel_100 (lv_at hl 3 rfl) ?_
          refine lv_iload (pc := 102) hx hb dX7_duel_102 (lv_at hl 2 rfl) ?_
          refine g_mmin (pc := 104) E hl.1 q_637 q_902 q_359 q_12 (hR_one (by omega)) (hR_lo (by omega) (Nat.le_of_ble_eq_true rfl)) dX7_duel_104 hf (fun v24 hf => ?_)
          refine lv_iload (pc := 107) hx hb dX7_duel_107 (lv_at hl 1 rfl) ?_
          refine lv_iload (pc := 109) hx hb dX7_duel_109 (lv_at hl 0 rfl) ?_
          refine g_mmin (pc := 111) E hl.1 q_637 q_902 q_359 q_12 (hR_one (by omega)) (hR_lo (by omega) (Nat.le_of_ble_eq_true rfl)) dX7_duel_111 hf (fun v25 hf => ?_)
          refine g_mmax (pc := 114) E hl.1 q_638 q_901 q_359 q_11 (hR_one (by omega)) (hR_lo (by omega) (Nat.le_of_ble_eq_true rfl)) dX7_duel_114 hf (fun v26 hf => ?_)
          refine lv_istore (pc := 117) (lv' := [(10, .int v26), (9, .int v22), (8, .int v20), (7, .int v18), (6, .int v16), (5, .int v15), (0, .ref (ad 0)), (1, .int a0), (2, .int a1), (3, .int a2), (4, .int a3)]) hx hb dX7_duel_117 hl (by decide) rfl (fun ls hl => ?_)
          refine lv_iload (pc := 119) hx hb dX7_duel_119 (lv_at hl 4 rfl) ?_
          refine lv_iload (pc := 121) hx hb dX7_duel_121 (lv_at hl 2 rfl) ?_
          refine g_mmax (pc := 123) E hl.1 q_638 q_901 q_359 q_11 (hR_one (by omega)) (hR_lo (by omega) (Nat.le_of_ble_eq_true rfl)) dX7_duel_123 hf (fun v27 hf => ?_)
          refine lv_iload (pc := 126) hx hb dX7_duel_126 (lv_at hl 3 rfl) ?_
          refine lv_iload (pc := 128) hx hb dX7_duel_128 (lv_at hl 1 rfl) ?_
          refine g_mmax (pc := 130) E hl.1 q_638 q_901 q_359 q_11 (hR_one (by omega)) (hR_lo (by omega) (Nat.le_of_ble_eq_true rfl)) dX7_duel_130 hf (fun v28 hf => ?_)
          refine g_mmin (pc := 133) E hl.1 q_637 q_902 q_359 q_12 (hR_one (by omega)) (hR_lo (by omega) (Nat.le_of_ble_eq_true rfl)) dX7_duel_133 hf (fun v29 hf => ?_)
          refine lv_istore (pc := 136) (lv' := [(11, .int v29), (10, .int v26), (9, .int v22), (8, .int v20), (7, .int v18), (6, .int v16), (5, .int v15), (0, .ref (ad 0)), (1, .int a0), (2, .int a1), (3, .int a2), (4, .int a3)]) hx hb dX7_duel_136 hl (by decide) rfl (fun ls hl => ?_)
          refine lv_iload (pc := 138) hx hb dX7_duel_138 (lv_at hl 1 rfl) ?_
          refine lv_iload (pc := 140) hx hb dX7_duel_140 (lv_at hl 0 rfl) ?_
          refine g_icmp_ne (pc := 142) (tgt := 154) E dX7_duel_142 (by decide) hf (fun hf => ?_) (fun hf => ?_)
          · refine lv_iload (pc := 154) hx hb dX7_duel_154 (lv_at hl 5 rfl) ?_
            refine lv_iload (pc := 156) hx hb dX7_duel_156 (lv_at hl 2 rfl) ?_
            refine g_imul (pc := 158) E dX7_duel_158 hf (fun v30 hf => ?_)
            refine lv_iload (pc := 159) hx hb dX7_duel_159 (lv_at hl 4 rfl) ?_
            refine lv_iload (pc := 161) hx hb dX7_duel_161 (lv_at hl 3 rfl) ?_
            refine g_imul (pc := 163) E dX7_duel_163 hf (fun v31 hf => ?_)
            refine g_isub (pc := 164) E dX7_duel_164 hf (fun v32 hf => ?_)
            refine lv_iload (pc := 165) hx hb dX7_duel_165 (lv_at hl 5 rfl) ?_
            refine lv_iload (pc := 167) hx hb dX7_duel_167 (lv_at hl 2 rfl) ?_
            refine g_iadd (pc := 169) E dX7_duel_169 hf (fun v33 hf => ?_)
            refine lv_iload (pc := 170) hx hb dX7_duel_170 (lv_at hl 4 rfl) ?_
            refine g_isub (pc := 172) E dX7_duel_172 hf (fun v34 hf => ?_)
            refine lv_iload (pc := 173) hx hb dX7_duel_173 (lv_at hl 3 rfl) ?_
            refine g_isub (pc := 175) E dX7_duel_175 hf (fun v35 hf => ?_)
            refine lv_iload (pc := 176) hx hb dX7_duel_176 (lv_at hl 11 rfl) ?_
            refine g_callSi (pc := 178) E Y o_X7_partOf q_635 [.int v32, .int v35, .int a3] rfl rfl (hR_of (by omega) (by decide)) hl.1 (rest := []) rfl (Nat.le_of_ble_eq_true rfl) dX7_duel_178 (fun z hz => m_X7_partOf hz) hf (fun v36 μ37 H locs hf Y => ?_)
            exact g_iret (pc := 181) E Y hr hk dX7_duel_181 hf
          · refine lv_iload (pc := 145) hx hb dX7_duel_145 (lv_at hl 1 rfl) ?_
            refine lv_iconst (pc := 147) (v := 1) hx hb dX7_duel_147 (by decide) ?_
            refine lv_iload (pc := 148) hx hb dX7_duel_148 (lv_at hl 11 rfl) ?_
            refine g_callSi (pc := 150) E Y o_X7_partOf q_635 [.int v26, .int 1, .int a3] rfl rfl (hR_of (by omega) (by decide)) hl.1 (rest := []) rfl (Nat.le_of_ble_eq_true rfl) dX7_duel_150 (fun z hz => m_X7_partOf hz) hf (fun v38 μ39 H locs hf Y => ?_)
            exact g_iret (pc := 153) E Y hr hk dX7_duel_153 hf
        · refine lv_aload_n (pc := 34) hx hb dX7_duel_34 rfl (lv_at hl 0 rfl) ?_
          refine lv_iconst (pc := 35) (v := 1) hx hb dX7_duel_35 (by decide) ?_
          refine g_callVi (pc := 36) E Y 0 S_0 V_7 o_X7_error q_656 [.int 1] rfl rfl (hR_of (by omega) (by decide)) hl.1 (rest := []) rfl (Nat.le_of_ble_eq_true rfl) dX7_duel_36 (fun z hz => m_X7_error_0 hz) hf (fun v40 μ41 H locs hf Y => ?_)
          exact g_iret (pc := 39) E Y hr hk dX7_duel_39 hf
def fb_X3_safePitches_1_L5 (bk : Int32 → Int32 → Int32 → Int32 → Mem → Res) (x1 : Int32) (x2 : Int32) (x3 : Int32) (x4 : Int32) (σ : Mem) : Res := nm (σ 2 4) fun (v1 : Int32) => if v1 ≤ x4 then (some (x3, σ)) else (bd (f_X3_marginFrom_1 x1 x4 x2 σ) fun v2 μ3 => if v2 < 0 then (nm (x4 + 1) fun (v4 : Int32) => bk x1 x2 x3 v4 μ3) else (nm (1 <<< (x4 &&& 31)) fun (v5 : Int32) => nm (x3 ||| v5) fun (v6 : Int32) => nm (x4 + 1) fun (v7 : Int32) => bk x1 x2 v6 v7 μ3))
def f_X3_safePitches_1_L5 : Nat → Int32 → Int32 → Int32 → Int32 → Mem → Res
  | 0, _, _, _, _, _ => none
  | n + 1, x1, x2, x3, x4, σ => fb_X3_safePitches_1_L5 (f_X3_safePitches_1_L5 n) x1 x2 x3 x4 σ
def f_X3_safePitches_1 (a0 : Int32) (a1 : Int32) (σ : Mem) : Res := f_X3_safePitches_1_L5 1000 a0 a1 0 0 σ
set_option maxHeartbeats 4000000 in
set_option maxRecDepth 100000 in
theorem m_X3_safePitches_1 {l : Launch} {σ : Mem} {Z : Int32 × Mem} {a0 : Int32} {a1 : Int32} (hf : f_X3_safePitches_1 a0 a1 σ = some Z) : CT l yX3_safePitches cX3_safePitches 5 (some .int) 5 (fun ad => [.ref (ad 1), .int a0, .int a1]) σ Z := by
  refine g_openT RX3 (by decide) rfl (fun _ => Nat.le_of_ble_eq_true rfl) (fun p e s m below meth c D cI cB ad st ls E Y hr hk hl => ?_)
  have hx := E.1.1
  have hb := E.1.2.1
  have hl : lv_has ls 5 [(0, .ref (ad 1)), (1, .int a0), (2, .int a1)] := hl
  have hL_5 : ∀ (n : Nat) (x1 : Int32) (x2 : Int32) (x3 : Int32) (x4 : Int32) (σ : Mem) (H : Heap) (locs : List Loc) (ls : Array Slot), f_X3_safePitches_1_L5 n x1 x2 x3 x4 σ = some Z → Wo D cI cB ad (AA ad) σ s H locs → lv_has ls 5 [(0, .ref (ad 1)), (1, .int x1), (2, .int x2), (3, .int x3), (4, .int x4)] → W p l e (rmd 5) s m ([.ref (ad 1), .int a0, .int a1] : List Value).toArray below meth c H locs 0 0 (QT_ below D cI cB ad st Z ([.ref (ad 1), .int a0, .int a1] : List Value).toArray s) (F0 m 5 ls []) := by
    intro n
    induction n with
    | zero =>
      intro x1 x2 x3 x4 σ H locs ls hf
      cases (show (none : Res) = some Z from hf)
    | succ n ih =>
      intro x1 x2 x3 x4 σ H locs ls hf Y hl
      have hf : fb_X3_safePitches_1_L5 (f_X3_safePitches_1_L5 n) x1 x2 x3 x4 σ = some Z := hf
      unfold fb_X3_safePitches_1_L5 at hf
      refine lv_iload (pc := 5) hx hb dX3_safePitches_5 (lv_at hl 4 rfl) ?_
      refine lv_aload_n (pc := 7) hx hb dX3_safePitches_7 rfl (lv_at hl 0 rfl) ?_
      refine g_getr (pc := 8) E Y 1 0 2 S_1 rfl V_3 (by decide) AL_X3 q_265 dX3_safePitches_8 ?_
      refine g_geti (pc := 11) E Y 2 4 S_2 rfl V_0 (by decide) AL_X0 q_266 dX3_safePitches_11 hf (fun v1 hf => ?_)
      refine g_icmp_ge (pc := 14) (tgt := 41) E dX3_safePitches_14 (by decide) hf (fun hf => ?_) (fun hf => ?_)
      · refine lv_iload_n (pc := 41) hx hb dX3_safePitches_41 rfl (lv_at hl 3 rfl) ?_
        exact g_iret (pc := 42) E Y hr hk dX3_safePitches_42 hf
      · refine lv_aload_n (pc := 17) hx hb dX3_safePitches_17 rfl (lv_at hl 0 rfl) ?_
        refine lv_iload_n (pc := 18) hx hb dX3_safePitches_18 rfl (lv_at hl 1 rfl) ?_
        refine lv_iload (pc := 19) hx hb dX3_safePitches_19 (lv_at hl 4 rfl) ?_
        refine lv_iload_n (pc := 21) hx hb dX3_safePitches_21 rfl (lv_at hl 2 rfl) ?_
        refine g_callVi (pc := 22) E Y 1 S_1 V_3 o_X3_marginFrom q_585 [.int x1, .int x4, .int x2] rfl rfl (hR_of (by omega) (by decide)) hl.1 (rest := []) rfl (Nat.le_of_ble_eq_true rfl) dX3_safePitches_22 (fun z hz => m_X3_marginFrom_1 hz) hf (fun v2 μ3 H locs hf Y => ?_)
        refine g_if_lt (pc := 25) (tgt := 35) E dX3_safePitches_25 (by decide) hf (fun hf => ?_) (fun hf => ?_)
        · refine g_iinc (pc := 35) E (fun v4 => [(4, .int v4), (0, .ref (ad 1)), (1, .int x1), (2, .int x2), (3, .int x3)]) dX3_safePitches_35 hl (k := 4) rfl (t := 1) (by decide) (by decide) (fun _ => rfl) hf (fun v4 hf ls hl => ?_)
          refine lv_goto (pc := 38) (tgt := 5) hx hb dX3_safePitches_38 (by decide) ?_
          exact ih _ _ _ _ _ _ _ _ hf Y (lv_sub hl [1, 2, 3, 4, 0] rfl)
        · refine lv_iload_n (pc := 28) hx hb dX3_safePitches_28 rfl (lv_at hl 3 rfl) ?_
          refine lv_iconst (pc := 29) (v := 1) hx hb dX3_safePitches_29 (by decide) ?_
          refine lv_iload (pc := 30) hx hb dX3_safePitches_30 (lv_at hl 4 rfl) ?_
          refine g_ishl (pc := 32) E dX3_safePitches_32 hf (fun v5 hf => ?_)
          refine g_ior (pc := 33) E dX3_safePitches_33 hf (fun v6 hf => ?_)
          refine lv_istore_n (pc := 34) (lv' := [(3, .int v6), (0, .ref (ad 1)), (1, .int x1), (2, .int x2), (4, .int x4)]) hx hb dX3_safePitches_34 rfl hl (by decide) rfl (fun ls hl => ?_)
          refine g_iinc (pc := 35) E (fun v7 => [(4, .int v7), (3, .int v6), (0, .ref (ad 1)), (1, .int x1), (2, .int x2)]) dX3_safePitches_35 hl (k := 4) rfl (t := 1) (by decide) (by decide) (fun _ => rfl) hf (fun v7 hf ls hl => ?_)
          refine lv_goto (pc := 38) (tgt := 5) hx hb dX3_safePitches_38 (by decide) ?_
          exact ih _ _ _ _ _ _ _ _ hf Y (lv_sub hl [2, 3, 4, 1, 0] rfl)
  unfold f_X3_safePitches_1 at hf
  refine lv_iconst (pc := 0) (v := 0) hx hb dX3_safePitches_0 (by decide) ?_
  refine lv_istore_n (pc := 1) (lv' := [(3, .int 0), (0, .ref (ad 1)), (1, .int a0), (2, .int a1)]) hx hb dX3_safePitches_1 rfl hl (by decide) rfl (fun ls hl => ?_)
  refine lv_iconst (pc := 2) (v := 0) hx hb dX3_safePitches_2 (by decide) ?_
  refine lv_istore (pc := 3) (lv' := [(4, .int 0), (3, .int 0), (0, .ref (ad 1)), (1, .int a0), (2, .int a1)]) hx hb dX3_safePitches_3 hl (by decide) rfl (fun ls hl => ?_)
  exact hL_5 1000 _ _ _ _ _ _ _ _ hf Y (lv_sub hl [2, 3, 4, 1, 0] rfl)
def f_J6_bitCount_0f7a4 (a0 : Int32) (σ : Mem) : Res := nm ((a0.toUInt32 >>> ((1 : Int32).toUInt32 &&& Int32.toUInt32 31)).toInt32) fun (v1 : Int32) => nm (v1 &&& 1431655765) fun (v2 : Int32) => nm (a0 - v2) fun (v3 : Int32) => nm (v3 &&& 858993459) fun (v4 : Int32) => nm ((v3.toUInt32 >>> ((2 : Int32).toUInt32 &&& Int32.toUInt32 31)).toInt32) fun (v5 : Int32) => nm (v5 &&& 858993459) fun (v6 : Int32) => nm (v4 + v6) fun (v7 : Int32) => nm ((v7.toUInt32 >>> ((4 : Int32).toUInt32 &&& Int32.toUInt32 31)).toInt32) fun (v8 : Int32) => nm (v7 + v8) fun (v9 : Int32) => nm (v9 &&& 252645135) fun (v10 : Int32) => nm ((v10.toUInt32 >>> ((8 : Int32).toUInt32 &&& Int32.toUInt32 31)).toInt32) fun (v11 : Int32) => nm (v10 + v11) fun (v12 : Int32) => nm ((v12.toUInt32 >>> ((16 : Int32).toUInt32 &&& Int32.toUInt32 31)).toInt32) fun (v13 : Int32) => nm (v12 + v13) fun (v14 : Int32) => nm (v14 &&& 63) fun (v15 : Int32) => some (v15, σ)
set_option maxHeartbeats 4000000 in
set_option maxRecDepth 100000 in
theorem m_J6_bitCount_0f7a4 {l : Launch} {σ : Mem} {Z : Int32 × Mem} {a0 : Int32} (hf : f_J6_bitCount_0f7a4 a0 σ = some Z) : CT l yJ6_bitCount_0f7a4 cJ6_bitCount_0f7a4 1 (some .int) 0 (fun _ => [.int a0]) σ Z := by
  refine g_openT RJ6 (by decide) rfl (fun _ => Nat.le_of_ble_eq_true rfl) (fun p e s m below meth c D cI cB ad st ls E Y hr hk hl => ?_)
  have hx := E.1.1
  have hb := E.1.2.1
  have hl : lv_has ls 1 [(0, .int a0)] := hl
  unfold f_J6_bitCount_0f7a4 at hf
  refine lv_iload_n (pc := 0) hx hb dJ6_bitCount_0f7a4_0 rfl (lv_at hl 0 rfl) ?_
  refine lv_iload_n (pc := 1) hx hb dJ6_bitCount_0f7a4_1 rfl (lv_at hl 0 rfl) ?_
  refine lv_iconst (pc := 2) (v := 1) hx hb dJ6_bitCount_0f7a4_2 (by decide) ?_
  refine g_iushr (pc := 3) E dJ6_bitCount_0f7a4_3 hf (fun v1 hf => ?_)
  refine lv_ldcw (pc := 4) (v := 1431655765) hx hb E.1.2.2.2.1 (E.1.2.2.2.2 _ q_227) dJ6_bitCount_0f7a4_4 ?_
  refine g_iand (pc := 7) E dJ6_bitCount_0f7a4_7 hf (fun v2 hf => ?_)
  refine g_isub (pc := 8) E dJ6_bitCount_0f7a4_8 hf (fun v3 hf => ?_)
  refine lv_istore_n (pc := 9) (lv' := [(0, .int v3)]) hx hb dJ6_bitCount_0f7a4_9 rfl hl (by decide) rfl (fun ls hl => ?_)
  refine lv_iload_n (pc := 10) hx hb dJ6_bitCount_0f7a4_10 rfl (lv_at hl 0 rfl) ?_
  refine lv_ldcw (pc := 11) (v := 858993459) hx hb E.1.2.2.2.1 (E.1.2.2.2.2 _ q_228) dJ6_bitCount_0f7a4_11 ?_
  refine g_iand (pc := 14) E dJ6_bitCount_0f7a4_14 hf (fun v4 hf => ?_)
  refine lv_iload_n (pc := 15) hx hb dJ6_bitCount_0f7a4_15 rfl (lv_at hl 0 rfl) ?_
  refine lv_iconst (pc := 16) (v := 2) hx hb dJ6_bitCount_0f7a4_16 (by decide) ?_
  refine g_iushr (pc := 17) E dJ6_bitCount_0f7a4_17 hf (fun v5 hf => ?_)
  refine lv_ldcw (pc := 18) (v := 858993459) hx hb E.1.2.2.2.1 (E.1.2.2.2.2 _ q_228) dJ6_bitCount_0f7a4_18 ?_
  refine g_iand (pc := 21) E dJ6_bitCount_0f7a4_21 hf (fun v6 hf => ?_)
  refine g_iadd (pc := 22) E dJ6_bitCount_0f7a4_22 hf (fun v7 hf => ?_)
  refine lv_istore_n (pc := 23) (lv' := [(0, .int v7)]) hx hb dJ6_bitCount_0f7a4_23 rfl hl (by decide) rfl (fun ls hl => ?_)
  refine lv_iload_n (pc := 24) hx hb dJ6_bitCount_0f7a4_24 rfl (lv_at hl 0 rfl) ?_
  refine lv_iload_n (pc := 25) hx hb dJ6_bitCount_0f7a4_25 rfl (lv_at hl 0 rfl) ?_
  refine lv_iconst (pc := 26) (v := 4) hx hb dJ6_bitCount_0f7a4_26 (by decide) ?_
  refine g_iushr (pc := 27) E dJ6_bitCount_0f7a4_27 hf (fun v8 hf => ?_)
  refine g_iadd (pc := 28) E dJ6_bitCount_0f7a4_28 hf (fun v9 hf => ?_)
  refine lv_ldcw (pc := 29) (v := 252645135) hx hb E.1.2.2.2.1 (E.1.2.2.2.2 _ q_229) dJ6_bitCount_0f7a4_29 ?_
  refine g_iand (pc := 32) E dJ6_bitCount_0f7a4_32 hf (fun v10 hf => ?_)
  refine lv_istore_n (pc := 33) (lv' := [(0, .int v10)]) hx hb dJ6_bitCount_0f7a4_33 rfl hl (by decide) rfl (fun ls hl => ?_)
  refine lv_iload_n (pc := 34) hx hb dJ6_bitCount_0f7a4_34 rfl (lv_at hl 0 rfl) ?_
  refine lv_iload_n (pc := 35) hx hb dJ6_bitCount_0f7a4_35 rfl (lv_at hl 0 rfl) ?_
  refine lv_bipush (pc := 36) (v := 8) hx hb dJ6_bitCount_0f7a4_36 (by decide) ?_
  refine g_iushr (pc := 38) E dJ6_bitCount_0f7a4_38 hf (fun v11 hf => ?_)
  refine g_iadd (pc := 39) E dJ6_bitCount_0f7a4_39 hf (fun v12 hf => ?_)
  refine lv_istore_n (pc := 40) (lv' := [(0, .int v12)]) hx hb dJ6_bitCount_0f7a4_40 rfl hl (by decide) rfl (fun ls hl => ?_)
  refine lv_iload_n (pc := 41) hx hb dJ6_bitCount_0f7a4_41 rfl (lv_at hl 0 rfl) ?_
  refine lv_iload_n (pc := 42) hx hb dJ6_bitCount_0f7a4_42 rfl (lv_at hl 0 rfl) ?_
  refine lv_bipush (pc := 43) (v := 16) hx hb dJ6_bitCount_0f7a4_43 (by decide) ?_
  refine g_iushr (pc := 45) E dJ6_bitCount_0f7a4_45 hf (fun v13 hf => ?_)
  refine g_iadd (pc := 46) E dJ6_bitCount_0f7a4_46 hf (fun v14 hf => ?_)
  refine lv_istore_n (pc := 47) (lv' := [(0, .int v14)]) hx hb dJ6_bitCount_0f7a4_47 rfl hl (by decide) rfl (fun ls hl => ?_)
  refine lv_iload_n (pc := 48) hx hb dJ6_bitCount_0f7a4_48 rfl (lv_at hl 0 rfl) ?_
  refine lv_bipush (pc := 49) (v := 63) hx hb dJ6_bitCount_0f7a4_49 (by decide) ?_
  refine g_iand (pc := 51) E dJ6_bitCount_0f7a4_51 hf (fun v15 hf => ?_)
  exact g_iret (pc := 52) E Y hr hk dJ6_bitCount_0f7a4_52 hf
def f_X7_surely_0 (a0 : Int32) (a1 : Int32) (σ : Mem) : Res := bd (f_X7_isRunner_0 a0 σ) fun v1 μ2 => if v1 = 0 then (bd (f_X7_error_0 1 μ2) fun v3 μ4 => some (v3, μ4)) else (bd (f_X7_within a1 0 1 μ2) fun v5 μ6 => if v5 = 0 then (bd (f_X7_error_0 1 μ6) fun v12 μ13 => some (v12, μ13)) else (gi a0 5 <| nm (μ6 10 a0.toNatClampNeg) fun (v7 : Int32) => bd (f_X3_safePitches_1 a0 v7 μ6) fun v8 μ9 => if a1 = 0 then (some (v8, μ9)) else (bd (f_J6_bitCount_0f7a4 v8 μ9) fun v10 μ11 => some (v10, μ11))))
set_option maxHeartbeats 4000000 in
set_option maxRecDepth 100000 in
theorem m_X7_surely_0 {l : Launch} {σ : Mem} {Z : Int32 × Mem} {a0 : Int32} {a1 : Int32} (hf : f_X7_surely_0 a0 a1 σ = some Z) : CT l yX7_surely cX7_surely 4 (some .int) 6 (fun ad => [.ref (ad 0), .int a0, .int a1]) σ Z := by
  refine g_openT RX7 (by decide) rfl (fun _ => Nat.le_of_ble_eq_true rfl) (fun p e s m below meth c D cI cB ad st ls E Y hr hk hl => ?_)
  have hx := E.1.1
  have hb := E.1.2.1
  have hl : lv_has ls 4 [(0, .ref (ad 0)), (1, .int a0), (2, .int a1)] := hl
  unfold f_X7_surely_0 at hf
  refine lv_aload_n (pc := 0) hx hb dX7_surely_0 rfl (lv_at hl 0 rfl) ?_
  refine lv_iload_n (pc := 1) hx hb dX7_surely_1 rfl (lv_at hl 1 rfl) ?_
  refine g_callVi (pc := 2) E Y 0 S_0 V_7 o_X7_isRunner q_618 [.int a0] rfl rfl (hR_of (by omega) (by decide)) hl.1 (rest := []) rfl (Nat.le_of_ble_eq_true rfl) dX7_surely_2 (fun z hz => m_X7_isRunner_0 hz) hf (fun v1 μ2 H locs hf Y => ?_)
  refine g_if_eq (pc := 5) (tgt := 17) E dX7_surely_5 (by decide) hf (fun hf => ?_) (fun hf => ?_)
  · refine lv_aload_n (pc := 17) hx hb dX7_surely_17 rfl (lv_at hl 0 rfl) ?_
    refine lv_iconst (pc := 18) (v := 1) hx hb dX7_surely_18 (by decide) ?_
    refine g_callVi (pc := 19) E Y 0 S_0 V_7 o_X7_error q_656 [.int 1] rfl rfl (hR_of (by omega) (by decide)) hl.1 (rest := []) rfl (Nat.le_of_ble_eq_true rfl) dX7_surely_19 (fun z hz => m_X7_error_0 hz) hf (fun v3 μ4 H locs hf Y => ?_)
    exact g_iret (pc := 22) E Y hr hk dX7_surely_22 hf
  · refine lv_iload_n (pc := 8) hx hb dX7_surely_8 rfl (lv_at hl 2 rfl) ?_
    refine lv_iconst (pc := 9) (v := 0) hx hb dX7_surely_9 (by decide) ?_
    refine lv_iconst (pc := 10) (v := 1) hx hb dX7_surely_10 (by decide) ?_
    refine g_callSi (pc := 11) E Y o_X7_within q_661 [.int a1, .int 0, .int 1] rfl rfl (hR_of (by omega) (by decide)) hl.1 (rest := []) rfl (Nat.le_of_ble_eq_true rfl) dX7_surely_11 (fun z hz => m_X7_within hz) hf (fun v5 μ6 H locs hf Y => ?_)
    refine g_if_ne (pc := 14) (tgt := 23) E dX7_surely_14 (by decide) hf (fun hf => ?_) (fun hf => ?_)
    · refine lv_aload_n (pc := 23) hx hb dX7_surely_23 rfl (lv_at hl 0 rfl) ?_
      refine g_getr (pc := 24) E Y 0 0 1 S_0 rfl V_7 (by decide) AL_X7 q_301 dX7_surely_24 ?_
      refine lv_iload_n (pc := 27) hx hb dX7_surely_27 rfl (lv_at hl 1 rfl) ?_
      refine lv_aload_n (pc := 28) hx hb dX7_surely_28 rfl (lv_at hl 0 rfl) ?_
      refine g_getr (pc := 29) E Y 0 0 1 S_0 rfl V_7 (by decide) AL_X7 q_301 dX7_surely_29 ?_
      refine g_getr (pc := 32) E Y 1 1 7 S_1 rfl V_3 (by decide) AL_X3 q_302 dX7_surely_32 ?_
      refine g_getr (pc := 35) E Y 7 2 10 S_7 rfl V_2 (by decide) AL_X2 q_304 dX7_surely_35 ?_
      refine lv_iload_n (pc := 38) hx hb dX7_surely_38 rfl (lv_at hl 1 rfl) ?_
      refine g_iald (pc := 39) E Y 10 S_10 dX7_surely_39 hf (fun v7 hf => ?_)
      refine g_callVi (pc := 40) E Y 1 S_1 V_3 o_X3_safePitches q_639 [.int a0, .int v7] rfl rfl (hR_of (by omega) (by decide)) hl.1 (rest := []) rfl (Nat.le_of_ble_eq_true rfl) dX7_surely_40 (fun z hz => m_X3_safePitches_1 hz) hf (fun v8 μ9 H locs hf Y => ?_)
      refine lv_istore_n (pc := 43) (lv' := [(3, .int v8), (0, .ref (ad 0)), (1, .int a0), (2, .int a1)]) hx hb dX7_surely_43 rfl hl (by decide) rfl (fun ls hl => ?_)
      refine lv_iload_n (pc := 44) hx hb dX7_surely_44 rfl (lv_at hl 3 rfl) ?_
      refine g_if_ne (pc := 45) (tgt := 52) E dX7_surely_45 (by decide) hf (fun hf => ?_) (fun hf => ?_)
      · refine lv_iload_n (pc := 52) hx hb dX7_surely_52 rfl (lv_at hl 0 rfl) ?_
        refine g_callSi (pc := 53) E Y o_J6_bitCount_0f7a4 q_640 [.int v8] rfl rfl (hR_of (by omega) (by decide)) hl.1 (rest := []) rfl (Nat.le_of_ble_eq_true rfl) dX7_surely_53 (fun z hz => m_J6_bitCount_0f7a4 hz) hf (fun v10 μ11 H locs hf Y => ?_)
        exact g_iret (pc := 56) E Y hr hk dX7_surely_56 hf
      · refine lv_iload_n (pc := 48) hx hb dX7_surely_48 rfl (lv_at hl 0 rfl) ?_
        refine lv_goto (pc := 49) (tgt := 56) hx hb dX7_surely_49 (by decide) ?_
        exact g_iret (pc := 56) E Y hr hk dX7_surely_56 hf
    · refine lv_aload_n (pc := 17) hx hb dX7_surely_17 rfl (lv_at hl 0 rfl) ?_
      refine lv_iconst (pc := 18) (v := 1) hx hb dX7_surely_18 (by decide) ?_
      refine g_callVi (pc := 19) E Y 0 S_0 V_7 o_X7_error q_656 [.int 1] rfl rfl (hR_of (by omega) (by decide)) hl.1 (rest := []) rfl (Nat.le_of_ble_eq_true rfl) dX7_surely_19 (fun z hz => m_X7_error_0 hz) hf (fun v12 μ13 H locs hf Y => ?_)
      exact g_iret (pc := 22) E Y hr hk dX7_surely_22 hf
def f_X7_isSheet (a0 : Int32) (σ : Mem) : Res := bd (f_X7_within a0 0 3 σ) fun v1 μ2 => gb v1 (some (v1, μ2))
set_option maxHeartbeats 4000000 in
set_option maxRecDepth 100000 in
theorem m_X7_isSheet {l : Launch} {σ : Mem} {Z : Int32 × Mem} {a0 : Int32} (hf : f_X7_isSheet a0 σ = some Z) : CT l yX7_isSheet cX7_isSheet 1 (some .boolean) 1 (fun _ => [.int a0]) σ Z := by
  refine g_openT RX7 (by decide) rfl (fun _ => Nat.le_of_ble_eq_true rfl) (fun p e s m below meth c D cI cB ad st ls E Y hr hk hl => ?_)
  have hx := E.1.1
  have hb := E.1.2.1
  have hl : lv_has ls 1 [(0, .int a0)] := hl
  unfold f_X7_isSheet at hf
  refine lv_iload_n (pc := 0) hx hb dX7_isSheet_0 rfl (lv_at hl 0 rfl) ?_
  refine lv_iconst (pc := 1) (v := 0) hx hb dX7_isSheet_1 (by decide) ?_
  refine lv_iconst (pc := 2) (v := 3) hx hb dX7_isSheet_2 (by decide) ?_
  refine g_callSi (pc := 3) E Y o_X7_within q_661 [.int a0, .int 0, .int 3] rfl rfl (hR_of (by omega) (by decide)) hl.1 (rest := []) rfl (Nat.le_of_ble_eq_true rfl) dX7_isSheet_3 (fun z hz => m_X7_within hz) hf (fun v1 μ2 H locs hf Y => ?_)
  exact g_zret (pc := 6) E Y hr hk dX7_isSheet_6 hf
def f_X4_isMissing_46 (a0 : Int32) (σ : Mem) : Res := gi a0 4 <| nm (σ 47 a0.toNatClampNeg) fun (v1 : Int32) => if v1 = 0 then (gb 1 (some (1, σ))) else (gb 0 (some (0, σ)))
set_option maxHeartbeats 4000000 in
set_option maxRecDepth 100000 in
theorem m_X4_isMissing_46 {l : Launch} {σ : Mem} {Z : Int32 × Mem} {a0 : Int32} (hf : f_X4_isMissing_46 a0 σ = some Z) : CT l yX4_isMissing cX4_isMissing 2 (some .boolean) 0 (fun ad => [.ref (ad 46), .int a0]) σ Z := by
  refine g_openT RX4 (by decide) rfl (fun _ => Nat.le_of_ble_eq_true rfl) (fun p e s m below meth c D cI cB ad st ls E Y hr hk hl => ?_)
  have hx := E.1.1
  have hb := E.1.2.1
  have hl : lv_has ls 2 [(0, .ref (ad 46)), (1, .int a0)] := hl
  unfold f_X4_isMissing_46 at hf
  refine lv_aload_n (pc := 0) hx hb dX4_isMissing_0 rfl (lv_at hl 0 rfl) ?_
  refine g_getr (pc := 1) E Y 46 0 47 S_46 rfl V_4 (by decide) AL_X4 q_290 dX4_isMissing_1 ?_
  refine lv_iload_n (pc := 4) hx hb dX4_isMissing_4 rfl (lv_at hl 1 rfl) ?_
  refine g_iald (pc := 5) E Y 47 S_47 dX4_isMissing_5 hf (fun v1 hf => ?_)
  refine g_if_ne (pc := 6) (tgt := 13) E dX4_isMissing_6 (by decide) hf (fun hf => ?_) (fun hf => ?_)
  · refine lv_iconst (pc := 13) (v := 0) hx hb dX4_isMissing_13 (by decide) ?_
    exact g_zret (pc := 14) E Y hr hk dX4_isMissing_14 hf
  · refine lv_iconst (pc := 9) (v := 1) hx hb dX4_isMissing_9 (by decide) ?_
    refine lv_goto (pc := 10) (tgt := 14) hx hb dX4_isMissing_10 (by decide) ?_
    exact g_zret (pc := 14) E Y hr hk dX4_isMissing_14 hf
def f_X4_read_46 (a0 : Int32) (a1 : Int32) (σ : Mem) : Res := nm (a0 * 24) fun (v1 : Int32) => nm (v1 + a1) fun (v2 : Int32) => gi v2 96 <| nm (σ 49 v2.toNatClampNeg) fun (v3 : Int32) => some (v3, σ)
set_option maxHeartbeats 4000000 in
set_option maxRecDepth 100000 in
theorem m_X4_read_46 {l : Launch} {σ : Mem} {Z : Int32 × Mem} {a0 : Int32} {a1 : Int32} (hf : f_X4_read_46 a0 a1 σ = some Z) : CT l yX4_read cX4_read 3 (some .int) 0 (fun ad => [.ref (ad 46), .int a0, .int a1]) σ Z := by
  refine g_openT RX4 (by decide) rfl (fun _ => Nat.le_of_ble_eq_true rfl) (fun p e s m below meth c D cI cB ad st ls E Y hr hk hl => ?_)
  have hx := E.1.1
  have hb := E.1.2.1
  have hl : lv_has ls 3 [(0, .ref (ad 46)), (1, .int a0), (2, .int a1)] := hl
  unfold f_X4_read_46 at hf
  refine lv_aload_n (pc := 0) hx hb dX4_read_0 rfl (lv_at hl 0 rfl) ?_
  refine g_getr (pc := 1) E Y 46 2 49 S_46 rfl V_4 (by decide) AL_X4 q_289 dX4_read_1 ?_
  refine lv_iload_n (pc := 4) hx hb dX4_read_4 rfl (lv_at hl 1 rfl) ?_
  refine lv_bipush (pc := 5) (v := 24) hx hb dX4_read_5 (by decide) ?_
  refine g_imul (pc := 7) E dX4_read_7 hf (fun v1 hf => ?_)
  refine lv_iload_n (pc := 8) hx hb dX4_read_8 rfl (lv_at hl 2 rfl) ?_
  refine g_iadd (pc := 9) E dX4_read_9 hf (fun v2 hf => ?_)
  refine g_iald (pc := 10) E Y 49 S_49 dX4_read_10 hf (fun v3 hf => ?_)
  exact g_iret (pc := 11) E Y hr hk dX4_read_11 hf
def fb_X7_fitsFrom_0_L42 (bk : Int32 → Int32 → Int32 → Int32 → Mem → Res) (x1 : Int32) (x4 : Int32) (x5 : Int32) (x6 : Int32) (σ : Mem) : Res := if x4 ≤ x6 then (gb 1 (some (1, σ))) else (bd (f_X4_read_46 x1 x6 σ) fun v5 μ6 => nm (x5 >>> (x6 &&& 31)) fun (v7 : Int32) => nm (v7 &&& 1) fun (v8 : Int32) => if v5 = v8 then (nm (x6 + 1) fun (v9 : Int32) => bk x1 x4 x5 v9 μ6) else (gb 0 (some (0, μ6))))
def f_X7_fitsFrom_0_L42 : Nat → Int32 → Int32 → Int32 → Int32 → Mem → Res
  | 0, _, _, _, _, _ => none
  | n + 1, x1, x4, x5, x6, σ => fb_X7_fitsFrom_0_L42 (f_X7_fitsFrom_0_L42 n) x1 x4 x5 x6 σ
def f_X7_fitsFrom_0 (a0 : Int32) (a1 : Int32) (a2 : Int32) (σ : Mem) : Res := gi a0 4 <| nm (σ 48 a0.toNatClampNeg) fun (v1 : Int32) => nm (σ 2 4) fun (v2 : Int32) => if v1 ≤ v2 then (bd (f_X3_safePitches_1 a1 a2 σ) fun v3 μ4 => f_X7_fitsFrom_0_L42 1000 a0 v1 v3 0 μ4) else (gb 0 (some (0, σ)))
set_option maxHeartbeats 4000000 in
set_option maxRecDepth 100000 in
theorem m_X7_fitsFrom_0 {l : Launch} {σ : Mem} {Z : Int32 × Mem} {a0 : Int32} {a1 : Int32} {a2 : Int32} (hf : f_X7_fitsFrom_0 a0 a1 a2 σ = some Z) : CT l yX7_fitsFrom cX7_fitsFrom 7 (some .boolean) 6 (fun ad => [.ref (ad 0), .int a0, .int a1, .int a2]) σ Z := by
  refine g_openT RX7 (by decide) rfl (fun _ => Nat.le_of_ble_eq_true rfl) (fun p e s m below meth c D cI cB ad st ls E Y hr hk hl => ?_)
  have hx := E.1.1
  have hb := E.1.2.1
  have hl : lv_has ls 7 [(0, .ref (ad 0)), (1, .int a0), (2, .int a1), (3, .int a2)] := hl
  have hL_42 : ∀ (n : Nat) (x1 : Int32) (x4 : Int32) (x5 : Int32) (x6 : Int32) (σ : Mem) (H : Heap) (locs : List Loc) (ls : Array Slot), f_X7_fitsFrom_0_L42 n x1 x4 x5 x6 σ = some Z → Wo D cI cB ad (AA ad) σ s H locs → lv_has ls 7 [(0, .ref (ad 0)), (1, .int x1), (4, .int x4), (5, .int x5), (6, .int x6)] → W p l e (rmd 6) s m ([.ref (ad 0), .int a0, .int a1, .int a2] : List Value).toArray below meth c H locs 0 0 (QT_ below D cI cB ad st Z ([.ref (ad 0), .int a0, .int a1, .int a2] : List Value).toArray s) (F0 m 42 ls []) := by
    intro n
    induction n with
    | zero =>
      intro x1 x4 x5 x6 σ H locs ls hf
      cases (show (none : Res) = some Z from hf)
    | succ n ih =>
      intro x1 x4 x5 x6 σ H locs ls hf Y hl
      have hf : fb_X7_fitsFrom_0_L42 (f_X7_fitsFrom_0_L42 n) x1 x4 x5 x6 σ = some Z := hf
      unfold fb_X7_fitsFrom_0_L42 at hf
      refine lv_iload (pc := 42) hx hb dX7_fitsFrom_42 (lv_at hl 4 rfl) ?_
      refine lv_iload (pc := 44) hx hb dX7_fitsFrom_44 (lv_at hl 2 rfl) ?_
      refine g_icmp_ge (pc := 46) (tgt := 77) E dX7_fitsFrom_46 (by decide) hf (fun hf => ?_) (fun hf => ?_)
      · refine lv_iconst (pc := 77) (v := 1) hx hb dX7_fitsFrom_77 (by decide) ?_
        exact g_zret (pc := 78) E Y hr hk dX7_fitsFrom_78 hf
      · refine lv_aload_n (pc := 49) hx hb dX7_fitsFrom_49 rfl (lv_at hl 0 rfl) ?_
        refine g_getr (pc := 50) E Y 0 3 46 S_0 rfl V_7 (by decide) AL_X7 q_326 dX7_fitsFrom_50 ?_
        refine lv_iload_n (pc := 53) hx hb dX7_fitsFrom_53 rfl (lv_at hl 1 rfl) ?_
        refine lv_iload (pc := 54) hx hb dX7_fitsFrom_54 (lv_at hl 4 rfl) ?_
        refine g_callVi (pc := 56) E Y 46 S_46 V_4 o_X4_read q_650 [.int x1, .int x6] rfl rfl (hR_of (by omega) (by decide)) hl.1 (rest := []) rfl (Nat.le_of_ble_eq_true rfl) dX7_fitsFrom_56 (fun z hz => m_X4_read_46 hz) hf (fun v5 μ6 H locs hf Y => ?_)
        refine lv_iload (pc := 59) hx hb dX7_fitsFrom_59 (lv_at hl 3 rfl) ?_
        refine lv_iload (pc := 61) hx hb dX7_fitsFrom_61 (lv_at hl 4 rfl) ?_
        refine g_ishr (pc := 63) E dX7_fitsFrom_63 hf (fun v7 hf => ?_)
        refine lv_iconst (pc := 64) (v := 1) hx hb dX7_fitsFrom_64 (by decide) ?_
        refine g_iand (pc := 65) E dX7_fitsFrom_65 hf (fun v8 hf => ?_)
        refine g_icmp_eq (pc := 66) (tgt := 71) E dX7_fitsFrom_66 (by decide) hf (fun hf => ?_) (fun hf => ?_)
        · refine g_iinc (pc := 71) E (fun v9 => [(6, .int v9), (0, .ref (ad 0)), (1, .int x1), (4, .int x4), (5, .int x5)]) dX7_fitsFrom_71 hl (k := 4) rfl (t := 1) (by decide) (by decide) (fun _ => rfl) hf (fun v9 hf ls hl => ?_)
          refine lv_goto (pc := 74) (tgt := 42) hx hb dX7_fitsFrom_74 (by decide) ?_
          exact ih _ _ _ _ _ _ _ _ hf Y (lv_sub hl [1, 2, 3, 4, 0] rfl)
        · refine lv_iconst (pc := 69) (v := 0) hx hb dX7_fitsFrom_69 (by decide) ?_
          exact g_zret (pc := 70) E Y hr hk dX7_fitsFrom_70 hf
  unfold f_X7_fitsFrom_0 at hf
  refine lv_aload_n (pc := 0) hx hb dX7_fitsFrom_0 rfl (lv_at hl 0 rfl) ?_
  refine g_getr (pc := 1) E Y 0 3 46 S_0 rfl V_7 (by decide) AL_X7 q_326 dX7_fitsFrom_1 ?_
  refine g_getr (pc := 4) E Y 46 1 48 S_46 rfl V_4 (by decide) AL_X4 q_320 dX7_fitsFrom_4 ?_
  refine lv_iload_n (pc := 7) hx hb dX7_fitsFrom_7 rfl (lv_at hl 1 rfl) ?_
  refine g_iald (pc := 8) E Y 48 S_48 dX7_fitsFrom_8 hf (fun v1 hf => ?_)
  refine lv_istore (pc := 9) (lv' := [(4, .int v1), (0, .ref (ad 0)), (1, .int a0), (2, .int a1), (3, .int a2)]) hx hb dX7_fitsFrom_9 hl (by decide) rfl (fun ls hl => ?_)
  refine lv_iload (pc := 11) hx hb dX7_fitsFrom_11 (lv_at hl 0 rfl) ?_
  refine lv_aload_n (pc := 13) hx hb dX7_fitsFrom_13 rfl (lv_at hl 1 rfl) ?_
  refine g_getr (pc := 14) E Y 0 0 1 S_0 rfl V_7 (by decide) AL_X7 q_301 dX7_fitsFrom_14 ?_
  refine g_getr (pc := 17) E Y 1 0 2 S_1 rfl V_3 (by decide) AL_X3 q_334 dX7_fitsFrom_17 ?_
  refine g_geti (pc := 20) E Y 2 4 S_2 rfl V_0 (by decide) AL_X0 q_335 dX7_fitsFrom_20 hf (fun v2 hf => ?_)
  refine g_icmp_le (pc := 23) (tgt := 28) E dX7_fitsFrom_23 (by decide) hf (fun hf => ?_) (fun hf => ?_)
  · refine lv_aload_n (pc := 28) hx hb dX7_fitsFrom_28 rfl (lv_at hl 1 rfl) ?_
    refine g_getr (pc := 29) E Y 0 0 1 S_0 rfl V_7 (by decide) AL_X7 q_301 dX7_fitsFrom_29 ?_
    refine lv_iload_n (pc := 32) hx hb dX7_fitsFrom_32 rfl (lv_at hl 3 rfl) ?_
    refine lv_iload_n (pc := 33) hx hb dX7_fitsFrom_33 rfl (lv_at hl 4 rfl) ?_
    refine g_callVi (pc := 34) E Y 1 S_1 V_3 o_X3_safePitches q_639 [.int a1, .int a2] rfl rfl (hR_of (by omega) (by decide)) hl.1 (rest := []) rfl (Nat.le_of_ble_eq_true rfl) dX7_fitsFrom_34 (fun z hz => m_X3_safePitches_1 hz) hf (fun v3 μ4 H locs hf Y => ?_)
    refine lv_istore (pc := 37) (lv' := [(5, .int v3), (4, .int v1), (0, .ref (ad 0)), (1, .int a0), (2, .int a1), (3, .int a2)]) hx hb dX7_fitsFrom_37 hl (by decide) rfl (fun ls hl => ?_)
    refine lv_iconst (pc := 39) (v := 0) hx hb dX7_fitsFrom_39 (by decide) ?_
    refine lv_istore (pc := 40) (lv' := [(6, .int 0), (5, .int v3), (4, .int v1), (0, .ref (ad 0)), (1, .int a0), (2, .int a1), (3, .int a2)]) hx hb dX7_fitsFrom_40 hl (by decide) rfl (fun ls hl => ?_)
    exact hL_42 1000 _ _ _ _ _ _ _ _ hf Y (lv_sub hl [3, 4, 2, 1, 0] rfl)
  · refine lv_iconst (pc := 26) (v := 0) hx hb dX7_fitsFrom_26 (by decide) ?_
    exact g_zret (pc := 27) E Y hr hk dX7_fitsFrom_27 hf
def fb_X7_fits_0_L56 (bk : Int32 → Int32 → Int32 → Int32 → Int32 → Int32 → Mem → Res) (x1 : Int32) (x2 : Int32) (x3 : Int32) (x4 : Int32) (x5 : Int32) (x6 : Int32) (σ : Mem) : Res := if 20 < x6 then (if x3 = 0 then (some (x4, σ)) else (if 0 ≤ x5 then (some (x5, σ)) else (bd (f_X7_error_0 2 σ) fun v13 μ14 => some (v13, μ14)))) else (bd (f_X7_fitsFrom_0 x1 x2 x6 σ) fun v15 μ16 => if v15 = 0 then (nm (x6 + 1) fun (v17 : Int32) => bk x1 x2 x3 x4 x5 v17 μ16) else (nm (x4 + 1) fun (v18 : Int32) => if 0 ≤ x5 then (nm (x6 + 1) fun (v19 : Int32) => bk x1 x2 x3 v18 x5 v19 μ16) else (nm (x6 + 1) fun (v20 : Int32) => bk x1 x2 x3 v18 x6 v20 μ16)))
def f_X7_fits_0_L56 : Nat → Int32 → Int32 → Int32 → Int32 → Int32 → Int32 → Mem → Res
  | 0, _, _, _, _, _, _, _ => none
  | n + 1, x1, x2, x3, x4, x5, x6, σ => fb_X7_fits_0_L56 (f_X7_fits_0_L56 n) x1 x2 x3 x4 x5 x6 σ
def f_X7_fits_0 (a0 : Int32) (a1 : Int32) (a2 : Int32) (σ : Mem) : Res := bd (f_X7_isSheet a0 σ) fun v1 μ2 => if v1 = 0 then (bd (f_X7_error_0 1 μ2) fun v3 μ4 => some (v3, μ4)) else (bd (f_X7_isRunner_0 a1 μ2) fun v5 μ6 => if v5 = 0 then (bd (f_X7_error_0 1 μ6) fun v7 μ8 => some (v7, μ8)) else (bd (f_X7_within a2 0 1 μ6) fun v9 μ10 => if v9 = 0 then (bd (f_X7_error_0 1 μ10) fun v23 μ24 => some (v23, μ24)) else (bd (f_X4_isMissing_46 a0 μ10) fun v11 μ12 => if v11 = 0 then (f_X7_fits_0_L56 1000 a0 a1 a2 0 (-1) 0 μ12) else (bd (f_X7_error_0 2 μ12) fun v21 μ22 => some (v21, μ22)))))
set_option maxHeartbeats 4000000 in
set_option maxRecDepth 100000 in
theorem m_X7_fits_0 {l : Launch} {σ : Mem} {Z : Int32 × Mem} {a0 : Int32} {a1 : Int32} {a2 : Int32} (hf : f_X7_fits_0 a0 a1 a2 σ = some Z) : CT l yX7_fits cX7_fits 7 (some .int) 7 (fun ad => [.ref (ad 0), .int a0, .int a1, .int a2]) σ Z := by
  refine g_openT RX7 (by decide) rfl (fun _ => Nat.le_of_ble_eq_true rfl) (fun p e s m below meth c D cI cB ad st ls E Y hr hk hl => ?_)
  have hx := E.1.1
  have hb := E.1.2.1
  have hl : lv_has ls 7 [(0, .ref (ad 0)), (1, .int a0), (2, .int a1), (3, .int a2)] := hl
  have hL_56 : ∀ (n : Nat) (x1 : Int32) (x2 : Int32) (x3 : Int32) (x4 : Int32) (x5 : Int32) (x6 : Int32) (σ : Mem) (H : Heap) (locs : List Loc) (ls : Array Slot), f_X7_fits_0_L56 n x1 x2 x3 x4 x5 x6 σ = some Z → Wo D cI cB ad (AA ad) σ s H locs → lv_has ls 7 [(0, .ref (ad 0)), (1, .int x1), (2, .int x2), (3, .int x3), (4, .int x4), (5, .int x5), (6, .int x6)] → W p l e (rmd 7) s m ([.ref (ad 0), .int a0, .int a1, .int a2] : List Value).toArray below meth c H locs 0 0 (QT_ below D cI cB ad st Z ([.ref (ad 0), .int a0, .int a1, .int a2] : List Value).toArray s) (F0 m 56 ls []) := by
    intro n
    induction n with
    | zero =>
      intro x1 x2 x3 x4 x5 x6 σ H locs ls hf
      cases (show (none : Res) = some Z from hf)
    | succ n ih =>
      intro x1 x2 x3 x4 x5 x6 σ H locs ls hf Y hl
      have hf : fb_X7_fits_0_L56 (f_X7_fits_0_L56 n) x1 x2 x3 x4 x5 x6 σ = some Z := hf
      unfold fb_X7_fits_0_L56 at hf
      refine lv_iload (pc := 56) hx hb dX7_fits_56 (lv_at hl 6 rfl) ?_
      refine lv_bipush (pc := 58) (v := 20) hx hb dX7_fits_58 (by decide) ?_
      refine g_icmp_gt (pc := 60) (tgt := 92) E dX7_fits_60 (by decide) hf (fun hf => ?_) (fun hf => ?_)
      · refine lv_iload_n (pc := 92) hx hb dX7_fits_92 rfl (lv_at hl 3 rfl) ?_
        refine g_if_ne (pc := 93) (tgt := 99) E dX7_fits_93 (by decide) hf (fun hf => ?_) (fun hf => ?_)
        · refine lv_iload (pc := 99) hx hb dX7_fits_99 (lv_at hl 5 rfl) ?_
          refine g_if_ge (pc := 101) (tgt := 112) E dX7_fits_101 (by decide) hf (fun hf => ?_) (fun hf => ?_)
          · refine lv_iload (pc := 112) hx hb dX7_fits_112 (lv_at hl 5 rfl) ?_
            exact g_iret (pc := 114) E Y hr hk dX7_fits_114 hf
          · refine lv_aload_n (pc := 104) hx hb dX7_fits_104 rfl (lv_at hl 0 rfl) ?_
            refine lv_iconst (pc := 105) (v := 2) hx hb dX7_fits_105 (by decide) ?_
            refine g_callVi (pc := 106) E Y 0 S_0 V_7 o_X7_error q_656 [.int 2] rfl rfl (hR_of (by omega) (by decide)) hl.1 (rest := []) rfl (Nat.le_of_ble_eq_true rfl) dX7_fits_106 (fun z hz => m_X7_error_0 hz) hf (fun v13 μ14 H locs hf Y => ?_)
            refine lv_goto (pc := 109) (tgt := 114) hx hb dX7_fits_109 (by decide) ?_
            exact g_iret (pc := 114) E Y hr hk dX7_fits_114 hf
        · refine lv_iload (pc := 96) hx hb dX7_fits_96 (lv_at hl 4 rfl) ?_
          exact g_iret (pc := 98) E Y hr hk dX7_fits_98 hf
      · refine lv_aload_n (pc := 63) hx hb dX7_fits_63 rfl (lv_at hl 0 rfl) ?_
        refine lv_iload_n (pc := 64) hx hb dX7_fits_64 rfl (lv_at hl 1 rfl) ?_
        refine lv_iload_n (pc := 65) hx hb dX7_fits_65 rfl (lv_at hl 2 rfl) ?_
        refine lv_iload (pc := 66) hx hb dX7_fits_66 (lv_at hl 6 rfl) ?_
        refine g_callVi (pc := 68) E Y 0 S_0 V_7 o_X7_fitsFrom q_643 [.int x1, .int x2, .int x6] rfl rfl (hR_of (by omega) (by decide)) hl.1 (rest := []) rfl (Nat.le_of_ble_eq_true rfl) dX7_fits_68 (fun z hz => m_X7_fitsFrom_0 hz) hf (fun v15 μ16 H locs hf Y => ?_)
        refine g_if_eq (pc := 71) (tgt := 86) E dX7_fits_71 (by decide) hf (fun hf => ?_) (fun hf => ?_)
        · refine g_iinc (pc := 86) E (fun v17 => [(6, .int v17), (0, .ref (ad 0)), (1, .int x1), (2, .int x2), (3, .int x3), (4, .int x4), (5, .int x5)]) dX7_fits_86 hl (k := 6) rfl (t := 1) (by decide) (by decide) (fun _ => rfl) hf (fun v17 hf ls hl => ?_)
          refine lv_goto (pc := 89) (tgt := 56) hx hb dX7_fits_89 (by decide) ?_
          exact ih _ _ _ _ _ _ _ _ _ _ hf Y (lv_sub hl [1, 2, 3, 4, 5, 6, 0] rfl)
        · refine g_iinc (pc := 74) E (fun v18 => [(4, .int v18), (0, .ref (ad 0)), (1, .int x1), (2, .int x2), (3, .int x3), (5, .int x5), (6, .int x6)]) dX7_fits_74 hl (k := 4) rfl (t := 1) (by decide) (by decide) (fun _ => rfl) hf (fun v18 hf ls hl => ?_)
          refine lv_iload (pc := 77) hx hb dX7_fits_77 (lv_at hl 5 rfl) ?_
          refine g_if_ge (pc := 79) (tgt := 86) E dX7_fits_79 (by decide) hf (fun hf => ?_) (fun hf => ?_)
          · refine g_iinc (pc := 86) E (fun v19 => [(6, .int v19), (4, .int v18), (0, .ref (ad 0)), (1, .int x1), (2, .int x2), (3, .int x3), (5, .int x5)]) dX7_fits_86 hl (k := 6) rfl (t := 1) (by decide) (by decide) (fun _ => rfl) hf (fun v19 hf ls hl => ?_)
            refine lv_goto (pc := 89) (tgt := 56) hx hb dX7_fits_89 (by decide) ?_
            exact ih _ _ _ _ _ _ _ _ _ _ hf Y (lv_sub hl [2, 3, 4, 5, 1, 6, 0] rfl)
          · refine lv_iload (pc := 82) hx hb dX7_fits_82 (lv_at hl 6 rfl) ?_
            refine lv_istore (pc := 84) (lv' := [(5, .int x6), (4, .int v18), (0, .ref (ad 0)), (1, .int x1), (2, .int x2), (3, .int x3), (6, .int x6)]) hx hb dX7_fits_84 hl (by decide) rfl (fun ls hl => ?_)
            refine g_iinc (pc := 86) E (fun v20 => [(6, .int v20), (5, .int x6), (4, .int v18), (0, .ref (ad 0)), (1, .int x1), (2, .int x2), (3, .int x3)]) dX7_fits_86 hl (k := 6) rfl (t := 1) (by decide) (by decide) (fun _ => rfl) hf (fun v20 hf ls hl => ?_)
            refine lv_goto (pc := 89) (tgt := 56) hx hb dX7_fits_89 (by decide) ?_
            exact ih _ _ _ _ _ _ _ _ _ _ hf Y (lv_sub hl [3, 4, 5, 6, 2, 1, 0] rfl)
  unfold f_X7_fits_0 at hf
  refine lv_iload_n (pc := 0) hx hb dX7_fits_0 rfl (lv_at hl 1 rfl) ?_
  refine g_callSi (pc := 1) E Y o_X7_isSheet q_641 [.int a0] rfl rfl (hR_of (by omega) (by decide)) hl.1 (rest := []) rfl (Nat.le_of_ble_eq_true rfl) dX7_fits_1 (fun z hz => m_X7_isSheet hz) hf (fun v1 μ2 H locs hf Y => ?_)
  refine g_if_eq (pc := 4) (tgt := 24) E dX7_fits_4 (by decide) hf (fun hf => ?_) (fun hf => ?_)
  · refine lv_aload_n (pc := 24) hx hb dX7_fits_24 rfl (lv_at hl 0 rfl) ?_
    refine lv_iconst (pc := 25) (v := 1) hx hb dX7_fits_25 (by decide) ?_
    refine g_callVi (pc := 26) E Y 0 S_0 V_7 o_X7_error q_656 [.int 1] rfl rfl (hR_of (by omega) (by decide)) hl.1 (rest := []) rfl (Nat.le_of_ble_eq_true rfl) dX7_fits_26 (fun z hz => m_X7_error_0 hz) hf (fun v3 μ4 H locs hf Y => ?_)
    exact g_iret (pc := 29) E Y hr hk dX7_fits_29 hf
  · refine lv_aload_n (pc := 7) hx hb dX7_fits_7 rfl (lv_at hl 0 rfl) ?_
    refine lv_iload_n (pc := 8) hx hb dX7_fits_8 rfl (lv_at hl 2 rfl) ?_
    refine g_callVi (pc := 9) E Y 0 S_0 V_7 o_X7_isRunner q_618 [.int a1] rfl rfl (hR_of (by omega) (by decide)) hl.1 (rest := []) rfl (Nat.le_of_ble_eq_true rfl) dX7_fits_9 (fun z hz => m_X7_isRunner_0 hz) hf (fun v5 μ6 H locs hf Y => ?_)
    refine g_if_eq (pc := 12) (tgt := 24) E dX7_fits_12 (by decide) hf (fun hf => ?_) (fun hf => ?_)
    · refine lv_aload_n (pc := 24) hx hb dX7_fits_24 rfl (lv_at hl 0 rfl) ?_
      refine lv_iconst (pc := 25) (v := 1) hx hb dX7_fits_25 (by decide) ?_
      refine g_callVi (pc := 26) E Y 0 S_0 V_7 o_X7_error q_656 [.int 1] rfl rfl (hR_of (by omega) (by decide)) hl.1 (rest := []) rfl (Nat.le_of_ble_eq_true rfl) dX7_fits_26 (fun z hz => m_X7_error_0 hz) hf (fun v7 μ8 H locs hf Y => ?_)
      exact g_iret (pc := 29) E Y hr hk dX7_fits_29 hf
    · refine lv_iload_n (pc := 15) hx hb dX7_fits_15 rfl (lv_at hl 3 rfl) ?_
      refine lv_iconst (pc := 16) (v := 0) hx hb dX7_fits_16 (by decide) ?_
      refine lv_iconst (pc := 17) (v := 1) hx hb dX7_fits_17 (by decide) ?_
      refine g_callSi (pc := 18) E Y o_X7_within q_661 [.int a2, .int 0, .int 1] rfl rfl (hR_of (by omega) (by decide)) hl.1 (rest := []) rfl (Nat.le_of_ble_eq_true rfl) dX7_fits_18 (fun z hz => m_X7_within hz) hf (fun v9 μ10 H locs hf Y => ?_)
      refine g_if_ne (pc := 21) (tgt := 30) E dX7_fits_21 (by decide) hf (fun hf => ?_) (fun hf => ?_)
      · refine lv_aload_n (pc := 30) hx hb dX7_fits_30 rfl (lv_at hl 0 rfl) ?_
        refine g_getr (pc := 31) E Y 0 3 46 S_0 rfl V_7 (by decide) AL_X7 q_326 dX7_fits_31 ?_
        refine lv_iload_n (pc := 34) hx hb dX7_fits_34 rfl (lv_at hl 1 rfl) ?_
        refine g_callVi (pc := 35) E Y 46 S_46 V_4 o_X4_isMissing q_642 [.int a0] rfl rfl (hR_of (by omega) (by decide)) hl.1 (rest := []) rfl (Nat.le_of_ble_eq_true rfl) dX7_fits_35 (fun z hz => m_X4_isMissing_46 hz) hf (fun v11 μ12 H locs hf Y => ?_)
        refine g_if_eq (pc := 38) (tgt := 47) E dX7_fits_38 (by decide) hf (fun hf => ?_) (fun hf => ?_)
        · refine lv_iconst (pc := 47) (v := 0) hx hb dX7_fits_47 (by decide) ?_
          refine lv_istore (pc := 48) (lv' := [(4, .int 0), (0, .ref (ad 0)), (1, .int a0), (2, .int a1), (3, .int a2)]) hx hb dX7_fits_48 hl (by decide) rfl (fun ls hl => ?_)
          refine lv_iconst (pc := 50) (v := (-1)) hx hb dX7_fits_50 (by decide) ?_
          refine lv_istore (pc := 51) (lv' := [(5, .int (-1)), (4, .int 0), (0, .ref (ad 0)), (1, .int a0), (2, .int a1), (3, .int a2)]) hx hb dX7_fits_51 hl (by decide) rfl (fun ls hl => ?_)
          refine lv_iconst (pc := 53) (v := 0) hx hb dX7_fits_53 (by decide) ?_
          refine lv_istore (pc := 54) (lv' := [(6, .int 0), (5, .int (-1)), (4, .int 0), (0, .ref (ad 0)), (1, .int a0), (2, .int a1), (3, .int a2)]) hx hb dX7_fits_54 hl (by decide) rfl (fun ls hl => ?_)
          exact hL_56 1000 _ _ _ _ _ _ _ _ _ _ hf Y (lv_sub hl [3, 4, 5, 6, 2, 1, 0] rfl)
        · refine lv_aload_n (pc := 41) hx hb dX7_fits_41 rfl (lv_at hl 0 rfl) ?_
          refine lv_iconst (pc := 42) (v := 2) hx hb dX7_fits_42 (by decide) ?_
          refine g_callVi (pc := 43) E Y 0 S_0 V_7 o_X7_error q_656 [.int 2] rfl rfl (hR_of (by omega) (by decide)) hl.1 (rest := []) rfl (Nat.le_of_ble_eq_true rfl) dX7_fits_43 (fun z hz => m_X7_error_0 hz) hf (fun v21 μ22 H locs hf Y => ?_)
          exact g_iret (pc := 46) E Y hr hk dX7_fits_46 hf
      · refine lv_aload_n (pc := 24) hx hb dX7_fits_24 rfl (lv_at hl 0 rfl) ?_
        refine lv_iconst (pc := 25) (v := 1) hx hb dX7_fits_25 (by decide) ?_
        refine g_callVi (pc := 26) E Y 0 S_0 V_7 o_X7_error q_656 [.int 1] rfl rfl (hR_of (by omega) (by decide)) hl.1 (rest := []) rfl (Nat.le_of_ble_eq_true rfl) dX7_fits_26 (fun z hz => m_X7_error_0 hz) hf (fun v23 μ24 H locs hf Y => ?_)
        exact g_iret (pc := 29) E Y hr hk dX7_fits_29 hf
