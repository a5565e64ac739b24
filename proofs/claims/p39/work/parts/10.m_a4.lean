/-! methods, by program: a pure program and its contract each -/
def f_X5_takes_33_13 (σ : Mem) : Res := gt (okc false 0 0 60 60 60 (σ 14)) <| nm (mrow σ 34 (va_cpy (σ 14) (σ 34) (0 : Int32).toNatClampNeg (0 : Int32).toNatClampNeg (60 : Int32).toNatClampNeg)) fun (μ1 : Mem) => nm (μ1 13 2) fun (v2 : Int32) => nm (mset μ1 33 2 v2) fun (μ3 : Mem) => nm (μ3 13 3) fun (v4 : Int32) => gb v4 <| nm (mset μ3 33 3 v4) fun (μ5 : Mem) => some (0, μ5)
set_option maxHeartbeats 4000000 in
set_option maxRecDepth 100000 in
theorem m_X5_takes_33_13 {l : Launch} {σ : Mem} {Z : Int32 × Mem}  (hf : f_X5_takes_33_13 σ = some Z) : CV l yX5_takes cX5_takes 2 2 (fun ad => [.ref (ad 33), .ref (ad 13)]) σ Z := by
  refine g_openV RX5 (by decide) rfl (fun _ => Nat.le_of_ble_eq_true rfl) (fun p e s m below meth c D cI cB ad st ls E Y hr hk hl => ?_)
  have hx := E.1.1
  have hb := E.1.2.1
  have hl : lv_has ls 2 [(0, .ref (ad 33)), (1, .ref (ad 13))] := hl
  unfold f_X5_takes_33_13 at hf
  refine lv_aload_n (pc := 0) hx hb dX5_takes_0 rfl (lv_at hl 1 rfl) ?_
  refine g_getr (pc := 1) E Y 13 0 14 S_13 rfl V_5 (by decide) AL_X5 q_294 dX5_takes_1 ?_
  refine lv_iconst (pc := 4) (v := 0) hx hb dX5_takes_4 (by decide) ?_
  refine lv_aload_n (pc := 5) hx hb dX5_takes_5 rfl (lv_at hl 0 rfl) ?_
  refine g_getr (pc := 6) E Y 33 0 34 S_33 rfl V_5 (by decide) AL_X5 q_294 dX5_takes_6 ?_
  refine lv_iconst (pc := 9) (v := 0) hx hb dX5_takes_9 (by decide) ?_
  refine lv_bipush (pc := 10) (v := 60) hx hb dX5_takes_10 (by decide) ?_
  refine g_copy (pc := 12) E Y hl.1 14 34 0 (b := false) S_14 S_34 rfl q_606 q_723 q_903 q_360 (Nat.le_of_ble_eq_true rfl) (Nat.le_of_ble_eq_true rfl) dX5_takes_12 hf (fun μ1 H locs hf Y => ?_)
  refine lv_aload_n (pc := 15) hx hb dX5_takes_15 rfl (lv_at hl 0 rfl) ?_
  refine lv_aload_n (pc := 16) hx hb dX5_takes_16 rfl (lv_at hl 1 rfl) ?_
  refine g_geti (pc := 17) E Y 13 2 S_13 rfl V_5 (by decide) AL_X5 q_292 dX5_takes_17 hf (fun v2 hf => ?_)
  refine g_put (pc := 20) E Y 33 2 S_33 rfl V_5 (by decide) AL_X5 tyX5 tyX5_ok nmX5 q_292 rfl rfl rfl dX5_takes_20 hf (fun μ3 H locs hf Y => ?_)
  refine lv_aload_n (pc := 23) hx hb dX5_takes_23 rfl (lv_at hl 0 rfl) ?_
  refine lv_aload_n (pc := 24) hx hb dX5_takes_24 rfl (lv_at hl 1 rfl) ?_
  refine g_geti (pc := 25) E Y 13 3 S_13 rfl V_5 (by decide) AL_X5 q_293 dX5_takes_25 hf (fun v4 hf => ?_)
  obtain ⟨h01, hf⟩ := gb_some hf
  refine g_put (pc := 28) E Y 33 3 S_33 rfl V_5 (by decide) AL_X5 tyX5 tyX5_ok nmX5 q_293 rfl (nar01 h01) (fit01 h01) dX5_takes_28 hf (fun μ5 H locs hf Y => ?_)
  exact g_vret (pc := 31) E Y hr hk dX5_takes_31 hf
def f_X5_takes_36_16 (σ : Mem) : Res := gt (okc false 0 0 60 60 60 (σ 17)) <| nm (mrow σ 37 (va_cpy (σ 17) (σ 37) (0 : Int32).toNatClampNeg (0 : Int32).toNatClampNeg (60 : Int32).toNatClampNeg)) fun (μ1 : Mem) => nm (μ1 16 2) fun (v2 : Int32) => nm (mset μ1 36 2 v2) fun (μ3 : Mem) => nm (μ3 16 3) fun (v4 : Int32) => gb v4 <| nm (mset μ3 36 3 v4) fun (μ5 : Mem) => some (0, μ5)
set_option maxHeartbeats 4000000 in
set_option maxRecDepth 100000 in
theorem m_X5_takes_36_16 {l : Launch} {σ : Mem} {Z : Int32 × Mem}  (hf : f_X5_takes_36_16 σ = some Z) : CV l yX5_takes cX5_takes 2 2 (fun ad => [.ref (ad 36), .ref (ad 16)]) σ Z := by
  refine g_openV RX5 (by decide) rfl (fun _ => Nat.le_of_ble_eq_true rfl) (fun p e s m below meth c D cI cB ad st ls E Y hr hk hl => ?_)
  have hx := E.1.1
  have hb := E.1.2.1
  have hl : lv_has ls 2 [(0, .ref (ad 36)), (1, .ref (ad 16))] := hl
  unfold f_X5_takes_36_16 at hf
  refine lv_aload_n (pc := 0) hx hb dX5_takes_0 rfl (lv_at hl 1 rfl) ?_
  refine g_getr (pc := 1) E Y 16 0 17 S_16 rfl V_5 (by decide) AL_X5 q_294 dX5_takes_1 ?_
  refine lv_iconst (pc := 4) (v := 0) hx hb dX5_takes_4 (by decide) ?_
  refine lv_aload_n (pc := 5) hx hb dX5_takes_5 rfl (lv_at hl 0 rfl) ?_
  refine g_getr (pc := 6) E Y 36 0 37 S_36 rfl V_5 (by decide) AL_X5 q_294 dX5_takes_6 ?_
  refine lv_iconst (pc := 9) (v := 0) hx hb dX5_takes_9 (by decide) ?_
  refine lv_bipush (pc := 10) (v := 60) hx hb dX5_takes_10 (by decide) ?_
  refine g_copy (pc := 12) E Y hl.1 17 37 0 (b := false) S_17 S_37 rfl q_606 q_723 q_903 q_360 (Nat.le_of_ble_eq_true rfl) (Nat.le_of_ble_eq_true rfl) dX5_takes_12 hf (fun μ1 H locs hf Y => ?_)
  refine lv_aload_n (pc := 15) hx hb dX5_takes_15 rfl (lv_at hl 0 rfl) ?_
  refine lv_aload_n (pc := 16) hx hb dX5_takes_16 rfl (lv_at hl 1 rfl) ?_
  refine g_geti (pc := 17) E Y 16 2 S_16 rfl V_5 (by decide) AL_X5 q_292 dX5_takes_17 hf (fun v2 hf => ?_)
  refine g_put (pc := 20) E Y 36 2 S_36 rfl V_5 (by decide) AL_X5 tyX5 tyX5_ok nmX5 q_292 rfl rfl rfl dX5_takes_20 hf (fun μ3 H locs hf Y => ?_)
  refine lv_aload_n (pc := 23) hx hb dX5_takes_23 rfl (lv_at hl 0 rfl) ?_
  refine lv_aload_n (pc := 24) hx hb dX5_takes_24 rfl (lv_at hl 1 rfl) ?_
  refine g_geti (pc := 25) E Y 16 3 S_16 rfl V_5 (by decide) AL_X5 q_293 dX5_takes_25 hf (fun v4 hf => ?_)
  obtain ⟨h01, hf⟩ := gb_some hf
  refine g_put (pc := 28) E Y 36 3 S_36 rfl V_5 (by decide) AL_X5 tyX5 tyX5_ok nmX5 q_293 rfl (nar01 h01) (fit01 h01) dX5_takes_28 hf (fun μ5 H locs hf Y => ?_)
  exact g_vret (pc := 31) E Y hr hk dX5_takes_31 hf
def f_X3_takes_21_1 (σ : Mem) : Res := bd (f_X0_takes_22_2 σ) fun v1 μ2 => bd (f_X2_takes_27_7 μ2) fun v3 μ4 => bd (f_X5_takes_33_13 μ4) fun v5 μ6 => bd (f_X5_takes_36_16 μ6) fun v7 μ8 => gt (okc true 0 0 60 60 60 (μ8 19)) <| nm (mrow μ8 39 (va_cpy (μ8 19) (μ8 39) (0 : Int32).toNatClampNeg (0 : Int32).toNatClampNeg (60 : Int32).toNatClampNeg)) fun (μ9 : Mem) => nm (μ9 1 5) fun (v10 : Int32) => nm (mset μ9 21 5 v10) fun (μ11 : Mem) => gt (okc false 0 0 24 24 24 (μ11 20)) <| nm (mrow μ11 40 (va_cpy (μ11 20) (μ11 40) (0 : Int32).toNatClampNeg (0 : Int32).toNatClampNeg (24 : Int32).toNatClampNeg)) fun (μ12 : Mem) => nm (μ12 1 7) fun (v13 : Int32) => nm (mset μ12 21 7 v13) fun (μ14 : Mem) => nm (μ14 1 8) fun (v15 : Int32) => nm (mset μ14 21 8 v15) fun (μ16 : Mem) => nm (μ16 1 9) fun (v17 : Int32) => nm (mset μ16 21 9 v17) fun (μ18 : Mem) => nm (μ18 1 10) fun (v19 : Int32) => nm (mset μ18 21 10 v19) fun (μ20 : Mem) => nm (μ20 1 11) fun (v21 : Int32) => nm (mset μ20 21 11 v21) fun (μ22 : Mem) => nm (μ22 1 12) fun (v23 : Int32) => nm (mset μ22 21 12 v23) fun (μ24 : Mem) => nm (μ24 1 13) fun (v25 : Int32) => nm (mset μ24 21 13 v25) fun (μ26 : Mem) => nm (μ26 1 14) fun (v27 : Int32) => nm (mset μ26 21 14 v27) fun (μ28 : Mem) => some (0, μ28)
set_option maxHeartbeats 4000000 in
set_option maxRecDepth 100000 in
theorem m_X3_takes_21_1 {l : Launch} {σ : Mem} {Z : Int32 × Mem}  (hf : f_X3_takes_21_1 σ = some Z) : CV l yX3_takes cX3_takes 2 3 (fun ad => [.ref (ad 21), .ref (ad 1)]) σ Z := by
  refine g_openV RX3 (by decide) rfl (fun _ => Nat.le_of_ble_eq_true rfl) (fun p e s m below meth c D cI cB ad st ls E Y hr hk hl => ?_)
  have hx := E.1.1
  have hb := E.1.2.1
  have hl : lv_has ls 2 [(0, .ref (ad 21)), (1, .ref (ad 1))] := hl
  unfold f_X3_takes_21_1 at hf
  refine lv_aload_n (pc := 0) hx hb dX3_takes_0 rfl (lv_at hl 0 rfl) ?_
  refine g_getr (pc := 1) E Y 21 0 22 S_21 rfl V_3 (by decide) AL_X3 q_265 dX3_takes_1 ?_
  refine lv_aload_n (pc := 4) hx hb dX3_takes_4 rfl (lv_at hl 1 rfl) ?_
  refine g_getr (pc := 5) E Y 1 0 2 S_1 rfl V_3 (by decide) AL_X3 q_265 dX3_takes_5 ?_
  refine g_callVv (pc := 8) E Y 22 S_22 V_0 o_X0_takes q_598 [.ref (ad 2)] rfl rfl (hR_of (by omega) (by decide)) hl.1 (rest := []) rfl (Nat.le_of_ble_eq_true rfl) dX3_takes_8 (fun z hz => m_X0_takes_22_2 hz) hf (fun v1 μ2 H locs hf Y => ?_)
  refine lv_aload_n (pc := 11) hx hb dX3_takes_11 rfl (lv_at hl 0 rfl) ?_
  refine g_getr (pc := 12) E Y 21 1 27 S_21 rfl V_3 (by decide) AL_X3 q_272 dX3_takes_12 ?_
  refine lv_aload_n (pc := 15) hx hb dX3_takes_15 rfl (lv_at hl 1 rfl) ?_
  refine g_getr (pc := 16) E Y 1 1 7 S_1 rfl V_3 (by decide) AL_X3 q_272 dX3_takes_16 ?_
  refine g_callVv (pc := 19) E Y 27 S_27 V_2 o_X2_takes q_599 [.ref (ad 7)] rfl rfl (hR_of (by omega) (by decide)) hl.1 (rest := []) rfl (Nat.le_of_ble_eq_true rfl) dX3_takes_19 (fun z hz => m_X2_takes_27_7 hz) hf (fun v3 μ4 H locs hf Y => ?_)
  refine lv_aload_n (pc := 22) hx hb dX3_takes_22 rfl (lv_at hl 0 rfl) ?_
  refine g_getr (pc := 23) E Y 21 2 33 S_21 rfl V_3 (by decide) AL_X3 q_273 dX3_takes_23 ?_
  refine lv_aload_n (pc := 26) hx hb dX3_takes_26 rfl (lv_at hl 1 rfl) ?_
  refine g_getr (pc := 27) E Y 1 2 13 S_1 rfl V_3 (by decide) AL_X3 q_273 dX3_takes_27 ?_
  refine g_callVv (pc := 30) E Y 33 S_33 V_5 o_X5_takes q_600 [.ref (ad 13)] rfl rfl (hR_of (by omega) (by decide)) hl.1 (rest := []) rfl (Nat.le_of_ble_eq_true rfl) dX3_takes_30 (fun z hz => m_X5_takes_33_13 hz) hf (fun v5 μ6 H locs hf Y => ?_)
  refine lv_aload_n (pc := 33) hx hb dX3_takes_33 rfl (lv_at hl 0 rfl) ?_
  refine g_getr (pc := 34) E Y 21 3 36 S_21 rfl V_3 (by decide) AL_X3 q_274 dX3_takes_34 ?_
  refine lv_aload_n (pc := 37) hx hb dX3_takes_37 rfl (lv_at hl 1 rfl) ?_
  refine g_getr (pc := 38) E Y 1 3 16 S_1 rfl V_3 (by decide) AL_X3 q_274 dX3_takes_38 ?_
  refine g_callVv (pc := 41) E Y 36 S_36 V_5 o_X5_takes q_600 [.ref (ad 16)] rfl rfl (hR_of (by omega) (by decide)) hl.1 (rest := []) rfl (Nat.le_of_ble_eq_true rfl) dX3_takes_41 (fun z hz => m_X5_takes_36_16 hz) hf (fun v7 μ8 H locs hf Y => ?_)
  refine lv_aload_n (pc := 44) hx hb dX3_takes_44 rfl (lv_at hl 1 rfl) ?_
  refine g_getr (pc := 45) E Y 1 4 19 S_1 rfl V_3 (by decide) AL_X3 q_275 dX3_takes_45 ?_
  refine lv_iconst (pc := 48) (v := 0) hx hb dX3_takes_48 (by decide) ?_
  refine lv_aload_n (pc := 49) hx hb dX3_takes_49 rfl (lv_at hl 0 rfl) ?_
  refine g_getr (pc := 50) E Y 21 4 39 S_21 rfl V_3 (by decide) AL_X3 q_275 dX3_takes_50 ?_
  refine lv_iconst (pc := 53) (v := 0) hx hb dX3_takes_53 (by decide) ?_
  refine lv_bipush (pc := 54) (v := 60) hx hb dX3_takes_54 (by decide) ?_
  refine g_copy (pc := 56) E Y hl.1 19 39 1 (b := true) S_19 S_39 rfl q_601 q_723 q_903 q_360 (Nat.le_of_ble_eq_true rfl) (Nat.le_of_ble_eq_true rfl) dX3_takes_56 hf (fun μ9 H locs hf Y => ?_)
  refine lv_aload_n (pc := 59) hx hb dX3_takes_59 rfl (lv_at hl 0 rfl) ?_
  refine lv_aload_n (pc := 60) hx hb dX3_takes_60 rfl (lv_at hl 1 rfl) ?_
  refine g_geti (pc := 61) E Y 1 5 S_1 rfl V_3 (by decide) AL_X3 q_276 dX3_takes_61 hf (fun v10 hf => ?_)
  refine g_put (pc := 64) E Y 21 5 S_21 rfl V_3 (by decide) AL_X3 tyX3 tyX3_ok nmX3 q_276 rfl rfl rfl dX3_takes_64 hf (fun μ11 H locs hf Y => ?_)
  refine lv_aload_n (pc := 67) hx hb dX3_takes_67 rfl (lv_at hl 1 rfl) ?_
  refine g_getr (pc := 68) E Y 1 6 20 S_1 rfl V_3 (by decide) AL_X3 q_277 dX3_takes_68 ?_
  refine lv_iconst (pc := 71) (v := 0) hx hb dX3_takes_71 (by decide) ?_
  refine lv_aload_n (pc := 72) hx hb dX3_takes_72 rfl (lv_at hl 0 rfl) ?_
  refine g_getr (pc := 73) E Y 21 6 40 S_21 rfl V_3 (by decide) AL_X3 q_277 dX3_takes_73 ?_
  refine lv_iconst (pc := 76) (v := 0) hx hb dX3_takes_76 (by decide) ?_
  refine lv_bipush (pc := 77) (v := 24) hx hb dX3_takes_77 (by decide) ?_
  refine g_copy (pc := 79) E Y hl.1 20 40 0 (b := false) S_20 S_40 rfl q_601 q_723 q_903 q_360 (Nat.le_of_ble_eq_true rfl) (Nat.le_of_ble_eq_true rfl) dX3_takes_79 hf (fun μ12 H locs hf Y => ?_)
  refine lv_aload_n (pc := 82) hx hb dX3_takes_82 rfl (lv_at hl 0 rfl) ?_
  refine lv_aload_n (pc := 83) hx hb dX3_takes_83 rfl (lv_at hl 1 rfl) ?_
  refine g_geti (pc := 84) E Y 1 7 S_1 rfl V_3 (by decide) AL_X3 q_278 dX3_takes_84 hf (fun v13 hf => ?_)
  refine g_put (pc := 87) E Y 21 7 S_21 rfl V_3 (by decide) AL_X3 tyX3 tyX3_ok nmX3 q_278 rfl rfl rfl dX3_takes_87 hf (fun μ14 H locs hf Y => ?_)
  refine lv_aload_n (pc := 90) hx hb dX3_takes_90 rfl (lv_at hl 0 rfl) ?_
  refine lv_aload_n (pc := 91) hx hb dX3_takes_91 rfl (lv_at hl 1 rfl) ?_
  refine g_geti (pc := 92) E Y 1 8 S_1 rfl V_3 (by decide) AL_X3 q_279 dX3_takes_92 hf (fun v15 hf => ?_)
  refine g_put (pc := 95) E Y 21 8 S_21 rfl V_3 (by decide) AL_X3 tyX3 tyX3_ok nmX3 q_279 rfl rfl rfl dX3_takes_95 hf (fun μ16 H locs hf Y => ?_)
  refine lv_aload_n (pc := 98) hx hb dX3_takes_98 rfl (lv_at hl 0 rfl) ?_
  refine lv_aload_n (pc := 99) hx hb dX3_takes_99 rfl (lv_at hl 1 rfl) ?_
  refine g_geti (pc := 100) E Y 1 9 S_1 rfl V_3 (by decide) AL_X3 q_280 dX3_takes_100 hf (fun v17 hf => ?_)
  refine g_put (pc := 103) E Y 21 9 S_21 rfl V_3 (by decide) AL_X3 tyX3 tyX3_ok nmX3 q_280 rfl rfl rfl dX3_takes_103 hf (fun μ18 H locs hf Y => ?_)
  refine lv_aload_n (pc := 106) hx hb dX3_takes_106 rfl (lv_at hl 0 rfl) ?_
  refine lv_aload_n (pc := 107) hx hb dX3_takes_107 rfl (lv_at hl 1 rfl) ?_
  refine g_geti (pc := 108) E Y 1 10 S_1 rfl V_3 (by decide) AL_X3 q_281 dX3_takes_108 hf (fun v19 hf => ?_)
  refine g_put (pc := 111) E Y 21 10 S_21 rfl V_3 (by decide) AL_X3 tyX3 tyX3_ok nmX3 q_281 rfl rfl rfl dX3_takes_111 hf (fun μ20 H locs hf Y => ?_)
  refine lv_aload_n (pc := 114) hx hb dX3_takes_114 rfl (lv_at hl 0 rfl) ?_
  refine lv_aload_n (pc := 115) hx hb dX3_takes_115 rfl (lv_at hl 1 rfl) ?_
  refine g_geti (pc := 116) E Y 1 11 S_1 rfl V_3 (by decide) AL_X3 q_282 dX3_takes_116 hf (fun v21 hf => ?_)
  refine g_put (pc := 119) E Y 21 11 S_21 rfl V_3 (by decide) AL_X3 tyX3 tyX3_ok nmX3 q_282 rfl rfl rfl dX3_takes_119 hf (fun μ22 H locs hf Y => ?_)
  refine lv_aload_n (pc := 122) hx hb dX3_takes_122 rfl (lv_at hl 0 rfl) ?_
  refine lv_aload_n (pc := 123) hx hb dX3_takes_123 rfl (lv_at hl 1 rfl) ?_
  refine g_geti (pc := 124) E Y 1 12 S_1 rfl V_3 (by decide) AL_X3 q_283 dX3_takes_124 hf (fun v23 hf => ?_)
  refine g_put (pc := 127) E Y 21 12 S_21 rfl V_3 (by decide) AL_X3 tyX3 tyX3_ok nmX3 q_283 rfl rfl rfl dX3_takes_127 hf (fun μ24 H locs hf Y => ?_)
  refine lv_aload_n (pc := 130) hx hb dX3_takes_130 rfl (lv_at hl 0 rfl) ?_
  refine lv_aload_n (pc := 131) hx hb dX3_takes_131 rfl (lv_at hl 1 rfl) ?_
  refine g_geti (pc := 132) E Y 1 13 S_1 rfl V_3 (by decide) AL_X3 q_284 dX3_takes_132 hf (fun v25 hf => ?_)
  refine g_put (pc := 135) E Y 21 13 S_21 rfl V_3 (by decide) AL_X3 tyX3 tyX3_ok nmX3 q_284 rfl rfl rfl dX3_takes_135 hf (fun μ26 H locs hf Y => ?_)
  refine lv_aload_n (pc := 138) hx hb dX3_takes_138 rfl (lv_at hl 0 rfl) ?_
  refine lv_aload_n (pc := 139) hx hb dX3_takes_139 rfl (lv_at hl 1 rfl) ?_
  refine g_geti (pc := 140) E Y 1 14 S_1 rfl V_3 (by decide) AL_X3 q_285 dX3_takes_140 hf (fun v27 hf => ?_)
  refine g_put (pc := 143) E Y 21 14 S_21 rfl V_3 (by decide) AL_X3 tyX3 tyX3_ok nmX3 q_285 rfl rfl rfl dX3_takes_143 hf (fun μ28 H locs hf Y => ?_)
  exact g_vret (pc := 146) E Y hr hk dX3_takes_146 hf
def f_X7_image_0 (σ : Mem) : Res := bd (f_X3_takes_21_1 σ) fun v1 μ2 => nm (μ2 0 6) fun (v3 : Int32) => nm (v3 + 1) fun (v4 : Int32) => nm (mset μ2 0 6 v4) fun (μ5 : Mem) => nm (μ5 0 6) fun (v6 : Int32) => some (v6, μ5)
set_option maxHeartbeats 4000000 in
set_option maxRecDepth 100000 in
theorem m_X7_image_0 {l : Launch} {σ : Mem} {Z : Int32 × Mem}  (hf : f_X7_image_0 σ = some Z) : CT l yX7_image cX7_image 1 (some .int) 4 (fun ad => [.ref (ad 0)]) σ Z := by
  refine g_openT RX7 (by decide) rfl (fun _ => Nat.le_of_ble_eq_true rfl) (fun p e s m below meth c D cI cB ad st ls E Y hr hk hl => ?_)
  have hx := E.1.1
  have hb := E.1.2.1
  have hl : lv_has ls 1 [(0, .ref (ad 0))] := hl
  unfold f_X7_image_0 at hf
  refine lv_aload_n (pc := 0) hx hb dX7_image_0 rfl (lv_at hl 0 rfl) ?_
  refine g_getr (pc := 1) E Y 0 1 21 S_0 rfl V_7 (by decide) AL_X7 q_311 dX7_image_1 ?_
  refine lv_aload_n (pc := 4) hx hb dX7_image_4 rfl (lv_at hl 0 rfl) ?_
  refine g_getr (pc := 5) E Y 0 0 1 S_0 rfl V_7 (by decide) AL_X7 q_301 dX7_image_5 ?_
  refine g_callVv (pc := 8) E Y 21 S_21 V_3 o_X3_takes q_651 [.ref (ad 1)] rfl rfl (hR_of (by omega) (by decide)) hl.1 (rest := []) rfl (Nat.le_of_ble_eq_true rfl) dX7_image_8 (fun z hz => m_X3_takes_21_1 hz) hf (fun v1 μ2 H locs hf Y => ?_)
  refine lv_aload_n (pc := 11) hx hb dX7_image_11 rfl (lv_at hl 0 rfl) ?_
  refine lv_dup (pc := 12) hx hb dX7_image_12 rfl ?_
  refine g_geti (pc := 13) E Y 0 6 S_0 rfl V_7 (by decide) AL_X7 q_333 dX7_image_13 hf (fun v3 hf => ?_)
  refine lv_iconst (pc := 16) (v := 1) hx hb dX7_image_16 (by decide) ?_
  refine g_iadd (pc := 17) E dX7_image_17 hf (fun v4 hf => ?_)
  refine g_put (pc := 18) E Y 0 6 S_0 rfl V_7 (by decide) AL_X7 tyX7 tyX7_ok nmX7 q_333 rfl rfl rfl dX7_image_18 hf (fun μ5 H locs hf Y => ?_)
  refine lv_aload_n (pc := 21) hx hb dX7_image_21 rfl (lv_at hl 0 rfl) ?_
  refine g_geti (pc := 22) E Y 0 6 S_0 rfl V_7 (by decide) AL_X7 q_333 dX7_image_22 hf (fun v6 hf => ?_)
  exact g_iret (pc := 25) E Y hr hk dX7_image_25 hf
def f_X0_takes_2_22 (σ : Mem) : Res := gt (okc false 0 0 6 6 6 (σ 23)) <| nm (mrow σ 3 (va_cpy (σ 23) (σ 3) (0 : Int32).toNatClampNeg (0 : Int32).toNatClampNeg (6 : Int32).toNatClampNeg)) fun (μ1 : Mem) => gt (okc false 0 0 6 6 6 (μ1 24)) <| nm (mrow μ1 4 (va_cpy (μ1 24) (μ1 4) (0 : Int32).toNatClampNeg (0 : Int32).toNatClampNeg (6 : Int32).toNatClampNeg)) fun (μ2 : Mem) => gt (okc false 0 0 6 6 6 (μ2 25)) <| nm (mrow μ2 5 (va_cpy (μ2 25) (μ2 5) (0 : Int32).toNatClampNeg (0 : Int32).toNatClampNeg (6 : Int32).toNatClampNeg)) fun (μ3 : Mem) => gt (okc false 0 0 6 6 6 (μ3 26)) <| nm (mrow μ3 6 (va_cpy (μ3 26) (μ3 6) (0 : Int32).toNatClampNeg (0 : Int32).toNatClampNeg (6 : Int32).toNatClampNeg)) fun (μ4 : Mem) => nm (μ4 22 4) fun (v5 : Int32) => nm (mset μ4 2 4 v5) fun (μ6 : Mem) => some (0, μ6)
set_option maxHeartbeats 4000000 in
set_option maxRecDepth 100000 in
theorem m_X0_takes_2_22 {l : Launch} {σ : Mem} {Z : Int32 × Mem}  (hf : f_X0_takes_2_22 σ = some Z) : CV l yX0_takes cX0_takes 2 2 (fun ad => [.ref (ad 2), .ref (ad 22)]) σ Z := by
  refine g_openV RX0 (by decide) rfl (fun _ => Nat.le_of_ble_eq_true rfl) (fun p e s m below meth c D cI cB ad st ls E Y hr hk hl => ?_)
  have hx := E.1.1
  have hb := E.1.2.1
  have hl : lv_has ls 2 [(0, .ref (ad 2)), (1, .ref (ad 22))] := hl
  unfold f_X0_takes_2_22 at hf
  refine lv_aload_n (pc := 0) hx hb dX0_takes_0 rfl (lv_at hl 1 rfl) ?_
  refine g_getr (pc := 1) E Y 22 0 23 S_22 rfl V_0 (by decide) AL_X0 q_246 dX0_takes_1 ?_
  refine lv_iconst (pc := 4) (v := 0) hx hb dX0_takes_4 (by decide) ?_
  refine lv_aload_n (pc := 5) hx hb dX0_takes_5 rfl (lv_at hl 0 rfl) ?_
  refine g_getr (pc := 6) E Y 2 0 3 S_2 rfl V_0 (by decide) AL_X0 q_246 dX0_takes_6 ?_
  refine lv_iconst (pc := 9) (v := 0) hx hb dX0_takes_9 (by decide) ?_
  refine lv_bipush (pc := 10) (v := 6) hx hb dX0_takes_10 (by decide) ?_
  refine g_copy (pc := 12) E Y hl.1 23 3 0 (b := false) S_23 S_3 rfl q_566 q_723 q_903 q_360 (Nat.le_of_ble_eq_true rfl) (Nat.le_of_ble_eq_true rfl) dX0_takes_12 hf (fun μ1 H locs hf Y => ?_)
  refine lv_aload_n (pc := 15) hx hb dX0_takes_15 rfl (lv_at hl 1 rfl) ?_
  refine g_getr (pc := 16) E Y 22 1 24 S_22 rfl V_0 (by decide) AL_X0 q_242 dX0_takes_16 ?_
  refine lv_iconst (pc := 19) (v := 0) hx hb dX0_takes_19 (by decide) ?_
  refine lv_aload_n (pc := 20) hx hb dX0_takes_20 rfl (lv_at hl 0 rfl) ?_
  refine g_getr (pc := 21) E Y 2 1 4 S_2 rfl V_0 (by decide) AL_X0 q_242 dX0_takes_21 ?_
  refine lv_iconst (pc := 24) (v := 0) hx hb dX0_takes_24 (by decide) ?_
  refine lv_bipush (pc := 25) (v := 6) hx hb dX0_takes_25 (by decide) ?_
  refine g_copy (pc := 27) E Y hl.1 24 4 0 (b := false) S_24 S_4 rfl q_566 q_723 q_903 q_360 (Nat.le_of_ble_eq_true rfl) (Nat.le_of_ble_eq_true rfl) dX0_takes_27 hf (fun μ2 H locs hf Y => ?_)
  refine lv_aload_n (pc := 30) hx hb dX0_takes_30 rfl (lv_at hl 1 rfl) ?_
  refine g_getr (pc := 31) E Y 22 2 25 S_22 rfl V_0 (by decide) AL_X0 q_243 dX0_takes_31 ?_
  refine lv_iconst (pc := 34) (v := 0) hx hb dX0_takes_34 (by decide) ?_
  refine lv_aload_n (pc := 35) hx hb dX0_takes_35 rfl (lv_at hl 0 rfl) ?_
  refine g_getr (pc := 36) E Y 2 2 5 S_2 rfl V_0 (by decide) AL_X0 q_243 dX0_takes_36 ?_
  refine lv_iconst (pc := 39) (v := 0) hx hb dX0_takes_39 (by decide) ?_
  refine lv_bipush (pc := 40) (v := 6) hx hb dX0_takes_40 (by decide) ?_
  refine g_copy (pc := 42) E Y hl.1 25 5 0 (b := false) S_25 S_5 rfl q_566 q_723 q_903 q_360 (Nat.le_of_ble_eq_true rfl) (Nat.le_of_ble_eq_true rfl) dX0_takes_42 hf (fun μ3 H locs hf Y => ?_)
  refine lv_aload_n (pc := 45) hx hb dX0_takes_45 rfl (lv_at hl 1 rfl) ?_
  refine g_getr (pc := 46) E Y 22 3 26 S_22 rfl V_0 (by decide) AL_X0 q_244 dX0_takes_46 ?_
  refine lv_iconst (pc := 49) (v := 0) hx hb dX0_takes_49 (by decide) ?_
  refine lv_aload_n (pc := 50) hx hb dX0_takes_50 rfl (lv_at hl 0 rfl) ?_
  refine g_getr (pc := 51) E Y 2 3 6 S_2 rfl V_0 (by decide) AL_X0 q_244 dX0_takes_51 ?_
  refine lv_iconst (pc := 54) (v := 0) hx hb dX0_takes_54 (by decide) ?_
  refine lv_bipush (pc := 55) (v := 6) hx hb dX0_takes_55 (by decide) ?_
  refine g_copy (pc := 57) E Y hl.1 26 6 0 (b := false) S_26 S_6 rfl q_566 q_723 q_903 q_360 (Nat.le_of_ble_eq_true rfl) (Nat.le_of_ble_eq_true rfl) dX0_takes_57 hf (fun μ4 H locs hf Y => ?_)
  refine lv_aload_n (pc := 60) hx hb dX0_takes_60 rfl (lv_at hl 0 rfl) ?_
  refine lv_aload_n (pc := 61) hx hb dX0_takes_61 rfl (lv_at hl 1 rfl) ?_
  refine g_geti (pc := 62) E Y 22 4 S_22 rfl V_0 (by decide) AL_X0 q_245 dX0_takes_62 hf (fun v5 hf => ?_)
  refine g_put (pc := 65) E Y 2 4 S_2 rfl V_0 (by decide) AL_X0 tyX0 tyX0_ok nmX0 q_245 rfl rfl rfl dX0_takes_65 hf (fun μ6 H locs hf Y => ?_)
  exact g_vret (pc := 68) E Y hr hk dX0_takes_68 hf
def f_X2_takes_7_27 (σ : Mem) : Res := gt (okc false 0 0 5 5 5 (σ 28)) <| nm (mrow σ 8 (va_cpy (σ 28) (σ 8) (0 : Int32).toNatClampNeg (0 : Int32).toNatClampNeg (5 : Int32).toNatClampNeg)) fun (μ1 : Mem) => gt (okc false 0 0 5 5 5 (μ1 29)) <| nm (mrow μ1 9 (va_cpy (μ1 29) (μ1 9) (0 : Int32).toNatClampNeg (0 : Int32).toNatClampNeg (5 : Int32).toNatClampNeg)) fun (μ2 : Mem) => gt (okc false 0 0 5 5 5 (μ2 30)) <| nm (mrow μ2 10 (va_cpy (μ2 30) (μ2 10) (0 : Int32).toNatClampNeg (0 : Int32).toNatClampNeg (5 : Int32).toNatClampNeg)) fun (μ3 : Mem) => gt (okc false 0 0 5 5 5 (μ3 31)) <| nm (mrow μ3 11 (va_cpy (μ3 31) (μ3 11) (0 : Int32).toNatClampNeg (0 : Int32).toNatClampNeg (5 : Int32).toNatClampNeg)) fun (μ4 : Mem) => gt (okc false 0 0 5 5 5 (μ4 32)) <| nm (mrow μ4 12 (va_cpy (μ4 32) (μ4 12) (0 : Int32).toNatClampNeg (0 : Int32).toNatClampNeg (5 : Int32).toNatClampNeg)) fun (μ5 : Mem) => nm (μ5 27 5) fun (v6 : Int32) => nm (mset μ5 7 5 v6) fun (μ7 : Mem) => some (0, μ7)
set_option maxHeartbeats 4000000 in
set_option maxRecDepth 100000 in
theorem m_X2_takes_7_27 {l : Launch} {σ : Mem} {Z : Int32 × Mem}  (hf : f_X2_takes_7_27 σ = some Z) : CV l yX2_takes cX2_takes 2 2 (fun ad => [.ref (ad 7), .ref (ad 27)]) σ Z := by
  refine g_openV RX2 (by decide) rfl (fun _ => Nat.le_of_ble_eq_true rfl) (fun p e s m below meth c D cI cB ad st ls E Y hr hk hl => ?_)
  have hx := E.1.1
  have hb := E.1.2.1
  have hl : lv_has ls 2 [(0, .ref (ad 7)), (1, .ref (ad 27))] := hl
  unfold f_X2_takes_7_27 at hf
  refine lv_aload_n (pc := 0) hx hb dX2_takes_0 rfl (lv_at hl 1 rfl) ?_
  refine g_getr (pc := 1) E Y 27 0 28 S_27 rfl V_2 (by decide) AL_X2 q_262 dX2_takes_1 ?_
  refine lv_iconst (pc := 4) (v := 0) hx hb dX2_takes_4 (by decide) ?_
  refine lv_aload_n (pc := 5) hx hb dX2_takes_5 rfl (lv_at hl 0 rfl) ?_
  refine g_getr (pc := 6) E Y 7 0 8 S_7 rfl V_2 (by decide) AL_X2 q_262 dX2_takes_6 ?_
  refine lv_iconst (pc := 9) (v := 0) hx hb dX2_takes_9 (by decide) ?_
  refine lv_iconst (pc := 10) (v := 5) hx hb dX2_takes_10 (by decide) ?_
  refine g_copy (pc := 11) E Y hl.1 28 8 0 (b := false) S_28 S_8 rfl q_579 q_723 q_903 q_360 (Nat.le_of_ble_eq_true rfl) (Nat.le_of_ble_eq_true rfl) dX2_takes_11 hf (fun μ1 H locs hf Y => ?_)
  refine lv_aload_n (pc := 14) hx hb dX2_takes_14 rfl (lv_at hl 1 rfl) ?_
  refine g_getr (pc := 15) E Y 27 1 29 S_27 rfl V_2 (by decide) AL_X2 q_257 dX2_takes_15 ?_
  refine lv_iconst (pc := 18) (v := 0) hx hb dX2_takes_18 (by decide) ?_
  refine lv_aload_n (pc := 19) hx hb dX2_takes_19 rfl (lv_at hl 0 rfl) ?_
  refine g_getr (pc := 20) E Y 7 1 9 S_7 rfl V_2 (by decide) AL_X2 q_257 dX2_takes_20 ?_
  refine lv_iconst (pc := 23) (v := 0) hx hb dX2_takes_23 (by decide) ?_
  refine lv_iconst (pc := 24) (v := 5) hx hb dX2_takes_24 (by decide) ?_
  refine g_copy (pc := 25) E Y hl.1 29 9 0 (b := false) S_29 S_9 rfl q_579 q_723 q_903 q_360 (Nat.le_of_ble_eq_true rfl) (Nat.le_of_ble_eq_true rfl) dX2_takes_25 hf (fun μ2 H locs hf Y => ?_)
  refine lv_aload_n (pc := 28) hx hb dX2_takes_28 rfl (lv_at hl 1 rfl) ?_
  refine g_getr (pc := 29) E Y 27 2 30 S_27 rfl V_2 (by decide) AL_X2 q_258 dX2_takes_29 ?_
  refine lv_iconst (pc := 32) (v := 0) hx hb dX2_takes_32 (by decide) ?_
  refine lv_aload_n (pc := 33) hx hb dX2_takes_33 rfl (lv_at hl 0 rfl) ?_
  refine g_getr (pc := 34) E Y 7 2 10 S_7 rfl V_2 (by decide) AL_X2 q_258 dX2_takes_34 ?_
  refine lv_iconst (pc := 37) (v := 0) hx hb dX2_takes_37 (by decide) ?_
  refine lv_iconst (pc := 38) (v := 5) hx hb dX2_takes_38 (by decide) ?_
  refine g_copy (pc := 39) E Y hl.1 30 10 0 (b := false) S_30 S_10 rfl q_579 q_723 q_903 q_360 (Nat.le_of_ble_eq_true rfl) (Nat.le_of_ble_eq_true rfl) dX2_takes_39 hf (fun μ3 H locs hf Y => ?_)
  refine lv_aload_n (pc := 42) hx hb dX2_takes_42 rfl (lv_at hl 1 rfl) ?_
  refine g_getr (pc := 43) E Y 27 3 31 S_27 rfl V_2 (by decide) AL_X2 q_259 dX2_takes_43 ?_
  refine lv_iconst (pc := 46) (v := 0) hx hb dX2_takes_46 (by decide) ?_
  refine lv_aload_n (pc := 47) hx hb dX2_takes_47 rfl (lv_at hl 0 rfl) ?_
  refine g_getr (pc := 48) E Y 7 3 11 S_7 rfl V_2 (by decide) AL_X2 q_259 dX2_takes_48 ?_
  refine lv_iconst (pc := 51) (v := 0) hx hb dX2_takes_51 (by decide) ?_
  refine lv_iconst (pc := 52) (v := 5) hx hb dX2_takes_52 (by decide) ?_
  refine g_copy (pc := 53) E Y hl.1 31 11 0 (b := false) S_31 S_11 rfl q_579 q_723 q_903 q_360 (Nat.le_of_ble_eq_true rfl) (Nat.le_of_ble_eq_true rfl) dX2_takes_53 hf (fun μ4 H locs hf Y => ?_)
  refine lv_aload_n (pc := 56) hx hb dX2_takes_56 rfl (lv_at hl 1 rfl) ?_
  refine g_getr (pc := 57) E Y 27 4 32 S_27 rfl V_2 (by decide) AL_X2 q_260 dX2_takes_57 ?_
  refine lv_iconst (pc := 60) (v := 0) hx hb dX2_takes_60 (by decide) ?_
  refine lv_aload_n (pc := 61) hx hb dX2_takes_61 rfl (lv_at hl 0 rfl) ?_
  refine g_getr (pc := 62) E Y 7 4 12 S_7 rfl V_2 (by decide) AL_X2 q_260 dX2_takes_62 ?_
  refine lv_iconst (pc := 65) (v := 0) hx hb dX2_takes_65 (by decide) ?_
  refine lv_iconst (pc := 66) (v := 5) hx hb dX2_takes_66 (by decide) ?_
  refine g_copy (pc := 67) E Y hl.1 32 12 0 (b := false) S_32 S_12 rfl q_579 q_723 q_903 q_360 (Nat.le_of_ble_eq_true rfl) (Nat.le_of_ble_eq_true rfl) dX2_takes_67 hf (fun μ5 H locs hf Y => ?_)
  refine lv_aload_n (pc := 70) hx hb dX2_takes_70 rfl (lv_at hl 0 rfl) ?_
  refine lv_aload_n (pc := 71) hx hb dX2_takes_71 rfl (lv_at hl 1 rfl) ?_
  refine g_geti (pc := 72) E Y 27 5 S_27 rfl V_2 (by decide) AL_X2 q_261 dX2_takes_72 hf (fun v6 hf => ?_)
  refine g_put (pc := 75) E Y 7 5 S_7 rfl V_2 (by decide) AL_X2 tyX2 tyX2_ok nmX2 q_261 rfl rfl rfl dX2_takes_75 hf (fun μ7 H locs hf Y => ?_)
  exact g_vret (pc := 78) E Y hr hk dX2_takes_78 hf
def f_X5_takes_13_33 (σ : Mem) : Res := gt (okc false 0 0 60 60 60 (σ 34)) <| nm (mrow σ 14 (va_cpy (σ 34) (σ 14) (0 : Int32).toNatClampNeg (0 : Int32).toNatClampNeg (60 : Int32).toNatClampNeg)) fun (μ1 : Mem) => nm (μ1 33 2) fun (v2 : Int32) => nm (mset μ1 13 2 v2) fun (μ3 : Mem) => nm (μ3 33 3) fun (v4 : Int32) => gb v4 <| nm (mset μ3 13 3 v4) fun (μ5 : Mem) => some (0, μ5)
set_option maxHeartbeats 4000000 in
set_option maxRecDepth 100000 in
theorem m_X5_takes_13_33 {l : Launch} {σ : Mem} {Z : Int32 × Mem}  (hf : f_X5_takes_13_33 σ = some Z) : CV l yX5_takes cX5_takes 2 2 (fun ad => [.ref (ad 13), .ref (ad 33)]) σ Z := by
  refine g_openV RX5 (by decide) rfl (fun _ => Nat.le_of_ble_eq_true rfl) (fun p e s m below meth c D cI cB ad st ls E Y hr hk hl => ?_)
  have hx := E.1.1
  have hb := E.1.2.1
  have hl : lv_has ls 2 [(0, .ref (ad 13)), (1, .ref (ad 33))] := hl
  unfold f_X5_takes_13_33 at hf
  refine lv_aload_n (pc := 0) hx hb dX5_takes_0 rfl (lv_at hl 1 rfl) ?_
  refine g_getr (pc := 1) E Y 33 0 34 S_33 rfl V_5 (by decide) AL_X5 q_294 dX5_takes_1 ?_
  refine lv_iconst (pc := 4) (v := 0) hx hb dX5_takes_4 (by decide) ?_
  refine lv_aload_n (pc := 5) hx hb dX5_takes_5 rfl (lv_at hl 0 rfl) ?_
  refine g_getr (pc := 6) E Y 13 0 14 S_13 rfl V_5 (by decide) AL_X5 q_294 dX5_takes_6 ?_
  refine lv_iconst (pc := 9) (v := 0) hx hb dX5_takes_9 (by decide) ?_
  refine lv_bipush (pc := 10) (v := 60) hx hb dX5_takes_10 (by decide) ?_
  refine g_copy (pc := 12) E Y hl.1 34 14 0 (b := false) S_34 S_14 rfl q_606 q_723 q_903 q_360 (Nat.le_of_ble_eq_true rfl) (Nat.le_of_ble_eq_true rfl) dX5_takes_12 hf (fun μ1 H locs hf Y => ?_)
  refine lv_aload_n (pc := 15) hx hb dX5_takes_15 rfl (lv_at hl 0 rfl) ?_
  refine lv_aload_n (pc := 16) hx hb dX5_takes_16 rfl (lv_at hl 1 rfl) ?_
  refine g_geti (pc := 17) E Y 33 2 S_33 rfl V_5 (by decide) AL_X5 q_292 dX5_takes_17 hf (fun v2 hf => ?_)
  refine g_put (pc := 20) E Y 13 2 S_13 rfl V_5 (by decide) AL_X5 tyX5 tyX5_ok nmX5 q_292 rfl rfl rfl dX5_takes_20 hf (fun μ3 H locs hf Y => ?_)
  refine lv_aload_n (pc := 23) hx hb dX5_takes_23 rfl (lv_at hl 0 rfl) ?_
  refine lv_aload_n (pc := 24) hx hb dX5_takes_24 rfl (lv_at hl 1 rfl) ?_
  refine g_geti (pc := 25) E Y 33 3 S_33 rfl V_5 (by decide) AL_X5 q_293 dX5_takes_25 hf (fun v4 hf => ?_)
  obtain ⟨h01, hf⟩ := gb_some hf
  refine g_put (pc := 28) E Y 13 3 S_13 rfl V_5 (by decide) AL_X5 tyX5 tyX5_ok nmX5 q_293 rfl (nar01 h01) (fit01 h01) dX5_takes_28 hf (fun μ5 H locs hf Y => ?_)
  exact g_vret (pc := 31) E Y hr hk dX5_takes_31 hf
def f_X5_takes_16_36 (σ : Mem) : Res := gt (okc false 0 0 60 60 60 (σ 37)) <| nm (mrow σ 17 (va_cpy (σ 37) (σ 17) (0 : Int32).toNatClampNeg (0 : Int32).toNatClampNeg (60 : Int32).toNatClampNeg)) fun (μ1 : Mem) => nm (μ1 36 2) fun (v2 : Int32) => nm (mset μ1 16 2 v2) fun (μ3 : Mem) => nm (μ3 36 3) fun (v4 : Int32) => gb v4 <| nm (mset μ3 16 3 v4) fun (μ5 : Mem) => some (0, μ5)
set_option maxHeartbeats 4000000 in
set_option maxRecDepth 100000 in
theorem m_X5_takes_16_36 {l : Launch} {σ : Mem} {Z : Int32 × Mem}  (hf : f_X5_takes_16_36 σ = some Z) : CV l yX5_takes cX5_takes 2 2 (fun ad => [.ref (ad 16), .ref (ad 36)]) σ Z := by
  refine g_openV RX5 (by decide) rfl (fun _ => Nat.le_of_ble_eq_true rfl) (fun p e s m below meth c D cI cB ad st ls E Y hr hk hl => ?_)
  have hx := E.1.1
  have hb := E.1.2.1
  have hl : lv_has ls 2 [(0, .ref (ad 16)), (1, .ref (ad 36))] := hl
  unfold f_X5_takes_16_36 at hf
  refine lv_aload_n (pc := 0) hx hb dX5_takes_0 rfl (lv_at hl 1 rfl) ?_
  refine g_getr (pc := 1) E Y 36 0 37 S_36 rfl V_5 (by decide) AL_X5 q_294 dX5_takes_1 ?_
  refine lv_iconst (pc := 4) (v := 0) hx hb dX5_takes_4 (by decide) ?_
  refine lv_aload_n (pc := 5) hx hb dX5_takes_5 rfl (lv_at hl 0 rfl) ?_
  refine g_getr (pc := 6) E Y 16 0 17 S_16 rfl V_5 (by decide) AL_X5 q_294 dX5_takes_6 ?_
  refine lv_iconst (pc := 9) (v := 0) hx hb dX5_takes_9 (by decide) ?_
  refine lv_bipush (pc := 10) (v := 60) hx hb dX5_takes_10 (by decide) ?_
  refine g_copy (pc := 12) E Y hl.1 37 17 0 (b := false) S_37 S_17 rfl q_606 q_723 q_903 q_360 (Nat.le_of_ble_eq_true rfl) (Nat.le_of_ble_eq_true rfl) dX5_takes_12 hf (fun μ1 H locs hf Y => ?_)
  refine lv_aload_n (pc := 15) hx hb dX5_takes_15 rfl (lv_at hl 0 rfl) ?_
  refine lv_aload_n (pc := 16) hx hb dX5_takes_16 rfl (lv_at hl 1 rfl) ?_
  refine g_geti (pc := 17) E Y 36 2 S_36 rfl V_5 (by decide) AL_X5 q_292 dX5_takes_17 hf (fun v2 hf => ?_)
  refine g_put (pc := 20) E Y 16 2 S_16 rfl V_5 (by decide) AL_X5 tyX5 tyX5_ok nmX5 q_292 rfl rfl rfl dX5_takes_20 hf (fun μ3 H locs hf Y => ?_)
  refine lv_aload_n (pc := 23) hx hb dX5_takes_23 rfl (lv_at hl 0 rfl) ?_
  refine lv_aload_n (pc := 24) hx hb dX5_takes_24 rfl (lv_at hl 1 rfl) ?_
  refine g_geti (pc := 25) E Y 36 3 S_36 rfl V_5 (by decide) AL_X5 q_293 dX5_takes_25 hf (fun v4 hf => ?_)
  obtain ⟨h01, hf⟩ := gb_some hf
  refine g_put (pc := 28) E Y 16 3 S_16 rfl V_5 (by decide) AL_X5 tyX5 tyX5_ok nmX5 q_293 rfl (nar01 h01) (fit01 h01) dX5_takes_28 hf (fun μ5 H locs hf Y => ?_)
  exact g_vret (pc := 31) E Y hr hk dX5_takes_31 hf
def f_X3_takes_1_21 (σ : Mem) : Res := bd (f_X0_takes_2_22 σ) fun v1 μ2 => bd (f_X2_takes_7_27 μ2) fun v3 μ4 => bd (f_X5_takes_13_33 μ4) fun v5 μ6 => bd (f_X5_takes_16_36 μ6) fun v7 μ8 => gt (okc true 0 0 60 60 60 (μ8 39)) <| nm (mrow μ8 19 (va_cpy (μ8 39) (μ8 19) (0 : Int32).toNatClampNeg (0 : Int32).toNatClampNeg (60 : Int32).toNatClampNeg)) fun (μ9 : Mem) => nm (μ9 21 5) fun (v10 : Int32) => nm (mset μ9 1 5 v10) fun (μ11 : Mem) => gt (okc false 0 0 24 24 24 (μ11 40)) <| nm (mrow μ11 20 (va_cpy (μ11 40) (μ11 20) (0 : Int32).toNatClampNeg (0 : Int32).toNatClampNeg (24 : Int32).toNatClampNeg)) fun (μ12 : Mem) => nm (μ12 21 7) fun (v13 : Int32) => nm (mset μ12 1 7 v13) fun (μ14 : Mem) => nm (μ14 21 8) fun (v15 : Int32) => nm (mset μ14 1 8 v15) fun (μ16 : Mem) => nm (μ16 21 9) fun (v17 : Int32) => nm (mset μ16 1 9 v17) fun (μ18 : Mem) => nm (μ18 21 10) fun (v19 : Int32) => nm (mset μ18 1 10 v19) fun (μ20 : Mem) => nm (μ20 21 11) fun (v21 : Int32) => nm (mset μ20 1 11 v21) fun (μ22 : Mem) => nm (μ22 21 12) fun (v23 : Int32) => nm (mset μ22 1 12 v23) fun (μ24 : Mem) => nm (μ24 21 13) fun (v25 : Int32) => nm (mset μ24 1 13 v25) fun (μ26 : Mem) => nm (μ26 21 14) fun (v27 : Int32) => nm (mset μ26 1 14 v27) fun (μ28 : Mem) => some (0, μ28)
set_option maxHeartbeats 4000000 in
set_option maxRecDepth 100000 in
theorem m_X3_takes_1_21 {l : Launch} {σ : Mem} {Z : Int32 × Mem}  (hf : f_X3_takes_1_21 σ = some Z) : CV l yX3_takes cX3_takes 2 3 (fun ad => [.ref (ad 1), .ref (ad 21)]) σ Z := by
  refine g_openV RX3 (by decide) rfl (fun _ => Nat.le_of_ble_eq_true rfl) (fun p e s m below meth c D cI cB ad st ls E Y hr hk hl => ?_)
  have hx := E.1.1
  have hb := E.1.2.1
  have hl : lv_has ls 2 [(0, .ref (ad 1)), (1, .ref (ad 21))] := hl
  unfold f_X3_takes_1_21 at hf
  refine lv_aload_n (pc := 0) hx hb dX3_takes_0 rfl (lv_at hl 0 rfl) ?_
  refine g_getr (pc := 1) E Y 1 0 2 S_1 rfl V_3 (by decide) AL_X3 q_265 dX3_takes_1 ?_
  refine lv_aload_n (pc := 4) hx hb dX3_takes_4 rfl (lv_at hl 1 rfl) ?_
  refine g_getr (pc := 5) E Y 21 0 22 S_21 rfl V_3 (by decide) AL_X3 q_265 dX3_takes_5 ?_
  refine g_callVv (pc := 8) E Y 2 S_2 V_0 o_X0_takes q_598 [.ref (ad 22)] rfl rfl (hR_of (by omega) (by decide)) hl.1 (rest := []) rfl (Nat.le_of_ble_eq_true rfl) dX3_takes_8 (fun z hz => m_X0_takes_2_22 hz) hf (fun v1 μ2 H locs hf Y => ?_)
  refine lv_aload_n (pc := 11) hx hb dX3_takes_11 rfl (lv_at hl 0 rfl) ?_
  refine g_getr (pc := 12) E Y 1 1 7 S_1 rfl V_3 (by decide) AL_X3 q_272 dX3_takes_12 ?_
  refine lv_aload_n (pc := 15) hx hb dX3_takes_15 rfl (lv_at hl 1 rfl) ?_
  refine g_getr (pc := 16) E Y 21 1 27 S_21 rfl V_3 (by decide) AL_X3 q_272 dX3_takes_16 ?_
  refine g_callVv (pc := 19) E Y 7 S_7 V_2 o_X2_takes q_599 [.ref (ad 27)] rfl rfl (hR_of (by omega) (by decide)) hl.1 (rest := []) rfl (Nat.le_of_ble_eq_true rfl) dX3_takes_19 (fun z hz => m_X2_takes_7_27 hz) hf (fun v3 μ4 H locs hf Y => ?_)
  refine lv_aload_n (pc := 22) hx hb dX3_takes_22 rfl (lv_at hl 0 rfl) ?_
  refine g_getr (pc := 23) E Y 1 2 13 S_1 rfl V_3 (by decide) AL_X3 q_273 dX3_takes_23 ?_
  refine lv_aload_n (pc := 26) hx hb dX3_takes_26 rfl (lv_at hl 1 rfl) ?_
  refine g_getr (pc := 27) E Y 21 2 33 S_21 rfl V_3 (by decide) AL_X3 q_273 dX3_takes_27 ?_
  refine g_callVv (pc := 30) E Y 13 S_13 V_5 o_X5_takes q_600 [.ref (ad 33)] rfl rfl (hR_of (by omega) (by decide)) hl.1 (rest := []) rfl (Nat.le_of_ble_eq_true rfl) dX3_takes_30 (fun z hz => m_X5_takes_13_33 hz) hf (fun v5 μ6 H locs hf Y => ?_)
  refine lv_aload_n (pc := 33) hx hb dX3_takes_33 rfl (lv_at hl 0 rfl) ?_
  refine g_getr (pc := 34) E Y 1 3 16 S_1 rfl V_3 (by decide) AL_X3 q_274 dX3_takes_34 ?_
  refine lv_aload_n (pc := 37) hx hb dX3_takes_37 rfl (lv_at hl 1 rfl) ?_
  refine g_getr (pc := 38) E Y 21 3 36 S_21 rfl V_3 (by decide) AL_X3 q_274 dX3_takes_38 ?_
  refine g_callVv (pc := 41) E Y 16 S_16 V_5 o_X5_takes q_600 [.ref (ad 36)] rfl rfl (hR_of (by omega) (by decide)) hl.1 (rest := []) rfl (Nat.le_of_ble_eq_true rfl) dX3_takes_41 (fun z hz => m_X5_takes_16_36 hz) hf (fun v7 μ8 H locs hf Y => ?_)
  refine lv_aload_n (pc := 44) hx hb dX3_takes_44 rfl (lv_at hl 1 rfl) ?_
  refine g_getr (pc := 45) E Y 21 4 39 S_21 rfl V_3 (by decide) AL_X3 q_275 dX3_takes_45 ?_
  refine lv_iconst (pc := 48) (v := 0) hx hb dX3_takes_48 (by decide) ?_
  refine lv_aload_n (pc := 49) hx hb dX3_takes_49 rfl (lv_at hl 0 rfl) ?_
  refine g_getr (pc := 50) E Y 1 4 19 S_1 rfl V_3 (by decide) AL_X3 q_275 dX3_takes_50 ?_
  refine lv_iconst (pc := 53) (v := 0) hx hb dX3_takes_53 (by decide) ?_
  refine lv_bipush (pc := 54) (v := 60) hx hb dX3_takes_54 (by decide) ?_
  refine g_copy (pc := 56) E Y hl.1 39 19 1 (b := true) S_39 S_19 rfl q_601 q_723 q_903 q_360 (Nat.le_of_ble_eq_true rfl) (Nat.le_of_ble_eq_true rfl) dX3_takes_56 hf (fun μ9 H locs hf Y => ?_)
  refine lv_aload_n (pc := 59) hx hb dX3_takes_59 rfl (lv_at hl 0 rfl) ?_
  refine lv_aload_n (pc := 60) hx hb dX3_takes_60 rfl (lv_at hl 1 rfl) ?_
  refine g_geti (pc := 61) E Y 21 5 S_21 rfl V_3 (by decide) AL_X3 q_276 dX3_takes_61 hf (fun v10 hf => ?_)
  refine g_put (pc := 64) E Y 1 5 S_1 rfl V_3 (by decide) AL_X3 tyX3 tyX3_ok nmX3 q_276 rfl rfl rfl dX3_takes_64 hf (fun μ11 H locs hf Y => ?_)
  refine lv_aload_n (pc := 67) hx hb dX3_takes_67 rfl (lv_at hl 1 rfl) ?_
  refine g_getr (pc := 68) E Y 21 6 40 S_21 rfl V_3 (by decide) AL_X3 q_277 dX3_takes_68 ?_
  refine lv_iconst (pc := 71) (v := 0) hx hb dX3_takes_71 (by decide) ?_
  refine lv_aload_n (pc := 72) hx hb dX3_takes_72 rfl (lv_at hl 0 rfl) ?_
  refine g_getr (pc := 73) E Y 1 6 20 S_1 rfl V_3 (by decide) AL_X3 q_277 dX3_takes_73 ?_
  refine lv_iconst (pc := 76) (v := 0) hx hb dX3_takes_76 (by decide) ?_
  refine lv_bipush (pc := 77) (v := 24) hx hb dX3_takes_77 (by decide) ?_
  refine g_copy (pc := 79) E Y hl.1 40 20 0 (b := false) S_40 S_20 rfl q_601 q_723 q_903 q_360 (Nat.le_of_ble_eq_true rfl) (Nat.le_of_ble_eq_true rfl) dX3_takes_79 hf (fun μ12 H locs hf Y => ?_)
  refine lv_aload_n (pc := 82) hx hb dX3_takes_82 rfl (lv_at hl 0 rfl) ?_
  refine lv_aload_n (pc := 83) hx hb dX3_takes_83 rfl (lv_at hl 1 rfl) ?_
  refine g_geti (pc := 84) E Y 21 7 S_21 rfl V_3 (by decide) AL_X3 q_278 dX3_takes_84 hf (fun v13 hf => ?_)
  refine g_put (pc := 87) E Y 1 7 S_1 rfl V_3 (by decide) AL_X3 tyX3 tyX3_ok nmX3 q_278 rfl rfl rfl dX3_takes_87 hf (fun μ14 H locs hf Y => ?_)
  refine lv_aload_n (pc := 90) hx hb dX3_takes_90 rfl (lv_at hl 0 rfl) ?_
  refine lv_aload_n (pc := 91) hx hb dX3_takes_91 rfl (lv_at hl 1 rfl) ?_
  refine g_geti (pc := 92) E Y 21 8 S_21 rfl V_3 (by decide) AL_X3 q_279 dX3_takes_92 hf (fun v15 hf => ?_)
  refine g_put (pc := 95) E Y 1 8 S_1 rfl V_3 (by decide) AL_X3 tyX3 tyX3_ok nmX3 q_279 rfl rfl rfl dX3_takes_95 hf (fun μ16 H locs hf Y => ?_)
  refine lv_aload_n (pc := 98) hx hb dX3_takes_98 rfl (lv_at hl 0 rfl) ?_
  refine lv_aload_n (pc := 99) hx hb dX3_takes_99 rfl (lv_at hl 1 rfl) ?_
  refine g_geti (pc := 100) E Y 21 9 S_21 rfl V_3 (by decide) AL_X3 q_280 dX3_takes_100 hf (fun v17 hf => ?_)
  refine g_put (pc := 103) E Y 1 9 S_1 rfl V_3 (by decide) AL_X3 tyX3 tyX3_ok nmX3 q_280 rfl rfl rfl dX3_takes_103 hf (fun μ18 H locs hf Y => ?_)
  refine lv_aload_n (pc := 106) hx hb dX3_takes_106 rfl (lv_at hl 0 rfl) ?_
  refine lv_aload_n (pc := 107) hx hb dX3_takes_107 rfl (lv_at hl 1 rfl) ?_
  refine g_geti (pc := 108) E Y 21 10 S_21 rfl V_3 (by decide) AL_X3 q_281 dX3_takes_108 hf (fun v19 hf => ?_)
  refine g_put (pc := 111) E Y 1 10 S_1 rfl V_3 (by decide) AL_X3 tyX3 tyX3_ok nmX3 q_281 rfl rfl rfl dX3_takes_111 hf (fun μ20 H locs hf Y => ?_)
  refine lv_aload_n (pc := 114) hx hb dX3_takes_114 rfl (lv_at hl 0 rfl) ?_
  refine lv_aload_n (pc := 115) hx hb dX3_takes_115 rfl (lv_at hl 1 rfl) ?_
  refine g_geti (pc := 116) E Y 21 11 S_21 rfl V_3 (by decide) AL_X3 q_282 dX3_takes_116 hf (fun v21 hf => ?_)
  refine g_put (pc := 119) E Y 1 11 S_1 rfl V_3 (by decide) AL_X3 tyX3 tyX3_ok nmX3 q_282 rfl rfl rfl dX3_takes_119 hf (fun μ22 H locs hf Y => ?_)
  refine lv_aload_n (pc := 122) hx hb dX3_takes_122 rfl (lv_at hl 0 rfl) ?_
  refine lv_aload_n (pc := 123) hx hb dX3_takes_123 rfl (lv_at hl 1 rfl) ?_
  refine g_geti (pc := 124) E Y 21 12 S_21 rfl V_3 (by decide) AL_X3 q_283 dX3_takes_124 hf (fun v23 hf => ?_)
  refine g_put (pc := 127) E Y 1 12 S_1 rfl V_3 (by decide) AL_X3 tyX3 tyX3_ok nmX3 q_283 rfl rfl rfl dX3_takes_127 hf (fun μ24 H locs hf Y => ?_)
  refine lv_aload_n (pc := 130) hx hb dX3_takes_130 rfl (lv_at hl 0 rfl) ?_
  refine lv_aload_n (pc := 131) hx hb dX3_takes_131 rfl (lv_at hl 1 rfl) ?_
  refine g_geti (pc := 132) E Y 21 13 S_21 rfl V_3 (by decide) AL_X3 q_284 dX3_takes_132 hf (fun v25 hf => ?_)
  refine g_put (pc := 135) E Y 1 13 S_1 rfl V_3 (by decide) AL_X3 tyX3 tyX3_ok nmX3 q_284 rfl rfl rfl dX3_takes_135 hf (fun μ26 H locs hf Y => ?_)
  refine lv_aload_n (pc := 138) hx hb dX3_takes_138 rfl (lv_at hl 0 rfl) ?_
  refine lv_aload_n (pc := 139) hx hb dX3_takes_139 rfl (lv_at hl 1 rfl) ?_
  refine g_geti (pc := 140) E Y 21 14 S_21 rfl V_3 (by decide) AL_X3 q_285 dX3_takes_140 hf (fun v27 hf => ?_)
  refine g_put (pc := 143) E Y 1 14 S_1 rfl V_3 (by decide) AL_X3 tyX3 tyX3_ok nmX3 q_285 rfl rfl rfl dX3_takes_143 hf (fun μ28 H locs hf Y => ?_)
  exact g_vret (pc := 146) E Y hr hk dX3_takes_146 hf
def f_X7_restore_0 (σ : Mem) : Res := nm (σ 0 6) fun (v1 : Int32) => if v1 = 0 then (bd (f_X7_error_0 2 σ) fun v5 μ6 => some (v5, μ6)) else (bd (f_X3_takes_1_21 σ) fun v2 μ3 => nm (μ3 1 12) fun (v4 : Int32) => some (v4, μ3))
set_option maxHeartbeats 4000000 in
set_option maxRecDepth 100000 in
theorem m_X7_restore_0 {l : Launch} {σ : Mem} {Z : Int32 × Mem}  (hf : f_X7_restore_0 σ = some Z) : CT l yX7_restore cX7_restore 1 (some .int) 4 (fun ad => [.ref (ad 0)]) σ Z := by
  refine g_openT RX7 (by decide) rfl (fun _ => Nat.le_of_ble_eq_true rfl) (fun p e s m below meth c D cI cB ad st ls E Y hr hk hl => ?_)
  have hx := E.1.1
  have hb := E.1.2.1
  have hl : lv_has ls 1 [(0, .ref (ad 0))] := hl
  unfold f_X7_restore_0 at hf
  refine lv_aload_n (pc := 0) hx hb dX7_restore_0 rfl (lv_at hl 0 rfl) ?_
  refine g_geti (pc := 1) E Y 0 6 S_0 rfl V_7 (by decide) AL_X7 q_333 dX7_restore_1 hf (fun v1 hf => ?_)
  refine g_if_ne (pc := 4) (tgt := 13) E dX7_restore_4 (by decide) hf (fun hf => ?_) (fun hf => ?_)
  · refine lv_aload_n (pc := 13) hx hb dX7_restore_13 rfl (lv_at hl 0 rfl) ?_
    refine g_getr (pc := 14) E Y 0 0 1 S_0 rfl V_7 (by decide) AL_X7 q_301 dX7_restore_14 ?_
    refine lv_aload_n (pc := 17) hx hb dX7_restore_17 rfl (lv_at hl 0 rfl) ?_
    refine g_getr (pc := 18) E Y 0 1 21 S_0 rfl V_7 (by decide) AL_X7 q_311 dX7_restore_18 ?_
    refine g_callVv (pc := 21) E Y 1 S_1 V_3 o_X3_takes q_651 [.ref (ad 21)] rfl rfl (hR_of (by omega) (by decide)) hl.1 (rest := []) rfl (Nat.le_of_ble_eq_true rfl) dX7_restore_21 (fun z hz => m_X3_takes_1_21 hz) hf (fun v2 μ3 H locs hf Y => ?_)
    refine lv_aload_n (pc := 24) hx hb dX7_restore_24 rfl (lv_at hl 0 rfl) ?_
    refine g_getr (pc := 25) E Y 0 0 1 S_0 rfl V_7 (by decide) AL_X7 q_301 dX7_restore_25 ?_
    refine g_geti (pc := 28) E Y 1 12 S_1 rfl V_3 (by decide) AL_X3 q_321 dX7_restore_28 hf (fun v4 hf => ?_)
    exact g_iret (pc := 31) E Y hr hk dX7_restore_31 hf
  · refine lv_aload_n (pc := 7) hx hb dX7_restore_7 rfl (lv_at hl 0 rfl) ?_
    refine lv_iconst (pc := 8) (v := 2) hx hb dX7_restore_8 (by decide) ?_
    refine g_callVi (pc := 9) E Y 0 S_0 V_7 o_X7_error q_656 [.int 2] rfl rfl (hR_of (by omega) (by decide)) hl.1 (rest := []) rfl (Nat.le_of_ble_eq_true rfl) dX7_restore_9 (fun z hz => m_X7_error_0 hz) hf (fun v5 μ6 H locs hf Y => ?_)
    exact g_iret (pc := 12) E Y hr hk dX7_restore_12 hf
def f_X7_tell_0 (a0 : Int32) (σ : Mem) : Res := nm (σ 1 7) fun (v1 : Int32) => if v1 < 24 then (nm (σ 1 7) fun (v2 : Int32) => gi v2 24 <| nm (mset σ 20 v2.toNatClampNeg a0) fun (μ3 : Mem) => nm (μ3 1 7) fun (v4 : Int32) => nm (v4 + 1) fun (v5 : Int32) => nm (mset μ3 1 7 v5) fun (μ6 : Mem) => nm (μ6 1 7) fun (v7 : Int32) => some (v7, μ6)) else (bd (f_X7_error_0 4 σ) fun v8 μ9 => some (v8, μ9))
set_option maxHeartbeats 4000000 in
set_option maxRecDepth 100000 in
theorem m_X7_tell_0 {l : Launch} {σ : Mem} {Z : Int32 × Mem} {a0 : Int32} (hf : f_X7_tell_0 a0 σ = some Z) : CT l yX7_tell cX7_tell 2 (some .int) 1 (fun ad => [.ref (ad 0), .int a0]) σ Z := by
  refine g_openT RX7 (by decide) rfl (fun _ => Nat.le_of_ble_eq_true rfl) (fun p e s m below meth c D cI cB ad st ls E Y hr hk hl => ?_)
  have hx := E.1.1
  have hb := E.1.2.1
  have hl : lv_has ls 2 [(0, .ref (ad 0)), (1, .int a0)] := hl
  unfold f_X7_tell_0 at hf
  refine lv_aload_n (pc := 0) hx hb dX7_tell_0 rfl (lv_at hl 0 rfl) ?_
  refine g_getr (pc := 1) E Y 0 0 1 S_0 rfl V_7 (by decide) AL_X7 q_301 dX7_tell_1 ?_
  refine g_geti (pc := 4) E Y 1 7 S_1 rfl V_3 (by decide) AL_X3 q_322 dX7_tell_4 hf (fun v1 hf => ?_)
  refine lv_bipush (pc := 7) (v := 24) hx hb dX7_tell_7 (by decide) ?_
  refine g_icmp_lt (pc := 9) (tgt := 18) E dX7_tell_9 (by decide) hf (fun hf => ?_) (fun hf => ?_)
  · refine lv_aload_n (pc := 18) hx hb dX7_tell_18 rfl (lv_at hl 0 rfl) ?_
    refine g_getr (pc := 19) E Y 0 0 1 S_0 rfl V_7 (by decide) AL_X7 q_301 dX7_tell_19 ?_
    refine g_getr (pc := 22) E Y 1 6 20 S_1 rfl V_3 (by decide) AL_X3 q_323 dX7_tell_22 ?_
    refine lv_aload_n (pc := 25) hx hb dX7_tell_25 rfl (lv_at hl 0 rfl) ?_
    refine g_getr (pc := 26) E Y 0 0 1 S_0 rfl V_7 (by decide) AL_X7 q_301 dX7_tell_26 ?_
    refine g_geti (pc := 29) E Y 1 7 S_1 rfl V_3 (by decide) AL_X3 q_322 dX7_tell_29 hf (fun v2 hf => ?_)
    refine lv_iload_n (pc := 32) hx hb dX7_tell_32 rfl (lv_at hl 1 rfl) ?_
    refine g_iast (pc := 33) E Y 20 S_20 dX7_tell_33 hf (fun μ3 H locs hf Y => ?_)
    refine lv_aload_n (pc := 34) hx hb dX7_tell_34 rfl (lv_at hl 0 rfl) ?_
    refine g_getr (pc := 35) E Y 0 0 1 S_0 rfl V_7 (by decide) AL_X7 q_301 dX7_tell_35 ?_
    refine lv_dup (pc := 38) hx hb dX7_tell_38 rfl ?_
    refine g_geti (pc := 39) E Y 1 7 S_1 rfl V_3 (by decide) AL_X3 q_322 dX7_tell_39 hf (fun v4 hf => ?_)
    refine lv_iconst (pc := 42) (v := 1) hx hb dX7_tell_42 (by decide) ?_
    refine g_iadd (pc := 43) E dX7_tell_43 hf (fun v5 hf => ?_)
    refine g_put (pc := 44) E Y 1 7 S_1 rfl V_3 (by decide) AL_X3 tyX3 tyX3_ok nmX3 q_322 rfl rfl rfl dX7_tell_44 hf (fun μ6 H locs hf Y => ?_)
    refine lv_aload_n (pc := 47) hx hb dX7_tell_47 rfl (lv_at hl 0 rfl) ?_
    refine g_getr (pc := 48) E Y 0 0 1 S_0 rfl V_7 (by decide) AL_X7 q_301 dX7_tell_48 ?_
    refine g_geti (pc := 51) E Y 1 7 S_1 rfl V_3 (by decide) AL_X3 q_322 dX7_tell_51 hf (fun v7 hf => ?_)
    exact g_iret (pc := 54) E Y hr hk dX7_tell_54 hf
  · refine lv_aload_n (pc := 12) hx hb dX7_tell_12 rfl (lv_at hl 0 rfl) ?_
    refine lv_iconst (pc := 13) (v := 4) hx hb dX7_tell_13 (by decide) ?_
    refine g_callVi (pc := 14) E Y 0 S_0 V_7 o_X7_error q_656 [.int 4] rfl rfl (hR_of (by omega) (by decide)) hl.1 (rest := []) rfl (Nat.le_of_ble_eq_true rfl) dX7_tell_14 (fun z hz => m_X7_error_0 hz) hf (fun v8 μ9 H locs hf Y => ?_)
    exact g_iret (pc := 17) E Y hr hk dX7_tell_17 hf
def fb_X7_check_0_L18 (bk : Int32 → Int32 → Mem → Res) (x1 : Int32) (x2 : Int32) (σ : Mem) : Res := if x1 ≤ x2 then (some (0, σ)) else (nm (σ 7 5) fun (v3 : Int32) => if v3 ≤ x2 then (nm (1 + x2) fun (v4 : Int32) => some (v4, σ)) else (gi x2 24 <| nm (σ 20 x2.toNatClampNeg) fun (v5 : Int32) => gi x2 5 <| nm (σ 10 x2.toNatClampNeg) fun (v6 : Int32) => if v5 = v6 then (nm (x2 + 1) fun (v7 : Int32) => bk x1 v7 σ) else (nm (1 + x2) fun (v8 : Int32) => some (v8, σ))))
def f_X7_check_0_L18 : Nat → Int32 → Int32 → Mem → Res
  | 0, _, _, _ => none
  | n + 1, x1, x2, σ => fb_X7_check_0_L18 (f_X7_check_0_L18 n) x1 x2 σ
def f_X7_check_0 (σ : Mem) : Res := nm (σ 1 7) fun (v1 : Int32) => nm (mset σ 1 7 0) fun (μ2 : Mem) => f_X7_check_0_L18 1000 v1 0 μ2
set_option maxHeartbeats 4000000 in
set_option maxRecDepth 100000 in
theorem m_X7_check_0 {l : Launch} {σ : Mem} {Z : Int32 × Mem}  (hf : f_X7_check_0 σ = some Z) : CT l yX7_check cX7_check 3 (some .int) 0 (fun ad => [.ref (ad 0)]) σ Z := by
  refine g_openT RX7 (by decide) rfl (fun _ => Nat.le_of_ble_eq_true rfl) (fun p e s m below meth c D cI cB ad st ls E Y hr hk hl => ?_)
  have hx := E.1.1
  have hb := E.1.2.1
  have hl : lv_has ls 3 [(0, .ref (ad 0))] := hl
  have hL_18 : ∀ (n : Nat) (x1 : Int32) (x2 : Int32) (σ : Mem) (H : Heap) (locs : List Loc) (ls : Array Slot), f_X7_check_0_L18 n x1 x2 σ = some Z → Wo D cI cB ad (AA ad) σ s H locs → lv_has ls 3 [(0, .ref (ad 0)), (1, .int x1), (2, .int x2)] → W p l e (rmd 0) s m ([.ref (ad 0)] : List Value).toArray below meth c H locs 0 0 (QT_ below D cI cB ad st Z ([.ref (ad 0)] : List Value).toArray s) (F0 m 18 ls []) := by
    intro n
    induction n with
    | zero =>
      intro x1 x2 σ H locs ls hf
      cases (show (none : Res) = some Z from hf)
    | succ n ih =>
      intro x1 x2 σ H locs ls hf Y hl
      have hf : fb_X7_check_0_L18 (f_X7_check_0_L18 n) x1 x2 σ = some Z := hf
      unfold fb_X7_check_0_L18 at hf
      refine lv_iload_n (pc := 18) hx hb dX7_check_18 rfl (lv_at hl 2 rfl) ?_
      refine lv_iload_n (pc := 19) hx hb dX7_check_19 rfl (lv_at hl 1 rfl) ?_
      refine g_icmp_ge (pc := 20) (tgt := 71) E dX7_check_20 (by decide) hf (fun hf => ?_) (fun hf => ?_)
      · refine lv_iconst (pc := 71) (v := 0) hx hb dX7_check_71 (by decide) ?_
        exact g_iret (pc := 72) E Y hr hk dX7_check_72 hf
      · refine lv_iload_n (pc := 23) hx hb dX7_check_23 rfl (lv_at hl 2 rfl) ?_
        refine lv_aload_n (pc := 24) hx hb dX7_check_24 rfl (lv_at hl 0 rfl) ?_
        refine g_getr (pc := 25) E Y 0 0 1 S_0 rfl V_7 (by decide) AL_X7 q_301 dX7_check_25 ?_
        refine g_getr (pc := 28) E Y 1 1 7 S_1 rfl V_3 (by decide) AL_X3 q_302 dX7_check_28 ?_
        refine g_geti (pc := 31) E Y 7 5 S_7 rfl V_2 (by decide) AL_X2 q_303 dX7_check_31 hf (fun v3 hf => ?_)
        refine g_icmp_ge (pc := 34) (tgt := 61) E dX7_check_34 (by decide) hf (fun hf => ?_) (fun hf => ?_)
        · refine lv_iconst (pc := 61) (v := 1) hx hb dX7_check_61 (by decide) ?_
          refine lv_iload_n (pc := 62) hx hb dX7_check_62 rfl (lv_at hl 2 rfl) ?_
          refine g_iadd (pc := 63) E dX7_check_63 hf (fun v4 hf => ?_)
          exact g_iret (pc := 64) E Y hr hk dX7_check_64 hf
        · refine lv_aload_n (pc := 37) hx hb dX7_check_37 rfl (lv_at hl 0 rfl) ?_
          refine g_getr (pc := 38) E Y 0 0 1 S_0 rfl V_7 (by decide) AL_X7 q_301 dX7_check_38 ?_
          refine g_getr (pc := 41) E Y 1 6 20 S_1 rfl V_3 (by decide) AL_X3 q_323 dX7_check_41 ?_
          refine lv_iload_n (pc := 44) hx hb dX7_check_44 rfl (lv_at hl 2 rfl) ?_
          refine g_iald (pc := 45) E Y 20 S_20 dX7_check_45 hf (fun v5 hf => ?_)
          refine lv_aload_n (pc := 46) hx hb dX7_check_46 rfl (lv_at hl 0 rfl) ?_
          refine g_getr (pc := 47) E Y 0 0 1 S_0 rfl V_7 (by decide) AL_X7 q_301 dX7_check_47 ?_
          refine g_getr (pc := 50) E Y 1 1 7 S_1 rfl V_3 (by decide) AL_X3 q_302 dX7_check_50 ?_
          refine g_getr (pc := 53) E Y 7 2 10 S_7 rfl V_2 (by decide) AL_X2 q_304 dX7_check_53 ?_
          refine lv_iload_n (pc := 56) hx hb dX7_check_56 rfl (lv_at hl 2 rfl) ?_
          refine g_iald (pc := 57) E Y 10 S_10 dX7_check_57 hf (fun v6 hf => ?_)
          refine g_icmp_eq (pc := 58) (tgt := 65) E dX7_check_58 (by decide) hf (fun hf => ?_) (fun hf => ?_)
          · refine g_iinc (pc := 65) E (fun v7 => [(2, .int v7), (0, .ref (ad 0)), (1, .int x1)]) dX7_check_65 hl (k := 2) rfl (t := 1) (by decide) (by decide) (fun _ => rfl) hf (fun v7 hf ls hl => ?_)
            refine lv_goto (pc := 68) (tgt := 18) hx hb dX7_check_68 (by decide) ?_
            exact ih _ _ _ _ _ _ hf Y (lv_sub hl [1, 2, 0] rfl)
          · refine lv_iconst (pc := 61) (v := 1) hx hb dX7_check_61 (by decide) ?_
            refine lv_iload_n (pc := 62) hx hb dX7_check_62 rfl (lv_at hl 2 rfl) ?_
            refine g_iadd (pc := 63) E dX7_check_63 hf (fun v8 hf => ?_)
            exact g_iret (pc := 64) E Y hr hk dX7_check_64 hf
  unfold f_X7_check_0 at hf
  refine lv_aload_n (pc := 0) hx hb dX7_check_0 rfl (lv_at hl 0 rfl) ?_
  refine g_getr (pc := 1) E Y 0 0 1 S_0 rfl V_7 (by decide) AL_X7 q_301 dX7_check_1 ?_
  refine g_geti (pc := 4) E Y 1 7 S_1 rfl V_3 (by decide) AL_X3 q_322 dX7_check_4 hf (fun v1 hf => ?_)
  refine lv_istore_n (pc := 7) (lv' := [(1, .int v1), (0, .ref (ad 0))]) hx hb dX7_check_7 rfl hl (by decide) rfl (fun ls hl => ?_)
  refine lv_aload_n (pc := 8) hx hb dX7_check_8 rfl (lv_at hl 1 rfl) ?_
  refine g_getr (pc := 9) E Y 0 0 1 S_0 rfl V_7 (by decide) AL_X7 q_301 dX7_check_9 ?_
  refine lv_iconst (pc := 12) (v := 0) hx hb dX7_check_12 (by decide) ?_
  refine g_put (pc := 13) E Y 1 7 S_1 rfl V_3 (by decide) AL_X3 tyX3 tyX3_ok nmX3 q_322 rfl rfl rfl dX7_check_13 hf (fun μ2 H locs hf Y => ?_)
  refine lv_iconst (pc := 16) (v := 0) hx hb dX7_check_16 (by decide) ?_
  refine lv_istore_n (pc := 17) (lv' := [(2, .int 0), (1, .int v1), (0, .ref (ad 0))]) hx hb dX7_check_17 rfl hl (by decide) rfl (fun ls hl => ?_)
  exact hL_18 1000 _ _ _ _ _ _ hf Y (lv_sub hl [2, 1, 0] rfl)
def f_X7_count_0 (a0 : Int32) (σ : Mem) : Res := if a0 = 0 then (nm (σ 2 4) fun (v1 : Int32) => some (v1, σ)) else (if a0 = 1 then (nm (σ 7 5) fun (v2 : Int32) => some (v2, σ)) else (if a0 = 2 then (nm (σ 1 11) fun (v3 : Int32) => some (v3, σ)) else (if a0 = 3 then (nm (σ 1 12) fun (v4 : Int32) => some (v4, σ)) else (if a0 = 4 then (nm (σ 1 13) fun (v5 : Int32) => some (v5, σ)) else (if a0 = 5 then (nm (σ 1 8) fun (v6 : Int32) => some (v6, σ)) else (if a0 = 6 then (nm (σ 1 9) fun (v7 : Int32) => some (v7, σ)) else (if a0 = 7 then (nm (σ 1 10) fun (v8 : Int32) => some (v8, σ)) else (if a0 = 8 then (nm (σ 1 5) fun (v9 : Int32) => some (v9, σ)) else (if a0 = 9 then (nm (σ 1 7) fun (v10 : Int32) => some (v10, σ)) else (if a0 = 10 then (nm (σ 50 1) fun (v11 : Int32) => some (v11, σ)) else (if a0 = 11 then (nm (σ 1 14) fun (v12 : Int32) => some (v12, σ)) else (bd (f_X7_error_0 1 σ) fun v13 μ14 => some (v13, μ14)))))))))))))
set_option maxHeartbeats 4000000 in
set_option maxRecDepth 100000 in
theorem m_X7_count_0 {l : Launch} {σ : Mem} {Z : Int32 × Mem} {a0 : Int32} (hf : f_X7_count_0 a0 σ = some Z) : CT l yX7_count cX7_count 2 (some .int) 1 (fun ad => [.ref (ad 0), .int a0]) σ Z := by
  refine g_openT RX7 (by decide) rfl (fun _ => Nat.le_of_ble_eq_true rfl) (fun p e s m below meth c D cI cB ad st ls E Y hr hk hl => ?_)
  have hx := E.1.1
  have hb := E.1.2.1
  have hl : lv_has ls 2 [(0, .ref (ad 0)), (1, .int a0)] := hl
  unfold f_X7_count_0 at hf
  refine lv_iload_n (pc := 0) hx hb dX7_count_0 rfl (lv_at hl 1 rfl) ?_
  by_cases hc : a0 = 0
  · rw [if_pos hc] at hf
    refine g_tabIn (pc := 1) (tgt := 64) E dX7_count_1 hc (n := 0) (by decide) (by decide) (by decide) rfl (by decide) ?_
    refine lv_aload_n (pc := 64) hx hb dX7_count_64 rfl (lv_at hl 0 rfl) ?_
    refine g_getr (pc := 65) E Y 0 0 1 S_0 rfl V_7 (by decide) AL_X7 q_301 dX7_count_65 ?_
    refine g_getr (pc := 68) E Y 1 0 2 S_1 rfl V_3 (by decide) AL_X3 q_334 dX7_count_68 ?_
    refine g_geti (pc := 71) E Y 2 4 S_2 rfl V_0 (by decide) AL_X0 q_335 dX7_count_71 hf (fun v1 hf => ?_)
    exact g_iret (pc := 74) E Y hr hk dX7_count_74 hf
  · rw [if_neg hc] at hf
    have n_0 := ti_ne (n := 0) (by decide) hc
    clear hc
    by_cases hc : a0 = 1
    · rw [if_pos hc] at hf
      refine g_tabIn (pc := 1) (tgt := 75) E dX7_count_1 hc (n := 1) (by decide) (by decide) (by decide) rfl (by decide) ?_
      refine lv_aload_n (pc := 75) hx hb dX7_count_75 rfl (lv_at hl 0 rfl) ?_
      refine g_getr (pc := 76) E Y 0 0 1 S_0 rfl V_7 (by decide) AL_X7 q_301 dX7_count_76 ?_
      refine g_getr (pc := 79) E Y 1 1 7 S_1 rfl V_3 (by decide) AL_X3 q_302 dX7_count_79 ?_
      refine g_geti (pc := 82) E Y 7 5 S_7 rfl V_2 (by decide) AL_X2 q_303 dX7_count_82 hf (fun v2 hf => ?_)
      exact g_iret (pc := 85) E Y hr hk dX7_count_85 hf
    · rw [if_neg hc] at hf
      have n_1 := ti_ne (n := 1) (by decide) hc
      clear hc
      by_cases hc : a0 = 2
      · rw [if_pos hc] at hf
        refine g_tabIn (pc := 1) (tgt := 86) E dX7_count_1 hc (n := 2) (by decide) (by decide) (by decide) rfl (by decide) ?_
        refine lv_aload_n (pc := 86) hx hb dX7_count_86 rfl (lv_at hl 0 rfl) ?_
        refine g_getr (pc := 87) E Y 0 0 1 S_0 rfl V_7 (by decide) AL_X7 q_301 dX7_count_87 ?_
        refine g_geti (pc := 90) E Y 1 11 S_1 rfl V_3 (by decide) AL_X3 q_324 dX7_count_90 hf (fun v3 hf => ?_)
        exact g_iret (pc := 93) E Y hr hk dX7_count_93 hf
      · rw [if_neg hc] at hf
        have n_2 := ti_ne (n := 2) (by decide) hc
        clear hc
        by_cases hc : a0 = 3
        · rw [if_pos hc] at hf
          refine g_tabIn (pc := 1) (tgt := 94) E dX7_count_1 hc (n := 3) (by decide) (by decide) (by decide) rfl (by decide) ?_
          refine lv_aload_n (pc := 94) hx hb dX7_count_94 rfl (lv_at hl 0 rfl) ?_
          refine g_getr (pc := 95) E Y 0 0 1 S_0 rfl V_7 (by decide) AL_X7 q_301 dX7_count_95 ?_
          refine g_geti (pc := 98) E Y 1 12 S_1 rfl V_3 (by decide) AL_X3 q_321 dX7_count_98 hf (fun v4 hf => ?_)
          exact g_iret (pc := 101) E Y hr hk dX7_count_101 hf
        · rw [if_neg hc] at hf
          have n_3 := ti_ne (n := 3) (by decide) hc
          clear hc
          by_cases hc : a0 = 4
          · rw [if_pos hc] at hf
            refine g_tabIn (pc := 1) (tgt := 102) E dX7_count_1 hc (n := 4) (by decide) (by decide) (by decide) rfl (by decide) ?_
            refine lv_aload_n (pc := 102) hx hb dX7_count_102 rfl (lv_at hl 0 rfl) ?_
            refine g_getr (pc := 103) E Y 0 0 1 S_0 rfl V_7 (by decide) AL_X7 q_301 dX7_count_103 ?_
            refine g_geti (pc := 106) E Y 1 13 S_1 rfl V_3 (by decide) AL_X3 q_325 dX7_count_106 hf (fun v5 hf => ?_)
            exact g_iret (pc := 109) E Y hr hk dX7_count_109 hf
          · rw [if_neg hc] at hf
            have n_4 := ti_ne (n := 4) (by decide) hc
            clear hc
            by_cases hc : a0 = 5
            · rw [if_pos hc] at hf
              refine g_tabIn (pc := 1) (tgt := 110) E dX7_count_1 hc (n := 5) (by decide) (by decide) (by decide) rfl (by decide) ?_
              refine lv_aload_n (pc := 110) hx hb dX7_count_110 rfl (lv_at hl 0 rfl) ?_
              refine g_getr (pc := 111) E Y 0 0 1 S_0 rfl V_7 (by decide) AL_X7 q_301 dX7_count_111 ?_
              refine g_geti (pc := 114) E Y 1 8 S_1 rfl V_3 (by decide) AL_X3 q_327 dX7_count_114 hf (fun v6 hf => ?_)
              exact g_iret (pc := 117) E Y hr hk dX7_count_117 hf
            · rw [if_neg hc] at hf
              have n_5 := ti_ne (n := 5) (by decide) hc
              clear hc
              by_cases hc : a0 = 6
              · rw [if_pos hc] at hf
                refine g_tabIn (pc := 1) (tgt := 118) E dX7_count_1 hc (n := 6) (by decide) (by decide) (by decide) rfl (by decide) ?_
                refine lv_aload_n (pc := 118) hx hb dX7_count_118 rfl (lv_at hl 0 rfl) ?_
                refine g_getr (pc := 119) E Y 0 0 1 S_0 rfl V_7 (by decide) AL_X7 q_301 dX7_count_119 ?_
                refine g_geti (pc := 122) E Y 1 9 S_1 rfl V_3 (by decide) AL_X3 q_328 dX7_count_122 hf (fun v7 hf => ?_)
                exact g_iret (pc := 125) E Y hr hk dX7_count_125 hf
              · rw [if_neg hc] at hf
                have n_6 := ti_ne (n := 6) (by decide) hc
                clear hc
                by_cases hc : a0 = 7
                · rw [if_pos hc] at hf
                  refine g_tabIn (pc := 1) (tgt := 126) E dX7_count_1 hc (n := 7) (by decide) (by decide) (by decide) rfl (by decide) ?_
                  refine lv_aload_n (pc := 126) hx hb dX7_count_126 rfl (lv_at hl 0 rfl) ?_
                  refine g_getr (pc := 127) E Y 0 0 1 S_0 rfl V_7 (by decide) AL_X7 q_301 dX7_count_127 ?_
                  refine g_geti (pc := 130) E Y 1 10 S_1 rfl V_3 (by decide) AL_X3 q_329 dX7_count_130 hf (fun v8 hf => ?_)
                  exact g_iret (pc := 133) E Y hr hk dX7_count_133 hf
                · rw [if_neg hc] at hf
                  have n_7 := ti_ne (n := 7) (by decide) hc
                  clear hc
                  by_cases hc : a0 = 8
                  · rw [if_pos hc] at hf
                    refine g_tabIn (pc := 1) (tgt := 134) E dX7_count_1 hc (n := 8) (by decide) (by decide) (by decide) rfl (by decide) ?_
                    refine lv_aload_n (pc := 134) hx hb dX7_count_134 rfl (lv_at hl 0 rfl) ?_
                    refine g_getr (pc := 135) E Y 0 0 1 S_0 rfl V_7 (by decide) AL_X7 q_301 dX7_count_135 ?_
                    refine g_geti (pc := 138) E Y 1 5 S_1 rfl V_3 (by decide) AL_X3 q_309 dX7_count_138 hf (fun v9 hf => ?_)
                    exact g_iret (pc := 141) E Y hr hk dX7_count_141 hf
                  · rw [if_neg hc] at hf
                    have n_8 := ti_ne (n := 8) (by decide) hc
                    clear hc
                    by_cases hc : a0 = 9
                    · rw [if_pos hc] at hf
                      refine g_tabIn (pc := 1) (tgt := 142) E dX7_count_1 hc (n := 9) (by decide) (by decide) (by decide) rfl (by decide) ?_
                      refine lv_aload_n (pc := 142) hx hb dX7_count_142 rfl (lv_at hl 0 rfl) ?_
                      refine g_getr (pc := 143) E Y 0 0 1 S_0 rfl V_7 (by decide) AL_X7 q_301 dX7_count_143 ?_
                      refine g_geti (pc := 146) E Y 1 7 S_1 rfl V_3 (by decide) AL_X3 q_322 dX7_count_146 hf (fun v10 hf => ?_)
                      exact g_iret (pc := 149) E Y hr hk dX7_count_149 hf
                    · rw [if_neg hc] at hf
                      have n_9 := ti_ne (n := 9) (by decide) hc
                      clear hc
                      by_cases hc : a0 = 10
                      · rw [if_pos hc] at hf
                        refine g_tabIn (pc := 1) (tgt := 150) E dX7_count_1 hc (n := 10) (by decide) (by decide) (by decide) rfl (by decide) ?_
                        refine lv_aload_n (pc := 150) hx hb dX7_count_150 rfl (lv_at hl 0 rfl) ?_
                        refine g_getr (pc := 151) E Y 0 4 50 S_0 rfl V_7 (by decide) AL_X7 q_331 dX7_count_151 ?_
                        refine g_geti (pc := 154) E Y 50 1 S_50 rfl V_6 (by decide) AL_X6 q_317 dX7_count_154 hf (fun v11 hf => ?_)
                        exact g_iret (pc := 157) E Y hr hk dX7_count_157 hf
                      · rw [if_neg hc] at hf
                        have n_10 := ti_ne (n := 10) (by decide) hc
                        clear hc
                        by_cases hc : a0 = 11
                        · rw [if_pos hc] at hf
                          refine g_tabIn (pc := 1) (tgt := 158) E dX7_count_1 hc (n := 11) (by decide) (by decide) (by decide) rfl (by decide) ?_
                          refine lv_aload_n (pc := 158) hx hb dX7_count_158 rfl (lv_at hl 0 rfl) ?_
                          refine g_getr (pc := 159) E Y 0 0 1 S_0 rfl V_7 (by decide) AL_X7 q_301 dX7_count_159 ?_
                          refine g_geti (pc := 162) E Y 1 14 S_1 rfl V_3 (by decide) AL_X3 q_315 dX7_count_162 hf (fun v12 hf => ?_)
                          exact g_iret (pc := 165) E Y hr hk dX7_count_165 hf
                        · rw [if_neg hc] at hf
                          have n_11 := ti_ne (n := 11) (by decide) hc
                          clear hc
                          refine lv_tableOut (pc := 1) (tgt := 166) hx hb dX7_count_1 (by omega) (by decide) ?_
                          refine lv_aload_n (pc := 166) hx hb dX7_count_166 rfl (lv_at hl 0 rfl) ?_
                          refine lv_iconst (pc := 167) (v := 1) hx hb dX7_count_167 (by decide) ?_
                          refine g_callVi (pc := 168) E Y 0 S_0 V_7 o_X7_error q_656 [.int 1] rfl rfl (hR_of (by omega) (by decide)) hl.1 (rest := []) rfl (Nat.le_of_ble_eq_true rfl) dX7_count_168 (fun z hz => m_X7_error_0 hz) hf (fun v13 μ14 H locs hf Y => ?_)
                          exact g_iret (pc := 171) E Y hr hk dX7_count_171 hf
def f_X7_told_0 (a0 : Int32) (σ : Mem) : Res := bd (f_X7_within a0 1 6 σ) fun v1 μ2 => if v1 = 0 then (bd (f_X7_error_0 1 μ2) fun v4 μ5 => some (v4, μ5)) else (gi a0 7 <| nm (μ2 52 a0.toNatClampNeg) fun (v3 : Int32) => some (v3, μ2))
set_option maxHeartbeats 4000000 in
set_option maxRecDepth 100000 in
theorem m_X7_told_0 {l : Launch} {σ : Mem} {Z : Int32 × Mem} {a0 : Int32} (hf : f_X7_told_0 a0 σ = some Z) : CT l yX7_told cX7_told 2 (some .int) 1 (fun ad => [.ref (ad 0), .int a0]) σ Z := by
  refine g_openT RX7 (by decide) rfl (fun _ => Nat.le_of_ble_eq_true rfl) (fun p e s m below meth c D cI cB ad st ls E Y hr hk hl => ?_)
  have hx := E.1.1
  have hb := E.1.2.1
  have hl : lv_has ls 2 [(0, .ref (ad 0)), (1, .int a0)] := hl
  unfold f_X7_told_0 at hf
  refine lv_iload_n (pc := 0) hx hb dX7_told_0 rfl (lv_at hl 1 rfl) ?_
  refine lv_iconst (pc := 1) (v := 1) hx hb dX7_told_1 (by decide) ?_
  refine lv_bipush (pc := 2) (v := 6) hx hb dX7_told_2 (by decide) ?_
  refine g_callSi (pc := 4) E Y o_X7_within q_661 [.int a0, .int 1, .int 6] rfl rfl (hR_of (by omega) (by decide)) hl.1 (rest := []) rfl (Nat.le_of_ble_eq_true rfl) dX7_told_4 (fun z hz => m_X7_within hz) hf (fun v1 μ2 H locs hf Y => ?_)
  refine g_if_ne (pc := 7) (tgt := 16) E dX7_told_7 (by decide) hf (fun hf => ?_) (fun hf => ?_)
  · refine lv_aload_n (pc := 16) hx hb dX7_told_16 rfl (lv_at hl 0 rfl) ?_
    refine g_getr (pc := 17) E Y 0 5 52 S_0 rfl V_7 (by decide) AL_X7 q_332 dX7_told_17 ?_
    refine lv_iload_n (pc := 20) hx hb dX7_told_20 rfl (lv_at hl 1 rfl) ?_
    refine g_iald (pc := 21) E Y 52 S_52 dX7_told_21 hf (fun v3 hf => ?_)
    exact g_iret (pc := 22) E Y hr hk dX7_told_22 hf
  · refine lv_aload_n (pc := 10) hx hb dX7_told_10 rfl (lv_at hl 0 rfl) ?_
    refine lv_iconst (pc := 11) (v := 1) hx hb dX7_told_11 (by decide) ?_
    refine g_callVi (pc := 12) E Y 0 S_0 V_7 o_X7_error q_656 [.int 1] rfl rfl (hR_of (by omega) (by decide)) hl.1 (rest := []) rfl (Nat.le_of_ble_eq_true rfl) dX7_told_12 (fun z hz => m_X7_error_0 hz) hf (fun v4 μ5 H locs hf Y => ?_)
    exact g_iret (pc := 15) E Y hr hk dX7_told_15 hf
