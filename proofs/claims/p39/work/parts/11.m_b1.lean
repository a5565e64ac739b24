/-! methods, by program: a pure program and its contract each -/
def f_X8_runner_53 (a0 : Int32) (a1 : Int32) (σ : Mem) : Res := bd (f_X8_in a0 0 99 σ) fun v1 μ2 => if v1 = 0 then (bd (f_X8_error_53 (-1000000001) μ2) fun v3 μ4 => some (v3, μ4)) else (bd (f_X8_in a1 1 60 μ2) fun v5 μ6 => if v5 = 0 then (bd (f_X8_error_53 (-1000000001) μ6) fun v23 μ24 => some (v23, μ24)) else (gi 8 386 <| nm (μ6 54 (8 : Int32).toNatClampNeg) fun (v7 : Int32) => if v7 = 5 then (bd (f_X8_error_53 (-1000000004) μ6) fun v21 μ22 => some (v21, μ22)) else (gi 8 386 <| nm (μ6 54 (8 : Int32).toNatClampNeg) fun (v8 : Int32) => nm (v8 + 1) fun (v9 : Int32) => gi 8 386 <| nm (mset μ6 54 (8 : Int32).toNatClampNeg v9) fun (μ10 : Mem) => bd (f_X8_lets_53 v7 0 a0 μ10) fun v11 μ12 => bd (f_X8_lets_53 v7 1 a1 μ12) fun v13 μ14 => bd (f_X8_lets_53 v7 2 0 μ14) fun v15 μ16 => bd (f_X8_lets_53 v7 3 0 μ16) fun v17 μ18 => bd (f_X8_lets_53 v7 4 0 μ18) fun v19 μ20 => some (v7, μ20))))
set_option maxHeartbeats 4000000 in
set_option maxRecDepth 100000 in
theorem m_X8_runner_53 {l : Launch} {σ : Mem} {Z : Int32 × Mem} {a0 : Int32} {a1 : Int32} (hf : f_X8_runner_53 a0 a1 σ = some Z) : CT l yX8_runner cX8_runner 4 (some .int) 1 (fun ad => [.ref (ad 53), .int a0, .int a1]) σ Z := by
  refine g_openT RX8 (by decide) rfl (fun _ => Nat.le_of_ble_eq_true rfl) (fun p e s m below meth c D cI cB ad st ls E Y hr hk hl => ?_)
  have hx := E.1.1
  have hb := E.1.2.1
  have hl : lv_has ls 4 [(0, .ref (ad 53)), (1, .int a0), (2, .int a1)] := hl
  unfold f_X8_runner_53 at hf
  refine lv_iload_n (pc := 0) hx hb dX8_runner_0 rfl (lv_at hl 1 rfl) ?_
  refine lv_iconst (pc := 1) (v := 0) hx hb dX8_runner_1 (by decide) ?_
  refine lv_bipush (pc := 2) (v := 99) hx hb dX8_runner_2 (by decide) ?_
  refine g_callSi (pc := 4) E Y o_X8_in q_707 [.int a0, .int 0, .int 99] rfl rfl (hR_of (by omega) (by decide)) hl.1 (rest := []) rfl (Nat.le_of_ble_eq_true rfl) dX8_runner_4 (fun z hz => m_X8_in hz) hf (fun v1 μ2 H locs hf Y => ?_)
  refine g_if_eq (pc := 7) (tgt := 20) E dX8_runner_7 (by decide) hf (fun hf => ?_) (fun hf => ?_)
  · refine lv_aload_n (pc := 20) hx hb dX8_runner_20 rfl (lv_at hl 0 rfl) ?_
    refine lv_ldc (pc := 21) (v := (-1000000001)) hx hb E.1.2.2.2.1 (E.1.2.2.2.2 _ q_238) dX8_runner_21 ?_
    refine g_callVi (pc := 23) E Y 53 S_53 V_8 o_X8_error q_716 [.int (-1000000001)] rfl rfl (hR_of (by omega) (by decide)) hl.1 (rest := []) rfl (Nat.le_of_ble_eq_true rfl) dX8_runner_23 (fun z hz => m_X8_error_53 hz) hf (fun v3 μ4 H locs hf Y => ?_)
    exact g_iret (pc := 26) E Y hr hk dX8_runner_26 hf
  · refine lv_iload_n (pc := 10) hx hb dX8_runner_10 rfl (lv_at hl 2 rfl) ?_
    refine lv_iconst (pc := 11) (v := 1) hx hb dX8_runner_11 (by decide) ?_
    refine lv_bipush (pc := 12) (v := 60) hx hb dX8_runner_12 (by decide) ?_
    refine g_callSi (pc := 14) E Y o_X8_in q_707 [.int a1, .int 1, .int 60] rfl rfl (hR_of (by omega) (by decide)) hl.1 (rest := []) rfl (Nat.le_of_ble_eq_true rfl) dX8_runner_14 (fun z hz => m_X8_in hz) hf (fun v5 μ6 H locs hf Y => ?_)
    refine g_if_ne (pc := 17) (tgt := 27) E dX8_runner_17 (by decide) hf (fun hf => ?_) (fun hf => ?_)
    · refine lv_aload_n (pc := 27) hx hb dX8_runner_27 rfl (lv_at hl 0 rfl) ?_
      refine g_getr (pc := 28) E Y 53 0 54 S_53 rfl V_8 (by decide) AL_X8 q_358 dX8_runner_28 ?_
      refine lv_bipush (pc := 31) (v := 8) hx hb dX8_runner_31 (by decide) ?_
      refine g_iald (pc := 33) E Y 54 S_54 dX8_runner_33 hf (fun v7 hf => ?_)
      refine lv_istore_n (pc := 34) (lv' := [(3, .int v7), (0, .ref (ad 53)), (1, .int a0), (2, .int a1)]) hx hb dX8_runner_34 rfl hl (by decide) rfl (fun ls hl => ?_)
      refine lv_iload_n (pc := 35) hx hb dX8_runner_35 rfl (lv_at hl 0 rfl) ?_
      refine lv_iconst (pc := 36) (v := 5) hx hb dX8_runner_36 (by decide) ?_
      refine g_icmp_ne (pc := 37) (tgt := 47) E dX8_runner_37 (by decide) hf (fun hf => ?_) (fun hf => ?_)
      · refine lv_aload_n (pc := 47) hx hb dX8_runner_47 rfl (lv_at hl 1 rfl) ?_
        refine g_getr (pc := 48) E Y 53 0 54 S_53 rfl V_8 (by decide) AL_X8 q_358 dX8_runner_48 ?_
        refine lv_bipush (pc := 51) (v := 8) hx hb dX8_runner_51 (by decide) ?_
        refine lv_dup2_11 (pc := 53) hx hb dX8_runner_53 rfl rfl ?_
        refine g_iald (pc := 54) E Y 54 S_54 dX8_runner_54 hf (fun v8 hf => ?_)
        refine lv_iconst (pc := 55) (v := 1) hx hb dX8_runner_55 (by decide) ?_
        refine g_iadd (pc := 56) E dX8_runner_56 hf (fun v9 hf => ?_)
        refine g_iast (pc := 57) E Y 54 S_54 dX8_runner_57 hf (fun μ10 H locs hf Y => ?_)
        refine lv_aload_n (pc := 58) hx hb dX8_runner_58 rfl (lv_at hl 1 rfl) ?_
        refine lv_iload_n (pc := 59) hx hb dX8_runner_59 rfl (lv_at hl 0 rfl) ?_
        refine lv_iconst (pc := 60) (v := 0) hx hb dX8_runner_60 (by decide) ?_
        refine lv_iload_n (pc := 61) hx hb dX8_runner_61 rfl (lv_at hl 2 rfl) ?_
        refine g_callVv (pc := 62) E Y 53 S_53 V_8 o_X8_lets q_720 [.int v7, .int 0, .int a0] rfl rfl (hR_of (by omega) (by decide)) hl.1 (rest := []) rfl (Nat.le_of_ble_eq_true rfl) dX8_runner_62 (fun z hz => m_X8_lets_53 hz) hf (fun v11 μ12 H locs hf Y => ?_)
        refine lv_aload_n (pc := 65) hx hb dX8_runner_65 rfl (lv_at hl 1 rfl) ?_
        refine lv_iload_n (pc := 66) hx hb dX8_runner_66 rfl (lv_at hl 0 rfl) ?_
        refine lv_iconst (pc := 67) (v := 1) hx hb dX8_runner_67 (by decide) ?_
        refine lv_iload_n (pc := 68) hx hb dX8_runner_68 rfl (lv_at hl 3 rfl) ?_
        refine g_callVv (pc := 69) E Y 53 S_53 V_8 o_X8_lets q_720 [.int v7, .int 1, .int a1] rfl rfl (hR_of (by omega) (by decide)) hl.1 (rest := []) rfl (Nat.le_of_ble_eq_true rfl) dX8_runner_69 (fun z hz => m_X8_lets_53 hz) hf (fun v13 μ14 H locs hf Y => ?_)
        refine lv_aload_n (pc := 72) hx hb dX8_runner_72 rfl (lv_at hl 1 rfl) ?_
        refine lv_iload_n (pc := 73) hx hb dX8_runner_73 rfl (lv_at hl 0 rfl) ?_
        refine lv_iconst (pc := 74) (v := 2) hx hb dX8_runner_74 (by decide) ?_
        refine lv_iconst (pc := 75) (v := 0) hx hb dX8_runner_75 (by decide) ?_
        refine g_callVv (pc := 76) E Y 53 S_53 V_8 o_X8_lets q_720 [.int v7, .int 2, .int 0] rfl rfl (hR_of (by omega) (by decide)) hl.1 (rest := []) rfl (Nat.le_of_ble_eq_true rfl) dX8_runner_76 (fun z hz => m_X8_lets_53 hz) hf (fun v15 μ16 H locs hf Y => ?_)
        refine lv_aload_n (pc := 79) hx hb dX8_runner_79 rfl (lv_at hl 1 rfl) ?_
        refine lv_iload_n (pc := 80) hx hb dX8_runner_80 rfl (lv_at hl 0 rfl) ?_
        refine lv_iconst (pc := 81) (v := 3) hx hb dX8_runner_81 (by decide) ?_
        refine lv_iconst (pc := 82) (v := 0) hx hb dX8_runner_82 (by decide) ?_
        refine g_callVv (pc := 83) E Y 53 S_53 V_8 o_X8_lets q_720 [.int v7, .int 3, .int 0] rfl rfl (hR_of (by omega) (by decide)) hl.1 (rest := []) rfl (Nat.le_of_ble_eq_true rfl) dX8_runner_83 (fun z hz => m_X8_lets_53 hz) hf (fun v17 μ18 H locs hf Y => ?_)
        refine lv_aload_n (pc := 86) hx hb dX8_runner_86 rfl (lv_at hl 1 rfl) ?_
        refine lv_iload_n (pc := 87) hx hb dX8_runner_87 rfl (lv_at hl 0 rfl) ?_
        refine lv_iconst (pc := 88) (v := 4) hx hb dX8_runner_88 (by decide) ?_
        refine lv_iconst (pc := 89) (v := 0) hx hb dX8_runner_89 (by decide) ?_
        refine g_callVv (pc := 90) E Y 53 S_53 V_8 o_X8_lets q_720 [.int v7, .int 4, .int 0] rfl rfl (hR_of (by omega) (by decide)) hl.1 (rest := []) rfl (Nat.le_of_ble_eq_true rfl) dX8_runner_90 (fun z hz => m_X8_lets_53 hz) hf (fun v19 μ20 H locs hf Y => ?_)
        refine lv_iload_n (pc := 93) hx hb dX8_runner_93 rfl (lv_at hl 0 rfl) ?_
        exact g_iret (pc := 94) E Y hr hk dX8_runner_94 hf
      · refine lv_aload_n (pc := 40) hx hb dX8_runner_40 rfl (lv_at hl 1 rfl) ?_
        refine lv_ldc (pc := 41) (v := (-1000000004)) hx hb E.1.2.2.2.1 (E.1.2.2.2.2 _ q_239) dX8_runner_41 ?_
        refine g_callVi (pc := 43) E Y 53 S_53 V_8 o_X8_error q_716 [.int (-1000000004)] rfl rfl (hR_of (by omega) (by decide)) hl.1 (rest := []) rfl (Nat.le_of_ble_eq_true rfl) dX8_runner_43 (fun z hz => m_X8_error_53 hz) hf (fun v21 μ22 H locs hf Y => ?_)
        exact g_iret (pc := 46) E Y hr hk dX8_runner_46 hf
    · refine lv_aload_n (pc := 20) hx hb dX8_runner_20 rfl (lv_at hl 0 rfl) ?_
      refine lv_ldc (pc := 21) (v := (-1000000001)) hx hb E.1.2.2.2.1 (E.1.2.2.2.2 _ q_238) dX8_runner_21 ?_
      refine g_callVi (pc := 23) E Y 53 S_53 V_8 o_X8_error q_716 [.int (-1000000001)] rfl rfl (hR_of (by omega) (by decide)) hl.1 (rest := []) rfl (Nat.le_of_ble_eq_true rfl) dX8_runner_23 (fun z hz => m_X8_error_53 hz) hf (fun v23 μ24 H locs hf Y => ?_)
      exact g_iret (pc := 26) E Y hr hk dX8_runner_26 hf
def f_X8_runnerIs_53 (a0 : Int32) (a1 : Int32) (σ : Mem) : Res := bd (f_X8_isRunner_53 a0 σ) fun v1 μ2 => if v1 = 0 then (bd (f_X8_error_53 (-1000000001) μ2) fun v3 μ4 => some (v3, μ4)) else (bd (f_X8_in a1 0 6 μ2) fun v5 μ6 => if v5 = 0 then (bd (f_X8_error_53 (-1000000001) μ6) fun v15 μ16 => some (v15, μ16)) else (bd (f_X8_about_53 a0 2 μ6) fun v7 μ8 => if 5 ≤ a1 then (if a1 = 5 then (bd (f_X8_runFrom_53 a0 v7 μ8) fun v11 μ12 => some (v11, μ12)) else (bd (f_X8_isPickedAt_53 a0 v7 μ8) fun v9 μ10 => if v9 = 0 then (some (0, μ10)) else (some (1, μ10)))) else (bd (f_X8_about_53 a0 a1 μ8) fun v13 μ14 => some (v13, μ14))))
set_option maxHeartbeats 4000000 in
set_option maxRecDepth 100000 in
theorem m_X8_runnerIs_53 {l : Launch} {σ : Mem} {Z : Int32 × Mem} {a0 : Int32} {a1 : Int32} (hf : f_X8_runnerIs_53 a0 a1 σ = some Z) : CT l yX8_runnerIs cX8_runnerIs 4 (some .int) 2 (fun ad => [.ref (ad 53), .int a0, .int a1]) σ Z := by
  refine g_openT RX8 (by decide) rfl (fun _ => Nat.le_of_ble_eq_true rfl) (fun p e s m below meth c D cI cB ad st ls E Y hr hk hl => ?_)
  have hx := E.1.1
  have hb := E.1.2.1
  have hl : lv_has ls 4 [(0, .ref (ad 53)), (1, .int a0), (2, .int a1)] := hl
  unfold f_X8_runnerIs_53 at hf
  refine lv_aload_n (pc := 0) hx hb dX8_runnerIs_0 rfl (lv_at hl 0 rfl) ?_
  refine lv_iload_n (pc := 1) hx hb dX8_runnerIs_1 rfl (lv_at hl 1 rfl) ?_
  refine g_callVi (pc := 2) E Y 53 S_53 V_8 o_X8_isRunner q_721 [.int a0] rfl rfl (hR_of (by omega) (by decide)) hl.1 (rest := []) rfl (Nat.le_of_ble_eq_true rfl) dX8_runnerIs_2 (fun z hz => m_X8_isRunner_53 hz) hf (fun v1 μ2 H locs hf Y => ?_)
  refine g_if_eq (pc := 5) (tgt := 18) E dX8_runnerIs_5 (by decide) hf (fun hf => ?_) (fun hf => ?_)
  · refine lv_aload_n (pc := 18) hx hb dX8_runnerIs_18 rfl (lv_at hl 0 rfl) ?_
    refine lv_ldc (pc := 19) (v := (-1000000001)) hx hb E.1.2.2.2.1 (E.1.2.2.2.2 _ q_238) dX8_runnerIs_19 ?_
    refine g_callVi (pc := 21) E Y 53 S_53 V_8 o_X8_error q_716 [.int (-1000000001)] rfl rfl (hR_of (by omega) (by decide)) hl.1 (rest := []) rfl (Nat.le_of_ble_eq_true rfl) dX8_runnerIs_21 (fun z hz => m_X8_error_53 hz) hf (fun v3 μ4 H locs hf Y => ?_)
    exact g_iret (pc := 24) E Y hr hk dX8_runnerIs_24 hf
  · refine lv_iload_n (pc := 8) hx hb dX8_runnerIs_8 rfl (lv_at hl 2 rfl) ?_
    refine lv_iconst (pc := 9) (v := 0) hx hb dX8_runnerIs_9 (by decide) ?_
    refine lv_bipush (pc := 10) (v := 6) hx hb dX8_runnerIs_10 (by decide) ?_
    refine g_callSi (pc := 12) E Y o_X8_in q_707 [.int a1, .int 0, .int 6] rfl rfl (hR_of (by omega) (by decide)) hl.1 (rest := []) rfl (Nat.le_of_ble_eq_true rfl) dX8_runnerIs_12 (fun z hz => m_X8_in hz) hf (fun v5 μ6 H locs hf Y => ?_)
    refine g_if_ne (pc := 15) (tgt := 25) E dX8_runnerIs_15 (by decide) hf (fun hf => ?_) (fun hf => ?_)
    · refine lv_aload_n (pc := 25) hx hb dX8_runnerIs_25 rfl (lv_at hl 0 rfl) ?_
      refine lv_iload_n (pc := 26) hx hb dX8_runnerIs_26 rfl (lv_at hl 1 rfl) ?_
      refine lv_iconst (pc := 27) (v := 2) hx hb dX8_runnerIs_27 (by decide) ?_
      refine g_callVi (pc := 28) E Y 53 S_53 V_8 o_X8_about q_711 [.int a0, .int 2] rfl rfl (hR_of (by omega) (by decide)) hl.1 (rest := []) rfl (Nat.le_of_ble_eq_true rfl) dX8_runnerIs_28 (fun z hz => m_X8_about_53 hz) hf (fun v7 μ8 H locs hf Y => ?_)
      refine lv_istore_n (pc := 31) (lv' := [(3, .int v7), (0, .ref (ad 53)), (1, .int a0), (2, .int a1)]) hx hb dX8_runnerIs_31 rfl hl (by decide) rfl (fun ls hl => ?_)
      refine lv_iload_n (pc := 32) hx hb dX8_runnerIs_32 rfl (lv_at hl 3 rfl) ?_
      refine lv_iconst (pc := 33) (v := 5) hx hb dX8_runnerIs_33 (by decide) ?_
      refine g_icmp_ge (pc := 34) (tgt := 46) E dX8_runnerIs_34 (by decide) hf (fun hf => ?_) (fun hf => ?_)
      · refine lv_iload_n (pc := 46) hx hb dX8_runnerIs_46 rfl (lv_at hl 3 rfl) ?_
        refine lv_iconst (pc := 47) (v := 5) hx hb dX8_runnerIs_47 (by decide) ?_
        refine g_icmp_ne (pc := 48) (tgt := 60) E dX8_runnerIs_48 (by decide) hf (fun hf => ?_) (fun hf => ?_)
        · refine lv_aload_n (pc := 60) hx hb dX8_runnerIs_60 rfl (lv_at hl 1 rfl) ?_
          refine lv_iload_n (pc := 61) hx hb dX8_runnerIs_61 rfl (lv_at hl 2 rfl) ?_
          refine lv_iload_n (pc := 62) hx hb dX8_runnerIs_62 rfl (lv_at hl 0 rfl) ?_
          refine g_callVi (pc := 63) E Y 53 S_53 V_8 o_X8_isPickedAt q_722 [.int a0, .int v7] rfl rfl (hR_of (by omega) (by decide)) hl.1 (rest := []) rfl (Nat.le_of_ble_eq_true rfl) dX8_runnerIs_63 (fun z hz => m_X8_isPickedAt_53 hz) hf (fun v9 μ10 H locs hf Y => ?_)
          refine g_if_eq (pc := 66) (tgt := 73) E dX8_runnerIs_66 (by decide) hf (fun hf => ?_) (fun hf => ?_)
          · refine lv_iconst (pc := 73) (v := 0) hx hb dX8_runnerIs_73 (by decide) ?_
            exact g_iret (pc := 74) E Y hr hk dX8_runnerIs_74 hf
          · refine lv_iconst (pc := 69) (v := 1) hx hb dX8_runnerIs_69 (by decide) ?_
            refine lv_goto (pc := 70) (tgt := 74) hx hb dX8_runnerIs_70 (by decide) ?_
            exact g_iret (pc := 74) E Y hr hk dX8_runnerIs_74 hf
        · refine lv_aload_n (pc := 51) hx hb dX8_runnerIs_51 rfl (lv_at hl 1 rfl) ?_
          refine lv_iload_n (pc := 52) hx hb dX8_runnerIs_52 rfl (lv_at hl 2 rfl) ?_
          refine lv_iload_n (pc := 53) hx hb dX8_runnerIs_53 rfl (lv_at hl 0 rfl) ?_
          refine g_callVi (pc := 54) E Y 53 S_53 V_8 o_X8_runFrom q_713 [.int a0, .int v7] rfl rfl (hR_of (by omega) (by decide)) hl.1 (rest := []) rfl (Nat.le_of_ble_eq_true rfl) dX8_runnerIs_54 (fun z hz => m_X8_runFrom_53 hz) hf (fun v11 μ12 H locs hf Y => ?_)
          refine lv_goto (pc := 57) (tgt := 74) hx hb dX8_runnerIs_57 (by decide) ?_
          exact g_iret (pc := 74) E Y hr hk dX8_runnerIs_74 hf
      · refine lv_aload_n (pc := 37) hx hb dX8_runnerIs_37 rfl (lv_at hl 1 rfl) ?_
        refine lv_iload_n (pc := 38) hx hb dX8_runnerIs_38 rfl (lv_at hl 2 rfl) ?_
        refine lv_iload_n (pc := 39) hx hb dX8_runnerIs_39 rfl (lv_at hl 3 rfl) ?_
        refine g_callVi (pc := 40) E Y 53 S_53 V_8 o_X8_about q_711 [.int a0, .int a1] rfl rfl (hR_of (by omega) (by decide)) hl.1 (rest := []) rfl (Nat.le_of_ble_eq_true rfl) dX8_runnerIs_40 (fun z hz => m_X8_about_53 hz) hf (fun v13 μ14 H locs hf Y => ?_)
        refine lv_goto (pc := 43) (tgt := 74) hx hb dX8_runnerIs_43 (by decide) ?_
        exact g_iret (pc := 74) E Y hr hk dX8_runnerIs_74 hf
    · refine lv_aload_n (pc := 18) hx hb dX8_runnerIs_18 rfl (lv_at hl 0 rfl) ?_
      refine lv_ldc (pc := 19) (v := (-1000000001)) hx hb E.1.2.2.2.1 (E.1.2.2.2.2 _ q_238) dX8_runnerIs_19 ?_
      refine g_callVi (pc := 21) E Y 53 S_53 V_8 o_X8_error q_716 [.int (-1000000001)] rfl rfl (hR_of (by omega) (by decide)) hl.1 (rest := []) rfl (Nat.le_of_ble_eq_true rfl) dX8_runnerIs_21 (fun z hz => m_X8_error_53 hz) hf (fun v15 μ16 H locs hf Y => ?_)
      exact g_iret (pc := 24) E Y hr hk dX8_runnerIs_24 hf
def f_X8_leads_53 (a0 : Int32) (a1 : Int32) (σ : Mem) : Res := bd (f_X8_isRunner_53 a0 σ) fun v1 μ2 => if v1 = 0 then (bd (f_X8_error_53 (-1000000001) μ2) fun v3 μ4 => some (v3, μ4)) else (bd (f_X8_isLead a1 μ2) fun v5 μ6 => if v5 = 0 then (bd (f_X8_error_53 (-1000000001) μ6) fun v7 μ8 => some (v7, μ8)) else (nm (5 * a0) fun (v9 : Int32) => nm (35 + v9) fun (v10 : Int32) => nm (v10 + 2) fun (v11 : Int32) => bd (f_X8_becomes_53 v11 a1 μ6) fun v12 μ13 => some (v12, μ13)))
set_option maxHeartbeats 4000000 in
set_option maxRecDepth 100000 in
theorem m_X8_leads_53 {l : Launch} {σ : Mem} {Z : Int32 × Mem} {a0 : Int32} {a1 : Int32} (hf : f_X8_leads_53 a0 a1 σ = some Z) : CT l yX8_leads cX8_leads 3 (some .int) 2 (fun ad => [.ref (ad 53), .int a0, .int a1]) σ Z := by
  refine g_openT RX8 (by decide) rfl (fun _ => Nat.le_of_ble_eq_true rfl) (fun p e s m below meth c D cI cB ad st ls E Y hr hk hl => ?_)
  have hx := E.1.1
  have hb := E.1.2.1
  have hl : lv_has ls 3 [(0, .ref (ad 53)), (1, .int a0), (2, .int a1)] := hl
  unfold f_X8_leads_53 at hf
  refine lv_aload_n (pc := 0) hx hb dX8_leads_0 rfl (lv_at hl 0 rfl) ?_
  refine lv_iload_n (pc := 1) hx hb dX8_leads_1 rfl (lv_at hl 1 rfl) ?_
  refine g_callVi (pc := 2) E Y 53 S_53 V_8 o_X8_isRunner q_721 [.int a0] rfl rfl (hR_of (by omega) (by decide)) hl.1 (rest := []) rfl (Nat.le_of_ble_eq_true rfl) dX8_leads_2 (fun z hz => m_X8_isRunner_53 hz) hf (fun v1 μ2 H locs hf Y => ?_)
  refine g_if_eq (pc := 5) (tgt := 31) E dX8_leads_5 (by decide) hf (fun hf => ?_) (fun hf => ?_)
  · refine lv_aload_n (pc := 31) hx hb dX8_leads_31 rfl (lv_at hl 0 rfl) ?_
    refine lv_ldc (pc := 32) (v := (-1000000001)) hx hb E.1.2.2.2.1 (E.1.2.2.2.2 _ q_238) dX8_leads_32 ?_
    refine g_callVi (pc := 34) E Y 53 S_53 V_8 o_X8_error q_716 [.int (-1000000001)] rfl rfl (hR_of (by omega) (by decide)) hl.1 (rest := []) rfl (Nat.le_of_ble_eq_true rfl) dX8_leads_34 (fun z hz => m_X8_error_53 hz) hf (fun v3 μ4 H locs hf Y => ?_)
    exact g_iret (pc := 37) E Y hr hk dX8_leads_37 hf
  · refine lv_iload_n (pc := 8) hx hb dX8_leads_8 rfl (lv_at hl 2 rfl) ?_
    refine g_callSi (pc := 9) E Y o_X8_isLead q_663 [.int a1] rfl rfl (hR_of (by omega) (by decide)) hl.1 (rest := []) rfl (Nat.le_of_ble_eq_true rfl) dX8_leads_9 (fun z hz => m_X8_isLead hz) hf (fun v5 μ6 H locs hf Y => ?_)
    refine g_if_eq (pc := 12) (tgt := 31) E dX8_leads_12 (by decide) hf (fun hf => ?_) (fun hf => ?_)
    · refine lv_aload_n (pc := 31) hx hb dX8_leads_31 rfl (lv_at hl 0 rfl) ?_
      refine lv_ldc (pc := 32) (v := (-1000000001)) hx hb E.1.2.2.2.1 (E.1.2.2.2.2 _ q_238) dX8_leads_32 ?_
      refine g_callVi (pc := 34) E Y 53 S_53 V_8 o_X8_error q_716 [.int (-1000000001)] rfl rfl (hR_of (by omega) (by decide)) hl.1 (rest := []) rfl (Nat.le_of_ble_eq_true rfl) dX8_leads_34 (fun z hz => m_X8_error_53 hz) hf (fun v7 μ8 H locs hf Y => ?_)
      exact g_iret (pc := 37) E Y hr hk dX8_leads_37 hf
    · refine lv_aload_n (pc := 15) hx hb dX8_leads_15 rfl (lv_at hl 0 rfl) ?_
      refine lv_bipush (pc := 16) (v := 35) hx hb dX8_leads_16 (by decide) ?_
      refine lv_iconst (pc := 18) (v := 5) hx hb dX8_leads_18 (by decide) ?_
      refine lv_iload_n (pc := 19) hx hb dX8_leads_19 rfl (lv_at hl 1 rfl) ?_
      refine g_imul (pc := 20) E dX8_leads_20 hf (fun v9 hf => ?_)
      refine g_iadd (pc := 21) E dX8_leads_21 hf (fun v10 hf => ?_)
      refine lv_iconst (pc := 22) (v := 2) hx hb dX8_leads_22 (by decide) ?_
      refine g_iadd (pc := 23) E dX8_leads_23 hf (fun v11 hf => ?_)
      refine lv_iload_n (pc := 24) hx hb dX8_leads_24 rfl (lv_at hl 2 rfl) ?_
      refine g_callVi (pc := 25) E Y 53 S_53 V_8 o_X8_becomes q_719 [.int v11, .int a1] rfl rfl (hR_of (by omega) (by decide)) hl.1 (rest := []) rfl (Nat.le_of_ble_eq_true rfl) dX8_leads_25 (fun z hz => m_X8_becomes_53 hz) hf (fun v12 μ13 H locs hf Y => ?_)
      refine lv_goto (pc := 28) (tgt := 37) hx hb dX8_leads_28 (by decide) ?_
      exact g_iret (pc := 37) E Y hr hk dX8_leads_37 hf
def f_X8_set_53_L43 (x1 : Int32) (x2 : Int32) (σ : Mem) : Res := if (0 : Int32) = 0 then (bd (f_X8_error_53 (-1000000001) σ) fun v3 μ4 => some (v3, μ4)) else (nm (0 + x1) fun (v5 : Int32) => bd (f_X8_becomes_53 v5 x2 σ) fun v6 μ7 => some (v6, μ7))
def f_X8_set_53 (a0 : Int32) (a1 : Int32) (σ : Mem) : Res := bd (f_X8_in a0 0 3 σ) fun v1 μ2 => if v1 = 0 then (f_X8_set_53_L43 a0 a1 μ2) else (if 2 ≤ a0 then (if a0 = 2 then (bd (f_X8_in a1 0 9 μ2) fun v15 μ16 => if v15 = 0 then (f_X8_set_53_L43 a0 a1 μ16) else (if (1 : Int32) = 0 then (bd (f_X8_error_53 (-1000000001) μ16) fun v17 μ18 => some (v17, μ18)) else (nm (0 + a0) fun (v19 : Int32) => bd (f_X8_becomes_53 v19 a1 μ16) fun v20 μ21 => some (v20, μ21)))) else (bd (f_X8_in a1 0 2 μ2) fun v8 μ9 => if v8 = 0 then (f_X8_set_53_L43 a0 a1 μ9) else (if (1 : Int32) = 0 then (bd (f_X8_error_53 (-1000000001) μ9) fun v10 μ11 => some (v10, μ11)) else (nm (0 + a0) fun (v12 : Int32) => bd (f_X8_becomes_53 v12 a1 μ9) fun v13 μ14 => some (v13, μ14))))) else (bd (f_X8_in a1 0 200 μ2) fun v22 μ23 => if v22 = 0 then (f_X8_set_53_L43 a0 a1 μ23) else (if (1 : Int32) = 0 then (bd (f_X8_error_53 (-1000000001) μ23) fun v24 μ25 => some (v24, μ25)) else (nm (0 + a0) fun (v26 : Int32) => bd (f_X8_becomes_53 v26 a1 μ23) fun v27 μ28 => some (v27, μ28)))))
set_option maxHeartbeats 4000000 in
set_option maxRecDepth 100000 in
theorem m_X8_set_53 {l : Launch} {σ : Mem} {Z : Int32 × Mem} {a0 : Int32} {a1 : Int32} (hf : f_X8_set_53 a0 a1 σ = some Z) : CT l yX8_set cX8_set 4 (some .int) 1 (fun ad => [.ref (ad 53), .int a0, .int a1]) σ Z := by
  refine g_openT RX8 (by decide) rfl (fun _ => Nat.le_of_ble_eq_true rfl) (fun p e s m below meth c D cI cB ad st ls E Y hr hk hl => ?_)
  have hx := E.1.1
  have hb := E.1.2.1
  have hl : lv_has ls 4 [(0, .ref (ad 53)), (1, .int a0), (2, .int a1)] := hl
  have hL_43 : ∀ (x1 : Int32) (x2 : Int32) (σ : Mem) (H : Heap) (locs : List Loc) (ls : Array Slot), f_X8_set_53_L43 x1 x2 σ = some Z → Wo D cI cB ad (AA ad) σ s H locs → lv_has ls 4 [(0, .ref (ad 53)), (1, .int x1), (2, .int x2)] → W p l e (rmd 1) s m ([.ref (ad 53), .int a0, .int a1] : List Value).toArray below meth c H locs 0 0 (QT_ below D cI cB ad st Z ([.ref (ad 53), .int a0, .int a1] : List Value).toArray s) (F0 m 43 ls []) := by
    intro x1 x2 σ H locs ls hf Y hl
    unfold f_X8_set_53_L43 at hf
    refine lv_iconst (pc := 43) (v := 0) hx hb dX8_set_43 (by decide) ?_
    refine lv_istore_n (pc := 44) (lv' := [(3, .int 0), (0, .ref (ad 53)), (1, .int x1), (2, .int x2)]) hx hb dX8_set_44 rfl hl (by decide) rfl (fun ls hl => ?_)
    refine lv_iload_n (pc := 45) hx hb dX8_set_45 rfl (lv_at hl 0 rfl) ?_
    refine g_if_eq (pc := 46) (tgt := 60) E dX8_set_46 (by decide) hf (fun hf => ?_) (fun hf => ?_)
    · refine lv_aload_n (pc := 60) hx hb dX8_set_60 rfl (lv_at hl 1 rfl) ?_
      refine lv_ldc (pc := 61) (v := (-1000000001)) hx hb E.1.2.2.2.1 (E.1.2.2.2.2 _ q_238) dX8_set_61 ?_
      refine g_callVi (pc := 63) E Y 53 S_53 V_8 o_X8_error q_716 [.int (-1000000001)] rfl rfl (hR_of (by omega) (by decide)) hl.1 (rest := []) rfl (Nat.le_of_ble_eq_true rfl) dX8_set_63 (fun z hz => m_X8_error_53 hz) hf (fun v3 μ4 H locs hf Y => ?_)
      exact g_iret (pc := 66) E Y hr hk dX8_set_66 hf
    · refine lv_aload_n (pc := 49) hx hb dX8_set_49 rfl (lv_at hl 1 rfl) ?_
      refine lv_iconst (pc := 50) (v := 0) hx hb dX8_set_50 (by decide) ?_
      refine lv_iload_n (pc := 51) hx hb dX8_set_51 rfl (lv_at hl 2 rfl) ?_
      refine g_iadd (pc := 52) E dX8_set_52 hf (fun v5 hf => ?_)
      refine lv_iload_n (pc := 53) hx hb dX8_set_53 rfl (lv_at hl 3 rfl) ?_
      refine g_callVi (pc := 54) E Y 53 S_53 V_8 o_X8_becomes q_719 [.int v5, .int x2] rfl rfl (hR_of (by omega) (by decide)) hl.1 (rest := []) rfl (Nat.le_of_ble_eq_true rfl) dX8_set_54 (fun z hz => m_X8_becomes_53 hz) hf (fun v6 μ7 H locs hf Y => ?_)
      refine lv_goto (pc := 57) (tgt := 66) hx hb dX8_set_57 (by decide) ?_
      exact g_iret (pc := 66) E Y hr hk dX8_set_66 hf
  unfold f_X8_set_53 at hf
  refine lv_iload_n (pc := 0) hx hb dX8_set_0 rfl (lv_at hl 1 rfl) ?_
  refine lv_iconst (pc := 1) (v := 0) hx hb dX8_set_1 (by decide) ?_
  refine lv_iconst (pc := 2) (v := 3) hx hb dX8_set_2 (by decide) ?_
  refine g_callSi (pc := 3) E Y o_X8_in q_707 [.int a0, .int 0, .int 3] rfl rfl (hR_of (by omega) (by decide)) hl.1 (rest := []) rfl (Nat.le_of_ble_eq_true rfl) dX8_set_3 (fun z hz => m_X8_in hz) hf (fun v1 μ2 H locs hf Y => ?_)
  refine g_if_eq (pc := 6) (tgt := 43) E dX8_set_6 (by decide) hf (fun hf => ?_) (fun hf => ?_)
  · exact hL_43 _ _ _ _ _ _ hf Y (lv_sub hl [0, 1, 2] rfl)
  · refine lv_iload_n (pc := 9) hx hb dX8_set_9 rfl (lv_at hl 2 rfl) ?_
    refine lv_iconst (pc := 10) (v := 0) hx hb dX8_set_10 (by decide) ?_
    refine lv_iload_n (pc := 11) hx hb dX8_set_11 rfl (lv_at hl 1 rfl) ?_
    refine lv_iconst (pc := 12) (v := 2) hx hb dX8_set_12 (by decide) ?_
    refine g_icmp_ge (pc := 13) (tgt := 22) E dX8_set_13 (by decide) hf (fun hf => ?_) (fun hf => ?_)
    · refine lv_iload_n (pc := 22) hx hb dX8_set_22 rfl (lv_at hl 1 rfl) ?_
      refine lv_iconst (pc := 23) (v := 2) hx hb dX8_set_23 (by decide) ?_
      refine g_icmp_ne (pc := 24) (tgt := 32) E dX8_set_24 (by decide) hf (fun hf => ?_) (fun hf => ?_)
      · refine lv_iconst (pc := 32) (v := 2) hx hb dX8_set_32 (by decide) ?_
        refine g_callSi (pc := 33) E Y o_X8_in q_707 [.int a1, .int 0, .int 2] rfl rfl (hR_of (by omega) (by decide)) hl.1 (rest := []) rfl (Nat.le_of_ble_eq_true rfl) dX8_set_33 (fun z hz => m_X8_in hz) hf (fun v8 μ9 H locs hf Y => ?_)
        refine g_if_eq (pc := 36) (tgt := 43) E dX8_set_36 (by decide) hf (fun hf => ?_) (fun hf => ?_)
        · exact hL_43 _ _ _ _ _ _ hf Y (lv_sub hl [0, 1, 2] rfl)
        · refine lv_iconst (pc := 39) (v := 1) hx hb dX8_set_39 (by decide) ?_
          refine lv_goto (pc := 40) (tgt := 44) hx hb dX8_set_40 (by decide) ?_
          refine lv_istore_n (pc := 44) (lv' := [(3, .int 1), (0, .ref (ad 53)), (1, .int a0), (2, .int a1)]) hx hb dX8_set_44 rfl hl (by decide) rfl (fun ls hl => ?_)
          refine lv_iload_n (pc := 45) hx hb dX8_set_45 rfl (lv_at hl 0 rfl) ?_
          refine g_if_eq (pc := 46) (tgt := 60) E dX8_set_46 (by decide) hf (fun hf => ?_) (fun hf => ?_)
          · refine lv_aload_n (pc := 60) hx hb dX8_set_60 rfl (lv_at hl 1 rfl) ?_
            refine lv_ldc (pc := 61) (v := (-1000000001)) hx hb E.1.2.2.2.1 (E.1.2.2.2.2 _ q_238) dX8_set_61 ?_
            refine g_callVi (pc := 63) E Y 53 S_53 V_8 o_X8_error q_716 [.int (-1000000001)] rfl rfl (hR_of (by omega) (by decide)) hl.1 (rest := []) rfl (Nat.le_of_ble_eq_true rfl) dX8_set_63 (fun z hz => m_X8_error_53 hz) hf (fun v10 μ11 H locs hf Y => ?_)
            exact g_iret (pc := 66) E Y hr hk dX8_set_66 hf
          · refine lv_aload_n (pc := 49) hx hb dX8_set_49 rfl (lv_at hl 1 rfl) ?_
            refine lv_iconst (pc := 50) (v := 0) hx hb dX8_set_50 (by decide) ?_
            refine lv_iload_n (pc := 51) hx hb dX8_set_51 rfl (lv_at hl 2 rfl) ?_
            refine g_iadd (pc := 52) E dX8_set_52 hf (fun v12 hf => ?_)
            refine lv_iload_n (pc := 53) hx hb dX8_set_53 rfl (lv_at hl 3 rfl) ?_
            refine g_callVi (pc := 54) E Y 53 S_53 V_8 o_X8_becomes q_719 [.int v12, .int a1] rfl rfl (hR_of (by omega) (by decide)) hl.1 (rest := []) rfl (Nat.le_of_ble_eq_true rfl) dX8_set_54 (fun z hz => m_X8_becomes_53 hz) hf (fun v13 μ14 H locs hf Y => ?_)
            refine lv_goto (pc := 57) (tgt := 66) hx hb dX8_set_57 (by decide) ?_
            exact g_iret (pc := 66) E Y hr hk dX8_set_66 hf
      · refine lv_bipush (pc := 27) (v := 9) hx hb dX8_set_27 (by decide) ?_
        refine lv_goto (pc := 29) (tgt := 33) hx hb dX8_set_29 (by decide) ?_
        refine g_callSi (pc := 33) E Y o_X8_in q_707 [.int a1, .int 0, .int 9] rfl rfl (hR_of (by omega) (by decide)) hl.1 (rest := []) rfl (Nat.le_of_ble_eq_true rfl) dX8_set_33 (fun z hz => m_X8_in hz) hf (fun v15 μ16 H locs hf Y => ?_)
        refine g_if_eq (pc := 36) (tgt := 43) E dX8_set_36 (by decide) hf (fun hf => ?_) (fun hf => ?_)
        · exact hL_43 _ _ _ _ _ _ hf Y (lv_sub hl [0, 1, 2] rfl)
        · refine lv_iconst (pc := 39) (v := 1) hx hb dX8_set_39 (by decide) ?_
          refine lv_goto (pc := 40) (tgt := 44) hx hb dX8_set_40 (by decide) ?_
          refine lv_istore_n (pc := 44) (lv' := [(3, .int 1), (0, .ref (ad 53)), (1, .int a0), (2, .int a1)]) hx hb dX8_set_44 rfl hl (by decide) rfl (fun ls hl => ?_)
          refine lv_iload_n (pc := 45) hx hb dX8_set_45 rfl (lv_at hl 0 rfl) ?_
          refine g_if_eq (pc := 46) (tgt := 60) E dX8_set_46 (by decide) hf (fun hf => ?_) (fun hf => ?_)
          · refine lv_aload_n (pc := 60) hx hb dX8_set_60 rfl (lv_at hl 1 rfl) ?_
            refine lv_ldc (pc := 61) (v := (-1000000001)) hx hb E.1.2.2.2.1 (E.1.2.2.2.2 _ q_238) dX8_set_61 ?_
            refine g_callVi (pc := 63) E Y 53 S_53 V_8 o_X8_error q_716 [.int (-1000000001)] rfl rfl (hR_of (by omega) (by decide)) hl.1 (rest := []) rfl (Nat.le_of_ble_eq_true rfl) dX8_set_63 (fun z hz => m_X8_error_53 hz) hf (fun v17 μ18 H locs hf Y => ?_)
            exact g_iret (pc := 66) E Y hr hk dX8_set_66 hf
          · refine lv_aload_n (pc := 49) hx hb dX8_set_49 rfl (lv_at hl 1 rfl) ?_
            refine lv_iconst (pc := 50) (v := 0) hx hb dX8_set_50 (by decide) ?_
            refine lv_iload_n (pc := 51) hx hb dX8_set_51 rfl (lv_at hl 2 rfl) ?_
            refine g_iadd (pc := 52) E dX8_set_52 hf (fun v19 hf => ?_)
            refine lv_iload_n (pc := 53) hx hb dX8_set_53 rfl (lv_at hl 3 rfl) ?_
            refine g_callVi (pc := 54) E Y 53 S_53 V_8 o_X8_becomes q_719 [.int v19, .int a1] rfl rfl (hR_of (by omega) (by decide)) hl.1 (rest := []) rfl (Nat.le_of_ble_eq_true rfl) dX8_set_54 (fun z hz => m_X8_becomes_53 hz) hf (fun v20 μ21 H locs hf Y => ?_)
            refine lv_goto (pc := 57) (tgt := 66) hx hb dX8_set_57 (by decide) ?_
            exact g_iret (pc := 66) E Y hr hk dX8_set_66 hf
    · refine lv_sipush (pc := 16) (v := 200) hx hb dX8_set_16 (by decide) ?_
      refine lv_goto (pc := 19) (tgt := 33) hx hb dX8_set_19 (by decide) ?_
      refine g_callSi (pc := 33) E Y o_X8_in q_707 [.int a1, .int 0, .int 200] rfl rfl (hR_of (by omega) (by decide)) hl.1 (rest := []) rfl (Nat.le_of_ble_eq_true rfl) dX8_set_33 (fun z hz => m_X8_in hz) hf (fun v22 μ23 H locs hf Y => ?_)
      refine g_if_eq (pc := 36) (tgt := 43) E dX8_set_36 (by decide) hf (fun hf => ?_) (fun hf => ?_)
      · exact hL_43 _ _ _ _ _ _ hf Y (lv_sub hl [0, 1, 2] rfl)
      · refine lv_iconst (pc := 39) (v := 1) hx hb dX8_set_39 (by decide) ?_
        refine lv_goto (pc := 40) (tgt := 44) hx hb dX8_set_40 (by decide) ?_
        refine lv_istore_n (pc := 44) (lv' := [(3, .int 1), (0, .ref (ad 53)), (1, .int a0), (2, .int a1)]) hx hb dX8_set_44 rfl hl (by decide) rfl (fun ls hl => ?_)
        refine lv_iload_n (pc := 45) hx hb dX8_set_45 rfl (lv_at hl 0 rfl) ?_
        refine g_if_eq (pc := 46) (tgt := 60) E dX8_set_46 (by decide) hf (fun hf => ?_) (fun hf => ?_)
        · refine lv_aload_n (pc := 60) hx hb dX8_set_60 rfl (lv_at hl 1 rfl) ?_
          refine lv_ldc (pc := 61) (v := (-1000000001)) hx hb E.1.2.2.2.1 (E.1.2.2.2.2 _ q_238) dX8_set_61 ?_
          refine g_callVi (pc := 63) E Y 53 S_53 V_8 o_X8_error q_716 [.int (-1000000001)] rfl rfl (hR_of (by omega) (by decide)) hl.1 (rest := []) rfl (Nat.le_of_ble_eq_true rfl) dX8_set_63 (fun z hz => m_X8_error_53 hz) hf (fun v24 μ25 H locs hf Y => ?_)
          exact g_iret (pc := 66) E Y hr hk dX8_set_66 hf
        · refine lv_aload_n (pc := 49) hx hb dX8_set_49 rfl (lv_at hl 1 rfl) ?_
          refine lv_iconst (pc := 50) (v := 0) hx hb dX8_set_50 (by decide) ?_
          refine lv_iload_n (pc := 51) hx hb dX8_set_51 rfl (lv_at hl 2 rfl) ?_
          refine g_iadd (pc := 52) E dX8_set_52 hf (fun v26 hf => ?_)
          refine lv_iload_n (pc := 53) hx hb dX8_set_53 rfl (lv_at hl 3 rfl) ?_
          refine g_callVi (pc := 54) E Y 53 S_53 V_8 o_X8_becomes q_719 [.int v26, .int a1] rfl rfl (hR_of (by omega) (by decide)) hl.1 (rest := []) rfl (Nat.le_of_ble_eq_true rfl) dX8_set_54 (fun z hz => m_X8_becomes_53 hz) hf (fun v27 μ28 H locs hf Y => ?_)
          refine lv_goto (pc := 57) (tgt := 66) hx hb dX8_set_57 (by decide) ?_
          exact g_iret (pc := 66) E Y hr hk dX8_set_66 hf
def f_X8_more_53 (a0 : Int32) (σ : Mem) : Res := gi a0 386 <| nm (σ 54 a0.toNatClampNeg) fun (v1 : Int32) => nm (v1 + 1) fun (v2 : Int32) => bd (f_X8_held v2 0 9999 σ) fun v3 μ4 => gi a0 386 <| nm (mset μ4 54 a0.toNatClampNeg v3) fun (μ5 : Mem) => some (0, μ5)
set_option maxHeartbeats 4000000 in
set_option maxRecDepth 100000 in
theorem m_X8_more_53 {l : Launch} {σ : Mem} {Z : Int32 × Mem} {a0 : Int32} (hf : f_X8_more_53 a0 σ = some Z) : CV l yX8_more cX8_more 2 1 (fun ad => [.ref (ad 53), .int a0]) σ Z := by
  refine g_openV RX8 (by decide) rfl (fun _ => Nat.le_of_ble_eq_true rfl) (fun p e s m below meth c D cI cB ad st ls E Y hr hk hl => ?_)
  have hx := E.1.1
  have hb := E.1.2.1
  have hl : lv_has ls 2 [(0, .ref (ad 53)), (1, .int a0)] := hl
  unfold f_X8_more_53 at hf
  refine lv_aload_n (pc := 0) hx hb dX8_more_0 rfl (lv_at hl 0 rfl) ?_
  refine g_getr (pc := 1) E Y 53 0 54 S_53 rfl V_8 (by decide) AL_X8 q_358 dX8_more_1 ?_
  refine lv_iload_n (pc := 4) hx hb dX8_more_4 rfl (lv_at hl 1 rfl) ?_
  refine lv_aload_n (pc := 5) hx hb dX8_more_5 rfl (lv_at hl 0 rfl) ?_
  refine g_getr (pc := 6) E Y 53 0 54 S_53 rfl V_8 (by decide) AL_X8 q_358 dX8_more_6 ?_
  refine lv_iload_n (pc := 9) hx hb dX8_more_9 rfl (lv_at hl 1 rfl) ?_
  refine g_iald (pc := 10) E Y 54 S_54 dX8_more_10 hf (fun v1 hf => ?_)
  refine lv_iconst (pc := 11) (v := 1) hx hb dX8_more_11 (by decide) ?_
  refine g_iadd (pc := 12) E dX8_more_12 hf (fun v2 hf => ?_)
  refine lv_iconst (pc := 13) (v := 0) hx hb dX8_more_13 (by decide) ?_
  refine lv_sipush (pc := 14) (v := 9999) hx hb dX8_more_14 (by decide) ?_
  refine g_callSi (pc := 17) E Y o_X8_held q_664 [.int v2, .int 0, .int 9999] rfl rfl (hR_of (by omega) (by decide)) hl.1 (rest := [.int a0, .ref (ad 54)]) rfl (Nat.le_of_ble_eq_true rfl) dX8_more_17 (fun z hz => m_X8_held hz) hf (fun v3 μ4 H locs hf Y => ?_)
  refine g_iast (pc := 20) E Y 54 S_54 dX8_more_20 hf (fun μ5 H locs hf Y => ?_)
  exact g_vret (pc := 21) E Y hr hk dX8_more_21 hf
def f_X8_isOut_53 (a0 : Int32) (σ : Mem) : Res := nm (5 * a0) fun (v1 : Int32) => nm (35 + v1) fun (v2 : Int32) => nm (v2 + 4) fun (v3 : Int32) => bd (f_X8_more_53 v3 σ) fun v4 μ5 => bd (f_X8_lets_53 a0 2 0 μ5) fun v6 μ7 => gi 3 386 <| nm (μ7 54 (3 : Int32).toNatClampNeg) fun (v8 : Int32) => nm (v8 + 1) fun (v9 : Int32) => gi 3 386 <| nm (mset μ7 54 (3 : Int32).toNatClampNeg v9) fun (μ10 : Mem) => gi 3 386 <| nm (μ10 54 (3 : Int32).toNatClampNeg) fun (v11 : Int32) => if v11 = 3 then (gi 3 386 <| nm (mset μ10 54 (3 : Int32).toNatClampNeg 0) fun (μ12 : Mem) => bd (f_X8_more_53 4 μ12) fun v13 μ14 => some (0, μ14)) else (some (0, μ10))
set_option maxHeartbeats 4000000 in
set_option maxRecDepth 100000 in
theorem m_X8_isOut_53 {l : Launch} {σ : Mem} {Z : Int32 × Mem} {a0 : Int32} (hf : f_X8_isOut_53 a0 σ = some Z) : CV l yX8_isOut cX8_isOut 2 2 (fun ad => [.ref (ad 53), .int a0]) σ Z := by
  refine g_openV RX8 (by decide) rfl (fun _ => Nat.le_of_ble_eq_true rfl) (fun p e s m below meth c D cI cB ad st ls E Y hr hk hl => ?_)
  have hx := E.1.1
  have hb := E.1.2.1
  have hl : lv_has ls 2 [(0, .ref (ad 53)), (1, .int a0)] := hl
  unfold f_X8_isOut_53 at hf
  refine lv_aload_n (pc := 0) hx hb dX8_isOut_0 rfl (lv_at hl 0 rfl) ?_
  refine lv_bipush (pc := 1) (v := 35) hx hb dX8_isOut_1 (by decide) ?_
  refine lv_iconst (pc := 3) (v := 5) hx hb dX8_isOut_3 (by decide) ?_
  refine lv_iload_n (pc := 4) hx hb dX8_isOut_4 rfl (lv_at hl 1 rfl) ?_
  refine g_imul (pc := 5) E dX8_isOut_5 hf (fun v1 hf => ?_)
  refine g_iadd (pc := 6) E dX8_isOut_6 hf (fun v2 hf => ?_)
  refine lv_iconst (pc := 7) (v := 4) hx hb dX8_isOut_7 (by decide) ?_
  refine g_iadd (pc := 8) E dX8_isOut_8 hf (fun v3 hf => ?_)
  refine g_callVv (pc := 9) E Y 53 S_53 V_8 o_X8_more q_665 [.int v3] rfl rfl (hR_of (by omega) (by decide)) hl.1 (rest := []) rfl (Nat.le_of_ble_eq_true rfl) dX8_isOut_9 (fun z hz => m_X8_more_53 hz) hf (fun v4 μ5 H locs hf Y => ?_)
  refine lv_aload_n (pc := 12) hx hb dX8_isOut_12 rfl (lv_at hl 0 rfl) ?_
  refine lv_iload_n (pc := 13) hx hb dX8_isOut_13 rfl (lv_at hl 1 rfl) ?_
  refine lv_iconst (pc := 14) (v := 2) hx hb dX8_isOut_14 (by decide) ?_
  refine lv_iconst (pc := 15) (v := 0) hx hb dX8_isOut_15 (by decide) ?_
  refine g_callVv (pc := 16) E Y 53 S_53 V_8 o_X8_lets q_720 [.int a0, .int 2, .int 0] rfl rfl (hR_of (by omega) (by decide)) hl.1 (rest := []) rfl (Nat.le_of_ble_eq_true rfl) dX8_isOut_16 (fun z hz => m_X8_lets_53 hz) hf (fun v6 μ7 H locs hf Y => ?_)
  refine lv_aload_n (pc := 19) hx hb dX8_isOut_19 rfl (lv_at hl 0 rfl) ?_
  refine g_getr (pc := 20) E Y 53 0 54 S_53 rfl V_8 (by decide) AL_X8 q_358 dX8_isOut_20 ?_
  refine lv_iconst (pc := 23) (v := 3) hx hb dX8_isOut_23 (by decide) ?_
  refine lv_dup2_11 (pc := 24) hx hb dX8_isOut_24 rfl rfl ?_
  refine g_iald (pc := 25) E Y 54 S_54 dX8_isOut_25 hf (fun v8 hf => ?_)
  refine lv_iconst (pc := 26) (v := 1) hx hb dX8_isOut_26 (by decide) ?_
  refine g_iadd (pc := 27) E dX8_isOut_27 hf (fun v9 hf => ?_)
  refine g_iast (pc := 28) E Y 54 S_54 dX8_isOut_28 hf (fun μ10 H locs hf Y => ?_)
  refine lv_aload_n (pc := 29) hx hb dX8_isOut_29 rfl (lv_at hl 0 rfl) ?_
  refine g_getr (pc := 30) E Y 53 0 54 S_53 rfl V_8 (by decide) AL_X8 q_358 dX8_isOut_30 ?_
  refine lv_iconst (pc := 33) (v := 3) hx hb dX8_isOut_33 (by decide) ?_
  refine g_iald (pc := 34) E Y 54 S_54 dX8_isOut_34 hf (fun v11 hf => ?_)
  refine lv_iconst (pc := 35) (v := 3) hx hb dX8_isOut_35 (by decide) ?_
  refine g_icmp_ne (pc := 36) (tgt := 51) E dX8_isOut_36 (by decide) hf (fun hf => ?_) (fun hf => ?_)
  · exact g_vret (pc := 51) E Y hr hk dX8_isOut_51 hf
  · refine lv_aload_n (pc := 39) hx hb dX8_isOut_39 rfl (lv_at hl 0 rfl) ?_
    refine g_getr (pc := 40) E Y 53 0 54 S_53 rfl V_8 (by decide) AL_X8 q_358 dX8_isOut_40 ?_
    refine lv_iconst (pc := 43) (v := 3) hx hb dX8_isOut_43 (by decide) ?_
    refine lv_iconst (pc := 44) (v := 0) hx hb dX8_isOut_44 (by decide) ?_
    refine g_iast (pc := 45) E Y 54 S_54 dX8_isOut_45 hf (fun μ12 H locs hf Y => ?_)
    refine lv_aload_n (pc := 46) hx hb dX8_isOut_46 rfl (lv_at hl 0 rfl) ?_
    refine lv_iconst (pc := 47) (v := 4) hx hb dX8_isOut_47 (by decide) ?_
    refine g_callVv (pc := 48) E Y 53 S_53 V_8 o_X8_more q_665 [.int 4] rfl rfl (hR_of (by omega) (by decide)) hl.1 (rest := []) rfl (Nat.le_of_ble_eq_true rfl) dX8_isOut_48 (fun z hz => m_X8_more_53 hz) hf (fun v13 μ14 H locs hf Y => ?_)
    exact g_vret (pc := 51) E Y hr hk dX8_isOut_51 hf
def f_X8_goes_53 (a0 : Int32) (a1 : Int32) (σ : Mem) : Res := bd (f_X8_about_53 a0 2 σ) fun v1 μ2 => bd (f_X8_isSafe_53 a0 a1 v1 μ2) fun v3 μ4 => gi 5 386 <| nm (μ4 54 (5 : Int32).toNatClampNeg) fun (v5 : Int32) => bd (f_X8_gainOf_53 a0 a1 v1 μ4) fun v6 μ7 => nm (v5 + v6) fun (v8 : Int32) => bd (f_X8_held v8 (-9999) 9999 μ7) fun v9 μ10 => gi 5 386 <| nm (mset μ10 54 (5 : Int32).toNatClampNeg v9) fun (μ11 : Mem) => nm (4 * a1) fun (v12 : Int32) => nm (11 + v12) fun (v13 : Int32) => nm (v13 + 3) fun (v14 : Int32) => bd (f_X8_more_53 v14 μ11) fun v15 μ16 => if v3 = 0 then (bd (f_X8_isOut_53 a0 μ16) fun v17 μ18 => gb v3 (some (v3, μ18))) else (nm (5 * a0) fun (v19 : Int32) => nm (35 + v19) fun (v20 : Int32) => nm (v20 + 3) fun (v21 : Int32) => bd (f_X8_more_53 v21 μ16) fun v22 μ23 => bd (f_X8_lets_53 a0 2 0 μ23) fun v24 μ25 => gb v3 (some (v3, μ25)))
set_option maxHeartbeats 4000000 in
set_option maxRecDepth 100000 in
theorem m_X8_goes_53 {l : Launch} {σ : Mem} {Z : Int32 × Mem} {a0 : Int32} {a1 : Int32} (hf : f_X8_goes_53 a0 a1 σ = some Z) : CT l yX8_goes cX8_goes 5 (some .boolean) 6 (fun ad => [.ref (ad 53), .int a0, .int a1]) σ Z := by
  refine g_openT RX8 (by decide) rfl (fun _ => Nat.le_of_ble_eq_true rfl) (fun p e s m below meth c D cI cB ad st ls E Y hr hk hl => ?_)
  have hx := E.1.1
  have hb := E.1.2.1
  have hl : lv_has ls 5 [(0, .ref (ad 53)), (1, .int a0), (2, .int a1)] := hl
  unfold f_X8_goes_53 at hf
  refine lv_aload_n (pc := 0) hx hb dX8_goes_0 rfl (lv_at hl 0 rfl) ?_
  refine lv_iload_n (pc := 1) hx hb dX8_goes_1 rfl (lv_at hl 1 rfl) ?_
  refine lv_iconst (pc := 2) (v := 2) hx hb dX8_goes_2 (by decide) ?_
  refine g_callVi (pc := 3) E Y 53 S_53 V_8 o_X8_about q_711 [.int a0, .int 2] rfl rfl (hR_of (by omega) (by decide)) hl.1 (rest := []) rfl (Nat.le_of_ble_eq_true rfl) dX8_goes_3 (fun z hz => m_X8_about_53 hz) hf (fun v1 μ2 H locs hf Y => ?_)
  refine lv_istore_n (pc := 6) (lv' := [(3, .int v1), (0, .ref (ad 53)), (1, .int a0), (2, .int a1)]) hx hb dX8_goes_6 rfl hl (by decide) rfl (fun ls hl => ?_)
  refine lv_aload_n (pc := 7) hx hb dX8_goes_7 rfl (lv_at hl 1 rfl) ?_
  refine lv_iload_n (pc := 8) hx hb dX8_goes_8 rfl (lv_at hl 2 rfl) ?_
  refine lv_iload_n (pc := 9) hx hb dX8_goes_9 rfl (lv_at hl 3 rfl) ?_
  refine lv_iload_n (pc := 10) hx hb dX8_goes_10 rfl (lv_at hl 0 rfl) ?_
  refine g_callVi (pc := 11) E Y 53 S_53 V_8 o_X8_isSafe q_666 [.int a0, .int a1, .int v1] rfl rfl (hR_of (by omega) (by decide)) hl.1 (rest := []) rfl (Nat.le_of_ble_eq_true rfl) dX8_goes_11 (fun z hz => m_X8_isSafe_53 hz) hf (fun v3 μ4 H locs hf Y => ?_)
  refine lv_istore (pc := 14) (lv' := [(4, .int v3), (3, .int v1), (0, .ref (ad 53)), (1, .int a0), (2, .int a1)]) hx hb dX8_goes_14 hl (by decide) rfl (fun ls hl => ?_)
  refine lv_aload_n (pc := 16) hx hb dX8_goes_16 rfl (lv_at hl 2 rfl) ?_
  refine g_getr (pc := 17) E Y 53 0 54 S_53 rfl V_8 (by decide) AL_X8 q_358 dX8_goes_17 ?_
  refine lv_iconst (pc := 20) (v := 5) hx hb dX8_goes_20 (by decide) ?_
  refine lv_aload_n (pc := 21) hx hb dX8_goes_21 rfl (lv_at hl 2 rfl) ?_
  refine g_getr (pc := 22) E Y 53 0 54 S_53 rfl V_8 (by decide) AL_X8 q_358 dX8_goes_22 ?_
  refine lv_iconst (pc := 25) (v := 5) hx hb dX8_goes_25 (by decide) ?_
  refine g_iald (pc := 26) E Y 54 S_54 dX8_goes_26 hf (fun v5 hf => ?_)
  refine lv_aload_n (pc := 27) hx hb dX8_goes_27 rfl (lv_at hl 2 rfl) ?_
  refine lv_iload_n (pc := 28) hx hb dX8_goes_28 rfl (lv_at hl 3 rfl) ?_
  refine lv_iload_n (pc := 29) hx hb dX8_goes_29 rfl (lv_at hl 4 rfl) ?_
  refine lv_iload_n (pc := 30) hx hb dX8_goes_30 rfl (lv_at hl 1 rfl) ?_
  refine g_callVi (pc := 31) E Y 53 S_53 V_8 o_X8_gainOf q_667 [.int a0, .int a1, .int v1] rfl rfl (hR_of (by omega) (by decide)) hl.1 (rest := [.int v5, .int 5, .ref (ad 54)]) rfl (Nat.le_of_ble_eq_true rfl) dX8_goes_31 (fun z hz => m_X8_gainOf_53 hz) hf (fun v6 μ7 H locs hf Y => ?_)
  refine g_iadd (pc := 34) E dX8_goes_34 hf (fun v8 hf => ?_)
  refine lv_sipush (pc := 35) (v := (-9999)) hx hb dX8_goes_35 (by decide) ?_
  refine lv_sipush (pc := 38) (v := 9999) hx hb dX8_goes_38 (by decide) ?_
  refine g_callSi (pc := 41) E Y o_X8_held q_664 [.int v8, .int (-9999), .int 9999] rfl rfl (hR_of (by omega) (by decide)) hl.1 (rest := [.int 5, .ref (ad 54)]) rfl (Nat.le_of_ble_eq_true rfl) dX8_goes_41 (fun z hz => m_X8_held hz) hf (fun v9 μ10 H locs hf Y => ?_)
  refine g_iast (pc := 44) E Y 54 S_54 dX8_goes_44 hf (fun μ11 H locs hf Y => ?_)
  refine lv_aload_n (pc := 45) hx hb dX8_goes_45 rfl (lv_at hl 2 rfl) ?_
  refine lv_bipush (pc := 46) (v := 11) hx hb dX8_goes_46 (by decide) ?_
  refine lv_iconst (pc := 48) (v := 4) hx hb dX8_goes_48 (by decide) ?_
  refine lv_iload_n (pc := 49) hx hb dX8_goes_49 rfl (lv_at hl 4 rfl) ?_
  refine g_imul (pc := 50) E dX8_goes_50 hf (fun v12 hf => ?_)
  refine g_iadd (pc := 51) E dX8_goes_51 hf (fun v13 hf => ?_)
  refine lv_iconst (pc := 52) (v := 3) hx hb dX8_goes_52 (by decide) ?_
  refine g_iadd (pc := 53) E dX8_goes_53 hf (fun v14 hf => ?_)
  refine g_callVv (pc := 54) E Y 53 S_53 V_8 o_X8_more q_665 [.int v14] rfl rfl (hR_of (by omega) (by decide)) hl.1 (rest := []) rfl (Nat.le_of_ble_eq_true rfl) dX8_goes_54 (fun z hz => m_X8_more_53 hz) hf (fun v15 μ16 H locs hf Y => ?_)
  refine lv_iload (pc := 57) hx hb dX8_goes_57 (lv_at hl 0 rfl) ?_
  refine g_if_eq (pc := 59) (tgt := 84) E dX8_goes_59 (by decide) hf (fun hf => ?_) (fun hf => ?_)
  · refine lv_aload_n (pc := 84) hx hb dX8_goes_84 rfl (lv_at hl 2 rfl) ?_
    refine lv_iload_n (pc := 85) hx hb dX8_goes_85 rfl (lv_at hl 3 rfl) ?_
    refine g_callVv (pc := 86) E Y 53 S_53 V_8 o_X8_isOut q_668 [.int a0] rfl rfl (hR_of (by omega) (by decide)) hl.1 (rest := []) rfl (Nat.le_of_ble_eq_true rfl) dX8_goes_86 (fun z hz => m_X8_isOut_53 hz) hf (fun v17 μ18 H locs hf Y => ?_)
    refine lv_iload (pc := 89) hx hb dX8_goes_89 (lv_at hl 0 rfl) ?_
    exact g_zret (pc := 91) E Y hr hk dX8_goes_91 hf
  · refine lv_aload_n (pc := 62) hx hb dX8_goes_62 rfl (lv_at hl 2 rfl) ?_
    refine lv_bipush (pc := 63) (v := 35) hx hb dX8_goes_63 (by decide) ?_
    refine lv_iconst (pc := 65) (v := 5) hx hb dX8_goes_65 (by decide) ?_
    refine lv_iload_n (pc := 66) hx hb dX8_goes_66 rfl (lv_at hl 3 rfl) ?_
    refine g_imul (pc := 67) E dX8_goes_67 hf (fun v19 hf => ?_)
    refine g_iadd (pc := 68) E dX8_goes_68 hf (fun v20 hf => ?_)
    refine lv_iconst (pc := 69) (v := 3) hx hb dX8_goes_69 (by decide) ?_
    refine g_iadd (pc := 70) E dX8_goes_70 hf (fun v21 hf => ?_)
    refine g_callVv (pc := 71) E Y 53 S_53 V_8 o_X8_more q_665 [.int v21] rfl rfl (hR_of (by omega) (by decide)) hl.1 (rest := []) rfl (Nat.le_of_ble_eq_true rfl) dX8_goes_71 (fun z hz => m_X8_more_53 hz) hf (fun v22 μ23 H locs hf Y => ?_)
    refine lv_aload_n (pc := 74) hx hb dX8_goes_74 rfl (lv_at hl 2 rfl) ?_
    refine lv_iload_n (pc := 75) hx hb dX8_goes_75 rfl (lv_at hl 3 rfl) ?_
    refine lv_iconst (pc := 76) (v := 2) hx hb dX8_goes_76 (by decide) ?_
    refine lv_iconst (pc := 77) (v := 0) hx hb dX8_goes_77 (by decide) ?_
    refine g_callVv (pc := 78) E Y 53 S_53 V_8 o_X8_lets q_720 [.int a0, .int 2, .int 0] rfl rfl (hR_of (by omega) (by decide)) hl.1 (rest := []) rfl (Nat.le_of_ble_eq_true rfl) dX8_goes_78 (fun z hz => m_X8_lets_53 hz) hf (fun v24 μ25 H locs hf Y => ?_)
    refine lv_goto (pc := 81) (tgt := 89) hx hb dX8_goes_81 (by decide) ?_
    refine lv_iload (pc := 89) hx hb dX8_goes_89 (lv_at hl 0 rfl) ?_
    exact g_zret (pc := 91) E Y hr hk dX8_goes_91 hf
def f_X8_steal_53 (a0 : Int32) (a1 : Int32) (σ : Mem) : Res := bd (f_X8_isRunner_53 a0 σ) fun v1 μ2 => if v1 = 0 then (bd (f_X8_error_53 (-1000000001) μ2) fun v3 μ4 => some (v3, μ4)) else (bd (f_X8_isPitch_53 a1 μ2) fun v5 μ6 => if v5 = 0 then (bd (f_X8_error_53 (-1000000001) μ6) fun v9 μ10 => some (v9, μ10)) else (bd (f_X8_goes_53 a0 a1 μ6) fun v7 μ8 => if v7 = 0 then (some (0, μ8)) else (some (1, μ8))))
set_option maxHeartbeats 4000000 in
set_option maxRecDepth 100000 in
theorem m_X8_steal_53 {l : Launch} {σ : Mem} {Z : Int32 × Mem} {a0 : Int32} {a1 : Int32} (hf : f_X8_steal_53 a0 a1 σ = some Z) : CT l yX8_steal cX8_steal 3 (some .int) 7 (fun ad => [.ref (ad 53), .int a0, .int a1]) σ Z := by
  refine g_openT RX8 (by decide) rfl (fun _ => Nat.le_of_ble_eq_true rfl) (fun p e s m below meth c D cI cB ad st ls E Y hr hk hl => ?_)
  have hx := E.1.1
  have hb := E.1.2.1
  have hl : lv_has ls 3 [(0, .ref (ad 53)), (1, .int a0), (2, .int a1)] := hl
  unfold f_X8_steal_53 at hf
  refine lv_aload_n (pc := 0) hx hb dX8_steal_0 rfl (lv_at hl 0 rfl) ?_
  refine lv_iload_n (pc := 1) hx hb dX8_steal_1 rfl (lv_at hl 1 rfl) ?_
  refine g_callVi (pc := 2) E Y 53 S_53 V_8 o_X8_isRunner q_721 [.int a0] rfl rfl (hR_of (by omega) (by decide)) hl.1 (rest := []) rfl (Nat.le_of_ble_eq_true rfl) dX8_steal_2 (fun z hz => m_X8_isRunner_53 hz) hf (fun v1 μ2 H locs hf Y => ?_)
  refine g_if_eq (pc := 5) (tgt := 16) E dX8_steal_5 (by decide) hf (fun hf => ?_) (fun hf => ?_)
  · refine lv_aload_n (pc := 16) hx hb dX8_steal_16 rfl (lv_at hl 0 rfl) ?_
    refine lv_ldc (pc := 17) (v := (-1000000001)) hx hb E.1.2.2.2.1 (E.1.2.2.2.2 _ q_238) dX8_steal_17 ?_
    refine g_callVi (pc := 19) E Y 53 S_53 V_8 o_X8_error q_716 [.int (-1000000001)] rfl rfl (hR_of (by omega) (by decide)) hl.1 (rest := []) rfl (Nat.le_of_ble_eq_true rfl) dX8_steal_19 (fun z hz => m_X8_error_53 hz) hf (fun v3 μ4 H locs hf Y => ?_)
    exact g_iret (pc := 22) E Y hr hk dX8_steal_22 hf
  · refine lv_aload_n (pc := 8) hx hb dX8_steal_8 rfl (lv_at hl 0 rfl) ?_
    refine lv_iload_n (pc := 9) hx hb dX8_steal_9 rfl (lv_at hl 2 rfl) ?_
    refine g_callVi (pc := 10) E Y 53 S_53 V_8 o_X8_isPitch q_717 [.int a1] rfl rfl (hR_of (by omega) (by decide)) hl.1 (rest := []) rfl (Nat.le_of_ble_eq_true rfl) dX8_steal_10 (fun z hz => m_X8_isPitch_53 hz) hf (fun v5 μ6 H locs hf Y => ?_)
    refine g_if_ne (pc := 13) (tgt := 23) E dX8_steal_13 (by decide) hf (fun hf => ?_) (fun hf => ?_)
    · refine lv_aload_n (pc := 23) hx hb dX8_steal_23 rfl (lv_at hl 0 rfl) ?_
      refine lv_iload_n (pc := 24) hx hb dX8_steal_24 rfl (lv_at hl 1 rfl) ?_
      refine lv_iload_n (pc := 25) hx hb dX8_steal_25 rfl (lv_at hl 2 rfl) ?_
      refine g_callVi (pc := 26) E Y 53 S_53 V_8 o_X8_goes q_669 [.int a0, .int a1] rfl rfl (hR_of (by omega) (by decide)) hl.1 (rest := []) rfl (Nat.le_of_ble_eq_true rfl) dX8_steal_26 (fun z hz => m_X8_goes_53 hz) hf (fun v7 μ8 H locs hf Y => ?_)
      refine g_if_eq (pc := 29) (tgt := 36) E dX8_steal_29 (by decide) hf (fun hf => ?_) (fun hf => ?_)
      · refine lv_iconst (pc := 36) (v := 0) hx hb dX8_steal_36 (by decide) ?_
        exact g_iret (pc := 37) E Y hr hk dX8_steal_37 hf
      · refine lv_iconst (pc := 32) (v := 1) hx hb dX8_steal_32 (by decide) ?_
        refine lv_goto (pc := 33) (tgt := 37) hx hb dX8_steal_33 (by decide) ?_
        exact g_iret (pc := 37) E Y hr hk dX8_steal_37 hf
    · refine lv_aload_n (pc := 16) hx hb dX8_steal_16 rfl (lv_at hl 0 rfl) ?_
      refine lv_ldc (pc := 17) (v := (-1000000001)) hx hb E.1.2.2.2.1 (E.1.2.2.2.2 _ q_238) dX8_steal_17 ?_
      refine g_callVi (pc := 19) E Y 53 S_53 V_8 o_X8_error q_716 [.int (-1000000001)] rfl rfl (hR_of (by omega) (by decide)) hl.1 (rest := []) rfl (Nat.le_of_ble_eq_true rfl) dX8_steal_19 (fun z hz => m_X8_error_53 hz) hf (fun v9 μ10 H locs hf Y => ?_)
      exact g_iret (pc := 22) E Y hr hk dX8_steal_22 hf
def f_X8_over_53 (a0 : Int32) (σ : Mem) : Res := bd (f_X8_isRunner_53 a0 σ) fun v1 μ2 => if v1 = 0 then (bd (f_X8_error_53 (-1000000001) μ2) fun v9 μ10 => some (v9, μ10)) else (bd (f_X8_about_53 a0 2 μ2) fun v3 μ4 => bd (f_X8_isPickedAt_53 a0 v3 μ4) fun v5 μ6 => if v5 = 0 then (if v5 = 0 then (some (0, μ6)) else (some (1, μ6))) else (bd (f_X8_isOut_53 a0 μ6) fun v7 μ8 => if v5 = 0 then (some (0, μ8)) else (some (1, μ8))))
set_option maxHeartbeats 4000000 in
set_option maxRecDepth 100000 in
theorem m_X8_over_53 {l : Launch} {σ : Mem} {Z : Int32 × Mem} {a0 : Int32} (hf : f_X8_over_53 a0 σ = some Z) : CT l yX8_over cX8_over 3 (some .int) 3 (fun ad => [.ref (ad 53), .int a0]) σ Z := by
  refine g_openT RX8 (by decide) rfl (fun _ => Nat.le_of_ble_eq_true rfl) (fun p e s m below meth c D cI cB ad st ls E Y hr hk hl => ?_)
  have hx := E.1.1
  have hb := E.1.2.1
  have hl : lv_has ls 3 [(0, .ref (ad 53)), (1, .int a0)] := hl
  unfold f_X8_over_53 at hf
  refine lv_aload_n (pc := 0) hx hb dX8_over_0 rfl (lv_at hl 0 rfl) ?_
  refine lv_iload_n (pc := 1) hx hb dX8_over_1 rfl (lv_at hl 1 rfl) ?_
  refine g_callVi (pc := 2) E Y 53 S_53 V_8 o_X8_isRunner q_721 [.int a0] rfl rfl (hR_of (by omega) (by decide)) hl.1 (rest := []) rfl (Nat.le_of_ble_eq_true rfl) dX8_over_2 (fun z hz => m_X8_isRunner_53 hz) hf (fun v1 μ2 H locs hf Y => ?_)
  refine g_if_ne (pc := 5) (tgt := 15) E dX8_over_5 (by decide) hf (fun hf => ?_) (fun hf => ?_)
  · refine lv_aload_n (pc := 15) hx hb dX8_over_15 rfl (lv_at hl 0 rfl) ?_
    refine lv_iload_n (pc := 16) hx hb dX8_over_16 rfl (lv_at hl 1 rfl) ?_
    refine lv_aload_n (pc := 17) hx hb dX8_over_17 rfl (lv_at hl 0 rfl) ?_
    refine lv_iload_n (pc := 18) hx hb dX8_over_18 rfl (lv_at hl 1 rfl) ?_
    refine lv_iconst (pc := 19) (v := 2) hx hb dX8_over_19 (by decide) ?_
    refine g_callVi (pc := 20) E Y 53 S_53 V_8 o_X8_about q_711 [.int a0, .int 2] rfl rfl (hR_of (by omega) (by decide)) hl.1 (rest := [.int a0, .ref (ad 53)]) rfl (Nat.le_of_ble_eq_true rfl) dX8_over_20 (fun z hz => m_X8_about_53 hz) hf (fun v3 μ4 H locs hf Y => ?_)
    refine g_callVi (pc := 23) E Y 53 S_53 V_8 o_X8_isPickedAt q_722 [.int a0, .int v3] rfl rfl (hR_of (by omega) (by decide)) hl.1 (rest := []) rfl (Nat.le_of_ble_eq_true rfl) dX8_over_23 (fun z hz => m_X8_isPickedAt_53 hz) hf (fun v5 μ6 H locs hf Y => ?_)
    refine lv_istore_n (pc := 26) (lv' := [(2, .int v5), (0, .ref (ad 53)), (1, .int a0)]) hx hb dX8_over_26 rfl hl (by decide) rfl (fun ls hl => ?_)
    refine lv_iload_n (pc := 27) hx hb dX8_over_27 rfl (lv_at hl 0 rfl) ?_
    refine g_if_eq (pc := 28) (tgt := 36) E dX8_over_28 (by decide) hf (fun hf => ?_) (fun hf => ?_)
    · refine lv_iload_n (pc := 36) hx hb dX8_over_36 rfl (lv_at hl 0 rfl) ?_
      refine g_if_eq (pc := 37) (tgt := 44) E dX8_over_37 (by decide) hf (fun hf => ?_) (fun hf => ?_)
      · refine lv_iconst (pc := 44) (v := 0) hx hb dX8_over_44 (by decide) ?_
        exact g_iret (pc := 45) E Y hr hk dX8_over_45 hf
      · refine lv_iconst (pc := 40) (v := 1) hx hb dX8_over_40 (by decide) ?_
        refine lv_goto (pc := 41) (tgt := 45) hx hb dX8_over_41 (by decide) ?_
        exact g_iret (pc := 45) E Y hr hk dX8_over_45 hf
    · refine lv_aload_n (pc := 31) hx hb dX8_over_31 rfl (lv_at hl 1 rfl) ?_
      refine lv_iload_n (pc := 32) hx hb dX8_over_32 rfl (lv_at hl 2 rfl) ?_
      refine g_callVv (pc := 33) E Y 53 S_53 V_8 o_X8_isOut q_668 [.int a0] rfl rfl (hR_of (by omega) (by decide)) hl.1 (rest := []) rfl (Nat.le_of_ble_eq_true rfl) dX8_over_33 (fun z hz => m_X8_isOut_53 hz) hf (fun v7 μ8 H locs hf Y => ?_)
      refine lv_iload_n (pc := 36) hx hb dX8_over_36 rfl (lv_at hl 0 rfl) ?_
      refine g_if_eq (pc := 37) (tgt := 44) E dX8_over_37 (by decide) hf (fun hf => ?_) (fun hf => ?_)
      · refine lv_iconst (pc := 44) (v := 0) hx hb dX8_over_44 (by decide) ?_
        exact g_iret (pc := 45) E Y hr hk dX8_over_45 hf
      · refine lv_iconst (pc := 40) (v := 1) hx hb dX8_over_40 (by decide) ?_
        refine lv_goto (pc := 41) (tgt := 45) hx hb dX8_over_41 (by decide) ?_
        exact g_iret (pc := 45) E Y hr hk dX8_over_45 hf
  · refine lv_aload_n (pc := 8) hx hb dX8_over_8 rfl (lv_at hl 0 rfl) ?_
    refine lv_ldc (pc := 9) (v := (-1000000001)) hx hb E.1.2.2.2.1 (E.1.2.2.2.2 _ q_238) dX8_over_9 ?_
    refine g_callVi (pc := 11) E Y 53 S_53 V_8 o_X8_error q_716 [.int (-1000000001)] rfl rfl (hR_of (by omega) (by decide)) hl.1 (rest := []) rfl (Nat.le_of_ble_eq_true rfl) dX8_over_11 (fun z hz => m_X8_error_53 hz) hf (fun v9 μ10 H locs hf Y => ?_)
    exact g_iret (pc := 14) E Y hr hk dX8_over_14 hf
def fb_X8_feed_53_L41 (bk : Int64 → Int32 → Int32 → Mem → Res) (x1 : Int64) (x3 : Int32) (x4 : Int32) (σ : Mem) : Res := if x3 ≤ x4 then (gi 9 386 <| nm (σ 54 (9 : Int32).toNatClampNeg) fun (v5 : Int32) => some (v5, σ)) else (gi 9 386 <| nm (σ 54 (9 : Int32).toNatClampNeg) fun (v6 : Int32) => nm (60 + v6) fun (v7 : Int32) => nm (8 * x4) fun (v8 : Int32) => nm (x1 >>> (v8.toInt64 &&& 63)) fun (v9 : Int64) => nm (v9 &&& 255) fun (v10 : Int64) => nm (v10.toInt32) fun (v11 : Int32) => gi v7 386 <| nm (mset σ 54 v7.toNatClampNeg v11) fun (μ12 : Mem) => gi 9 386 <| nm (μ12 54 (9 : Int32).toNatClampNeg) fun (v13 : Int32) => nm (v13 + 1) fun (v14 : Int32) => gi 9 386 <| nm (mset μ12 54 (9 : Int32).toNatClampNeg v14) fun (μ15 : Mem) => nm (x4 + 1) fun (v16 : Int32) => bk x1 x3 v16 μ15)
def f_X8_feed_53_L41 : Nat → Int64 → Int32 → Int32 → Mem → Res
  | 0, _, _, _, _ => none
  | n + 1, x1, x3, x4, σ => fb_X8_feed_53_L41 (f_X8_feed_53_L41 n) x1 x3 x4 σ
def f_X8_feed_53 (a0 : Int64) (a1 : Int32) (σ : Mem) : Res := bd (f_X8_in a1 1 8 σ) fun v1 μ2 => if v1 = 0 then (bd (f_X8_error_53 (-1000000001) μ2) fun v19 μ20 => some (v19, μ20)) else (gi 9 386 <| nm (μ2 54 (9 : Int32).toNatClampNeg) fun (v3 : Int32) => nm (v3 + a1) fun (v4 : Int32) => if v4 ≤ 60 then (f_X8_feed_53_L41 1000 a0 a1 0 μ2) else (bd (f_X8_error_53 (-1000000004) μ2) fun v17 μ18 => some (v17, μ18)))
set_option maxHeartbeats 4000000 in
set_option maxRecDepth 100000 in
theorem m_X8_feed_53 {l : Launch} {σ : Mem} {Z : Int32 × Mem} {a0 : Int64} {a1 : Int32} (hf : f_X8_feed_53 a0 a1 σ = some Z) : CT l yX8_feed cX8_feed 5 (some .int) 1 (fun ad => [.ref (ad 53), .long a0, .int a1]) σ Z := by
  refine g_openT RX8 (by decide) rfl (fun _ => Nat.le_of_ble_eq_true rfl) (fun p e s m below meth c D cI cB ad st ls E Y hr hk hl => ?_)
  have hx := E.1.1
  have hb := E.1.2.1
  have hl : lv_has ls 5 [(0, .ref (ad 53)), (1, .long a0), (3, .int a1)] := hl
  have hL_41 : ∀ (n : Nat) (x1 : Int64) (x3 : Int32) (x4 : Int32) (σ : Mem) (H : Heap) (locs : List Loc) (ls : Array Slot), f_X8_feed_53_L41 n x1 x3 x4 σ = some Z → Wo D cI cB ad (AA ad) σ s H locs → lv_has ls 5 [(0, .ref (ad 53)), (1, .long x1), (3, .int x3), (4, .int x4)] → W p l e (rmd 1) s m ([.ref (ad 53), .long a0, .int a1] : List Value).toArray below meth c H locs 0 0 (QT_ below D cI cB ad st Z ([.ref (ad 53), .long a0, .int a1] : List Value).toArray s) (F0 m 41 ls []) := by
    intro n
    induction n with
    | zero =>
      intro x1 x3 x4 σ H locs ls hf
      cases (show (none : Res) = some Z from hf)
    | succ n ih =>
      intro x1 x3 x4 σ H locs ls hf Y hl
      have hf : fb_X8_feed_53_L41 (f_X8_feed_53_L41 n) x1 x3 x4 σ = some Z := hf
      unfold fb_X8_feed_53_L41 at hf
      refine lv_iload (pc := 41) hx hb dX8_feed_41 (lv_at hl 3 rfl) ?_
      refine lv_iload_n (pc := 43) hx hb dX8_feed_43 rfl (lv_at hl 2 rfl) ?_
      refine g_icmp_ge (pc := 44) (tgt := 91) E dX8_feed_44 (by decide) hf (fun hf => ?_) (fun hf => ?_)
      · refine lv_aload_n (pc := 91) hx hb dX8_feed_91 rfl (lv_at hl 0 rfl) ?_
        refine g_getr (pc := 92) E Y 53 0 54 S_53 rfl V_8 (by decide) AL_X8 q_358 dX8_feed_92 ?_
        refine lv_bipush (pc := 95) (v := 9) hx hb dX8_feed_95 (by decide) ?_
        refine g_iald (pc := 97) E Y 54 S_54 dX8_feed_97 hf (fun v5 hf => ?_)
        exact g_iret (pc := 98) E Y hr hk dX8_feed_98 hf
      · refine lv_aload_n (pc := 47) hx hb dX8_feed_47 rfl (lv_at hl 0 rfl) ?_
        refine g_getr (pc := 48) E Y 53 0 54 S_53 rfl V_8 (by decide) AL_X8 q_358 dX8_feed_48 ?_
        refine lv_bipush (pc := 51) (v := 60) hx hb dX8_feed_51 (by decide) ?_
        refine lv_aload_n (pc := 53) hx hb dX8_feed_53 rfl (lv_at hl 0 rfl) ?_
        refine g_getr (pc := 54) E Y 53 0 54 S_53 rfl V_8 (by decide) AL_X8 q_358 dX8_feed_54 ?_
        refine lv_bipush (pc := 57) (v := 9) hx hb dX8_feed_57 (by decide) ?_
        refine g_iald (pc := 59) E Y 54 S_54 dX8_feed_59 hf (fun v6 hf => ?_)
        refine g_iadd (pc := 60) E dX8_feed_60 hf (fun v7 hf => ?_)
        refine lv_lload_n (pc := 61) hx hb dX8_feed_61 rfl (lv_at hl 1 rfl) ?_
        refine lv_bipush (pc := 62) (v := 8) hx hb dX8_feed_62 (by decide) ?_
        refine lv_iload (pc := 64) hx hb dX8_feed_64 (lv_at hl 3 rfl) ?_
        refine g_imul (pc := 66) E dX8_feed_66 hf (fun v8 hf => ?_)
        refine g_lshr (pc := 67) E dX8_feed_67 hf (fun v9 hf => ?_)
        refine lv_ldc2 (pc := 68) (v := 255) hx hb E.1.2.2.2.1 (E.1.2.2.2.2 _ q_241) dX8_feed_68 ?_
        refine g_land (pc := 71) E dX8_feed_71 hf (fun v10 hf => ?_)
        refine g_l2i (pc := 72) E dX8_feed_72 hf (fun v11 hf => ?_)
        refine g_iast (pc := 73) E Y 54 S_54 dX8_feed_73 hf (fun μ12 H locs hf Y => ?_)
        refine lv_aload_n (pc := 74) hx hb dX8_feed_74 rfl (lv_at hl 0 rfl) ?_
        refine g_getr (pc := 75) E Y 53 0 54 S_53 rfl V_8 (by decide) AL_X8 q_358 dX8_feed_75 ?_
        refine lv_bipush (pc := 78) (v := 9) hx hb dX8_feed_78 (by decide) ?_
        refine lv_dup2_11 (pc := 80) hx hb dX8_feed_80 rfl rfl ?_
        refine g_iald (pc := 81) E Y 54 S_54 dX8_feed_81 hf (fun v13 hf => ?_)
        refine lv_iconst (pc := 82) (v := 1) hx hb dX8_feed_82 (by decide) ?_
        refine g_iadd (pc := 83) E dX8_feed_83 hf (fun v14 hf => ?_)
        refine g_iast (pc := 84) E Y 54 S_54 dX8_feed_84 hf (fun μ15 H locs hf Y => ?_)
        refine g_iinc (pc := 85) E (fun v16 => [(4, .int v16), (0, .ref (ad 53)), (1, .long x1), (3, .int x3)]) dX8_feed_85 hl (k := 3) rfl (t := 1) (by decide) (by decide) (fun _ => rfl) hf (fun v16 hf ls hl => ?_)
        refine lv_goto (pc := 88) (tgt := 41) hx hb dX8_feed_88 (by decide) ?_
        exact ih _ _ _ _ _ _ _ hf Y (lv_sub hl [1, 2, 3, 0] rfl)
  unfold f_X8_feed_53 at hf
  refine lv_iload_n (pc := 0) hx hb dX8_feed_0 rfl (lv_at hl 2 rfl) ?_
  refine lv_iconst (pc := 1) (v := 1) hx hb dX8_feed_1 (by decide) ?_
  refine lv_bipush (pc := 2) (v := 8) hx hb dX8_feed_2 (by decide) ?_
  refine g_callSi (pc := 4) E Y o_X8_in q_707 [.int a1, .int 1, .int 8] rfl rfl (hR_of (by omega) (by decide)) hl.1 (rest := []) rfl (Nat.le_of_ble_eq_true rfl) dX8_feed_4 (fun z hz => m_X8_in hz) hf (fun v1 μ2 H locs hf Y => ?_)
  refine g_if_ne (pc := 7) (tgt := 17) E dX8_feed_7 (by decide) hf (fun hf => ?_) (fun hf => ?_)
  · refine lv_aload_n (pc := 17) hx hb dX8_feed_17 rfl (lv_at hl 0 rfl) ?_
    refine g_getr (pc := 18) E Y 53 0 54 S_53 rfl V_8 (by decide) AL_X8 q_358 dX8_feed_18 ?_
    refine lv_bipush (pc := 21) (v := 9) hx hb dX8_feed_21 (by decide) ?_
    refine g_iald (pc := 23) E Y 54 S_54 dX8_feed_23 hf (fun v3 hf => ?_)
    refine lv_iload_n (pc := 24) hx hb dX8_feed_24 rfl (lv_at hl 2 rfl) ?_
    refine g_iadd (pc := 25) E dX8_feed_25 hf (fun v4 hf => ?_)
    refine lv_bipush (pc := 26) (v := 60) hx hb dX8_feed_26 (by decide) ?_
    refine g_icmp_le (pc := 28) (tgt := 38) E dX8_feed_28 (by decide) hf (fun hf => ?_) (fun hf => ?_)
    · refine lv_iconst (pc := 38) (v := 0) hx hb dX8_feed_38 (by decide) ?_
      refine lv_istore (pc := 39) (lv' := [(4, .int 0), (0, .ref (ad 53)), (1, .long a0), (3, .int a1)]) hx hb dX8_feed_39 hl (by decide) rfl (fun ls hl => ?_)
      exact hL_41 1000 _ _ _ _ _ _ _ hf Y (lv_sub hl [1, 2, 3, 0] rfl)
    · refine lv_aload_n (pc := 31) hx hb dX8_feed_31 rfl (lv_at hl 0 rfl) ?_
      refine lv_ldc (pc := 32) (v := (-1000000004)) hx hb E.1.2.2.2.1 (E.1.2.2.2.2 _ q_239) dX8_feed_32 ?_
      refine g_callVi (pc := 34) E Y 53 S_53 V_8 o_X8_error q_716 [.int (-1000000004)] rfl rfl (hR_of (by omega) (by decide)) hl.1 (rest := []) rfl (Nat.le_of_ble_eq_true rfl) dX8_feed_34 (fun z hz => m_X8_error_53 hz) hf (fun v17 μ18 H locs hf Y => ?_)
      exact g_iret (pc := 37) E Y hr hk dX8_feed_37 hf
  · refine lv_aload_n (pc := 10) hx hb dX8_feed_10 rfl (lv_at hl 0 rfl) ?_
    refine lv_ldc (pc := 11) (v := (-1000000001)) hx hb E.1.2.2.2.1 (E.1.2.2.2.2 _ q_238) dX8_feed_11 ?_
    refine g_callVi (pc := 13) E Y 53 S_53 V_8 o_X8_error q_716 [.int (-1000000001)] rfl rfl (hR_of (by omega) (by decide)) hl.1 (rest := []) rfl (Nat.le_of_ble_eq_true rfl) dX8_feed_13 (fun z hz => m_X8_error_53 hz) hf (fun v19 μ20 H locs hf Y => ?_)
    exact g_iret (pc := 16) E Y hr hk dX8_feed_16 hf
def f_X8_look_53 (σ : Mem) : Res := nm (σ 53 12) fun (v1 : Int32) => gi 9 386 <| nm (σ 54 (9 : Int32).toNatClampNeg) fun (v2 : Int32) => if v2 ≤ v1 then (some ((-1), σ)) else (nm (σ 53 12) fun (v3 : Int32) => nm (60 + v3) fun (v4 : Int32) => gi v4 386 <| nm (σ 54 v4.toNatClampNeg) fun (v5 : Int32) => some (v5, σ))
set_option maxHeartbeats 4000000 in
set_option maxRecDepth 100000 in
theorem m_X8_look_53 {l : Launch} {σ : Mem} {Z : Int32 × Mem}  (hf : f_X8_look_53 σ = some Z) : CT l yX8_look cX8_look 1 (some .int) 0 (fun ad => [.ref (ad 53)]) σ Z := by
  refine g_openT RX8 (by decide) rfl (fun _ => Nat.le_of_ble_eq_true rfl) (fun p e s m below meth c D cI cB ad st ls E Y hr hk hl => ?_)
  have hx := E.1.1
  have hb := E.1.2.1
  have hl : lv_has ls 1 [(0, .ref (ad 53))] := hl
  unfold f_X8_look_53 at hf
  refine lv_aload_n (pc := 0) hx hb dX8_look_0 rfl (lv_at hl 0 rfl) ?_
  refine g_geti (pc := 1) E Y 53 12 S_53 rfl V_8 (by decide) AL_X8 q_340 dX8_look_1 hf (fun v1 hf => ?_)
  refine lv_aload_n (pc := 4) hx hb dX8_look_4 rfl (lv_at hl 0 rfl) ?_
  refine g_getr (pc := 5) E Y 53 0 54 S_53 rfl V_8 (by decide) AL_X8 q_358 dX8_look_5 ?_
  refine lv_bipush (pc := 8) (v := 9) hx hb dX8_look_8 (by decide) ?_
  refine g_iald (pc := 10) E Y 54 S_54 dX8_look_10 hf (fun v2 hf => ?_)
  refine g_icmp_ge (pc := 11) (tgt := 29) E dX8_look_11 (by decide) hf (fun hf => ?_) (fun hf => ?_)
  · refine lv_iconst (pc := 29) (v := (-1)) hx hb dX8_look_29 (by decide) ?_
    exact g_iret (pc := 30) E Y hr hk dX8_look_30 hf
  · refine lv_aload_n (pc := 14) hx hb dX8_look_14 rfl (lv_at hl 0 rfl) ?_
    refine g_getr (pc := 15) E Y 53 0 54 S_53 rfl V_8 (by decide) AL_X8 q_358 dX8_look_15 ?_
    refine lv_bipush (pc := 18) (v := 60) hx hb dX8_look_18 (by decide) ?_
    refine lv_aload_n (pc := 20) hx hb dX8_look_20 rfl (lv_at hl 0 rfl) ?_
    refine g_geti (pc := 21) E Y 53 12 S_53 rfl V_8 (by decide) AL_X8 q_340 dX8_look_21 hf (fun v3 hf => ?_)
    refine g_iadd (pc := 24) E dX8_look_24 hf (fun v4 hf => ?_)
    refine g_iald (pc := 25) E Y 54 S_54 dX8_look_25 hf (fun v5 hf => ?_)
    refine lv_goto (pc := 26) (tgt := 30) hx hb dX8_look_26 (by decide) ?_
    exact g_iret (pc := 30) E Y hr hk dX8_look_30 hf
def f_X8_lays_53 (a0 : Int32) (a1 : Int32) (σ : Mem) : Res := nm (σ 53 11) fun (v1 : Int32) => if 60 ≤ v1 then (some (0, σ)) else (nm (σ 53 11) fun (v2 : Int32) => gi v2 60 <| nm (mset σ 60 v2.toNatClampNeg a0) fun (μ3 : Mem) => nm (μ3 53 11) fun (v4 : Int32) => gi v4 60 <| nm (mset μ3 61 v4.toNatClampNeg a1) fun (μ5 : Mem) => nm (μ5 53 11) fun (v6 : Int32) => nm (v6 + 1) fun (v7 : Int32) => nm (mset μ5 53 11 v7) fun (μ8 : Mem) => some (0, μ8))
set_option maxHeartbeats 4000000 in
set_option maxRecDepth 100000 in
theorem m_X8_lays_53 {l : Launch} {σ : Mem} {Z : Int32 × Mem} {a0 : Int32} {a1 : Int32} (hf : f_X8_lays_53 a0 a1 σ = some Z) : CV l yX8_lays cX8_lays 3 0 (fun ad => [.ref (ad 53), .int a0, .int a1]) σ Z := by
  refine g_openV RX8 (by decide) rfl (fun _ => Nat.le_of_ble_eq_true rfl) (fun p e s m below meth c D cI cB ad st ls E Y hr hk hl => ?_)
  have hx := E.1.1
  have hb := E.1.2.1
  have hl : lv_has ls 3 [(0, .ref (ad 53)), (1, .int a0), (2, .int a1)] := hl
  unfold f_X8_lays_53 at hf
  refine lv_aload_n (pc := 0) hx hb dX8_lays_0 rfl (lv_at hl 0 rfl) ?_
  refine g_geti (pc := 1) E Y 53 11 S_53 rfl V_8 (by decide) AL_X8 q_342 dX8_lays_1 hf (fun v1 hf => ?_)
  refine lv_aload_n (pc := 4) hx hb dX8_lays_4 rfl (lv_at hl 0 rfl) ?_
  refine g_getr (pc := 5) E Y 53 7 60 S_53 rfl V_8 (by decide) AL_X8 q_353 dX8_lays_5 ?_
  refine g_alen (pc := 8) E Y 60 (b := false) (ty := .int) 0 S_60 rfl (v := 60) (by decide) dX8_lays_8 ?_
  refine g_icmp_ge (pc := 9) (tgt := 42) E dX8_lays_9 (by decide) hf (fun hf => ?_) (fun hf => ?_)
  · exact g_vret (pc := 42) E Y hr hk dX8_lays_42 hf
  · refine lv_aload_n (pc := 12) hx hb dX8_lays_12 rfl (lv_at hl 0 rfl) ?_
    refine g_getr (pc := 13) E Y 53 7 60 S_53 rfl V_8 (by decide) AL_X8 q_353 dX8_lays_13 ?_
    refine lv_aload_n (pc := 16) hx hb dX8_lays_16 rfl (lv_at hl 0 rfl) ?_
    refine g_geti (pc := 17) E Y 53 11 S_53 rfl V_8 (by decide) AL_X8 q_342 dX8_lays_17 hf (fun v2 hf => ?_)
    refine lv_iload_n (pc := 20) hx hb dX8_lays_20 rfl (lv_at hl 1 rfl) ?_
    refine g_iast (pc := 21) E Y 60 S_60 dX8_lays_21 hf (fun μ3 H locs hf Y => ?_)
    refine lv_aload_n (pc := 22) hx hb dX8_lays_22 rfl (lv_at hl 0 rfl) ?_
    refine g_getr (pc := 23) E Y 53 8 61 S_53 rfl V_8 (by decide) AL_X8 q_354 dX8_lays_23 ?_
    refine lv_aload_n (pc := 26) hx hb dX8_lays_26 rfl (lv_at hl 0 rfl) ?_
    refine g_geti (pc := 27) E Y 53 11 S_53 rfl V_8 (by decide) AL_X8 q_342 dX8_lays_27 hf (fun v4 hf => ?_)
    refine lv_iload_n (pc := 30) hx hb dX8_lays_30 rfl (lv_at hl 2 rfl) ?_
    refine g_iast (pc := 31) E Y 61 S_61 dX8_lays_31 hf (fun μ5 H locs hf Y => ?_)
    refine lv_aload_n (pc := 32) hx hb dX8_lays_32 rfl (lv_at hl 0 rfl) ?_
    refine lv_dup (pc := 33) hx hb dX8_lays_33 rfl ?_
    refine g_geti (pc := 34) E Y 53 11 S_53 rfl V_8 (by decide) AL_X8 q_342 dX8_lays_34 hf (fun v6 hf => ?_)
    refine lv_iconst (pc := 37) (v := 1) hx hb dX8_lays_37 (by decide) ?_
    refine g_iadd (pc := 38) E dX8_lays_38 hf (fun v7 hf => ?_)
    refine g_put (pc := 39) E Y 53 11 S_53 rfl V_8 (by decide) AL_X8 tyX8 tyX8_ok nmX8 q_342 rfl rfl rfl dX8_lays_39 hf (fun μ8 H locs hf Y => ?_)
    exact g_vret (pc := 42) E Y hr hk dX8_lays_42 hf
def f_X8_nameOf_53_L54 (x1 : Int32) (σ : Mem) : Res := nm (σ 53 15) fun (v1 : Int32) => if v1 = 0 then (if x1 = 97 then (some (0, σ)) else (some (1, σ))) else (some ((-1), σ))
def f_X8_nameOf_53_L77 (x1 : Int32) (σ : Mem) : Res := nm (σ 53 15) fun (v2 : Int32) => if v2 = 1 then (if x1 = 115 then (some (0, σ)) else (some (1, σ))) else (some ((-1), σ))
def f_X8_nameOf_53 (a0 : Int32) (σ : Mem) : Res := if a0 = 97 then (f_X8_nameOf_53_L54 a0 σ) else (if a0 = 109 then (f_X8_nameOf_53_L77 a0 σ) else (if a0 = 111 then (some (2, σ)) else (if a0 = 115 then (f_X8_nameOf_53_L77 a0 σ) else (if a0 = 119 then (f_X8_nameOf_53_L54 a0 σ) else (some ((-1), σ))))))
set_option maxHeartbeats 4000000 in
set_option maxRecDepth 100000 in
theorem m_X8_nameOf_53 {l : Launch} {σ : Mem} {Z : Int32 × Mem} {a0 : Int32} (hf : f_X8_nameOf_53 a0 σ = some Z) : CT l yX8_nameOf cX8_nameOf 2 (some .int) 0 (fun ad => [.ref (ad 53), .int a0]) σ Z := by
  refine g_openT RX8 (by decide) rfl (fun _ => Nat.le_of_ble_eq_true rfl) (fun p e s m below meth c D cI cB ad st ls E Y hr hk hl => ?_)
  have hx := E.1.1
  have hb := E.1.2.1
  have hl : lv_has ls 2 [(0, .ref (ad 53)), (1, .int a0)] := hl
  have hL_54 : ∀ (x1 : Int32) (σ : Mem) (H : Heap) (locs : List Loc) (ls : Array Slot), f_X8_nameOf_53_L54 x1 σ = some Z → Wo D cI cB ad (AA ad) σ s H locs → lv_has ls 2 [(0, .ref (ad 53)), (1, .int x1)] → W p l e (rmd 0) s m ([.ref (ad 53), .int a0] : List Value).toArray below meth c H locs 0 0 (QT_ below D cI cB ad st Z ([.ref (ad 53), .int a0] : List Value).toArray s) (F0 m 54 ls []) := by
    intro x1 σ H locs ls hf Y hl
    unfold f_X8_nameOf_53_L54 at hf
    refine lv_aload_n (pc := 54) hx hb dX8_nameOf_54 rfl (lv_at hl 0 rfl) ?_
    refine g_geti (pc := 55) E Y 53 15 S_53 rfl V_8 (by decide) AL_X8 q_343 dX8_nameOf_55 hf (fun v1 hf => ?_)
    refine g_if_eq (pc := 58) (tgt := 65) E dX8_nameOf_58 (by decide) hf (fun hf => ?_) (fun hf => ?_)
    · refine lv_iload_n (pc := 65) hx hb dX8_nameOf_65 rfl (lv_at hl 1 rfl) ?_
      refine lv_bipush (pc := 66) (v := 97) hx hb dX8_nameOf_66 (by decide) ?_
      refine g_icmp_ne (pc := 68) (tgt := 75) E dX8_nameOf_68 (by decide) hf (fun hf => ?_) (fun hf => ?_)
      · refine lv_iconst (pc := 75) (v := 1) hx hb dX8_nameOf_75 (by decide) ?_
        exact g_iret (pc := 76) E Y hr hk dX8_nameOf_76 hf
      · refine lv_iconst (pc := 71) (v := 0) hx hb dX8_nameOf_71 (by decide) ?_
        refine lv_goto (pc := 72) (tgt := 76) hx hb dX8_nameOf_72 (by decide) ?_
        exact g_iret (pc := 76) E Y hr hk dX8_nameOf_76 hf
    · refine lv_iconst (pc := 61) (v := (-1)) hx hb dX8_nameOf_61 (by decide) ?_
      refine lv_goto (pc := 62) (tgt := 76) hx hb dX8_nameOf_62 (by decide) ?_
      exact g_iret (pc := 76) E Y hr hk dX8_nameOf_76 hf
  have hL_77 : ∀ (x1 : Int32) (σ : Mem) (H : Heap) (locs : List Loc) (ls : Array Slot), f_X8_nameOf_53_L77 x1 σ = some Z → Wo D cI cB ad (AA ad) σ s H locs → lv_has ls 2 [(0, .ref (ad 53)), (1, .int x1)] → W p l e (rmd 0) s m ([.ref (ad 53), .int a0] : List Value).toArray below meth c H locs 0 0 (QT_ below D cI cB ad st Z ([.ref (ad 53), .int a0] : List Value).toArray s) (F0 m 77 ls []) := by
    intro x1 σ H locs ls hf Y hl
    unfold f_X8_nameOf_53_L77 at hf
    refine lv_aload_n (pc := 77) hx hb dX8_nameOf_77 rfl (lv_at hl 0 rfl) ?_
    refine g_geti (pc := 78) E Y 53 15 S_53 rfl V_8 (by decide) AL_X8 q_343 dX8_nameOf_78 hf (fun v2 hf => ?_)
    refine lv_iconst (pc := 81) (v := 1) hx hb dX8_nameOf_81 (by decide) ?_
    refine g_icmp_eq (pc := 82) (tgt := 89) E dX8_nameOf_82 (by decide) hf (fun hf => ?_) (fun hf => ?_)
    · refine lv_iload_n (pc := 89) hx hb dX8_nameOf_89 rfl (lv_at hl 1 rfl) ?_
      refine lv_bipush (pc := 90) (v := 115) hx hb dX8_nameOf_90 (by decide) ?_
      refine g_icmp_ne (pc := 92) (tgt := 99) E dX8_nameOf_92 (by decide) hf (fun hf => ?_) (fun hf => ?_)
      · refine lv_iconst (pc := 99) (v := 1) hx hb dX8_nameOf_99 (by decide) ?_
        exact g_iret (pc := 100) E Y hr hk dX8_nameOf_100 hf
      · refine lv_iconst (pc := 95) (v := 0) hx hb dX8_nameOf_95 (by decide) ?_
        refine lv_goto (pc := 96) (tgt := 100) hx hb dX8_nameOf_96 (by decide) ?_
        exact g_iret (pc := 100) E Y hr hk dX8_nameOf_100 hf
    · refine lv_iconst (pc := 85) (v := (-1)) hx hb dX8_nameOf_85 (by decide) ?_
      refine lv_goto (pc := 86) (tgt := 100) hx hb dX8_nameOf_86 (by decide) ?_
      exact g_iret (pc := 100) E Y hr hk dX8_nameOf_100 hf
  unfold f_X8_nameOf_53 at hf
  refine lv_iload_n (pc := 0) hx hb dX8_nameOf_0 rfl (lv_at hl 1 rfl) ?_
  by_cases hc : a0 = 97
  · rw [if_pos hc] at hf
    refine lv_lookup (pc := 1) (tgt := 54) (off := 53) hx hb dX8_nameOf_1 rfl (by rw [hc]; rfl) (by decide) ?_
    exact hL_54 _ _ _ _ _ hf Y (lv_sub hl [0, 1] rfl)
  · rw [if_neg hc] at hf
    have n_97 := ti_ne (n := 97) (by decide) hc
    clear hc
    by_cases hc : a0 = 109
    · rw [if_pos hc] at hf
      refine lv_lookup (pc := 1) (tgt := 77) (off := 76) hx hb dX8_nameOf_1 rfl (by rw [hc]; rfl) (by decide) ?_
      exact hL_77 _ _ _ _ _ hf Y (lv_sub hl [0, 1] rfl)
    · rw [if_neg hc] at hf
      have n_109 := ti_ne (n := 109) (by decide) hc
      clear hc
      by_cases hc : a0 = 111
      · rw [if_pos hc] at hf
        refine lv_lookup (pc := 1) (tgt := 52) (off := 51) hx hb dX8_nameOf_1 rfl (by rw [hc]; rfl) (by decide) ?_
        refine lv_iconst (pc := 52) (v := 2) hx hb dX8_nameOf_52 (by decide) ?_
        exact g_iret (pc := 53) E Y hr hk dX8_nameOf_53 hf
      · rw [if_neg hc] at hf
        have n_111 := ti_ne (n := 111) (by decide) hc
        clear hc
        by_cases hc : a0 = 115
        · rw [if_pos hc] at hf
          refine lv_lookup (pc := 1) (tgt := 77) (off := 76) hx hb dX8_nameOf_1 rfl (by rw [hc]; rfl) (by decide) ?_
          exact hL_77 _ _ _ _ _ hf Y (lv_sub hl [0, 1] rfl)
        · rw [if_neg hc] at hf
          have n_115 := ti_ne (n := 115) (by decide) hc
          clear hc
          by_cases hc : a0 = 119
          · rw [if_pos hc] at hf
            refine lv_lookup (pc := 1) (tgt := 54) (off := 53) hx hb dX8_nameOf_1 rfl (by rw [hc]; rfl) (by decide) ?_
            exact hL_54 _ _ _ _ _ hf Y (lv_sub hl [0, 1] rfl)
          · rw [if_neg hc] at hf
            have n_119 := ti_ne (n := 119) (by decide) hc
            clear hc
            refine lv_lookup (pc := 1) (tgt := 101) (off := 100) hx hb dX8_nameOf_1 rfl (lk_def (by simp only [List.all_cons, List.all_nil, Bool.and_true, Bool.and_eq_true, bne_iff_ne, ne_eq]; omega)) (by decide) ?_
            refine lv_iconst (pc := 101) (v := (-1)) hx hb dX8_nameOf_101 (by decide) ?_
            exact g_iret (pc := 102) E Y hr hk dX8_nameOf_102 hf
def f_X8_number_53_L52 (x1 : Int32) (x2 : Int32) (σ : Mem) : Res := if x2 = 0 then (gb 1 <| nm (mset σ 53 14 1) fun (μ4 : Mem) => bd (f_X8_lays_53 1 x1 μ4) fun v5 μ6 => some (0, μ6)) else (gb 0 <| nm (mset σ 53 14 0) fun (μ1 : Mem) => bd (f_X8_lays_53 1 x1 μ1) fun v2 μ3 => some (0, μ3))
def fb_X8_number_53_L4 (bk : Int32 → Int32 → Mem → Res) (x1 : Int32) (x2 : Int32) (σ : Mem) : Res := if 4 ≤ x2 then (f_X8_number_53_L52 x1 x2 σ) else (bd (f_X8_look_53 σ) fun v7 μ8 => bd (f_X8_in v7 48 57 μ8) fun v9 μ10 => if v9 = 0 then (f_X8_number_53_L52 x1 x2 μ10) else (nm (10 * x1) fun (v11 : Int32) => bd (f_X8_look_53 μ10) fun v12 μ13 => nm (v11 + v12) fun (v14 : Int32) => nm (v14 - 48) fun (v15 : Int32) => nm (μ13 53 12) fun (v16 : Int32) => nm (v16 + 1) fun (v17 : Int32) => nm (mset μ13 53 12 v17) fun (μ18 : Mem) => nm (x2 + 1) fun (v19 : Int32) => bk v15 v19 μ18))
def f_X8_number_53_L4 : Nat → Int32 → Int32 → Mem → Res
  | 0, _, _, _ => none
  | n + 1, x1, x2, σ => fb_X8_number_53_L4 (f_X8_number_53_L4 n) x1 x2 σ
def f_X8_number_53 (σ : Mem) : Res := f_X8_number_53_L4 1000 0 0 σ
set_option maxHeartbeats 4000000 in
set_option maxRecDepth 100000 in
theorem m_X8_number_53 {l : Launch} {σ : Mem} {Z : Int32 × Mem}  (hf : f_X8_number_53 σ = some Z) : CV l yX8_number cX8_number 3 1 (fun ad => [.ref (ad 53)]) σ Z := by
  refine g_openV RX8 (by decide) rfl (fun _ => Nat.le_of_ble_eq_true rfl) (fun p e s m below meth c D cI cB ad st ls E Y hr hk hl => ?_)
  have hx := E.1.1
  have hb := E.1.2.1
  have hl : lv_has ls 3 [(0, .ref (ad 53))] := hl
  have hL_52 : ∀ (x1 : Int32) (x2 : Int32) (σ : Mem) (H : Heap) (locs : List Loc) (ls : Array Slot), f_X8_number_53_L52 x1 x2 σ = some Z → Wo D cI cB ad (AA ad) σ s H locs → lv_has ls 3 [(0, .ref (ad 53)), (1, .int x1), (2, .int x2)] → W p l e (rmd 1) s m ([.ref (ad 53)] : List Value).toArray below meth c H locs 0 0 (QV_ below D cI cB ad st Z ([.ref (ad 53)] : List Value).toArray s) (F0 m 52 ls []) := by
    intro x1 x2 σ H locs ls hf Y hl
    unfold f_X8_number_53_L52 at hf
    refine lv_aload_n (pc := 52) hx hb dX8_number_52 rfl (lv_at hl 0 rfl) ?_
    refine lv_iload_n (pc := 53) hx hb dX8_number_53 rfl (lv_at hl 2 rfl) ?_
    refine g_if_ne (pc := 54) (tgt := 61) E dX8_number_54 (by decide) hf (fun hf => ?_) (fun hf => ?_)
    · refine lv_iconst (pc := 61) (v := 0) hx hb dX8_number_61 (by decide) ?_
      obtain ⟨h01, hf⟩ := gb_some hf
      refine g_put (pc := 62) E Y 53 14 S_53 rfl V_8 (by decide) AL_X8 tyX8 tyX8_ok nmX8 q_344 rfl (nar01 h01) (fit01 h01) dX8_number_62 hf (fun μ1 H locs hf Y => ?_)
      refine lv_aload_n (pc := 65) hx hb dX8_number_65 rfl (lv_at hl 0 rfl) ?_
      refine lv_iconst (pc := 66) (v := 1) hx hb dX8_number_66 (by decide) ?_
      refine lv_iload_n (pc := 67) hx hb dX8_number_67 rfl (lv_at hl 1 rfl) ?_
      refine g_callVv (pc := 68) E Y 53 S_53 V_8 o_X8_lays q_671 [.int 1, .int x1] rfl rfl (hR_of (by omega) (by decide)) hl.1 (rest := []) rfl (Nat.le_of_ble_eq_true rfl) dX8_number_68 (fun z hz => m_X8_lays_53 hz) hf (fun v2 μ3 H locs hf Y => ?_)
      exact g_vret (pc := 71) E Y hr hk dX8_number_71 hf
    · refine lv_iconst (pc := 57) (v := 1) hx hb dX8_number_57 (by decide) ?_
      refine lv_goto (pc := 58) (tgt := 62) hx hb dX8_number_58 (by decide) ?_
      obtain ⟨h01, hf⟩ := gb_some hf
      refine g_put (pc := 62) E Y 53 14 S_53 rfl V_8 (by decide) AL_X8 tyX8 tyX8_ok nmX8 q_344 rfl (nar01 h01) (fit01 h01) dX8_number_62 hf (fun μ4 H locs hf Y => ?_)
      refine lv_aload_n (pc := 65) hx hb dX8_number_65 rfl (lv_at hl 0 rfl) ?_
      refine lv_iconst (pc := 66) (v := 1) hx hb dX8_number_66 (by decide) ?_
      refine lv_iload_n (pc := 67) hx hb dX8_number_67 rfl (lv_at hl 1 rfl) ?_
      refine g_callVv (pc := 68) E Y 53 S_53 V_8 o_X8_lays q_671 [.int 1, .int x1] rfl rfl (hR_of (by omega) (by decide)) hl.1 (rest := []) rfl (Nat.le_of_ble_eq_true rfl) dX8_number_68 (fun z hz => m_X8_lays_53 hz) hf (fun v5 μ6 H locs hf Y => ?_)
      exact g_vret (pc := 71) E Y hr hk dX8_number_71 hf
  have hL_4 : ∀ (n : Nat) (x1 : Int32) (x2 : Int32) (σ : Mem) (H : Heap) (locs : List Loc) (ls : Array Slot), f_X8_number_53_L4 n x1 x2 σ = some Z → Wo D cI cB ad (AA ad) σ s H locs → lv_has ls 3 [(0, .ref (ad 53)), (1, .int x1), (2, .int x2)] → W p l e (rmd 1) s m ([.ref (ad 53)] : List Value).toArray below meth c H locs 0 0 (QV_ below D cI cB ad st Z ([.ref (ad 53)] : List Value).toArray s) (F0 m 4 ls []) := by
    intro n
    induction n with
    | zero =>
      intro x1 x2 σ H locs ls hf
      cases (show (none : Res) = some Z from hf)
    | succ n ih =>
      intro x1 x2 σ H locs ls hf Y hl
      have hf : fb_X8_number_53_L4 (f_X8_number_53_L4 n) x1 x2 σ = some Z := hf
      unfold fb_X8_number_53_L4 at hf
      refine lv_iload_n (pc := 4) hx hb dX8_number_4 rfl (lv_at hl 2 rfl) ?_
      refine lv_iconst (pc := 5) (v := 4) hx hb dX8_number_5 (by decide) ?_
      refine g_icmp_ge (pc := 6) (tgt := 52) E dX8_number_6 (by decide) hf (fun hf => ?_) (fun hf => ?_)
      · exact hL_52 _ _ _ _ _ _ hf Y (lv_sub hl [0, 1, 2] rfl)
      · refine lv_aload_n (pc := 9) hx hb dX8_number_9 rfl (lv_at hl 0 rfl) ?_
        refine g_callVi (pc := 10) E Y 53 S_53 V_8 o_X8_look q_670 [] rfl rfl (hR_of (by omega) (by decide)) hl.1 (rest := []) rfl (Nat.le_of_ble_eq_true rfl) dX8_number_10 (fun z hz => m_X8_look_53 hz) hf (fun v7 μ8 H locs hf Y => ?_)
        refine lv_bipush (pc := 13) (v := 48) hx hb dX8_number_13 (by decide) ?_
        refine lv_bipush (pc := 15) (v := 57) hx hb dX8_number_15 (by decide) ?_
        refine g_callSi (pc := 17) E Y o_X8_in q_707 [.int v7, .int 48, .int 57] rfl rfl (hR_of (by omega) (by decide)) hl.1 (rest := []) rfl (Nat.le_of_ble_eq_true rfl) dX8_number_17 (fun z hz => m_X8_in hz) hf (fun v9 μ10 H locs hf Y => ?_)
        refine g_if_eq (pc := 20) (tgt := 52) E dX8_number_20 (by decide) hf (fun hf => ?_) (fun hf => ?_)
        · exact hL_52 _ _ _ _ _ _ hf Y (lv_sub hl [0, 1, 2] rfl)
        · refine lv_bipush (pc := 23) (v := 10) hx hb dX8_number_23 (by decide) ?_
          refine lv_iload_n (pc := 25) hx hb dX8_number_25 rfl (lv_at hl 1 rfl) ?_
          refine g_imul (pc := 26) E dX8_number_26 hf (fun v11 hf => ?_)
          refine lv_aload_n (pc := 27) hx hb dX8_number_27 rfl (lv_at hl 0 rfl) ?_
          refine g_callVi (pc := 28) E Y 53 S_53 V_8 o_X8_look q_670 [] rfl rfl (hR_of (by omega) (by decide)) hl.1 (rest := [.int v11]) rfl (Nat.le_of_ble_eq_true rfl) dX8_number_28 (fun z hz => m_X8_look_53 hz) hf (fun v12 μ13 H locs hf Y => ?_)
          refine g_iadd (pc := 31) E dX8_number_31 hf (fun v14 hf => ?_)
          refine lv_bipush (pc := 32) (v := 48) hx hb dX8_number_32 (by decide) ?_
          refine g_isub (pc := 34) E dX8_number_34 hf (fun v15 hf => ?_)
          refine lv_istore_n (pc := 35) (lv' := [(1, .int v15), (0, .ref (ad 53)), (2, .int x2)]) hx hb dX8_number_35 rfl hl (by decide) rfl (fun ls hl => ?_)
          refine lv_aload_n (pc := 36) hx hb dX8_number_36 rfl (lv_at hl 1 rfl) ?_
          refine lv_dup (pc := 37) hx hb dX8_number_37 rfl ?_
          refine g_geti (pc := 38) E Y 53 12 S_53 rfl V_8 (by decide) AL_X8 q_340 dX8_number_38 hf (fun v16 hf => ?_)
          refine lv_iconst (pc := 41) (v := 1) hx hb dX8_number_41 (by decide) ?_
          refine g_iadd (pc := 42) E dX8_number_42 hf (fun v17 hf => ?_)
          refine g_put (pc := 43) E Y 53 12 S_53 rfl V_8 (by decide) AL_X8 tyX8 tyX8_ok nmX8 q_340 rfl rfl rfl dX8_number_43 hf (fun μ18 H locs hf Y => ?_)
          refine g_iinc (pc := 46) E (fun v19 => [(2, .int v19), (1, .int v15), (0, .ref (ad 53))]) dX8_number_46 hl (k := 2) rfl (t := 1) (by decide) (by decide) (fun _ => rfl) hf (fun v19 hf ls hl => ?_)
          refine lv_goto (pc := 49) (tgt := 4) hx hb dX8_number_49 (by decide) ?_
          exact ih _ _ _ _ _ _ hf Y (lv_sub hl [2, 1, 0] rfl)
  unfold f_X8_number_53 at hf
  refine lv_iconst (pc := 0) (v := 0) hx hb dX8_number_0 (by decide) ?_
  refine lv_istore_n (pc := 1) (lv' := [(1, .int 0), (0, .ref (ad 53))]) hx hb dX8_number_1 rfl hl (by decide) rfl (fun ls hl => ?_)
  refine lv_iconst (pc := 2) (v := 0) hx hb dX8_number_2 (by decide) ?_
  refine lv_istore_n (pc := 3) (lv' := [(2, .int 0), (1, .int 0), (0, .ref (ad 53))]) hx hb dX8_number_3 rfl hl (by decide) rfl (fun ls hl => ?_)
  exact hL_4 1000 _ _ _ _ _ _ hf Y (lv_sub hl [2, 1, 0] rfl)
def f_X8_one_53 (rc : Int32 → Mem → Res) (σ : Mem) : Res := bd (f_X8_look_53 σ) fun v1 μ2 => bd (f_X8_nameOf_53 v1 μ2) fun v3 μ4 => if v3 < 0 then (if v1 = 33 then (bd (rc v1 μ4) fun v5 μ6 => some (0, μ6)) else (if v1 = 40 then (bd (rc v1 μ4) fun v9 μ10 => some (0, μ10)) else (bd (f_X8_number_53 μ4) fun v7 μ8 => some (0, μ8)))) else (nm (μ4 53 12) fun (v11 : Int32) => nm (v11 + 1) fun (v12 : Int32) => nm (mset μ4 53 12 v12) fun (μ13 : Mem) => bd (f_X8_lays_53 2 v3 μ13) fun v14 μ15 => some (0, μ15))
set_option maxHeartbeats 4000000 in
set_option maxRecDepth 100000 in
theorem m_X8_one_53 {l : Launch} {σ : Mem} {Z : Int32 × Mem}  {dr : Nat} (hdr : 10 ≤ dr) {rc : Int32 → Mem → Res} (hrc : ∀ (b0 : Int32) (τ : Mem) (Zr : Int32 × Mem), rc b0 τ = some Zr → CV l yX8_opens cX8_opens 2 dr (fun ad => [.ref (ad 53), .int b0]) τ Zr) (hf : f_X8_one_53 rc σ = some Z) : CV l yX8_one cX8_one 3 (dr + 1) (fun ad => [.ref (ad 53)]) σ Z := by
  refine g_openV RX8 (by decide) rfl (fun _ => Nat.le_of_ble_eq_true rfl) (fun p e s m below meth c D cI cB ad st ls E Y hr hk hl => ?_)
  have hx := E.1.1
  have hb := E.1.2.1
  have hl : lv_has ls 3 [(0, .ref (ad 53))] := hl
  unfold f_X8_one_53 at hf
  refine lv_aload_n (pc := 0) hx hb dX8_one_0 rfl (lv_at hl 0 rfl) ?_
  refine g_callVi (pc := 1) E Y 53 S_53 V_8 o_X8_look q_670 [] rfl rfl (hR_of (by omega) (by decide)) hl.1 (rest := []) rfl (Nat.le_of_ble_eq_true rfl) dX8_one_1 (fun z hz => m_X8_look_53 hz) hf (fun v1 μ2 H locs hf Y => ?_)
  refine lv_istore_n (pc := 4) (lv' := [(1, .int v1), (0, .ref (ad 53))]) hx hb dX8_one_4 rfl hl (by decide) rfl (fun ls hl => ?_)
  refine lv_aload_n (pc := 5) hx hb dX8_one_5 rfl (lv_at hl 1 rfl) ?_
  refine lv_iload_n (pc := 6) hx hb dX8_one_6 rfl (lv_at hl 0 rfl) ?_
  refine g_callVi (pc := 7) E Y 53 S_53 V_8 o_X8_nameOf q_674 [.int v1] rfl rfl (hR_of (by omega) (by decide)) hl.1 (rest := []) rfl (Nat.le_of_ble_eq_true rfl) dX8_one_7 (fun z hz => m_X8_nameOf_53 hz) hf (fun v3 μ4 H locs hf Y => ?_)
  refine lv_istore_n (pc := 10) (lv' := [(2, .int v3), (1, .int v1), (0, .ref (ad 53))]) hx hb dX8_one_10 rfl hl (by decide) rfl (fun ls hl => ?_)
  refine lv_iload_n (pc := 11) hx hb dX8_one_11 rfl (lv_at hl 0 rfl) ?_
  refine g_if_lt (pc := 12) (tgt := 34) E dX8_one_12 (by decide) hf (fun hf => ?_) (fun hf => ?_)
  · refine lv_iload_n (pc := 34) hx hb dX8_one_34 rfl (lv_at hl 1 rfl) ?_
    refine lv_bipush (pc := 35) (v := 33) hx hb dX8_one_35 (by decide) ?_
    refine g_icmp_eq (pc := 37) (tgt := 46) E dX8_one_37 (by decide) hf (fun hf => ?_) (fun hf => ?_)
    · refine lv_aload_n (pc := 46) hx hb dX8_one_46 rfl (lv_at hl 2 rfl) ?_
      refine lv_iload_n (pc := 47) hx hb dX8_one_47 rfl (lv_at hl 1 rfl) ?_
      refine g_callVv (pc := 48) E Y 53 S_53 V_8 o_X8_opens q_675 [.int v1] rfl rfl (hR_of (by omega) (by decide)) hl.1 (rest := []) rfl (Nat.le_of_ble_eq_true rfl) dX8_one_48 (fun z hz => hrc _ _ _ hz) hf (fun v5 μ6 H locs hf Y => ?_)
      refine lv_goto (pc := 51) (tgt := 58) hx hb dX8_one_51 (by decide) ?_
      exact g_vret (pc := 58) E Y hr hk dX8_one_58 hf
    · refine lv_iload_n (pc := 40) hx hb dX8_one_40 rfl (lv_at hl 1 rfl) ?_
      refine lv_bipush (pc := 41) (v := 40) hx hb dX8_one_41 (by decide) ?_
      refine g_icmp_ne (pc := 43) (tgt := 54) E dX8_one_43 (by decide) hf (fun hf => ?_) (fun hf => ?_)
      · refine lv_aload_n (pc := 54) hx hb dX8_one_54 rfl (lv_at hl 2 rfl) ?_
        refine g_callVv (pc := 55) E Y 53 S_53 V_8 o_X8_number q_676 [] rfl rfl (hR_of (by omega) (by decide)) hl.1 (rest := []) rfl (Nat.le_of_ble_eq_true rfl) dX8_one_55 (fun z hz => m_X8_number_53 hz) hf (fun v7 μ8 H locs hf Y => ?_)
        exact g_vret (pc := 58) E Y hr hk dX8_one_58 hf
      · refine lv_aload_n (pc := 46) hx hb dX8_one_46 rfl (lv_at hl 2 rfl) ?_
        refine lv_iload_n (pc := 47) hx hb dX8_one_47 rfl (lv_at hl 1 rfl) ?_
        refine g_callVv (pc := 48) E Y 53 S_53 V_8 o_X8_opens q_675 [.int v1] rfl rfl (hR_of (by omega) (by decide)) hl.1 (rest := []) rfl (Nat.le_of_ble_eq_true rfl) dX8_one_48 (fun z hz => hrc _ _ _ hz) hf (fun v9 μ10 H locs hf Y => ?_)
        refine lv_goto (pc := 51) (tgt := 58) hx hb dX8_one_51 (by decide) ?_
        exact g_vret (pc := 58) E Y hr hk dX8_one_58 hf
  · refine lv_aload_n (pc := 15) hx hb dX8_one_15 rfl (lv_at hl 2 rfl) ?_
    refine lv_dup (pc := 16) hx hb dX8_one_16 rfl ?_
    refine g_geti (pc := 17) E Y 53 12 S_53 rfl V_8 (by decide) AL_X8 q_340 dX8_one_17 hf (fun v11 hf => ?_)
    refine lv_iconst (pc := 20) (v := 1) hx hb dX8_one_20 (by decide) ?_
    refine g_iadd (pc := 21) E dX8_one_21 hf (fun v12 hf => ?_)
    refine g_put (pc := 22) E Y 53 12 S_53 rfl V_8 (by decide) AL_X8 tyX8 tyX8_ok nmX8 q_340 rfl rfl rfl dX8_one_22 hf (fun μ13 H locs hf Y => ?_)
    refine lv_aload_n (pc := 25) hx hb dX8_one_25 rfl (lv_at hl 2 rfl) ?_
    refine lv_iconst (pc := 26) (v := 2) hx hb dX8_one_26 (by decide) ?_
    refine lv_iload_n (pc := 27) hx hb dX8_one_27 rfl (lv_at hl 0 rfl) ?_
    refine g_callVv (pc := 28) E Y 53 S_53 V_8 o_X8_lays q_671 [.int 2, .int v3] rfl rfl (hR_of (by omega) (by decide)) hl.1 (rest := []) rfl (Nat.le_of_ble_eq_true rfl) dX8_one_28 (fun z hz => m_X8_lays_53 hz) hf (fun v14 μ15 H locs hf Y => ?_)
    refine lv_goto (pc := 31) (tgt := 58) hx hb dX8_one_31 (by decide) ?_
    exact g_vret (pc := 58) E Y hr hk dX8_one_58 hf
def fb_X8_times_53_L4 (rc : Int32 → Mem → Res) (bk : Mem → Res)  (σ : Mem) : Res := nm (σ 53 14) fun (v3 : Int32) => if v3 = 0 then (bd (f_X8_look_53 σ) fun v4 μ5 => if v4 = 42 then (bd (f_X8_look_53 μ5) fun v6 μ7 => nm (μ7 53 12) fun (v8 : Int32) => nm (v8 + 1) fun (v9 : Int32) => nm (mset μ7 53 12 v9) fun (μ10 : Mem) => bd (f_X8_one_53 rc μ10) fun v11 μ12 => bd (f_X8_lays_53 v6 0 μ12) fun v13 μ14 => bk μ14) else (bd (f_X8_look_53 μ5) fun v15 μ16 => if v15 = 47 then (bd (f_X8_look_53 μ16) fun v17 μ18 => nm (μ18 53 12) fun (v19 : Int32) => nm (v19 + 1) fun (v20 : Int32) => nm (mset μ18 53 12 v20) fun (μ21 : Mem) => bd (f_X8_one_53 rc μ21) fun v22 μ23 => bd (f_X8_lays_53 v17 0 μ23) fun v24 μ25 => bk μ25) else (bd (f_X8_look_53 μ16) fun v26 μ27 => if v26 = 37 then (bd (f_X8_look_53 μ27) fun v28 μ29 => nm (μ29 53 12) fun (v30 : Int32) => nm (v30 + 1) fun (v31 : Int32) => nm (mset μ29 53 12 v31) fun (μ32 : Mem) => bd (f_X8_one_53 rc μ32) fun v33 μ34 => bd (f_X8_lays_53 v28 0 μ34) fun v35 μ36 => bk μ36) else (some (0, μ27))))) else (some (0, σ))
def f_X8_times_53_L4 (rc : Int32 → Mem → Res) : Nat → Mem → Res
  | 0, _ => none
  | n + 1, σ => fb_X8_times_53_L4 rc (f_X8_times_53_L4 rc n)  σ
def f_X8_times_53 (rc : Int32 → Mem → Res) (σ : Mem) : Res := bd (f_X8_one_53 rc σ) fun v1 μ2 => f_X8_times_53_L4 rc 1000 μ2
set_option maxHeartbeats 4000000 in
set_option maxRecDepth 100000 in
theorem m_X8_times_53 {l : Launch} {σ : Mem} {Z : Int32 × Mem}  {dr : Nat} (hdr : 10 ≤ dr) {rc : Int32 → Mem → Res} (hrc : ∀ (b0 : Int32) (τ : Mem) (Zr : Int32 × Mem), rc b0 τ = some Zr → CV l yX8_opens cX8_opens 2 dr (fun ad => [.ref (ad 53), .int b0]) τ Zr) (hf : f_X8_times_53 rc σ = some Z) : CV l yX8_times cX8_times 2 (dr + 2) (fun ad => [.ref (ad 53)]) σ Z := by
  refine g_openV RX8 (by decide) rfl (fun _ => Nat.le_of_ble_eq_true rfl) (fun p e s m below meth c D cI cB ad st ls E Y hr hk hl => ?_)
  have hx := E.1.1
  have hb := E.1.2.1
  have hl : lv_has ls 2 [(0, .ref (ad 53))] := hl
  have hL_4 : ∀ (n : Nat)  (σ : Mem) (H : Heap) (locs : List Loc) (ls : Array Slot), f_X8_times_53_L4 rc n  σ = some Z → Wo D cI cB ad (AA ad) σ s H locs → lv_has ls 2 [(0, .ref (ad 53))] → W p l e (rmd (dr + 2)) s m ([.ref (ad 53)] : List Value).toArray below meth c H locs 0 0 (QV_ below D cI cB ad st Z ([.ref (ad 53)] : List Value).toArray s) (F0 m 4 ls []) := by
    intro n
    induction n with
    | zero =>
      intro  σ H locs ls hf
      cases (show (none : Res) = some Z from hf)
    | succ n ih =>
      intro  σ H locs ls hf Y hl
      have hf : fb_X8_times_53_L4 rc (f_X8_times_53_L4 rc n)  σ = some Z := hf
      unfold fb_X8_times_53_L4 at hf
      refine lv_aload_n (pc := 4) hx hb dX8_times_4 rfl (lv_at hl 0 rfl) ?_
      refine g_geti (pc := 5) E Y 53 14 S_53 rfl V_8 (by decide) AL_X8 q_344 dX8_times_5 hf (fun v3 hf => ?_)
      refine g_if_ne (pc := 8) (tgt := 66) E dX8_times_8 (by decide) hf (fun hf => ?_) (fun hf => ?_)
      · exact g_vret (pc := 66) E Y hr hk dX8_times_66 hf
      · refine lv_aload_n (pc := 11) hx hb dX8_times_11 rfl (lv_at hl 0 rfl) ?_
        refine g_callVi (pc := 12) E Y 53 S_53 V_8 o_X8_look q_670 [] rfl rfl (hR_of (by omega) (by decide)) hl.1 (rest := []) rfl (Nat.le_of_ble_eq_true rfl) dX8_times_12 (fun z hz => m_X8_look_53 hz) hf (fun v4 μ5 H locs hf Y => ?_)
        refine lv_bipush (pc := 15) (v := 42) hx hb dX8_times_15 (by decide) ?_
        refine g_icmp_eq (pc := 17) (tgt := 38) E dX8_times_17 (by decide) hf (fun hf => ?_) (fun hf => ?_)
        · refine lv_aload_n (pc := 38) hx hb dX8_times_38 rfl (lv_at hl 0 rfl) ?_
          refine g_callVi (pc := 39) E Y 53 S_53 V_8 o_X8_look q_670 [] rfl rfl (hR_of (by omega) (by decide)) hl.1 (rest := []) rfl (Nat.le_of_ble_eq_true rfl) dX8_times_39 (fun z hz => m_X8_look_53 hz) hf (fun v6 μ7 H locs hf Y => ?_)
          refine lv_istore_n (pc := 42) (lv' := [(1, .int v6), (0, .ref (ad 53))]) hx hb dX8_times_42 rfl hl (by decide) rfl (fun ls hl => ?_)
          refine lv_aload_n (pc := 43) hx hb dX8_times_43 rfl (lv_at hl 1 rfl) ?_
          refine lv_dup (pc := 44) hx hb dX8_times_44 rfl ?_
          refine g_geti (pc := 45) E Y 53 12 S_53 rfl V_8 (by decide) AL_X8 q_340 dX8_times_45 hf (fun v8 hf => ?_)
          refine lv_iconst (pc := 48) (v := 1) hx hb dX8_times_48 (by decide) ?_
          refine g_iadd (pc := 49) E dX8_times_49 hf (fun v9 hf => ?_)
          refine g_put (pc := 50) E Y 53 12 S_53 rfl V_8 (by decide) AL_X8 tyX8 tyX8_ok nmX8 q_340 rfl rfl rfl dX8_times_50 hf (fun μ10 H locs hf Y => ?_)
          refine lv_aload_n (pc := 53) hx hb dX8_times_53 rfl (lv_at hl 1 rfl) ?_
          refine g_callVv (pc := 54) E Y 53 S_53 V_8 o_X8_one q_672 [] rfl rfl (hR_of (by omega) (by decide)) hl.1 (rest := []) rfl (Nat.le_of_ble_eq_true rfl) dX8_times_54 (fun z hz => m_X8_one_53 hdr hrc hz) hf (fun v11 μ12 H locs hf Y => ?_)
          refine lv_aload_n (pc := 57) hx hb dX8_times_57 rfl (lv_at hl 1 rfl) ?_
          refine lv_iload_n (pc := 58) hx hb dX8_times_58 rfl (lv_at hl 0 rfl) ?_
          refine lv_iconst (pc := 59) (v := 0) hx hb dX8_times_59 (by decide) ?_
          refine g_callVv (pc := 60) E Y 53 S_53 V_8 o_X8_lays q_671 [.int v6, .int 0] rfl rfl (hR_of (by omega) (by decide)) hl.1 (rest := []) rfl (Nat.le_of_ble_eq_true rfl) dX8_times_60 (fun z hz => m_X8_lays_53 hz) hf (fun v13 μ14 H locs hf Y => ?_)
          refine lv_goto (pc := 63) (tgt := 4) hx hb dX8_times_63 (by decide) ?_
          exact ih _ _ _ _ hf Y (lv_sub hl [1] rfl)
        · refine lv_aload_n (pc := 20) hx hb dX8_times_20 rfl (lv_at hl 0 rfl) ?_
          refine g_callVi (pc := 21) E Y 53 S_53 V_8 o_X8_look q_670 [] rfl rfl (hR_of (by omega) (by decide)) hl.1 (rest := []) rfl (Nat.le_of_ble_eq_true rfl) dX8_times_21 (fun z hz => m_X8_look_53 hz) hf (fun v15 μ16 H locs hf Y => ?_)
          refine lv_bipush (pc := 24) (v := 47) hx hb dX8_times_24 (by decide) ?_
          refine g_icmp_eq (pc := 26) (tgt := 38) E dX8_times_26 (by decide) hf (fun hf => ?_) (fun hf => ?_)
          · refine lv_aload_n (pc := 38) hx hb dX8_times_38 rfl (lv_at hl 0 rfl) ?_
            refine g_callVi (pc := 39) E Y 53 S_53 V_8 o_X8_look q_670 [] rfl rfl (hR_of (by omega) (by decide)) hl.1 (rest := []) rfl (Nat.le_of_ble_eq_true rfl) dX8_times_39 (fun z hz => m_X8_look_53 hz) hf (fun v17 μ18 H locs hf Y => ?_)
            refine lv_istore_n (pc := 42) (lv' := [(1, .int v17), (0, .ref (ad 53))]) hx hb dX8_times_42 rfl hl (by decide) rfl (fun ls hl => ?_)
            refine lv_aload_n (pc := 43) hx hb dX8_times_43 rfl (lv_at hl 1 rfl) ?_
            refine lv_dup (pc := 44) hx hb dX8_times_44 rfl ?_
            refine g_geti (pc := 45) E Y 53 12 S_53 rfl V_8 (by decide) AL_X8 q_340 dX8_times_45 hf (fun v19 hf => ?_)
            refine lv_iconst (pc := 48) (v := 1) hx hb dX8_times_48 (by decide) ?_
            refine g_iadd (pc := 49) E dX8_times_49 hf (fun v20 hf => ?_)
            refine g_put (pc := 50) E Y 53 12 S_53 rfl V_8 (by decide) AL_X8 tyX8 tyX8_ok nmX8 q_340 rfl rfl rfl dX8_times_50 hf (fun μ21 H locs hf Y => ?_)
            refine lv_aload_n (pc := 53) hx hb dX8_times_53 rfl (lv_at hl 1 rfl) ?_
            refine g_callVv (pc := 54) E Y 53 S_53 V_8 o_X8_one q_672 [] rfl rfl (hR_of (by omega) (by decide)) hl.1 (rest := []) rfl (Nat.le_of_ble_eq_true rfl) dX8_times_54 (fun z hz => m_X8_one_53 hdr hrc hz) hf (fun v22 μ23 H locs hf Y => ?_)
            refine lv_aload_n (pc := 57) hx hb dX8_times_57 rfl (lv_at hl 1 rfl) ?_
            refine lv_iload_n (pc := 58) hx hb dX8_times_58 rfl (lv_at hl 0 rfl) ?_
            refine lv_iconst (pc := 59) (v := 0) hx hb dX8_times_59 (by decide) ?_
            refine g_callVv (pc := 60) E Y 53 S_53 V_8 o_X8_lays q_671 [.int v17, .int 0] rfl rfl (hR_of (by omega) (by decide)) hl.1 (rest := []) rfl (Nat.le_of_ble_eq_true rfl) dX8_times_60 (fun z hz => m_X8_lays_53 hz) hf (fun v24 μ25 H locs hf Y => ?_)
            refine lv_goto (pc := 63) (tgt := 4) hx hb dX8_times_63 (by decide) ?_
            exact ih _ _ _ _ hf Y (lv_sub hl [1] rfl)
          · refine lv_aload_n (pc := 29) hx hb dX8_times_29 rfl (lv_at hl 0 rfl) ?_
            refine g_callVi (pc := 30) E Y 53 S_53 V_8 o_X8_look q_670 [] rfl rfl (hR_of (by omega) (by decide)) hl.1 (rest := []) rfl (Nat.le_of_ble_eq_true rfl) dX8_times_30 (fun z hz => m_X8_look_53 hz) hf (fun v26 μ27 H locs hf Y => ?_)
            refine lv_bipush (pc := 33) (v := 37) hx hb dX8_times_33 (by decide) ?_
            refine g_icmp_ne (pc := 35) (tgt := 66) E dX8_times_35 (by decide) hf (fun hf => ?_) (fun hf => ?_)
            · exact g_vret (pc := 66) E Y hr hk dX8_times_66 hf
            · refine lv_aload_n (pc := 38) hx hb dX8_times_38 rfl (lv_at hl 0 rfl) ?_
              refine g_callVi (pc := 39) E Y 53 S_53 V_8 o_X8_look q_670 [] rfl rfl (hR_of (by omega) (by decide)) hl.1 (rest := []) rfl (Nat.le_of_ble_eq_true rfl) dX8_times_39 (fun z hz => m_X8_look_53 hz) hf (fun v28 μ29 H locs hf Y => ?_)
              refine lv_istore_n (pc := 42) (lv' := [(1, .int v28), (0, .ref (ad 53))]) hx hb dX8_times_42 rfl hl (by decide) rfl (fun ls hl => ?_)
              refine lv_aload_n (pc := 43) hx hb dX8_times_43 rfl (lv_at hl 1 rfl) ?_
              refine lv_dup (pc := 44) hx hb dX8_times_44 rfl ?_
              refine g_geti (pc := 45) E Y 53 12 S_53 rfl V_8 (by decide) AL_X8 q_340 dX8_times_45 hf (fun v30 hf => ?_)
              refine lv_iconst (pc := 48) (v := 1) hx hb dX8_times_48 (by decide) ?_
              refine g_iadd (pc := 49) E dX8_times_49 hf (fun v31 hf => ?_)
              refine g_put (pc := 50) E Y 53 12 S_53 rfl V_8 (by decide) AL_X8 tyX8 tyX8_ok nmX8 q_340 rfl rfl rfl dX8_times_50 hf (fun μ32 H locs hf Y => ?_)
              refine lv_aload_n (pc := 53) hx hb dX8_times_53 rfl (lv_at hl 1 rfl) ?_
              refine g_callVv (pc := 54) E Y 53 S_53 V_8 o_X8_one q_672 [] rfl rfl (hR_of (by omega) (by decide)) hl.1 (rest := []) rfl (Nat.le_of_ble_eq_true rfl) dX8_times_54 (fun z hz => m_X8_one_53 hdr hrc hz) hf (fun v33 μ34 H locs hf Y => ?_)
              refine lv_aload_n (pc := 57) hx hb dX8_times_57 rfl (lv_at hl 1 rfl) ?_
              refine lv_iload_n (pc := 58) hx hb dX8_times_58 rfl (lv_at hl 0 rfl) ?_
              refine lv_iconst (pc := 59) (v := 0) hx hb dX8_times_59 (by decide) ?_
              refine g_callVv (pc := 60) E Y 53 S_53 V_8 o_X8_lays q_671 [.int v28, .int 0] rfl rfl (hR_of (by omega) (by decide)) hl.1 (rest := []) rfl (Nat.le_of_ble_eq_true rfl) dX8_times_60 (fun z hz => m_X8_lays_53 hz) hf (fun v35 μ36 H locs hf Y => ?_)
              refine lv_goto (pc := 63) (tgt := 4) hx hb dX8_times_63 (by decide) ?_
              exact ih _ _ _ _ hf Y (lv_sub hl [1] rfl)
  unfold f_X8_times_53 at hf
  refine lv_aload_n (pc := 0) hx hb dX8_times_0 rfl (lv_at hl 0 rfl) ?_
  refine g_callVv (pc := 1) E Y 53 S_53 V_8 o_X8_one q_672 [] rfl rfl (hR_of (by omega) (by decide)) hl.1 (rest := []) rfl (Nat.le_of_ble_eq_true rfl) dX8_times_1 (fun z hz => m_X8_one_53 hdr hrc hz) hf (fun v1 μ2 H locs hf Y => ?_)
  exact hL_4 1000 _ _ _ _ hf Y (lv_sub hl [0] rfl)
def fb_X8_sum_53_L4 (rc : Int32 → Mem → Res) (bk : Mem → Res)  (σ : Mem) : Res := nm (σ 53 14) fun (v3 : Int32) => if v3 = 0 then (bd (f_X8_look_53 σ) fun v4 μ5 => if v4 = 43 then (bd (f_X8_look_53 μ5) fun v6 μ7 => nm (μ7 53 12) fun (v8 : Int32) => nm (v8 + 1) fun (v9 : Int32) => nm (mset μ7 53 12 v9) fun (μ10 : Mem) => bd (f_X8_times_53 rc μ10) fun v11 μ12 => bd (f_X8_lays_53 v6 0 μ12) fun v13 μ14 => bk μ14) else (bd (f_X8_look_53 μ5) fun v15 μ16 => if v15 = 45 then (bd (f_X8_look_53 μ16) fun v17 μ18 => nm (μ18 53 12) fun (v19 : Int32) => nm (v19 + 1) fun (v20 : Int32) => nm (mset μ18 53 12 v20) fun (μ21 : Mem) => bd (f_X8_times_53 rc μ21) fun v22 μ23 => bd (f_X8_lays_53 v17 0 μ23) fun v24 μ25 => bk μ25) else (some (0, μ16)))) else (some (0, σ))
def f_X8_sum_53_L4 (rc : Int32 → Mem → Res) : Nat → Mem → Res
  | 0, _ => none
  | n + 1, σ => fb_X8_sum_53_L4 rc (f_X8_sum_53_L4 rc n)  σ
def f_X8_sum_53 (rc : Int32 → Mem → Res) (σ : Mem) : Res := bd (f_X8_times_53 rc σ) fun v1 μ2 => f_X8_sum_53_L4 rc 1000 μ2
set_option maxHeartbeats 4000000 in
set_option maxRecDepth 100000 in
theorem m_X8_sum_53 {l : Launch} {σ : Mem} {Z : Int32 × Mem}  {dr : Nat} (hdr : 10 ≤ dr) {rc : Int32 → Mem → Res} (hrc : ∀ (b0 : Int32) (τ : Mem) (Zr : Int32 × Mem), rc b0 τ = some Zr → CV l yX8_opens cX8_opens 2 dr (fun ad => [.ref (ad 53), .int b0]) τ Zr) (hf : f_X8_sum_53 rc σ = some Z) : CV l yX8_sum cX8_sum 2 (dr + 3) (fun ad => [.ref (ad 53)]) σ Z := by
  refine g_openV RX8 (by decide) rfl (fun _ => Nat.le_of_ble_eq_true rfl) (fun p e s m below meth c D cI cB ad st ls E Y hr hk hl => ?_)
  have hx := E.1.1
  have hb := E.1.2.1
  have hl : lv_has ls 2 [(0, .ref (ad 53))] := hl
  have hL_4 : ∀ (n : Nat)  (σ : Mem) (H : Heap) (locs : List Loc) (ls : Array Slot), f_X8_sum_53_L4 rc n  σ = some Z → Wo D cI cB ad (AA ad) σ s H locs → lv_has ls 2 [(0, .ref (ad 53))] → W p l e (rmd (dr + 3)) s m ([.ref (ad 53)] : List Value).toArray below meth c H locs 0 0 (QV_ below D cI cB ad st Z ([.ref (ad 53)] : List Value).toArray s) (F0 m 4 ls []) := by
    intro n
    induction n with
    | zero =>
      intro  σ H locs ls hf
      cases (show (none : Res) = some Z from hf)
    | succ n ih =>
      intro  σ H locs ls hf Y hl
      have hf : fb_X8_sum_53_L4 rc (f_X8_sum_53_L4 rc n)  σ = some Z := hf
      unfold fb_X8_sum_53_L4 at hf
      refine lv_aload_n (pc := 4) hx hb dX8_sum_4 rfl (lv_at hl 0 rfl) ?_
      refine g_geti (pc := 5) E Y 53 14 S_53 rfl V_8 (by decide) AL_X8 q_344 dX8_sum_5 hf (fun v3 hf => ?_)
      refine g_if_ne (pc := 8) (tgt := 57) E dX8_sum_8 (by decide) hf (fun hf => ?_) (fun hf => ?_)
      · exact g_vret (pc := 57) E Y hr hk dX8_sum_57 hf
      · refine lv_aload_n (pc := 11) hx hb dX8_sum_11 rfl (lv_at hl 0 rfl) ?_
        refine g_callVi (pc := 12) E Y 53 S_53 V_8 o_X8_look q_670 [] rfl rfl (hR_of (by omega) (by decide)) hl.1 (rest := []) rfl (Nat.le_of_ble_eq_true rfl) dX8_sum_12 (fun z hz => m_X8_look_53 hz) hf (fun v4 μ5 H locs hf Y => ?_)
        refine lv_bipush (pc := 15) (v := 43) hx hb dX8_sum_15 (by decide) ?_
        refine g_icmp_eq (pc := 17) (tgt := 29) E dX8_sum_17 (by decide) hf (fun hf => ?_) (fun hf => ?_)
        · refine lv_aload_n (pc := 29) hx hb dX8_sum_29 rfl (lv_at hl 0 rfl) ?_
          refine g_callVi (pc := 30) E Y 53 S_53 V_8 o_X8_look q_670 [] rfl rfl (hR_of (by omega) (by decide)) hl.1 (rest := []) rfl (Nat.le_of_ble_eq_true rfl) dX8_sum_30 (fun z hz => m_X8_look_53 hz) hf (fun v6 μ7 H locs hf Y => ?_)
          refine lv_istore_n (pc := 33) (lv' := [(1, .int v6), (0, .ref (ad 53))]) hx hb dX8_sum_33 rfl hl (by decide) rfl (fun ls hl => ?_)
          refine lv_aload_n (pc := 34) hx hb dX8_sum_34 rfl (lv_at hl 1 rfl) ?_
          refine lv_dup (pc := 35) hx hb dX8_sum_35 rfl ?_
          refine g_geti (pc := 36) E Y 53 12 S_53 rfl V_8 (by decide) AL_X8 q_340 dX8_sum_36 hf (fun v8 hf => ?_)
          refine lv_iconst (pc := 39) (v := 1) hx hb dX8_sum_39 (by decide) ?_
          refine g_iadd (pc := 40) E dX8_sum_40 hf (fun v9 hf => ?_)
          refine g_put (pc := 41) E Y 53 12 S_53 rfl V_8 (by decide) AL_X8 tyX8 tyX8_ok nmX8 q_340 rfl rfl rfl dX8_sum_41 hf (fun μ10 H locs hf Y => ?_)
          refine lv_aload_n (pc := 44) hx hb dX8_sum_44 rfl (lv_at hl 1 rfl) ?_
          refine g_callVv (pc := 45) E Y 53 S_53 V_8 o_X8_times q_677 [] rfl rfl (hR_of (by omega) (by decide)) hl.1 (rest := []) rfl (Nat.le_of_ble_eq_true rfl) dX8_sum_45 (fun z hz => m_X8_times_53 hdr hrc hz) hf (fun v11 μ12 H locs hf Y => ?_)
          refine lv_aload_n (pc := 48) hx hb dX8_sum_48 rfl (lv_at hl 1 rfl) ?_
          refine lv_iload_n (pc := 49) hx hb dX8_sum_49 rfl (lv_at hl 0 rfl) ?_
          refine lv_iconst (pc := 50) (v := 0) hx hb dX8_sum_50 (by decide) ?_
          refine g_callVv (pc := 51) E Y 53 S_53 V_8 o_X8_lays q_671 [.int v6, .int 0] rfl rfl (hR_of (by omega) (by decide)) hl.1 (rest := []) rfl (Nat.le_of_ble_eq_true rfl) dX8_sum_51 (fun z hz => m_X8_lays_53 hz) hf (fun v13 μ14 H locs hf Y => ?_)
          refine lv_goto (pc := 54) (tgt := 4) hx hb dX8_sum_54 (by decide) ?_
          exact ih _ _ _ _ hf Y (lv_sub hl [1] rfl)
        · refine lv_aload_n (pc := 20) hx hb dX8_sum_20 rfl (lv_at hl 0 rfl) ?_
          refine g_callVi (pc := 21) E Y 53 S_53 V_8 o_X8_look q_670 [] rfl rfl (hR_of (by omega) (by decide)) hl.1 (rest := []) rfl (Nat.le_of_ble_eq_true rfl) dX8_sum_21 (fun z hz => m_X8_look_53 hz) hf (fun v15 μ16 H locs hf Y => ?_)
          refine lv_bipush (pc := 24) (v := 45) hx hb dX8_sum_24 (by decide) ?_
          refine g_icmp_ne (pc := 26) (tgt := 57) E dX8_sum_26 (by decide) hf (fun hf => ?_) (fun hf => ?_)
          · exact g_vret (pc := 57) E Y hr hk dX8_sum_57 hf
          · refine lv_aload_n (pc := 29) hx hb dX8_sum_29 rfl (lv_at hl 0 rfl) ?_
            refine g_callVi (pc := 30) E Y 53 S_53 V_8 o_X8_look q_670 [] rfl rfl (hR_of (by omega) (by decide)) hl.1 (rest := []) rfl (Nat.le_of_ble_eq_true rfl) dX8_sum_30 (fun z hz => m_X8_look_53 hz) hf (fun v17 μ18 H locs hf Y => ?_)
            refine lv_istore_n (pc := 33) (lv' := [(1, .int v17), (0, .ref (ad 53))]) hx hb dX8_sum_33 rfl hl (by decide) rfl (fun ls hl => ?_)
            refine lv_aload_n (pc := 34) hx hb dX8_sum_34 rfl (lv_at hl 1 rfl) ?_
            refine lv_dup (pc := 35) hx hb dX8_sum_35 rfl ?_
            refine g_geti (pc := 36) E Y 53 12 S_53 rfl V_8 (by decide) AL_X8 q_340 dX8_sum_36 hf (fun v19 hf => ?_)
            refine lv_iconst (pc := 39) (v := 1) hx hb dX8_sum_39 (by decide) ?_
            refine g_iadd (pc := 40) E dX8_sum_40 hf (fun v20 hf => ?_)
            refine g_put (pc := 41) E Y 53 12 S_53 rfl V_8 (by decide) AL_X8 tyX8 tyX8_ok nmX8 q_340 rfl rfl rfl dX8_sum_41 hf (fun μ21 H locs hf Y => ?_)
            refine lv_aload_n (pc := 44) hx hb dX8_sum_44 rfl (lv_at hl 1 rfl) ?_
            refine g_callVv (pc := 45) E Y 53 S_53 V_8 o_X8_times q_677 [] rfl rfl (hR_of (by omega) (by decide)) hl.1 (rest := []) rfl (Nat.le_of_ble_eq_true rfl) dX8_sum_45 (fun z hz => m_X8_times_53 hdr hrc hz) hf (fun v22 μ23 H locs hf Y => ?_)
            refine lv_aload_n (pc := 48) hx hb dX8_sum_48 rfl (lv_at hl 1 rfl) ?_
            refine lv_iload_n (pc := 49) hx hb dX8_sum_49 rfl (lv_at hl 0 rfl) ?_
            refine lv_iconst (pc := 50) (v := 0) hx hb dX8_sum_50 (by decide) ?_
            refine g_callVv (pc := 51) E Y 53 S_53 V_8 o_X8_lays q_671 [.int v17, .int 0] rfl rfl (hR_of (by omega) (by decide)) hl.1 (rest := []) rfl (Nat.le_of_ble_eq_true rfl) dX8_sum_51 (fun z hz => m_X8_lays_53 hz) hf (fun v24 μ25 H locs hf Y => ?_)
            refine lv_goto (pc := 54) (tgt := 4) hx hb dX8_sum_54 (by decide) ?_
            exact ih _ _ _ _ hf Y (lv_sub hl [1] rfl)
  unfold f_X8_sum_53 at hf
  refine lv_aload_n (pc := 0) hx hb dX8_sum_0 rfl (lv_at hl 0 rfl) ?_
  refine g_callVv (pc := 1) E Y 53 S_53 V_8 o_X8_times q_677 [] rfl rfl (hR_of (by omega) (by decide)) hl.1 (rest := []) rfl (Nat.le_of_ble_eq_true rfl) dX8_sum_1 (fun z hz => m_X8_times_53 hdr hrc hz) hf (fun v1 μ2 H locs hf Y => ?_)
  exact hL_4 1000 _ _ _ _ hf Y (lv_sub hl [0] rfl)
def f_X8_compares_53_L34 (rc : Int32 → Mem → Res) (x1 : Int32) (σ : Mem) : Res := nm (σ 53 12) fun (v6 : Int32) => nm (v6 + 1) fun (v7 : Int32) => nm (mset σ 53 12 v7) fun (μ8 : Mem) => bd (f_X8_sum_53 rc μ8) fun v9 μ10 => bd (f_X8_lays_53 x1 0 μ10) fun v11 μ12 => some (0, μ12)
def f_X8_compares_53 (rc : Int32 → Mem → Res) (σ : Mem) : Res := bd (f_X8_sum_53 rc σ) fun v1 μ2 => bd (f_X8_look_53 μ2) fun v3 μ4 => nm (μ4 53 14) fun (v5 : Int32) => if v5 = 0 then (if v3 = 60 then (f_X8_compares_53_L34 rc v3 μ4) else (if v3 = 61 then (f_X8_compares_53_L34 rc v3 μ4) else (if v3 = 62 then (f_X8_compares_53_L34 rc v3 μ4) else (some (0, μ4))))) else (some (0, μ4))
set_option maxHeartbeats 4000000 in
set_option maxRecDepth 100000 in
theorem m_X8_compares_53 {l : Launch} {σ : Mem} {Z : Int32 × Mem}  {dr : Nat} (hdr : 10 ≤ dr) {rc : Int32 → Mem → Res} (hrc : ∀ (b0 : Int32) (τ : Mem) (Zr : Int32 × Mem), rc b0 τ = some Zr → CV l yX8_opens cX8_opens 2 dr (fun ad => [.ref (ad 53), .int b0]) τ Zr) (hf : f_X8_compares_53 rc σ = some Z) : CV l yX8_compares cX8_compares 2 (dr + 4) (fun ad => [.ref (ad 53)]) σ Z := by
  refine g_openV RX8 (by decide) rfl (fun _ => Nat.le_of_ble_eq_true rfl) (fun p e s m below meth c D cI cB ad st ls E Y hr hk hl => ?_)
  have hx := E.1.1
  have hb := E.1.2.1
  have hl : lv_has ls 2 [(0, .ref (ad 53))] := hl
  have hL_34 : ∀ (x1 : Int32) (σ : Mem) (H : Heap) (locs : List Loc) (ls : Array Slot), f_X8_compares_53_L34 rc x1 σ = some Z → Wo D cI cB ad (AA ad) σ s H locs → lv_has ls 2 [(0, .ref (ad 53)), (1, .int x1)] → W p l e (rmd (dr + 4)) s m ([.ref (ad 53)] : List Value).toArray below meth c H locs 0 0 (QV_ below D cI cB ad st Z ([.ref (ad 53)] : List Value).toArray s) (F0 m 34 ls []) := by
    intro x1 σ H locs ls hf Y hl
    unfold f_X8_compares_53_L34 at hf
    refine lv_aload_n (pc := 34) hx hb dX8_compares_34 rfl (lv_at hl 0 rfl) ?_
    refine lv_dup (pc := 35) hx hb dX8_compares_35 rfl ?_
    refine g_geti (pc := 36) E Y 53 12 S_53 rfl V_8 (by decide) AL_X8 q_340 dX8_compares_36 hf (fun v6 hf => ?_)
    refine lv_iconst (pc := 39) (v := 1) hx hb dX8_compares_39 (by decide) ?_
    refine g_iadd (pc := 40) E dX8_compares_40 hf (fun v7 hf => ?_)
    refine g_put (pc := 41) E Y 53 12 S_53 rfl V_8 (by decide) AL_X8 tyX8 tyX8_ok nmX8 q_340 rfl rfl rfl dX8_compares_41 hf (fun μ8 H locs hf Y => ?_)
    refine lv_aload_n (pc := 44) hx hb dX8_compares_44 rfl (lv_at hl 0 rfl) ?_
    refine g_callVv (pc := 45) E Y 53 S_53 V_8 o_X8_sum q_678 [] rfl rfl (hR_of (by omega) (by decide)) hl.1 (rest := []) rfl (Nat.le_of_ble_eq_true rfl) dX8_compares_45 (fun z hz => m_X8_sum_53 hdr hrc hz) hf (fun v9 μ10 H locs hf Y => ?_)
    refine lv_aload_n (pc := 48) hx hb dX8_compares_48 rfl (lv_at hl 0 rfl) ?_
    refine lv_iload_n (pc := 49) hx hb dX8_compares_49 rfl (lv_at hl 1 rfl) ?_
    refine lv_iconst (pc := 50) (v := 0) hx hb dX8_compares_50 (by decide) ?_
    refine g_callVv (pc := 51) E Y 53 S_53 V_8 o_X8_lays q_671 [.int x1, .int 0] rfl rfl (hR_of (by omega) (by decide)) hl.1 (rest := []) rfl (Nat.le_of_ble_eq_true rfl) dX8_compares_51 (fun z hz => m_X8_lays_53 hz) hf (fun v11 μ12 H locs hf Y => ?_)
    exact g_vret (pc := 54) E Y hr hk dX8_compares_54 hf
  unfold f_X8_compares_53 at hf
  refine lv_aload_n (pc := 0) hx hb dX8_compares_0 rfl (lv_at hl 0 rfl) ?_
  refine g_callVv (pc := 1) E Y 53 S_53 V_8 o_X8_sum q_678 [] rfl rfl (hR_of (by omega) (by decide)) hl.1 (rest := []) rfl (Nat.le_of_ble_eq_true rfl) dX8_compares_1 (fun z hz => m_X8_sum_53 hdr hrc hz) hf (fun v1 μ2 H locs hf Y => ?_)
  refine lv_aload_n (pc := 4) hx hb dX8_compares_4 rfl (lv_at hl 0 rfl) ?_
  refine g_callVi (pc := 5) E Y 53 S_53 V_8 o_X8_look q_670 [] rfl rfl (hR_of (by omega) (by decide)) hl.1 (rest := []) rfl (Nat.le_of_ble_eq_true rfl) dX8_compares_5 (fun z hz => m_X8_look_53 hz) hf (fun v3 μ4 H locs hf Y => ?_)
  refine lv_istore_n (pc := 8) (lv' := [(1, .int v3), (0, .ref (ad 53))]) hx hb dX8_compares_8 rfl hl (by decide) rfl (fun ls hl => ?_)
  refine lv_aload_n (pc := 9) hx hb dX8_compares_9 rfl (lv_at hl 1 rfl) ?_
  refine g_geti (pc := 10) E Y 53 14 S_53 rfl V_8 (by decide) AL_X8 q_344 dX8_compares_10 hf (fun v5 hf => ?_)
  refine g_if_ne (pc := 13) (tgt := 54) E dX8_compares_13 (by decide) hf (fun hf => ?_) (fun hf => ?_)
  · exact g_vret (pc := 54) E Y hr hk dX8_compares_54 hf
  · refine lv_iload_n (pc := 16) hx hb dX8_compares_16 rfl (lv_at hl 0 rfl) ?_
    refine lv_bipush (pc := 17) (v := 60) hx hb dX8_compares_17 (by decide) ?_
    refine g_icmp_eq (pc := 19) (tgt := 34) E dX8_compares_19 (by decide) hf (fun hf => ?_) (fun hf => ?_)
    · exact hL_34 _ _ _ _ _ hf Y (lv_sub hl [1, 0] rfl)
    · refine lv_iload_n (pc := 22) hx hb dX8_compares_22 rfl (lv_at hl 0 rfl) ?_
      refine lv_bipush (pc := 23) (v := 61) hx hb dX8_compares_23 (by decide) ?_
      refine g_icmp_eq (pc := 25) (tgt := 34) E dX8_compares_25 (by decide) hf (fun hf => ?_) (fun hf => ?_)
      · exact hL_34 _ _ _ _ _ hf Y (lv_sub hl [1, 0] rfl)
      · refine lv_iload_n (pc := 28) hx hb dX8_compares_28 rfl (lv_at hl 0 rfl) ?_
        refine lv_bipush (pc := 29) (v := 62) hx hb dX8_compares_29 (by decide) ?_
        refine g_icmp_ne (pc := 31) (tgt := 54) E dX8_compares_31 (by decide) hf (fun hf => ?_) (fun hf => ?_)
        · exact g_vret (pc := 54) E Y hr hk dX8_compares_54 hf
        · exact hL_34 _ _ _ _ _ hf Y (lv_sub hl [1, 0] rfl)
def fb_X8_all_53_L4 (rc : Int32 → Mem → Res) (bk : Mem → Res)  (σ : Mem) : Res := nm (σ 53 14) fun (v3 : Int32) => if v3 = 0 then (bd (f_X8_look_53 σ) fun v4 μ5 => if v4 = 38 then (nm (μ5 53 12) fun (v6 : Int32) => nm (v6 + 1) fun (v7 : Int32) => nm (mset μ5 53 12 v7) fun (μ8 : Mem) => bd (f_X8_compares_53 rc μ8) fun v9 μ10 => bd (f_X8_lays_53 38 0 μ10) fun v11 μ12 => bk μ12) else (some (0, μ5))) else (some (0, σ))
def f_X8_all_53_L4 (rc : Int32 → Mem → Res) : Nat → Mem → Res
  | 0, _ => none
  | n + 1, σ => fb_X8_all_53_L4 rc (f_X8_all_53_L4 rc n)  σ
def f_X8_all_53 (rc : Int32 → Mem → Res) (σ : Mem) : Res := bd (f_X8_compares_53 rc σ) fun v1 μ2 => f_X8_all_53_L4 rc 1000 μ2
set_option maxHeartbeats 4000000 in
set_option maxRecDepth 100000 in
theorem m_X8_all_53 {l : Launch} {σ : Mem} {Z : Int32 × Mem}  {dr : Nat} (hdr : 10 ≤ dr) {rc : Int32 → Mem → Res} (hrc : ∀ (b0 : Int32) (τ : Mem) (Zr : Int32 × Mem), rc b0 τ = some Zr → CV l yX8_opens cX8_opens 2 dr (fun ad => [.ref (ad 53), .int b0]) τ Zr) (hf : f_X8_all_53 rc σ = some Z) : CV l yX8_all cX8_all 1 (dr + 5) (fun ad => [.ref (ad 53)]) σ Z := by
  refine g_openV RX8 (by decide) rfl (fun _ => Nat.le_of_ble_eq_true rfl) (fun p e s m below meth c D cI cB ad st ls E Y hr hk hl => ?_)
  have hx := E.1.1
  have hb := E.1.2.1
  have hl : lv_has ls 1 [(0, .ref (ad 53))] := hl
  have hL_4 : ∀ (n : Nat)  (σ : Mem) (H : Heap) (locs : List Loc) (ls : Array Slot), f_X8_all_53_L4 rc n  σ = some Z → Wo D cI cB ad (AA ad) σ s H locs → lv_has ls 1 [(0, .ref (ad 53))] → W p l e (rmd (dr + 5)) s m ([.ref (ad 53)] : List Value).toArray below meth c H locs 0 0 (QV_ below D cI cB ad st Z ([.ref (ad 53)] : List Value).toArray s) (F0 m 4 ls []) := by
    intro n
    induction n with
    | zero =>
      intro  σ H locs ls hf
      cases (show (none : Res) = some Z from hf)
    | succ n ih =>
      intro  σ H locs ls hf Y hl
      have hf : fb_X8_all_53_L4 rc (f_X8_all_53_L4 rc n)  σ = some Z := hf
      unfold fb_X8_all_53_L4 at hf
      refine lv_aload_n (pc := 4) hx hb dX8_all_4 rfl (lv_at hl 0 rfl) ?_
      refine g_geti (pc := 5) E Y 53 14 S_53 rfl V_8 (by decide) AL_X8 q_344 dX8_all_5 hf (fun v3 hf => ?_)
      refine g_if_ne (pc := 8) (tgt := 44) E dX8_all_8 (by decide) hf (fun hf => ?_) (fun hf => ?_)
      · exact g_vret (pc := 44) E Y hr hk dX8_all_44 hf
      · refine lv_aload_n (pc := 11) hx hb dX8_all_11 rfl (lv_at hl 0 rfl) ?_
        refine g_callVi (pc := 12) E Y 53 S_53 V_8 o_X8_look q_670 [] rfl rfl (hR_of (by omega) (by decide)) hl.1 (rest := []) rfl (Nat.le_of_ble_eq_true rfl) dX8_all_12 (fun z hz => m_X8_look_53 hz) hf (fun v4 μ5 H locs hf Y => ?_)
        refine lv_bipush (pc := 15) (v := 38) hx hb dX8_all_15 (by decide) ?_
        refine g_icmp_ne (pc := 17) (tgt := 44) E dX8_all_17 (by decide) hf (fun hf => ?_) (fun hf => ?_)
        · exact g_vret (pc := 44) E Y hr hk dX8_all_44 hf
        · refine lv_aload_n (pc := 20) hx hb dX8_all_20 rfl (lv_at hl 0 rfl) ?_
          refine lv_dup (pc := 21) hx hb dX8_all_21 rfl ?_
          refine g_geti (pc := 22) E Y 53 12 S_53 rfl V_8 (by decide) AL_X8 q_340 dX8_all_22 hf (fun v6 hf => ?_)
          refine lv_iconst (pc := 25) (v := 1) hx hb dX8_all_25 (by decide) ?_
          refine g_iadd (pc := 26) E dX8_all_26 hf (fun v7 hf => ?_)
          refine g_put (pc := 27) E Y 53 12 S_53 rfl V_8 (by decide) AL_X8 tyX8 tyX8_ok nmX8 q_340 rfl rfl rfl dX8_all_27 hf (fun μ8 H locs hf Y => ?_)
          refine lv_aload_n (pc := 30) hx hb dX8_all_30 rfl (lv_at hl 0 rfl) ?_
          refine g_callVv (pc := 31) E Y 53 S_53 V_8 o_X8_compares q_679 [] rfl rfl (hR_of (by omega) (by decide)) hl.1 (rest := []) rfl (Nat.le_of_ble_eq_true rfl) dX8_all_31 (fun z hz => m_X8_compares_53 hdr hrc hz) hf (fun v9 μ10 H locs hf Y => ?_)
          refine lv_aload_n (pc := 34) hx hb dX8_all_34 rfl (lv_at hl 0 rfl) ?_
          refine lv_bipush (pc := 35) (v := 38) hx hb dX8_all_35 (by decide) ?_
          refine lv_iconst (pc := 37) (v := 0) hx hb dX8_all_37 (by decide) ?_
          refine g_callVv (pc := 38) E Y 53 S_53 V_8 o_X8_lays q_671 [.int 38, .int 0] rfl rfl (hR_of (by omega) (by decide)) hl.1 (rest := []) rfl (Nat.le_of_ble_eq_true rfl) dX8_all_38 (fun z hz => m_X8_lays_53 hz) hf (fun v11 μ12 H locs hf Y => ?_)
          refine lv_goto (pc := 41) (tgt := 4) hx hb dX8_all_41 (by decide) ?_
          exact ih _ _ _ _ hf Y (lv_sub hl [0] rfl)
  unfold f_X8_all_53 at hf
  refine lv_aload_n (pc := 0) hx hb dX8_all_0 rfl (lv_at hl 0 rfl) ?_
  refine g_callVv (pc := 1) E Y 53 S_53 V_8 o_X8_compares q_679 [] rfl rfl (hR_of (by omega) (by decide)) hl.1 (rest := []) rfl (Nat.le_of_ble_eq_true rfl) dX8_all_1 (fun z hz => m_X8_compares_53 hdr hrc hz) hf (fun v1 μ2 H locs hf Y => ?_)
  exact hL_4 1000 _ _ _ _ hf Y (lv_sub hl [0] rfl)
def fb_X8_any_53_L4 (rc : Int32 → Mem → Res) (bk : Mem → Res)  (σ : Mem) : Res := nm (σ 53 14) fun (v3 : Int32) => if v3 = 0 then (bd (f_X8_look_53 σ) fun v4 μ5 => if v4 = 124 then (nm (μ5 53 12) fun (v6 : Int32) => nm (v6 + 1) fun (v7 : Int32) => nm (mset μ5 53 12 v7) fun (μ8 : Mem) => bd (f_X8_all_53 rc μ8) fun v9 μ10 => bd (f_X8_lays_53 124 0 μ10) fun v11 μ12 => bk μ12) else (some (0, μ5))) else (some (0, σ))
def f_X8_any_53_L4 (rc : Int32 → Mem → Res) : Nat → Mem → Res
  | 0, _ => none
  | n + 1, σ => fb_X8_any_53_L4 rc (f_X8_any_53_L4 rc n)  σ
def f_X8_any_53 (rc : Int32 → Mem → Res) (σ : Mem) : Res := bd (f_X8_all_53 rc σ) fun v1 μ2 => f_X8_any_53_L4 rc 1000 μ2
set_option maxHeartbeats 4000000 in
set_option maxRecDepth 100000 in
theorem m_X8_any_53 {l : Launch} {σ : Mem} {Z : Int32 × Mem}  {dr : Nat} (hdr : 10 ≤ dr) {rc : Int32 → Mem → Res} (hrc : ∀ (b0 : Int32) (τ : Mem) (Zr : Int32 × Mem), rc b0 τ = some Zr → CV l yX8_opens cX8_opens 2 dr (fun ad => [.ref (ad 53), .int b0]) τ Zr) (hf : f_X8_any_53 rc σ = some Z) : CV l yX8_any cX8_any 1 (dr + 6) (fun ad => [.ref (ad 53)]) σ Z := by
  refine g_openV RX8 (by decide) rfl (fun _ => Nat.le_of_ble_eq_true rfl) (fun p e s m below meth c D cI cB ad st ls E Y hr hk hl => ?_)
  have hx := E.1.1
  have hb := E.1.2.1
  have hl : lv_has ls 1 [(0, .ref (ad 53))] := hl
  have hL_4 : ∀ (n : Nat)  (σ : Mem) (H : Heap) (locs : List Loc) (ls : Array Slot), f_X8_any_53_L4 rc n  σ = some Z → Wo D cI cB ad (AA ad) σ s H locs → lv_has ls 1 [(0, .ref (ad 53))] → W p l e (rmd (dr + 6)) s m ([.ref (ad 53)] : List Value).toArray below meth c H locs 0 0 (QV_ below D cI cB ad st Z ([.ref (ad 53)] : List Value).toArray s) (F0 m 4 ls []) := by
    intro n
    induction n with
    | zero =>
      intro  σ H locs ls hf
      cases (show (none : Res) = some Z from hf)
    | succ n ih =>
      intro  σ H locs ls hf Y hl
      have hf : fb_X8_any_53_L4 rc (f_X8_any_53_L4 rc n)  σ = some Z := hf
      unfold fb_X8_any_53_L4 at hf
      refine lv_aload_n (pc := 4) hx hb dX8_any_4 rfl (lv_at hl 0 rfl) ?_
      refine g_geti (pc := 5) E Y 53 14 S_53 rfl V_8 (by decide) AL_X8 q_344 dX8_any_5 hf (fun v3 hf => ?_)
      refine g_if_ne (pc := 8) (tgt := 44) E dX8_any_8 (by decide) hf (fun hf => ?_) (fun hf => ?_)
      · exact g_vret (pc := 44) E Y hr hk dX8_any_44 hf
      · refine lv_aload_n (pc := 11) hx hb dX8_any_11 rfl (lv_at hl 0 rfl) ?_
        refine g_callVi (pc := 12) E Y 53 S_53 V_8 o_X8_look q_670 [] rfl rfl (hR_of (by omega) (by decide)) hl.1 (rest := []) rfl (Nat.le_of_ble_eq_true rfl) dX8_any_12 (fun z hz => m_X8_look_53 hz) hf (fun v4 μ5 H locs hf Y => ?_)
        refine lv_bipush (pc := 15) (v := 124) hx hb dX8_any_15 (by decide) ?_
        refine g_icmp_ne (pc := 17) (tgt := 44) E dX8_any_17 (by decide) hf (fun hf => ?_) (fun hf => ?_)
        · exact g_vret (pc := 44) E Y hr hk dX8_any_44 hf
        · refine lv_aload_n (pc := 20) hx hb dX8_any_20 rfl (lv_at hl 0 rfl) ?_
          refine lv_dup (pc := 21) hx hb dX8_any_21 rfl ?_
          refine g_geti (pc := 22) E Y 53 12 S_53 rfl V_8 (by decide) AL_X8 q_340 dX8_any_22 hf (fun v6 hf => ?_)
          refine lv_iconst (pc := 25) (v := 1) hx hb dX8_any_25 (by decide) ?_
          refine g_iadd (pc := 26) E dX8_any_26 hf (fun v7 hf => ?_)
          refine g_put (pc := 27) E Y 53 12 S_53 rfl V_8 (by decide) AL_X8 tyX8 tyX8_ok nmX8 q_340 rfl rfl rfl dX8_any_27 hf (fun μ8 H locs hf Y => ?_)
          refine lv_aload_n (pc := 30) hx hb dX8_any_30 rfl (lv_at hl 0 rfl) ?_
          refine g_callVv (pc := 31) E Y 53 S_53 V_8 o_X8_all q_680 [] rfl rfl (hR_of (by omega) (by decide)) hl.1 (rest := []) rfl (Nat.le_of_ble_eq_true rfl) dX8_any_31 (fun z hz => m_X8_all_53 hdr hrc hz) hf (fun v9 μ10 H locs hf Y => ?_)
          refine lv_aload_n (pc := 34) hx hb dX8_any_34 rfl (lv_at hl 0 rfl) ?_
          refine lv_bipush (pc := 35) (v := 124) hx hb dX8_any_35 (by decide) ?_
          refine lv_iconst (pc := 37) (v := 0) hx hb dX8_any_37 (by decide) ?_
          refine g_callVv (pc := 38) E Y 53 S_53 V_8 o_X8_lays q_671 [.int 124, .int 0] rfl rfl (hR_of (by omega) (by decide)) hl.1 (rest := []) rfl (Nat.le_of_ble_eq_true rfl) dX8_any_38 (fun z hz => m_X8_lays_53 hz) hf (fun v11 μ12 H locs hf Y => ?_)
          refine lv_goto (pc := 41) (tgt := 4) hx hb dX8_any_41 (by decide) ?_
          exact ih _ _ _ _ hf Y (lv_sub hl [0] rfl)
  unfold f_X8_any_53 at hf
  refine lv_aload_n (pc := 0) hx hb dX8_any_0 rfl (lv_at hl 0 rfl) ?_
  refine g_callVv (pc := 1) E Y 53 S_53 V_8 o_X8_all q_680 [] rfl rfl (hR_of (by omega) (by decide)) hl.1 (rest := []) rfl (Nat.le_of_ble_eq_true rfl) dX8_any_1 (fun z hz => m_X8_all_53 hdr hrc hz) hf (fun v1 μ2 H locs hf Y => ?_)
  exact hL_4 1000 _ _ _ _ hf Y (lv_sub hl [0] rfl)
def fb_X8_opens_53 (rc : Int32 → Mem → Res) (a0 : Int32) (σ : Mem) : Res := nm (σ 53 13) fun (v1 : Int32) => if v1 = 5 then (gb 1 <| nm (mset σ 53 14 1) fun (μ59 : Mem) => some (0, μ59)) else (nm (σ 53 13) fun (v2 : Int32) => nm (v2 + 1) fun (v3 : Int32) => nm (mset σ 53 13 v3) fun (μ4 : Mem) => nm (μ4 53 12) fun (v5 : Int32) => nm (v5 + 1) fun (v6 : Int32) => nm (mset μ4 53 12 v6) fun (μ7 : Mem) => if a0 = 33 then (bd (f_X8_one_53 rc μ7) fun v52 μ53 => bd (f_X8_lays_53 3 0 μ53) fun v54 μ55 => nm (μ55 53 13) fun (v56 : Int32) => nm (v56 - 1) fun (v57 : Int32) => nm (mset μ55 53 13 v57) fun (μ58 : Mem) => some (0, μ58)) else (bd (f_X8_any_53 rc μ7) fun v8 μ9 => nm (μ9 53 14) fun (v10 : Int32) => if v10 = 0 then (bd (f_X8_look_53 μ9) fun v24 μ25 => if v24 = 41 then (gb 0 <| nm (mset μ25 53 14 0) fun (μ26 : Mem) => nm (μ26 53 12) fun (v27 : Int32) => nm (μ26 53 14) fun (v28 : Int32) => if v28 = 0 then (nm (v27 + 1) fun (v29 : Int32) => nm (mset μ26 53 12 v29) fun (μ30 : Mem) => nm (μ30 53 13) fun (v31 : Int32) => nm (v31 - 1) fun (v32 : Int32) => nm (mset μ30 53 13 v32) fun (μ33 : Mem) => some (0, μ33)) else (nm (v27 + 0) fun (v34 : Int32) => nm (mset μ26 53 12 v34) fun (μ35 : Mem) => nm (μ35 53 13) fun (v36 : Int32) => nm (v36 - 1) fun (v37 : Int32) => nm (mset μ35 53 13 v37) fun (μ38 : Mem) => some (0, μ38))) else (gb 1 <| nm (mset μ25 53 14 1) fun (μ39 : Mem) => nm (μ39 53 12) fun (v40 : Int32) => nm (μ39 53 14) fun (v41 : Int32) => if v41 = 0 then (nm (v40 + 1) fun (v42 : Int32) => nm (mset μ39 53 12 v42) fun (μ43 : Mem) => nm (μ43 53 13) fun (v44 : Int32) => nm (v44 - 1) fun (v45 : Int32) => nm (mset μ43 53 13 v45) fun (μ46 : Mem) => some (0, μ46)) else (nm (v40 + 0) fun (v47 : Int32) => nm (mset μ39 53 12 v47) fun (μ48 : Mem) => nm (μ48 53 13) fun (v49 : Int32) => nm (v49 - 1) fun (v50 : Int32) => nm (mset μ48 53 13 v50) fun (μ51 : Mem) => some (0, μ51)))) else (gb 1 <| nm (mset μ9 53 14 1) fun (μ11 : Mem) => nm (μ11 53 12) fun (v12 : Int32) => nm (μ11 53 14) fun (v13 : Int32) => if v13 = 0 then (nm (v12 + 1) fun (v14 : Int32) => nm (mset μ11 53 12 v14) fun (μ15 : Mem) => nm (μ15 53 13) fun (v16 : Int32) => nm (v16 - 1) fun (v17 : Int32) => nm (mset μ15 53 13 v17) fun (μ18 : Mem) => some (0, μ18)) else (nm (v12 + 0) fun (v19 : Int32) => nm (mset μ11 53 12 v19) fun (μ20 : Mem) => nm (μ20 53 13) fun (v21 : Int32) => nm (v21 - 1) fun (v22 : Int32) => nm (mset μ20 53 13 v22) fun (μ23 : Mem) => some (0, μ23)))))
set_option maxHeartbeats 4000000 in
set_option maxRecDepth 100000 in
theorem mb_X8_opens_53 {l : Launch} {σ : Mem} {Z : Int32 × Mem} {a0 : Int32} {dr : Nat} (hdr : 10 ≤ dr) {rc : Int32 → Mem → Res} (hrc : ∀ (b0 : Int32) (τ : Mem) (Zr : Int32 × Mem), rc b0 τ = some Zr → CV l yX8_opens cX8_opens 2 dr (fun ad => [.ref (ad 53), .int b0]) τ Zr) (hf : fb_X8_opens_53 rc a0 σ = some Z) : CV l yX8_opens cX8_opens 2 (dr + 7) (fun ad => [.ref (ad 53), .int a0]) σ Z := by
  refine g_openV RX8 (by decide) rfl (fun _ => Nat.le_of_ble_eq_true rfl) (fun p e s m below meth c D cI cB ad st ls E Y hr hk hl => ?_)
  have hx := E.1.1
  have hb := E.1.2.1
  have hl : lv_has ls 2 [(0, .ref (ad 53)), (1, .int a0)] := hl
  unfold fb_X8_opens_53 at hf
  refine lv_aload_n (pc := 0) hx hb dX8_opens_0 rfl (lv_at hl 0 rfl) ?_
  refine g_geti (pc := 1) E Y 53 13 S_53 rfl V_8 (by decide) AL_X8 q_345 dX8_opens_1 hf (fun v1 hf => ?_)
  refine lv_iconst (pc := 4) (v := 5) hx hb dX8_opens_4 (by decide) ?_
  refine g_icmp_ne (pc := 5) (tgt := 14) E dX8_opens_5 (by decide) hf (fun hf => ?_) (fun hf => ?_)
  · refine lv_aload_n (pc := 14) hx hb dX8_opens_14 rfl (lv_at hl 0 rfl) ?_
    refine lv_dup (pc := 15) hx hb dX8_opens_15 rfl ?_
    refine g_geti (pc := 16) E Y 53 13 S_53 rfl V_8 (by decide) AL_X8 q_345 dX8_opens_16 hf (fun v2 hf => ?_)
    refine lv_iconst (pc := 19) (v := 1) hx hb dX8_opens_19 (by decide) ?_
    refine g_iadd (pc := 20) E dX8_opens_20 hf (fun v3 hf => ?_)
    refine g_put (pc := 21) E Y 53 13 S_53 rfl V_8 (by decide) AL_X8 tyX8 tyX8_ok nmX8 q_345 rfl rfl rfl dX8_opens_21 hf (fun μ4 H locs hf Y => ?_)
    refine lv_aload_n (pc := 24) hx hb dX8_opens_24 rfl (lv_at hl 0 rfl) ?_
    refine lv_dup (pc := 25) hx hb dX8_opens_25 rfl ?_
    refine g_geti (pc := 26) E Y 53 12 S_53 rfl V_8 (by decide) AL_X8 q_340 dX8_opens_26 hf (fun v5 hf => ?_)
    refine lv_iconst (pc := 29) (v := 1) hx hb dX8_opens_29 (by decide) ?_
    refine g_iadd (pc := 30) E dX8_opens_30 hf (fun v6 hf => ?_)
    refine g_put (pc := 31) E Y 53 12 S_53 rfl V_8 (by decide) AL_X8 tyX8 tyX8_ok nmX8 q_340 rfl rfl rfl dX8_opens_31 hf (fun μ7 H locs hf Y => ?_)
    refine lv_iload_n (pc := 34) hx hb dX8_opens_34 rfl (lv_at hl 1 rfl) ?_
    refine lv_bipush (pc := 35) (v := 33) hx hb dX8_opens_35 (by decide) ?_
    refine g_icmp_ne (pc := 37) (tgt := 53) E dX8_opens_37 (by decide) hf (fun hf => ?_) (fun hf => ?_)
    · refine lv_aload_n (pc := 53) hx hb dX8_opens_53 rfl (lv_at hl 0 rfl) ?_
      refine g_callVv (pc := 54) E Y 53 S_53 V_8 o_X8_any q_673 [] rfl rfl (hR_of (by omega) (by decide)) hl.1 (rest := []) rfl (Nat.le_of_ble_eq_true rfl) dX8_opens_54 (fun z hz => m_X8_any_53 hdr hrc hz) hf (fun v8 μ9 H locs hf Y => ?_)
      refine lv_aload_n (pc := 57) hx hb dX8_opens_57 rfl (lv_at hl 0 rfl) ?_
      refine lv_aload_n (pc := 58) hx hb dX8_opens_58 rfl (lv_at hl 0 rfl) ?_
      refine g_geti (pc := 59) E Y 53 14 S_53 rfl V_8 (by decide) AL_X8 q_344 dX8_opens_59 hf (fun v10 hf => ?_)
      refine g_if_ne (pc := 62) (tgt := 74) E dX8_opens_62 (by decide) hf (fun hf => ?_) (fun hf => ?_)
      · refine lv_iconst (pc := 74) (v := 1) hx hb dX8_opens_74 (by decide) ?_
        refine lv_goto (pc := 75) (tgt := 79) hx hb dX8_opens_75 (by decide) ?_
        obtain ⟨h01, hf⟩ := gb_some hf
        refine g_put (pc := 79) E Y 53 14 S_53 rfl V_8 (by decide) AL_X8 tyX8 tyX8_ok nmX8 q_344 rfl (nar01 h01) (fit01 h01) dX8_opens_79 hf (fun μ11 H locs hf Y => ?_)
        refine lv_aload_n (pc := 82) hx hb dX8_opens_82 rfl (lv_at hl 0 rfl) ?_
        refine lv_dup (pc := 83) hx hb dX8_opens_83 rfl ?_
        refine g_geti (pc := 84) E Y 53 12 S_53 rfl V_8 (by decide) AL_X8 q_340 dX8_opens_84 hf (fun v12 hf => ?_)
        refine lv_aload_n (pc := 87) hx hb dX8_opens_87 rfl (lv_at hl 0 rfl) ?_
        refine g_geti (pc := 88) E Y 53 14 S_53 rfl V_8 (by decide) AL_X8 q_344 dX8_opens_88 hf (fun v13 hf => ?_)
        refine g_if_eq (pc := 91) (tgt := 98) E dX8_opens_91 (by decide) hf (fun hf => ?_) (fun hf => ?_)
        · refine lv_iconst (pc := 98) (v := 1) hx hb dX8_opens_98 (by decide) ?_
          refine g_iadd (pc := 99) E dX8_opens_99 hf (fun v14 hf => ?_)
          refine g_put (pc := 100) E Y 53 12 S_53 rfl V_8 (by decide) AL_X8 tyX8 tyX8_ok nmX8 q_340 rfl rfl rfl dX8_opens_100 hf (fun μ15 H locs hf Y => ?_)
          refine lv_aload_n (pc := 103) hx hb dX8_opens_103 rfl (lv_at hl 0 rfl) ?_
          refine lv_dup (pc := 104) hx hb dX8_opens_104 rfl ?_
          refine g_geti (pc := 105) E Y 53 13 S_53 rfl V_8 (by decide) AL_X8 q_345 dX8_opens_105 hf (fun v16 hf => ?_)
          refine lv_iconst (pc := 108) (v := 1) hx hb dX8_opens_108 (by decide) ?_
          refine g_isub (pc := 109) E dX8_opens_109 hf (fun v17 hf => ?_)
          refine g_put (pc := 110) E Y 53 13 S_53 rfl V_8 (by decide) AL_X8 tyX8 tyX8_ok nmX8 q_345 rfl rfl rfl dX8_opens_110 hf (fun μ18 H locs hf Y => ?_)
          exact g_vret (pc := 113) E Y hr hk dX8_opens_113 hf
        · refine lv_iconst (pc := 94) (v := 0) hx hb dX8_opens_94 (by decide) ?_
          refine lv_goto (pc := 95) (tgt := 99) hx hb dX8_opens_95 (by decide) ?_
          refine g_iadd (pc := 99) E dX8_opens_99 hf (fun v19 hf => ?_)
          refine g_put (pc := 100) E Y 53 12 S_53 rfl V_8 (by decide) AL_X8 tyX8 tyX8_ok nmX8 q_340 rfl rfl rfl dX8_opens_100 hf (fun μ20 H locs hf Y => ?_)
          refine lv_aload_n (pc := 103) hx hb dX8_opens_103 rfl (lv_at hl 0 rfl) ?_
          refine lv_dup (pc := 104) hx hb dX8_opens_104 rfl ?_
          refine g_geti (pc := 105) E Y 53 13 S_53 rfl V_8 (by decide) AL_X8 q_345 dX8_opens_105 hf (fun v21 hf => ?_)
          refine lv_iconst (pc := 108) (v := 1) hx hb dX8_opens_108 (by decide) ?_
          refine g_isub (pc := 109) E dX8_opens_109 hf (fun v22 hf => ?_)
          refine g_put (pc := 110) E Y 53 13 S_53 rfl V_8 (by decide) AL_X8 tyX8 tyX8_ok nmX8 q_345 rfl rfl rfl dX8_opens_110 hf (fun μ23 H locs hf Y => ?_)
          exact g_vret (pc := 113) E Y hr hk dX8_opens_113 hf
      · refine lv_aload_n (pc := 65) hx hb dX8_opens_65 rfl (lv_at hl 0 rfl) ?_
        refine g_callVi (pc := 66) E Y 53 S_53 V_8 o_X8_look q_670 [] rfl rfl (hR_of (by omega) (by decide)) hl.1 (rest := [.ref (ad 53)]) rfl (Nat.le_of_ble_eq_true rfl) dX8_opens_66 (fun z hz => m_X8_look_53 hz) hf (fun v24 μ25 H locs hf Y => ?_)
        refine lv_bipush (pc := 69) (v := 41) hx hb dX8_opens_69 (by decide) ?_
        refine g_icmp_eq (pc := 71) (tgt := 78) E dX8_opens_71 (by decide) hf (fun hf => ?_) (fun hf => ?_)
        · refine lv_iconst (pc := 78) (v := 0) hx hb dX8_opens_78 (by decide) ?_
          obtain ⟨h01, hf⟩ := gb_some hf
          refine g_put (pc := 79) E Y 53 14 S_53 rfl V_8 (by decide) AL_X8 tyX8 tyX8_ok nmX8 q_344 rfl (nar01 h01) (fit01 h01) dX8_opens_79 hf (fun μ26 H locs hf Y => ?_)
          refine lv_aload_n (pc := 82) hx hb dX8_opens_82 rfl (lv_at hl 0 rfl) ?_
          refine lv_dup (pc := 83) hx hb dX8_opens_83 rfl ?_
          refine g_geti (pc := 84) E Y 53 12 S_53 rfl V_8 (by decide) AL_X8 q_340 dX8_opens_84 hf (fun v27 hf => ?_)
          refine lv_aload_n (pc := 87) hx hb dX8_opens_87 rfl (lv_at hl 0 rfl) ?_
          refine g_geti (pc := 88) E Y 53 14 S_53 rfl V_8 (by decide) AL_X8 q_344 dX8_opens_88 hf (fun v28 hf => ?_)
          refine g_if_eq (pc := 91) (tgt := 98) E dX8_opens_91 (by decide) hf (fun hf => ?_) (fun hf => ?_)
          · refine lv_iconst (pc := 98) (v := 1) hx hb dX8_opens_98 (by decide) ?_
            refine g_iadd (pc := 99) E dX8_opens_99 hf (fun v29 hf => ?_)
            refine g_put (pc := 100) E Y 53 12 S_53 rfl V_8 (by decide) AL_X8 tyX8 tyX8_ok nmX8 q_340 rfl rfl rfl dX8_opens_100 hf (fun μ30 H locs hf Y => ?_)
            refine lv_aload_n (pc := 103) hx hb dX8_opens_103 rfl (lv_at hl 0 rfl) ?_
            refine lv_dup (pc := 104) hx hb dX8_opens_104 rfl ?_
            refine g_geti (pc := 105) E Y 53 13 S_53 rfl V_8 (by decide) AL_X8 q_345 dX8_opens_105 hf (fun v31 hf => ?_)
            refine lv_iconst (pc := 108) (v := 1) hx hb dX8_opens_108 (by decide) ?_
            refine g_isub (pc := 109) E dX8_opens_109 hf (fun v32 hf => ?_)
            refine g_put (pc := 110) E Y 53 13 S_53 rfl V_8 (by decide) AL_X8 tyX8 tyX8_ok nmX8 q_345 rfl rfl rfl dX8_opens_110 hf (fun μ33 H locs hf Y => ?_)
            exact g_vret (pc := 113) E Y hr hk dX8_opens_113 hf
          · refine lv_iconst (pc := 94) (v := 0) hx hb dX8_opens_94 (by decide) ?_
            refine lv_goto (pc := 95) (tgt := 99) hx hb dX8_opens_95 (by decide) ?_
            refine g_iadd (pc := 99) E dX8_opens_99 hf (fun v34 hf => ?_)
            refine g_put (pc := 100) E Y 53 12 S_53 rfl V_8 (by decide) AL_X8 tyX8 tyX8_ok nmX8 q_340 rfl rfl rfl dX8_opens_100 hf (fun μ35 H locs hf Y => ?_)
            refine lv_aload_n (pc := 103) hx hb dX8_opens_103 rfl (lv_at hl 0 rfl) ?_
            refine lv_dup (pc := 104) hx hb dX8_opens_104 rfl ?_
            refine g_geti (pc := 105) E Y 53 13 S_53 rfl V_8 (by decide) AL_X8 q_345 dX8_opens_105 hf (fun v36 hf => ?_)
            refine lv_iconst (pc := 108) (v := 1) hx hb dX8_opens_108 (by decide) ?_
            refine g_isub (pc := 109) E dX8_opens_109 hf (fun v37 hf => ?_)
            refine g_put (pc := 110) E Y 53 13 S_53 rfl V_8 (by decide) AL_X8 tyX8 tyX8_ok nmX8 q_345 rfl rfl rfl dX8_opens_110 hf (fun μ38 H locs hf Y => ?_)
            exact g_vret (pc := 113) E Y hr hk dX8_opens_113 hf
        · refine lv_iconst (pc := 74) (v := 1) hx hb dX8_opens_74 (by decide) ?_
          refine lv_goto (pc := 75) (tgt := 79) hx hb dX8_opens_75 (by decide) ?_
          obtain ⟨h01, hf⟩ := gb_some hf
          refine g_put (pc := 79) E Y 53 14 S_53 rfl V_8 (by decide) AL_X8 tyX8 tyX8_ok nmX8 q_344 rfl (nar01 h01) (fit01 h01) dX8_opens_79 hf (fun μ39 H locs hf Y => ?_)
          refine lv_aload_n (pc := 82) hx hb dX8_opens_82 rfl (lv_at hl 0 rfl) ?_
          refine lv_dup (pc := 83) hx hb dX8_opens_83 rfl ?_
          refine g_geti (pc := 84) E Y 53 12 S_53 rfl V_8 (by decide) AL_X8 q_340 dX8_opens_84 hf (fun v40 hf => ?_)
          refine lv_aload_n (pc := 87) hx hb dX8_opens_87 rfl (lv_at hl 0 rfl) ?_
          refine g_geti (pc := 88) E Y 53 14 S_53 rfl V_8 (by decide) AL_X8 q_344 dX8_opens_88 hf (fun v41 hf => ?_)
          refine g_if_eq (pc := 91) (tgt := 98) E dX8_opens_91 (by decide) hf (fun hf => ?_) (fun hf => ?_)
          · refine lv_iconst (pc := 98) (v := 1) hx hb dX8_opens_98 (by decide) ?_
            refine g_iadd (pc := 99) E dX8_opens_99 hf (fun v42 hf => ?_)
            refine g_put (pc := 100) E Y 53 12 S_53 rfl V_8 (by decide) AL_X8 tyX8 tyX8_ok nmX8 q_340 rfl rfl rfl dX8_opens_100 hf (fun μ43 H locs hf Y => ?_)
            refine lv_aload_n (pc := 103) hx hb dX8_opens_103 rfl (lv_at hl 0 rfl) ?_
            refine lv_dup (pc := 104) hx hb dX8_opens_104 rfl ?_
            refine g_geti (pc := 105) E Y 53 13 S_53 rfl V_8 (by decide) AL_X8 q_345 dX8_opens_105 hf (fun v44 hf => ?_)
            refine lv_iconst (pc := 108) (v := 1) hx hb dX8_opens_108 (by decide) ?_
            refine g_isub (pc := 109) E dX8_opens_109 hf (fun v45 hf => ?_)
            refine g_put (pc := 110) E Y 53 13 S_53 rfl V_8 (by decide) AL_X8 tyX8 tyX8_ok nmX8 q_345 rfl rfl rfl dX8_opens_110 hf (fun μ46 H locs hf Y => ?_)
            exact g_vret (pc := 113) E Y hr hk dX8_opens_113 hf
          · refine lv_iconst (pc := 94) (v := 0) hx hb dX8_opens_94 (by decide) ?_
            refine lv_goto (pc := 95) (tgt := 99) hx hb dX8_opens_95 (by decide) ?_
            refine g_iadd (pc := 99) E dX8_opens_99 hf (fun v47 hf => ?_)
            refine g_put (pc := 100) E Y 53 12 S_53 rfl V_8 (by decide) AL_X8 tyX8 tyX8_ok nmX8 q_340 rfl rfl rfl dX8_opens_100 hf (fun μ48 H locs hf Y => ?_)
            refine lv_aload_n (pc := 103) hx hb dX8_opens_103 rfl (lv_at hl 0 rfl) ?_
            refine lv_dup (pc := 104) hx hb dX8_opens_104 rfl ?_
            refine g_geti (pc := 105) E Y 53 13 S_53 rfl V_8 (by decide) AL_X8 q_345 dX8_opens_105 hf (fun v49 hf => ?_)
            refine lv_iconst (pc := 108) (v := 1) hx hb dX8_opens_108 (by decide) ?_
            refine g_isub (pc := 109) E dX8_opens_109 hf (fun v50 hf => ?_)
            refine g_put (pc := 110) E Y 53 13 S_53 rfl V_8 (by decide) AL_X8 tyX8 tyX8_ok nmX8 q_345 rfl rfl rfl dX8_opens_110 hf (fun μ51 H locs hf Y => ?_)
            exact g_vret (pc := 113) E Y hr hk dX8_opens_113 hf
    · refine lv_aload_n (pc := 40) hx hb dX8_opens_40 rfl (lv_at hl 0 rfl) ?_
      refine g_callVv (pc := 41) E Y 53 S_53 V_8 o_X8_one q_672 [] rfl rfl (hR_of (by omega) (by decide)) hl.1 (rest := []) rfl (Nat.le_of_ble_eq_true rfl) dX8_opens_41 (fun z hz => m_X8_one_53 hdr hrc hz) hf (fun v52 μ53 H locs hf Y => ?_)
      refine lv_aload_n (pc := 44) hx hb dX8_opens_44 rfl (lv_at hl 0 rfl) ?_
      refine lv_iconst (pc := 45) (v := 3) hx hb dX8_opens_45 (by decide) ?_
      refine lv_iconst (pc := 46) (v := 0) hx hb dX8_opens_46 (by decide) ?_
      refine g_callVv (pc := 47) E Y 53 S_53 V_8 o_X8_lays q_671 [.int 3, .int 0] rfl rfl (hR_of (by omega) (by decide)) hl.1 (rest := []) rfl (Nat.le_of_ble_eq_true rfl) dX8_opens_47 (fun z hz => m_X8_lays_53 hz) hf (fun v54 μ55 H locs hf Y => ?_)
      refine lv_goto (pc := 50) (tgt := 103) hx hb dX8_opens_50 (by decide) ?_
      refine lv_aload_n (pc := 103) hx hb dX8_opens_103 rfl (lv_at hl 0 rfl) ?_
      refine lv_dup (pc := 104) hx hb dX8_opens_104 rfl ?_
      refine g_geti (pc := 105) E Y 53 13 S_53 rfl V_8 (by decide) AL_X8 q_345 dX8_opens_105 hf (fun v56 hf => ?_)
      refine lv_iconst (pc := 108) (v := 1) hx hb dX8_opens_108 (by decide) ?_
      refine g_isub (pc := 109) E dX8_opens_109 hf (fun v57 hf => ?_)
      refine g_put (pc := 110) E Y 53 13 S_53 rfl V_8 (by decide) AL_X8 tyX8 tyX8_ok nmX8 q_345 rfl rfl rfl dX8_opens_110 hf (fun μ58 H locs hf Y => ?_)
      exact g_vret (pc := 113) E Y hr hk dX8_opens_113 hf
  · refine lv_aload_n (pc := 8) hx hb dX8_opens_8 rfl (lv_at hl 0 rfl) ?_
    refine lv_iconst (pc := 9) (v := 1) hx hb dX8_opens_9 (by decide) ?_
    obtain ⟨h01, hf⟩ := gb_some hf
    refine g_put (pc := 10) E Y 53 14 S_53 rfl V_8 (by decide) AL_X8 tyX8 tyX8_ok nmX8 q_344 rfl (nar01 h01) (fit01 h01) dX8_opens_10 hf (fun μ59 H locs hf Y => ?_)
    exact g_vret (pc := 13) E Y hr hk dX8_opens_13 hf
def f_X8_opens_53 : Nat → Int32 → Mem → Res
  | 0, _, _ => none
  | n + 1, a0, σ => fb_X8_opens_53 (f_X8_opens_53 n) a0 σ
theorem m_X8_opens_53 {l : Launch} (n : Nat) : ∀ {σ : Mem} {Z : Int32 × Mem} {a0 : Int32}, f_X8_opens_53 n a0 σ = some Z → CV l yX8_opens cX8_opens 2 (10 + 7 * n) (fun ad => [.ref (ad 53), .int a0]) σ Z := by
  induction n with
  | zero =>
    intro σ Z a0 hf
    cases (show (none : Res) = some Z from hf)
  | succ n ih =>
    intro σ Z a0 hf
    have h := mb_X8_opens_53 (l := l) (dr := 10 + 7 * n) (by omega) (rc := f_X8_opens_53 n) (fun _ _ _ h => ih h) (show fb_X8_opens_53 (f_X8_opens_53 n) a0 σ = some Z from hf)
    rw [show 10 + 7 * (n + 1) = 10 + 7 * n + 7 by omega]
    exact h
