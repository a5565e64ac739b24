/-! methods, by program: a pure program and its contract each -/
def f_X7_isRunner_0 (a0 : Int32) (σ : Mem) : Res := if a0 < 0 then (gb 0 (some (0, σ))) else (nm (σ 7 5) fun (v1 : Int32) => if v1 ≤ a0 then (gb 0 (some (0, σ))) else (gb 1 (some (1, σ))))
set_option maxHeartbeats 4000000 in
set_option maxRecDepth 100000 in
theorem m_X7_isRunner_0 {l : Launch} {σ : Mem} {Z : Int32 × Mem} {a0 : Int32} (hf : f_X7_isRunner_0 a0 σ = some Z) : CT l yX7_isRunner cX7_isRunner 2 (some .boolean) 0 (fun ad => [.ref (ad 0), .int a0]) σ Z := by
  refine g_openT RX7 (by decide) rfl (fun _ => Nat.le_of_ble_eq_true rfl) (fun p e s m below meth c D cI cB ad st ls E Y hr hk hl => ?_)
  have hx := E.1.1
  have hb := E.1.2.1
  have hl : lv_has ls 2 [(0, .ref (ad 0)), (1, .int a0)] := hl
  unfold f_X7_isRunner_0 at hf
  refine lv_iload_n (pc := 0) hx hb dX7_isRunner_0 rfl (lv_at hl 1 rfl) ?_
  refine g_if_lt (pc := 1) (tgt := 22) E dX7_isRunner_1 (by decide) hf (fun hf => ?_) (fun hf => ?_)
  · refine lv_iconst (pc := 22) (v := 0) hx hb dX7_isRunner_22 (by decide) ?_
    exact g_zret (pc := 23) E Y hr hk dX7_isRunner_23 hf
  · refine lv_iload_n (pc := 4) hx hb dX7_isRunner_4 rfl (lv_at hl 1 rfl) ?_
    refine lv_aload_n (pc := 5) hx hb dX7_isRunner_5 rfl (lv_at hl 0 rfl) ?_
    refine g_getr (pc := 6) E Y 0 0 1 S_0 rfl V_7 (by decide) AL_X7 q_301 dX7_isRunner_6 ?_
    refine g_getr (pc := 9) E Y 1 1 7 S_1 rfl V_3 (by decide) AL_X3 q_302 dX7_isRunner_9 ?_
    refine g_geti (pc := 12) E Y 7 5 S_7 rfl V_2 (by decide) AL_X2 q_303 dX7_isRunner_12 hf (fun v1 hf => ?_)
    refine g_icmp_ge (pc := 15) (tgt := 22) E dX7_isRunner_15 (by decide) hf (fun hf => ?_) (fun hf => ?_)
    · refine lv_iconst (pc := 22) (v := 0) hx hb dX7_isRunner_22 (by decide) ?_
      exact g_zret (pc := 23) E Y hr hk dX7_isRunner_23 hf
    · refine lv_iconst (pc := 18) (v := 1) hx hb dX7_isRunner_18 (by decide) ?_
      refine lv_goto (pc := 19) (tgt := 23) hx hb dX7_isRunner_19 (by decide) ?_
      exact g_zret (pc := 23) E Y hr hk dX7_isRunner_23 hf
def f_X2_runFrom_7 (a0 : Int32) (a1 : Int32) (σ : Mem) : Res := gi a0 5 <| nm (σ 8 a0.toNatClampNeg) fun (v1 : Int32) => gi a0 5 <| nm (σ 9 a0.toNatClampNeg) fun (v2 : Int32) => nm (90 - a1) fun (v3 : Int32) => nm (v2 * v3) fun (v4 : Int32) => gz 10 <| nm (v4 / 10) fun (v5 : Int32) => nm (v1 + v5) fun (v6 : Int32) => some (v6, σ)
set_option maxHeartbeats 4000000 in
set_option maxRecDepth 100000 in
theorem m_X2_runFrom_7 {l : Launch} {σ : Mem} {Z : Int32 × Mem} {a0 : Int32} {a1 : Int32} (hf : f_X2_runFrom_7 a0 a1 σ = some Z) : CT l yX2_runFrom cX2_runFrom 3 (some .int) 0 (fun ad => [.ref (ad 7), .int a0, .int a1]) σ Z := by
  refine g_openT RX2 (by decide) rfl (fun _ => Nat.le_of_ble_eq_true rfl) (fun p e s m below meth c D cI cB ad st ls E Y hr hk hl => ?_)
  have hx := E.1.1
  have hb := E.1.2.1
  have hl : lv_has ls 3 [(0, .ref (ad 7)), (1, .int a0), (2, .int a1)] := hl
  unfold f_X2_runFrom_7 at hf
  refine lv_aload_n (pc := 0) hx hb dX2_runFrom_0 rfl (lv_at hl 0 rfl) ?_
  refine g_getr (pc := 1) E Y 7 0 8 S_7 rfl V_2 (by decide) AL_X2 q_262 dX2_runFrom_1 ?_
  refine lv_iload_n (pc := 4) hx hb dX2_runFrom_4 rfl (lv_at hl 1 rfl) ?_
  refine g_iald (pc := 5) E Y 8 S_8 dX2_runFrom_5 hf (fun v1 hf => ?_)
  refine lv_aload_n (pc := 6) hx hb dX2_runFrom_6 rfl (lv_at hl 0 rfl) ?_
  refine g_getr (pc := 7) E Y 7 1 9 S_7 rfl V_2 (by decide) AL_X2 q_257 dX2_runFrom_7 ?_
  refine lv_iload_n (pc := 10) hx hb dX2_runFrom_10 rfl (lv_at hl 1 rfl) ?_
  refine g_iald (pc := 11) E Y 9 S_9 dX2_runFrom_11 hf (fun v2 hf => ?_)
  refine lv_bipush (pc := 12) (v := 90) hx hb dX2_runFrom_12 (by decide) ?_
  refine lv_iload_n (pc := 14) hx hb dX2_runFrom_14 rfl (lv_at hl 2 rfl) ?_
  refine g_isub (pc := 15) E dX2_runFrom_15 hf (fun v3 hf => ?_)
  refine g_imul (pc := 16) E dX2_runFrom_16 hf (fun v4 hf => ?_)
  refine lv_bipush (pc := 17) (v := 10) hx hb dX2_runFrom_17 (by decide) ?_
  refine g_idiv (pc := 19) E dX2_runFrom_19 hf (fun v5 hf => ?_)
  refine g_iadd (pc := 20) E dX2_runFrom_20 hf (fun v6 hf => ?_)
  exact g_iret (pc := 21) E Y hr hk dX2_runFrom_21 hf
def f_X2_backFrom_7 (a0 : Int32) (a1 : Int32) (σ : Mem) : Res := gi a0 5 <| nm (σ 8 a0.toNatClampNeg) fun (v1 : Int32) => gi a0 5 <| nm (σ 9 a0.toNatClampNeg) fun (v2 : Int32) => nm (v2 * a1) fun (v3 : Int32) => gz 10 <| nm (v3 / 10) fun (v4 : Int32) => nm (v1 + v4) fun (v5 : Int32) => some (v5, σ)
set_option maxHeartbeats 4000000 in
set_option maxRecDepth 100000 in
theorem m_X2_backFrom_7 {l : Launch} {σ : Mem} {Z : Int32 × Mem} {a0 : Int32} {a1 : Int32} (hf : f_X2_backFrom_7 a0 a1 σ = some Z) : CT l yX2_backFrom cX2_backFrom 3 (some .int) 0 (fun ad => [.ref (ad 7), .int a0, .int a1]) σ Z := by
  refine g_openT RX2 (by decide) rfl (fun _ => Nat.le_of_ble_eq_true rfl) (fun p e s m below meth c D cI cB ad st ls E Y hr hk hl => ?_)
  have hx := E.1.1
  have hb := E.1.2.1
  have hl : lv_has ls 3 [(0, .ref (ad 7)), (1, .int a0), (2, .int a1)] := hl
  unfold f_X2_backFrom_7 at hf
  refine lv_aload_n (pc := 0) hx hb dX2_backFrom_0 rfl (lv_at hl 0 rfl) ?_
  refine g_getr (pc := 1) E Y 7 0 8 S_7 rfl V_2 (by decide) AL_X2 q_262 dX2_backFrom_1 ?_
  refine lv_iload_n (pc := 4) hx hb dX2_backFrom_4 rfl (lv_at hl 1 rfl) ?_
  refine g_iald (pc := 5) E Y 8 S_8 dX2_backFrom_5 hf (fun v1 hf => ?_)
  refine lv_aload_n (pc := 6) hx hb dX2_backFrom_6 rfl (lv_at hl 0 rfl) ?_
  refine g_getr (pc := 7) E Y 7 1 9 S_7 rfl V_2 (by decide) AL_X2 q_257 dX2_backFrom_7 ?_
  refine lv_iload_n (pc := 10) hx hb dX2_backFrom_10 rfl (lv_at hl 1 rfl) ?_
  refine g_iald (pc := 11) E Y 9 S_9 dX2_backFrom_11 hf (fun v2 hf => ?_)
  refine lv_iload_n (pc := 12) hx hb dX2_backFrom_12 rfl (lv_at hl 2 rfl) ?_
  refine g_imul (pc := 13) E dX2_backFrom_13 hf (fun v3 hf => ?_)
  refine lv_bipush (pc := 14) (v := 10) hx hb dX2_backFrom_14 (by decide) ?_
  refine g_idiv (pc := 16) E dX2_backFrom_16 hf (fun v4 hf => ?_)
  refine g_iadd (pc := 17) E dX2_backFrom_17 hf (fun v5 hf => ?_)
  exact g_iret (pc := 18) E Y hr hk dX2_backFrom_18 hf
def f_X3_isPicked_1 (a0 : Int32) (a1 : Int32) (σ : Mem) : Res := bd (f_X2_backFrom_7 a0 a1 σ) fun v1 μ2 => nm (μ2 1 8) fun (v3 : Int32) => gz 2 <| nm (v3 / 2) fun (v4 : Int32) => nm (v4 + 30) fun (v5 : Int32) => if v1 ≤ v5 then (gb 0 (some (0, μ2))) else (gb 1 (some (1, μ2)))
set_option maxHeartbeats 4000000 in
set_option maxRecDepth 100000 in
theorem m_X3_isPicked_1 {l : Launch} {σ : Mem} {Z : Int32 × Mem} {a0 : Int32} {a1 : Int32} (hf : f_X3_isPicked_1 a0 a1 σ = some Z) : CT l yX3_isPicked cX3_isPicked 3 (some .boolean) 1 (fun ad => [.ref (ad 1), .int a0, .int a1]) σ Z := by
  refine g_openT RX3 (by decide) rfl (fun _ => Nat.le_of_ble_eq_true rfl) (fun p e s m below meth c D cI cB ad st ls E Y hr hk hl => ?_)
  have hx := E.1.1
  have hb := E.1.2.1
  have hl : lv_has ls 3 [(0, .ref (ad 1)), (1, .int a0), (2, .int a1)] := hl
  unfold f_X3_isPicked_1 at hf
  refine lv_aload_n (pc := 0) hx hb dX3_isPicked_0 rfl (lv_at hl 0 rfl) ?_
  refine g_getr (pc := 1) E Y 1 1 7 S_1 rfl V_3 (by decide) AL_X3 q_272 dX3_isPicked_1 ?_
  refine lv_iload_n (pc := 4) hx hb dX3_isPicked_4 rfl (lv_at hl 1 rfl) ?_
  refine lv_iload_n (pc := 5) hx hb dX3_isPicked_5 rfl (lv_at hl 2 rfl) ?_
  refine g_callVi (pc := 6) E Y 7 S_7 V_2 o_X2_backFrom q_582 [.int a0, .int a1] rfl rfl (hR_of (by omega) (by decide)) hl.1 (rest := []) rfl (Nat.le_of_ble_eq_true rfl) dX3_isPicked_6 (fun z hz => m_X2_backFrom_7 hz) hf (fun v1 μ2 H locs hf Y => ?_)
  refine lv_aload_n (pc := 9) hx hb dX3_isPicked_9 rfl (lv_at hl 0 rfl) ?_
  refine g_geti (pc := 10) E Y 1 8 S_1 rfl V_3 (by decide) AL_X3 q_279 dX3_isPicked_10 hf (fun v3 hf => ?_)
  refine lv_iconst (pc := 13) (v := 2) hx hb dX3_isPicked_13 (by decide) ?_
  refine g_idiv (pc := 14) E dX3_isPicked_14 hf (fun v4 hf => ?_)
  refine lv_bipush (pc := 15) (v := 30) hx hb dX3_isPicked_15 (by decide) ?_
  refine g_iadd (pc := 17) E dX3_isPicked_17 hf (fun v5 hf => ?_)
  refine g_icmp_le (pc := 18) (tgt := 25) E dX3_isPicked_18 (by decide) hf (fun hf => ?_) (fun hf => ?_)
  · refine lv_iconst (pc := 25) (v := 0) hx hb dX3_isPicked_25 (by decide) ?_
    exact g_zret (pc := 26) E Y hr hk dX3_isPicked_26 hf
  · refine lv_iconst (pc := 21) (v := 1) hx hb dX3_isPicked_21 (by decide) ?_
    refine lv_goto (pc := 22) (tgt := 26) hx hb dX3_isPicked_22 (by decide) ?_
    exact g_zret (pc := 26) E Y hr hk dX3_isPicked_26 hf
def f_X7_runnerIs_0 (a0 : Int32) (a1 : Int32) (σ : Mem) : Res := bd (f_X7_isRunner_0 a0 σ) fun v1 μ2 => if v1 = 0 then (bd (f_X7_error_0 1 μ2) fun v14 μ15 => some (v14, μ15)) else (gi a0 5 <| nm (μ2 10 a0.toNatClampNeg) fun (v3 : Int32) => if a1 = 0 then (gi a0 5 <| nm (μ2 8 a0.toNatClampNeg) fun (v4 : Int32) => some (v4, μ2)) else (if a1 = 1 then (gi a0 5 <| nm (μ2 9 a0.toNatClampNeg) fun (v5 : Int32) => some (v5, μ2)) else (if a1 = 2 then (some (v3, μ2)) else (if a1 = 3 then (gi a0 5 <| nm (μ2 11 a0.toNatClampNeg) fun (v6 : Int32) => some (v6, μ2)) else (if a1 = 4 then (gi a0 5 <| nm (μ2 12 a0.toNatClampNeg) fun (v7 : Int32) => some (v7, μ2)) else (if a1 = 5 then (bd (f_X2_runFrom_7 a0 v3 μ2) fun v8 μ9 => some (v8, μ9)) else (if a1 = 6 then (bd (f_X3_isPicked_1 a0 v3 μ2) fun v10 μ11 => if v10 = 0 then (some (0, μ11)) else (some (1, μ11))) else (bd (f_X7_error_0 1 μ2) fun v12 μ13 => some (v12, μ13)))))))))
set_option maxHeartbeats 4000000 in
set_option maxRecDepth 100000 in
theorem m_X7_runnerIs_0 {l : Launch} {σ : Mem} {Z : Int32 × Mem} {a0 : Int32} {a1 : Int32} (hf : f_X7_runnerIs_0 a0 a1 σ = some Z) : CT l yX7_runnerIs cX7_runnerIs 4 (some .int) 2 (fun ad => [.ref (ad 0), .int a0, .int a1]) σ Z := by
  refine g_openT RX7 (by decide) rfl (fun _ => Nat.le_of_ble_eq_true rfl) (fun p e s m below meth c D cI cB ad st ls E Y hr hk hl => ?_)
  have hx := E.1.1
  have hb := E.1.2.1
  have hl : lv_has ls 4 [(0, .ref (ad 0)), (1, .int a0), (2, .int a1)] := hl
  unfold f_X7_runnerIs_0 at hf
  refine lv_aload_n (pc := 0) hx hb dX7_runnerIs_0 rfl (lv_at hl 0 rfl) ?_
  refine lv_iload_n (pc := 1) hx hb dX7_runnerIs_1 rfl (lv_at hl 1 rfl) ?_
  refine g_callVi (pc := 2) E Y 0 S_0 V_7 o_X7_isRunner q_618 [.int a0] rfl rfl (hR_of (by omega) (by decide)) hl.1 (rest := []) rfl (Nat.le_of_ble_eq_true rfl) dX7_runnerIs_2 (fun z hz => m_X7_isRunner_0 hz) hf (fun v1 μ2 H locs hf Y => ?_)
  refine g_if_ne (pc := 5) (tgt := 14) E dX7_runnerIs_5 (by decide) hf (fun hf => ?_) (fun hf => ?_)
  · refine lv_aload_n (pc := 14) hx hb dX7_runnerIs_14 rfl (lv_at hl 0 rfl) ?_
    refine g_getr (pc := 15) E Y 0 0 1 S_0 rfl V_7 (by decide) AL_X7 q_301 dX7_runnerIs_15 ?_
    refine g_getr (pc := 18) E Y 1 1 7 S_1 rfl V_3 (by decide) AL_X3 q_302 dX7_runnerIs_18 ?_
    refine g_getr (pc := 21) E Y 7 2 10 S_7 rfl V_2 (by decide) AL_X2 q_304 dX7_runnerIs_21 ?_
    refine lv_iload_n (pc := 24) hx hb dX7_runnerIs_24 rfl (lv_at hl 1 rfl) ?_
    refine g_iald (pc := 25) E Y 10 S_10 dX7_runnerIs_25 hf (fun v3 hf => ?_)
    refine lv_istore_n (pc := 26) (lv' := [(3, .int v3), (0, .ref (ad 0)), (1, .int a0), (2, .int a1)]) hx hb dX7_runnerIs_26 rfl hl (by decide) rfl (fun ls hl => ?_)
    refine lv_iload_n (pc := 27) hx hb dX7_runnerIs_27 rfl (lv_at hl 3 rfl) ?_
    by_cases hc : a1 = 0
    · rw [if_pos hc] at hf
      refine g_tabIn (pc := 28) (tgt := 72) E dX7_runnerIs_28 hc (n := 0) (by decide) (by decide) (by decide) rfl (by decide) ?_
      refine lv_aload_n (pc := 72) hx hb dX7_runnerIs_72 rfl (lv_at hl 1 rfl) ?_
      refine g_getr (pc := 73) E Y 0 0 1 S_0 rfl V_7 (by decide) AL_X7 q_301 dX7_runnerIs_73 ?_
      refine g_getr (pc := 76) E Y 1 1 7 S_1 rfl V_3 (by decide) AL_X3 q_302 dX7_runnerIs_76 ?_
      refine g_getr (pc := 79) E Y 7 0 8 S_7 rfl V_2 (by decide) AL_X2 q_305 dX7_runnerIs_79 ?_
      refine lv_iload_n (pc := 82) hx hb dX7_runnerIs_82 rfl (lv_at hl 2 rfl) ?_
      refine g_iald (pc := 83) E Y 8 S_8 dX7_runnerIs_83 hf (fun v4 hf => ?_)
      exact g_iret (pc := 84) E Y hr hk dX7_runnerIs_84 hf
    · rw [if_neg hc] at hf
      have n_0 := ti_ne (n := 0) (by decide) hc
      clear hc
      by_cases hc : a1 = 1
      · rw [if_pos hc] at hf
        refine g_tabIn (pc := 28) (tgt := 85) E dX7_runnerIs_28 hc (n := 1) (by decide) (by decide) (by decide) rfl (by decide) ?_
        refine lv_aload_n (pc := 85) hx hb dX7_runnerIs_85 rfl (lv_at hl 1 rfl) ?_
        refine g_getr (pc := 86) E Y 0 0 1 S_0 rfl V_7 (by decide) AL_X7 q_301 dX7_runnerIs_86 ?_
        refine g_getr (pc := 89) E Y 1 1 7 S_1 rfl V_3 (by decide) AL_X3 q_302 dX7_runnerIs_89 ?_
        refine g_getr (pc := 92) E Y 7 1 9 S_7 rfl V_2 (by decide) AL_X2 q_306 dX7_runnerIs_92 ?_
        refine lv_iload_n (pc := 95) hx hb dX7_runnerIs_95 rfl (lv_at hl 2 rfl) ?_
        refine g_iald (pc := 96) E Y 9 S_9 dX7_runnerIs_96 hf (fun v5 hf => ?_)
        exact g_iret (pc := 97) E Y hr hk dX7_runnerIs_97 hf
      · rw [if_neg hc] at hf
        have n_1 := ti_ne (n := 1) (by decide) hc
        clear hc
        by_cases hc : a1 = 2
        · rw [if_pos hc] at hf
          refine g_tabIn (pc := 28) (tgt := 98) E dX7_runnerIs_28 hc (n := 2) (by decide) (by decide) (by decide) rfl (by decide) ?_
          refine lv_iload_n (pc := 98) hx hb dX7_runnerIs_98 rfl (lv_at hl 0 rfl) ?_
          exact g_iret (pc := 99) E Y hr hk dX7_runnerIs_99 hf
        · rw [if_neg hc] at hf
          have n_2 := ti_ne (n := 2) (by decide) hc
          clear hc
          by_cases hc : a1 = 3
          · rw [if_pos hc] at hf
            refine g_tabIn (pc := 28) (tgt := 100) E dX7_runnerIs_28 hc (n := 3) (by decide) (by decide) (by decide) rfl (by decide) ?_
            refine lv_aload_n (pc := 100) hx hb dX7_runnerIs_100 rfl (lv_at hl 1 rfl) ?_
            refine g_getr (pc := 101) E Y 0 0 1 S_0 rfl V_7 (by decide) AL_X7 q_301 dX7_runnerIs_101 ?_
            refine g_getr (pc := 104) E Y 1 1 7 S_1 rfl V_3 (by decide) AL_X3 q_302 dX7_runnerIs_104 ?_
            refine g_getr (pc := 107) E Y 7 3 11 S_7 rfl V_2 (by decide) AL_X2 q_307 dX7_runnerIs_107 ?_
            refine lv_iload_n (pc := 110) hx hb dX7_runnerIs_110 rfl (lv_at hl 2 rfl) ?_
            refine g_iald (pc := 111) E Y 11 S_11 dX7_runnerIs_111 hf (fun v6 hf => ?_)
            exact g_iret (pc := 112) E Y hr hk dX7_runnerIs_112 hf
          · rw [if_neg hc] at hf
            have n_3 := ti_ne (n := 3) (by decide) hc
            clear hc
            by_cases hc : a1 = 4
            · rw [if_pos hc] at hf
              refine g_tabIn (pc := 28) (tgt := 113) E dX7_runnerIs_28 hc (n := 4) (by decide) (by decide) (by decide) rfl (by decide) ?_
              refine lv_aload_n (pc := 113) hx hb dX7_runnerIs_113 rfl (lv_at hl 1 rfl) ?_
              refine g_getr (pc := 114) E Y 0 0 1 S_0 rfl V_7 (by decide) AL_X7 q_301 dX7_runnerIs_114 ?_
              refine g_getr (pc := 117) E Y 1 1 7 S_1 rfl V_3 (by decide) AL_X3 q_302 dX7_runnerIs_117 ?_
              refine g_getr (pc := 120) E Y 7 4 12 S_7 rfl V_2 (by decide) AL_X2 q_308 dX7_runnerIs_120 ?_
              refine lv_iload_n (pc := 123) hx hb dX7_runnerIs_123 rfl (lv_at hl 2 rfl) ?_
              refine g_iald (pc := 124) E Y 12 S_12 dX7_runnerIs_124 hf (fun v7 hf => ?_)
              exact g_iret (pc := 125) E Y hr hk dX7_runnerIs_125 hf
            · rw [if_neg hc] at hf
              have n_4 := ti_ne (n := 4) (by decide) hc
              clear hc
              by_cases hc : a1 = 5
              · rw [if_pos hc] at hf
                refine g_tabIn (pc := 28) (tgt := 126) E dX7_runnerIs_28 hc (n := 5) (by decide) (by decide) (by decide) rfl (by decide) ?_
                refine lv_aload_n (pc := 126) hx hb dX7_runnerIs_126 rfl (lv_at hl 1 rfl) ?_
                refine g_getr (pc := 127) E Y 0 0 1 S_0 rfl V_7 (by decide) AL_X7 q_301 dX7_runnerIs_127 ?_
                refine g_getr (pc := 130) E Y 1 1 7 S_1 rfl V_3 (by decide) AL_X3 q_302 dX7_runnerIs_130 ?_
                refine lv_iload_n (pc := 133) hx hb dX7_runnerIs_133 rfl (lv_at hl 2 rfl) ?_
                refine lv_iload_n (pc := 134) hx hb dX7_runnerIs_134 rfl (lv_at hl 0 rfl) ?_
                refine g_callVi (pc := 135) E Y 7 S_7 V_2 o_X2_runFrom q_619 [.int a0, .int v3] rfl rfl (hR_of (by omega) (by decide)) hl.1 (rest := []) rfl (Nat.le_of_ble_eq_true rfl) dX7_runnerIs_135 (fun z hz => m_X2_runFrom_7 hz) hf (fun v8 μ9 H locs hf Y => ?_)
                exact g_iret (pc := 138) E Y hr hk dX7_runnerIs_138 hf
              · rw [if_neg hc] at hf
                have n_5 := ti_ne (n := 5) (by decide) hc
                clear hc
                by_cases hc : a1 = 6
                · rw [if_pos hc] at hf
                  refine g_tabIn (pc := 28) (tgt := 139) E dX7_runnerIs_28 hc (n := 6) (by decide) (by decide) (by decide) rfl (by decide) ?_
                  refine lv_aload_n (pc := 139) hx hb dX7_runnerIs_139 rfl (lv_at hl 1 rfl) ?_
                  refine g_getr (pc := 140) E Y 0 0 1 S_0 rfl V_7 (by decide) AL_X7 q_301 dX7_runnerIs_140 ?_
                  refine lv_iload_n (pc := 143) hx hb dX7_runnerIs_143 rfl (lv_at hl 2 rfl) ?_
                  refine lv_iload_n (pc := 144) hx hb dX7_runnerIs_144 rfl (lv_at hl 0 rfl) ?_
                  refine g_callVi (pc := 145) E Y 1 S_1 V_3 o_X3_isPicked q_620 [.int a0, .int v3] rfl rfl (hR_of (by omega) (by decide)) hl.1 (rest := []) rfl (Nat.le_of_ble_eq_true rfl) dX7_runnerIs_145 (fun z hz => m_X3_isPicked_1 hz) hf (fun v10 μ11 H locs hf Y => ?_)
                  refine g_if_eq (pc := 148) (tgt := 155) E dX7_runnerIs_148 (by decide) hf (fun hf => ?_) (fun hf => ?_)
                  · refine lv_iconst (pc := 155) (v := 0) hx hb dX7_runnerIs_155 (by decide) ?_
                    exact g_iret (pc := 156) E Y hr hk dX7_runnerIs_156 hf
                  · refine lv_iconst (pc := 151) (v := 1) hx hb dX7_runnerIs_151 (by decide) ?_
                    refine lv_goto (pc := 152) (tgt := 156) hx hb dX7_runnerIs_152 (by decide) ?_
                    exact g_iret (pc := 156) E Y hr hk dX7_runnerIs_156 hf
                · rw [if_neg hc] at hf
                  have n_6 := ti_ne (n := 6) (by decide) hc
                  clear hc
                  refine lv_tableOut (pc := 28) (tgt := 157) hx hb dX7_runnerIs_28 (by omega) (by decide) ?_
                  refine lv_aload_n (pc := 157) hx hb dX7_runnerIs_157 rfl (lv_at hl 1 rfl) ?_
                  refine lv_iconst (pc := 158) (v := 1) hx hb dX7_runnerIs_158 (by decide) ?_
                  refine g_callVi (pc := 159) E Y 0 S_0 V_7 o_X7_error q_656 [.int 1] rfl rfl (hR_of (by omega) (by decide)) hl.1 (rest := []) rfl (Nat.le_of_ble_eq_true rfl) dX7_runnerIs_159 (fun z hz => m_X7_error_0 hz) hf (fun v12 μ13 H locs hf Y => ?_)
                  exact g_iret (pc := 162) E Y hr hk dX7_runnerIs_162 hf
  · refine lv_aload_n (pc := 8) hx hb dX7_runnerIs_8 rfl (lv_at hl 0 rfl) ?_
    refine lv_iconst (pc := 9) (v := 1) hx hb dX7_runnerIs_9 (by decide) ?_
    refine g_callVi (pc := 10) E Y 0 S_0 V_7 o_X7_error q_656 [.int 1] rfl rfl (hR_of (by omega) (by decide)) hl.1 (rest := []) rfl (Nat.le_of_ble_eq_true rfl) dX7_runnerIs_10 (fun z hz => m_X7_error_0 hz) hf (fun v14 μ15 H locs hf Y => ?_)
    exact g_iret (pc := 13) E Y hr hk dX7_runnerIs_13 hf
def f_X7_isFeet (a0 : Int32) (σ : Mem) : Res := bd (f_X7_within a0 0 20 σ) fun v1 μ2 => gb v1 (some (v1, μ2))
set_option maxHeartbeats 4000000 in
set_option maxRecDepth 100000 in
theorem m_X7_isFeet {l : Launch} {σ : Mem} {Z : Int32 × Mem} {a0 : Int32} (hf : f_X7_isFeet a0 σ = some Z) : CT l yX7_isFeet cX7_isFeet 1 (some .boolean) 1 (fun _ => [.int a0]) σ Z := by
  refine g_openT RX7 (by decide) rfl (fun _ => Nat.le_of_ble_eq_true rfl) (fun p e s m below meth c D cI cB ad st ls E Y hr hk hl => ?_)
  have hx := E.1.1
  have hb := E.1.2.1
  have hl : lv_has ls 1 [(0, .int a0)] := hl
  unfold f_X7_isFeet at hf
  refine lv_iload_n (pc := 0) hx hb dX7_isFeet_0 rfl (lv_at hl 0 rfl) ?_
  refine lv_iconst (pc := 1) (v := 0) hx hb dX7_isFeet_1 (by decide) ?_
  refine lv_bipush (pc := 2) (v := 20) hx hb dX7_isFeet_2 (by decide) ?_
  refine g_callSi (pc := 4) E Y o_X7_within q_661 [.int a0, .int 0, .int 20] rfl rfl (hR_of (by omega) (by decide)) hl.1 (rest := []) rfl (Nat.le_of_ble_eq_true rfl) dX7_isFeet_4 (fun z hz => m_X7_within hz) hf (fun v1 μ2 H locs hf Y => ?_)
  exact g_zret (pc := 7) E Y hr hk dX7_isFeet_7 hf
def f_X7_leads_0 (a0 : Int32) (a1 : Int32) (σ : Mem) : Res := bd (f_X7_isRunner_0 a0 σ) fun v1 μ2 => if v1 = 0 then (bd (f_X7_error_0 1 μ2) fun v3 μ4 => some (v3, μ4)) else (bd (f_X7_isFeet a1 μ2) fun v5 μ6 => if v5 = 0 then (bd (f_X7_error_0 1 μ6) fun v9 μ10 => some (v9, μ10)) else (gi a0 5 <| nm (μ6 10 a0.toNatClampNeg) fun (v7 : Int32) => gi a0 5 <| nm (mset μ6 10 a0.toNatClampNeg a1) fun (μ8 : Mem) => some (v7, μ8)))
set_option maxHeartbeats 4000000 in
set_option maxRecDepth 100000 in
theorem m_X7_leads_0 {l : Launch} {σ : Mem} {Z : Int32 × Mem} {a0 : Int32} {a1 : Int32} (hf : f_X7_leads_0 a0 a1 σ = some Z) : CT l yX7_leads cX7_leads 4 (some .int) 2 (fun ad => [.ref (ad 0), .int a0, .int a1]) σ Z := by
  refine g_openT RX7 (by decide) rfl (fun _ => Nat.le_of_ble_eq_true rfl) (fun p e s m below meth c D cI cB ad st ls E Y hr hk hl => ?_)
  have hx := E.1.1
  have hb := E.1.2.1
  have hl : lv_has ls 4 [(0, .ref (ad 0)), (1, .int a0), (2, .int a1)] := hl
  unfold f_X7_leads_0 at hf
  refine lv_aload_n (pc := 0) hx hb dX7_leads_0 rfl (lv_at hl 0 rfl) ?_
  refine lv_iload_n (pc := 1) hx hb dX7_leads_1 rfl (lv_at hl 1 rfl) ?_
  refine g_callVi (pc := 2) E Y 0 S_0 V_7 o_X7_isRunner q_618 [.int a0] rfl rfl (hR_of (by omega) (by decide)) hl.1 (rest := []) rfl (Nat.le_of_ble_eq_true rfl) dX7_leads_2 (fun z hz => m_X7_isRunner_0 hz) hf (fun v1 μ2 H locs hf Y => ?_)
  refine g_if_eq (pc := 5) (tgt := 15) E dX7_leads_5 (by decide) hf (fun hf => ?_) (fun hf => ?_)
  · refine lv_aload_n (pc := 15) hx hb dX7_leads_15 rfl (lv_at hl 0 rfl) ?_
    refine lv_iconst (pc := 16) (v := 1) hx hb dX7_leads_16 (by decide) ?_
    refine g_callVi (pc := 17) E Y 0 S_0 V_7 o_X7_error q_656 [.int 1] rfl rfl (hR_of (by omega) (by decide)) hl.1 (rest := []) rfl (Nat.le_of_ble_eq_true rfl) dX7_leads_17 (fun z hz => m_X7_error_0 hz) hf (fun v3 μ4 H locs hf Y => ?_)
    exact g_iret (pc := 20) E Y hr hk dX7_leads_20 hf
  · refine lv_iload_n (pc := 8) hx hb dX7_leads_8 rfl (lv_at hl 2 rfl) ?_
    refine g_callSi (pc := 9) E Y o_X7_isFeet q_621 [.int a1] rfl rfl (hR_of (by omega) (by decide)) hl.1 (rest := []) rfl (Nat.le_of_ble_eq_true rfl) dX7_leads_9 (fun z hz => m_X7_isFeet hz) hf (fun v5 μ6 H locs hf Y => ?_)
    refine g_if_ne (pc := 12) (tgt := 21) E dX7_leads_12 (by decide) hf (fun hf => ?_) (fun hf => ?_)
    · refine lv_aload_n (pc := 21) hx hb dX7_leads_21 rfl (lv_at hl 0 rfl) ?_
      refine g_getr (pc := 22) E Y 0 0 1 S_0 rfl V_7 (by decide) AL_X7 q_301 dX7_leads_22 ?_
      refine g_getr (pc := 25) E Y 1 1 7 S_1 rfl V_3 (by decide) AL_X3 q_302 dX7_leads_25 ?_
      refine g_getr (pc := 28) E Y 7 2 10 S_7 rfl V_2 (by decide) AL_X2 q_304 dX7_leads_28 ?_
      refine lv_iload_n (pc := 31) hx hb dX7_leads_31 rfl (lv_at hl 1 rfl) ?_
      refine g_iald (pc := 32) E Y 10 S_10 dX7_leads_32 hf (fun v7 hf => ?_)
      refine lv_istore_n (pc := 33) (lv' := [(3, .int v7), (0, .ref (ad 0)), (1, .int a0), (2, .int a1)]) hx hb dX7_leads_33 rfl hl (by decide) rfl (fun ls hl => ?_)
      refine lv_aload_n (pc := 34) hx hb dX7_leads_34 rfl (lv_at hl 1 rfl) ?_
      refine g_getr (pc := 35) E Y 0 0 1 S_0 rfl V_7 (by decide) AL_X7 q_301 dX7_leads_35 ?_
      refine g_getr (pc := 38) E Y 1 1 7 S_1 rfl V_3 (by decide) AL_X3 q_302 dX7_leads_38 ?_
      refine g_getr (pc := 41) E Y 7 2 10 S_7 rfl V_2 (by decide) AL_X2 q_304 dX7_leads_41 ?_
      refine lv_iload_n (pc := 44) hx hb dX7_leads_44 rfl (lv_at hl 2 rfl) ?_
      refine lv_iload_n (pc := 45) hx hb dX7_leads_45 rfl (lv_at hl 3 rfl) ?_
      refine g_iast (pc := 46) E Y 10 S_10 dX7_leads_46 hf (fun μ8 H locs hf Y => ?_)
      refine lv_iload_n (pc := 47) hx hb dX7_leads_47 rfl (lv_at hl 0 rfl) ?_
      exact g_iret (pc := 48) E Y hr hk dX7_leads_48 hf
    · refine lv_aload_n (pc := 15) hx hb dX7_leads_15 rfl (lv_at hl 0 rfl) ?_
      refine lv_iconst (pc := 16) (v := 1) hx hb dX7_leads_16 (by decide) ?_
      refine g_callVi (pc := 17) E Y 0 S_0 V_7 o_X7_error q_656 [.int 1] rfl rfl (hR_of (by omega) (by decide)) hl.1 (rest := []) rfl (Nat.le_of_ble_eq_true rfl) dX7_leads_17 (fun z hz => m_X7_error_0 hz) hf (fun v9 μ10 H locs hf Y => ?_)
      exact g_iret (pc := 20) E Y hr hk dX7_leads_20 hf
def f_X7_mostOfSetting (a0 : Int32) (σ : Mem) : Res := if a0 = 0 then (some (200, σ)) else (if a0 = 1 then (some (200, σ)) else (if a0 = 2 then (some (9, σ)) else (some (2, σ))))
set_option maxHeartbeats 4000000 in
set_option maxRecDepth 100000 in
theorem m_X7_mostOfSetting {l : Launch} {σ : Mem} {Z : Int32 × Mem} {a0 : Int32} (hf : f_X7_mostOfSetting a0 σ = some Z) : CT l yX7_mostOfSetting cX7_mostOfSetting 1 (some .int) 0 (fun _ => [.int a0]) σ Z := by
  refine g_openT RX7 (by decide) rfl (fun _ => Nat.le_of_ble_eq_true rfl) (fun p e s m below meth c D cI cB ad st ls E Y hr hk hl => ?_)
  have hx := E.1.1
  have hb := E.1.2.1
  have hl : lv_has ls 1 [(0, .int a0)] := hl
  unfold f_X7_mostOfSetting at hf
  refine lv_iload_n (pc := 0) hx hb dX7_mostOfSetting_0 rfl (lv_at hl 0 rfl) ?_
  by_cases hc : a0 = 0
  · rw [if_pos hc] at hf
    refine g_tabIn (pc := 1) (tgt := 28) E dX7_mostOfSetting_1 hc (n := 0) (by decide) (by decide) (by decide) rfl (by decide) ?_
    refine lv_sipush (pc := 28) (v := 200) hx hb dX7_mostOfSetting_28 (by decide) ?_
    exact g_iret (pc := 31) E Y hr hk dX7_mostOfSetting_31 hf
  · rw [if_neg hc] at hf
    have n_0 := ti_ne (n := 0) (by decide) hc
    clear hc
    by_cases hc : a0 = 1
    · rw [if_pos hc] at hf
      refine g_tabIn (pc := 1) (tgt := 32) E dX7_mostOfSetting_1 hc (n := 1) (by decide) (by decide) (by decide) rfl (by decide) ?_
      refine lv_sipush (pc := 32) (v := 200) hx hb dX7_mostOfSetting_32 (by decide) ?_
      exact g_iret (pc := 35) E Y hr hk dX7_mostOfSetting_35 hf
    · rw [if_neg hc] at hf
      have n_1 := ti_ne (n := 1) (by decide) hc
      clear hc
      by_cases hc : a0 = 2
      · rw [if_pos hc] at hf
        refine g_tabIn (pc := 1) (tgt := 36) E dX7_mostOfSetting_1 hc (n := 2) (by decide) (by decide) (by decide) rfl (by decide) ?_
        refine lv_bipush (pc := 36) (v := 9) hx hb dX7_mostOfSetting_36 (by decide) ?_
        exact g_iret (pc := 38) E Y hr hk dX7_mostOfSetting_38 hf
      · rw [if_neg hc] at hf
        have n_2 := ti_ne (n := 2) (by decide) hc
        clear hc
        refine lv_tableOut (pc := 1) (tgt := 39) hx hb dX7_mostOfSetting_1 (by omega) (by decide) ?_
        refine lv_iconst (pc := 39) (v := 2) hx hb dX7_mostOfSetting_39 (by decide) ?_
        exact g_iret (pc := 40) E Y hr hk dX7_mostOfSetting_40 hf
def f_X3_change_1 (a0 : Int32) (a1 : Int32) (σ : Mem) : Res := if a0 = 0 then (nm (σ 1 8) fun (v1 : Int32) => nm (mset σ 1 8 a1) fun (μ2 : Mem) => some (v1, μ2)) else (if a0 = 1 then (nm (σ 1 9) fun (v3 : Int32) => nm (mset σ 1 9 a1) fun (μ4 : Mem) => some (v3, μ4)) else (if a0 = 2 then (nm (σ 1 10) fun (v5 : Int32) => nm (mset σ 1 10 a1) fun (μ6 : Mem) => some (v5, μ6)) else (nm (σ 1 11) fun (v7 : Int32) => nm (mset σ 1 11 a1) fun (μ8 : Mem) => some (v7, μ8))))
set_option maxHeartbeats 4000000 in
set_option maxRecDepth 100000 in
theorem m_X3_change_1 {l : Launch} {σ : Mem} {Z : Int32 × Mem} {a0 : Int32} {a1 : Int32} (hf : f_X3_change_1 a0 a1 σ = some Z) : CT l yX3_change cX3_change 4 (some .int) 0 (fun ad => [.ref (ad 1), .int a0, .int a1]) σ Z := by
  refine g_openT RX3 (by decide) rfl (fun _ => Nat.le_of_ble_eq_true rfl) (fun p e s m below meth c D cI cB ad st ls E Y hr hk hl => ?_)
  have hx := E.1.1
  have hb := E.1.2.1
  have hl : lv_has ls 4 [(0, .ref (ad 1)), (1, .int a0), (2, .int a1)] := hl
  unfold f_X3_change_1 at hf
  refine lv_iload_n (pc := 0) hx hb dX3_change_0 rfl (lv_at hl 1 rfl) ?_
  by_cases hc : a0 = 0
  · rw [if_pos hc] at hf
    refine g_tabIn (pc := 1) (tgt := 28) E dX3_change_1 hc (n := 0) (by decide) (by decide) (by decide) rfl (by decide) ?_
    refine lv_aload_n (pc := 28) hx hb dX3_change_28 rfl (lv_at hl 0 rfl) ?_
    refine g_geti (pc := 29) E Y 1 8 S_1 rfl V_3 (by decide) AL_X3 q_279 dX3_change_29 hf (fun v1 hf => ?_)
    refine lv_istore_n (pc := 32) (lv' := [(3, .int v1), (0, .ref (ad 1)), (1, .int a0), (2, .int a1)]) hx hb dX3_change_32 rfl hl (by decide) rfl (fun ls hl => ?_)
    refine lv_aload_n (pc := 33) hx hb dX3_change_33 rfl (lv_at hl 1 rfl) ?_
    refine lv_iload_n (pc := 34) hx hb dX3_change_34 rfl (lv_at hl 3 rfl) ?_
    refine g_put (pc := 35) E Y 1 8 S_1 rfl V_3 (by decide) AL_X3 tyX3 tyX3_ok nmX3 q_279 rfl rfl rfl dX3_change_35 hf (fun μ2 H locs hf Y => ?_)
    refine lv_goto (pc := 38) (tgt := 77) hx hb dX3_change_38 (by decide) ?_
    refine lv_iload_n (pc := 77) hx hb dX3_change_77 rfl (lv_at hl 0 rfl) ?_
    exact g_iret (pc := 78) E Y hr hk dX3_change_78 hf
  · rw [if_neg hc] at hf
    have n_0 := ti_ne (n := 0) (by decide) hc
    clear hc
    by_cases hc : a0 = 1
    · rw [if_pos hc] at hf
      refine g_tabIn (pc := 1) (tgt := 41) E dX3_change_1 hc (n := 1) (by decide) (by decide) (by decide) rfl (by decide) ?_
      refine lv_aload_n (pc := 41) hx hb dX3_change_41 rfl (lv_at hl 0 rfl) ?_
      refine g_geti (pc := 42) E Y 1 9 S_1 rfl V_3 (by decide) AL_X3 q_280 dX3_change_42 hf (fun v3 hf => ?_)
      refine lv_istore_n (pc := 45) (lv' := [(3, .int v3), (0, .ref (ad 1)), (1, .int a0), (2, .int a1)]) hx hb dX3_change_45 rfl hl (by decide) rfl (fun ls hl => ?_)
      refine lv_aload_n (pc := 46) hx hb dX3_change_46 rfl (lv_at hl 1 rfl) ?_
      refine lv_iload_n (pc := 47) hx hb dX3_change_47 rfl (lv_at hl 3 rfl) ?_
      refine g_put (pc := 48) E Y 1 9 S_1 rfl V_3 (by decide) AL_X3 tyX3 tyX3_ok nmX3 q_280 rfl rfl rfl dX3_change_48 hf (fun μ4 H locs hf Y => ?_)
      refine lv_goto (pc := 51) (tgt := 77) hx hb dX3_change_51 (by decide) ?_
      refine lv_iload_n (pc := 77) hx hb dX3_change_77 rfl (lv_at hl 0 rfl) ?_
      exact g_iret (pc := 78) E Y hr hk dX3_change_78 hf
    · rw [if_neg hc] at hf
      have n_1 := ti_ne (n := 1) (by decide) hc
      clear hc
      by_cases hc : a0 = 2
      · rw [if_pos hc] at hf
        refine g_tabIn (pc := 1) (tgt := 54) E dX3_change_1 hc (n := 2) (by decide) (by decide) (by decide) rfl (by decide) ?_
        refine lv_aload_n (pc := 54) hx hb dX3_change_54 rfl (lv_at hl 0 rfl) ?_
        refine g_geti (pc := 55) E Y 1 10 S_1 rfl V_3 (by decide) AL_X3 q_281 dX3_change_55 hf (fun v5 hf => ?_)
        refine lv_istore_n (pc := 58) (lv' := [(3, .int v5), (0, .ref (ad 1)), (1, .int a0), (2, .int a1)]) hx hb dX3_change_58 rfl hl (by decide) rfl (fun ls hl => ?_)
        refine lv_aload_n (pc := 59) hx hb dX3_change_59 rfl (lv_at hl 1 rfl) ?_
        refine lv_iload_n (pc := 60) hx hb dX3_change_60 rfl (lv_at hl 3 rfl) ?_
        refine g_put (pc := 61) E Y 1 10 S_1 rfl V_3 (by decide) AL_X3 tyX3 tyX3_ok nmX3 q_281 rfl rfl rfl dX3_change_61 hf (fun μ6 H locs hf Y => ?_)
        refine lv_goto (pc := 64) (tgt := 77) hx hb dX3_change_64 (by decide) ?_
        refine lv_iload_n (pc := 77) hx hb dX3_change_77 rfl (lv_at hl 0 rfl) ?_
        exact g_iret (pc := 78) E Y hr hk dX3_change_78 hf
      · rw [if_neg hc] at hf
        have n_2 := ti_ne (n := 2) (by decide) hc
        clear hc
        refine lv_tableOut (pc := 1) (tgt := 67) hx hb dX3_change_1 (by omega) (by decide) ?_
        refine lv_aload_n (pc := 67) hx hb dX3_change_67 rfl (lv_at hl 0 rfl) ?_
        refine g_geti (pc := 68) E Y 1 11 S_1 rfl V_3 (by decide) AL_X3 q_282 dX3_change_68 hf (fun v7 hf => ?_)
        refine lv_istore_n (pc := 71) (lv' := [(3, .int v7), (0, .ref (ad 1)), (1, .int a0), (2, .int a1)]) hx hb dX3_change_71 rfl hl (by decide) rfl (fun ls hl => ?_)
        refine lv_aload_n (pc := 72) hx hb dX3_change_72 rfl (lv_at hl 1 rfl) ?_
        refine lv_iload_n (pc := 73) hx hb dX3_change_73 rfl (lv_at hl 3 rfl) ?_
        refine g_put (pc := 74) E Y 1 11 S_1 rfl V_3 (by decide) AL_X3 tyX3 tyX3_ok nmX3 q_282 rfl rfl rfl dX3_change_74 hf (fun μ8 H locs hf Y => ?_)
        refine lv_iload_n (pc := 77) hx hb dX3_change_77 rfl (lv_at hl 0 rfl) ?_
        exact g_iret (pc := 78) E Y hr hk dX3_change_78 hf
def f_X7_set_0 (a0 : Int32) (a1 : Int32) (σ : Mem) : Res := bd (f_X7_within a0 0 3 σ) fun v1 μ2 => if v1 = 0 then (bd (f_X7_error_0 1 μ2) fun v3 μ4 => some (v3, μ4)) else (bd (f_X7_mostOfSetting a0 μ2) fun v5 μ6 => bd (f_X7_within a1 0 v5 μ6) fun v7 μ8 => if v7 = 0 then (bd (f_X7_error_0 1 μ8) fun v11 μ12 => some (v11, μ12)) else (bd (f_X3_change_1 a0 a1 μ8) fun v9 μ10 => some (v9, μ10)))
set_option maxHeartbeats 4000000 in
set_option maxRecDepth 100000 in
theorem m_X7_set_0 {l : Launch} {σ : Mem} {Z : Int32 × Mem} {a0 : Int32} {a1 : Int32} (hf : f_X7_set_0 a0 a1 σ = some Z) : CT l yX7_set cX7_set 3 (some .int) 1 (fun ad => [.ref (ad 0), .int a0, .int a1]) σ Z := by
  refine g_openT RX7 (by decide) rfl (fun _ => Nat.le_of_ble_eq_true rfl) (fun p e s m below meth c D cI cB ad st ls E Y hr hk hl => ?_)
  have hx := E.1.1
  have hb := E.1.2.1
  have hl : lv_has ls 3 [(0, .ref (ad 0)), (1, .int a0), (2, .int a1)] := hl
  unfold f_X7_set_0 at hf
  refine lv_iload_n (pc := 0) hx hb dX7_set_0 rfl (lv_at hl 1 rfl) ?_
  refine lv_iconst (pc := 1) (v := 0) hx hb dX7_set_1 (by decide) ?_
  refine lv_iconst (pc := 2) (v := 3) hx hb dX7_set_2 (by decide) ?_
  refine g_callSi (pc := 3) E Y o_X7_within q_661 [.int a0, .int 0, .int 3] rfl rfl (hR_of (by omega) (by decide)) hl.1 (rest := []) rfl (Nat.le_of_ble_eq_true rfl) dX7_set_3 (fun z hz => m_X7_within hz) hf (fun v1 μ2 H locs hf Y => ?_)
  refine g_if_eq (pc := 6) (tgt := 21) E dX7_set_6 (by decide) hf (fun hf => ?_) (fun hf => ?_)
  · refine lv_aload_n (pc := 21) hx hb dX7_set_21 rfl (lv_at hl 0 rfl) ?_
    refine lv_iconst (pc := 22) (v := 1) hx hb dX7_set_22 (by decide) ?_
    refine g_callVi (pc := 23) E Y 0 S_0 V_7 o_X7_error q_656 [.int 1] rfl rfl (hR_of (by omega) (by decide)) hl.1 (rest := []) rfl (Nat.le_of_ble_eq_true rfl) dX7_set_23 (fun z hz => m_X7_error_0 hz) hf (fun v3 μ4 H locs hf Y => ?_)
    exact g_iret (pc := 26) E Y hr hk dX7_set_26 hf
  · refine lv_iload_n (pc := 9) hx hb dX7_set_9 rfl (lv_at hl 2 rfl) ?_
    refine lv_iconst (pc := 10) (v := 0) hx hb dX7_set_10 (by decide) ?_
    refine lv_iload_n (pc := 11) hx hb dX7_set_11 rfl (lv_at hl 1 rfl) ?_
    refine g_callSi (pc := 12) E Y o_X7_mostOfSetting q_622 [.int a0] rfl rfl (hR_of (by omega) (by decide)) hl.1 (rest := [.int 0, .int a1]) rfl (Nat.le_of_ble_eq_true rfl) dX7_set_12 (fun z hz => m_X7_mostOfSetting hz) hf (fun v5 μ6 H locs hf Y => ?_)
    refine g_callSi (pc := 15) E Y o_X7_within q_661 [.int a1, .int 0, .int v5] rfl rfl (hR_of (by omega) (by decide)) hl.1 (rest := []) rfl (Nat.le_of_ble_eq_true rfl) dX7_set_15 (fun z hz => m_X7_within hz) hf (fun v7 μ8 H locs hf Y => ?_)
    refine g_if_ne (pc := 18) (tgt := 27) E dX7_set_18 (by decide) hf (fun hf => ?_) (fun hf => ?_)
    · refine lv_aload_n (pc := 27) hx hb dX7_set_27 rfl (lv_at hl 0 rfl) ?_
      refine g_getr (pc := 28) E Y 0 0 1 S_0 rfl V_7 (by decide) AL_X7 q_301 dX7_set_28 ?_
      refine lv_iload_n (pc := 31) hx hb dX7_set_31 rfl (lv_at hl 1 rfl) ?_
      refine lv_iload_n (pc := 32) hx hb dX7_set_32 rfl (lv_at hl 2 rfl) ?_
      refine g_callVi (pc := 33) E Y 1 S_1 V_3 o_X3_change q_623 [.int a0, .int a1] rfl rfl (hR_of (by omega) (by decide)) hl.1 (rest := []) rfl (Nat.le_of_ble_eq_true rfl) dX7_set_33 (fun z hz => m_X3_change_1 hz) hf (fun v9 μ10 H locs hf Y => ?_)
      exact g_iret (pc := 36) E Y hr hk dX7_set_36 hf
    · refine lv_aload_n (pc := 21) hx hb dX7_set_21 rfl (lv_at hl 0 rfl) ?_
      refine lv_iconst (pc := 22) (v := 1) hx hb dX7_set_22 (by decide) ?_
      refine g_callVi (pc := 23) E Y 0 S_0 V_7 o_X7_error q_656 [.int 1] rfl rfl (hR_of (by omega) (by decide)) hl.1 (rest := []) rfl (Nat.le_of_ble_eq_true rfl) dX7_set_23 (fun z hz => m_X7_error_0 hz) hf (fun v11 μ12 H locs hf Y => ?_)
      exact g_iret (pc := 26) E Y hr hk dX7_set_26 hf
def f_X3_marginFrom_1 (a0 : Int32) (a1 : Int32) (a2 : Int32) (σ : Mem) : Res := nm (σ 1 8) fun (v1 : Int32) => bd (f_X3_air_1 a1 σ) fun v2 μ3 => nm (v1 + v2) fun (v4 : Int32) => nm (μ3 1 9) fun (v5 : Int32) => nm (v4 + v5) fun (v6 : Int32) => bd (f_X2_runFrom_7 a0 a2 μ3) fun v7 μ8 => nm (v6 - v7) fun (v9 : Int32) => some (v9, μ8)
set_option maxHeartbeats 4000000 in
set_option maxRecDepth 100000 in
theorem m_X3_marginFrom_1 {l : Launch} {σ : Mem} {Z : Int32 × Mem} {a0 : Int32} {a1 : Int32} {a2 : Int32} (hf : f_X3_marginFrom_1 a0 a1 a2 σ = some Z) : CT l yX3_marginFrom cX3_marginFrom 4 (some .int) 4 (fun ad => [.ref (ad 1), .int a0, .int a1, .int a2]) σ Z := by
  refine g_openT RX3 (by decide) rfl (fun _ => Nat.le_of_ble_eq_true rfl) (fun p e s m below meth c D cI cB ad st ls E Y hr hk hl => ?_)
  have hx := E.1.1
  have hb := E.1.2.1
  have hl : lv_has ls 4 [(0, .ref (ad 1)), (1, .int a0), (2, .int a1), (3, .int a2)] := hl
  unfold f_X3_marginFrom_1 at hf
  refine lv_aload_n (pc := 0) hx hb dX3_marginFrom_0 rfl (lv_at hl 0 rfl) ?_
  refine g_geti (pc := 1) E Y 1 8 S_1 rfl V_3 (by decide) AL_X3 q_279 dX3_marginFrom_1 hf (fun v1 hf => ?_)
  refine lv_aload_n (pc := 4) hx hb dX3_marginFrom_4 rfl (lv_at hl 0 rfl) ?_
  refine lv_iload_n (pc := 5) hx hb dX3_marginFrom_5 rfl (lv_at hl 2 rfl) ?_
  refine g_callVi (pc := 6) E Y 1 S_1 V_3 o_X3_air q_583 [.int a1] rfl rfl (hR_of (by omega) (by decide)) hl.1 (rest := [.int v1]) rfl (Nat.le_of_ble_eq_true rfl) dX3_marginFrom_6 (fun z hz => m_X3_air_1 hz) hf (fun v2 μ3 H locs hf Y => ?_)
  refine g_iadd (pc := 9) E dX3_marginFrom_9 hf (fun v4 hf => ?_)
  refine lv_aload_n (pc := 10) hx hb dX3_marginFrom_10 rfl (lv_at hl 0 rfl) ?_
  refine g_geti (pc := 11) E Y 1 9 S_1 rfl V_3 (by decide) AL_X3 q_280 dX3_marginFrom_11 hf (fun v5 hf => ?_)
  refine g_iadd (pc := 14) E dX3_marginFrom_14 hf (fun v6 hf => ?_)
  refine lv_aload_n (pc := 15) hx hb dX3_marginFrom_15 rfl (lv_at hl 0 rfl) ?_
  refine g_getr (pc := 16) E Y 1 1 7 S_1 rfl V_3 (by decide) AL_X3 q_272 dX3_marginFrom_16 ?_
  refine lv_iload_n (pc := 19) hx hb dX3_marginFrom_19 rfl (lv_at hl 1 rfl) ?_
  refine lv_iload_n (pc := 20) hx hb dX3_marginFrom_20 rfl (lv_at hl 3 rfl) ?_
  refine g_callVi (pc := 21) E Y 7 S_7 V_2 o_X2_runFrom q_584 [.int a0, .int a2] rfl rfl (hR_of (by omega) (by decide)) hl.1 (rest := [.int v6]) rfl (Nat.le_of_ble_eq_true rfl) dX3_marginFrom_21 (fun z hz => m_X2_runFrom_7 hz) hf (fun v7 μ8 H locs hf Y => ?_)
  refine g_isub (pc := 24) E dX3_marginFrom_24 hf (fun v9 hf => ?_)
  exact g_iret (pc := 25) E Y hr hk dX3_marginFrom_25 hf
def f_X3_gainOf_1 (a0 : Int32) (σ : Mem) : Res := if a0 < 0 then (nm (σ 1 11) fun (v1 : Int32) => bd (f_X3_gives_1 1 0 a0 v1 σ) fun v2 μ3 => some (v2, μ3)) else (nm (σ 1 11) fun (v4 : Int32) => bd (f_X3_gives_1 1 1 a0 v4 σ) fun v5 μ6 => some (v5, μ6))
set_option maxHeartbeats 4000000 in
set_option maxRecDepth 100000 in
theorem m_X3_gainOf_1 {l : Launch} {σ : Mem} {Z : Int32 × Mem} {a0 : Int32} (hf : f_X3_gainOf_1 a0 σ = some Z) : CT l yX3_gainOf cX3_gainOf 2 (some .int) 3 (fun ad => [.ref (ad 1), .int a0]) σ Z := by
  refine g_openT RX3 (by decide) rfl (fun _ => Nat.le_of_ble_eq_true rfl) (fun p e s m below meth c D cI cB ad st ls E Y hr hk hl => ?_)
  have hx := E.1.1
  have hb := E.1.2.1
  have hl : lv_has ls 2 [(0, .ref (ad 1)), (1, .int a0)] := hl
  unfold f_X3_gainOf_1 at hf
  refine lv_aload_n (pc := 0) hx hb dX3_gainOf_0 rfl (lv_at hl 0 rfl) ?_
  refine lv_iconst (pc := 1) (v := 1) hx hb dX3_gainOf_1 (by decide) ?_
  refine lv_iload_n (pc := 2) hx hb dX3_gainOf_2 rfl (lv_at hl 1 rfl) ?_
  refine g_if_lt (pc := 3) (tgt := 10) E dX3_gainOf_3 (by decide) hf (fun hf => ?_) (fun hf => ?_)
  · refine lv_iconst (pc := 10) (v := 0) hx hb dX3_gainOf_10 (by decide) ?_
    refine lv_iload_n (pc := 11) hx hb dX3_gainOf_11 rfl (lv_at hl 1 rfl) ?_
    refine lv_aload_n (pc := 12) hx hb dX3_gainOf_12 rfl (lv_at hl 0 rfl) ?_
    refine g_geti (pc := 13) E Y 1 11 S_1 rfl V_3 (by decide) AL_X3 q_282 dX3_gainOf_13 hf (fun v1 hf => ?_)
    refine g_callVi (pc := 16) E Y 1 S_1 V_3 o_X3_gives q_581 [.int 1, .int 0, .int a0, .int v1] rfl rfl (hR_of (by omega) (by decide)) hl.1 (rest := []) rfl (Nat.le_of_ble_eq_true rfl) dX3_gainOf_16 (fun z hz => m_X3_gives_1 hz) hf (fun v2 μ3 H locs hf Y => ?_)
    exact g_iret (pc := 19) E Y hr hk dX3_gainOf_19 hf
  · refine lv_iconst (pc := 6) (v := 1) hx hb dX3_gainOf_6 (by decide) ?_
    refine lv_goto (pc := 7) (tgt := 11) hx hb dX3_gainOf_7 (by decide) ?_
    refine lv_iload_n (pc := 11) hx hb dX3_gainOf_11 rfl (lv_at hl 1 rfl) ?_
    refine lv_aload_n (pc := 12) hx hb dX3_gainOf_12 rfl (lv_at hl 0 rfl) ?_
    refine g_geti (pc := 13) E Y 1 11 S_1 rfl V_3 (by decide) AL_X3 q_282 dX3_gainOf_13 hf (fun v4 hf => ?_)
    refine g_callVi (pc := 16) E Y 1 S_1 V_3 o_X3_gives q_581 [.int 1, .int 1, .int a0, .int v4] rfl rfl (hR_of (by omega) (by decide)) hl.1 (rest := []) rfl (Nat.le_of_ble_eq_true rfl) dX3_gainOf_16 (fun z hz => m_X3_gives_1 hz) hf (fun v5 μ6 H locs hf Y => ?_)
    exact g_iret (pc := 19) E Y hr hk dX3_gainOf_19 hf
def f_X3_oneMore (a0 : Int32) (σ : Mem) : Res := nm (a0 + 1) fun (v1 : Int32) => nm (if v1 < 9999 then v1 else 9999) fun (v2 : Int32) => some (v2, σ)
set_option maxHeartbeats 4000000 in
set_option maxRecDepth 100000 in
theorem m_X3_oneMore {l : Launch} {σ : Mem} {Z : Int32 × Mem} {a0 : Int32} (hf : f_X3_oneMore a0 σ = some Z) : CT l yX3_oneMore cX3_oneMore 1 (some .int) 1 (fun _ => [.int a0]) σ Z := by
  refine g_openT RX3 (by decide) rfl (fun _ => Nat.le_of_ble_eq_true rfl) (fun p e s m below meth c D cI cB ad st ls E Y hr hk hl => ?_)
  have hx := E.1.1
  have hb := E.1.2.1
  have hl : lv_has ls 1 [(0, .int a0)] := hl
  unfold f_X3_oneMore at hf
  refine lv_sipush (pc := 0) (v := 9999) hx hb dX3_oneMore_0 (by decide) ?_
  refine lv_iload_n (pc := 3) hx hb dX3_oneMore_3 rfl (lv_at hl 0 rfl) ?_
  refine lv_iconst (pc := 4) (v := 1) hx hb dX3_oneMore_4 (by decide) ?_
  refine g_iadd (pc := 5) E dX3_oneMore_5 hf (fun v1 hf => ?_)
  refine g_mmin (pc := 6) E hl.1 q_595 q_902 q_359 q_12 (hR_one (by omega)) (hR_lo (by omega) (Nat.le_of_ble_eq_true rfl)) dX3_oneMore_6 hf (fun v2 hf => ?_)
  exact g_iret (pc := 9) E Y hr hk dX3_oneMore_9 hf
def f_X3_isOut_1 (a0 : Int32) (σ : Mem) : Res := gi a0 5 <| nm (σ 12 a0.toNatClampNeg) fun (v1 : Int32) => bd (f_X3_oneMore v1 σ) fun v2 μ3 => gi a0 5 <| nm (mset μ3 12 a0.toNatClampNeg v2) fun (μ4 : Mem) => gi a0 5 <| nm (mset μ4 10 a0.toNatClampNeg 0) fun (μ5 : Mem) => nm (μ5 1 11) fun (v6 : Int32) => nm (v6 + 1) fun (v7 : Int32) => nm (mset μ5 1 11 v7) fun (μ8 : Mem) => nm (μ8 1 11) fun (v9 : Int32) => if v9 < 3 then (some (0, μ8)) else (nm (mset μ8 1 11 0) fun (μ10 : Mem) => nm (μ10 1 12) fun (v11 : Int32) => bd (f_X3_oneMore v11 μ10) fun v12 μ13 => nm (mset μ13 1 12 v12) fun (μ14 : Mem) => some (0, μ14))
set_option maxHeartbeats 4000000 in
set_option maxRecDepth 100000 in
theorem m_X3_isOut_1 {l : Launch} {σ : Mem} {Z : Int32 × Mem} {a0 : Int32} (hf : f_X3_isOut_1 a0 σ = some Z) : CV l yX3_isOut cX3_isOut 2 2 (fun ad => [.ref (ad 1), .int a0]) σ Z := by
  refine g_openV RX3 (by decide) rfl (fun _ => Nat.le_of_ble_eq_true rfl) (fun p e s m below meth c D cI cB ad st ls E Y hr hk hl => ?_)
  have hx := E.1.1
  have hb := E.1.2.1
  have hl : lv_has ls 2 [(0, .ref (ad 1)), (1, .int a0)] := hl
  unfold f_X3_isOut_1 at hf
  refine lv_aload_n (pc := 0) hx hb dX3_isOut_0 rfl (lv_at hl 0 rfl) ?_
  refine g_getr (pc := 1) E Y 1 1 7 S_1 rfl V_3 (by decide) AL_X3 q_272 dX3_isOut_1 ?_
  refine g_getr (pc := 4) E Y 7 4 12 S_7 rfl V_2 (by decide) AL_X2 q_270 dX3_isOut_4 ?_
  refine lv_iload_n (pc := 7) hx hb dX3_isOut_7 rfl (lv_at hl 1 rfl) ?_
  refine lv_aload_n (pc := 8) hx hb dX3_isOut_8 rfl (lv_at hl 0 rfl) ?_
  refine g_getr (pc := 9) E Y 1 1 7 S_1 rfl V_3 (by decide) AL_X3 q_272 dX3_isOut_9 ?_
  refine g_getr (pc := 12) E Y 7 4 12 S_7 rfl V_2 (by decide) AL_X2 q_270 dX3_isOut_12 ?_
  refine lv_iload_n (pc := 15) hx hb dX3_isOut_15 rfl (lv_at hl 1 rfl) ?_
  refine g_iald (pc := 16) E Y 12 S_12 dX3_isOut_16 hf (fun v1 hf => ?_)
  refine g_callSi (pc := 17) E Y o_X3_oneMore q_588 [.int v1] rfl rfl (hR_of (by omega) (by decide)) hl.1 (rest := [.int a0, .ref (ad 12)]) rfl (Nat.le_of_ble_eq_true rfl) dX3_isOut_17 (fun z hz => m_X3_oneMore hz) hf (fun v2 μ3 H locs hf Y => ?_)
  refine g_iast (pc := 20) E Y 12 S_12 dX3_isOut_20 hf (fun μ4 H locs hf Y => ?_)
  refine lv_aload_n (pc := 21) hx hb dX3_isOut_21 rfl (lv_at hl 0 rfl) ?_
  refine g_getr (pc := 22) E Y 1 1 7 S_1 rfl V_3 (by decide) AL_X3 q_272 dX3_isOut_22 ?_
  refine g_getr (pc := 25) E Y 7 2 10 S_7 rfl V_2 (by decide) AL_X2 q_268 dX3_isOut_25 ?_
  refine lv_iload_n (pc := 28) hx hb dX3_isOut_28 rfl (lv_at hl 1 rfl) ?_
  refine lv_iconst (pc := 29) (v := 0) hx hb dX3_isOut_29 (by decide) ?_
  refine g_iast (pc := 30) E Y 10 S_10 dX3_isOut_30 hf (fun μ5 H locs hf Y => ?_)
  refine lv_aload_n (pc := 31) hx hb dX3_isOut_31 rfl (lv_at hl 0 rfl) ?_
  refine lv_dup (pc := 32) hx hb dX3_isOut_32 rfl ?_
  refine g_geti (pc := 33) E Y 1 11 S_1 rfl V_3 (by decide) AL_X3 q_282 dX3_isOut_33 hf (fun v6 hf => ?_)
  refine lv_iconst (pc := 36) (v := 1) hx hb dX3_isOut_36 (by decide) ?_
  refine g_iadd (pc := 37) E dX3_isOut_37 hf (fun v7 hf => ?_)
  refine g_put (pc := 38) E Y 1 11 S_1 rfl V_3 (by decide) AL_X3 tyX3 tyX3_ok nmX3 q_282 rfl rfl rfl dX3_isOut_38 hf (fun μ8 H locs hf Y => ?_)
  refine lv_aload_n (pc := 41) hx hb dX3_isOut_41 rfl (lv_at hl 0 rfl) ?_
  refine g_geti (pc := 42) E Y 1 11 S_1 rfl V_3 (by decide) AL_X3 q_282 dX3_isOut_42 hf (fun v9 hf => ?_)
  refine lv_iconst (pc := 45) (v := 3) hx hb dX3_isOut_45 (by decide) ?_
  refine g_icmp_lt (pc := 46) (tgt := 65) E dX3_isOut_46 (by decide) hf (fun hf => ?_) (fun hf => ?_)
  · exact g_vret (pc := 65) E Y hr hk dX3_isOut_65 hf
  · refine lv_aload_n (pc := 49) hx hb dX3_isOut_49 rfl (lv_at hl 0 rfl) ?_
    refine lv_iconst (pc := 50) (v := 0) hx hb dX3_isOut_50 (by decide) ?_
    refine g_put (pc := 51) E Y 1 11 S_1 rfl V_3 (by decide) AL_X3 tyX3 tyX3_ok nmX3 q_282 rfl rfl rfl dX3_isOut_51 hf (fun μ10 H locs hf Y => ?_)
    refine lv_aload_n (pc := 54) hx hb dX3_isOut_54 rfl (lv_at hl 0 rfl) ?_
    refine lv_aload_n (pc := 55) hx hb dX3_isOut_55 rfl (lv_at hl 0 rfl) ?_
    refine g_geti (pc := 56) E Y 1 12 S_1 rfl V_3 (by decide) AL_X3 q_283 dX3_isOut_56 hf (fun v11 hf => ?_)
    refine g_callSi (pc := 59) E Y o_X3_oneMore q_588 [.int v11] rfl rfl (hR_of (by omega) (by decide)) hl.1 (rest := [.ref (ad 1)]) rfl (Nat.le_of_ble_eq_true rfl) dX3_isOut_59 (fun z hz => m_X3_oneMore hz) hf (fun v12 μ13 H locs hf Y => ?_)
    refine g_put (pc := 62) E Y 1 12 S_1 rfl V_3 (by decide) AL_X3 tyX3 tyX3_ok nmX3 q_283 rfl rfl rfl dX3_isOut_62 hf (fun μ14 H locs hf Y => ?_)
    exact g_vret (pc := 65) E Y hr hk dX3_isOut_65 hf
def f_X3_goes_1 (a0 : Int32) (a1 : Int32) (σ : Mem) : Res := gi a0 5 <| nm (σ 10 a0.toNatClampNeg) fun (v1 : Int32) => bd (f_X3_marginFrom_1 a0 a1 v1 σ) fun v2 μ3 => nm (μ3 1 13) fun (v4 : Int32) => bd (f_X3_gainOf_1 v2 μ3) fun v5 μ6 => nm (v4 + v5) fun (v7 : Int32) => bd (f_X3_held v7 (-9999) 9999 μ6) fun v8 μ9 => nm (mset μ9 1 13 v8) fun (μ10 : Mem) => gi a1 6 <| nm (μ10 6 a1.toNatClampNeg) fun (v11 : Int32) => bd (f_X3_oneMore v11 μ10) fun v12 μ13 => gi a1 6 <| nm (mset μ13 6 a1.toNatClampNeg v12) fun (μ14 : Mem) => if 0 ≤ v2 then (gi a0 5 <| nm (μ14 11 a0.toNatClampNeg) fun (v15 : Int32) => bd (f_X3_oneMore v15 μ14) fun v16 μ17 => gi a0 5 <| nm (mset μ17 11 a0.toNatClampNeg v16) fun (μ18 : Mem) => gi a0 5 <| nm (mset μ18 10 a0.toNatClampNeg 0) fun (μ19 : Mem) => gb 1 (some (1, μ19))) else (bd (f_X3_isOut_1 a0 μ14) fun v20 μ21 => gb 0 (some (0, μ21)))
set_option maxHeartbeats 4000000 in
set_option maxRecDepth 100000 in
theorem m_X3_goes_1 {l : Launch} {σ : Mem} {Z : Int32 × Mem} {a0 : Int32} {a1 : Int32} (hf : f_X3_goes_1 a0 a1 σ = some Z) : CT l yX3_goes cX3_goes 4 (some .boolean) 5 (fun ad => [.ref (ad 1), .int a0, .int a1]) σ Z := by
  refine g_openT RX3 (by decide) rfl (fun _ => Nat.le_of_ble_eq_true rfl) (fun p e s m below meth c D cI cB ad st ls E Y hr hk hl => ?_)
  have hx := E.1.1
  have hb := E.1.2.1
  have hl : lv_has ls 4 [(0, .ref (ad 1)), (1, .int a0), (2, .int a1)] := hl
  unfold f_X3_goes_1 at hf
  refine lv_aload_n (pc := 0) hx hb dX3_goes_0 rfl (lv_at hl 0 rfl) ?_
  refine lv_iload_n (pc := 1) hx hb dX3_goes_1 rfl (lv_at hl 1 rfl) ?_
  refine lv_iload_n (pc := 2) hx hb dX3_goes_2 rfl (lv_at hl 2 rfl) ?_
  refine lv_aload_n (pc := 3) hx hb dX3_goes_3 rfl (lv_at hl 0 rfl) ?_
  refine g_getr (pc := 4) E Y 1 1 7 S_1 rfl V_3 (by decide) AL_X3 q_272 dX3_goes_4 ?_
  refine g_getr (pc := 7) E Y 7 2 10 S_7 rfl V_2 (by decide) AL_X2 q_268 dX3_goes_7 ?_
  refine lv_iload_n (pc := 10) hx hb dX3_goes_10 rfl (lv_at hl 1 rfl) ?_
  refine g_iald (pc := 11) E Y 10 S_10 dX3_goes_11 hf (fun v1 hf => ?_)
  refine g_callVi (pc := 12) E Y 1 S_1 V_3 o_X3_marginFrom q_585 [.int a0, .int a1, .int v1] rfl rfl (hR_of (by omega) (by decide)) hl.1 (rest := []) rfl (Nat.le_of_ble_eq_true rfl) dX3_goes_12 (fun z hz => m_X3_marginFrom_1 hz) hf (fun v2 μ3 H locs hf Y => ?_)
  refine lv_istore_n (pc := 15) (lv' := [(3, .int v2), (0, .ref (ad 1)), (1, .int a0), (2, .int a1)]) hx hb dX3_goes_15 rfl hl (by decide) rfl (fun ls hl => ?_)
  refine lv_aload_n (pc := 16) hx hb dX3_goes_16 rfl (lv_at hl 1 rfl) ?_
  refine lv_aload_n (pc := 17) hx hb dX3_goes_17 rfl (lv_at hl 1 rfl) ?_
  refine g_geti (pc := 18) E Y 1 13 S_1 rfl V_3 (by decide) AL_X3 q_284 dX3_goes_18 hf (fun v4 hf => ?_)
  refine lv_aload_n (pc := 21) hx hb dX3_goes_21 rfl (lv_at hl 1 rfl) ?_
  refine lv_iload_n (pc := 22) hx hb dX3_goes_22 rfl (lv_at hl 0 rfl) ?_
  refine g_callVi (pc := 23) E Y 1 S_1 V_3 o_X3_gainOf q_586 [.int v2] rfl rfl (hR_of (by omega) (by decide)) hl.1 (rest := [.int v4, .ref (ad 1)]) rfl (Nat.le_of_ble_eq_true rfl) dX3_goes_23 (fun z hz => m_X3_gainOf_1 hz) hf (fun v5 μ6 H locs hf Y => ?_)
  refine g_iadd (pc := 26) E dX3_goes_26 hf (fun v7 hf => ?_)
  refine lv_sipush (pc := 27) (v := (-9999)) hx hb dX3_goes_27 (by decide) ?_
  refine lv_sipush (pc := 30) (v := 9999) hx hb dX3_goes_30 (by decide) ?_
  refine g_callSi (pc := 33) E Y o_X3_held q_603 [.int v7, .int (-9999), .int 9999] rfl rfl (hR_of (by omega) (by decide)) hl.1 (rest := [.ref (ad 1)]) rfl (Nat.le_of_ble_eq_true rfl) dX3_goes_33 (fun z hz => m_X3_held hz) hf (fun v8 μ9 H locs hf Y => ?_)
  refine g_put (pc := 36) E Y 1 13 S_1 rfl V_3 (by decide) AL_X3 tyX3 tyX3_ok nmX3 q_284 rfl rfl rfl dX3_goes_36 hf (fun μ10 H locs hf Y => ?_)
  refine lv_aload_n (pc := 39) hx hb dX3_goes_39 rfl (lv_at hl 1 rfl) ?_
  refine g_getr (pc := 40) E Y 1 0 2 S_1 rfl V_3 (by decide) AL_X3 q_265 dX3_goes_40 ?_
  refine g_getr (pc := 43) E Y 2 3 6 S_2 rfl V_0 (by decide) AL_X0 q_264 dX3_goes_43 ?_
  refine lv_iload_n (pc := 46) hx hb dX3_goes_46 rfl (lv_at hl 3 rfl) ?_
  refine lv_aload_n (pc := 47) hx hb dX3_goes_47 rfl (lv_at hl 1 rfl) ?_
  refine g_getr (pc := 48) E Y 1 0 2 S_1 rfl V_3 (by decide) AL_X3 q_265 dX3_goes_48 ?_
  refine g_getr (pc := 51) E Y 2 3 6 S_2 rfl V_0 (by decide) AL_X0 q_264 dX3_goes_51 ?_
  refine lv_iload_n (pc := 54) hx hb dX3_goes_54 rfl (lv_at hl 3 rfl) ?_
  refine g_iald (pc := 55) E Y 6 S_6 dX3_goes_55 hf (fun v11 hf => ?_)
  refine g_callSi (pc := 56) E Y o_X3_oneMore q_588 [.int v11] rfl rfl (hR_of (by omega) (by decide)) hl.1 (rest := [.int a1, .ref (ad 6)]) rfl (Nat.le_of_ble_eq_true rfl) dX3_goes_56 (fun z hz => m_X3_oneMore hz) hf (fun v12 μ13 H locs hf Y => ?_)
  refine g_iast (pc := 59) E Y 6 S_6 dX3_goes_59 hf (fun μ14 H locs hf Y => ?_)
  refine lv_iload_n (pc := 60) hx hb dX3_goes_60 rfl (lv_at hl 0 rfl) ?_
  refine g_if_ge (pc := 61) (tgt := 71) E dX3_goes_61 (by decide) hf (fun hf => ?_) (fun hf => ?_)
  · refine lv_aload_n (pc := 71) hx hb dX3_goes_71 rfl (lv_at hl 1 rfl) ?_
    refine g_getr (pc := 72) E Y 1 1 7 S_1 rfl V_3 (by decide) AL_X3 q_272 dX3_goes_72 ?_
    refine g_getr (pc := 75) E Y 7 3 11 S_7 rfl V_2 (by decide) AL_X2 q_269 dX3_goes_75 ?_
    refine lv_iload_n (pc := 78) hx hb dX3_goes_78 rfl (lv_at hl 2 rfl) ?_
    refine lv_aload_n (pc := 79) hx hb dX3_goes_79 rfl (lv_at hl 1 rfl) ?_
    refine g_getr (pc := 80) E Y 1 1 7 S_1 rfl V_3 (by decide) AL_X3 q_272 dX3_goes_80 ?_
    refine g_getr (pc := 83) E Y 7 3 11 S_7 rfl V_2 (by decide) AL_X2 q_269 dX3_goes_83 ?_
    refine lv_iload_n (pc := 86) hx hb dX3_goes_86 rfl (lv_at hl 2 rfl) ?_
    refine g_iald (pc := 87) E Y 11 S_11 dX3_goes_87 hf (fun v15 hf => ?_)
    refine g_callSi (pc := 88) E Y o_X3_oneMore q_588 [.int v15] rfl rfl (hR_of (by omega) (by decide)) hl.1 (rest := [.int a0, .ref (ad 11)]) rfl (Nat.le_of_ble_eq_true rfl) dX3_goes_88 (fun z hz => m_X3_oneMore hz) hf (fun v16 μ17 H locs hf Y => ?_)
    refine g_iast (pc := 91) E Y 11 S_11 dX3_goes_91 hf (fun μ18 H locs hf Y => ?_)
    refine lv_aload_n (pc := 92) hx hb dX3_goes_92 rfl (lv_at hl 1 rfl) ?_
    refine g_getr (pc := 93) E Y 1 1 7 S_1 rfl V_3 (by decide) AL_X3 q_272 dX3_goes_93 ?_
    refine g_getr (pc := 96) E Y 7 2 10 S_7 rfl V_2 (by decide) AL_X2 q_268 dX3_goes_96 ?_
    refine lv_iload_n (pc := 99) hx hb dX3_goes_99 rfl (lv_at hl 2 rfl) ?_
    refine lv_iconst (pc := 100) (v := 0) hx hb dX3_goes_100 (by decide) ?_
    refine g_iast (pc := 101) E Y 10 S_10 dX3_goes_101 hf (fun μ19 H locs hf Y => ?_)
    refine lv_iconst (pc := 102) (v := 1) hx hb dX3_goes_102 (by decide) ?_
    exact g_zret (pc := 103) E Y hr hk dX3_goes_103 hf
  · refine lv_aload_n (pc := 64) hx hb dX3_goes_64 rfl (lv_at hl 1 rfl) ?_
    refine lv_iload_n (pc := 65) hx hb dX3_goes_65 rfl (lv_at hl 2 rfl) ?_
    refine g_callVv (pc := 66) E Y 1 S_1 V_3 o_X3_isOut q_589 [.int a0] rfl rfl (hR_of (by omega) (by decide)) hl.1 (rest := []) rfl (Nat.le_of_ble_eq_true rfl) dX3_goes_66 (fun z hz => m_X3_isOut_1 hz) hf (fun v20 μ21 H locs hf Y => ?_)
    refine lv_iconst (pc := 69) (v := 0) hx hb dX3_goes_69 (by decide) ?_
    exact g_zret (pc := 70) E Y hr hk dX3_goes_70 hf
def f_X7_steal_0 (a0 : Int32) (a1 : Int32) (σ : Mem) : Res := bd (f_X7_isRunner_0 a0 σ) fun v1 μ2 => if v1 = 0 then (bd (f_X7_error_0 1 μ2) fun v3 μ4 => some (v3, μ4)) else (bd (f_X7_isPitch_0 a1 μ2) fun v5 μ6 => if v5 = 0 then (bd (f_X7_error_0 1 μ6) fun v9 μ10 => some (v9, μ10)) else (bd (f_X3_goes_1 a0 a1 μ6) fun v7 μ8 => if v7 = 0 then (some (0, μ8)) else (some (1, μ8))))
set_option maxHeartbeats 4000000 in
set_option maxRecDepth 100000 in
theorem m_X7_steal_0 {l : Launch} {σ : Mem} {Z : Int32 × Mem} {a0 : Int32} {a1 : Int32} (hf : f_X7_steal_0 a0 a1 σ = some Z) : CT l yX7_steal cX7_steal 3 (some .int) 6 (fun ad => [.ref (ad 0), .int a0, .int a1]) σ Z := by
  refine g_openT RX7 (by decide) rfl (fun _ => Nat.le_of_ble_eq_true rfl) (fun p e s m below meth c D cI cB ad st ls E Y hr hk hl => ?_)
  have hx := E.1.1
  have hb := E.1.2.1
  have hl : lv_has ls 3 [(0, .ref (ad 0)), (1, .int a0), (2, .int a1)] := hl
  unfold f_X7_steal_0 at hf
  refine lv_aload_n (pc := 0) hx hb dX7_steal_0 rfl (lv_at hl 0 rfl) ?_
  refine lv_iload_n (pc := 1) hx hb dX7_steal_1 rfl (lv_at hl 1 rfl) ?_
  refine g_callVi (pc := 2) E Y 0 S_0 V_7 o_X7_isRunner q_618 [.int a0] rfl rfl (hR_of (by omega) (by decide)) hl.1 (rest := []) rfl (Nat.le_of_ble_eq_true rfl) dX7_steal_2 (fun z hz => m_X7_isRunner_0 hz) hf (fun v1 μ2 H locs hf Y => ?_)
  refine g_if_eq (pc := 5) (tgt := 16) E dX7_steal_5 (by decide) hf (fun hf => ?_) (fun hf => ?_)
  · refine lv_aload_n (pc := 16) hx hb dX7_steal_16 rfl (lv_at hl 0 rfl) ?_
    refine lv_iconst (pc := 17) (v := 1) hx hb dX7_steal_17 (by decide) ?_
    refine g_callVi (pc := 18) E Y 0 S_0 V_7 o_X7_error q_656 [.int 1] rfl rfl (hR_of (by omega) (by decide)) hl.1 (rest := []) rfl (Nat.le_of_ble_eq_true rfl) dX7_steal_18 (fun z hz => m_X7_error_0 hz) hf (fun v3 μ4 H locs hf Y => ?_)
    exact g_iret (pc := 21) E Y hr hk dX7_steal_21 hf
  · refine lv_aload_n (pc := 8) hx hb dX7_steal_8 rfl (lv_at hl 0 rfl) ?_
    refine lv_iload_n (pc := 9) hx hb dX7_steal_9 rfl (lv_at hl 2 rfl) ?_
    refine g_callVi (pc := 10) E Y 0 S_0 V_7 o_X7_isPitch q_658 [.int a1] rfl rfl (hR_of (by omega) (by decide)) hl.1 (rest := []) rfl (Nat.le_of_ble_eq_true rfl) dX7_steal_10 (fun z hz => m_X7_isPitch_0 hz) hf (fun v5 μ6 H locs hf Y => ?_)
    refine g_if_ne (pc := 13) (tgt := 22) E dX7_steal_13 (by decide) hf (fun hf => ?_) (fun hf => ?_)
    · refine lv_aload_n (pc := 22) hx hb dX7_steal_22 rfl (lv_at hl 0 rfl) ?_
      refine g_getr (pc := 23) E Y 0 0 1 S_0 rfl V_7 (by decide) AL_X7 q_301 dX7_steal_23 ?_
      refine lv_iload_n (pc := 26) hx hb dX7_steal_26 rfl (lv_at hl 1 rfl) ?_
      refine lv_iload_n (pc := 27) hx hb dX7_steal_27 rfl (lv_at hl 2 rfl) ?_
      refine g_callVi (pc := 28) E Y 1 S_1 V_3 o_X3_goes q_624 [.int a0, .int a1] rfl rfl (hR_of (by omega) (by decide)) hl.1 (rest := []) rfl (Nat.le_of_ble_eq_true rfl) dX7_steal_28 (fun z hz => m_X3_goes_1 hz) hf (fun v7 μ8 H locs hf Y => ?_)
      refine g_if_eq (pc := 31) (tgt := 38) E dX7_steal_31 (by decide) hf (fun hf => ?_) (fun hf => ?_)
      · refine lv_iconst (pc := 38) (v := 0) hx hb dX7_steal_38 (by decide) ?_
        exact g_iret (pc := 39) E Y hr hk dX7_steal_39 hf
      · refine lv_iconst (pc := 34) (v := 1) hx hb dX7_steal_34 (by decide) ?_
        refine lv_goto (pc := 35) (tgt := 39) hx hb dX7_steal_35 (by decide) ?_
        exact g_iret (pc := 39) E Y hr hk dX7_steal_39 hf
    · refine lv_aload_n (pc := 16) hx hb dX7_steal_16 rfl (lv_at hl 0 rfl) ?_
      refine lv_iconst (pc := 17) (v := 1) hx hb dX7_steal_17 (by decide) ?_
      refine g_callVi (pc := 18) E Y 0 S_0 V_7 o_X7_error q_656 [.int 1] rfl rfl (hR_of (by omega) (by decide)) hl.1 (rest := []) rfl (Nat.le_of_ble_eq_true rfl) dX7_steal_18 (fun z hz => m_X7_error_0 hz) hf (fun v9 μ10 H locs hf Y => ?_)
      exact g_iret (pc := 21) E Y hr hk dX7_steal_21 hf
def f_X7_over_0 (a0 : Int32) (σ : Mem) : Res := bd (f_X7_isRunner_0 a0 σ) fun v1 μ2 => if v1 = 0 then (bd (f_X7_error_0 1 μ2) fun v8 μ9 => some (v8, μ9)) else (gi a0 5 <| nm (μ2 10 a0.toNatClampNeg) fun (v3 : Int32) => bd (f_X3_isPicked_1 a0 v3 μ2) fun v4 μ5 => if v4 = 0 then (some (0, μ5)) else (bd (f_X3_isOut_1 a0 μ5) fun v6 μ7 => some (1, μ7)))
set_option maxHeartbeats 4000000 in
set_option maxRecDepth 100000 in
theorem m_X7_over_0 {l : Launch} {σ : Mem} {Z : Int32 × Mem} {a0 : Int32} (hf : f_X7_over_0 a0 σ = some Z) : CT l yX7_over cX7_over 2 (some .int) 3 (fun ad => [.ref (ad 0), .int a0]) σ Z := by
  refine g_openT RX7 (by decide) rfl (fun _ => Nat.le_of_ble_eq_true rfl) (fun p e s m below meth c D cI cB ad st ls E Y hr hk hl => ?_)
  have hx := E.1.1
  have hb := E.1.2.1
  have hl : lv_has ls 2 [(0, .ref (ad 0)), (1, .int a0)] := hl
  unfold f_X7_over_0 at hf
  refine lv_aload_n (pc := 0) hx hb dX7_over_0 rfl (lv_at hl 0 rfl) ?_
  refine lv_iload_n (pc := 1) hx hb dX7_over_1 rfl (lv_at hl 1 rfl) ?_
  refine g_callVi (pc := 2) E Y 0 S_0 V_7 o_X7_isRunner q_618 [.int a0] rfl rfl (hR_of (by omega) (by decide)) hl.1 (rest := []) rfl (Nat.le_of_ble_eq_true rfl) dX7_over_2 (fun z hz => m_X7_isRunner_0 hz) hf (fun v1 μ2 H locs hf Y => ?_)
  refine g_if_ne (pc := 5) (tgt := 14) E dX7_over_5 (by decide) hf (fun hf => ?_) (fun hf => ?_)
  · refine lv_aload_n (pc := 14) hx hb dX7_over_14 rfl (lv_at hl 0 rfl) ?_
    refine g_getr (pc := 15) E Y 0 0 1 S_0 rfl V_7 (by decide) AL_X7 q_301 dX7_over_15 ?_
    refine lv_iload_n (pc := 18) hx hb dX7_over_18 rfl (lv_at hl 1 rfl) ?_
    refine lv_aload_n (pc := 19) hx hb dX7_over_19 rfl (lv_at hl 0 rfl) ?_
    refine g_getr (pc := 20) E Y 0 0 1 S_0 rfl V_7 (by decide) AL_X7 q_301 dX7_over_20 ?_
    refine g_getr (pc := 23) E Y 1 1 7 S_1 rfl V_3 (by decide) AL_X3 q_302 dX7_over_23 ?_
    refine g_getr (pc := 26) E Y 7 2 10 S_7 rfl V_2 (by decide) AL_X2 q_304 dX7_over_26 ?_
    refine lv_iload_n (pc := 29) hx hb dX7_over_29 rfl (lv_at hl 1 rfl) ?_
    refine g_iald (pc := 30) E Y 10 S_10 dX7_over_30 hf (fun v3 hf => ?_)
    refine g_callVi (pc := 31) E Y 1 S_1 V_3 o_X3_isPicked q_620 [.int a0, .int v3] rfl rfl (hR_of (by omega) (by decide)) hl.1 (rest := []) rfl (Nat.le_of_ble_eq_true rfl) dX7_over_31 (fun z hz => m_X3_isPicked_1 hz) hf (fun v4 μ5 H locs hf Y => ?_)
    refine g_if_ne (pc := 34) (tgt := 39) E dX7_over_34 (by decide) hf (fun hf => ?_) (fun hf => ?_)
    · refine lv_aload_n (pc := 39) hx hb dX7_over_39 rfl (lv_at hl 0 rfl) ?_
      refine g_getr (pc := 40) E Y 0 0 1 S_0 rfl V_7 (by decide) AL_X7 q_301 dX7_over_40 ?_
      refine lv_iload_n (pc := 43) hx hb dX7_over_43 rfl (lv_at hl 1 rfl) ?_
      refine g_callVv (pc := 44) E Y 1 S_1 V_3 o_X3_isOut q_625 [.int a0] rfl rfl (hR_of (by omega) (by decide)) hl.1 (rest := []) rfl (Nat.le_of_ble_eq_true rfl) dX7_over_44 (fun z hz => m_X3_isOut_1 hz) hf (fun v6 μ7 H locs hf Y => ?_)
      refine lv_iconst (pc := 47) (v := 1) hx hb dX7_over_47 (by decide) ?_
      exact g_iret (pc := 48) E Y hr hk dX7_over_48 hf
    · refine lv_iconst (pc := 37) (v := 0) hx hb dX7_over_37 (by decide) ?_
      exact g_iret (pc := 38) E Y hr hk dX7_over_38 hf
  · refine lv_aload_n (pc := 8) hx hb dX7_over_8 rfl (lv_at hl 0 rfl) ?_
    refine lv_iconst (pc := 9) (v := 1) hx hb dX7_over_9 (by decide) ?_
    refine g_callVi (pc := 10) E Y 0 S_0 V_7 o_X7_error q_656 [.int 1] rfl rfl (hR_of (by omega) (by decide)) hl.1 (rest := []) rfl (Nat.le_of_ble_eq_true rfl) dX7_over_10 (fun z hz => m_X7_error_0 hz) hf (fun v8 μ9 H locs hf Y => ?_)
    exact g_iret (pc := 13) E Y hr hk dX7_over_13 hf
def fb_X7_feed_0_L39 (bk : Int64 → Int32 → Int32 → Mem → Res) (x1 : Int64) (x3 : Int32) (x4 : Int32) (σ : Mem) : Res := if x3 ≤ x4 then (nm (σ 1 5) fun (v5 : Int32) => nm (v5 + x3) fun (v6 : Int32) => nm (mset σ 1 5 v6) fun (μ7 : Mem) => nm (μ7 1 5) fun (v8 : Int32) => some (v8, μ7)) else (nm (σ 1 5) fun (v9 : Int32) => nm (v9 + x4) fun (v10 : Int32) => nm (8 * x4) fun (v11 : Int32) => nm ((x1.toUInt64 >>> (v11.toInt64.toUInt64 &&& Int64.toUInt64 63)).toInt64) fun (v12 : Int64) => nm (v12.toInt32) fun (v13 : Int32) => nm (v13.toInt8.toInt32) fun (v14 : Int32) => gi v10 60 <| nm (mset σ 19 v10.toNatClampNeg (v14.toInt8.toInt32)) fun (μ15 : Mem) => nm (x4 + 1) fun (v16 : Int32) => bk x1 x3 v16 μ15)
def f_X7_feed_0_L39 : Nat → Int64 → Int32 → Int32 → Mem → Res
  | 0, _, _, _, _ => none
  | n + 1, x1, x3, x4, σ => fb_X7_feed_0_L39 (f_X7_feed_0_L39 n) x1 x3 x4 σ
def f_X7_feed_0 (a0 : Int64) (a1 : Int32) (σ : Mem) : Res := bd (f_X7_within a1 1 8 σ) fun v1 μ2 => if v1 = 0 then (bd (f_X7_error_0 1 μ2) fun v19 μ20 => some (v19, μ20)) else (nm (μ2 1 5) fun (v3 : Int32) => nm (v3 + a1) fun (v4 : Int32) => if v4 ≤ 60 then (f_X7_feed_0_L39 1000 a0 a1 0 μ2) else (bd (f_X7_error_0 4 μ2) fun v17 μ18 => some (v17, μ18)))
set_option maxHeartbeats 4000000 in
set_option maxRecDepth 100000 in
theorem m_X7_feed_0 {l : Launch} {σ : Mem} {Z : Int32 × Mem} {a0 : Int64} {a1 : Int32} (hf : f_X7_feed_0 a0 a1 σ = some Z) : CT l yX7_feed cX7_feed 5 (some .int) 1 (fun ad => [.ref (ad 0), .long a0, .int a1]) σ Z := by
  refine g_openT RX7 (by decide) rfl (fun _ => Nat.le_of_ble_eq_true rfl) (fun p e s m below meth c D cI cB ad st ls E Y hr hk hl => ?_)
  have hx := E.1.1
  have hb := E.1.2.1
  have hl : lv_has ls 5 [(0, .ref (ad 0)), (1, .long a0), (3, .int a1)] := hl
  have hL_39 : ∀ (n : Nat) (x1 : Int64) (x3 : Int32) (x4 : Int32) (σ : Mem) (H : Heap) (locs : List Loc) (ls : Array Slot), f_X7_feed_0_L39 n x1 x3 x4 σ = some Z → Wo D cI cB ad (AA ad) σ s H locs → lv_has ls 5 [(0, .ref (ad 0)), (1, .long x1), (3, .int x3), (4, .int x4)] → W p l e (rmd 1) s m ([.ref (ad 0), .long a0, .int a1] : List Value).toArray below meth c H locs 0 0 (QT_ below D cI cB ad st Z ([.ref (ad 0), .long a0, .int a1] : List Value).toArray s) (F0 m 39 ls []) := by
    intro n
    induction n with
    | zero =>
      intro x1 x3 x4 σ H locs ls hf
      cases (show (none : Res) = some Z from hf)
    | succ n ih =>
      intro x1 x3 x4 σ H locs ls hf Y hl
      have hf : fb_X7_feed_0_L39 (f_X7_feed_0_L39 n) x1 x3 x4 σ = some Z := hf
      unfold fb_X7_feed_0_L39 at hf
      refine lv_iload (pc := 39) hx hb dX7_feed_39 (lv_at hl 3 rfl) ?_
      refine lv_iload_n (pc := 41) hx hb dX7_feed_41 rfl (lv_at hl 2 rfl) ?_
      refine g_icmp_ge (pc := 42) (tgt := 78) E dX7_feed_42 (by decide) hf (fun hf => ?_) (fun hf => ?_)
      · refine lv_aload_n (pc := 78) hx hb dX7_feed_78 rfl (lv_at hl 0 rfl) ?_
        refine g_getr (pc := 79) E Y 0 0 1 S_0 rfl V_7 (by decide) AL_X7 q_301 dX7_feed_79 ?_
        refine lv_dup (pc := 82) hx hb dX7_feed_82 rfl ?_
        refine g_geti (pc := 83) E Y 1 5 S_1 rfl V_3 (by decide) AL_X3 q_309 dX7_feed_83 hf (fun v5 hf => ?_)
        refine lv_iload_n (pc := 86) hx hb dX7_feed_86 rfl (lv_at hl 2 rfl) ?_
        refine g_iadd (pc := 87) E dX7_feed_87 hf (fun v6 hf => ?_)
        refine g_put (pc := 88) E Y 1 5 S_1 rfl V_3 (by decide) AL_X3 tyX3 tyX3_ok nmX3 q_309 rfl rfl rfl dX7_feed_88 hf (fun μ7 H locs hf Y => ?_)
        refine lv_aload_n (pc := 91) hx hb dX7_feed_91 rfl (lv_at hl 0 rfl) ?_
        refine g_getr (pc := 92) E Y 0 0 1 S_0 rfl V_7 (by decide) AL_X7 q_301 dX7_feed_92 ?_
        refine g_geti (pc := 95) E Y 1 5 S_1 rfl V_3 (by decide) AL_X3 q_309 dX7_feed_95 hf (fun v8 hf => ?_)
        exact g_iret (pc := 98) E Y hr hk dX7_feed_98 hf
      · refine lv_aload_n (pc := 45) hx hb dX7_feed_45 rfl (lv_at hl 0 rfl) ?_
        refine g_getr (pc := 46) E Y 0 0 1 S_0 rfl V_7 (by decide) AL_X7 q_301 dX7_feed_46 ?_
        refine g_getr (pc := 49) E Y 1 4 19 S_1 rfl V_3 (by decide) AL_X3 q_310 dX7_feed_49 ?_
        refine lv_aload_n (pc := 52) hx hb dX7_feed_52 rfl (lv_at hl 0 rfl) ?_
        refine g_getr (pc := 53) E Y 0 0 1 S_0 rfl V_7 (by decide) AL_X7 q_301 dX7_feed_53 ?_
        refine g_geti (pc := 56) E Y 1 5 S_1 rfl V_3 (by decide) AL_X3 q_309 dX7_feed_56 hf (fun v9 hf => ?_)
        refine lv_iload (pc := 59) hx hb dX7_feed_59 (lv_at hl 3 rfl) ?_
        refine g_iadd (pc := 61) E dX7_feed_61 hf (fun v10 hf => ?_)
        refine lv_lload_n (pc := 62) hx hb dX7_feed_62 rfl (lv_at hl 1 rfl) ?_
        refine lv_bipush (pc := 63) (v := 8) hx hb dX7_feed_63 (by decide) ?_
        refine lv_iload (pc := 65) hx hb dX7_feed_65 (lv_at hl 3 rfl) ?_
        refine g_imul (pc := 67) E dX7_feed_67 hf (fun v11 hf => ?_)
        refine g_lushr (pc := 68) E dX7_feed_68 hf (fun v12 hf => ?_)
        refine g_l2i (pc := 69) E dX7_feed_69 hf (fun v13 hf => ?_)
        refine g_i2b (pc := 70) E dX7_feed_70 hf (fun v14 hf => ?_)
        refine g_bast (pc := 71) E Y 19 S_19 dX7_feed_71 hf (fun μ15 H locs hf Y => ?_)
        refine g_iinc (pc := 72) E (fun v16 => [(4, .int v16), (0, .ref (ad 0)), (1, .long x1), (3, .int x3)]) dX7_feed_72 hl (k := 3) rfl (t := 1) (by decide) (by decide) (fun _ => rfl) hf (fun v16 hf ls hl => ?_)
        refine lv_goto (pc := 75) (tgt := 39) hx hb dX7_feed_75 (by decide) ?_
        exact ih _ _ _ _ _ _ _ hf Y (lv_sub hl [1, 2, 3, 0] rfl)
  unfold f_X7_feed_0 at hf
  refine lv_iload_n (pc := 0) hx hb dX7_feed_0 rfl (lv_at hl 2 rfl) ?_
  refine lv_iconst (pc := 1) (v := 1) hx hb dX7_feed_1 (by decide) ?_
  refine lv_bipush (pc := 2) (v := 8) hx hb dX7_feed_2 (by decide) ?_
  refine g_callSi (pc := 4) E Y o_X7_within q_661 [.int a1, .int 1, .int 8] rfl rfl (hR_of (by omega) (by decide)) hl.1 (rest := []) rfl (Nat.le_of_ble_eq_true rfl) dX7_feed_4 (fun z hz => m_X7_within hz) hf (fun v1 μ2 H locs hf Y => ?_)
  refine g_if_ne (pc := 7) (tgt := 16) E dX7_feed_7 (by decide) hf (fun hf => ?_) (fun hf => ?_)
  · refine lv_aload_n (pc := 16) hx hb dX7_feed_16 rfl (lv_at hl 0 rfl) ?_
    refine g_getr (pc := 17) E Y 0 0 1 S_0 rfl V_7 (by decide) AL_X7 q_301 dX7_feed_17 ?_
    refine g_geti (pc := 20) E Y 1 5 S_1 rfl V_3 (by decide) AL_X3 q_309 dX7_feed_20 hf (fun v3 hf => ?_)
    refine lv_iload_n (pc := 23) hx hb dX7_feed_23 rfl (lv_at hl 2 rfl) ?_
    refine g_iadd (pc := 24) E dX7_feed_24 hf (fun v4 hf => ?_)
    refine lv_bipush (pc := 25) (v := 60) hx hb dX7_feed_25 (by decide) ?_
    refine g_icmp_le (pc := 27) (tgt := 36) E dX7_feed_27 (by decide) hf (fun hf => ?_) (fun hf => ?_)
    · refine lv_iconst (pc := 36) (v := 0) hx hb dX7_feed_36 (by decide) ?_
      refine lv_istore (pc := 37) (lv' := [(4, .int 0), (0, .ref (ad 0)), (1, .long a0), (3, .int a1)]) hx hb dX7_feed_37 hl (by decide) rfl (fun ls hl => ?_)
      exact hL_39 1000 _ _ _ _ _ _ _ hf Y (lv_sub hl [1, 2, 3, 0] rfl)
    · refine lv_aload_n (pc := 30) hx hb dX7_feed_30 rfl (lv_at hl 0 rfl) ?_
      refine lv_iconst (pc := 31) (v := 4) hx hb dX7_feed_31 (by decide) ?_
      refine g_callVi (pc := 32) E Y 0 S_0 V_7 o_X7_error q_656 [.int 4] rfl rfl (hR_of (by omega) (by decide)) hl.1 (rest := []) rfl (Nat.le_of_ble_eq_true rfl) dX7_feed_32 (fun z hz => m_X7_error_0 hz) hf (fun v17 μ18 H locs hf Y => ?_)
      exact g_iret (pc := 35) E Y hr hk dX7_feed_35 hf
  · refine lv_aload_n (pc := 10) hx hb dX7_feed_10 rfl (lv_at hl 0 rfl) ?_
    refine lv_iconst (pc := 11) (v := 1) hx hb dX7_feed_11 (by decide) ?_
    refine g_callVi (pc := 12) E Y 0 S_0 V_7 o_X7_error q_656 [.int 1] rfl rfl (hR_of (by omega) (by decide)) hl.1 (rest := []) rfl (Nat.le_of_ble_eq_true rfl) dX7_feed_12 (fun z hz => m_X7_error_0 hz) hf (fun v19 μ20 H locs hf Y => ?_)
    exact g_iret (pc := 15) E Y hr hk dX7_feed_15 hf
def f_X7_isUse (a0 : Int32) (σ : Mem) : Res := bd (f_X7_within a0 0 1 σ) fun v1 μ2 => gb v1 (some (v1, μ2))
set_option maxHeartbeats 4000000 in
set_option maxRecDepth 100000 in
theorem m_X7_isUse {l : Launch} {σ : Mem} {Z : Int32 × Mem} {a0 : Int32} (hf : f_X7_isUse a0 σ = some Z) : CT l yX7_isUse cX7_isUse 1 (some .boolean) 1 (fun _ => [.int a0]) σ Z := by
  refine g_openT RX7 (by decide) rfl (fun _ => Nat.le_of_ble_eq_true rfl) (fun p e s m below meth c D cI cB ad st ls E Y hr hk hl => ?_)
  have hx := E.1.1
  have hb := E.1.2.1
  have hl : lv_has ls 1 [(0, .int a0)] := hl
  unfold f_X7_isUse at hf
  refine lv_iload_n (pc := 0) hx hb dX7_isUse_0 rfl (lv_at hl 0 rfl) ?_
  refine lv_iconst (pc := 1) (v := 0) hx hb dX7_isUse_1 (by decide) ?_
  refine lv_iconst (pc := 2) (v := 1) hx hb dX7_isUse_2 (by decide) ?_
  refine g_callSi (pc := 3) E Y o_X7_within q_661 [.int a0, .int 0, .int 1] rfl rfl (hR_of (by omega) (by decide)) hl.1 (rest := []) rfl (Nat.le_of_ble_eq_true rfl) dX7_isUse_3 (fun z hz => m_X7_within hz) hf (fun v1 μ2 H locs hf Y => ?_)
  exact g_zret (pc := 6) E Y hr hk dX7_isUse_6 hf
def f_X1_rankOf (a0 : Int32) (σ : Mem) : Res := if a0 = 33 then (some (6, σ)) else (if a0 = 37 then (some (5, σ)) else (if a0 = 38 then (some (2, σ)) else (if a0 = 42 then (some (5, σ)) else (if a0 = 43 then (some (4, σ)) else (if a0 = 45 then (some (4, σ)) else (if a0 = 47 then (some (5, σ)) else (if a0 = 60 then (some (3, σ)) else (if a0 = 61 then (some (3, σ)) else (if a0 = 62 then (some (3, σ)) else (if a0 = 124 then (some (1, σ)) else (some (0, σ))))))))))))
set_option maxHeartbeats 4000000 in
set_option maxRecDepth 100000 in
theorem m_X1_rankOf {l : Launch} {σ : Mem} {Z : Int32 × Mem} {a0 : Int32} (hf : f_X1_rankOf a0 σ = some Z) : CT l yX1_rankOf cX1_rankOf 1 (some .int) 0 (fun _ => [.int a0]) σ Z := by
  refine g_openT RX1 (by decide) rfl (fun _ => Nat.le_of_ble_eq_true rfl) (fun p e s m below meth c D cI cB ad st ls E Y hr hk hl => ?_)
  have hx := E.1.1
  have hb := E.1.2.1
  have hl : lv_has ls 1 [(0, .int a0)] := hl
  unfold f_X1_rankOf at hf
  refine lv_iload_n (pc := 0) hx hb dX1_rankOf_0 rfl (lv_at hl 0 rfl) ?_
  by_cases hc : a0 = 33
  · rw [if_pos hc] at hf
    refine lv_lookup (pc := 1) (tgt := 120) (off := 119) hx hb dX1_rankOf_1 rfl (by rw [hc]; rfl) (by decide) ?_
    refine lv_bipush (pc := 120) (v := 6) hx hb dX1_rankOf_120 (by decide) ?_
    exact g_iret (pc := 122) E Y hr hk dX1_rankOf_122 hf
  · rw [if_neg hc] at hf
    have n_33 := ti_ne (n := 33) (by decide) hc
    clear hc
    by_cases hc : a0 = 37
    · rw [if_pos hc] at hf
      refine lv_lookup (pc := 1) (tgt := 118) (off := 117) hx hb dX1_rankOf_1 rfl (by rw [hc]; rfl) (by decide) ?_
      refine lv_iconst (pc := 118) (v := 5) hx hb dX1_rankOf_118 (by decide) ?_
      exact g_iret (pc := 119) E Y hr hk dX1_rankOf_119 hf
    · rw [if_neg hc] at hf
      have n_37 := ti_ne (n := 37) (by decide) hc
      clear hc
      by_cases hc : a0 = 38
      · rw [if_pos hc] at hf
        refine lv_lookup (pc := 1) (tgt := 102) (off := 101) hx hb dX1_rankOf_1 rfl (by rw [hc]; rfl) (by decide) ?_
        refine lv_iconst (pc := 102) (v := 2) hx hb dX1_rankOf_102 (by decide) ?_
        exact g_iret (pc := 103) E Y hr hk dX1_rankOf_103 hf
      · rw [if_neg hc] at hf
        have n_38 := ti_ne (n := 38) (by decide) hc
        clear hc
        by_cases hc : a0 = 42
        · rw [if_pos hc] at hf
          refine lv_lookup (pc := 1) (tgt := 114) (off := 113) hx hb dX1_rankOf_1 rfl (by rw [hc]; rfl) (by decide) ?_
          refine lv_iconst (pc := 114) (v := 5) hx hb dX1_rankOf_114 (by decide) ?_
          exact g_iret (pc := 115) E Y hr hk dX1_rankOf_115 hf
        · rw [if_neg hc] at hf
          have n_42 := ti_ne (n := 42) (by decide) hc
          clear hc
          by_cases hc : a0 = 43
          · rw [if_pos hc] at hf
            refine lv_lookup (pc := 1) (tgt := 110) (off := 109) hx hb dX1_rankOf_1 rfl (by rw [hc]; rfl) (by decide) ?_
            refine lv_iconst (pc := 110) (v := 4) hx hb dX1_rankOf_110 (by decide) ?_
            exact g_iret (pc := 111) E Y hr hk dX1_rankOf_111 hf
          · rw [if_neg hc] at hf
            have n_43 := ti_ne (n := 43) (by decide) hc
            clear hc
            by_cases hc : a0 = 45
            · rw [if_pos hc] at hf
              refine lv_lookup (pc := 1) (tgt := 112) (off := 111) hx hb dX1_rankOf_1 rfl (by rw [hc]; rfl) (by decide) ?_
              refine lv_iconst (pc := 112) (v := 4) hx hb dX1_rankOf_112 (by decide) ?_
              exact g_iret (pc := 113) E Y hr hk dX1_rankOf_113 hf
            · rw [if_neg hc] at hf
              have n_45 := ti_ne (n := 45) (by decide) hc
              clear hc
              by_cases hc : a0 = 47
              · rw [if_pos hc] at hf
                refine lv_lookup (pc := 1) (tgt := 116) (off := 115) hx hb dX1_rankOf_1 rfl (by rw [hc]; rfl) (by decide) ?_
                refine lv_iconst (pc := 116) (v := 5) hx hb dX1_rankOf_116 (by decide) ?_
                exact g_iret (pc := 117) E Y hr hk dX1_rankOf_117 hf
              · rw [if_neg hc] at hf
                have n_47 := ti_ne (n := 47) (by decide) hc
                clear hc
                by_cases hc : a0 = 60
                · rw [if_pos hc] at hf
                  refine lv_lookup (pc := 1) (tgt := 104) (off := 103) hx hb dX1_rankOf_1 rfl (by rw [hc]; rfl) (by decide) ?_
                  refine lv_iconst (pc := 104) (v := 3) hx hb dX1_rankOf_104 (by decide) ?_
                  exact g_iret (pc := 105) E Y hr hk dX1_rankOf_105 hf
                · rw [if_neg hc] at hf
                  have n_60 := ti_ne (n := 60) (by decide) hc
                  clear hc
                  by_cases hc : a0 = 61
                  · rw [if_pos hc] at hf
                    refine lv_lookup (pc := 1) (tgt := 106) (off := 105) hx hb dX1_rankOf_1 rfl (by rw [hc]; rfl) (by decide) ?_
                    refine lv_iconst (pc := 106) (v := 3) hx hb dX1_rankOf_106 (by decide) ?_
                    exact g_iret (pc := 107) E Y hr hk dX1_rankOf_107 hf
                  · rw [if_neg hc] at hf
                    have n_61 := ti_ne (n := 61) (by decide) hc
                    clear hc
                    by_cases hc : a0 = 62
                    · rw [if_pos hc] at hf
                      refine lv_lookup (pc := 1) (tgt := 108) (off := 107) hx hb dX1_rankOf_1 rfl (by rw [hc]; rfl) (by decide) ?_
                      refine lv_iconst (pc := 108) (v := 3) hx hb dX1_rankOf_108 (by decide) ?_
                      exact g_iret (pc := 109) E Y hr hk dX1_rankOf_109 hf
                    · rw [if_neg hc] at hf
                      have n_62 := ti_ne (n := 62) (by decide) hc
                      clear hc
                      by_cases hc : a0 = 124
                      · rw [if_pos hc] at hf
                        refine lv_lookup (pc := 1) (tgt := 100) (off := 99) hx hb dX1_rankOf_1 rfl (by rw [hc]; rfl) (by decide) ?_
                        refine lv_iconst (pc := 100) (v := 1) hx hb dX1_rankOf_100 (by decide) ?_
                        exact g_iret (pc := 101) E Y hr hk dX1_rankOf_101 hf
                      · rw [if_neg hc] at hf
                        have n_124 := ti_ne (n := 124) (by decide) hc
                        clear hc
                        refine lv_lookup (pc := 1) (tgt := 123) (off := 122) hx hb dX1_rankOf_1 rfl (lk_def (by simp only [List.all_cons, List.all_nil, Bool.and_true, Bool.and_eq_true, bne_iff_ne, ne_eq]; omega)) (by decide) ?_
                        refine lv_iconst (pc := 123) (v := 0) hx hb dX1_rankOf_123 (by decide) ?_
                        exact g_iret (pc := 124) E Y hr hk dX1_rankOf_124 hf
def f_X5_add_42 (a0 : Int32) (σ : Mem) : Res := nm (σ 42 2) fun (v1 : Int32) => if 60 ≤ v1 then (some (0, σ)) else (nm (σ 42 2) fun (v2 : Int32) => gi v2 60 <| nm (mset σ 43 v2.toNatClampNeg a0) fun (μ3 : Mem) => nm (μ3 42 2) fun (v4 : Int32) => nm (v4 + 1) fun (v5 : Int32) => nm (mset μ3 42 2 v5) fun (μ6 : Mem) => some (0, μ6))
set_option maxHeartbeats 4000000 in
set_option maxRecDepth 100000 in
theorem m_X5_add_42 {l : Launch} {σ : Mem} {Z : Int32 × Mem} {a0 : Int32} (hf : f_X5_add_42 a0 σ = some Z) : CV l yX5_add cX5_add 2 0 (fun ad => [.ref (ad 42), .int a0]) σ Z := by
  refine g_openV RX5 (by decide) rfl (fun _ => Nat.le_of_ble_eq_true rfl) (fun p e s m below meth c D cI cB ad st ls E Y hr hk hl => ?_)
  have hx := E.1.1
  have hb := E.1.2.1
  have hl : lv_has ls 2 [(0, .ref (ad 42)), (1, .int a0)] := hl
  unfold f_X5_add_42 at hf
  refine lv_aload_n (pc := 0) hx hb dX5_add_0 rfl (lv_at hl 0 rfl) ?_
  refine g_geti (pc := 1) E Y 42 2 S_42 rfl V_5 (by decide) AL_X5 q_292 dX5_add_1 hf (fun v1 hf => ?_)
  refine lv_bipush (pc := 4) (v := 60) hx hb dX5_add_4 (by decide) ?_
  refine g_icmp_ge (pc := 6) (tgt := 29) E dX5_add_6 (by decide) hf (fun hf => ?_) (fun hf => ?_)
  · exact g_vret (pc := 29) E Y hr hk dX5_add_29 hf
  · refine lv_aload_n (pc := 9) hx hb dX5_add_9 rfl (lv_at hl 0 rfl) ?_
    refine g_getr (pc := 10) E Y 42 0 43 S_42 rfl V_5 (by decide) AL_X5 q_294 dX5_add_10 ?_
    refine lv_aload_n (pc := 13) hx hb dX5_add_13 rfl (lv_at hl 0 rfl) ?_
    refine g_geti (pc := 14) E Y 42 2 S_42 rfl V_5 (by decide) AL_X5 q_292 dX5_add_14 hf (fun v2 hf => ?_)
    refine lv_iload_n (pc := 17) hx hb dX5_add_17 rfl (lv_at hl 1 rfl) ?_
    refine g_iast (pc := 18) E Y 43 S_43 dX5_add_18 hf (fun μ3 H locs hf Y => ?_)
    refine lv_aload_n (pc := 19) hx hb dX5_add_19 rfl (lv_at hl 0 rfl) ?_
    refine lv_dup (pc := 20) hx hb dX5_add_20 rfl ?_
    refine g_geti (pc := 21) E Y 42 2 S_42 rfl V_5 (by decide) AL_X5 q_292 dX5_add_21 hf (fun v4 hf => ?_)
    refine lv_iconst (pc := 24) (v := 1) hx hb dX5_add_24 (by decide) ?_
    refine g_iadd (pc := 25) E dX5_add_25 hf (fun v5 hf => ?_)
    refine g_put (pc := 26) E Y 42 2 S_42 rfl V_5 (by decide) AL_X5 tyX5 tyX5_ok nmX5 q_292 rfl rfl rfl dX5_add_26 hf (fun μ6 H locs hf Y => ?_)
    exact g_vret (pc := 29) E Y hr hk dX5_add_29 hf
def fb_X1_settle_41_L0 (bk : Int32 → Mem → Res) (x1 : Int32) (σ : Mem) : Res := nm (σ 41 2) fun (v1 : Int32) => if v1 ≤ 0 then (some (0, σ)) else (nm (σ 41 2) fun (v2 : Int32) => nm (v2 - 1) fun (v3 : Int32) => gi v3 60 <| nm (σ 45 v3.toNatClampNeg) fun (v4 : Int32) => bd (f_X1_rankOf v4 σ) fun v5 μ6 => if v5 < x1 then (some (0, μ6)) else (nm (μ6 41 2) fun (v7 : Int32) => nm (v7 - 1) fun (v8 : Int32) => nm (mset μ6 41 2 v8) fun (μ9 : Mem) => nm (μ9 41 2) fun (v10 : Int32) => gi v10 60 <| nm (μ9 45 v10.toNatClampNeg) fun (v11 : Int32) => nm (-v11) fun (v12 : Int32) => bd (f_X5_add_42 v12 μ9) fun v13 μ14 => nm (μ14 41 2) fun (v15 : Int32) => gi v15 60 <| nm (μ14 45 v15.toNatClampNeg) fun (v16 : Int32) => if v16 = 33 then (nm (μ14 41 3) fun (v17 : Int32) => nm (v17 - 1) fun (v18 : Int32) => nm (mset μ14 41 3 v18) fun (μ19 : Mem) => bk x1 μ19) else (bk x1 μ14)))
def f_X1_settle_41_L0 : Nat → Int32 → Mem → Res
  | 0, _, _ => none
  | n + 1, x1, σ => fb_X1_settle_41_L0 (f_X1_settle_41_L0 n) x1 σ
def f_X1_settle_41 (a0 : Int32) (σ : Mem) : Res := f_X1_settle_41_L0 1000 a0 σ
set_option maxHeartbeats 4000000 in
set_option maxRecDepth 100000 in
theorem m_X1_settle_41 {l : Launch} {σ : Mem} {Z : Int32 × Mem} {a0 : Int32} (hf : f_X1_settle_41 a0 σ = some Z) : CV l yX1_settle cX1_settle 2 1 (fun ad => [.ref (ad 41), .int a0]) σ Z := by
  refine g_openV RX1 (by decide) rfl (fun _ => Nat.le_of_ble_eq_true rfl) (fun p e s m below meth c D cI cB ad st ls E Y hr hk hl => ?_)
  have hx := E.1.1
  have hb := E.1.2.1
  have hl : lv_has ls 2 [(0, .ref (ad 41)), (1, .int a0)] := hl
  have hL_0 : ∀ (n : Nat) (x1 : Int32) (σ : Mem) (H : Heap) (locs : List Loc) (ls : Array Slot), f_X1_settle_41_L0 n x1 σ = some Z → Wo D cI cB ad (AA ad) σ s H locs → lv_has ls 2 [(0, .ref (ad 41)), (1, .int x1)] → W p l e (rmd 1) s m ([.ref (ad 41), .int a0] : List Value).toArray below meth c H locs 0 0 (QV_ below D cI cB ad st Z ([.ref (ad 41), .int a0] : List Value).toArray s) (F0 m 0 ls []) := by
    intro n
    induction n with
    | zero =>
      intro x1 σ H locs ls hf
      cases (show (none : Res) = some Z from hf)
    | succ n ih =>
      intro x1 σ H locs ls hf Y hl
      have hf : fb_X1_settle_41_L0 (f_X1_settle_41_L0 n) x1 σ = some Z := hf
      unfold fb_X1_settle_41_L0 at hf
      refine lv_aload_n (pc := 0) hx hb dX1_settle_0 rfl (lv_at hl 0 rfl) ?_
      refine g_geti (pc := 1) E Y 41 2 S_41 rfl V_1 (by decide) AL_X1 q_249 dX1_settle_1 hf (fun v1 hf => ?_)
      refine g_if_le (pc := 4) (tgt := 79) E dX1_settle_4 (by decide) hf (fun hf => ?_) (fun hf => ?_)
      · exact g_vret (pc := 79) E Y hr hk dX1_settle_79 hf
      · refine lv_aload_n (pc := 7) hx hb dX1_settle_7 rfl (lv_at hl 0 rfl) ?_
        refine g_getr (pc := 8) E Y 41 1 45 S_41 rfl V_1 (by decide) AL_X1 q_248 dX1_settle_8 ?_
        refine lv_aload_n (pc := 11) hx hb dX1_settle_11 rfl (lv_at hl 0 rfl) ?_
        refine g_geti (pc := 12) E Y 41 2 S_41 rfl V_1 (by decide) AL_X1 q_249 dX1_settle_12 hf (fun v2 hf => ?_)
        refine lv_iconst (pc := 15) (v := 1) hx hb dX1_settle_15 (by decide) ?_
        refine g_isub (pc := 16) E dX1_settle_16 hf (fun v3 hf => ?_)
        refine g_iald (pc := 17) E Y 45 S_45 dX1_settle_17 hf (fun v4 hf => ?_)
        refine g_callSi (pc := 18) E Y o_X1_rankOf q_577 [.int v4] rfl rfl (hR_of (by omega) (by decide)) hl.1 (rest := []) rfl (Nat.le_of_ble_eq_true rfl) dX1_settle_18 (fun z hz => m_X1_rankOf hz) hf (fun v5 μ6 H locs hf Y => ?_)
        refine lv_iload_n (pc := 21) hx hb dX1_settle_21 rfl (lv_at hl 1 rfl) ?_
        refine g_icmp_lt (pc := 22) (tgt := 79) E dX1_settle_22 (by decide) hf (fun hf => ?_) (fun hf => ?_)
        · exact g_vret (pc := 79) E Y hr hk dX1_settle_79 hf
        · refine lv_aload_n (pc := 25) hx hb dX1_settle_25 rfl (lv_at hl 0 rfl) ?_
          refine lv_dup (pc := 26) hx hb dX1_settle_26 rfl ?_
          refine g_geti (pc := 27) E Y 41 2 S_41 rfl V_1 (by decide) AL_X1 q_249 dX1_settle_27 hf (fun v7 hf => ?_)
          refine lv_iconst (pc := 30) (v := 1) hx hb dX1_settle_30 (by decide) ?_
          refine g_isub (pc := 31) E dX1_settle_31 hf (fun v8 hf => ?_)
          refine g_put (pc := 32) E Y 41 2 S_41 rfl V_1 (by decide) AL_X1 tyX1 tyX1_ok nmX1 q_249 rfl rfl rfl dX1_settle_32 hf (fun μ9 H locs hf Y => ?_)
          refine lv_aload_n (pc := 35) hx hb dX1_settle_35 rfl (lv_at hl 0 rfl) ?_
          refine g_getr (pc := 36) E Y 41 0 42 S_41 rfl V_1 (by decide) AL_X1 q_247 dX1_settle_36 ?_
          refine lv_aload_n (pc := 39) hx hb dX1_settle_39 rfl (lv_at hl 0 rfl) ?_
          refine g_getr (pc := 40) E Y 41 1 45 S_41 rfl V_1 (by decide) AL_X1 q_248 dX1_settle_40 ?_
          refine lv_aload_n (pc := 43) hx hb dX1_settle_43 rfl (lv_at hl 0 rfl) ?_
          refine g_geti (pc := 44) E Y 41 2 S_41 rfl V_1 (by decide) AL_X1 q_249 dX1_settle_44 hf (fun v10 hf => ?_)
          refine g_iald (pc := 47) E Y 45 S_45 dX1_settle_47 hf (fun v11 hf => ?_)
          refine g_ineg (pc := 48) E dX1_settle_48 hf (fun v12 hf => ?_)
          refine g_callVv (pc := 49) E Y 42 S_42 V_5 o_X5_add q_574 [.int v12] rfl rfl (hR_of (by omega) (by decide)) hl.1 (rest := []) rfl (Nat.le_of_ble_eq_true rfl) dX1_settle_49 (fun z hz => m_X5_add_42 hz) hf (fun v13 μ14 H locs hf Y => ?_)
          refine lv_aload_n (pc := 52) hx hb dX1_settle_52 rfl (lv_at hl 0 rfl) ?_
          refine g_getr (pc := 53) E Y 41 1 45 S_41 rfl V_1 (by decide) AL_X1 q_248 dX1_settle_53 ?_
          refine lv_aload_n (pc := 56) hx hb dX1_settle_56 rfl (lv_at hl 0 rfl) ?_
          refine g_geti (pc := 57) E Y 41 2 S_41 rfl V_1 (by decide) AL_X1 q_249 dX1_settle_57 hf (fun v15 hf => ?_)
          refine g_iald (pc := 60) E Y 45 S_45 dX1_settle_60 hf (fun v16 hf => ?_)
          refine lv_bipush (pc := 61) (v := 33) hx hb dX1_settle_61 (by decide) ?_
          refine g_icmp_ne (pc := 63) (tgt := 0) E dX1_settle_63 (by decide) hf (fun hf => ?_) (fun hf => ?_)
          · exact ih _ _ _ _ _ hf Y (lv_sub hl [0, 1] rfl)
          · refine lv_aload_n (pc := 66) hx hb dX1_settle_66 rfl (lv_at hl 0 rfl) ?_
            refine lv_dup (pc := 67) hx hb dX1_settle_67 rfl ?_
            refine g_geti (pc := 68) E Y 41 3 S_41 rfl V_1 (by decide) AL_X1 q_250 dX1_settle_68 hf (fun v17 hf => ?_)
            refine lv_iconst (pc := 71) (v := 1) hx hb dX1_settle_71 (by decide) ?_
            refine g_isub (pc := 72) E dX1_settle_72 hf (fun v18 hf => ?_)
            refine g_put (pc := 73) E Y 41 3 S_41 rfl V_1 (by decide) AL_X1 tyX1 tyX1_ok nmX1 q_250 rfl rfl rfl dX1_settle_73 hf (fun μ19 H locs hf Y => ?_)
            refine lv_goto (pc := 76) (tgt := 0) hx hb dX1_settle_76 (by decide) ?_
            exact ih _ _ _ _ _ hf Y (lv_sub hl [0, 1] rfl)
  unfold f_X1_settle_41 at hf
  exact hL_0 1000 _ _ _ _ _ hf Y (lv_sub hl [0, 1] rfl)
def f_X1_isNumeral (a0 : Int32) (σ : Mem) : Res := if a0 < 48 then (gb 0 (some (0, σ))) else (if 57 < a0 then (gb 0 (some (0, σ))) else (gb 1 (some (1, σ))))
set_option maxHeartbeats 4000000 in
set_option maxRecDepth 100000 in
theorem m_X1_isNumeral {l : Launch} {σ : Mem} {Z : Int32 × Mem} {a0 : Int32} (hf : f_X1_isNumeral a0 σ = some Z) : CT l yX1_isNumeral cX1_isNumeral 1 (some .boolean) 0 (fun _ => [.int a0]) σ Z := by
  refine g_openT RX1 (by decide) rfl (fun _ => Nat.le_of_ble_eq_true rfl) (fun p e s m below meth c D cI cB ad st ls E Y hr hk hl => ?_)
  have hx := E.1.1
  have hb := E.1.2.1
  have hl : lv_has ls 1 [(0, .int a0)] := hl
  unfold f_X1_isNumeral at hf
  refine lv_iload_n (pc := 0) hx hb dX1_isNumeral_0 rfl (lv_at hl 0 rfl) ?_
  refine lv_bipush (pc := 1) (v := 48) hx hb dX1_isNumeral_1 (by decide) ?_
  refine g_icmp_lt (pc := 3) (tgt := 16) E dX1_isNumeral_3 (by decide) hf (fun hf => ?_) (fun hf => ?_)
  · refine lv_iconst (pc := 16) (v := 0) hx hb dX1_isNumeral_16 (by decide) ?_
    exact g_zret (pc := 17) E Y hr hk dX1_isNumeral_17 hf
  · refine lv_iload_n (pc := 6) hx hb dX1_isNumeral_6 rfl (lv_at hl 0 rfl) ?_
    refine lv_bipush (pc := 7) (v := 57) hx hb dX1_isNumeral_7 (by decide) ?_
    refine g_icmp_gt (pc := 9) (tgt := 16) E dX1_isNumeral_9 (by decide) hf (fun hf => ?_) (fun hf => ?_)
    · refine lv_iconst (pc := 16) (v := 0) hx hb dX1_isNumeral_16 (by decide) ?_
      exact g_zret (pc := 17) E Y hr hk dX1_isNumeral_17 hf
    · refine lv_iconst (pc := 12) (v := 1) hx hb dX1_isNumeral_12 (by decide) ?_
      refine lv_goto (pc := 13) (tgt := 17) hx hb dX1_isNumeral_13 (by decide) ?_
      exact g_zret (pc := 17) E Y hr hk dX1_isNumeral_17 hf
def f_X1_park_41 (a0 : Int32) (σ : Mem) : Res := nm (σ 41 2) fun (v1 : Int32) => if 60 ≤ v1 then (some (0, σ)) else (nm (σ 41 2) fun (v2 : Int32) => gi v2 60 <| nm (mset σ 45 v2.toNatClampNeg a0) fun (μ3 : Mem) => nm (μ3 41 2) fun (v4 : Int32) => nm (v4 + 1) fun (v5 : Int32) => nm (mset μ3 41 2 v5) fun (μ6 : Mem) => some (0, μ6))
set_option maxHeartbeats 4000000 in
set_option maxRecDepth 100000 in
theorem m_X1_park_41 {l : Launch} {σ : Mem} {Z : Int32 × Mem} {a0 : Int32} (hf : f_X1_park_41 a0 σ = some Z) : CV l yX1_park cX1_park 2 0 (fun ad => [.ref (ad 41), .int a0]) σ Z := by
  refine g_openV RX1 (by decide) rfl (fun _ => Nat.le_of_ble_eq_true rfl) (fun p e s m below meth c D cI cB ad st ls E Y hr hk hl => ?_)
  have hx := E.1.1
  have hb := E.1.2.1
  have hl : lv_has ls 2 [(0, .ref (ad 41)), (1, .int a0)] := hl
  unfold f_X1_park_41 at hf
  refine lv_aload_n (pc := 0) hx hb dX1_park_0 rfl (lv_at hl 0 rfl) ?_
  refine g_geti (pc := 1) E Y 41 2 S_41 rfl V_1 (by decide) AL_X1 q_249 dX1_park_1 hf (fun v1 hf => ?_)
  refine lv_bipush (pc := 4) (v := 60) hx hb dX1_park_4 (by decide) ?_
  refine g_icmp_ge (pc := 6) (tgt := 29) E dX1_park_6 (by decide) hf (fun hf => ?_) (fun hf => ?_)
  · exact g_vret (pc := 29) E Y hr hk dX1_park_29 hf
  · refine lv_aload_n (pc := 9) hx hb dX1_park_9 rfl (lv_at hl 0 rfl) ?_
    refine g_getr (pc := 10) E Y 41 1 45 S_41 rfl V_1 (by decide) AL_X1 q_248 dX1_park_10 ?_
    refine lv_aload_n (pc := 13) hx hb dX1_park_13 rfl (lv_at hl 0 rfl) ?_
    refine g_geti (pc := 14) E Y 41 2 S_41 rfl V_1 (by decide) AL_X1 q_249 dX1_park_14 hf (fun v2 hf => ?_)
    refine lv_iload_n (pc := 17) hx hb dX1_park_17 rfl (lv_at hl 1 rfl) ?_
    refine g_iast (pc := 18) E Y 45 S_45 dX1_park_18 hf (fun μ3 H locs hf Y => ?_)
    refine lv_aload_n (pc := 19) hx hb dX1_park_19 rfl (lv_at hl 0 rfl) ?_
    refine lv_dup (pc := 20) hx hb dX1_park_20 rfl ?_
    refine g_geti (pc := 21) E Y 41 2 S_41 rfl V_1 (by decide) AL_X1 q_249 dX1_park_21 hf (fun v4 hf => ?_)
    refine lv_iconst (pc := 24) (v := 1) hx hb dX1_park_24 (by decide) ?_
    refine g_iadd (pc := 25) E dX1_park_25 hf (fun v5 hf => ?_)
    refine g_put (pc := 26) E Y 41 2 S_41 rfl V_1 (by decide) AL_X1 tyX1 tyX1_ok nmX1 q_249 rfl rfl rfl dX1_park_26 hf (fun μ6 H locs hf Y => ?_)
    exact g_vret (pc := 29) E Y hr hk dX1_park_29 hf
def f_X1_closes_41_L31  (σ : Mem) : Res := nm (σ 41 3) fun (v5 : Int32) => nm (v5 - 1) fun (v6 : Int32) => nm (mset σ 41 3 v6) fun (μ7 : Mem) => nm (μ7 41 4) fun (v8 : Int32) => nm (v8 - 1) fun (v9 : Int32) => nm (mset μ7 41 4 v9) fun (μ10 : Mem) => gb 1 (some (1, μ10))
def f_X1_closes_41 (σ : Mem) : Res := nm (σ 41 4) fun (v1 : Int32) => if v1 = 0 then (gb 0 (some (0, σ))) else (bd (f_X1_settle_41 1 σ) fun v2 μ3 => nm (μ3 41 2) fun (v4 : Int32) => if v4 ≤ 0 then (f_X1_closes_41_L31 μ3) else (nm (μ3 41 2) fun (v11 : Int32) => nm (v11 - 1) fun (v12 : Int32) => nm (mset μ3 41 2 v12) fun (μ13 : Mem) => f_X1_closes_41_L31 μ13))
set_option maxHeartbeats 4000000 in
set_option maxRecDepth 100000 in
theorem m_X1_closes_41 {l : Launch} {σ : Mem} {Z : Int32 × Mem}  (hf : f_X1_closes_41 σ = some Z) : CT l yX1_closes cX1_closes 1 (some .boolean) 2 (fun ad => [.ref (ad 41)]) σ Z := by
  refine g_openT RX1 (by decide) rfl (fun _ => Nat.le_of_ble_eq_true rfl) (fun p e s m below meth c D cI cB ad st ls E Y hr hk hl => ?_)
  have hx := E.1.1
  have hb := E.1.2.1
  have hl : lv_has ls 1 [(0, .ref (ad 41))] := hl
  have hL_31 : ∀  (σ : Mem) (H : Heap) (locs : List Loc) (ls : Array Slot), f_X1_closes_41_L31  σ = some Z → Wo D cI cB ad (AA ad) σ s H locs → lv_has ls 1 [(0, .ref (ad 41))] → W p l e (rmd 2) s m ([.ref (ad 41)] : List Value).toArray below meth c H locs 0 0 (QT_ below D cI cB ad st Z ([.ref (ad 41)] : List Value).toArray s) (F0 m 31 ls []) := by
    intro  σ H locs ls hf Y hl
    unfold f_X1_closes_41_L31 at hf
    refine lv_aload_n (pc := 31) hx hb dX1_closes_31 rfl (lv_at hl 0 rfl) ?_
    refine lv_dup (pc := 32) hx hb dX1_closes_32 rfl ?_
    refine g_geti (pc := 33) E Y 41 3 S_41 rfl V_1 (by decide) AL_X1 q_250 dX1_closes_33 hf (fun v5 hf => ?_)
    refine lv_iconst (pc := 36) (v := 1) hx hb dX1_closes_36 (by decide) ?_
    refine g_isub (pc := 37) E dX1_closes_37 hf (fun v6 hf => ?_)
    refine g_put (pc := 38) E Y 41 3 S_41 rfl V_1 (by decide) AL_X1 tyX1 tyX1_ok nmX1 q_250 rfl rfl rfl dX1_closes_38 hf (fun μ7 H locs hf Y => ?_)
    refine lv_aload_n (pc := 41) hx hb dX1_closes_41 rfl (lv_at hl 0 rfl) ?_
    refine lv_dup (pc := 42) hx hb dX1_closes_42 rfl ?_
    refine g_geti (pc := 43) E Y 41 4 S_41 rfl V_1 (by decide) AL_X1 q_251 dX1_closes_43 hf (fun v8 hf => ?_)
    refine lv_iconst (pc := 46) (v := 1) hx hb dX1_closes_46 (by decide) ?_
    refine g_isub (pc := 47) E dX1_closes_47 hf (fun v9 hf => ?_)
    refine g_put (pc := 48) E Y 41 4 S_41 rfl V_1 (by decide) AL_X1 tyX1 tyX1_ok nmX1 q_251 rfl rfl rfl dX1_closes_48 hf (fun μ10 H locs hf Y => ?_)
    refine lv_iconst (pc := 51) (v := 1) hx hb dX1_closes_51 (by decide) ?_
    exact g_zret (pc := 52) E Y hr hk dX1_closes_52 hf
  unfold f_X1_closes_41 at hf
  refine lv_aload_n (pc := 0) hx hb dX1_closes_0 rfl (lv_at hl 0 rfl) ?_
  refine g_geti (pc := 1) E Y 41 4 S_41 rfl V_1 (by decide) AL_X1 q_251 dX1_closes_1 hf (fun v1 hf => ?_)
  refine g_if_ne (pc := 4) (tgt := 9) E dX1_closes_4 (by decide) hf (fun hf => ?_) (fun hf => ?_)
  · refine lv_aload_n (pc := 9) hx hb dX1_closes_9 rfl (lv_at hl 0 rfl) ?_
    refine lv_iconst (pc := 10) (v := 1) hx hb dX1_closes_10 (by decide) ?_
    refine g_callVv (pc := 11) E Y 41 S_41 V_1 o_X1_settle q_571 [.int 1] rfl rfl (hR_of (by omega) (by decide)) hl.1 (rest := []) rfl (Nat.le_of_ble_eq_true rfl) dX1_closes_11 (fun z hz => m_X1_settle_41 hz) hf (fun v2 μ3 H locs hf Y => ?_)
    refine lv_aload_n (pc := 14) hx hb dX1_closes_14 rfl (lv_at hl 0 rfl) ?_
    refine g_geti (pc := 15) E Y 41 2 S_41 rfl V_1 (by decide) AL_X1 q_249 dX1_closes_15 hf (fun v4 hf => ?_)
    refine g_if_le (pc := 18) (tgt := 31) E dX1_closes_18 (by decide) hf (fun hf => ?_) (fun hf => ?_)
    · exact hL_31 _ _ _ _ hf Y (lv_sub hl [0] rfl)
    · refine lv_aload_n (pc := 21) hx hb dX1_closes_21 rfl (lv_at hl 0 rfl) ?_
      refine lv_dup (pc := 22) hx hb dX1_closes_22 rfl ?_
      refine g_geti (pc := 23) E Y 41 2 S_41 rfl V_1 (by decide) AL_X1 q_249 dX1_closes_23 hf (fun v11 hf => ?_)
      refine lv_iconst (pc := 26) (v := 1) hx hb dX1_closes_26 (by decide) ?_
      refine g_isub (pc := 27) E dX1_closes_27 hf (fun v12 hf => ?_)
      refine g_put (pc := 28) E Y 41 2 S_41 rfl V_1 (by decide) AL_X1 tyX1 tyX1_ok nmX1 q_249 rfl rfl rfl dX1_closes_28 hf (fun μ13 H locs hf Y => ?_)
      exact hL_31 _ _ _ _ hf Y (lv_sub hl [0] rfl)
  · refine lv_iconst (pc := 7) (v := 0) hx hb dX1_closes_7 (by decide) ?_
    exact g_zret (pc := 8) E Y hr hk dX1_closes_8 hf
def f_X1_lengthens_41 (a0 : Int32) (σ : Mem) : Res := nm (σ 42 2) fun (v1 : Int32) => nm (v1 - 1) fun (v2 : Int32) => nm (σ 41 5) fun (v3 : Int32) => if v3 < 1 then (gb 0 (some (0, σ))) else (nm (σ 41 5) fun (v4 : Int32) => if 4 ≤ v4 then (gb 0 (some (0, σ))) else (if 0 ≤ v2 then (gi v2 60 <| nm (σ 43 v2.toNatClampNeg) fun (v5 : Int32) => nm (v5 * 10) fun (v6 : Int32) => nm (v6 + a0) fun (v7 : Int32) => gi v2 60 <| nm (mset σ 43 v2.toNatClampNeg v7) fun (μ8 : Mem) => nm (μ8 41 5) fun (v9 : Int32) => nm (v9 + 1) fun (v10 : Int32) => nm (mset μ8 41 5 v10) fun (μ11 : Mem) => gb 1 (some (1, μ11))) else (gb 0 (some (0, σ)))))
set_option maxHeartbeats 4000000 in
set_option maxRecDepth 100000 in
theorem m_X1_lengthens_41 {l : Launch} {σ : Mem} {Z : Int32 × Mem} {a0 : Int32} (hf : f_X1_lengthens_41 a0 σ = some Z) : CT l yX1_lengthens cX1_lengthens 3 (some .boolean) 0 (fun ad => [.ref (ad 41), .int a0]) σ Z := by
  refine g_openT RX1 (by decide) rfl (fun _ => Nat.le_of_ble_eq_true rfl) (fun p e s m below meth c D cI cB ad st ls E Y hr hk hl => ?_)
  have hx := E.1.1
  have hb := E.1.2.1
  have hl : lv_has ls 3 [(0, .ref (ad 41)), (1, .int a0)] := hl
  unfold f_X1_lengthens_41 at hf
  refine lv_aload_n (pc := 0) hx hb dX1_lengthens_0 rfl (lv_at hl 0 rfl) ?_
  refine g_getr (pc := 1) E Y 41 0 42 S_41 rfl V_1 (by decide) AL_X1 q_247 dX1_lengthens_1 ?_
  refine g_geti (pc := 4) E Y 42 2 S_42 rfl V_5 (by decide) AL_X5 q_254 dX1_lengthens_4 hf (fun v1 hf => ?_)
  refine lv_iconst (pc := 7) (v := 1) hx hb dX1_lengthens_7 (by decide) ?_
  refine g_isub (pc := 8) E dX1_lengthens_8 hf (fun v2 hf => ?_)
  refine lv_istore_n (pc := 9) (lv' := [(2, .int v2), (0, .ref (ad 41)), (1, .int a0)]) hx hb dX1_lengthens_9 rfl hl (by decide) rfl (fun ls hl => ?_)
  refine lv_aload_n (pc := 10) hx hb dX1_lengthens_10 rfl (lv_at hl 1 rfl) ?_
  refine g_geti (pc := 11) E Y 41 5 S_41 rfl V_1 (by decide) AL_X1 q_252 dX1_lengthens_11 hf (fun v3 hf => ?_)
  refine lv_iconst (pc := 14) (v := 1) hx hb dX1_lengthens_14 (by decide) ?_
  refine g_icmp_lt (pc := 15) (tgt := 30) E dX1_lengthens_15 (by decide) hf (fun hf => ?_) (fun hf => ?_)
  · refine lv_iconst (pc := 30) (v := 0) hx hb dX1_lengthens_30 (by decide) ?_
    exact g_zret (pc := 31) E Y hr hk dX1_lengthens_31 hf
  · refine lv_aload_n (pc := 18) hx hb dX1_lengthens_18 rfl (lv_at hl 1 rfl) ?_
    refine g_geti (pc := 19) E Y 41 5 S_41 rfl V_1 (by decide) AL_X1 q_252 dX1_lengthens_19 hf (fun v4 hf => ?_)
    refine lv_iconst (pc := 22) (v := 4) hx hb dX1_lengthens_22 (by decide) ?_
    refine g_icmp_ge (pc := 23) (tgt := 30) E dX1_lengthens_23 (by decide) hf (fun hf => ?_) (fun hf => ?_)
    · refine lv_iconst (pc := 30) (v := 0) hx hb dX1_lengthens_30 (by decide) ?_
      exact g_zret (pc := 31) E Y hr hk dX1_lengthens_31 hf
    · refine lv_iload_n (pc := 26) hx hb dX1_lengthens_26 rfl (lv_at hl 0 rfl) ?_
      refine g_if_ge (pc := 27) (tgt := 32) E dX1_lengthens_27 (by decide) hf (fun hf => ?_) (fun hf => ?_)
      · refine lv_aload_n (pc := 32) hx hb dX1_lengthens_32 rfl (lv_at hl 1 rfl) ?_
        refine g_getr (pc := 33) E Y 41 0 42 S_41 rfl V_1 (by decide) AL_X1 q_247 dX1_lengthens_33 ?_
        refine g_getr (pc := 36) E Y 42 0 43 S_42 rfl V_5 (by decide) AL_X5 q_256 dX1_lengthens_36 ?_
        refine lv_iload_n (pc := 39) hx hb dX1_lengthens_39 rfl (lv_at hl 0 rfl) ?_
        refine lv_aload_n (pc := 40) hx hb dX1_lengthens_40 rfl (lv_at hl 1 rfl) ?_
        refine g_getr (pc := 41) E Y 41 0 42 S_41 rfl V_1 (by decide) AL_X1 q_247 dX1_lengthens_41 ?_
        refine g_getr (pc := 44) E Y 42 0 43 S_42 rfl V_5 (by decide) AL_X5 q_256 dX1_lengthens_44 ?_
        refine lv_iload_n (pc := 47) hx hb dX1_lengthens_47 rfl (lv_at hl 0 rfl) ?_
        refine g_iald (pc := 48) E Y 43 S_43 dX1_lengthens_48 hf (fun v5 hf => ?_)
        refine lv_bipush (pc := 49) (v := 10) hx hb dX1_lengthens_49 (by decide) ?_
        refine g_imul (pc := 51) E dX1_lengthens_51 hf (fun v6 hf => ?_)
        refine lv_iload_n (pc := 52) hx hb dX1_lengthens_52 rfl (lv_at hl 2 rfl) ?_
        refine g_iadd (pc := 53) E dX1_lengthens_53 hf (fun v7 hf => ?_)
        refine g_iast (pc := 54) E Y 43 S_43 dX1_lengthens_54 hf (fun μ8 H locs hf Y => ?_)
        refine lv_aload_n (pc := 55) hx hb dX1_lengthens_55 rfl (lv_at hl 1 rfl) ?_
        refine lv_dup (pc := 56) hx hb dX1_lengthens_56 rfl ?_
        refine g_geti (pc := 57) E Y 41 5 S_41 rfl V_1 (by decide) AL_X1 q_252 dX1_lengthens_57 hf (fun v9 hf => ?_)
        refine lv_iconst (pc := 60) (v := 1) hx hb dX1_lengthens_60 (by decide) ?_
        refine g_iadd (pc := 61) E dX1_lengthens_61 hf (fun v10 hf => ?_)
        refine g_put (pc := 62) E Y 41 5 S_41 rfl V_1 (by decide) AL_X1 tyX1 tyX1_ok nmX1 q_252 rfl rfl rfl dX1_lengthens_62 hf (fun μ11 H locs hf Y => ?_)
        refine lv_iconst (pc := 65) (v := 1) hx hb dX1_lengthens_65 (by decide) ?_
        exact g_zret (pc := 66) E Y hr hk dX1_lengthens_66 hf
      · refine lv_iconst (pc := 30) (v := 0) hx hb dX1_lengthens_30 (by decide) ?_
        exact g_zret (pc := 31) E Y hr hk dX1_lengthens_31 hf
def f_X1_continues_41 (a0 : Int32) (σ : Mem) : Res := bd (f_X1_isNumeral a0 σ) fun v1 μ2 => if v1 = 0 then (nm (mset μ2 41 5 0) fun (μ3 : Mem) => if a0 = 41 then (bd (f_X1_closes_41 μ3) fun v41 μ42 => gb v41 (some (v41, μ42))) else (bd (f_X1_rankOf a0 μ3) fun v4 μ5 => if v4 = 0 then (gb 0 (some (0, μ5))) else (if v4 = 6 then (gb 0 (some (0, μ5))) else (if v4 = 3 then (nm (v4 + 1) fun (v23 : Int32) => bd (f_X1_settle_41 v23 μ5) fun v24 μ25 => if v4 = 3 then (nm (μ25 41 2) fun (v29 : Int32) => if v29 ≤ 0 then (bd (f_X1_park_41 a0 μ25) fun v30 μ31 => gb 1 <| nm (mset μ31 41 6 1) fun (μ32 : Mem) => gb 1 (some (1, μ32))) else (nm (μ25 41 2) fun (v33 : Int32) => nm (v33 - 1) fun (v34 : Int32) => gi v34 60 <| nm (μ25 45 v34.toNatClampNeg) fun (v35 : Int32) => bd (f_X1_rankOf v35 μ25) fun v36 μ37 => if v36 = 3 then (gb 0 (some (0, μ37))) else (bd (f_X1_park_41 a0 μ37) fun v38 μ39 => gb 1 <| nm (mset μ39 41 6 1) fun (μ40 : Mem) => gb 1 (some (1, μ40))))) else (bd (f_X1_park_41 a0 μ25) fun v26 μ27 => gb 1 <| nm (mset μ27 41 6 1) fun (μ28 : Mem) => gb 1 (some (1, μ28)))) else (bd (f_X1_settle_41 v4 μ5) fun v6 μ7 => if v4 = 3 then (nm (μ7 41 2) fun (v11 : Int32) => if v11 ≤ 0 then (bd (f_X1_park_41 a0 μ7) fun v12 μ13 => gb 1 <| nm (mset μ13 41 6 1) fun (μ14 : Mem) => gb 1 (some (1, μ14))) else (nm (μ7 41 2) fun (v15 : Int32) => nm (v15 - 1) fun (v16 : Int32) => gi v16 60 <| nm (μ7 45 v16.toNatClampNeg) fun (v17 : Int32) => bd (f_X1_rankOf v17 μ7) fun v18 μ19 => if v18 = 3 then (gb 0 (some (0, μ19))) else (bd (f_X1_park_41 a0 μ19) fun v20 μ21 => gb 1 <| nm (mset μ21 41 6 1) fun (μ22 : Mem) => gb 1 (some (1, μ22))))) else (bd (f_X1_park_41 a0 μ7) fun v8 μ9 => gb 1 <| nm (mset μ9 41 6 1) fun (μ10 : Mem) => gb 1 (some (1, μ10)))))))) else (nm (a0 - 48) fun (v43 : Int32) => bd (f_X1_lengthens_41 v43 μ2) fun v44 μ45 => gb v44 (some (v44, μ45)))
set_option maxHeartbeats 4000000 in
set_option maxRecDepth 100000 in
theorem m_X1_continues_41 {l : Launch} {σ : Mem} {Z : Int32 × Mem} {a0 : Int32} (hf : f_X1_continues_41 a0 σ = some Z) : CT l yX1_continues cX1_continues 3 (some .boolean) 3 (fun ad => [.ref (ad 41), .int a0]) σ Z := by
  refine g_openT RX1 (by decide) rfl (fun _ => Nat.le_of_ble_eq_true rfl) (fun p e s m below meth c D cI cB ad st ls E Y hr hk hl => ?_)
  have hx := E.1.1
  have hb := E.1.2.1
  have hl : lv_has ls 3 [(0, .ref (ad 41)), (1, .int a0)] := hl
  unfold f_X1_continues_41 at hf
  refine lv_iload_n (pc := 0) hx hb dX1_continues_0 rfl (lv_at hl 1 rfl) ?_
  refine g_callSi (pc := 1) E Y o_X1_isNumeral q_573 [.int a0] rfl rfl (hR_of (by omega) (by decide)) hl.1 (rest := []) rfl (Nat.le_of_ble_eq_true rfl) dX1_continues_1 (fun z hz => m_X1_isNumeral hz) hf (fun v1 μ2 H locs hf Y => ?_)
  refine g_if_eq (pc := 4) (tgt := 16) E dX1_continues_4 (by decide) hf (fun hf => ?_) (fun hf => ?_)
  · refine lv_aload_n (pc := 16) hx hb dX1_continues_16 rfl (lv_at hl 0 rfl) ?_
    refine lv_iconst (pc := 17) (v := 0) hx hb dX1_continues_17 (by decide) ?_
    refine g_put (pc := 18) E Y 41 5 S_41 rfl V_1 (by decide) AL_X1 tyX1 tyX1_ok nmX1 q_252 rfl rfl rfl dX1_continues_18 hf (fun μ3 H locs hf Y => ?_)
    refine lv_iload_n (pc := 21) hx hb dX1_continues_21 rfl (lv_at hl 1 rfl) ?_
    refine lv_bipush (pc := 22) (v := 41) hx hb dX1_continues_22 (by decide) ?_
    refine g_icmp_ne (pc := 24) (tgt := 32) E dX1_continues_24 (by decide) hf (fun hf => ?_) (fun hf => ?_)
    · refine lv_iload_n (pc := 32) hx hb dX1_continues_32 rfl (lv_at hl 1 rfl) ?_
      refine g_callSi (pc := 33) E Y o_X1_rankOf q_577 [.int a0] rfl rfl (hR_of (by omega) (by decide)) hl.1 (rest := []) rfl (Nat.le_of_ble_eq_true rfl) dX1_continues_33 (fun z hz => m_X1_rankOf hz) hf (fun v4 μ5 H locs hf Y => ?_)
      refine lv_istore_n (pc := 36) (lv' := [(2, .int v4), (0, .ref (ad 41)), (1, .int a0)]) hx hb dX1_continues_36 rfl hl (by decide) rfl (fun ls hl => ?_)
      refine lv_iload_n (pc := 37) hx hb dX1_continues_37 rfl (lv_at hl 0 rfl) ?_
      refine g_if_eq (pc := 38) (tgt := 47) E dX1_continues_38 (by decide) hf (fun hf => ?_) (fun hf => ?_)
      · refine lv_iconst (pc := 47) (v := 0) hx hb dX1_continues_47 (by decide) ?_
        exact g_zret (pc := 48) E Y hr hk dX1_continues_48 hf
      · refine lv_iload_n (pc := 41) hx hb dX1_continues_41 rfl (lv_at hl 0 rfl) ?_
        refine lv_bipush (pc := 42) (v := 6) hx hb dX1_continues_42 (by decide) ?_
        refine g_icmp_ne (pc := 44) (tgt := 49) E dX1_continues_44 (by decide) hf (fun hf => ?_) (fun hf => ?_)
        · refine lv_aload_n (pc := 49) hx hb dX1_continues_49 rfl (lv_at hl 1 rfl) ?_
          refine lv_iload_n (pc := 50) hx hb dX1_continues_50 rfl (lv_at hl 0 rfl) ?_
          refine lv_iconst (pc := 51) (v := 3) hx hb dX1_continues_51 (by decide) ?_
          refine g_icmp_ne (pc := 52) (tgt := 61) E dX1_continues_52 (by decide) hf (fun hf => ?_) (fun hf => ?_)
          · refine lv_iload_n (pc := 61) hx hb dX1_continues_61 rfl (lv_at hl 0 rfl) ?_
            refine g_callVv (pc := 62) E Y 41 S_41 V_1 o_X1_settle q_571 [.int v4] rfl rfl (hR_of (by omega) (by decide)) hl.1 (rest := []) rfl (Nat.le_of_ble_eq_true rfl) dX1_continues_62 (fun z hz => m_X1_settle_41 hz) hf (fun v6 μ7 H locs hf Y => ?_)
            refine lv_iload_n (pc := 65) hx hb dX1_continues_65 rfl (lv_at hl 0 rfl) ?_
            refine lv_iconst (pc := 66) (v := 3) hx hb dX1_continues_66 (by decide) ?_
            refine g_icmp_ne (pc := 67) (tgt := 97) E dX1_continues_67 (by decide) hf (fun hf => ?_) (fun hf => ?_)
            · refine lv_aload_n (pc := 97) hx hb dX1_continues_97 rfl (lv_at hl 1 rfl) ?_
              refine lv_iload_n (pc := 98) hx hb dX1_continues_98 rfl (lv_at hl 2 rfl) ?_
              refine g_callVv (pc := 99) E Y 41 S_41 V_1 o_X1_park q_572 [.int a0] rfl rfl (hR_of (by omega) (by decide)) hl.1 (rest := []) rfl (Nat.le_of_ble_eq_true rfl) dX1_continues_99 (fun z hz => m_X1_park_41 hz) hf (fun v8 μ9 H locs hf Y => ?_)
              refine lv_aload_n (pc := 102) hx hb dX1_continues_102 rfl (lv_at hl 1 rfl) ?_
              refine lv_iconst (pc := 103) (v := 1) hx hb dX1_continues_103 (by decide) ?_
              obtain ⟨h01, hf⟩ := gb_some hf
              refine g_put (pc := 104) E Y 41 6 S_41 rfl V_1 (by decide) AL_X1 tyX1 tyX1_ok nmX1 q_253 rfl (nar01 h01) (fit01 h01) dX1_continues_104 hf (fun μ10 H locs hf Y => ?_)
              refine lv_iconst (pc := 107) (v := 1) hx hb dX1_continues_107 (by decide) ?_
              exact g_zret (pc := 108) E Y hr hk dX1_continues_108 hf
            · refine lv_aload_n (pc := 70) hx hb dX1_continues_70 rfl (lv_at hl 1 rfl) ?_
              refine g_geti (pc := 71) E Y 41 2 S_41 rfl V_1 (by decide) AL_X1 q_249 dX1_continues_71 hf (fun v11 hf => ?_)
              refine g_if_le (pc := 74) (tgt := 97) E dX1_continues_74 (by decide) hf (fun hf => ?_) (fun hf => ?_)
              · refine lv_aload_n (pc := 97) hx hb dX1_continues_97 rfl (lv_at hl 1 rfl) ?_
                refine lv_iload_n (pc := 98) hx hb dX1_continues_98 rfl (lv_at hl 2 rfl) ?_
                refine g_callVv (pc := 99) E Y 41 S_41 V_1 o_X1_park q_572 [.int a0] rfl rfl (hR_of (by omega) (by decide)) hl.1 (rest := []) rfl (Nat.le_of_ble_eq_true rfl) dX1_continues_99 (fun z hz => m_X1_park_41 hz) hf (fun v12 μ13 H locs hf Y => ?_)
                refine lv_aload_n (pc := 102) hx hb dX1_continues_102 rfl (lv_at hl 1 rfl) ?_
                refine lv_iconst (pc := 103) (v := 1) hx hb dX1_continues_103 (by decide) ?_
                obtain ⟨h01, hf⟩ := gb_some hf
                refine g_put (pc := 104) E Y 41 6 S_41 rfl V_1 (by decide) AL_X1 tyX1 tyX1_ok nmX1 q_253 rfl (nar01 h01) (fit01 h01) dX1_continues_104 hf (fun μ14 H locs hf Y => ?_)
                refine lv_iconst (pc := 107) (v := 1) hx hb dX1_continues_107 (by decide) ?_
                exact g_zret (pc := 108) E Y hr hk dX1_continues_108 hf
              · refine lv_aload_n (pc := 77) hx hb dX1_continues_77 rfl (lv_at hl 1 rfl) ?_
                refine g_getr (pc := 78) E Y 41 1 45 S_41 rfl V_1 (by decide) AL_X1 q_248 dX1_continues_78 ?_
                refine lv_aload_n (pc := 81) hx hb dX1_continues_81 rfl (lv_at hl 1 rfl) ?_
                refine g_geti (pc := 82) E Y 41 2 S_41 rfl V_1 (by decide) AL_X1 q_249 dX1_continues_82 hf (fun v15 hf => ?_)
                refine lv_iconst (pc := 85) (v := 1) hx hb dX1_continues_85 (by decide) ?_
                refine g_isub (pc := 86) E dX1_continues_86 hf (fun v16 hf => ?_)
                refine g_iald (pc := 87) E Y 45 S_45 dX1_continues_87 hf (fun v17 hf => ?_)
                refine g_callSi (pc := 88) E Y o_X1_rankOf q_577 [.int v17] rfl rfl (hR_of (by omega) (by decide)) hl.1 (rest := []) rfl (Nat.le_of_ble_eq_true rfl) dX1_continues_88 (fun z hz => m_X1_rankOf hz) hf (fun v18 μ19 H locs hf Y => ?_)
                refine lv_iconst (pc := 91) (v := 3) hx hb dX1_continues_91 (by decide) ?_
                refine g_icmp_ne (pc := 92) (tgt := 97) E dX1_continues_92 (by decide) hf (fun hf => ?_) (fun hf => ?_)
                · refine lv_aload_n (pc := 97) hx hb dX1_continues_97 rfl (lv_at hl 1 rfl) ?_
                  refine lv_iload_n (pc := 98) hx hb dX1_continues_98 rfl (lv_at hl 2 rfl) ?_
                  refine g_callVv (pc := 99) E Y 41 S_41 V_1 o_X1_park q_572 [.int a0] rfl rfl (hR_of (by omega) (by decide)) hl.1 (rest := []) rfl (Nat.le_of_ble_eq_true rfl) dX1_continues_99 (fun z hz => m_X1_park_41 hz) hf (fun v20 μ21 H locs hf Y => ?_)
                  refine lv_aload_n (pc := 102) hx hb dX1_continues_102 rfl (lv_at hl 1 rfl) ?_
                  refine lv_iconst (pc := 103) (v := 1) hx hb dX1_continues_103 (by decide) ?_
                  obtain ⟨h01, hf⟩ := gb_some hf
                  refine g_put (pc := 104) E Y 41 6 S_41 rfl V_1 (by decide) AL_X1 tyX1 tyX1_ok nmX1 q_253 rfl (nar01 h01) (fit01 h01) dX1_continues_104 hf (fun μ22 H locs hf Y => ?_)
                  refine lv_iconst (pc := 107) (v := 1) hx hb dX1_continues_107 (by decide) ?_
                  exact g_zret (pc := 108) E Y hr hk dX1_continues_108 hf
                · refine lv_iconst (pc := 95) (v := 0) hx hb dX1_continues_95 (by decide) ?_
                  exact g_zret (pc := 96) E Y hr hk dX1_continues_96 hf
          · refine lv_iload_n (pc := 55) hx hb dX1_continues_55 rfl (lv_at hl 0 rfl) ?_
            refine lv_iconst (pc := 56) (v := 1) hx hb dX1_continues_56 (by decide) ?_
            refine g_iadd (pc := 57) E dX1_continues_57 hf (fun v23 hf => ?_)
            refine lv_goto (pc := 58) (tgt := 62) hx hb dX1_continues_58 (by decide) ?_
            refine g_callVv (pc := 62) E Y 41 S_41 V_1 o_X1_settle q_571 [.int v23] rfl rfl (hR_of (by omega) (by decide)) hl.1 (rest := []) rfl (Nat.le_of_ble_eq_true rfl) dX1_continues_62 (fun z hz => m_X1_settle_41 hz) hf (fun v24 μ25 H locs hf Y => ?_)
            refine lv_iload_n (pc := 65) hx hb dX1_continues_65 rfl (lv_at hl 0 rfl) ?_
            refine lv_iconst (pc := 66) (v := 3) hx hb dX1_continues_66 (by decide) ?_
            refine g_icmp_ne (pc := 67) (tgt := 97) E dX1_continues_67 (by decide) hf (fun hf => ?_) (fun hf => ?_)
            · refine lv_aload_n (pc := 97) hx hb dX1_continues_97 rfl (lv_at hl 1 rfl) ?_
              refine lv_iload_n (pc := 98) hx hb dX1_continues_98 rfl (lv_at hl 2 rfl) ?_
              refine g_callVv (pc := 99) E Y 41 S_41 V_1 o_X1_park q_572 [.int a0] rfl rfl (hR_of (by omega) (by decide)) hl.1 (rest := []) rfl (Nat.le_of_ble_eq_true rfl) dX1_continues_99 (fun z hz => m_X1_park_41 hz) hf (fun v26 μ27 H locs hf Y => ?_)
              refine lv_aload_n (pc := 102) hx hb dX1_continues_102 rfl (lv_at hl 1 rfl) ?_
              refine lv_iconst (pc := 103) (v := 1) hx hb dX1_continues_103 (by decide) ?_
              obtain ⟨h01, hf⟩ := gb_some hf
              refine g_put (pc := 104) E Y 41 6 S_41 rfl V_1 (by decide) AL_X1 tyX1 tyX1_ok nmX1 q_253 rfl (nar01 h01) (fit01 h01) dX1_continues_104 hf (fun μ28 H locs hf Y => ?_)
              refine lv_iconst (pc := 107) (v := 1) hx hb dX1_continues_107 (by decide) ?_
              exact g_zret (pc := 108) E Y hr hk dX1_continues_108 hf
            · refine lv_aload_n (pc := 70) hx hb dX1_continues_70 rfl (lv_at hl 1 rfl) ?_
              refine g_geti (pc := 71) E Y 41 2 S_41 rfl V_1 (by decide) AL_X1 q_249 dX1_continues_71 hf (fun v29 hf => ?_)
              refine g_if_le (pc := 74) (tgt := 97) E dX1_continues_74 (by decide) hf (fun hf => ?_) (fun hf => ?_)
              · refine lv_aload_n (pc := 97) hx hb dX1_continues_97 rfl (lv_at hl 1 rfl) ?_
                refine lv_iload_n (pc := 98) hx hb dX1_continues_98 rfl (lv_at hl 2 rfl) ?_
                refine g_callVv (pc := 99) E Y 41 S_41 V_1 o_X1_park q_572 [.int a0] rfl rfl (hR_of (by omega) (by decide)) hl.1 (rest := []) rfl (Nat.le_of_ble_eq_true rfl) dX1_continues_99 (fun z hz => m_X1_park_41 hz) hf (fun v30 μ31 H locs hf Y => ?_)
                refine lv_aload_n (pc := 102) hx hb dX1_continues_102 rfl (lv_at hl 1 rfl) ?_
                refine lv_iconst (pc := 103) (v := 1) hx hb dX1_continues_103 (by decide) ?_
                obtain ⟨h01, hf⟩ := gb_some hf
                refine g_put (pc := 104) E Y 41 6 S_41 rfl V_1 (by decide) AL_X1 tyX1 tyX1_ok nmX1 q_253 rfl (nar01 h01) (fit01 h01) dX1_continues_104 hf (fun μ32 H locs hf Y => ?_)
                refine lv_iconst (pc := 107) (v := 1) hx hb dX1_continues_107 (by decide) ?_
                exact g_zret (pc := 108) E Y hr hk dX1_continues_108 hf
              · refine lv_aload_n (pc := 77) hx hb dX1_continues_77 rfl (lv_at hl 1 rfl) ?_
                refine g_getr (pc := 78) E Y 41 1 45 S_41 rfl V_1 (by decide) AL_X1 q_248 dX1_continues_78 ?_
                refine lv_aload_n (pc := 81) hx hb dX1_continues_81 rfl (lv_at hl 1 rfl) ?_
                refine g_geti (pc := 82) E Y 41 2 S_41 rfl V_1 (by decide) AL_X1 q_249 dX1_continues_82 hf (fun v33 hf => ?_)
                refine lv_iconst (pc := 85) (v := 1) hx hb dX1_continues_85 (by decide) ?_
                refine g_isub (pc := 86) E dX1_continues_86 hf (fun v34 hf => ?_)
                refine g_iald (pc := 87) E Y 45 S_45 dX1_continues_87 hf (fun v35 hf => ?_)
                refine g_callSi (pc := 88) E Y o_X1_rankOf q_577 [.int v35] rfl rfl (hR_of (by omega) (by decide)) hl.1 (rest := []) rfl (Nat.le_of_ble_eq_true rfl) dX1_continues_88 (fun z hz => m_X1_rankOf hz) hf (fun v36 μ37 H locs hf Y => ?_)
                refine lv_iconst (pc := 91) (v := 3) hx hb dX1_continues_91 (by decide) ?_
                refine g_icmp_ne (pc := 92) (tgt := 97) E dX1_continues_92 (by decide) hf (fun hf => ?_) (fun hf => ?_)
                · refine lv_aload_n (pc := 97) hx hb dX1_continues_97 rfl (lv_at hl 1 rfl) ?_
                  refine lv_iload_n (pc := 98) hx hb dX1_continues_98 rfl (lv_at hl 2 rfl) ?_
                  refine g_callVv (pc := 99) E Y 41 S_41 V_1 o_X1_park q_572 [.int a0] rfl rfl (hR_of (by omega) (by decide)) hl.1 (rest := []) rfl (Nat.le_of_ble_eq_true rfl) dX1_continues_99 (fun z hz => m_X1_park_41 hz) hf (fun v38 μ39 H locs hf Y => ?_)
                  refine lv_aload_n (pc := 102) hx hb dX1_continues_102 rfl (lv_at hl 1 rfl) ?_
                  refine lv_iconst (pc := 103) (v := 1) hx hb dX1_continues_103 (by decide) ?_
                  obtain ⟨h01, hf⟩ := gb_some hf
                  refine g_put (pc := 104) E Y 41 6 S_41 rfl V_1 (by decide) AL_X1 tyX1 tyX1_ok nmX1 q_253 rfl (nar01 h01) (fit01 h01) dX1_continues_104 hf (fun μ40 H locs hf Y => ?_)
                  refine lv_iconst (pc := 107) (v := 1) hx hb dX1_continues_107 (by decide) ?_
                  exact g_zret (pc := 108) E Y hr hk dX1_continues_108 hf
                · refine lv_iconst (pc := 95) (v := 0) hx hb dX1_continues_95 (by decide) ?_
                  exact g_zret (pc := 96) E Y hr hk dX1_continues_96 hf
        · refine lv_iconst (pc := 47) (v := 0) hx hb dX1_continues_47 (by decide) ?_
          exact g_zret (pc := 48) E Y hr hk dX1_continues_48 hf
    · refine lv_aload_n (pc := 27) hx hb dX1_continues_27 rfl (lv_at hl 0 rfl) ?_
      refine g_callVi (pc := 28) E Y 41 S_41 V_1 o_X1_closes q_576 [] rfl rfl (hR_of (by omega) (by decide)) hl.1 (rest := []) rfl (Nat.le_of_ble_eq_true rfl) dX1_continues_28 (fun z hz => m_X1_closes_41 hz) hf (fun v41 μ42 H locs hf Y => ?_)
      exact g_zret (pc := 31) E Y hr hk dX1_continues_31 hf
  · refine lv_aload_n (pc := 7) hx hb dX1_continues_7 rfl (lv_at hl 0 rfl) ?_
    refine lv_iload_n (pc := 8) hx hb dX1_continues_8 rfl (lv_at hl 1 rfl) ?_
    refine lv_bipush (pc := 9) (v := 48) hx hb dX1_continues_9 (by decide) ?_
    refine g_isub (pc := 11) E dX1_continues_11 hf (fun v43 hf => ?_)
    refine g_callVi (pc := 12) E Y 41 S_41 V_1 o_X1_lengthens q_575 [.int v43] rfl rfl (hR_of (by omega) (by decide)) hl.1 (rest := []) rfl (Nat.le_of_ble_eq_true rfl) dX1_continues_12 (fun z hz => m_X1_lengthens_41 hz) hf (fun v44 μ45 H locs hf Y => ?_)
    exact g_zret (pc := 15) E Y hr hk dX1_continues_15 hf
def f_X1_begins_41_L12 (x1 : Int32) (σ : Mem) : Res := nm (σ 41 3) fun (v1 : Int32) => if v1 < 5 then (nm (σ 41 3) fun (v2 : Int32) => nm (v2 + 1) fun (v3 : Int32) => nm (mset σ 41 3 v3) fun (μ4 : Mem) => nm (μ4 41 4) fun (v5 : Int32) => if x1 = 40 then (nm (v5 + 1) fun (v10 : Int32) => nm (mset μ4 41 4 v10) fun (μ11 : Mem) => bd (f_X1_park_41 x1 μ11) fun v12 μ13 => gb 1 (some (1, μ13))) else (nm (v5 + 0) fun (v6 : Int32) => nm (mset μ4 41 4 v6) fun (μ7 : Mem) => bd (f_X1_park_41 x1 μ7) fun v8 μ9 => gb 1 (some (1, μ9)))) else (gb 0 (some (0, σ)))
def fb_X1_begins_41_L91 (bk : Int32 → Int32 → Int32 → Mem → Res) (x1 : Int32) (x2 : Int32) (x3 : Int32) (σ : Mem) : Res := if 3 ≤ x3 then (gb 0 (some (0, σ))) else (nm (x2 * 3) fun (v16 : Int32) => nm (v16 + x3) fun (v17 : Int32) => gi v17 6 <| nm (tN v17.toNatClampNeg) fun (v18 : Int32) => if x1 = v18 then (nm ((-1) - x3) fun (v20 : Int32) => bd (f_X5_add_42 v20 σ) fun v21 μ22 => nm (mset μ22 41 5 0) fun (μ23 : Mem) => gb 0 <| nm (mset μ23 41 6 0) fun (μ24 : Mem) => gb 1 (some (1, μ24))) else (nm (x3 + 1) fun (v19 : Int32) => bk x1 x2 v19 σ))
def f_X1_begins_41_L91 : Nat → Int32 → Int32 → Int32 → Mem → Res
  | 0, _, _, _, _ => none
  | n + 1, x1, x2, x3, σ => fb_X1_begins_41_L91 (f_X1_begins_41_L91 n) x1 x2 x3 σ
def f_X1_begins_41 (a0 : Int32) (a1 : Int32) (σ : Mem) : Res := if a0 = 33 then (f_X1_begins_41_L12 a0 σ) else (if a0 = 40 then (f_X1_begins_41_L12 a0 σ) else (bd (f_X1_isNumeral a0 σ) fun v14 μ15 => if v14 = 0 then (f_X1_begins_41_L91 1000 a0 a1 0 μ15) else (nm (a0 - 48) fun (v25 : Int32) => bd (f_X5_add_42 v25 μ15) fun v26 μ27 => nm (mset μ27 41 5 1) fun (μ28 : Mem) => gb 0 <| nm (mset μ28 41 6 0) fun (μ29 : Mem) => gb 1 (some (1, μ29)))))
set_option maxHeartbeats 4000000 in
set_option maxRecDepth 100000 in
theorem m_X1_begins_41 {l : Launch} {σ : Mem} {Z : Int32 × Mem} {a0 : Int32} {a1 : Int32} (hf : f_X1_begins_41 a0 a1 σ = some Z) : CT l yX1_begins cX1_begins 4 (some .boolean) 1 (fun ad => [.ref (ad 41), .int a0, .int a1]) σ Z := by
  refine g_openT RX1 (by decide) rfl (fun _ => Nat.le_of_ble_eq_true rfl) (fun p e s m below meth c D cI cB ad st ls E Y hr hk hl => ?_)
  have hx := E.1.1
  have hb := E.1.2.1
  have hl : lv_has ls 4 [(0, .ref (ad 41)), (1, .int a0), (2, .int a1)] := hl
  have hL_12 : ∀ (x1 : Int32) (σ : Mem) (H : Heap) (locs : List Loc) (ls : Array Slot), f_X1_begins_41_L12 x1 σ = some Z → Wo D cI cB ad (AA ad) σ s H locs → lv_has ls 4 [(0, .ref (ad 41)), (1, .int x1)] → W p l e (rmd 1) s m ([.ref (ad 41), .int a0, .int a1] : List Value).toArray below meth c H locs 0 0 (QT_ below D cI cB ad st Z ([.ref (ad 41), .int a0, .int a1] : List Value).toArray s) (F0 m 12 ls []) := by
    intro x1 σ H locs ls hf Y hl
    unfold f_X1_begins_41_L12 at hf
    refine lv_aload_n (pc := 12) hx hb dX1_begins_12 rfl (lv_at hl 0 rfl) ?_
    refine g_geti (pc := 13) E Y 41 3 S_41 rfl V_1 (by decide) AL_X1 q_250 dX1_begins_13 hf (fun v1 hf => ?_)
    refine lv_iconst (pc := 16) (v := 5) hx hb dX1_begins_16 (by decide) ?_
    refine g_icmp_lt (pc := 17) (tgt := 22) E dX1_begins_17 (by decide) hf (fun hf => ?_) (fun hf => ?_)
    · refine lv_aload_n (pc := 22) hx hb dX1_begins_22 rfl (lv_at hl 0 rfl) ?_
      refine lv_dup (pc := 23) hx hb dX1_begins_23 rfl ?_
      refine g_geti (pc := 24) E Y 41 3 S_41 rfl V_1 (by decide) AL_X1 q_250 dX1_begins_24 hf (fun v2 hf => ?_)
      refine lv_iconst (pc := 27) (v := 1) hx hb dX1_begins_27 (by decide) ?_
      refine g_iadd (pc := 28) E dX1_begins_28 hf (fun v3 hf => ?_)
      refine g_put (pc := 29) E Y 41 3 S_41 rfl V_1 (by decide) AL_X1 tyX1 tyX1_ok nmX1 q_250 rfl rfl rfl dX1_begins_29 hf (fun μ4 H locs hf Y => ?_)
      refine lv_aload_n (pc := 32) hx hb dX1_begins_32 rfl (lv_at hl 0 rfl) ?_
      refine lv_dup (pc := 33) hx hb dX1_begins_33 rfl ?_
      refine g_geti (pc := 34) E Y 41 4 S_41 rfl V_1 (by decide) AL_X1 q_251 dX1_begins_34 hf (fun v5 hf => ?_)
      refine lv_iload_n (pc := 37) hx hb dX1_begins_37 rfl (lv_at hl 1 rfl) ?_
      refine lv_bipush (pc := 38) (v := 40) hx hb dX1_begins_38 (by decide) ?_
      refine g_icmp_ne (pc := 40) (tgt := 47) E dX1_begins_40 (by decide) hf (fun hf => ?_) (fun hf => ?_)
      · refine lv_iconst (pc := 47) (v := 0) hx hb dX1_begins_47 (by decide) ?_
        refine g_iadd (pc := 48) E dX1_begins_48 hf (fun v6 hf => ?_)
        refine g_put (pc := 49) E Y 41 4 S_41 rfl V_1 (by decide) AL_X1 tyX1 tyX1_ok nmX1 q_251 rfl rfl rfl dX1_begins_49 hf (fun μ7 H locs hf Y => ?_)
        refine lv_aload_n (pc := 52) hx hb dX1_begins_52 rfl (lv_at hl 0 rfl) ?_
        refine lv_iload_n (pc := 53) hx hb dX1_begins_53 rfl (lv_at hl 1 rfl) ?_
        refine g_callVv (pc := 54) E Y 41 S_41 V_1 o_X1_park q_572 [.int x1] rfl rfl (hR_of (by omega) (by decide)) hl.1 (rest := []) rfl (Nat.le_of_ble_eq_true rfl) dX1_begins_54 (fun z hz => m_X1_park_41 hz) hf (fun v8 μ9 H locs hf Y => ?_)
        refine lv_iconst (pc := 57) (v := 1) hx hb dX1_begins_57 (by decide) ?_
        exact g_zret (pc := 58) E Y hr hk dX1_begins_58 hf
      · refine lv_iconst (pc := 43) (v := 1) hx hb dX1_begins_43 (by decide) ?_
        refine lv_goto (pc := 44) (tgt := 48) hx hb dX1_begins_44 (by decide) ?_
        refine g_iadd (pc := 48) E dX1_begins_48 hf (fun v10 hf => ?_)
        refine g_put (pc := 49) E Y 41 4 S_41 rfl V_1 (by decide) AL_X1 tyX1 tyX1_ok nmX1 q_251 rfl rfl rfl dX1_begins_49 hf (fun μ11 H locs hf Y => ?_)
        refine lv_aload_n (pc := 52) hx hb dX1_begins_52 rfl (lv_at hl 0 rfl) ?_
        refine lv_iload_n (pc := 53) hx hb dX1_begins_53 rfl (lv_at hl 1 rfl) ?_
        refine g_callVv (pc := 54) E Y 41 S_41 V_1 o_X1_park q_572 [.int x1] rfl rfl (hR_of (by omega) (by decide)) hl.1 (rest := []) rfl (Nat.le_of_ble_eq_true rfl) dX1_begins_54 (fun z hz => m_X1_park_41 hz) hf (fun v12 μ13 H locs hf Y => ?_)
        refine lv_iconst (pc := 57) (v := 1) hx hb dX1_begins_57 (by decide) ?_
        exact g_zret (pc := 58) E Y hr hk dX1_begins_58 hf
    · refine lv_iconst (pc := 20) (v := 0) hx hb dX1_begins_20 (by decide) ?_
      exact g_zret (pc := 21) E Y hr hk dX1_begins_21 hf
  have hL_91 : ∀ (n : Nat) (x1 : Int32) (x2 : Int32) (x3 : Int32) (σ : Mem) (H : Heap) (locs : List Loc) (ls : Array Slot), f_X1_begins_41_L91 n x1 x2 x3 σ = some Z → Wo D cI cB ad (AA ad) σ s H locs → lv_has ls 4 [(0, .ref (ad 41)), (1, .int x1), (2, .int x2), (3, .int x3)] → W p l e (rmd 1) s m ([.ref (ad 41), .int a0, .int a1] : List Value).toArray below meth c H locs 0 0 (QT_ below D cI cB ad st Z ([.ref (ad 41), .int a0, .int a1] : List Value).toArray s) (F0 m 91 ls []) := by
    intro n
    induction n with
    | zero =>
      intro x1 x2 x3 σ H locs ls hf
      cases (show (none : Res) = some Z from hf)
    | succ n ih =>
      intro x1 x2 x3 σ H locs ls hf Y hl
      have hf : fb_X1_begins_41_L91 (f_X1_begins_41_L91 n) x1 x2 x3 σ = some Z := hf
      unfold fb_X1_begins_41_L91 at hf
      refine lv_iload_n (pc := 91) hx hb dX1_begins_91 rfl (lv_at hl 3 rfl) ?_
      refine lv_iconst (pc := 92) (v := 3) hx hb dX1_begins_92 (by decide) ?_
      refine g_icmp_ge (pc := 93) (tgt := 137) E dX1_begins_93 (by decide) hf (fun hf => ?_) (fun hf => ?_)
      · refine lv_iconst (pc := 137) (v := 0) hx hb dX1_begins_137 (by decide) ?_
        exact g_zret (pc := 138) E Y hr hk dX1_begins_138 hf
      · refine lv_iload_n (pc := 96) hx hb dX1_begins_96 rfl (lv_at hl 1 rfl) ?_
        refine g_getsN2 (pc := 97) E Y dX1_begins_97 ?_
        refine lv_iload_n (pc := 100) hx hb dX1_begins_100 rfl (lv_at hl 2 rfl) ?_
        refine lv_iconst (pc := 101) (v := 3) hx hb dX1_begins_101 (by decide) ?_
        refine g_imul (pc := 102) E dX1_begins_102 hf (fun v16 hf => ?_)
        refine lv_iload_n (pc := 103) hx hb dX1_begins_103 rfl (lv_at hl 3 rfl) ?_
        refine g_iadd (pc := 104) E dX1_begins_104 hf (fun v17 hf => ?_)
        refine g_tc2 (pc := 105) E Y dX1_begins_105 hf (fun v18 hf => ?_)
        refine g_icmp_ne (pc := 106) (tgt := 131) E dX1_begins_106 (by decide) hf (fun hf => ?_) (fun hf => ?_)
        · refine g_iinc (pc := 131) E (fun v19 => [(3, .int v19), (0, .ref (ad 41)), (1, .int x1), (2, .int x2)]) dX1_begins_131 hl (k := 3) rfl (t := 1) (by decide) (by decide) (fun _ => rfl) hf (fun v19 hf ls hl => ?_)
          refine lv_goto (pc := 134) (tgt := 91) hx hb dX1_begins_134 (by decide) ?_
          exact ih _ _ _ _ _ _ _ hf Y (lv_sub hl [1, 2, 3, 0] rfl)
        · refine lv_aload_n (pc := 109) hx hb dX1_begins_109 rfl (lv_at hl 0 rfl) ?_
          refine g_getr (pc := 110) E Y 41 0 42 S_41 rfl V_1 (by decide) AL_X1 q_247 dX1_begins_110 ?_
          refine lv_iconst (pc := 113) (v := (-1)) hx hb dX1_begins_113 (by decide) ?_
          refine lv_iload_n (pc := 114) hx hb dX1_begins_114 rfl (lv_at hl 3 rfl) ?_
          refine g_isub (pc := 115) E dX1_begins_115 hf (fun v20 hf => ?_)
          refine g_callVv (pc := 116) E Y 42 S_42 V_5 o_X5_add q_574 [.int v20] rfl rfl (hR_of (by omega) (by decide)) hl.1 (rest := []) rfl (Nat.le_of_ble_eq_true rfl) dX1_begins_116 (fun z hz => m_X5_add_42 hz) hf (fun v21 μ22 H locs hf Y => ?_)
          refine lv_aload_n (pc := 119) hx hb dX1_begins_119 rfl (lv_at hl 0 rfl) ?_
          refine lv_iconst (pc := 120) (v := 0) hx hb dX1_begins_120 (by decide) ?_
          refine g_put (pc := 121) E Y 41 5 S_41 rfl V_1 (by decide) AL_X1 tyX1 tyX1_ok nmX1 q_252 rfl rfl rfl dX1_begins_121 hf (fun μ23 H locs hf Y => ?_)
          refine lv_aload_n (pc := 124) hx hb dX1_begins_124 rfl (lv_at hl 0 rfl) ?_
          refine lv_iconst (pc := 125) (v := 0) hx hb dX1_begins_125 (by decide) ?_
          obtain ⟨h01, hf⟩ := gb_some hf
          refine g_put (pc := 126) E Y 41 6 S_41 rfl V_1 (by decide) AL_X1 tyX1 tyX1_ok nmX1 q_253 rfl (nar01 h01) (fit01 h01) dX1_begins_126 hf (fun μ24 H locs hf Y => ?_)
          refine lv_iconst (pc := 129) (v := 1) hx hb dX1_begins_129 (by decide) ?_
          exact g_zret (pc := 130) E Y hr hk dX1_begins_130 hf
  unfold f_X1_begins_41 at hf
  refine lv_iload_n (pc := 0) hx hb dX1_begins_0 rfl (lv_at hl 1 rfl) ?_
  refine lv_bipush (pc := 1) (v := 33) hx hb dX1_begins_1 (by decide) ?_
  refine g_icmp_eq (pc := 3) (tgt := 12) E dX1_begins_3 (by decide) hf (fun hf => ?_) (fun hf => ?_)
  · exact hL_12 _ _ _ _ _ hf Y (lv_sub hl [0, 1] rfl)
  · refine lv_iload_n (pc := 6) hx hb dX1_begins_6 rfl (lv_at hl 1 rfl) ?_
    refine lv_bipush (pc := 7) (v := 40) hx hb dX1_begins_7 (by decide) ?_
    refine g_icmp_ne (pc := 9) (tgt := 59) E dX1_begins_9 (by decide) hf (fun hf => ?_) (fun hf => ?_)
    · refine lv_iload_n (pc := 59) hx hb dX1_begins_59 rfl (lv_at hl 1 rfl) ?_
      refine g_callSi (pc := 60) E Y o_X1_isNumeral q_573 [.int a0] rfl rfl (hR_of (by omega) (by decide)) hl.1 (rest := []) rfl (Nat.le_of_ble_eq_true rfl) dX1_begins_60 (fun z hz => m_X1_isNumeral hz) hf (fun v14 μ15 H locs hf Y => ?_)
      refine g_if_eq (pc := 63) (tgt := 89) E dX1_begins_63 (by decide) hf (fun hf => ?_) (fun hf => ?_)
      · refine lv_iconst (pc := 89) (v := 0) hx hb dX1_begins_89 (by decide) ?_
        refine lv_istore_n (pc := 90) (lv' := [(3, .int 0), (0, .ref (ad 41)), (1, .int a0), (2, .int a1)]) hx hb dX1_begins_90 rfl hl (by decide) rfl (fun ls hl => ?_)
        exact hL_91 1000 _ _ _ _ _ _ _ hf Y (lv_sub hl [1, 2, 3, 0] rfl)
      · refine lv_aload_n (pc := 66) hx hb dX1_begins_66 rfl (lv_at hl 0 rfl) ?_
        refine g_getr (pc := 67) E Y 41 0 42 S_41 rfl V_1 (by decide) AL_X1 q_247 dX1_begins_67 ?_
        refine lv_iload_n (pc := 70) hx hb dX1_begins_70 rfl (lv_at hl 1 rfl) ?_
        refine lv_bipush (pc := 71) (v := 48) hx hb dX1_begins_71 (by decide) ?_
        refine g_isub (pc := 73) E dX1_begins_73 hf (fun v25 hf => ?_)
        refine g_callVv (pc := 74) E Y 42 S_42 V_5 o_X5_add q_574 [.int v25] rfl rfl (hR_of (by omega) (by decide)) hl.1 (rest := []) rfl (Nat.le_of_ble_eq_true rfl) dX1_begins_74 (fun z hz => m_X5_add_42 hz) hf (fun v26 μ27 H locs hf Y => ?_)
        refine lv_aload_n (pc := 77) hx hb dX1_begins_77 rfl (lv_at hl 0 rfl) ?_
        refine lv_iconst (pc := 78) (v := 1) hx hb dX1_begins_78 (by decide) ?_
        refine g_put (pc := 79) E Y 41 5 S_41 rfl V_1 (by decide) AL_X1 tyX1 tyX1_ok nmX1 q_252 rfl rfl rfl dX1_begins_79 hf (fun μ28 H locs hf Y => ?_)
        refine lv_aload_n (pc := 82) hx hb dX1_begins_82 rfl (lv_at hl 0 rfl) ?_
        refine lv_iconst (pc := 83) (v := 0) hx hb dX1_begins_83 (by decide) ?_
        obtain ⟨h01, hf⟩ := gb_some hf
        refine g_put (pc := 84) E Y 41 6 S_41 rfl V_1 (by decide) AL_X1 tyX1 tyX1_ok nmX1 q_253 rfl (nar01 h01) (fit01 h01) dX1_begins_84 hf (fun μ29 H locs hf Y => ?_)
        refine lv_iconst (pc := 87) (v := 1) hx hb dX1_begins_87 (by decide) ?_
        exact g_zret (pc := 88) E Y hr hk dX1_begins_88 hf
    · exact hL_12 _ _ _ _ _ hf Y (lv_sub hl [0, 1] rfl)
