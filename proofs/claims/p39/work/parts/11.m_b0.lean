/-! methods, by program: a pure program and its contract each -/
def f_X8_error_53 (a0 : Int32) (σ : Mem) : Res := nm ((-1000000000) - a0) fun (v1 : Int32) => gi v1 7 <| nm (σ 56 v1.toNatClampNeg) fun (v2 : Int32) => nm (v2 + 1) fun (v3 : Int32) => gi v1 7 <| nm (mset σ 56 v1.toNatClampNeg v3) fun (μ4 : Mem) => some (a0, μ4)
set_option maxHeartbeats 4000000 in
set_option maxRecDepth 100000 in
theorem m_X8_error_53 {l : Launch} {σ : Mem} {Z : Int32 × Mem} {a0 : Int32} (hf : f_X8_error_53 a0 σ = some Z) : CT l yX8_error cX8_error 2 (some .int) 0 (fun ad => [.ref (ad 53), .int a0]) σ Z := by
  refine g_openT RX8 (by decide) rfl (fun _ => Nat.le_of_ble_eq_true rfl) (fun p e s m below meth c D cI cB ad st ls E Y hr hk hl => ?_)
  have hx := E.1.1
  have hb := E.1.2.1
  have hl : lv_has ls 2 [(0, .ref (ad 53)), (1, .int a0)] := hl
  unfold f_X8_error_53 at hf
  refine lv_aload_n (pc := 0) hx hb dX8_error_0 rfl (lv_at hl 0 rfl) ?_
  refine g_getr (pc := 1) E Y 53 3 56 S_53 rfl V_8 (by decide) AL_X8 q_346 dX8_error_1 ?_
  refine lv_ldc (pc := 4) (v := (-1000000000)) hx hb E.1.2.2.2.1 (E.1.2.2.2.2 _ q_237) dX8_error_4 ?_
  refine lv_iload_n (pc := 6) hx hb dX8_error_6 rfl (lv_at hl 1 rfl) ?_
  refine g_isub (pc := 7) E dX8_error_7 hf (fun v1 hf => ?_)
  refine lv_dup2_11 (pc := 8) hx hb dX8_error_8 rfl rfl ?_
  refine g_iald (pc := 9) E Y 56 S_56 dX8_error_9 hf (fun v2 hf => ?_)
  refine lv_iconst (pc := 10) (v := 1) hx hb dX8_error_10 (by decide) ?_
  refine g_iadd (pc := 11) E dX8_error_11 hf (fun v3 hf => ?_)
  refine g_iast (pc := 12) E Y 56 S_56 dX8_error_12 hf (fun μ4 H locs hf Y => ?_)
  refine lv_iload_n (pc := 13) hx hb dX8_error_13 rfl (lv_at hl 1 rfl) ?_
  exact g_iret (pc := 14) E Y hr hk dX8_error_14 hf
def f_X8_in (a0 : Int32) (a1 : Int32) (a2 : Int32) (σ : Mem) : Res := if a0 < a1 then (gb 0 (some (0, σ))) else (if a2 < a0 then (gb 0 (some (0, σ))) else (gb 1 (some (1, σ))))
set_option maxHeartbeats 4000000 in
set_option maxRecDepth 100000 in
theorem m_X8_in {l : Launch} {σ : Mem} {Z : Int32 × Mem} {a0 : Int32} {a1 : Int32} {a2 : Int32} (hf : f_X8_in a0 a1 a2 σ = some Z) : CT l yX8_in cX8_in 3 (some .boolean) 0 (fun _ => [.int a0, .int a1, .int a2]) σ Z := by
  refine g_openT RX8 (by decide) rfl (fun _ => Nat.le_of_ble_eq_true rfl) (fun p e s m below meth c D cI cB ad st ls E Y hr hk hl => ?_)
  have hx := E.1.1
  have hb := E.1.2.1
  have hl : lv_has ls 3 [(0, .int a0), (1, .int a1), (2, .int a2)] := hl
  unfold f_X8_in at hf
  refine lv_iload_n (pc := 0) hx hb dX8_in_0 rfl (lv_at hl 0 rfl) ?_
  refine lv_iload_n (pc := 1) hx hb dX8_in_1 rfl (lv_at hl 1 rfl) ?_
  refine g_icmp_lt (pc := 2) (tgt := 14) E dX8_in_2 (by decide) hf (fun hf => ?_) (fun hf => ?_)
  · refine lv_iconst (pc := 14) (v := 0) hx hb dX8_in_14 (by decide) ?_
    exact g_zret (pc := 15) E Y hr hk dX8_in_15 hf
  · refine lv_iload_n (pc := 5) hx hb dX8_in_5 rfl (lv_at hl 0 rfl) ?_
    refine lv_iload_n (pc := 6) hx hb dX8_in_6 rfl (lv_at hl 2 rfl) ?_
    refine g_icmp_gt (pc := 7) (tgt := 14) E dX8_in_7 (by decide) hf (fun hf => ?_) (fun hf => ?_)
    · refine lv_iconst (pc := 14) (v := 0) hx hb dX8_in_14 (by decide) ?_
      exact g_zret (pc := 15) E Y hr hk dX8_in_15 hf
    · refine lv_iconst (pc := 10) (v := 1) hx hb dX8_in_10 (by decide) ?_
      refine lv_goto (pc := 11) (tgt := 15) hx hb dX8_in_11 (by decide) ?_
      exact g_zret (pc := 15) E Y hr hk dX8_in_15 hf
def f_X8_held (a0 : Int32) (a1 : Int32) (a2 : Int32) (σ : Mem) : Res := if a1 ≤ a0 then (if a0 ≤ a2 then (some (a0, σ)) else (some (a2, σ))) else (some (a1, σ))
set_option maxHeartbeats 4000000 in
set_option maxRecDepth 100000 in
theorem m_X8_held {l : Launch} {σ : Mem} {Z : Int32 × Mem} {a0 : Int32} {a1 : Int32} {a2 : Int32} (hf : f_X8_held a0 a1 a2 σ = some Z) : CT l yX8_held cX8_held 3 (some .int) 0 (fun _ => [.int a0, .int a1, .int a2]) σ Z := by
  refine g_openT RX8 (by decide) rfl (fun _ => Nat.le_of_ble_eq_true rfl) (fun p e s m below meth c D cI cB ad st ls E Y hr hk hl => ?_)
  have hx := E.1.1
  have hb := E.1.2.1
  have hl : lv_has ls 3 [(0, .int a0), (1, .int a1), (2, .int a2)] := hl
  unfold f_X8_held at hf
  refine lv_iload_n (pc := 0) hx hb dX8_held_0 rfl (lv_at hl 0 rfl) ?_
  refine lv_iload_n (pc := 1) hx hb dX8_held_1 rfl (lv_at hl 1 rfl) ?_
  refine g_icmp_ge (pc := 2) (tgt := 9) E dX8_held_2 (by decide) hf (fun hf => ?_) (fun hf => ?_)
  · refine lv_iload_n (pc := 9) hx hb dX8_held_9 rfl (lv_at hl 0 rfl) ?_
    refine lv_iload_n (pc := 10) hx hb dX8_held_10 rfl (lv_at hl 2 rfl) ?_
    refine g_icmp_le (pc := 11) (tgt := 18) E dX8_held_11 (by decide) hf (fun hf => ?_) (fun hf => ?_)
    · refine lv_iload_n (pc := 18) hx hb dX8_held_18 rfl (lv_at hl 0 rfl) ?_
      exact g_iret (pc := 19) E Y hr hk dX8_held_19 hf
    · refine lv_iload_n (pc := 14) hx hb dX8_held_14 rfl (lv_at hl 2 rfl) ?_
      refine lv_goto (pc := 15) (tgt := 19) hx hb dX8_held_15 (by decide) ?_
      exact g_iret (pc := 19) E Y hr hk dX8_held_19 hf
  · refine lv_iload_n (pc := 5) hx hb dX8_held_5 rfl (lv_at hl 1 rfl) ?_
    refine lv_goto (pc := 6) (tgt := 19) hx hb dX8_held_6 (by decide) ?_
    exact g_iret (pc := 19) E Y hr hk dX8_held_19 hf
def f_X8_isPitch_53 (a0 : Int32) (σ : Mem) : Res := gi 7 386 <| nm (σ 54 (7 : Int32).toNatClampNeg) fun (v1 : Int32) => nm (v1 - 1) fun (v2 : Int32) => bd (f_X8_in a0 0 v2 σ) fun v3 μ4 => gb v3 (some (v3, μ4))
set_option maxHeartbeats 4000000 in
set_option maxRecDepth 100000 in
theorem m_X8_isPitch_53 {l : Launch} {σ : Mem} {Z : Int32 × Mem} {a0 : Int32} (hf : f_X8_isPitch_53 a0 σ = some Z) : CT l yX8_isPitch cX8_isPitch 2 (some .boolean) 1 (fun ad => [.ref (ad 53), .int a0]) σ Z := by
  refine g_openT RX8 (by decide) rfl (fun _ => Nat.le_of_ble_eq_true rfl) (fun p e s m below meth c D cI cB ad st ls E Y hr hk hl => ?_)
  have hx := E.1.1
  have hb := E.1.2.1
  have hl : lv_has ls 2 [(0, .ref (ad 53)), (1, .int a0)] := hl
  unfold f_X8_isPitch_53 at hf
  refine lv_iload_n (pc := 0) hx hb dX8_isPitch_0 rfl (lv_at hl 1 rfl) ?_
  refine lv_iconst (pc := 1) (v := 0) hx hb dX8_isPitch_1 (by decide) ?_
  refine lv_aload_n (pc := 2) hx hb dX8_isPitch_2 rfl (lv_at hl 0 rfl) ?_
  refine g_getr (pc := 3) E Y 53 0 54 S_53 rfl V_8 (by decide) AL_X8 q_358 dX8_isPitch_3 ?_
  refine lv_bipush (pc := 6) (v := 7) hx hb dX8_isPitch_6 (by decide) ?_
  refine g_iald (pc := 8) E Y 54 S_54 dX8_isPitch_8 hf (fun v1 hf => ?_)
  refine lv_iconst (pc := 9) (v := 1) hx hb dX8_isPitch_9 (by decide) ?_
  refine g_isub (pc := 10) E dX8_isPitch_10 hf (fun v2 hf => ?_)
  refine g_callSi (pc := 11) E Y o_X8_in q_707 [.int a0, .int 0, .int v2] rfl rfl (hR_of (by omega) (by decide)) hl.1 (rest := []) rfl (Nat.le_of_ble_eq_true rfl) dX8_isPitch_11 (fun z hz => m_X8_in hz) hf (fun v3 μ4 H locs hf Y => ?_)
  exact g_zret (pc := 14) E Y hr hk dX8_isPitch_14 hf
def f_X8_isRunner_53 (a0 : Int32) (σ : Mem) : Res := gi 8 386 <| nm (σ 54 (8 : Int32).toNatClampNeg) fun (v1 : Int32) => nm (v1 - 1) fun (v2 : Int32) => bd (f_X8_in a0 0 v2 σ) fun v3 μ4 => gb v3 (some (v3, μ4))
set_option maxHeartbeats 4000000 in
set_option maxRecDepth 100000 in
theorem m_X8_isRunner_53 {l : Launch} {σ : Mem} {Z : Int32 × Mem} {a0 : Int32} (hf : f_X8_isRunner_53 a0 σ = some Z) : CT l yX8_isRunner cX8_isRunner 2 (some .boolean) 1 (fun ad => [.ref (ad 53), .int a0]) σ Z := by
  refine g_openT RX8 (by decide) rfl (fun _ => Nat.le_of_ble_eq_true rfl) (fun p e s m below meth c D cI cB ad st ls E Y hr hk hl => ?_)
  have hx := E.1.1
  have hb := E.1.2.1
  have hl : lv_has ls 2 [(0, .ref (ad 53)), (1, .int a0)] := hl
  unfold f_X8_isRunner_53 at hf
  refine lv_iload_n (pc := 0) hx hb dX8_isRunner_0 rfl (lv_at hl 1 rfl) ?_
  refine lv_iconst (pc := 1) (v := 0) hx hb dX8_isRunner_1 (by decide) ?_
  refine lv_aload_n (pc := 2) hx hb dX8_isRunner_2 rfl (lv_at hl 0 rfl) ?_
  refine g_getr (pc := 3) E Y 53 0 54 S_53 rfl V_8 (by decide) AL_X8 q_358 dX8_isRunner_3 ?_
  refine lv_bipush (pc := 6) (v := 8) hx hb dX8_isRunner_6 (by decide) ?_
  refine g_iald (pc := 8) E Y 54 S_54 dX8_isRunner_8 hf (fun v1 hf => ?_)
  refine lv_iconst (pc := 9) (v := 1) hx hb dX8_isRunner_9 (by decide) ?_
  refine g_isub (pc := 10) E dX8_isRunner_10 hf (fun v2 hf => ?_)
  refine g_callSi (pc := 11) E Y o_X8_in q_707 [.int a0, .int 0, .int v2] rfl rfl (hR_of (by omega) (by decide)) hl.1 (rest := []) rfl (Nat.le_of_ble_eq_true rfl) dX8_isRunner_11 (fun z hz => m_X8_in hz) hf (fun v3 μ4 H locs hf Y => ?_)
  exact g_zret (pc := 14) E Y hr hk dX8_isRunner_14 hf
def f_X8_isLead (a0 : Int32) (σ : Mem) : Res := bd (f_X8_in a0 0 20 σ) fun v1 μ2 => gb v1 (some (v1, μ2))
set_option maxHeartbeats 4000000 in
set_option maxRecDepth 100000 in
theorem m_X8_isLead {l : Launch} {σ : Mem} {Z : Int32 × Mem} {a0 : Int32} (hf : f_X8_isLead a0 σ = some Z) : CT l yX8_isLead cX8_isLead 1 (some .boolean) 1 (fun _ => [.int a0]) σ Z := by
  refine g_openT RX8 (by decide) rfl (fun _ => Nat.le_of_ble_eq_true rfl) (fun p e s m below meth c D cI cB ad st ls E Y hr hk hl => ?_)
  have hx := E.1.1
  have hb := E.1.2.1
  have hl : lv_has ls 1 [(0, .int a0)] := hl
  unfold f_X8_isLead at hf
  refine lv_iload_n (pc := 0) hx hb dX8_isLead_0 rfl (lv_at hl 0 rfl) ?_
  refine lv_iconst (pc := 1) (v := 0) hx hb dX8_isLead_1 (by decide) ?_
  refine lv_bipush (pc := 2) (v := 20) hx hb dX8_isLead_2 (by decide) ?_
  refine g_callSi (pc := 4) E Y o_X8_in q_707 [.int a0, .int 0, .int 20] rfl rfl (hR_of (by omega) (by decide)) hl.1 (rest := []) rfl (Nat.le_of_ble_eq_true rfl) dX8_isLead_4 (fun z hz => m_X8_in hz) hf (fun v1 μ2 H locs hf Y => ?_)
  exact g_zret (pc := 7) E Y hr hk dX8_isLead_7 hf
def f_X8_becomes_53 (a0 : Int32) (a1 : Int32) (σ : Mem) : Res := gi a0 386 <| nm (σ 54 a0.toNatClampNeg) fun (v1 : Int32) => gi a0 386 <| nm (mset σ 54 a0.toNatClampNeg a1) fun (μ2 : Mem) => some (v1, μ2)
set_option maxHeartbeats 4000000 in
set_option maxRecDepth 100000 in
theorem m_X8_becomes_53 {l : Launch} {σ : Mem} {Z : Int32 × Mem} {a0 : Int32} {a1 : Int32} (hf : f_X8_becomes_53 a0 a1 σ = some Z) : CT l yX8_becomes cX8_becomes 4 (some .int) 0 (fun ad => [.ref (ad 53), .int a0, .int a1]) σ Z := by
  refine g_openT RX8 (by decide) rfl (fun _ => Nat.le_of_ble_eq_true rfl) (fun p e s m below meth c D cI cB ad st ls E Y hr hk hl => ?_)
  have hx := E.1.1
  have hb := E.1.2.1
  have hl : lv_has ls 4 [(0, .ref (ad 53)), (1, .int a0), (2, .int a1)] := hl
  unfold f_X8_becomes_53 at hf
  refine lv_aload_n (pc := 0) hx hb dX8_becomes_0 rfl (lv_at hl 0 rfl) ?_
  refine g_getr (pc := 1) E Y 53 0 54 S_53 rfl V_8 (by decide) AL_X8 q_358 dX8_becomes_1 ?_
  refine lv_iload_n (pc := 4) hx hb dX8_becomes_4 rfl (lv_at hl 1 rfl) ?_
  refine g_iald (pc := 5) E Y 54 S_54 dX8_becomes_5 hf (fun v1 hf => ?_)
  refine lv_istore_n (pc := 6) (lv' := [(3, .int v1), (0, .ref (ad 53)), (1, .int a0), (2, .int a1)]) hx hb dX8_becomes_6 rfl hl (by decide) rfl (fun ls hl => ?_)
  refine lv_aload_n (pc := 7) hx hb dX8_becomes_7 rfl (lv_at hl 1 rfl) ?_
  refine g_getr (pc := 8) E Y 53 0 54 S_53 rfl V_8 (by decide) AL_X8 q_358 dX8_becomes_8 ?_
  refine lv_iload_n (pc := 11) hx hb dX8_becomes_11 rfl (lv_at hl 2 rfl) ?_
  refine lv_iload_n (pc := 12) hx hb dX8_becomes_12 rfl (lv_at hl 3 rfl) ?_
  refine g_iast (pc := 13) E Y 54 S_54 dX8_becomes_13 hf (fun μ2 H locs hf Y => ?_)
  refine lv_iload_n (pc := 14) hx hb dX8_becomes_14 rfl (lv_at hl 0 rfl) ?_
  exact g_iret (pc := 15) E Y hr hk dX8_becomes_15 hf
def f_X8_of_53 (a0 : Int32) (a1 : Int32) (σ : Mem) : Res := nm (4 * a0) fun (v1 : Int32) => nm (11 + v1) fun (v2 : Int32) => nm (v2 + a1) fun (v3 : Int32) => gi v3 386 <| nm (σ 54 v3.toNatClampNeg) fun (v4 : Int32) => some (v4, σ)
set_option maxHeartbeats 4000000 in
set_option maxRecDepth 100000 in
theorem m_X8_of_53 {l : Launch} {σ : Mem} {Z : Int32 × Mem} {a0 : Int32} {a1 : Int32} (hf : f_X8_of_53 a0 a1 σ = some Z) : CT l yX8_of cX8_of 3 (some .int) 0 (fun ad => [.ref (ad 53), .int a0, .int a1]) σ Z := by
  refine g_openT RX8 (by decide) rfl (fun _ => Nat.le_of_ble_eq_true rfl) (fun p e s m below meth c D cI cB ad st ls E Y hr hk hl => ?_)
  have hx := E.1.1
  have hb := E.1.2.1
  have hl : lv_has ls 3 [(0, .ref (ad 53)), (1, .int a0), (2, .int a1)] := hl
  unfold f_X8_of_53 at hf
  refine lv_aload_n (pc := 0) hx hb dX8_of_0 rfl (lv_at hl 0 rfl) ?_
  refine g_getr (pc := 1) E Y 53 0 54 S_53 rfl V_8 (by decide) AL_X8 q_358 dX8_of_1 ?_
  refine lv_bipush (pc := 4) (v := 11) hx hb dX8_of_4 (by decide) ?_
  refine lv_iconst (pc := 6) (v := 4) hx hb dX8_of_6 (by decide) ?_
  refine lv_iload_n (pc := 7) hx hb dX8_of_7 rfl (lv_at hl 1 rfl) ?_
  refine g_imul (pc := 8) E dX8_of_8 hf (fun v1 hf => ?_)
  refine g_iadd (pc := 9) E dX8_of_9 hf (fun v2 hf => ?_)
  refine lv_iload_n (pc := 10) hx hb dX8_of_10 rfl (lv_at hl 2 rfl) ?_
  refine g_iadd (pc := 11) E dX8_of_11 hf (fun v3 hf => ?_)
  refine g_iald (pc := 12) E Y 54 S_54 dX8_of_12 hf (fun v4 hf => ?_)
  exact g_iret (pc := 13) E Y hr hk dX8_of_13 hf
def f_X8_about_53 (a0 : Int32) (a1 : Int32) (σ : Mem) : Res := nm (5 * a0) fun (v1 : Int32) => nm (35 + v1) fun (v2 : Int32) => nm (v2 + a1) fun (v3 : Int32) => gi v3 386 <| nm (σ 54 v3.toNatClampNeg) fun (v4 : Int32) => some (v4, σ)
set_option maxHeartbeats 4000000 in
set_option maxRecDepth 100000 in
theorem m_X8_about_53 {l : Launch} {σ : Mem} {Z : Int32 × Mem} {a0 : Int32} {a1 : Int32} (hf : f_X8_about_53 a0 a1 σ = some Z) : CT l yX8_about cX8_about 3 (some .int) 0 (fun ad => [.ref (ad 53), .int a0, .int a1]) σ Z := by
  refine g_openT RX8 (by decide) rfl (fun _ => Nat.le_of_ble_eq_true rfl) (fun p e s m below meth c D cI cB ad st ls E Y hr hk hl => ?_)
  have hx := E.1.1
  have hb := E.1.2.1
  have hl : lv_has ls 3 [(0, .ref (ad 53)), (1, .int a0), (2, .int a1)] := hl
  unfold f_X8_about_53 at hf
  refine lv_aload_n (pc := 0) hx hb dX8_about_0 rfl (lv_at hl 0 rfl) ?_
  refine g_getr (pc := 1) E Y 53 0 54 S_53 rfl V_8 (by decide) AL_X8 q_358 dX8_about_1 ?_
  refine lv_bipush (pc := 4) (v := 35) hx hb dX8_about_4 (by decide) ?_
  refine lv_iconst (pc := 6) (v := 5) hx hb dX8_about_6 (by decide) ?_
  refine lv_iload_n (pc := 7) hx hb dX8_about_7 rfl (lv_at hl 1 rfl) ?_
  refine g_imul (pc := 8) E dX8_about_8 hf (fun v1 hf => ?_)
  refine g_iadd (pc := 9) E dX8_about_9 hf (fun v2 hf => ?_)
  refine lv_iload_n (pc := 10) hx hb dX8_about_10 rfl (lv_at hl 2 rfl) ?_
  refine g_iadd (pc := 11) E dX8_about_11 hf (fun v3 hf => ?_)
  refine g_iald (pc := 12) E Y 54 S_54 dX8_about_12 hf (fun v4 hf => ?_)
  exact g_iret (pc := 13) E Y hr hk dX8_about_13 hf
def f_X8_lets_53 (a0 : Int32) (a1 : Int32) (a2 : Int32) (σ : Mem) : Res := nm (5 * a0) fun (v1 : Int32) => nm (35 + v1) fun (v2 : Int32) => nm (v2 + a1) fun (v3 : Int32) => gi v3 386 <| nm (mset σ 54 v3.toNatClampNeg a2) fun (μ4 : Mem) => some (0, μ4)
set_option maxHeartbeats 4000000 in
set_option maxRecDepth 100000 in
theorem m_X8_lets_53 {l : Launch} {σ : Mem} {Z : Int32 × Mem} {a0 : Int32} {a1 : Int32} {a2 : Int32} (hf : f_X8_lets_53 a0 a1 a2 σ = some Z) : CV l yX8_lets cX8_lets 4 0 (fun ad => [.ref (ad 53), .int a0, .int a1, .int a2]) σ Z := by
  refine g_openV RX8 (by decide) rfl (fun _ => Nat.le_of_ble_eq_true rfl) (fun p e s m below meth c D cI cB ad st ls E Y hr hk hl => ?_)
  have hx := E.1.1
  have hb := E.1.2.1
  have hl : lv_has ls 4 [(0, .ref (ad 53)), (1, .int a0), (2, .int a1), (3, .int a2)] := hl
  unfold f_X8_lets_53 at hf
  refine lv_aload_n (pc := 0) hx hb dX8_lets_0 rfl (lv_at hl 0 rfl) ?_
  refine g_getr (pc := 1) E Y 53 0 54 S_53 rfl V_8 (by decide) AL_X8 q_358 dX8_lets_1 ?_
  refine lv_bipush (pc := 4) (v := 35) hx hb dX8_lets_4 (by decide) ?_
  refine lv_iconst (pc := 6) (v := 5) hx hb dX8_lets_6 (by decide) ?_
  refine lv_iload_n (pc := 7) hx hb dX8_lets_7 rfl (lv_at hl 1 rfl) ?_
  refine g_imul (pc := 8) E dX8_lets_8 hf (fun v1 hf => ?_)
  refine g_iadd (pc := 9) E dX8_lets_9 hf (fun v2 hf => ?_)
  refine lv_iload_n (pc := 10) hx hb dX8_lets_10 rfl (lv_at hl 2 rfl) ?_
  refine g_iadd (pc := 11) E dX8_lets_11 hf (fun v3 hf => ?_)
  refine lv_iload_n (pc := 12) hx hb dX8_lets_12 rfl (lv_at hl 3 rfl) ?_
  refine g_iast (pc := 13) E Y 54 S_54 dX8_lets_13 hf (fun μ4 H locs hf Y => ?_)
  exact g_vret (pc := 14) E Y hr hk dX8_lets_14 hf
def f_X8_plainAir_53 (a0 : Int32) (σ : Mem) : Res := bd (f_X8_of_53 a0 1 σ) fun v1 μ2 => nm (45 + v1) fun (v3 : Int32) => bd (f_X8_of_53 a0 0 μ2) fun v4 μ5 => if v4 = 1 then (nm (v3 + 15) fun (v6 : Int32) => some (v6, μ5)) else (if v4 = 2 then (nm (v3 - 5) fun (v7 : Int32) => some (v7, μ5)) else (if v4 = 3 then (nm (v3 - 12) fun (v8 : Int32) => nm (v8 - v1) fun (v9 : Int32) => some (v9, μ5)) else (if v4 = 4 then (nm (v3 + 15) fun (v10 : Int32) => gi 2 386 <| nm (μ5 54 (2 : Int32).toNatClampNeg) fun (v11 : Int32) => nm (2 * v11) fun (v12 : Int32) => nm (v10 + v12) fun (v13 : Int32) => some (v13, μ5)) else (if v4 = 5 then (nm (v3 - 5) fun (v14 : Int32) => gi 3 386 <| nm (μ5 54 (3 : Int32).toNatClampNeg) fun (v15 : Int32) => nm (v14 + v15) fun (v16 : Int32) => some (v16, μ5)) else (if v4 = 6 then (bd (f_X8_of_53 a0 3 μ5) fun v17 μ18 => gz 5 <| nm (v17 - v17 / 5 * 5) fun (v19 : Int32) => nm (v3 + v19) fun (v20 : Int32) => some (v20, μ18)) else (some (v3, μ5)))))))
set_option maxHeartbeats 4000000 in
set_option maxRecDepth 100000 in
theorem m_X8_plainAir_53 {l : Launch} {σ : Mem} {Z : Int32 × Mem} {a0 : Int32} (hf : f_X8_plainAir_53 a0 σ = some Z) : CT l yX8_plainAir cX8_plainAir 4 (some .int) 1 (fun ad => [.ref (ad 53), .int a0]) σ Z := by
  refine g_openT RX8 (by decide) rfl (fun _ => Nat.le_of_ble_eq_true rfl) (fun p e s m below meth c D cI cB ad st ls E Y hr hk hl => ?_)
  have hx := E.1.1
  have hb := E.1.2.1
  have hl : lv_has ls 4 [(0, .ref (ad 53)), (1, .int a0)] := hl
  unfold f_X8_plainAir_53 at hf
  refine lv_aload_n (pc := 0) hx hb dX8_plainAir_0 rfl (lv_at hl 0 rfl) ?_
  refine lv_iload_n (pc := 1) hx hb dX8_plainAir_1 rfl (lv_at hl 1 rfl) ?_
  refine lv_iconst (pc := 2) (v := 1) hx hb dX8_plainAir_2 (by decide) ?_
  refine g_callVi (pc := 3) E Y 53 S_53 V_8 o_X8_of q_708 [.int a0, .int 1] rfl rfl (hR_of (by omega) (by decide)) hl.1 (rest := []) rfl (Nat.le_of_ble_eq_true rfl) dX8_plainAir_3 (fun z hz => m_X8_of_53 hz) hf (fun v1 μ2 H locs hf Y => ?_)
  refine lv_istore_n (pc := 6) (lv' := [(2, .int v1), (0, .ref (ad 53)), (1, .int a0)]) hx hb dX8_plainAir_6 rfl hl (by decide) rfl (fun ls hl => ?_)
  refine lv_bipush (pc := 7) (v := 45) hx hb dX8_plainAir_7 (by decide) ?_
  refine lv_iload_n (pc := 9) hx hb dX8_plainAir_9 rfl (lv_at hl 0 rfl) ?_
  refine g_iadd (pc := 10) E dX8_plainAir_10 hf (fun v3 hf => ?_)
  refine lv_istore_n (pc := 11) (lv' := [(3, .int v3), (2, .int v1), (0, .ref (ad 53)), (1, .int a0)]) hx hb dX8_plainAir_11 rfl hl (by decide) rfl (fun ls hl => ?_)
  refine lv_aload_n (pc := 12) hx hb dX8_plainAir_12 rfl (lv_at hl 2 rfl) ?_
  refine lv_iload_n (pc := 13) hx hb dX8_plainAir_13 rfl (lv_at hl 3 rfl) ?_
  refine lv_iconst (pc := 14) (v := 0) hx hb dX8_plainAir_14 (by decide) ?_
  refine g_callVi (pc := 15) E Y 53 S_53 V_8 o_X8_of q_708 [.int a0, .int 0] rfl rfl (hR_of (by omega) (by decide)) hl.1 (rest := []) rfl (Nat.le_of_ble_eq_true rfl) dX8_plainAir_15 (fun z hz => m_X8_of_53 hz) hf (fun v4 μ5 H locs hf Y => ?_)
  by_cases hc : v4 = 1
  · rw [if_pos hc] at hf
    refine g_tabIn (pc := 18) (tgt := 56) E dX8_plainAir_18 hc (n := 1) (by decide) (by decide) (by decide) rfl (by decide) ?_
    refine lv_iload_n (pc := 56) hx hb dX8_plainAir_56 rfl (lv_at hl 0 rfl) ?_
    refine lv_bipush (pc := 57) (v := 15) hx hb dX8_plainAir_57 (by decide) ?_
    refine g_iadd (pc := 59) E dX8_plainAir_59 hf (fun v6 hf => ?_)
    exact g_iret (pc := 60) E Y hr hk dX8_plainAir_60 hf
  · rw [if_neg hc] at hf
    have n_1 := ti_ne (n := 1) (by decide) hc
    clear hc
    by_cases hc : v4 = 2
    · rw [if_pos hc] at hf
      refine g_tabIn (pc := 18) (tgt := 61) E dX8_plainAir_18 hc (n := 2) (by decide) (by decide) (by decide) rfl (by decide) ?_
      refine lv_iload_n (pc := 61) hx hb dX8_plainAir_61 rfl (lv_at hl 0 rfl) ?_
      refine lv_iconst (pc := 62) (v := 5) hx hb dX8_plainAir_62 (by decide) ?_
      refine g_isub (pc := 63) E dX8_plainAir_63 hf (fun v7 hf => ?_)
      exact g_iret (pc := 64) E Y hr hk dX8_plainAir_64 hf
    · rw [if_neg hc] at hf
      have n_2 := ti_ne (n := 2) (by decide) hc
      clear hc
      by_cases hc : v4 = 3
      · rw [if_pos hc] at hf
        refine g_tabIn (pc := 18) (tgt := 65) E dX8_plainAir_18 hc (n := 3) (by decide) (by decide) (by decide) rfl (by decide) ?_
        refine lv_iload_n (pc := 65) hx hb dX8_plainAir_65 rfl (lv_at hl 0 rfl) ?_
        refine lv_bipush (pc := 66) (v := 12) hx hb dX8_plainAir_66 (by decide) ?_
        refine g_isub (pc := 68) E dX8_plainAir_68 hf (fun v8 hf => ?_)
        refine lv_iload_n (pc := 69) hx hb dX8_plainAir_69 rfl (lv_at hl 1 rfl) ?_
        refine g_isub (pc := 70) E dX8_plainAir_70 hf (fun v9 hf => ?_)
        exact g_iret (pc := 71) E Y hr hk dX8_plainAir_71 hf
      · rw [if_neg hc] at hf
        have n_3 := ti_ne (n := 3) (by decide) hc
        clear hc
        by_cases hc : v4 = 4
        · rw [if_pos hc] at hf
          refine g_tabIn (pc := 18) (tgt := 72) E dX8_plainAir_18 hc (n := 4) (by decide) (by decide) (by decide) rfl (by decide) ?_
          refine lv_iload_n (pc := 72) hx hb dX8_plainAir_72 rfl (lv_at hl 0 rfl) ?_
          refine lv_bipush (pc := 73) (v := 15) hx hb dX8_plainAir_73 (by decide) ?_
          refine g_iadd (pc := 75) E dX8_plainAir_75 hf (fun v10 hf => ?_)
          refine lv_iconst (pc := 76) (v := 2) hx hb dX8_plainAir_76 (by decide) ?_
          refine lv_aload_n (pc := 77) hx hb dX8_plainAir_77 rfl (lv_at hl 2 rfl) ?_
          refine g_getr (pc := 78) E Y 53 0 54 S_53 rfl V_8 (by decide) AL_X8 q_358 dX8_plainAir_78 ?_
          refine lv_iconst (pc := 81) (v := 2) hx hb dX8_plainAir_81 (by decide) ?_
          refine g_iald (pc := 82) E Y 54 S_54 dX8_plainAir_82 hf (fun v11 hf => ?_)
          refine g_imul (pc := 83) E dX8_plainAir_83 hf (fun v12 hf => ?_)
          refine g_iadd (pc := 84) E dX8_plainAir_84 hf (fun v13 hf => ?_)
          exact g_iret (pc := 85) E Y hr hk dX8_plainAir_85 hf
        · rw [if_neg hc] at hf
          have n_4 := ti_ne (n := 4) (by decide) hc
          clear hc
          by_cases hc : v4 = 5
          · rw [if_pos hc] at hf
            refine g_tabIn (pc := 18) (tgt := 86) E dX8_plainAir_18 hc (n := 5) (by decide) (by decide) (by decide) rfl (by decide) ?_
            refine lv_iload_n (pc := 86) hx hb dX8_plainAir_86 rfl (lv_at hl 0 rfl) ?_
            refine lv_iconst (pc := 87) (v := 5) hx hb dX8_plainAir_87 (by decide) ?_
            refine g_isub (pc := 88) E dX8_plainAir_88 hf (fun v14 hf => ?_)
            refine lv_aload_n (pc := 89) hx hb dX8_plainAir_89 rfl (lv_at hl 2 rfl) ?_
            refine g_getr (pc := 90) E Y 53 0 54 S_53 rfl V_8 (by decide) AL_X8 q_358 dX8_plainAir_90 ?_
            refine lv_iconst (pc := 93) (v := 3) hx hb dX8_plainAir_93 (by decide) ?_
            refine g_iald (pc := 94) E Y 54 S_54 dX8_plainAir_94 hf (fun v15 hf => ?_)
            refine g_iadd (pc := 95) E dX8_plainAir_95 hf (fun v16 hf => ?_)
            exact g_iret (pc := 96) E Y hr hk dX8_plainAir_96 hf
          · rw [if_neg hc] at hf
            have n_5 := ti_ne (n := 5) (by decide) hc
            clear hc
            by_cases hc : v4 = 6
            · rw [if_pos hc] at hf
              refine g_tabIn (pc := 18) (tgt := 97) E dX8_plainAir_18 hc (n := 6) (by decide) (by decide) (by decide) rfl (by decide) ?_
              refine lv_iload_n (pc := 97) hx hb dX8_plainAir_97 rfl (lv_at hl 0 rfl) ?_
              refine lv_aload_n (pc := 98) hx hb dX8_plainAir_98 rfl (lv_at hl 2 rfl) ?_
              refine lv_iload_n (pc := 99) hx hb dX8_plainAir_99 rfl (lv_at hl 3 rfl) ?_
              refine lv_iconst (pc := 100) (v := 3) hx hb dX8_plainAir_100 (by decide) ?_
              refine g_callVi (pc := 101) E Y 53 S_53 V_8 o_X8_of q_708 [.int a0, .int 3] rfl rfl (hR_of (by omega) (by decide)) hl.1 (rest := [.int v3]) rfl (Nat.le_of_ble_eq_true rfl) dX8_plainAir_101 (fun z hz => m_X8_of_53 hz) hf (fun v17 μ18 H locs hf Y => ?_)
              refine lv_iconst (pc := 104) (v := 5) hx hb dX8_plainAir_104 (by decide) ?_
              refine g_irem (pc := 105) E dX8_plainAir_105 hf (fun v19 hf => ?_)
              refine g_iadd (pc := 106) E dX8_plainAir_106 hf (fun v20 hf => ?_)
              exact g_iret (pc := 107) E Y hr hk dX8_plainAir_107 hf
            · rw [if_neg hc] at hf
              have n_6 := ti_ne (n := 6) (by decide) hc
              clear hc
              refine lv_tableOut (pc := 18) (tgt := 108) hx hb dX8_plainAir_18 (by omega) (by decide) ?_
              refine lv_iload_n (pc := 108) hx hb dX8_plainAir_108 rfl (lv_at hl 0 rfl) ?_
              exact g_iret (pc := 109) E Y hr hk dX8_plainAir_109 hf
def f_X8_twoOf (a0 : Int32) (a1 : Int32) (a2 : Int32) (σ : Mem) : Res := if a0 = 37 then (if a2 = 0 then (some (0, σ)) else (gz a2 <| nm (a1 - a1 / a2 * a2) fun (v1 : Int32) => some (v1, σ))) else (if a0 = 38 then (if a1 = 0 then (some (0, σ)) else (if a2 = 0 then (some (0, σ)) else (some (1, σ)))) else (if a0 = 42 then (nm (a1 * a2) fun (v2 : Int32) => some (v2, σ)) else (if a0 = 43 then (nm (a1 + a2) fun (v3 : Int32) => some (v3, σ)) else (if a0 = 45 then (nm (a1 - a2) fun (v4 : Int32) => some (v4, σ)) else (if a0 = 47 then (if a2 = 0 then (some (0, σ)) else (gz a2 <| nm (a1 / a2) fun (v5 : Int32) => some (v5, σ))) else (if a0 = 60 then (if a2 ≤ a1 then (some (0, σ)) else (some (1, σ))) else (if a0 = 61 then (if a1 = a2 then (some (1, σ)) else (some (0, σ))) else (if a0 = 62 then (if a1 ≤ a2 then (some (0, σ)) else (some (1, σ))) else (if a1 = 0 then (if a2 = 0 then (some (0, σ)) else (some (1, σ))) else (some (1, σ)))))))))))
set_option maxHeartbeats 4000000 in
set_option maxRecDepth 100000 in
theorem m_X8_twoOf {l : Launch} {σ : Mem} {Z : Int32 × Mem} {a0 : Int32} {a1 : Int32} {a2 : Int32} (hf : f_X8_twoOf a0 a1 a2 σ = some Z) : CT l yX8_twoOf cX8_twoOf 3 (some .int) 0 (fun _ => [.int a0, .int a1, .int a2]) σ Z := by
  refine g_openT RX8 (by decide) rfl (fun _ => Nat.le_of_ble_eq_true rfl) (fun p e s m below meth c D cI cB ad st ls E Y hr hk hl => ?_)
  have hx := E.1.1
  have hb := E.1.2.1
  have hl : lv_has ls 3 [(0, .int a0), (1, .int a1), (2, .int a2)] := hl
  unfold f_X8_twoOf at hf
  refine lv_iload_n (pc := 0) hx hb dX8_twoOf_0 rfl (lv_at hl 0 rfl) ?_
  by_cases hc : a0 = 37
  · rw [if_pos hc] at hf
    refine g_tabIn (pc := 1) (tgt := 144) E dX8_twoOf_1 hc (n := 37) (by decide) (by decide) (by decide) rfl (by decide) ?_
    refine lv_iload_n (pc := 144) hx hb dX8_twoOf_144 rfl (lv_at hl 2 rfl) ?_
    refine g_if_ne (pc := 145) (tgt := 152) E dX8_twoOf_145 (by decide) hf (fun hf => ?_) (fun hf => ?_)
    · refine lv_iload_n (pc := 152) hx hb dX8_twoOf_152 rfl (lv_at hl 1 rfl) ?_
      refine lv_iload_n (pc := 153) hx hb dX8_twoOf_153 rfl (lv_at hl 2 rfl) ?_
      refine g_irem (pc := 154) E dX8_twoOf_154 hf (fun v1 hf => ?_)
      exact g_iret (pc := 155) E Y hr hk dX8_twoOf_155 hf
    · refine lv_iconst (pc := 148) (v := 0) hx hb dX8_twoOf_148 (by decide) ?_
      refine lv_goto (pc := 149) (tgt := 155) hx hb dX8_twoOf_149 (by decide) ?_
      exact g_iret (pc := 155) E Y hr hk dX8_twoOf_155 hf
  · rw [if_neg hc] at hf
    have n_37 := ti_ne (n := 37) (by decide) hc
    clear hc
    by_cases hc : a0 = 38
    · rw [if_pos hc] at hf
      refine g_tabIn (pc := 1) (tgt := 189) E dX8_twoOf_1 hc (n := 38) (by decide) (by decide) (by decide) rfl (by decide) ?_
      refine lv_iload_n (pc := 189) hx hb dX8_twoOf_189 rfl (lv_at hl 1 rfl) ?_
      refine g_if_eq (pc := 190) (tgt := 201) E dX8_twoOf_190 (by decide) hf (fun hf => ?_) (fun hf => ?_)
      · refine lv_iconst (pc := 201) (v := 0) hx hb dX8_twoOf_201 (by decide) ?_
        exact g_iret (pc := 202) E Y hr hk dX8_twoOf_202 hf
      · refine lv_iload_n (pc := 193) hx hb dX8_twoOf_193 rfl (lv_at hl 2 rfl) ?_
        refine g_if_eq (pc := 194) (tgt := 201) E dX8_twoOf_194 (by decide) hf (fun hf => ?_) (fun hf => ?_)
        · refine lv_iconst (pc := 201) (v := 0) hx hb dX8_twoOf_201 (by decide) ?_
          exact g_iret (pc := 202) E Y hr hk dX8_twoOf_202 hf
        · refine lv_iconst (pc := 197) (v := 1) hx hb dX8_twoOf_197 (by decide) ?_
          refine lv_goto (pc := 198) (tgt := 202) hx hb dX8_twoOf_198 (by decide) ?_
          exact g_iret (pc := 202) E Y hr hk dX8_twoOf_202 hf
    · rw [if_neg hc] at hf
      have n_38 := ti_ne (n := 38) (by decide) hc
      clear hc
      by_cases hc : a0 = 42
      · rw [if_pos hc] at hf
        refine g_tabIn (pc := 1) (tgt := 128) E dX8_twoOf_1 hc (n := 42) (by decide) (by decide) (by decide) rfl (by decide) ?_
        refine lv_iload_n (pc := 128) hx hb dX8_twoOf_128 rfl (lv_at hl 1 rfl) ?_
        refine lv_iload_n (pc := 129) hx hb dX8_twoOf_129 rfl (lv_at hl 2 rfl) ?_
        refine g_imul (pc := 130) E dX8_twoOf_130 hf (fun v2 hf => ?_)
        exact g_iret (pc := 131) E Y hr hk dX8_twoOf_131 hf
      · rw [if_neg hc] at hf
        have n_42 := ti_ne (n := 42) (by decide) hc
        clear hc
        by_cases hc : a0 = 43
        · rw [if_pos hc] at hf
          refine g_tabIn (pc := 1) (tgt := 120) E dX8_twoOf_1 hc (n := 43) (by decide) (by decide) (by decide) rfl (by decide) ?_
          refine lv_iload_n (pc := 120) hx hb dX8_twoOf_120 rfl (lv_at hl 1 rfl) ?_
          refine lv_iload_n (pc := 121) hx hb dX8_twoOf_121 rfl (lv_at hl 2 rfl) ?_
          refine g_iadd (pc := 122) E dX8_twoOf_122 hf (fun v3 hf => ?_)
          exact g_iret (pc := 123) E Y hr hk dX8_twoOf_123 hf
        · rw [if_neg hc] at hf
          have n_43 := ti_ne (n := 43) (by decide) hc
          clear hc
          by_cases hc : a0 = 45
          · rw [if_pos hc] at hf
            refine g_tabIn (pc := 1) (tgt := 124) E dX8_twoOf_1 hc (n := 45) (by decide) (by decide) (by decide) rfl (by decide) ?_
            refine lv_iload_n (pc := 124) hx hb dX8_twoOf_124 rfl (lv_at hl 1 rfl) ?_
            refine lv_iload_n (pc := 125) hx hb dX8_twoOf_125 rfl (lv_at hl 2 rfl) ?_
            refine g_isub (pc := 126) E dX8_twoOf_126 hf (fun v4 hf => ?_)
            exact g_iret (pc := 127) E Y hr hk dX8_twoOf_127 hf
          · rw [if_neg hc] at hf
            have n_45 := ti_ne (n := 45) (by decide) hc
            clear hc
            by_cases hc : a0 = 47
            · rw [if_pos hc] at hf
              refine g_tabIn (pc := 1) (tgt := 132) E dX8_twoOf_1 hc (n := 47) (by decide) (by decide) (by decide) rfl (by decide) ?_
              refine lv_iload_n (pc := 132) hx hb dX8_twoOf_132 rfl (lv_at hl 2 rfl) ?_
              refine g_if_ne (pc := 133) (tgt := 140) E dX8_twoOf_133 (by decide) hf (fun hf => ?_) (fun hf => ?_)
              · refine lv_iload_n (pc := 140) hx hb dX8_twoOf_140 rfl (lv_at hl 1 rfl) ?_
                refine lv_iload_n (pc := 141) hx hb dX8_twoOf_141 rfl (lv_at hl 2 rfl) ?_
                refine g_idiv (pc := 142) E dX8_twoOf_142 hf (fun v5 hf => ?_)
                exact g_iret (pc := 143) E Y hr hk dX8_twoOf_143 hf
              · refine lv_iconst (pc := 136) (v := 0) hx hb dX8_twoOf_136 (by decide) ?_
                refine lv_goto (pc := 137) (tgt := 143) hx hb dX8_twoOf_137 (by decide) ?_
                exact g_iret (pc := 143) E Y hr hk dX8_twoOf_143 hf
            · rw [if_neg hc] at hf
              have n_47 := ti_ne (n := 47) (by decide) hc
              clear hc
              by_cases hc : a0 = 60
              · rw [if_pos hc] at hf
                refine g_tabIn (pc := 1) (tgt := 156) E dX8_twoOf_1 hc (n := 60) (by decide) (by decide) (by decide) rfl (by decide) ?_
                refine lv_iload_n (pc := 156) hx hb dX8_twoOf_156 rfl (lv_at hl 1 rfl) ?_
                refine lv_iload_n (pc := 157) hx hb dX8_twoOf_157 rfl (lv_at hl 2 rfl) ?_
                refine g_icmp_ge (pc := 158) (tgt := 165) E dX8_twoOf_158 (by decide) hf (fun hf => ?_) (fun hf => ?_)
                · refine lv_iconst (pc := 165) (v := 0) hx hb dX8_twoOf_165 (by decide) ?_
                  exact g_iret (pc := 166) E Y hr hk dX8_twoOf_166 hf
                · refine lv_iconst (pc := 161) (v := 1) hx hb dX8_twoOf_161 (by decide) ?_
                  refine lv_goto (pc := 162) (tgt := 166) hx hb dX8_twoOf_162 (by decide) ?_
                  exact g_iret (pc := 166) E Y hr hk dX8_twoOf_166 hf
              · rw [if_neg hc] at hf
                have n_60 := ti_ne (n := 60) (by decide) hc
                clear hc
                by_cases hc : a0 = 61
                · rw [if_pos hc] at hf
                  refine g_tabIn (pc := 1) (tgt := 167) E dX8_twoOf_1 hc (n := 61) (by decide) (by decide) (by decide) rfl (by decide) ?_
                  refine lv_iload_n (pc := 167) hx hb dX8_twoOf_167 rfl (lv_at hl 1 rfl) ?_
                  refine lv_iload_n (pc := 168) hx hb dX8_twoOf_168 rfl (lv_at hl 2 rfl) ?_
                  refine g_icmp_ne (pc := 169) (tgt := 176) E dX8_twoOf_169 (by decide) hf (fun hf => ?_) (fun hf => ?_)
                  · refine lv_iconst (pc := 176) (v := 0) hx hb dX8_twoOf_176 (by decide) ?_
                    exact g_iret (pc := 177) E Y hr hk dX8_twoOf_177 hf
                  · refine lv_iconst (pc := 172) (v := 1) hx hb dX8_twoOf_172 (by decide) ?_
                    refine lv_goto (pc := 173) (tgt := 177) hx hb dX8_twoOf_173 (by decide) ?_
                    exact g_iret (pc := 177) E Y hr hk dX8_twoOf_177 hf
                · rw [if_neg hc] at hf
                  have n_61 := ti_ne (n := 61) (by decide) hc
                  clear hc
                  by_cases hc : a0 = 62
                  · rw [if_pos hc] at hf
                    refine g_tabIn (pc := 1) (tgt := 178) E dX8_twoOf_1 hc (n := 62) (by decide) (by decide) (by decide) rfl (by decide) ?_
                    refine lv_iload_n (pc := 178) hx hb dX8_twoOf_178 rfl (lv_at hl 1 rfl) ?_
                    refine lv_iload_n (pc := 179) hx hb dX8_twoOf_179 rfl (lv_at hl 2 rfl) ?_
                    refine g_icmp_le (pc := 180) (tgt := 187) E dX8_twoOf_180 (by decide) hf (fun hf => ?_) (fun hf => ?_)
                    · refine lv_iconst (pc := 187) (v := 0) hx hb dX8_twoOf_187 (by decide) ?_
                      exact g_iret (pc := 188) E Y hr hk dX8_twoOf_188 hf
                    · refine lv_iconst (pc := 183) (v := 1) hx hb dX8_twoOf_183 (by decide) ?_
                      refine lv_goto (pc := 184) (tgt := 188) hx hb dX8_twoOf_184 (by decide) ?_
                      exact g_iret (pc := 188) E Y hr hk dX8_twoOf_188 hf
                  · rw [if_neg hc] at hf
                    have n_62 := ti_ne (n := 62) (by decide) hc
                    clear hc
                    refine g_tabDef (pc := 1) (tgt := 203) E dX8_twoOf_1 ?_ (by decide) ?_
                    · by_cases hg : a0.toInt < 37 ∨ 62 < a0.toInt
                      · exact Or.inl hg
                      · have hg2 : a0.toInt = 39 ∨ a0.toInt = 40 ∨ a0.toInt = 41 ∨ a0.toInt = 44 ∨ a0.toInt = 46 ∨ a0.toInt = 48 ∨ a0.toInt = 49 ∨ a0.toInt = 50 ∨ a0.toInt = 51 ∨ a0.toInt = 52 ∨ a0.toInt = 53 ∨ a0.toInt = 54 ∨ a0.toInt = 55 ∨ a0.toInt = 56 ∨ a0.toInt = 57 ∨ a0.toInt = 58 ∨ a0.toInt = 59 := by omega
                        rcases hg2 with hg2 | hg2 | hg2 | hg2 | hg2 | hg2 | hg2 | hg2 | hg2 | hg2 | hg2 | hg2 | hg2 | hg2 | hg2 | hg2 | hg2 <;> exact Or.inr (by rw [hg2]; rfl)
                    · refine lv_iload_n (pc := 203) hx hb dX8_twoOf_203 rfl (lv_at hl 1 rfl) ?_
                      refine g_if_ne (pc := 204) (tgt := 211) E dX8_twoOf_204 (by decide) hf (fun hf => ?_) (fun hf => ?_)
                      · refine lv_iconst (pc := 211) (v := 1) hx hb dX8_twoOf_211 (by decide) ?_
                        refine lv_goto (pc := 212) (tgt := 216) hx hb dX8_twoOf_212 (by decide) ?_
                        exact g_iret (pc := 216) E Y hr hk dX8_twoOf_216 hf
                      · refine lv_iload_n (pc := 207) hx hb dX8_twoOf_207 rfl (lv_at hl 2 rfl) ?_
                        refine g_if_eq (pc := 208) (tgt := 215) E dX8_twoOf_208 (by decide) hf (fun hf => ?_) (fun hf => ?_)
                        · refine lv_iconst (pc := 215) (v := 0) hx hb dX8_twoOf_215 (by decide) ?_
                          exact g_iret (pc := 216) E Y hr hk dX8_twoOf_216 hf
                        · refine lv_iconst (pc := 211) (v := 1) hx hb dX8_twoOf_211 (by decide) ?_
                          refine lv_goto (pc := 212) (tgt := 216) hx hb dX8_twoOf_212 (by decide) ?_
                          exact g_iret (pc := 216) E Y hr hk dX8_twoOf_216 hf
def fb_X8_works_53_L4 (bk : Int32 → Int32 → Int32 → Mem → Res) (x1 : Int32) (x2 : Int32) (x3 : Int32) (σ : Mem) : Res := gi x1 386 <| nm (σ 54 x1.toNatClampNeg) fun (v1 : Int32) => if v1 ≤ x3 then (gi 0 60 <| nm (σ 63 (0 : Int32).toNatClampNeg) fun (v2 : Int32) => some (v2, σ)) else (nm (x1 + 1) fun (v3 : Int32) => nm (v3 + x3) fun (v4 : Int32) => gi v4 386 <| nm (σ 54 v4.toNatClampNeg) fun (v5 : Int32) => if v5 = 1 then (if v5 = 1 then (nm (x1 + 61) fun (v13 : Int32) => nm (v13 + x3) fun (v14 : Int32) => gi v14 386 <| nm (σ 54 v14.toNatClampNeg) fun (v15 : Int32) => gi x2 60 <| nm (mset σ 63 x2.toNatClampNeg v15) fun (μ16 : Mem) => nm (x2 + 1) fun (v17 : Int32) => nm (x3 + 1) fun (v18 : Int32) => bk x1 v17 v18 μ16) else (nm (x1 + 61) fun (v6 : Int32) => nm (v6 + x3) fun (v7 : Int32) => gi v7 386 <| nm (σ 54 v7.toNatClampNeg) fun (v8 : Int32) => gi v8 3 <| nm (σ 62 v8.toNatClampNeg) fun (v9 : Int32) => gi x2 60 <| nm (mset σ 63 x2.toNatClampNeg v9) fun (μ10 : Mem) => nm (x2 + 1) fun (v11 : Int32) => nm (x3 + 1) fun (v12 : Int32) => bk x1 v11 v12 μ10)) else (if v5 = 2 then (if v5 = 1 then (nm (x1 + 61) fun (v42 : Int32) => nm (v42 + x3) fun (v43 : Int32) => gi v43 386 <| nm (σ 54 v43.toNatClampNeg) fun (v44 : Int32) => gi x2 60 <| nm (mset σ 63 x2.toNatClampNeg v44) fun (μ45 : Mem) => nm (x2 + 1) fun (v46 : Int32) => nm (x3 + 1) fun (v47 : Int32) => bk x1 v46 v47 μ45) else (nm (x1 + 61) fun (v35 : Int32) => nm (v35 + x3) fun (v36 : Int32) => gi v36 386 <| nm (σ 54 v36.toNatClampNeg) fun (v37 : Int32) => gi v37 3 <| nm (σ 62 v37.toNatClampNeg) fun (v38 : Int32) => gi x2 60 <| nm (mset σ 63 x2.toNatClampNeg v38) fun (μ39 : Mem) => nm (x2 + 1) fun (v40 : Int32) => nm (x3 + 1) fun (v41 : Int32) => bk x1 v40 v41 μ39)) else (if v5 = 3 then (nm (x2 - 1) fun (v28 : Int32) => nm (x2 - 1) fun (v29 : Int32) => gi v29 60 <| nm (σ 63 v29.toNatClampNeg) fun (v30 : Int32) => if v30 = 0 then (gi v28 60 <| nm (mset σ 63 v28.toNatClampNeg 1) fun (μ33 : Mem) => nm (x3 + 1) fun (v34 : Int32) => bk x1 x2 v34 μ33) else (gi v28 60 <| nm (mset σ 63 v28.toNatClampNeg 0) fun (μ31 : Mem) => nm (x3 + 1) fun (v32 : Int32) => bk x1 x2 v32 μ31)) else (nm (x2 + (-1)) fun (v19 : Int32) => nm (v19 - 1) fun (v20 : Int32) => nm (v19 - 1) fun (v21 : Int32) => gi v21 60 <| nm (σ 63 v21.toNatClampNeg) fun (v22 : Int32) => gi v19 60 <| nm (σ 63 v19.toNatClampNeg) fun (v23 : Int32) => bd (f_X8_twoOf v5 v22 v23 σ) fun v24 μ25 => gi v20 60 <| nm (mset μ25 63 v20.toNatClampNeg v24) fun (μ26 : Mem) => nm (x3 + 1) fun (v27 : Int32) => bk x1 v19 v27 μ26))))
def f_X8_works_53_L4 : Nat → Int32 → Int32 → Int32 → Mem → Res
  | 0, _, _, _, _ => none
  | n + 1, x1, x2, x3, σ => fb_X8_works_53_L4 (f_X8_works_53_L4 n) x1 x2 x3 σ
def f_X8_works_53 (a0 : Int32) (σ : Mem) : Res := f_X8_works_53_L4 1000 a0 0 0 σ
set_option maxHeartbeats 4000000 in
set_option maxRecDepth 100000 in
theorem m_X8_works_53 {l : Launch} {σ : Mem} {Z : Int32 × Mem} {a0 : Int32} (hf : f_X8_works_53 a0 σ = some Z) : CT l yX8_works cX8_works 5 (some .int) 1 (fun ad => [.ref (ad 53), .int a0]) σ Z := by
  refine g_openT RX8 (by decide) rfl (fun _ => Nat.le_of_ble_eq_true rfl) (fun p e s m below meth c D cI cB ad st ls E Y hr hk hl => ?_)
  have hx := E.1.1
  have hb := E.1.2.1
  have hl : lv_has ls 5 [(0, .ref (ad 53)), (1, .int a0)] := hl
  have hL_4 : ∀ (n : Nat) (x1 : Int32) (x2 : Int32) (x3 : Int32) (σ : Mem) (H : Heap) (locs : List Loc) (ls : Array Slot), f_X8_works_53_L4 n x1 x2 x3 σ = some Z → Wo D cI cB ad (AA ad) σ s H locs → lv_has ls 5 [(0, .ref (ad 53)), (1, .int x1), (2, .int x2), (3, .int x3)] → W p l e (rmd 1) s m ([.ref (ad 53), .int a0] : List Value).toArray below meth c H locs 0 0 (QT_ below D cI cB ad st Z ([.ref (ad 53), .int a0] : List Value).toArray s) (F0 m 4 ls []) := by
    intro n
    induction n with
    | zero =>
      intro x1 x2 x3 σ H locs ls hf
      cases (show (none : Res) = some Z from hf)
    | succ n ih =>
      intro x1 x2 x3 σ H locs ls hf Y hl
      have hf : fb_X8_works_53_L4 (f_X8_works_53_L4 n) x1 x2 x3 σ = some Z := hf
      unfold fb_X8_works_53_L4 at hf
      refine lv_iload_n (pc := 4) hx hb dX8_works_4 rfl (lv_at hl 3 rfl) ?_
      refine lv_aload_n (pc := 5) hx hb dX8_works_5 rfl (lv_at hl 0 rfl) ?_
      refine g_getr (pc := 6) E Y 53 0 54 S_53 rfl V_8 (by decide) AL_X8 q_358 dX8_works_6 ?_
      refine lv_iload_n (pc := 9) hx hb dX8_works_9 rfl (lv_at hl 1 rfl) ?_
      refine g_iald (pc := 10) E Y 54 S_54 dX8_works_10 hf (fun v1 hf => ?_)
      refine g_icmp_ge (pc := 11) (tgt := 155) E dX8_works_11 (by decide) hf (fun hf => ?_) (fun hf => ?_)
      · refine lv_aload_n (pc := 155) hx hb dX8_works_155 rfl (lv_at hl 0 rfl) ?_
        refine g_getr (pc := 156) E Y 53 10 63 S_53 rfl V_8 (by decide) AL_X8 q_356 dX8_works_156 ?_
        refine lv_iconst (pc := 159) (v := 0) hx hb dX8_works_159 (by decide) ?_
        refine g_iald (pc := 160) E Y 63 S_63 dX8_works_160 hf (fun v2 hf => ?_)
        exact g_iret (pc := 161) E Y hr hk dX8_works_161 hf
      · refine lv_aload_n (pc := 14) hx hb dX8_works_14 rfl (lv_at hl 0 rfl) ?_
        refine g_getr (pc := 15) E Y 53 0 54 S_53 rfl V_8 (by decide) AL_X8 q_358 dX8_works_15 ?_
        refine lv_iload_n (pc := 18) hx hb dX8_works_18 rfl (lv_at hl 1 rfl) ?_
        refine lv_iconst (pc := 19) (v := 1) hx hb dX8_works_19 (by decide) ?_
        refine g_iadd (pc := 20) E dX8_works_20 hf (fun v3 hf => ?_)
        refine lv_iload_n (pc := 21) hx hb dX8_works_21 rfl (lv_at hl 3 rfl) ?_
        refine g_iadd (pc := 22) E dX8_works_22 hf (fun v4 hf => ?_)
        refine g_iald (pc := 23) E Y 54 S_54 dX8_works_23 hf (fun v5 hf => ?_)
        refine lv_istore (pc := 24) (lv' := [(4, .int v5), (0, .ref (ad 53)), (1, .int x1), (2, .int x2), (3, .int x3)]) hx hb dX8_works_24 hl (by decide) rfl (fun ls hl => ?_)
        refine lv_iload (pc := 26) hx hb dX8_works_26 (lv_at hl 0 rfl) ?_
        refine lv_iconst (pc := 28) (v := 1) hx hb dX8_works_28 (by decide) ?_
        refine g_icmp_eq (pc := 29) (tgt := 38) E dX8_works_29 (by decide) hf (fun hf => ?_) (fun hf => ?_)
        · refine lv_aload_n (pc := 38) hx hb dX8_works_38 rfl (lv_at hl 1 rfl) ?_
          refine g_getr (pc := 39) E Y 53 10 63 S_53 rfl V_8 (by decide) AL_X8 q_356 dX8_works_39 ?_
          refine lv_iload_n (pc := 42) hx hb dX8_works_42 rfl (lv_at hl 3 rfl) ?_
          refine lv_iload (pc := 43) hx hb dX8_works_43 (lv_at hl 0 rfl) ?_
          refine lv_iconst (pc := 45) (v := 1) hx hb dX8_works_45 (by decide) ?_
          refine g_icmp_ne (pc := 46) (tgt := 63) E dX8_works_46 (by decide) hf (fun hf => ?_) (fun hf => ?_)
          · refine lv_aload_n (pc := 63) hx hb dX8_works_63 rfl (lv_at hl 1 rfl) ?_
            refine g_getr (pc := 64) E Y 53 9 62 S_53 rfl V_8 (by decide) AL_X8 q_355 dX8_works_64 ?_
            refine lv_aload_n (pc := 67) hx hb dX8_works_67 rfl (lv_at hl 1 rfl) ?_
            refine g_getr (pc := 68) E Y 53 0 54 S_53 rfl V_8 (by decide) AL_X8 q_358 dX8_works_68 ?_
            refine lv_iload_n (pc := 71) hx hb dX8_works_71 rfl (lv_at hl 2 rfl) ?_
            refine lv_bipush (pc := 72) (v := 61) hx hb dX8_works_72 (by decide) ?_
            refine g_iadd (pc := 74) E dX8_works_74 hf (fun v6 hf => ?_)
            refine lv_iload_n (pc := 75) hx hb dX8_works_75 rfl (lv_at hl 4 rfl) ?_
            refine g_iadd (pc := 76) E dX8_works_76 hf (fun v7 hf => ?_)
            refine g_iald (pc := 77) E Y 54 S_54 dX8_works_77 hf (fun v8 hf => ?_)
            refine g_iald (pc := 78) E Y 62 S_62 dX8_works_78 hf (fun v9 hf => ?_)
            refine g_iast (pc := 79) E Y 63 S_63 dX8_works_79 hf (fun μ10 H locs hf Y => ?_)
            refine g_iinc (pc := 80) E (fun v11 => [(2, .int v11), (4, .int v5), (0, .ref (ad 53)), (1, .int x1), (3, .int x3)]) dX8_works_80 hl (k := 3) rfl (t := 1) (by decide) (by decide) (fun _ => rfl) hf (fun v11 hf ls hl => ?_)
            refine lv_goto (pc := 83) (tgt := 149) hx hb dX8_works_83 (by decide) ?_
            refine g_iinc (pc := 149) E (fun v12 => [(3, .int v12), (2, .int v11), (4, .int v5), (0, .ref (ad 53)), (1, .int x1)]) dX8_works_149 hl (k := 4) rfl (t := 1) (by decide) (by decide) (fun _ => rfl) hf (fun v12 hf ls hl => ?_)
            refine lv_goto (pc := 152) (tgt := 4) hx hb dX8_works_152 (by decide) ?_
            exact ih _ _ _ _ _ _ _ hf Y (lv_sub hl [3, 4, 1, 0] rfl)
          · refine lv_aload_n (pc := 49) hx hb dX8_works_49 rfl (lv_at hl 1 rfl) ?_
            refine g_getr (pc := 50) E Y 53 0 54 S_53 rfl V_8 (by decide) AL_X8 q_358 dX8_works_50 ?_
            refine lv_iload_n (pc := 53) hx hb dX8_works_53 rfl (lv_at hl 2 rfl) ?_
            refine lv_bipush (pc := 54) (v := 61) hx hb dX8_works_54 (by decide) ?_
            refine g_iadd (pc := 56) E dX8_works_56 hf (fun v13 hf => ?_)
            refine lv_iload_n (pc := 57) hx hb dX8_works_57 rfl (lv_at hl 4 rfl) ?_
            refine g_iadd (pc := 58) E dX8_works_58 hf (fun v14 hf => ?_)
            refine g_iald (pc := 59) E Y 54 S_54 dX8_works_59 hf (fun v15 hf => ?_)
            refine lv_goto (pc := 60) (tgt := 79) hx hb dX8_works_60 (by decide) ?_
            refine g_iast (pc := 79) E Y 63 S_63 dX8_works_79 hf (fun μ16 H locs hf Y => ?_)
            refine g_iinc (pc := 80) E (fun v17 => [(2, .int v17), (4, .int v5), (0, .ref (ad 53)), (1, .int x1), (3, .int x3)]) dX8_works_80 hl (k := 3) rfl (t := 1) (by decide) (by decide) (fun _ => rfl) hf (fun v17 hf ls hl => ?_)
            refine lv_goto (pc := 83) (tgt := 149) hx hb dX8_works_83 (by decide) ?_
            refine g_iinc (pc := 149) E (fun v18 => [(3, .int v18), (2, .int v17), (4, .int v5), (0, .ref (ad 53)), (1, .int x1)]) dX8_works_149 hl (k := 4) rfl (t := 1) (by decide) (by decide) (fun _ => rfl) hf (fun v18 hf ls hl => ?_)
            refine lv_goto (pc := 152) (tgt := 4) hx hb dX8_works_152 (by decide) ?_
            exact ih _ _ _ _ _ _ _ hf Y (lv_sub hl [3, 4, 1, 0] rfl)
        · refine lv_iload (pc := 32) hx hb dX8_works_32 (lv_at hl 0 rfl) ?_
          refine lv_iconst (pc := 34) (v := 2) hx hb dX8_works_34 (by decide) ?_
          refine g_icmp_ne (pc := 35) (tgt := 86) E dX8_works_35 (by decide) hf (fun hf => ?_) (fun hf => ?_)
          · refine lv_iload (pc := 86) hx hb dX8_works_86 (lv_at hl 0 rfl) ?_
            refine lv_iconst (pc := 88) (v := 3) hx hb dX8_works_88 (by decide) ?_
            refine g_icmp_ne (pc := 89) (tgt := 119) E dX8_works_89 (by decide) hf (fun hf => ?_) (fun hf => ?_)
            · refine g_iinc (pc := 119) E (fun v19 => [(2, .int v19), (4, .int v5), (0, .ref (ad 53)), (1, .int x1), (3, .int x3)]) dX8_works_119 hl (k := 3) rfl (t := (-1)) (by decide) (by decide) (fun _ => rfl) hf (fun v19 hf ls hl => ?_)
              refine lv_aload_n (pc := 122) hx hb dX8_works_122 rfl (lv_at hl 2 rfl) ?_
              refine g_getr (pc := 123) E Y 53 10 63 S_53 rfl V_8 (by decide) AL_X8 q_356 dX8_works_123 ?_
              refine lv_iload_n (pc := 126) hx hb dX8_works_126 rfl (lv_at hl 0 rfl) ?_
              refine lv_iconst (pc := 127) (v := 1) hx hb dX8_works_127 (by decide) ?_
              refine g_isub (pc := 128) E dX8_works_128 hf (fun v20 hf => ?_)
              refine lv_iload (pc := 129) hx hb dX8_works_129 (lv_at hl 1 rfl) ?_
              refine lv_aload_n (pc := 131) hx hb dX8_works_131 rfl (lv_at hl 2 rfl) ?_
              refine g_getr (pc := 132) E Y 53 10 63 S_53 rfl V_8 (by decide) AL_X8 q_356 dX8_works_132 ?_
              refine lv_iload_n (pc := 135) hx hb dX8_works_135 rfl (lv_at hl 0 rfl) ?_
              refine lv_iconst (pc := 136) (v := 1) hx hb dX8_works_136 (by decide) ?_
              refine g_isub (pc := 137) E dX8_works_137 hf (fun v21 hf => ?_)
              refine g_iald (pc := 138) E Y 63 S_63 dX8_works_138 hf (fun v22 hf => ?_)
              refine lv_aload_n (pc := 139) hx hb dX8_works_139 rfl (lv_at hl 2 rfl) ?_
              refine g_getr (pc := 140) E Y 53 10 63 S_53 rfl V_8 (by decide) AL_X8 q_356 dX8_works_140 ?_
              refine lv_iload_n (pc := 143) hx hb dX8_works_143 rfl (lv_at hl 0 rfl) ?_
              refine g_iald (pc := 144) E Y 63 S_63 dX8_works_144 hf (fun v23 hf => ?_)
              refine g_callSi (pc := 145) E Y o_X8_twoOf q_681 [.int v5, .int v22, .int v23] rfl rfl (hR_of (by omega) (by decide)) hl.1 (rest := [.int v20, .ref (ad 63)]) rfl (Nat.le_of_ble_eq_true rfl) dX8_works_145 (fun z hz => m_X8_twoOf hz) hf (fun v24 μ25 H locs hf Y => ?_)
              refine g_iast (pc := 148) E Y 63 S_63 dX8_works_148 hf (fun μ26 H locs hf Y => ?_)
              refine g_iinc (pc := 149) E (fun v27 => [(3, .int v27), (2, .int v19), (4, .int v5), (0, .ref (ad 53)), (1, .int x1)]) dX8_works_149 hl (k := 4) rfl (t := 1) (by decide) (by decide) (fun _ => rfl) hf (fun v27 hf ls hl => ?_)
              refine lv_goto (pc := 152) (tgt := 4) hx hb dX8_works_152 (by decide) ?_
              exact ih _ _ _ _ _ _ _ hf Y (lv_sub hl [3, 4, 1, 0] rfl)
            · refine lv_aload_n (pc := 92) hx hb dX8_works_92 rfl (lv_at hl 1 rfl) ?_
              refine g_getr (pc := 93) E Y 53 10 63 S_53 rfl V_8 (by decide) AL_X8 q_356 dX8_works_93 ?_
              refine lv_iload_n (pc := 96) hx hb dX8_works_96 rfl (lv_at hl 3 rfl) ?_
              refine lv_iconst (pc := 97) (v := 1) hx hb dX8_works_97 (by decide) ?_
              refine g_isub (pc := 98) E dX8_works_98 hf (fun v28 hf => ?_)
              refine lv_aload_n (pc := 99) hx hb dX8_works_99 rfl (lv_at hl 1 rfl) ?_
              refine g_getr (pc := 100) E Y 53 10 63 S_53 rfl V_8 (by decide) AL_X8 q_356 dX8_works_100 ?_
              refine lv_iload_n (pc := 103) hx hb dX8_works_103 rfl (lv_at hl 3 rfl) ?_
              refine lv_iconst (pc := 104) (v := 1) hx hb dX8_works_104 (by decide) ?_
              refine g_isub (pc := 105) E dX8_works_105 hf (fun v29 hf => ?_)
              refine g_iald (pc := 106) E Y 63 S_63 dX8_works_106 hf (fun v30 hf => ?_)
              refine g_if_ne (pc := 107) (tgt := 114) E dX8_works_107 (by decide) hf (fun hf => ?_) (fun hf => ?_)
              · refine lv_iconst (pc := 114) (v := 0) hx hb dX8_works_114 (by decide) ?_
                refine g_iast (pc := 115) E Y 63 S_63 dX8_works_115 hf (fun μ31 H locs hf Y => ?_)
                refine lv_goto (pc := 116) (tgt := 149) hx hb dX8_works_116 (by decide) ?_
                refine g_iinc (pc := 149) E (fun v32 => [(3, .int v32), (4, .int v5), (0, .ref (ad 53)), (1, .int x1), (2, .int x2)]) dX8_works_149 hl (k := 4) rfl (t := 1) (by decide) (by decide) (fun _ => rfl) hf (fun v32 hf ls hl => ?_)
                refine lv_goto (pc := 152) (tgt := 4) hx hb dX8_works_152 (by decide) ?_
                exact ih _ _ _ _ _ _ _ hf Y (lv_sub hl [2, 3, 4, 0] rfl)
              · refine lv_iconst (pc := 110) (v := 1) hx hb dX8_works_110 (by decide) ?_
                refine lv_goto (pc := 111) (tgt := 115) hx hb dX8_works_111 (by decide) ?_
                refine g_iast (pc := 115) E Y 63 S_63 dX8_works_115 hf (fun μ33 H locs hf Y => ?_)
                refine lv_goto (pc := 116) (tgt := 149) hx hb dX8_works_116 (by decide) ?_
                refine g_iinc (pc := 149) E (fun v34 => [(3, .int v34), (4, .int v5), (0, .ref (ad 53)), (1, .int x1), (2, .int x2)]) dX8_works_149 hl (k := 4) rfl (t := 1) (by decide) (by decide) (fun _ => rfl) hf (fun v34 hf ls hl => ?_)
                refine lv_goto (pc := 152) (tgt := 4) hx hb dX8_works_152 (by decide) ?_
                exact ih _ _ _ _ _ _ _ hf Y (lv_sub hl [2, 3, 4, 0] rfl)
          · refine lv_aload_n (pc := 38) hx hb dX8_works_38 rfl (lv_at hl 1 rfl) ?_
            refine g_getr (pc := 39) E Y 53 10 63 S_53 rfl V_8 (by decide) AL_X8 q_356 dX8_works_39 ?_
            refine lv_iload_n (pc := 42) hx hb dX8_works_42 rfl (lv_at hl 3 rfl) ?_
            refine lv_iload (pc := 43) hx hb dX8_works_43 (lv_at hl 0 rfl) ?_
            refine lv_iconst (pc := 45) (v := 1) hx hb dX8_works_45 (by decide) ?_
            refine g_icmp_ne (pc := 46) (tgt := 63) E dX8_works_46 (by decide) hf (fun hf => ?_) (fun hf => ?_)
            · refine lv_aload_n (pc := 63) hx hb dX8_works_63 rfl (lv_at hl 1 rfl) ?_
              refine g_getr (pc := 64) E Y 53 9 62 S_53 rfl V_8 (by decide) AL_X8 q_355 dX8_works_64 ?_
              refine lv_aload_n (pc := 67) hx hb dX8_works_67 rfl (lv_at hl 1 rfl) ?_
              refine g_getr (pc := 68) E Y 53 0 54 S_53 rfl V_8 (by decide) AL_X8 q_358 dX8_works_68 ?_
              refine lv_iload_n (pc := 71) hx hb dX8_works_71 rfl (lv_at hl 2 rfl) ?_
              refine lv_bipush (pc := 72) (v := 61) hx hb dX8_works_72 (by decide) ?_
              refine g_iadd (pc := 74) E dX8_works_74 hf (fun v35 hf => ?_)
              refine lv_iload_n (pc := 75) hx hb dX8_works_75 rfl (lv_at hl 4 rfl) ?_
              refine g_iadd (pc := 76) E dX8_works_76 hf (fun v36 hf => ?_)
              refine g_iald (pc := 77) E Y 54 S_54 dX8_works_77 hf (fun v37 hf => ?_)
              refine g_iald (pc := 78) E Y 62 S_62 dX8_works_78 hf (fun v38 hf => ?_)
              refine g_iast (pc := 79) E Y 63 S_63 dX8_works_79 hf (fun μ39 H locs hf Y => ?_)
              refine g_iinc (pc := 80) E (fun v40 => [(2, .int v40), (4, .int v5), (0, .ref (ad 53)), (1, .int x1), (3, .int x3)]) dX8_works_80 hl (k := 3) rfl (t := 1) (by decide) (by decide) (fun _ => rfl) hf (fun v40 hf ls hl => ?_)
              refine lv_goto (pc := 83) (tgt := 149) hx hb dX8_works_83 (by decide) ?_
              refine g_iinc (pc := 149) E (fun v41 => [(3, .int v41), (2, .int v40), (4, .int v5), (0, .ref (ad 53)), (1, .int x1)]) dX8_works_149 hl (k := 4) rfl (t := 1) (by decide) (by decide) (fun _ => rfl) hf (fun v41 hf ls hl => ?_)
              refine lv_goto (pc := 152) (tgt := 4) hx hb dX8_works_152 (by decide) ?_
              exact ih _ _ _ _ _ _ _ hf Y (lv_sub hl [3, 4, 1, 0] rfl)
            · refine lv_aload_n (pc := 49) hx hb dX8_works_49 rfl (lv_at hl 1 rfl) ?_
              refine g_getr (pc := 50) E Y 53 0 54 S_53 rfl V_8 (by decide) AL_X8 q_358 dX8_works_50 ?_
              refine lv_iload_n (pc := 53) hx hb dX8_works_53 rfl (lv_at hl 2 rfl) ?_
              refine lv_bipush (pc := 54) (v := 61) hx hb dX8_works_54 (by decide) ?_
              refine g_iadd (pc := 56) E dX8_works_56 hf (fun v42 hf => ?_)
              refine lv_iload_n (pc := 57) hx hb dX8_works_57 rfl (lv_at hl 4 rfl) ?_
              refine g_iadd (pc := 58) E dX8_works_58 hf (fun v43 hf => ?_)
              refine g_iald (pc := 59) E Y 54 S_54 dX8_works_59 hf (fun v44 hf => ?_)
              refine lv_goto (pc := 60) (tgt := 79) hx hb dX8_works_60 (by decide) ?_
              refine g_iast (pc := 79) E Y 63 S_63 dX8_works_79 hf (fun μ45 H locs hf Y => ?_)
              refine g_iinc (pc := 80) E (fun v46 => [(2, .int v46), (4, .int v5), (0, .ref (ad 53)), (1, .int x1), (3, .int x3)]) dX8_works_80 hl (k := 3) rfl (t := 1) (by decide) (by decide) (fun _ => rfl) hf (fun v46 hf ls hl => ?_)
              refine lv_goto (pc := 83) (tgt := 149) hx hb dX8_works_83 (by decide) ?_
              refine g_iinc (pc := 149) E (fun v47 => [(3, .int v47), (2, .int v46), (4, .int v5), (0, .ref (ad 53)), (1, .int x1)]) dX8_works_149 hl (k := 4) rfl (t := 1) (by decide) (by decide) (fun _ => rfl) hf (fun v47 hf ls hl => ?_)
              refine lv_goto (pc := 152) (tgt := 4) hx hb dX8_works_152 (by decide) ?_
              exact ih _ _ _ _ _ _ _ hf Y (lv_sub hl [3, 4, 1, 0] rfl)
  unfold f_X8_works_53 at hf
  refine lv_iconst (pc := 0) (v := 0) hx hb dX8_works_0 (by decide) ?_
  refine lv_istore_n (pc := 1) (lv' := [(2, .int 0), (0, .ref (ad 53)), (1, .int a0)]) hx hb dX8_works_1 rfl hl (by decide) rfl (fun ls hl => ?_)
  refine lv_iconst (pc := 2) (v := 0) hx hb dX8_works_2 (by decide) ?_
  refine lv_istore_n (pc := 3) (lv' := [(3, .int 0), (2, .int 0), (0, .ref (ad 53)), (1, .int a0)]) hx hb dX8_works_3 rfl hl (by decide) rfl (fun ls hl => ?_)
  exact hL_4 1000 _ _ _ _ _ _ _ hf Y (lv_sub hl [2, 3, 1, 0] rfl)
def f_X8_gives_53 (a0 : Int32) (a1 : Int32) (a2 : Int32) (a3 : Int32) (σ : Mem) : Res := nm (121 * a0) fun (v1 : Int32) => nm (144 + v1) fun (v2 : Int32) => gi 0 3 <| nm (mset σ 62 (0 : Int32).toNatClampNeg a1) fun (μ3 : Mem) => gi 1 3 <| nm (mset μ3 62 (1 : Int32).toNatClampNeg a2) fun (μ4 : Mem) => gi 2 3 <| nm (mset μ4 62 (2 : Int32).toNatClampNeg a3) fun (μ5 : Mem) => gi v2 386 <| nm (μ5 54 v2.toNatClampNeg) fun (v6 : Int32) => if v6 ≤ 0 then (if a0 = 0 then (if a0 = 0 then (bd (f_X8_held a1 0 199 μ5) fun v17 μ18 => some (v17, μ18)) else (bd (f_X8_held a1 (-99) 99 μ5) fun v15 μ16 => some (v15, μ16))) else (if a1 = 1 then (if a0 = 0 then (bd (f_X8_held 25 0 199 μ5) fun v13 μ14 => some (v13, μ14)) else (bd (f_X8_held 25 (-99) 99 μ5) fun v11 μ12 => some (v11, μ12))) else (if a0 = 0 then (bd (f_X8_held (-50) 0 199 μ5) fun v9 μ10 => some (v9, μ10)) else (bd (f_X8_held (-50) (-99) 99 μ5) fun v7 μ8 => some (v7, μ8))))) else (bd (f_X8_works_53 v2 μ5) fun v19 μ20 => if a0 = 0 then (bd (f_X8_held v19 0 199 μ20) fun v23 μ24 => some (v23, μ24)) else (bd (f_X8_held v19 (-99) 99 μ20) fun v21 μ22 => some (v21, μ22)))
set_option maxHeartbeats 4000000 in
set_option maxRecDepth 100000 in
theorem m_X8_gives_53 {l : Launch} {σ : Mem} {Z : Int32 × Mem} {a0 : Int32} {a1 : Int32} {a2 : Int32} {a3 : Int32} (hf : f_X8_gives_53 a0 a1 a2 a3 σ = some Z) : CT l yX8_gives cX8_gives 7 (some .int) 2 (fun ad => [.ref (ad 53), .int a0, .int a1, .int a2, .int a3]) σ Z := by
  refine g_openT RX8 (by decide) rfl (fun _ => Nat.le_of_ble_eq_true rfl) (fun p e s m below meth c D cI cB ad st ls E Y hr hk hl => ?_)
  have hx := E.1.1
  have hb := E.1.2.1
  have hl : lv_has ls 7 [(0, .ref (ad 53)), (1, .int a0), (2, .int a1), (3, .int a2), (4, .int a3)] := hl
  unfold f_X8_gives_53 at hf
  refine lv_sipush (pc := 0) (v := 144) hx hb dX8_gives_0 (by decide) ?_
  refine lv_bipush (pc := 3) (v := 121) hx hb dX8_gives_3 (by decide) ?_
  refine lv_iload_n (pc := 5) hx hb dX8_gives_5 rfl (lv_at hl 1 rfl) ?_
  refine g_imul (pc := 6) E dX8_gives_6 hf (fun v1 hf => ?_)
  refine g_iadd (pc := 7) E dX8_gives_7 hf (fun v2 hf => ?_)
  refine lv_istore (pc := 8) (lv' := [(5, .int v2), (0, .ref (ad 53)), (1, .int a0), (2, .int a1), (3, .int a2), (4, .int a3)]) hx hb dX8_gives_8 hl (by decide) rfl (fun ls hl => ?_)
  refine lv_aload_n (pc := 10) hx hb dX8_gives_10 rfl (lv_at hl 1 rfl) ?_
  refine g_getr (pc := 11) E Y 53 9 62 S_53 rfl V_8 (by decide) AL_X8 q_355 dX8_gives_11 ?_
  refine lv_iconst (pc := 14) (v := 0) hx hb dX8_gives_14 (by decide) ?_
  refine lv_iload_n (pc := 15) hx hb dX8_gives_15 rfl (lv_at hl 3 rfl) ?_
  refine g_iast (pc := 16) E Y 62 S_62 dX8_gives_16 hf (fun μ3 H locs hf Y => ?_)
  refine lv_aload_n (pc := 17) hx hb dX8_gives_17 rfl (lv_at hl 1 rfl) ?_
  refine g_getr (pc := 18) E Y 53 9 62 S_53 rfl V_8 (by decide) AL_X8 q_355 dX8_gives_18 ?_
  refine lv_iconst (pc := 21) (v := 1) hx hb dX8_gives_21 (by decide) ?_
  refine lv_iload_n (pc := 22) hx hb dX8_gives_22 rfl (lv_at hl 4 rfl) ?_
  refine g_iast (pc := 23) E Y 62 S_62 dX8_gives_23 hf (fun μ4 H locs hf Y => ?_)
  refine lv_aload_n (pc := 24) hx hb dX8_gives_24 rfl (lv_at hl 1 rfl) ?_
  refine g_getr (pc := 25) E Y 53 9 62 S_53 rfl V_8 (by decide) AL_X8 q_355 dX8_gives_25 ?_
  refine lv_iconst (pc := 28) (v := 2) hx hb dX8_gives_28 (by decide) ?_
  refine lv_iload (pc := 29) hx hb dX8_gives_29 (lv_at hl 5 rfl) ?_
  refine g_iast (pc := 31) E Y 62 S_62 dX8_gives_31 hf (fun μ5 H locs hf Y => ?_)
  refine lv_aload_n (pc := 32) hx hb dX8_gives_32 rfl (lv_at hl 1 rfl) ?_
  refine g_getr (pc := 33) E Y 53 0 54 S_53 rfl V_8 (by decide) AL_X8 q_358 dX8_gives_33 ?_
  refine lv_iload (pc := 36) hx hb dX8_gives_36 (lv_at hl 0 rfl) ?_
  refine g_iald (pc := 38) E Y 54 S_54 dX8_gives_38 hf (fun v6 hf => ?_)
  refine g_if_le (pc := 39) (tgt := 51) E dX8_gives_39 (by decide) hf (fun hf => ?_) (fun hf => ?_)
  · refine lv_iload_n (pc := 51) hx hb dX8_gives_51 rfl (lv_at hl 2 rfl) ?_
    refine g_if_ne (pc := 52) (tgt := 59) E dX8_gives_52 (by decide) hf (fun hf => ?_) (fun hf => ?_)
    · refine lv_iload_n (pc := 59) hx hb dX8_gives_59 rfl (lv_at hl 3 rfl) ?_
      refine lv_iconst (pc := 60) (v := 1) hx hb dX8_gives_60 (by decide) ?_
      refine g_icmp_ne (pc := 61) (tgt := 69) E dX8_gives_61 (by decide) hf (fun hf => ?_) (fun hf => ?_)
      · refine lv_bipush (pc := 69) (v := (-50)) hx hb dX8_gives_69 (by decide) ?_
        refine lv_istore (pc := 71) (lv' := [(6, .int (-50)), (5, .int v2), (0, .ref (ad 53)), (1, .int a0), (2, .int a1), (3, .int a2), (4, .int a3)]) hx hb dX8_gives_71 hl (by decide) rfl (fun ls hl => ?_)
        refine lv_iload_n (pc := 73) hx hb dX8_gives_73 rfl (lv_at hl 3 rfl) ?_
        refine g_if_ne (pc := 74) (tgt := 89) E dX8_gives_74 (by decide) hf (fun hf => ?_) (fun hf => ?_)
        · refine lv_iload (pc := 89) hx hb dX8_gives_89 (lv_at hl 0 rfl) ?_
          refine lv_bipush (pc := 91) (v := (-99)) hx hb dX8_gives_91 (by decide) ?_
          refine lv_bipush (pc := 93) (v := 99) hx hb dX8_gives_93 (by decide) ?_
          refine g_callSi (pc := 95) E Y o_X8_held q_664 [.int (-50), .int (-99), .int 99] rfl rfl (hR_of (by omega) (by decide)) hl.1 (rest := []) rfl (Nat.le_of_ble_eq_true rfl) dX8_gives_95 (fun z hz => m_X8_held hz) hf (fun v7 μ8 H locs hf Y => ?_)
          exact g_iret (pc := 98) E Y hr hk dX8_gives_98 hf
        · refine lv_iload (pc := 77) hx hb dX8_gives_77 (lv_at hl 0 rfl) ?_
          refine lv_iconst (pc := 79) (v := 0) hx hb dX8_gives_79 (by decide) ?_
          refine lv_sipush (pc := 80) (v := 199) hx hb dX8_gives_80 (by decide) ?_
          refine g_callSi (pc := 83) E Y o_X8_held q_664 [.int (-50), .int 0, .int 199] rfl rfl (hR_of (by omega) (by decide)) hl.1 (rest := []) rfl (Nat.le_of_ble_eq_true rfl) dX8_gives_83 (fun z hz => m_X8_held hz) hf (fun v9 μ10 H locs hf Y => ?_)
          refine lv_goto (pc := 86) (tgt := 98) hx hb dX8_gives_86 (by decide) ?_
          exact g_iret (pc := 98) E Y hr hk dX8_gives_98 hf
      · refine lv_bipush (pc := 64) (v := 25) hx hb dX8_gives_64 (by decide) ?_
        refine lv_goto (pc := 66) (tgt := 71) hx hb dX8_gives_66 (by decide) ?_
        refine lv_istore (pc := 71) (lv' := [(6, .int 25), (5, .int v2), (0, .ref (ad 53)), (1, .int a0), (2, .int a1), (3, .int a2), (4, .int a3)]) hx hb dX8_gives_71 hl (by decide) rfl (fun ls hl => ?_)
        refine lv_iload_n (pc := 73) hx hb dX8_gives_73 rfl (lv_at hl 3 rfl) ?_
        refine g_if_ne (pc := 74) (tgt := 89) E dX8_gives_74 (by decide) hf (fun hf => ?_) (fun hf => ?_)
        · refine lv_iload (pc := 89) hx hb dX8_gives_89 (lv_at hl 0 rfl) ?_
          refine lv_bipush (pc := 91) (v := (-99)) hx hb dX8_gives_91 (by decide) ?_
          refine lv_bipush (pc := 93) (v := 99) hx hb dX8_gives_93 (by decide) ?_
          refine g_callSi (pc := 95) E Y o_X8_held q_664 [.int 25, .int (-99), .int 99] rfl rfl (hR_of (by omega) (by decide)) hl.1 (rest := []) rfl (Nat.le_of_ble_eq_true rfl) dX8_gives_95 (fun z hz => m_X8_held hz) hf (fun v11 μ12 H locs hf Y => ?_)
          exact g_iret (pc := 98) E Y hr hk dX8_gives_98 hf
        · refine lv_iload (pc := 77) hx hb dX8_gives_77 (lv_at hl 0 rfl) ?_
          refine lv_iconst (pc := 79) (v := 0) hx hb dX8_gives_79 (by decide) ?_
          refine lv_sipush (pc := 80) (v := 199) hx hb dX8_gives_80 (by decide) ?_
          refine g_callSi (pc := 83) E Y o_X8_held q_664 [.int 25, .int 0, .int 199] rfl rfl (hR_of (by omega) (by decide)) hl.1 (rest := []) rfl (Nat.le_of_ble_eq_true rfl) dX8_gives_83 (fun z hz => m_X8_held hz) hf (fun v13 μ14 H locs hf Y => ?_)
          refine lv_goto (pc := 86) (tgt := 98) hx hb dX8_gives_86 (by decide) ?_
          exact g_iret (pc := 98) E Y hr hk dX8_gives_98 hf
    · refine lv_iload_n (pc := 55) hx hb dX8_gives_55 rfl (lv_at hl 3 rfl) ?_
      refine lv_goto (pc := 56) (tgt := 71) hx hb dX8_gives_56 (by decide) ?_
      refine lv_istore (pc := 71) (lv' := [(6, .int a1), (5, .int v2), (0, .ref (ad 53)), (1, .int a0), (2, .int a1), (3, .int a2), (4, .int a3)]) hx hb dX8_gives_71 hl (by decide) rfl (fun ls hl => ?_)
      refine lv_iload_n (pc := 73) hx hb dX8_gives_73 rfl (lv_at hl 3 rfl) ?_
      refine g_if_ne (pc := 74) (tgt := 89) E dX8_gives_74 (by decide) hf (fun hf => ?_) (fun hf => ?_)
      · refine lv_iload (pc := 89) hx hb dX8_gives_89 (lv_at hl 0 rfl) ?_
        refine lv_bipush (pc := 91) (v := (-99)) hx hb dX8_gives_91 (by decide) ?_
        refine lv_bipush (pc := 93) (v := 99) hx hb dX8_gives_93 (by decide) ?_
        refine g_callSi (pc := 95) E Y o_X8_held q_664 [.int a1, .int (-99), .int 99] rfl rfl (hR_of (by omega) (by decide)) hl.1 (rest := []) rfl (Nat.le_of_ble_eq_true rfl) dX8_gives_95 (fun z hz => m_X8_held hz) hf (fun v15 μ16 H locs hf Y => ?_)
        exact g_iret (pc := 98) E Y hr hk dX8_gives_98 hf
      · refine lv_iload (pc := 77) hx hb dX8_gives_77 (lv_at hl 0 rfl) ?_
        refine lv_iconst (pc := 79) (v := 0) hx hb dX8_gives_79 (by decide) ?_
        refine lv_sipush (pc := 80) (v := 199) hx hb dX8_gives_80 (by decide) ?_
        refine g_callSi (pc := 83) E Y o_X8_held q_664 [.int a1, .int 0, .int 199] rfl rfl (hR_of (by omega) (by decide)) hl.1 (rest := []) rfl (Nat.le_of_ble_eq_true rfl) dX8_gives_83 (fun z hz => m_X8_held hz) hf (fun v17 μ18 H locs hf Y => ?_)
        refine lv_goto (pc := 86) (tgt := 98) hx hb dX8_gives_86 (by decide) ?_
        exact g_iret (pc := 98) E Y hr hk dX8_gives_98 hf
  · refine lv_aload_n (pc := 42) hx hb dX8_gives_42 rfl (lv_at hl 1 rfl) ?_
    refine lv_iload (pc := 43) hx hb dX8_gives_43 (lv_at hl 0 rfl) ?_
    refine g_callVi (pc := 45) E Y 53 S_53 V_8 o_X8_works q_682 [.int v2] rfl rfl (hR_of (by omega) (by decide)) hl.1 (rest := []) rfl (Nat.le_of_ble_eq_true rfl) dX8_gives_45 (fun z hz => m_X8_works_53 hz) hf (fun v19 μ20 H locs hf Y => ?_)
    refine lv_goto (pc := 48) (tgt := 71) hx hb dX8_gives_48 (by decide) ?_
    refine lv_istore (pc := 71) (lv' := [(6, .int v19), (5, .int v2), (0, .ref (ad 53)), (1, .int a0), (2, .int a1), (3, .int a2), (4, .int a3)]) hx hb dX8_gives_71 hl (by decide) rfl (fun ls hl => ?_)
    refine lv_iload_n (pc := 73) hx hb dX8_gives_73 rfl (lv_at hl 3 rfl) ?_
    refine g_if_ne (pc := 74) (tgt := 89) E dX8_gives_74 (by decide) hf (fun hf => ?_) (fun hf => ?_)
    · refine lv_iload (pc := 89) hx hb dX8_gives_89 (lv_at hl 0 rfl) ?_
      refine lv_bipush (pc := 91) (v := (-99)) hx hb dX8_gives_91 (by decide) ?_
      refine lv_bipush (pc := 93) (v := 99) hx hb dX8_gives_93 (by decide) ?_
      refine g_callSi (pc := 95) E Y o_X8_held q_664 [.int v19, .int (-99), .int 99] rfl rfl (hR_of (by omega) (by decide)) hl.1 (rest := []) rfl (Nat.le_of_ble_eq_true rfl) dX8_gives_95 (fun z hz => m_X8_held hz) hf (fun v21 μ22 H locs hf Y => ?_)
      exact g_iret (pc := 98) E Y hr hk dX8_gives_98 hf
    · refine lv_iload (pc := 77) hx hb dX8_gives_77 (lv_at hl 0 rfl) ?_
      refine lv_iconst (pc := 79) (v := 0) hx hb dX8_gives_79 (by decide) ?_
      refine lv_sipush (pc := 80) (v := 199) hx hb dX8_gives_80 (by decide) ?_
      refine g_callSi (pc := 83) E Y o_X8_held q_664 [.int v19, .int 0, .int 199] rfl rfl (hR_of (by omega) (by decide)) hl.1 (rest := []) rfl (Nat.le_of_ble_eq_true rfl) dX8_gives_83 (fun z hz => m_X8_held hz) hf (fun v23 μ24 H locs hf Y => ?_)
      refine lv_goto (pc := 86) (tgt := 98) hx hb dX8_gives_86 (by decide) ?_
      exact g_iret (pc := 98) E Y hr hk dX8_gives_98 hf
def f_X8_airOf_53 (a0 : Int32) (σ : Mem) : Res := bd (f_X8_plainAir_53 a0 σ) fun v1 μ2 => gi 2 386 <| nm (μ2 54 (2 : Int32).toNatClampNeg) fun (v3 : Int32) => gi 3 386 <| nm (μ2 54 (3 : Int32).toNatClampNeg) fun (v4 : Int32) => bd (f_X8_gives_53 0 v1 v3 v4 μ2) fun v5 μ6 => some (v5, μ6)
set_option maxHeartbeats 4000000 in
set_option maxRecDepth 100000 in
theorem m_X8_airOf_53 {l : Launch} {σ : Mem} {Z : Int32 × Mem} {a0 : Int32} (hf : f_X8_airOf_53 a0 σ = some Z) : CT l yX8_airOf cX8_airOf 2 (some .int) 3 (fun ad => [.ref (ad 53), .int a0]) σ Z := by
  refine g_openT RX8 (by decide) rfl (fun _ => Nat.le_of_ble_eq_true rfl) (fun p e s m below meth c D cI cB ad st ls E Y hr hk hl => ?_)
  have hx := E.1.1
  have hb := E.1.2.1
  have hl : lv_has ls 2 [(0, .ref (ad 53)), (1, .int a0)] := hl
  unfold f_X8_airOf_53 at hf
  refine lv_aload_n (pc := 0) hx hb dX8_airOf_0 rfl (lv_at hl 0 rfl) ?_
  refine lv_iconst (pc := 1) (v := 0) hx hb dX8_airOf_1 (by decide) ?_
  refine lv_aload_n (pc := 2) hx hb dX8_airOf_2 rfl (lv_at hl 0 rfl) ?_
  refine lv_iload_n (pc := 3) hx hb dX8_airOf_3 rfl (lv_at hl 1 rfl) ?_
  refine g_callVi (pc := 4) E Y 53 S_53 V_8 o_X8_plainAir q_709 [.int a0] rfl rfl (hR_of (by omega) (by decide)) hl.1 (rest := [.int 0, .ref (ad 53)]) rfl (Nat.le_of_ble_eq_true rfl) dX8_airOf_4 (fun z hz => m_X8_plainAir_53 hz) hf (fun v1 μ2 H locs hf Y => ?_)
  refine lv_aload_n (pc := 7) hx hb dX8_airOf_7 rfl (lv_at hl 0 rfl) ?_
  refine g_getr (pc := 8) E Y 53 0 54 S_53 rfl V_8 (by decide) AL_X8 q_358 dX8_airOf_8 ?_
  refine lv_iconst (pc := 11) (v := 2) hx hb dX8_airOf_11 (by decide) ?_
  refine g_iald (pc := 12) E Y 54 S_54 dX8_airOf_12 hf (fun v3 hf => ?_)
  refine lv_aload_n (pc := 13) hx hb dX8_airOf_13 rfl (lv_at hl 0 rfl) ?_
  refine g_getr (pc := 14) E Y 53 0 54 S_53 rfl V_8 (by decide) AL_X8 q_358 dX8_airOf_14 ?_
  refine lv_iconst (pc := 17) (v := 3) hx hb dX8_airOf_17 (by decide) ?_
  refine g_iald (pc := 18) E Y 54 S_54 dX8_airOf_18 hf (fun v4 hf => ?_)
  refine g_callVi (pc := 19) E Y 53 S_53 V_8 o_X8_gives q_710 [.int 0, .int v1, .int v3, .int v4] rfl rfl (hR_of (by omega) (by decide)) hl.1 (rest := []) rfl (Nat.le_of_ble_eq_true rfl) dX8_airOf_19 (fun z hz => m_X8_gives_53 hz) hf (fun v5 μ6 H locs hf Y => ?_)
  exact g_iret (pc := 22) E Y hr hk dX8_airOf_22 hf
def f_X8_costsOf_53 (a0 : Int32) (σ : Mem) : Res := bd (f_X8_of_53 a0 0 σ) fun v1 μ2 => if v1 = 1 then (gi 3 386 <| nm (μ2 54 (3 : Int32).toNatClampNeg) fun (v3 : Int32) => some (v3, μ2)) else (if v1 = 3 then (bd (f_X8_of_53 a0 1 μ2) fun v4 μ5 => nm (5 + v4) fun (v6 : Int32) => some (v6, μ5)) else (if v1 = 4 then (gi 3 386 <| nm (μ2 54 (3 : Int32).toNatClampNeg) fun (v7 : Int32) => nm (v7 + 1) fun (v8 : Int32) => some (v8, μ2)) else (if v1 = 6 then (gi 2 386 <| nm (μ2 54 (2 : Int32).toNatClampNeg) fun (v9 : Int32) => some (v9, μ2)) else (some (0, μ2)))))
set_option maxHeartbeats 4000000 in
set_option maxRecDepth 100000 in
theorem m_X8_costsOf_53 {l : Launch} {σ : Mem} {Z : Int32 × Mem} {a0 : Int32} (hf : f_X8_costsOf_53 a0 σ = some Z) : CT l yX8_costsOf cX8_costsOf 2 (some .int) 1 (fun ad => [.ref (ad 53), .int a0]) σ Z := by
  refine g_openT RX8 (by decide) rfl (fun _ => Nat.le_of_ble_eq_true rfl) (fun p e s m below meth c D cI cB ad st ls E Y hr hk hl => ?_)
  have hx := E.1.1
  have hb := E.1.2.1
  have hl : lv_has ls 2 [(0, .ref (ad 53)), (1, .int a0)] := hl
  unfold f_X8_costsOf_53 at hf
  refine lv_aload_n (pc := 0) hx hb dX8_costsOf_0 rfl (lv_at hl 0 rfl) ?_
  refine lv_iload_n (pc := 1) hx hb dX8_costsOf_1 rfl (lv_at hl 1 rfl) ?_
  refine lv_iconst (pc := 2) (v := 0) hx hb dX8_costsOf_2 (by decide) ?_
  refine g_callVi (pc := 3) E Y 53 S_53 V_8 o_X8_of q_708 [.int a0, .int 0] rfl rfl (hR_of (by omega) (by decide)) hl.1 (rest := []) rfl (Nat.le_of_ble_eq_true rfl) dX8_costsOf_3 (fun z hz => m_X8_of_53 hz) hf (fun v1 μ2 H locs hf Y => ?_)
  by_cases hc : v1 = 1
  · rw [if_pos hc] at hf
    refine g_tabIn (pc := 6) (tgt := 44) E dX8_costsOf_6 hc (n := 1) (by decide) (by decide) (by decide) rfl (by decide) ?_
    refine lv_aload_n (pc := 44) hx hb dX8_costsOf_44 rfl (lv_at hl 0 rfl) ?_
    refine g_getr (pc := 45) E Y 53 0 54 S_53 rfl V_8 (by decide) AL_X8 q_358 dX8_costsOf_45 ?_
    refine lv_iconst (pc := 48) (v := 3) hx hb dX8_costsOf_48 (by decide) ?_
    refine g_iald (pc := 49) E Y 54 S_54 dX8_costsOf_49 hf (fun v3 hf => ?_)
    exact g_iret (pc := 50) E Y hr hk dX8_costsOf_50 hf
  · rw [if_neg hc] at hf
    have n_1 := ti_ne (n := 1) (by decide) hc
    clear hc
    by_cases hc : v1 = 3
    · rw [if_pos hc] at hf
      refine g_tabIn (pc := 6) (tgt := 51) E dX8_costsOf_6 hc (n := 3) (by decide) (by decide) (by decide) rfl (by decide) ?_
      refine lv_iconst (pc := 51) (v := 5) hx hb dX8_costsOf_51 (by decide) ?_
      refine lv_aload_n (pc := 52) hx hb dX8_costsOf_52 rfl (lv_at hl 0 rfl) ?_
      refine lv_iload_n (pc := 53) hx hb dX8_costsOf_53 rfl (lv_at hl 1 rfl) ?_
      refine lv_iconst (pc := 54) (v := 1) hx hb dX8_costsOf_54 (by decide) ?_
      refine g_callVi (pc := 55) E Y 53 S_53 V_8 o_X8_of q_708 [.int a0, .int 1] rfl rfl (hR_of (by omega) (by decide)) hl.1 (rest := [.int 5]) rfl (Nat.le_of_ble_eq_true rfl) dX8_costsOf_55 (fun z hz => m_X8_of_53 hz) hf (fun v4 μ5 H locs hf Y => ?_)
      refine g_iadd (pc := 58) E dX8_costsOf_58 hf (fun v6 hf => ?_)
      exact g_iret (pc := 59) E Y hr hk dX8_costsOf_59 hf
    · rw [if_neg hc] at hf
      have n_3 := ti_ne (n := 3) (by decide) hc
      clear hc
      by_cases hc : v1 = 4
      · rw [if_pos hc] at hf
        refine g_tabIn (pc := 6) (tgt := 60) E dX8_costsOf_6 hc (n := 4) (by decide) (by decide) (by decide) rfl (by decide) ?_
        refine lv_aload_n (pc := 60) hx hb dX8_costsOf_60 rfl (lv_at hl 0 rfl) ?_
        refine g_getr (pc := 61) E Y 53 0 54 S_53 rfl V_8 (by decide) AL_X8 q_358 dX8_costsOf_61 ?_
        refine lv_iconst (pc := 64) (v := 3) hx hb dX8_costsOf_64 (by decide) ?_
        refine g_iald (pc := 65) E Y 54 S_54 dX8_costsOf_65 hf (fun v7 hf => ?_)
        refine lv_iconst (pc := 66) (v := 1) hx hb dX8_costsOf_66 (by decide) ?_
        refine g_iadd (pc := 67) E dX8_costsOf_67 hf (fun v8 hf => ?_)
        exact g_iret (pc := 68) E Y hr hk dX8_costsOf_68 hf
      · rw [if_neg hc] at hf
        have n_4 := ti_ne (n := 4) (by decide) hc
        clear hc
        by_cases hc : v1 = 6
        · rw [if_pos hc] at hf
          refine g_tabIn (pc := 6) (tgt := 69) E dX8_costsOf_6 hc (n := 6) (by decide) (by decide) (by decide) rfl (by decide) ?_
          refine lv_aload_n (pc := 69) hx hb dX8_costsOf_69 rfl (lv_at hl 0 rfl) ?_
          refine g_getr (pc := 70) E Y 53 0 54 S_53 rfl V_8 (by decide) AL_X8 q_358 dX8_costsOf_70 ?_
          refine lv_iconst (pc := 73) (v := 2) hx hb dX8_costsOf_73 (by decide) ?_
          refine g_iald (pc := 74) E Y 54 S_54 dX8_costsOf_74 hf (fun v9 hf => ?_)
          exact g_iret (pc := 75) E Y hr hk dX8_costsOf_75 hf
        · rw [if_neg hc] at hf
          have n_6 := ti_ne (n := 6) (by decide) hc
          clear hc
          refine g_tabDef (pc := 6) (tgt := 76) E dX8_costsOf_6 ?_ (by decide) ?_
          · by_cases hg : v1.toInt < 1 ∨ 6 < v1.toInt
            · exact Or.inl hg
            · have hg2 : v1.toInt = 2 ∨ v1.toInt = 5 := by omega
              rcases hg2 with hg2 | hg2 <;> exact Or.inr (by rw [hg2]; rfl)
          · refine lv_iconst (pc := 76) (v := 0) hx hb dX8_costsOf_76 (by decide) ?_
            exact g_iret (pc := 77) E Y hr hk dX8_costsOf_77 hf
def f_X8_runFrom_53 (a0 : Int32) (a1 : Int32) (σ : Mem) : Res := bd (f_X8_about_53 a0 0 σ) fun v1 μ2 => bd (f_X8_about_53 a0 1 μ2) fun v3 μ4 => nm (90 - a1) fun (v5 : Int32) => nm (v3 * v5) fun (v6 : Int32) => gz 10 <| nm (v6 / 10) fun (v7 : Int32) => nm (v1 + v7) fun (v8 : Int32) => some (v8, μ4)
set_option maxHeartbeats 4000000 in
set_option maxRecDepth 100000 in
theorem m_X8_runFrom_53 {l : Launch} {σ : Mem} {Z : Int32 × Mem} {a0 : Int32} {a1 : Int32} (hf : f_X8_runFrom_53 a0 a1 σ = some Z) : CT l yX8_runFrom cX8_runFrom 3 (some .int) 1 (fun ad => [.ref (ad 53), .int a0, .int a1]) σ Z := by
  refine g_openT RX8 (by decide) rfl (fun _ => Nat.le_of_ble_eq_true rfl) (fun p e s m below meth c D cI cB ad st ls E Y hr hk hl => ?_)
  have hx := E.1.1
  have hb := E.1.2.1
  have hl : lv_has ls 3 [(0, .ref (ad 53)), (1, .int a0), (2, .int a1)] := hl
  unfold f_X8_runFrom_53 at hf
  refine lv_aload_n (pc := 0) hx hb dX8_runFrom_0 rfl (lv_at hl 0 rfl) ?_
  refine lv_iload_n (pc := 1) hx hb dX8_runFrom_1 rfl (lv_at hl 1 rfl) ?_
  refine lv_iconst (pc := 2) (v := 0) hx hb dX8_runFrom_2 (by decide) ?_
  refine g_callVi (pc := 3) E Y 53 S_53 V_8 o_X8_about q_711 [.int a0, .int 0] rfl rfl (hR_of (by omega) (by decide)) hl.1 (rest := []) rfl (Nat.le_of_ble_eq_true rfl) dX8_runFrom_3 (fun z hz => m_X8_about_53 hz) hf (fun v1 μ2 H locs hf Y => ?_)
  refine lv_aload_n (pc := 6) hx hb dX8_runFrom_6 rfl (lv_at hl 0 rfl) ?_
  refine lv_iload_n (pc := 7) hx hb dX8_runFrom_7 rfl (lv_at hl 1 rfl) ?_
  refine lv_iconst (pc := 8) (v := 1) hx hb dX8_runFrom_8 (by decide) ?_
  refine g_callVi (pc := 9) E Y 53 S_53 V_8 o_X8_about q_711 [.int a0, .int 1] rfl rfl (hR_of (by omega) (by decide)) hl.1 (rest := [.int v1]) rfl (Nat.le_of_ble_eq_true rfl) dX8_runFrom_9 (fun z hz => m_X8_about_53 hz) hf (fun v3 μ4 H locs hf Y => ?_)
  refine lv_bipush (pc := 12) (v := 90) hx hb dX8_runFrom_12 (by decide) ?_
  refine lv_iload_n (pc := 14) hx hb dX8_runFrom_14 rfl (lv_at hl 2 rfl) ?_
  refine g_isub (pc := 15) E dX8_runFrom_15 hf (fun v5 hf => ?_)
  refine g_imul (pc := 16) E dX8_runFrom_16 hf (fun v6 hf => ?_)
  refine lv_bipush (pc := 17) (v := 10) hx hb dX8_runFrom_17 (by decide) ?_
  refine g_idiv (pc := 19) E dX8_runFrom_19 hf (fun v7 hf => ?_)
  refine g_iadd (pc := 20) E dX8_runFrom_20 hf (fun v8 hf => ?_)
  exact g_iret (pc := 21) E Y hr hk dX8_runFrom_21 hf
def f_X8_isPickedAt_53 (a0 : Int32) (a1 : Int32) (σ : Mem) : Res := bd (f_X8_about_53 a0 0 σ) fun v1 μ2 => bd (f_X8_about_53 a0 1 μ2) fun v3 μ4 => nm (v3 * a1) fun (v5 : Int32) => gz 10 <| nm (v5 / 10) fun (v6 : Int32) => nm (v1 + v6) fun (v7 : Int32) => gi 0 386 <| nm (μ4 54 (0 : Int32).toNatClampNeg) fun (v8 : Int32) => gz 2 <| nm (v8 / 2) fun (v9 : Int32) => nm (v9 + 30) fun (v10 : Int32) => if v7 ≤ v10 then (gb 0 (some (0, μ4))) else (gb 1 (some (1, μ4)))
set_option maxHeartbeats 4000000 in
set_option maxRecDepth 100000 in
theorem m_X8_isPickedAt_53 {l : Launch} {σ : Mem} {Z : Int32 × Mem} {a0 : Int32} {a1 : Int32} (hf : f_X8_isPickedAt_53 a0 a1 σ = some Z) : CT l yX8_isPickedAt cX8_isPickedAt 3 (some .boolean) 1 (fun ad => [.ref (ad 53), .int a0, .int a1]) σ Z := by
  refine g_openT RX8 (by decide) rfl (fun _ => Nat.le_of_ble_eq_true rfl) (fun p e s m below meth c D cI cB ad st ls E Y hr hk hl => ?_)
  have hx := E.1.1
  have hb := E.1.2.1
  have hl : lv_has ls 3 [(0, .ref (ad 53)), (1, .int a0), (2, .int a1)] := hl
  unfold f_X8_isPickedAt_53 at hf
  refine lv_aload_n (pc := 0) hx hb dX8_isPickedAt_0 rfl (lv_at hl 0 rfl) ?_
  refine lv_iload_n (pc := 1) hx hb dX8_isPickedAt_1 rfl (lv_at hl 1 rfl) ?_
  refine lv_iconst (pc := 2) (v := 0) hx hb dX8_isPickedAt_2 (by decide) ?_
  refine g_callVi (pc := 3) E Y 53 S_53 V_8 o_X8_about q_711 [.int a0, .int 0] rfl rfl (hR_of (by omega) (by decide)) hl.1 (rest := []) rfl (Nat.le_of_ble_eq_true rfl) dX8_isPickedAt_3 (fun z hz => m_X8_about_53 hz) hf (fun v1 μ2 H locs hf Y => ?_)
  refine lv_aload_n (pc := 6) hx hb dX8_isPickedAt_6 rfl (lv_at hl 0 rfl) ?_
  refine lv_iload_n (pc := 7) hx hb dX8_isPickedAt_7 rfl (lv_at hl 1 rfl) ?_
  refine lv_iconst (pc := 8) (v := 1) hx hb dX8_isPickedAt_8 (by decide) ?_
  refine g_callVi (pc := 9) E Y 53 S_53 V_8 o_X8_about q_711 [.int a0, .int 1] rfl rfl (hR_of (by omega) (by decide)) hl.1 (rest := [.int v1]) rfl (Nat.le_of_ble_eq_true rfl) dX8_isPickedAt_9 (fun z hz => m_X8_about_53 hz) hf (fun v3 μ4 H locs hf Y => ?_)
  refine lv_iload_n (pc := 12) hx hb dX8_isPickedAt_12 rfl (lv_at hl 2 rfl) ?_
  refine g_imul (pc := 13) E dX8_isPickedAt_13 hf (fun v5 hf => ?_)
  refine lv_bipush (pc := 14) (v := 10) hx hb dX8_isPickedAt_14 (by decide) ?_
  refine g_idiv (pc := 16) E dX8_isPickedAt_16 hf (fun v6 hf => ?_)
  refine g_iadd (pc := 17) E dX8_isPickedAt_17 hf (fun v7 hf => ?_)
  refine lv_aload_n (pc := 18) hx hb dX8_isPickedAt_18 rfl (lv_at hl 0 rfl) ?_
  refine g_getr (pc := 19) E Y 53 0 54 S_53 rfl V_8 (by decide) AL_X8 q_358 dX8_isPickedAt_19 ?_
  refine lv_iconst (pc := 22) (v := 0) hx hb dX8_isPickedAt_22 (by decide) ?_
  refine g_iald (pc := 23) E Y 54 S_54 dX8_isPickedAt_23 hf (fun v8 hf => ?_)
  refine lv_iconst (pc := 24) (v := 2) hx hb dX8_isPickedAt_24 (by decide) ?_
  refine g_idiv (pc := 25) E dX8_isPickedAt_25 hf (fun v9 hf => ?_)
  refine lv_bipush (pc := 26) (v := 30) hx hb dX8_isPickedAt_26 (by decide) ?_
  refine g_iadd (pc := 28) E dX8_isPickedAt_28 hf (fun v10 hf => ?_)
  refine g_icmp_le (pc := 29) (tgt := 36) E dX8_isPickedAt_29 (by decide) hf (fun hf => ?_) (fun hf => ?_)
  · refine lv_iconst (pc := 36) (v := 0) hx hb dX8_isPickedAt_36 (by decide) ?_
    exact g_zret (pc := 37) E Y hr hk dX8_isPickedAt_37 hf
  · refine lv_iconst (pc := 32) (v := 1) hx hb dX8_isPickedAt_32 (by decide) ?_
    refine lv_goto (pc := 33) (tgt := 37) hx hb dX8_isPickedAt_33 (by decide) ?_
    exact g_zret (pc := 37) E Y hr hk dX8_isPickedAt_37 hf
def f_X8_marginOf_53 (a0 : Int32) (a1 : Int32) (a2 : Int32) (σ : Mem) : Res := gi 0 386 <| nm (σ 54 (0 : Int32).toNatClampNeg) fun (v1 : Int32) => bd (f_X8_airOf_53 a1 σ) fun v2 μ3 => nm (v1 + v2) fun (v4 : Int32) => gi 1 386 <| nm (μ3 54 (1 : Int32).toNatClampNeg) fun (v5 : Int32) => nm (v4 + v5) fun (v6 : Int32) => bd (f_X8_runFrom_53 a0 a2 μ3) fun v7 μ8 => nm (v6 - v7) fun (v9 : Int32) => some (v9, μ8)
set_option maxHeartbeats 4000000 in
set_option maxRecDepth 100000 in
theorem m_X8_marginOf_53 {l : Launch} {σ : Mem} {Z : Int32 × Mem} {a0 : Int32} {a1 : Int32} {a2 : Int32} (hf : f_X8_marginOf_53 a0 a1 a2 σ = some Z) : CT l yX8_marginOf cX8_marginOf 4 (some .int) 4 (fun ad => [.ref (ad 53), .int a0, .int a1, .int a2]) σ Z := by
  refine g_openT RX8 (by decide) rfl (fun _ => Nat.le_of_ble_eq_true rfl) (fun p e s m below meth c D cI cB ad st ls E Y hr hk hl => ?_)
  have hx := E.1.1
  have hb := E.1.2.1
  have hl : lv_has ls 4 [(0, .ref (ad 53)), (1, .int a0), (2, .int a1), (3, .int a2)] := hl
  unfold f_X8_marginOf_53 at hf
  refine lv_aload_n (pc := 0) hx hb dX8_marginOf_0 rfl (lv_at hl 0 rfl) ?_
  refine g_getr (pc := 1) E Y 53 0 54 S_53 rfl V_8 (by decide) AL_X8 q_358 dX8_marginOf_1 ?_
  refine lv_iconst (pc := 4) (v := 0) hx hb dX8_marginOf_4 (by decide) ?_
  refine g_iald (pc := 5) E Y 54 S_54 dX8_marginOf_5 hf (fun v1 hf => ?_)
  refine lv_aload_n (pc := 6) hx hb dX8_marginOf_6 rfl (lv_at hl 0 rfl) ?_
  refine lv_iload_n (pc := 7) hx hb dX8_marginOf_7 rfl (lv_at hl 2 rfl) ?_
  refine g_callVi (pc := 8) E Y 53 S_53 V_8 o_X8_airOf q_712 [.int a1] rfl rfl (hR_of (by omega) (by decide)) hl.1 (rest := [.int v1]) rfl (Nat.le_of_ble_eq_true rfl) dX8_marginOf_8 (fun z hz => m_X8_airOf_53 hz) hf (fun v2 μ3 H locs hf Y => ?_)
  refine g_iadd (pc := 11) E dX8_marginOf_11 hf (fun v4 hf => ?_)
  refine lv_aload_n (pc := 12) hx hb dX8_marginOf_12 rfl (lv_at hl 0 rfl) ?_
  refine g_getr (pc := 13) E Y 53 0 54 S_53 rfl V_8 (by decide) AL_X8 q_358 dX8_marginOf_13 ?_
  refine lv_iconst (pc := 16) (v := 1) hx hb dX8_marginOf_16 (by decide) ?_
  refine g_iald (pc := 17) E Y 54 S_54 dX8_marginOf_17 hf (fun v5 hf => ?_)
  refine g_iadd (pc := 18) E dX8_marginOf_18 hf (fun v6 hf => ?_)
  refine lv_aload_n (pc := 19) hx hb dX8_marginOf_19 rfl (lv_at hl 0 rfl) ?_
  refine lv_iload_n (pc := 20) hx hb dX8_marginOf_20 rfl (lv_at hl 1 rfl) ?_
  refine lv_iload_n (pc := 21) hx hb dX8_marginOf_21 rfl (lv_at hl 3 rfl) ?_
  refine g_callVi (pc := 22) E Y 53 S_53 V_8 o_X8_runFrom q_713 [.int a0, .int a2] rfl rfl (hR_of (by omega) (by decide)) hl.1 (rest := [.int v6]) rfl (Nat.le_of_ble_eq_true rfl) dX8_marginOf_22 (fun z hz => m_X8_runFrom_53 hz) hf (fun v7 μ8 H locs hf Y => ?_)
  refine g_isub (pc := 25) E dX8_marginOf_25 hf (fun v9 hf => ?_)
  exact g_iret (pc := 26) E Y hr hk dX8_marginOf_26 hf
def f_X8_isSafe_53 (a0 : Int32) (a1 : Int32) (a2 : Int32) (σ : Mem) : Res := bd (f_X8_marginOf_53 a0 a1 a2 σ) fun v1 μ2 => if v1 < 0 then (gb 0 (some (0, μ2))) else (gb 1 (some (1, μ2)))
set_option maxHeartbeats 4000000 in
set_option maxRecDepth 100000 in
theorem m_X8_isSafe_53 {l : Launch} {σ : Mem} {Z : Int32 × Mem} {a0 : Int32} {a1 : Int32} {a2 : Int32} (hf : f_X8_isSafe_53 a0 a1 a2 σ = some Z) : CT l yX8_isSafe cX8_isSafe 4 (some .boolean) 5 (fun ad => [.ref (ad 53), .int a0, .int a1, .int a2]) σ Z := by
  refine g_openT RX8 (by decide) rfl (fun _ => Nat.le_of_ble_eq_true rfl) (fun p e s m below meth c D cI cB ad st ls E Y hr hk hl => ?_)
  have hx := E.1.1
  have hb := E.1.2.1
  have hl : lv_has ls 4 [(0, .ref (ad 53)), (1, .int a0), (2, .int a1), (3, .int a2)] := hl
  unfold f_X8_isSafe_53 at hf
  refine lv_aload_n (pc := 0) hx hb dX8_isSafe_0 rfl (lv_at hl 0 rfl) ?_
  refine lv_iload_n (pc := 1) hx hb dX8_isSafe_1 rfl (lv_at hl 1 rfl) ?_
  refine lv_iload_n (pc := 2) hx hb dX8_isSafe_2 rfl (lv_at hl 2 rfl) ?_
  refine lv_iload_n (pc := 3) hx hb dX8_isSafe_3 rfl (lv_at hl 3 rfl) ?_
  refine g_callVi (pc := 4) E Y 53 S_53 V_8 o_X8_marginOf q_714 [.int a0, .int a1, .int a2] rfl rfl (hR_of (by omega) (by decide)) hl.1 (rest := []) rfl (Nat.le_of_ble_eq_true rfl) dX8_isSafe_4 (fun z hz => m_X8_marginOf_53 hz) hf (fun v1 μ2 H locs hf Y => ?_)
  refine g_if_lt (pc := 7) (tgt := 14) E dX8_isSafe_7 (by decide) hf (fun hf => ?_) (fun hf => ?_)
  · refine lv_iconst (pc := 14) (v := 0) hx hb dX8_isSafe_14 (by decide) ?_
    exact g_zret (pc := 15) E Y hr hk dX8_isSafe_15 hf
  · refine lv_iconst (pc := 10) (v := 1) hx hb dX8_isSafe_10 (by decide) ?_
    refine lv_goto (pc := 11) (tgt := 15) hx hb dX8_isSafe_11 (by decide) ?_
    exact g_zret (pc := 15) E Y hr hk dX8_isSafe_15 hf
def f_X8_gainOf_53 (a0 : Int32) (a1 : Int32) (a2 : Int32) (σ : Mem) : Res := bd (f_X8_marginOf_53 a0 a1 a2 σ) fun v1 μ2 => if v1 < 0 then (gi 3 386 <| nm (μ2 54 (3 : Int32).toNatClampNeg) fun (v3 : Int32) => bd (f_X8_gives_53 1 0 v1 v3 μ2) fun v4 μ5 => some (v4, μ5)) else (gi 3 386 <| nm (μ2 54 (3 : Int32).toNatClampNeg) fun (v6 : Int32) => bd (f_X8_gives_53 1 1 v1 v6 μ2) fun v7 μ8 => some (v7, μ8))
set_option maxHeartbeats 4000000 in
set_option maxRecDepth 100000 in
theorem m_X8_gainOf_53 {l : Launch} {σ : Mem} {Z : Int32 × Mem} {a0 : Int32} {a1 : Int32} {a2 : Int32} (hf : f_X8_gainOf_53 a0 a1 a2 σ = some Z) : CT l yX8_gainOf cX8_gainOf 5 (some .int) 5 (fun ad => [.ref (ad 53), .int a0, .int a1, .int a2]) σ Z := by
  refine g_openT RX8 (by decide) rfl (fun _ => Nat.le_of_ble_eq_true rfl) (fun p e s m below meth c D cI cB ad st ls E Y hr hk hl => ?_)
  have hx := E.1.1
  have hb := E.1.2.1
  have hl : lv_has ls 5 [(0, .ref (ad 53)), (1, .int a0), (2, .int a1), (3, .int a2)] := hl
  unfold f_X8_gainOf_53 at hf
  refine lv_aload_n (pc := 0) hx hb dX8_gainOf_0 rfl (lv_at hl 0 rfl) ?_
  refine lv_iload_n (pc := 1) hx hb dX8_gainOf_1 rfl (lv_at hl 1 rfl) ?_
  refine lv_iload_n (pc := 2) hx hb dX8_gainOf_2 rfl (lv_at hl 2 rfl) ?_
  refine lv_iload_n (pc := 3) hx hb dX8_gainOf_3 rfl (lv_at hl 3 rfl) ?_
  refine g_callVi (pc := 4) E Y 53 S_53 V_8 o_X8_marginOf q_714 [.int a0, .int a1, .int a2] rfl rfl (hR_of (by omega) (by decide)) hl.1 (rest := []) rfl (Nat.le_of_ble_eq_true rfl) dX8_gainOf_4 (fun z hz => m_X8_marginOf_53 hz) hf (fun v1 μ2 H locs hf Y => ?_)
  refine lv_istore (pc := 7) (lv' := [(4, .int v1), (0, .ref (ad 53)), (1, .int a0), (2, .int a1), (3, .int a2)]) hx hb dX8_gainOf_7 hl (by decide) rfl (fun ls hl => ?_)
  refine lv_aload_n (pc := 9) hx hb dX8_gainOf_9 rfl (lv_at hl 1 rfl) ?_
  refine lv_iconst (pc := 10) (v := 1) hx hb dX8_gainOf_10 (by decide) ?_
  refine lv_iload (pc := 11) hx hb dX8_gainOf_11 (lv_at hl 0 rfl) ?_
  refine g_if_lt (pc := 13) (tgt := 20) E dX8_gainOf_13 (by decide) hf (fun hf => ?_) (fun hf => ?_)
  · refine lv_iconst (pc := 20) (v := 0) hx hb dX8_gainOf_20 (by decide) ?_
    refine lv_iload (pc := 21) hx hb dX8_gainOf_21 (lv_at hl 0 rfl) ?_
    refine lv_aload_n (pc := 23) hx hb dX8_gainOf_23 rfl (lv_at hl 1 rfl) ?_
    refine g_getr (pc := 24) E Y 53 0 54 S_53 rfl V_8 (by decide) AL_X8 q_358 dX8_gainOf_24 ?_
    refine lv_iconst (pc := 27) (v := 3) hx hb dX8_gainOf_27 (by decide) ?_
    refine g_iald (pc := 28) E Y 54 S_54 dX8_gainOf_28 hf (fun v3 hf => ?_)
    refine g_callVi (pc := 29) E Y 53 S_53 V_8 o_X8_gives q_710 [.int 1, .int 0, .int v1, .int v3] rfl rfl (hR_of (by omega) (by decide)) hl.1 (rest := []) rfl (Nat.le_of_ble_eq_true rfl) dX8_gainOf_29 (fun z hz => m_X8_gives_53 hz) hf (fun v4 μ5 H locs hf Y => ?_)
    exact g_iret (pc := 32) E Y hr hk dX8_gainOf_32 hf
  · refine lv_iconst (pc := 16) (v := 1) hx hb dX8_gainOf_16 (by decide) ?_
    refine lv_goto (pc := 17) (tgt := 21) hx hb dX8_gainOf_17 (by decide) ?_
    refine lv_iload (pc := 21) hx hb dX8_gainOf_21 (lv_at hl 0 rfl) ?_
    refine lv_aload_n (pc := 23) hx hb dX8_gainOf_23 rfl (lv_at hl 1 rfl) ?_
    refine g_getr (pc := 24) E Y 53 0 54 S_53 rfl V_8 (by decide) AL_X8 q_358 dX8_gainOf_24 ?_
    refine lv_iconst (pc := 27) (v := 3) hx hb dX8_gainOf_27 (by decide) ?_
    refine g_iald (pc := 28) E Y 54 S_54 dX8_gainOf_28 hf (fun v6 hf => ?_)
    refine g_callVi (pc := 29) E Y 53 S_53 V_8 o_X8_gives q_710 [.int 1, .int 1, .int v1, .int v6] rfl rfl (hR_of (by omega) (by decide)) hl.1 (rest := []) rfl (Nat.le_of_ble_eq_true rfl) dX8_gainOf_29 (fun z hz => m_X8_gives_53 hz) hf (fun v7 μ8 H locs hf Y => ?_)
    exact g_iret (pc := 32) E Y hr hk dX8_gainOf_32 hf
def f_X8_isKm (a0 : Int32) (σ : Mem) : Res := bd (f_X8_in a0 0 69 σ) fun v1 μ2 => gb v1 (some (v1, μ2))
set_option maxHeartbeats 4000000 in
set_option maxRecDepth 100000 in
theorem m_X8_isKm {l : Launch} {σ : Mem} {Z : Int32 × Mem} {a0 : Int32} (hf : f_X8_isKm a0 σ = some Z) : CT l yX8_isKm cX8_isKm 1 (some .boolean) 1 (fun _ => [.int a0]) σ Z := by
  refine g_openT RX8 (by decide) rfl (fun _ => Nat.le_of_ble_eq_true rfl) (fun p e s m below meth c D cI cB ad st ls E Y hr hk hl => ?_)
  have hx := E.1.1
  have hb := E.1.2.1
  have hl : lv_has ls 1 [(0, .int a0)] := hl
  unfold f_X8_isKm at hf
  refine lv_iload_n (pc := 0) hx hb dX8_isKm_0 rfl (lv_at hl 0 rfl) ?_
  refine lv_iconst (pc := 1) (v := 0) hx hb dX8_isKm_1 (by decide) ?_
  refine lv_bipush (pc := 2) (v := 69) hx hb dX8_isKm_2 (by decide) ?_
  refine g_callSi (pc := 4) E Y o_X8_in q_707 [.int a0, .int 0, .int 69] rfl rfl (hR_of (by omega) (by decide)) hl.1 (rest := []) rfl (Nat.le_of_ble_eq_true rfl) dX8_isKm_4 (fun z hz => m_X8_in hz) hf (fun v1 μ2 H locs hf Y => ?_)
  exact g_zret (pc := 7) E Y hr hk dX8_isKm_7 hf
def f_X8_pitch_53 (a0 : Int32) (a1 : Int32) (σ : Mem) : Res := bd (f_X8_isKm a0 σ) fun v1 μ2 => if v1 = 0 then (bd (f_X8_error_53 (-1000000001) μ2) fun v3 μ4 => some (v3, μ4)) else (bd (f_X8_in a1 0 9 μ2) fun v5 μ6 => if v5 = 0 then (bd (f_X8_error_53 (-1000000001) μ6) fun v30 μ31 => some (v30, μ31)) else (gi 7 386 <| nm (μ6 54 (7 : Int32).toNatClampNeg) fun (v7 : Int32) => if v7 = 6 then (bd (f_X8_error_53 (-1000000004) μ6) fun v28 μ29 => some (v28, μ29)) else (gi 7 386 <| nm (μ6 54 (7 : Int32).toNatClampNeg) fun (v8 : Int32) => nm (v8 + 1) fun (v9 : Int32) => gi 7 386 <| nm (mset μ6 54 (7 : Int32).toNatClampNeg v9) fun (μ10 : Mem) => nm (4 * v7) fun (v11 : Int32) => nm (11 + v11) fun (v12 : Int32) => gz 10 <| nm (a0 / 10) fun (v13 : Int32) => gi v12 386 <| nm (mset μ10 54 v12.toNatClampNeg v13) fun (μ14 : Mem) => nm (4 * v7) fun (v15 : Int32) => nm (11 + v15) fun (v16 : Int32) => nm (v16 + 1) fun (v17 : Int32) => gz 10 <| nm (a0 - a0 / 10 * 10) fun (v18 : Int32) => gi v17 386 <| nm (mset μ14 54 v17.toNatClampNeg v18) fun (μ19 : Mem) => nm (4 * v7) fun (v20 : Int32) => nm (11 + v20) fun (v21 : Int32) => nm (v21 + 2) fun (v22 : Int32) => gi v22 386 <| nm (mset μ19 54 v22.toNatClampNeg a1) fun (μ23 : Mem) => nm (4 * v7) fun (v24 : Int32) => nm (11 + v24) fun (v25 : Int32) => nm (v25 + 3) fun (v26 : Int32) => gi v26 386 <| nm (mset μ23 54 v26.toNatClampNeg 0) fun (μ27 : Mem) => some (v7, μ27))))
set_option maxHeartbeats 4000000 in
set_option maxRecDepth 100000 in
theorem m_X8_pitch_53 {l : Launch} {σ : Mem} {Z : Int32 × Mem} {a0 : Int32} {a1 : Int32} (hf : f_X8_pitch_53 a0 a1 σ = some Z) : CT l yX8_pitch cX8_pitch 4 (some .int) 2 (fun ad => [.ref (ad 53), .int a0, .int a1]) σ Z := by
  refine g_openT RX8 (by decide) rfl (fun _ => Nat.le_of_ble_eq_true rfl) (fun p e s m below meth c D cI cB ad st ls E Y hr hk hl => ?_)
  have hx := E.1.1
  have hb := E.1.2.1
  have hl : lv_has ls 4 [(0, .ref (ad 53)), (1, .int a0), (2, .int a1)] := hl
  unfold f_X8_pitch_53 at hf
  refine lv_iload_n (pc := 0) hx hb dX8_pitch_0 rfl (lv_at hl 1 rfl) ?_
  refine g_callSi (pc := 1) E Y o_X8_isKm q_715 [.int a0] rfl rfl (hR_of (by omega) (by decide)) hl.1 (rest := []) rfl (Nat.le_of_ble_eq_true rfl) dX8_pitch_1 (fun z hz => m_X8_isKm hz) hf (fun v1 μ2 H locs hf Y => ?_)
  refine g_if_eq (pc := 4) (tgt := 17) E dX8_pitch_4 (by decide) hf (fun hf => ?_) (fun hf => ?_)
  · refine lv_aload_n (pc := 17) hx hb dX8_pitch_17 rfl (lv_at hl 0 rfl) ?_
    refine lv_ldc (pc := 18) (v := (-1000000001)) hx hb E.1.2.2.2.1 (E.1.2.2.2.2 _ q_238) dX8_pitch_18 ?_
    refine g_callVi (pc := 20) E Y 53 S_53 V_8 o_X8_error q_716 [.int (-1000000001)] rfl rfl (hR_of (by omega) (by decide)) hl.1 (rest := []) rfl (Nat.le_of_ble_eq_true rfl) dX8_pitch_20 (fun z hz => m_X8_error_53 hz) hf (fun v3 μ4 H locs hf Y => ?_)
    exact g_iret (pc := 23) E Y hr hk dX8_pitch_23 hf
  · refine lv_iload_n (pc := 7) hx hb dX8_pitch_7 rfl (lv_at hl 2 rfl) ?_
    refine lv_iconst (pc := 8) (v := 0) hx hb dX8_pitch_8 (by decide) ?_
    refine lv_bipush (pc := 9) (v := 9) hx hb dX8_pitch_9 (by decide) ?_
    refine g_callSi (pc := 11) E Y o_X8_in q_707 [.int a1, .int 0, .int 9] rfl rfl (hR_of (by omega) (by decide)) hl.1 (rest := []) rfl (Nat.le_of_ble_eq_true rfl) dX8_pitch_11 (fun z hz => m_X8_in hz) hf (fun v5 μ6 H locs hf Y => ?_)
    refine g_if_ne (pc := 14) (tgt := 24) E dX8_pitch_14 (by decide) hf (fun hf => ?_) (fun hf => ?_)
    · refine lv_aload_n (pc := 24) hx hb dX8_pitch_24 rfl (lv_at hl 0 rfl) ?_
      refine g_getr (pc := 25) E Y 53 0 54 S_53 rfl V_8 (by decide) AL_X8 q_358 dX8_pitch_25 ?_
      refine lv_bipush (pc := 28) (v := 7) hx hb dX8_pitch_28 (by decide) ?_
      refine g_iald (pc := 30) E Y 54 S_54 dX8_pitch_30 hf (fun v7 hf => ?_)
      refine lv_istore_n (pc := 31) (lv' := [(3, .int v7), (0, .ref (ad 53)), (1, .int a0), (2, .int a1)]) hx hb dX8_pitch_31 rfl hl (by decide) rfl (fun ls hl => ?_)
      refine lv_iload_n (pc := 32) hx hb dX8_pitch_32 rfl (lv_at hl 0 rfl) ?_
      refine lv_bipush (pc := 33) (v := 6) hx hb dX8_pitch_33 (by decide) ?_
      refine g_icmp_ne (pc := 35) (tgt := 45) E dX8_pitch_35 (by decide) hf (fun hf => ?_) (fun hf => ?_)
      · refine lv_aload_n (pc := 45) hx hb dX8_pitch_45 rfl (lv_at hl 1 rfl) ?_
        refine g_getr (pc := 46) E Y 53 0 54 S_53 rfl V_8 (by decide) AL_X8 q_358 dX8_pitch_46 ?_
        refine lv_bipush (pc := 49) (v := 7) hx hb dX8_pitch_49 (by decide) ?_
        refine lv_dup2_11 (pc := 51) hx hb dX8_pitch_51 rfl rfl ?_
        refine g_iald (pc := 52) E Y 54 S_54 dX8_pitch_52 hf (fun v8 hf => ?_)
        refine lv_iconst (pc := 53) (v := 1) hx hb dX8_pitch_53 (by decide) ?_
        refine g_iadd (pc := 54) E dX8_pitch_54 hf (fun v9 hf => ?_)
        refine g_iast (pc := 55) E Y 54 S_54 dX8_pitch_55 hf (fun μ10 H locs hf Y => ?_)
        refine lv_aload_n (pc := 56) hx hb dX8_pitch_56 rfl (lv_at hl 1 rfl) ?_
        refine g_getr (pc := 57) E Y 53 0 54 S_53 rfl V_8 (by decide) AL_X8 q_358 dX8_pitch_57 ?_
        refine lv_bipush (pc := 60) (v := 11) hx hb dX8_pitch_60 (by decide) ?_
        refine lv_iconst (pc := 62) (v := 4) hx hb dX8_pitch_62 (by decide) ?_
        refine lv_iload_n (pc := 63) hx hb dX8_pitch_63 rfl (lv_at hl 0 rfl) ?_
        refine g_imul (pc := 64) E dX8_pitch_64 hf (fun v11 hf => ?_)
        refine g_iadd (pc := 65) E dX8_pitch_65 hf (fun v12 hf => ?_)
        refine lv_iload_n (pc := 66) hx hb dX8_pitch_66 rfl (lv_at hl 2 rfl) ?_
        refine lv_bipush (pc := 67) (v := 10) hx hb dX8_pitch_67 (by decide) ?_
        refine g_idiv (pc := 69) E dX8_pitch_69 hf (fun v13 hf => ?_)
        refine g_iast (pc := 70) E Y 54 S_54 dX8_pitch_70 hf (fun μ14 H locs hf Y => ?_)
        refine lv_aload_n (pc := 71) hx hb dX8_pitch_71 rfl (lv_at hl 1 rfl) ?_
        refine g_getr (pc := 72) E Y 53 0 54 S_53 rfl V_8 (by decide) AL_X8 q_358 dX8_pitch_72 ?_
        refine lv_bipush (pc := 75) (v := 11) hx hb dX8_pitch_75 (by decide) ?_
        refine lv_iconst (pc := 77) (v := 4) hx hb dX8_pitch_77 (by decide) ?_
        refine lv_iload_n (pc := 78) hx hb dX8_pitch_78 rfl (lv_at hl 0 rfl) ?_
        refine g_imul (pc := 79) E dX8_pitch_79 hf (fun v15 hf => ?_)
        refine g_iadd (pc := 80) E dX8_pitch_80 hf (fun v16 hf => ?_)
        refine lv_iconst (pc := 81) (v := 1) hx hb dX8_pitch_81 (by decide) ?_
        refine g_iadd (pc := 82) E dX8_pitch_82 hf (fun v17 hf => ?_)
        refine lv_iload_n (pc := 83) hx hb dX8_pitch_83 rfl (lv_at hl 2 rfl) ?_
        refine lv_bipush (pc := 84) (v := 10) hx hb dX8_pitch_84 (by decide) ?_
        refine g_irem (pc := 86) E dX8_pitch_86 hf (fun v18 hf => ?_)
        refine g_iast (pc := 87) E Y 54 S_54 dX8_pitch_87 hf (fun μ19 H locs hf Y => ?_)
        refine lv_aload_n (pc := 88) hx hb dX8_pitch_88 rfl (lv_at hl 1 rfl) ?_
        refine g_getr (pc := 89) E Y 53 0 54 S_53 rfl V_8 (by decide) AL_X8 q_358 dX8_pitch_89 ?_
        refine lv_bipush (pc := 92) (v := 11) hx hb dX8_pitch_92 (by decide) ?_
        refine lv_iconst (pc := 94) (v := 4) hx hb dX8_pitch_94 (by decide) ?_
        refine lv_iload_n (pc := 95) hx hb dX8_pitch_95 rfl (lv_at hl 0 rfl) ?_
        refine g_imul (pc := 96) E dX8_pitch_96 hf (fun v20 hf => ?_)
        refine g_iadd (pc := 97) E dX8_pitch_97 hf (fun v21 hf => ?_)
        refine lv_iconst (pc := 98) (v := 2) hx hb dX8_pitch_98 (by decide) ?_
        refine g_iadd (pc := 99) E dX8_pitch_99 hf (fun v22 hf => ?_)
        refine lv_iload_n (pc := 100) hx hb dX8_pitch_100 rfl (lv_at hl 3 rfl) ?_
        refine g_iast (pc := 101) E Y 54 S_54 dX8_pitch_101 hf (fun μ23 H locs hf Y => ?_)
        refine lv_aload_n (pc := 102) hx hb dX8_pitch_102 rfl (lv_at hl 1 rfl) ?_
        refine g_getr (pc := 103) E Y 53 0 54 S_53 rfl V_8 (by decide) AL_X8 q_358 dX8_pitch_103 ?_
        refine lv_bipush (pc := 106) (v := 11) hx hb dX8_pitch_106 (by decide) ?_
        refine lv_iconst (pc := 108) (v := 4) hx hb dX8_pitch_108 (by decide) ?_
        refine lv_iload_n (pc := 109) hx hb dX8_pitch_109 rfl (lv_at hl 0 rfl) ?_
        refine g_imul (pc := 110) E dX8_pitch_110 hf (fun v24 hf => ?_)
        refine g_iadd (pc := 111) E dX8_pitch_111 hf (fun v25 hf => ?_)
        refine lv_iconst (pc := 112) (v := 3) hx hb dX8_pitch_112 (by decide) ?_
        refine g_iadd (pc := 113) E dX8_pitch_113 hf (fun v26 hf => ?_)
        refine lv_iconst (pc := 114) (v := 0) hx hb dX8_pitch_114 (by decide) ?_
        refine g_iast (pc := 115) E Y 54 S_54 dX8_pitch_115 hf (fun μ27 H locs hf Y => ?_)
        refine lv_iload_n (pc := 116) hx hb dX8_pitch_116 rfl (lv_at hl 0 rfl) ?_
        exact g_iret (pc := 117) E Y hr hk dX8_pitch_117 hf
      · refine lv_aload_n (pc := 38) hx hb dX8_pitch_38 rfl (lv_at hl 1 rfl) ?_
        refine lv_ldc (pc := 39) (v := (-1000000004)) hx hb E.1.2.2.2.1 (E.1.2.2.2.2 _ q_239) dX8_pitch_39 ?_
        refine g_callVi (pc := 41) E Y 53 S_53 V_8 o_X8_error q_716 [.int (-1000000004)] rfl rfl (hR_of (by omega) (by decide)) hl.1 (rest := []) rfl (Nat.le_of_ble_eq_true rfl) dX8_pitch_41 (fun z hz => m_X8_error_53 hz) hf (fun v28 μ29 H locs hf Y => ?_)
        exact g_iret (pc := 44) E Y hr hk dX8_pitch_44 hf
    · refine lv_aload_n (pc := 17) hx hb dX8_pitch_17 rfl (lv_at hl 0 rfl) ?_
      refine lv_ldc (pc := 18) (v := (-1000000001)) hx hb E.1.2.2.2.1 (E.1.2.2.2.2 _ q_238) dX8_pitch_18 ?_
      refine g_callVi (pc := 20) E Y 53 S_53 V_8 o_X8_error q_716 [.int (-1000000001)] rfl rfl (hR_of (by omega) (by decide)) hl.1 (rest := []) rfl (Nat.le_of_ble_eq_true rfl) dX8_pitch_20 (fun z hz => m_X8_error_53 hz) hf (fun v30 μ31 H locs hf Y => ?_)
      exact g_iret (pc := 23) E Y hr hk dX8_pitch_23 hf
def f_X8_pitchIs_53 (a0 : Int32) (a1 : Int32) (σ : Mem) : Res := bd (f_X8_isPitch_53 a0 σ) fun v1 μ2 => if v1 = 0 then (bd (f_X8_error_53 (-1000000001) μ2) fun v3 μ4 => some (v3, μ4)) else (bd (f_X8_in a1 0 5 μ2) fun v5 μ6 => if v5 = 0 then (bd (f_X8_error_53 (-1000000001) μ6) fun v13 μ14 => some (v13, μ14)) else (if 4 ≤ a1 then (if a1 = 4 then (bd (f_X8_airOf_53 a0 μ6) fun v9 μ10 => some (v9, μ10)) else (bd (f_X8_costsOf_53 a0 μ6) fun v7 μ8 => some (v7, μ8))) else (bd (f_X8_of_53 a0 a1 μ6) fun v11 μ12 => some (v11, μ12))))
set_option maxHeartbeats 4000000 in
set_option maxRecDepth 100000 in
theorem m_X8_pitchIs_53 {l : Launch} {σ : Mem} {Z : Int32 × Mem} {a0 : Int32} {a1 : Int32} (hf : f_X8_pitchIs_53 a0 a1 σ = some Z) : CT l yX8_pitchIs cX8_pitchIs 3 (some .int) 4 (fun ad => [.ref (ad 53), .int a0, .int a1]) σ Z := by
  refine g_openT RX8 (by decide) rfl (fun _ => Nat.le_of_ble_eq_true rfl) (fun p e s m below meth c D cI cB ad st ls E Y hr hk hl => ?_)
  have hx := E.1.1
  have hb := E.1.2.1
  have hl : lv_has ls 3 [(0, .ref (ad 53)), (1, .int a0), (2, .int a1)] := hl
  unfold f_X8_pitchIs_53 at hf
  refine lv_aload_n (pc := 0) hx hb dX8_pitchIs_0 rfl (lv_at hl 0 rfl) ?_
  refine lv_iload_n (pc := 1) hx hb dX8_pitchIs_1 rfl (lv_at hl 1 rfl) ?_
  refine g_callVi (pc := 2) E Y 53 S_53 V_8 o_X8_isPitch q_717 [.int a0] rfl rfl (hR_of (by omega) (by decide)) hl.1 (rest := []) rfl (Nat.le_of_ble_eq_true rfl) dX8_pitchIs_2 (fun z hz => m_X8_isPitch_53 hz) hf (fun v1 μ2 H locs hf Y => ?_)
  refine g_if_eq (pc := 5) (tgt := 17) E dX8_pitchIs_5 (by decide) hf (fun hf => ?_) (fun hf => ?_)
  · refine lv_aload_n (pc := 17) hx hb dX8_pitchIs_17 rfl (lv_at hl 0 rfl) ?_
    refine lv_ldc (pc := 18) (v := (-1000000001)) hx hb E.1.2.2.2.1 (E.1.2.2.2.2 _ q_238) dX8_pitchIs_18 ?_
    refine g_callVi (pc := 20) E Y 53 S_53 V_8 o_X8_error q_716 [.int (-1000000001)] rfl rfl (hR_of (by omega) (by decide)) hl.1 (rest := []) rfl (Nat.le_of_ble_eq_true rfl) dX8_pitchIs_20 (fun z hz => m_X8_error_53 hz) hf (fun v3 μ4 H locs hf Y => ?_)
    exact g_iret (pc := 23) E Y hr hk dX8_pitchIs_23 hf
  · refine lv_iload_n (pc := 8) hx hb dX8_pitchIs_8 rfl (lv_at hl 2 rfl) ?_
    refine lv_iconst (pc := 9) (v := 0) hx hb dX8_pitchIs_9 (by decide) ?_
    refine lv_iconst (pc := 10) (v := 5) hx hb dX8_pitchIs_10 (by decide) ?_
    refine g_callSi (pc := 11) E Y o_X8_in q_707 [.int a1, .int 0, .int 5] rfl rfl (hR_of (by omega) (by decide)) hl.1 (rest := []) rfl (Nat.le_of_ble_eq_true rfl) dX8_pitchIs_11 (fun z hz => m_X8_in hz) hf (fun v5 μ6 H locs hf Y => ?_)
    refine g_if_ne (pc := 14) (tgt := 24) E dX8_pitchIs_14 (by decide) hf (fun hf => ?_) (fun hf => ?_)
    · refine lv_iload_n (pc := 24) hx hb dX8_pitchIs_24 rfl (lv_at hl 2 rfl) ?_
      refine lv_iconst (pc := 25) (v := 4) hx hb dX8_pitchIs_25 (by decide) ?_
      refine g_icmp_ge (pc := 26) (tgt := 38) E dX8_pitchIs_26 (by decide) hf (fun hf => ?_) (fun hf => ?_)
      · refine lv_iload_n (pc := 38) hx hb dX8_pitchIs_38 rfl (lv_at hl 2 rfl) ?_
        refine lv_iconst (pc := 39) (v := 4) hx hb dX8_pitchIs_39 (by decide) ?_
        refine g_icmp_ne (pc := 40) (tgt := 51) E dX8_pitchIs_40 (by decide) hf (fun hf => ?_) (fun hf => ?_)
        · refine lv_aload_n (pc := 51) hx hb dX8_pitchIs_51 rfl (lv_at hl 0 rfl) ?_
          refine lv_iload_n (pc := 52) hx hb dX8_pitchIs_52 rfl (lv_at hl 1 rfl) ?_
          refine g_callVi (pc := 53) E Y 53 S_53 V_8 o_X8_costsOf q_718 [.int a0] rfl rfl (hR_of (by omega) (by decide)) hl.1 (rest := []) rfl (Nat.le_of_ble_eq_true rfl) dX8_pitchIs_53 (fun z hz => m_X8_costsOf_53 hz) hf (fun v7 μ8 H locs hf Y => ?_)
          exact g_iret (pc := 56) E Y hr hk dX8_pitchIs_56 hf
        · refine lv_aload_n (pc := 43) hx hb dX8_pitchIs_43 rfl (lv_at hl 0 rfl) ?_
          refine lv_iload_n (pc := 44) hx hb dX8_pitchIs_44 rfl (lv_at hl 1 rfl) ?_
          refine g_callVi (pc := 45) E Y 53 S_53 V_8 o_X8_airOf q_712 [.int a0] rfl rfl (hR_of (by omega) (by decide)) hl.1 (rest := []) rfl (Nat.le_of_ble_eq_true rfl) dX8_pitchIs_45 (fun z hz => m_X8_airOf_53 hz) hf (fun v9 μ10 H locs hf Y => ?_)
          refine lv_goto (pc := 48) (tgt := 56) hx hb dX8_pitchIs_48 (by decide) ?_
          exact g_iret (pc := 56) E Y hr hk dX8_pitchIs_56 hf
      · refine lv_aload_n (pc := 29) hx hb dX8_pitchIs_29 rfl (lv_at hl 0 rfl) ?_
        refine lv_iload_n (pc := 30) hx hb dX8_pitchIs_30 rfl (lv_at hl 1 rfl) ?_
        refine lv_iload_n (pc := 31) hx hb dX8_pitchIs_31 rfl (lv_at hl 2 rfl) ?_
        refine g_callVi (pc := 32) E Y 53 S_53 V_8 o_X8_of q_708 [.int a0, .int a1] rfl rfl (hR_of (by omega) (by decide)) hl.1 (rest := []) rfl (Nat.le_of_ble_eq_true rfl) dX8_pitchIs_32 (fun z hz => m_X8_of_53 hz) hf (fun v11 μ12 H locs hf Y => ?_)
        refine lv_goto (pc := 35) (tgt := 56) hx hb dX8_pitchIs_35 (by decide) ?_
        exact g_iret (pc := 56) E Y hr hk dX8_pitchIs_56 hf
    · refine lv_aload_n (pc := 17) hx hb dX8_pitchIs_17 rfl (lv_at hl 0 rfl) ?_
      refine lv_ldc (pc := 18) (v := (-1000000001)) hx hb E.1.2.2.2.1 (E.1.2.2.2.2 _ q_238) dX8_pitchIs_18 ?_
      refine g_callVi (pc := 20) E Y 53 S_53 V_8 o_X8_error q_716 [.int (-1000000001)] rfl rfl (hR_of (by omega) (by decide)) hl.1 (rest := []) rfl (Nat.le_of_ble_eq_true rfl) dX8_pitchIs_20 (fun z hz => m_X8_error_53 hz) hf (fun v13 μ14 H locs hf Y => ?_)
      exact g_iret (pc := 23) E Y hr hk dX8_pitchIs_23 hf
def f_X8_become_53 (a0 : Int32) (a1 : Int32) (σ : Mem) : Res := bd (f_X8_isPitch_53 a0 σ) fun v1 μ2 => if v1 = 0 then (bd (f_X8_error_53 (-1000000001) μ2) fun v3 μ4 => some (v3, μ4)) else (bd (f_X8_isKm a1 μ2) fun v5 μ6 => if v5 = 0 then (bd (f_X8_error_53 (-1000000001) μ6) fun v17 μ18 => some (v17, μ18)) else (nm (4 * a0) fun (v7 : Int32) => nm (11 + v7) fun (v8 : Int32) => nm (v8 + 1) fun (v9 : Int32) => gz 10 <| nm (a1 - a1 / 10 * 10) fun (v10 : Int32) => gi v9 386 <| nm (mset μ6 54 v9.toNatClampNeg v10) fun (μ11 : Mem) => nm (4 * a0) fun (v12 : Int32) => nm (11 + v12) fun (v13 : Int32) => gz 10 <| nm (a1 / 10) fun (v14 : Int32) => bd (f_X8_becomes_53 v13 v14 μ11) fun v15 μ16 => some (v15, μ16)))
set_option maxHeartbeats 4000000 in
set_option maxRecDepth 100000 in
theorem m_X8_become_53 {l : Launch} {σ : Mem} {Z : Int32 × Mem} {a0 : Int32} {a1 : Int32} (hf : f_X8_become_53 a0 a1 σ = some Z) : CT l yX8_become cX8_become 3 (some .int) 2 (fun ad => [.ref (ad 53), .int a0, .int a1]) σ Z := by
  refine g_openT RX8 (by decide) rfl (fun _ => Nat.le_of_ble_eq_true rfl) (fun p e s m below meth c D cI cB ad st ls E Y hr hk hl => ?_)
  have hx := E.1.1
  have hb := E.1.2.1
  have hl : lv_has ls 3 [(0, .ref (ad 53)), (1, .int a0), (2, .int a1)] := hl
  unfold f_X8_become_53 at hf
  refine lv_aload_n (pc := 0) hx hb dX8_become_0 rfl (lv_at hl 0 rfl) ?_
  refine lv_iload_n (pc := 1) hx hb dX8_become_1 rfl (lv_at hl 1 rfl) ?_
  refine g_callVi (pc := 2) E Y 53 S_53 V_8 o_X8_isPitch q_717 [.int a0] rfl rfl (hR_of (by omega) (by decide)) hl.1 (rest := []) rfl (Nat.le_of_ble_eq_true rfl) dX8_become_2 (fun z hz => m_X8_isPitch_53 hz) hf (fun v1 μ2 H locs hf Y => ?_)
  refine g_if_eq (pc := 5) (tgt := 15) E dX8_become_5 (by decide) hf (fun hf => ?_) (fun hf => ?_)
  · refine lv_aload_n (pc := 15) hx hb dX8_become_15 rfl (lv_at hl 0 rfl) ?_
    refine lv_ldc (pc := 16) (v := (-1000000001)) hx hb E.1.2.2.2.1 (E.1.2.2.2.2 _ q_238) dX8_become_16 ?_
    refine g_callVi (pc := 18) E Y 53 S_53 V_8 o_X8_error q_716 [.int (-1000000001)] rfl rfl (hR_of (by omega) (by decide)) hl.1 (rest := []) rfl (Nat.le_of_ble_eq_true rfl) dX8_become_18 (fun z hz => m_X8_error_53 hz) hf (fun v3 μ4 H locs hf Y => ?_)
    exact g_iret (pc := 21) E Y hr hk dX8_become_21 hf
  · refine lv_iload_n (pc := 8) hx hb dX8_become_8 rfl (lv_at hl 2 rfl) ?_
    refine g_callSi (pc := 9) E Y o_X8_isKm q_715 [.int a1] rfl rfl (hR_of (by omega) (by decide)) hl.1 (rest := []) rfl (Nat.le_of_ble_eq_true rfl) dX8_become_9 (fun z hz => m_X8_isKm hz) hf (fun v5 μ6 H locs hf Y => ?_)
    refine g_if_ne (pc := 12) (tgt := 22) E dX8_become_12 (by decide) hf (fun hf => ?_) (fun hf => ?_)
    · refine lv_aload_n (pc := 22) hx hb dX8_become_22 rfl (lv_at hl 0 rfl) ?_
      refine g_getr (pc := 23) E Y 53 0 54 S_53 rfl V_8 (by decide) AL_X8 q_358 dX8_become_23 ?_
      refine lv_bipush (pc := 26) (v := 11) hx hb dX8_become_26 (by decide) ?_
      refine lv_iconst (pc := 28) (v := 4) hx hb dX8_become_28 (by decide) ?_
      refine lv_iload_n (pc := 29) hx hb dX8_become_29 rfl (lv_at hl 1 rfl) ?_
      refine g_imul (pc := 30) E dX8_become_30 hf (fun v7 hf => ?_)
      refine g_iadd (pc := 31) E dX8_become_31 hf (fun v8 hf => ?_)
      refine lv_iconst (pc := 32) (v := 1) hx hb dX8_become_32 (by decide) ?_
      refine g_iadd (pc := 33) E dX8_become_33 hf (fun v9 hf => ?_)
      refine lv_iload_n (pc := 34) hx hb dX8_become_34 rfl (lv_at hl 2 rfl) ?_
      refine lv_bipush (pc := 35) (v := 10) hx hb dX8_become_35 (by decide) ?_
      refine g_irem (pc := 37) E dX8_become_37 hf (fun v10 hf => ?_)
      refine g_iast (pc := 38) E Y 54 S_54 dX8_become_38 hf (fun μ11 H locs hf Y => ?_)
      refine lv_aload_n (pc := 39) hx hb dX8_become_39 rfl (lv_at hl 0 rfl) ?_
      refine lv_bipush (pc := 40) (v := 11) hx hb dX8_become_40 (by decide) ?_
      refine lv_iconst (pc := 42) (v := 4) hx hb dX8_become_42 (by decide) ?_
      refine lv_iload_n (pc := 43) hx hb dX8_become_43 rfl (lv_at hl 1 rfl) ?_
      refine g_imul (pc := 44) E dX8_become_44 hf (fun v12 hf => ?_)
      refine g_iadd (pc := 45) E dX8_become_45 hf (fun v13 hf => ?_)
      refine lv_iload_n (pc := 46) hx hb dX8_become_46 rfl (lv_at hl 2 rfl) ?_
      refine lv_bipush (pc := 47) (v := 10) hx hb dX8_become_47 (by decide) ?_
      refine g_idiv (pc := 49) E dX8_become_49 hf (fun v14 hf => ?_)
      refine g_callVi (pc := 50) E Y 53 S_53 V_8 o_X8_becomes q_719 [.int v13, .int v14] rfl rfl (hR_of (by omega) (by decide)) hl.1 (rest := []) rfl (Nat.le_of_ble_eq_true rfl) dX8_become_50 (fun z hz => m_X8_becomes_53 hz) hf (fun v15 μ16 H locs hf Y => ?_)
      exact g_iret (pc := 53) E Y hr hk dX8_become_53 hf
    · refine lv_aload_n (pc := 15) hx hb dX8_become_15 rfl (lv_at hl 0 rfl) ?_
      refine lv_ldc (pc := 16) (v := (-1000000001)) hx hb E.1.2.2.2.1 (E.1.2.2.2.2 _ q_238) dX8_become_16 ?_
      refine g_callVi (pc := 18) E Y 53 S_53 V_8 o_X8_error q_716 [.int (-1000000001)] rfl rfl (hR_of (by omega) (by decide)) hl.1 (rest := []) rfl (Nat.le_of_ble_eq_true rfl) dX8_become_18 (fun z hz => m_X8_error_53 hz) hf (fun v17 μ18 H locs hf Y => ?_)
      exact g_iret (pc := 21) E Y hr hk dX8_become_21 hf
def f_X8_as_53_L61 (x1 : Int32) (σ : Mem) : Res := if (1 : Int32) = 0 then (bd (f_X8_error_53 (-1000000005) σ) fun v9 μ10 => some (v9, μ10)) else (bd (f_X8_of_53 x1 1 σ) fun v11 μ12 => some (v11, μ12))
def f_X8_as_53_L65 (x1 : Int32) (σ : Mem) : Res := if (0 : Int32) = 0 then (bd (f_X8_error_53 (-1000000005) σ) fun v13 μ14 => some (v13, μ14)) else (bd (f_X8_of_53 x1 1 σ) fun v15 μ16 => some (v15, μ16))
def f_X8_as_53_L51 (x1 : Int32) (x2 : Int32) (x3 : Int32) (σ : Mem) : Res := if x2 = 2 then (if x3 = 5 then (f_X8_as_53_L61 x1 σ) else (f_X8_as_53_L65 x1 σ)) else (f_X8_as_53_L65 x1 σ)
def f_X8_as_53 (a0 : Int32) (a1 : Int32) (σ : Mem) : Res := bd (f_X8_isPitch_53 a0 σ) fun v1 μ2 => if v1 = 0 then (bd (f_X8_error_53 (-1000000001) μ2) fun v3 μ4 => some (v3, μ4)) else (bd (f_X8_in a1 0 6 μ2) fun v5 μ6 => if v5 = 0 then (bd (f_X8_error_53 (-1000000001) μ6) fun v17 μ18 => some (v17, μ18)) else (bd (f_X8_of_53 a0 0 μ6) fun v7 μ8 => if a1 = 0 then (f_X8_as_53_L61 a0 μ8) else (if a1 = v7 then (f_X8_as_53_L61 a0 μ8) else (if a1 = 1 then (if v7 = 4 then (f_X8_as_53_L61 a0 μ8) else (f_X8_as_53_L51 a0 a1 v7 μ8)) else (f_X8_as_53_L51 a0 a1 v7 μ8)))))
set_option maxHeartbeats 4000000 in
set_option maxRecDepth 100000 in
theorem m_X8_as_53 {l : Launch} {σ : Mem} {Z : Int32 × Mem} {a0 : Int32} {a1 : Int32} (hf : f_X8_as_53 a0 a1 σ = some Z) : CT l yX8_as cX8_as 5 (some .int) 2 (fun ad => [.ref (ad 53), .int a0, .int a1]) σ Z := by
  refine g_openT RX8 (by decide) rfl (fun _ => Nat.le_of_ble_eq_true rfl) (fun p e s m below meth c D cI cB ad st ls E Y hr hk hl => ?_)
  have hx := E.1.1
  have hb := E.1.2.1
  have hl : lv_has ls 5 [(0, .ref (ad 53)), (1, .int a0), (2, .int a1)] := hl
  have hL_61 : ∀ (x1 : Int32) (σ : Mem) (H : Heap) (locs : List Loc) (ls : Array Slot), f_X8_as_53_L61 x1 σ = some Z → Wo D cI cB ad (AA ad) σ s H locs → lv_has ls 5 [(0, .ref (ad 53)), (1, .int x1)] → W p l e (rmd 2) s m ([.ref (ad 53), .int a0, .int a1] : List Value).toArray below meth c H locs 0 0 (QT_ below D cI cB ad st Z ([.ref (ad 53), .int a0, .int a1] : List Value).toArray s) (F0 m 61 ls []) := by
    intro x1 σ H locs ls hf Y hl
    unfold f_X8_as_53_L61 at hf
    refine lv_iconst (pc := 61) (v := 1) hx hb dX8_as_61 (by decide) ?_
    refine lv_goto (pc := 62) (tgt := 66) hx hb dX8_as_62 (by decide) ?_
    refine lv_istore (pc := 66) (lv' := [(4, .int 1), (0, .ref (ad 53)), (1, .int x1)]) hx hb dX8_as_66 hl (by decide) rfl (fun ls hl => ?_)
    refine lv_iload (pc := 68) hx hb dX8_as_68 (lv_at hl 0 rfl) ?_
    refine g_if_eq (pc := 70) (tgt := 82) E dX8_as_70 (by decide) hf (fun hf => ?_) (fun hf => ?_)
    · refine lv_aload_n (pc := 82) hx hb dX8_as_82 rfl (lv_at hl 1 rfl) ?_
      refine lv_ldc (pc := 83) (v := (-1000000005)) hx hb E.1.2.2.2.1 (E.1.2.2.2.2 _ q_240) dX8_as_83 ?_
      refine g_callVi (pc := 85) E Y 53 S_53 V_8 o_X8_error q_716 [.int (-1000000005)] rfl rfl (hR_of (by omega) (by decide)) hl.1 (rest := []) rfl (Nat.le_of_ble_eq_true rfl) dX8_as_85 (fun z hz => m_X8_error_53 hz) hf (fun v9 μ10 H locs hf Y => ?_)
      exact g_iret (pc := 88) E Y hr hk dX8_as_88 hf
    · refine lv_aload_n (pc := 73) hx hb dX8_as_73 rfl (lv_at hl 1 rfl) ?_
      refine lv_iload_n (pc := 74) hx hb dX8_as_74 rfl (lv_at hl 2 rfl) ?_
      refine lv_iconst (pc := 75) (v := 1) hx hb dX8_as_75 (by decide) ?_
      refine g_callVi (pc := 76) E Y 53 S_53 V_8 o_X8_of q_708 [.int x1, .int 1] rfl rfl (hR_of (by omega) (by decide)) hl.1 (rest := []) rfl (Nat.le_of_ble_eq_true rfl) dX8_as_76 (fun z hz => m_X8_of_53 hz) hf (fun v11 μ12 H locs hf Y => ?_)
      refine lv_goto (pc := 79) (tgt := 88) hx hb dX8_as_79 (by decide) ?_
      exact g_iret (pc := 88) E Y hr hk dX8_as_88 hf
  have hL_65 : ∀ (x1 : Int32) (σ : Mem) (H : Heap) (locs : List Loc) (ls : Array Slot), f_X8_as_53_L65 x1 σ = some Z → Wo D cI cB ad (AA ad) σ s H locs → lv_has ls 5 [(0, .ref (ad 53)), (1, .int x1)] → W p l e (rmd 2) s m ([.ref (ad 53), .int a0, .int a1] : List Value).toArray below meth c H locs 0 0 (QT_ below D cI cB ad st Z ([.ref (ad 53), .int a0, .int a1] : List Value).toArray s) (F0 m 65 ls []) := by
    intro x1 σ H locs ls hf Y hl
    unfold f_X8_as_53_L65 at hf
    refine lv_iconst (pc := 65) (v := 0) hx hb dX8_as_65 (by decide) ?_
    refine lv_istore (pc := 66) (lv' := [(4, .int 0), (0, .ref (ad 53)), (1, .int x1)]) hx hb dX8_as_66 hl (by decide) rfl (fun ls hl => ?_)
    refine lv_iload (pc := 68) hx hb dX8_as_68 (lv_at hl 0 rfl) ?_
    refine g_if_eq (pc := 70) (tgt := 82) E dX8_as_70 (by decide) hf (fun hf => ?_) (fun hf => ?_)
    · refine lv_aload_n (pc := 82) hx hb dX8_as_82 rfl (lv_at hl 1 rfl) ?_
      refine lv_ldc (pc := 83) (v := (-1000000005)) hx hb E.1.2.2.2.1 (E.1.2.2.2.2 _ q_240) dX8_as_83 ?_
      refine g_callVi (pc := 85) E Y 53 S_53 V_8 o_X8_error q_716 [.int (-1000000005)] rfl rfl (hR_of (by omega) (by decide)) hl.1 (rest := []) rfl (Nat.le_of_ble_eq_true rfl) dX8_as_85 (fun z hz => m_X8_error_53 hz) hf (fun v13 μ14 H locs hf Y => ?_)
      exact g_iret (pc := 88) E Y hr hk dX8_as_88 hf
    · refine lv_aload_n (pc := 73) hx hb dX8_as_73 rfl (lv_at hl 1 rfl) ?_
      refine lv_iload_n (pc := 74) hx hb dX8_as_74 rfl (lv_at hl 2 rfl) ?_
      refine lv_iconst (pc := 75) (v := 1) hx hb dX8_as_75 (by decide) ?_
      refine g_callVi (pc := 76) E Y 53 S_53 V_8 o_X8_of q_708 [.int x1, .int 1] rfl rfl (hR_of (by omega) (by decide)) hl.1 (rest := []) rfl (Nat.le_of_ble_eq_true rfl) dX8_as_76 (fun z hz => m_X8_of_53 hz) hf (fun v15 μ16 H locs hf Y => ?_)
      refine lv_goto (pc := 79) (tgt := 88) hx hb dX8_as_79 (by decide) ?_
      exact g_iret (pc := 88) E Y hr hk dX8_as_88 hf
  have hL_51 : ∀ (x1 : Int32) (x2 : Int32) (x3 : Int32) (σ : Mem) (H : Heap) (locs : List Loc) (ls : Array Slot), f_X8_as_53_L51 x1 x2 x3 σ = some Z → Wo D cI cB ad (AA ad) σ s H locs → lv_has ls 5 [(0, .ref (ad 53)), (1, .int x1), (2, .int x2), (3, .int x3)] → W p l e (rmd 2) s m ([.ref (ad 53), .int a0, .int a1] : List Value).toArray below meth c H locs 0 0 (QT_ below D cI cB ad st Z ([.ref (ad 53), .int a0, .int a1] : List Value).toArray s) (F0 m 51 ls []) := by
    intro x1 x2 x3 σ H locs ls hf Y hl
    unfold f_X8_as_53_L51 at hf
    refine lv_iload_n (pc := 51) hx hb dX8_as_51 rfl (lv_at hl 2 rfl) ?_
    refine lv_iconst (pc := 52) (v := 2) hx hb dX8_as_52 (by decide) ?_
    refine g_icmp_ne (pc := 53) (tgt := 65) E dX8_as_53 (by decide) hf (fun hf => ?_) (fun hf => ?_)
    · exact hL_65 _ _ _ _ _ hf Y (lv_sub hl [0, 1] rfl)
    · refine lv_iload_n (pc := 56) hx hb dX8_as_56 rfl (lv_at hl 3 rfl) ?_
      refine lv_iconst (pc := 57) (v := 5) hx hb dX8_as_57 (by decide) ?_
      refine g_icmp_ne (pc := 58) (tgt := 65) E dX8_as_58 (by decide) hf (fun hf => ?_) (fun hf => ?_)
      · exact hL_65 _ _ _ _ _ hf Y (lv_sub hl [0, 1] rfl)
      · exact hL_61 _ _ _ _ _ hf Y (lv_sub hl [0, 1] rfl)
  unfold f_X8_as_53 at hf
  refine lv_aload_n (pc := 0) hx hb dX8_as_0 rfl (lv_at hl 0 rfl) ?_
  refine lv_iload_n (pc := 1) hx hb dX8_as_1 rfl (lv_at hl 1 rfl) ?_
  refine g_callVi (pc := 2) E Y 53 S_53 V_8 o_X8_isPitch q_717 [.int a0] rfl rfl (hR_of (by omega) (by decide)) hl.1 (rest := []) rfl (Nat.le_of_ble_eq_true rfl) dX8_as_2 (fun z hz => m_X8_isPitch_53 hz) hf (fun v1 μ2 H locs hf Y => ?_)
  refine g_if_eq (pc := 5) (tgt := 18) E dX8_as_5 (by decide) hf (fun hf => ?_) (fun hf => ?_)
  · refine lv_aload_n (pc := 18) hx hb dX8_as_18 rfl (lv_at hl 0 rfl) ?_
    refine lv_ldc (pc := 19) (v := (-1000000001)) hx hb E.1.2.2.2.1 (E.1.2.2.2.2 _ q_238) dX8_as_19 ?_
    refine g_callVi (pc := 21) E Y 53 S_53 V_8 o_X8_error q_716 [.int (-1000000001)] rfl rfl (hR_of (by omega) (by decide)) hl.1 (rest := []) rfl (Nat.le_of_ble_eq_true rfl) dX8_as_21 (fun z hz => m_X8_error_53 hz) hf (fun v3 μ4 H locs hf Y => ?_)
    exact g_iret (pc := 24) E Y hr hk dX8_as_24 hf
  · refine lv_iload_n (pc := 8) hx hb dX8_as_8 rfl (lv_at hl 2 rfl) ?_
    refine lv_iconst (pc := 9) (v := 0) hx hb dX8_as_9 (by decide) ?_
    refine lv_bipush (pc := 10) (v := 6) hx hb dX8_as_10 (by decide) ?_
    refine g_callSi (pc := 12) E Y o_X8_in q_707 [.int a1, .int 0, .int 6] rfl rfl (hR_of (by omega) (by decide)) hl.1 (rest := []) rfl (Nat.le_of_ble_eq_true rfl) dX8_as_12 (fun z hz => m_X8_in hz) hf (fun v5 μ6 H locs hf Y => ?_)
    refine g_if_ne (pc := 15) (tgt := 25) E dX8_as_15 (by decide) hf (fun hf => ?_) (fun hf => ?_)
    · refine lv_aload_n (pc := 25) hx hb dX8_as_25 rfl (lv_at hl 0 rfl) ?_
      refine lv_iload_n (pc := 26) hx hb dX8_as_26 rfl (lv_at hl 1 rfl) ?_
      refine lv_iconst (pc := 27) (v := 0) hx hb dX8_as_27 (by decide) ?_
      refine g_callVi (pc := 28) E Y 53 S_53 V_8 o_X8_of q_708 [.int a0, .int 0] rfl rfl (hR_of (by omega) (by decide)) hl.1 (rest := []) rfl (Nat.le_of_ble_eq_true rfl) dX8_as_28 (fun z hz => m_X8_of_53 hz) hf (fun v7 μ8 H locs hf Y => ?_)
      refine lv_istore_n (pc := 31) (lv' := [(3, .int v7), (0, .ref (ad 53)), (1, .int a0), (2, .int a1)]) hx hb dX8_as_31 rfl hl (by decide) rfl (fun ls hl => ?_)
      refine lv_iload_n (pc := 32) hx hb dX8_as_32 rfl (lv_at hl 3 rfl) ?_
      refine g_if_eq (pc := 33) (tgt := 61) E dX8_as_33 (by decide) hf (fun hf => ?_) (fun hf => ?_)
      · exact hL_61 _ _ _ _ _ hf Y (lv_sub hl [1, 2] rfl)
      · refine lv_iload_n (pc := 36) hx hb dX8_as_36 rfl (lv_at hl 3 rfl) ?_
        refine lv_iload_n (pc := 37) hx hb dX8_as_37 rfl (lv_at hl 0 rfl) ?_
        refine g_icmp_eq (pc := 38) (tgt := 61) E dX8_as_38 (by decide) hf (fun hf => ?_) (fun hf => ?_)
        · exact hL_61 _ _ _ _ _ hf Y (lv_sub hl [1, 2] rfl)
        · refine lv_iload_n (pc := 41) hx hb dX8_as_41 rfl (lv_at hl 3 rfl) ?_
          refine lv_iconst (pc := 42) (v := 1) hx hb dX8_as_42 (by decide) ?_
          refine g_icmp_ne (pc := 43) (tgt := 51) E dX8_as_43 (by decide) hf (fun hf => ?_) (fun hf => ?_)
          · exact hL_51 _ _ _ _ _ _ _ hf Y (lv_sub hl [1, 2, 3, 0] rfl)
          · refine lv_iload_n (pc := 46) hx hb dX8_as_46 rfl (lv_at hl 0 rfl) ?_
            refine lv_iconst (pc := 47) (v := 4) hx hb dX8_as_47 (by decide) ?_
            refine g_icmp_eq (pc := 48) (tgt := 61) E dX8_as_48 (by decide) hf (fun hf => ?_) (fun hf => ?_)
            · exact hL_61 _ _ _ _ _ hf Y (lv_sub hl [1, 2] rfl)
            · exact hL_51 _ _ _ _ _ _ _ hf Y (lv_sub hl [1, 2, 3, 0] rfl)
    · refine lv_aload_n (pc := 18) hx hb dX8_as_18 rfl (lv_at hl 0 rfl) ?_
      refine lv_ldc (pc := 19) (v := (-1000000001)) hx hb E.1.2.2.2.1 (E.1.2.2.2.2 _ q_238) dX8_as_19 ?_
      refine g_callVi (pc := 21) E Y 53 S_53 V_8 o_X8_error q_716 [.int (-1000000001)] rfl rfl (hR_of (by omega) (by decide)) hl.1 (rest := []) rfl (Nat.le_of_ble_eq_true rfl) dX8_as_21 (fun z hz => m_X8_error_53 hz) hf (fun v17 μ18 H locs hf Y => ?_)
      exact g_iret (pc := 24) E Y hr hk dX8_as_24 hf
def f_X8_weighs_53 (a0 : Int32) (a1 : Int32) (σ : Mem) : Res := bd (f_X8_isPitch_53 a0 σ) fun v1 μ2 => if v1 = 0 then (bd (f_X8_error_53 (-1000000001) μ2) fun v3 μ4 => some (v3, μ4)) else (bd (f_X8_in a1 0 9 μ2) fun v5 μ6 => if v5 = 0 then (bd (f_X8_error_53 (-1000000001) μ6) fun v7 μ8 => some (v7, μ8)) else (nm (4 * a0) fun (v9 : Int32) => nm (11 + v9) fun (v10 : Int32) => nm (v10 + 2) fun (v11 : Int32) => bd (f_X8_becomes_53 v11 a1 μ6) fun v12 μ13 => some (v12, μ13)))
set_option maxHeartbeats 4000000 in
set_option maxRecDepth 100000 in
theorem m_X8_weighs_53 {l : Launch} {σ : Mem} {Z : Int32 × Mem} {a0 : Int32} {a1 : Int32} (hf : f_X8_weighs_53 a0 a1 σ = some Z) : CT l yX8_weighs cX8_weighs 3 (some .int) 2 (fun ad => [.ref (ad 53), .int a0, .int a1]) σ Z := by
  refine g_openT RX8 (by decide) rfl (fun _ => Nat.le_of_ble_eq_true rfl) (fun p e s m below meth c D cI cB ad st ls E Y hr hk hl => ?_)
  have hx := E.1.1
  have hb := E.1.2.1
  have hl : lv_has ls 3 [(0, .ref (ad 53)), (1, .int a0), (2, .int a1)] := hl
  unfold f_X8_weighs_53 at hf
  refine lv_aload_n (pc := 0) hx hb dX8_weighs_0 rfl (lv_at hl 0 rfl) ?_
  refine lv_iload_n (pc := 1) hx hb dX8_weighs_1 rfl (lv_at hl 1 rfl) ?_
  refine g_callVi (pc := 2) E Y 53 S_53 V_8 o_X8_isPitch q_717 [.int a0] rfl rfl (hR_of (by omega) (by decide)) hl.1 (rest := []) rfl (Nat.le_of_ble_eq_true rfl) dX8_weighs_2 (fun z hz => m_X8_isPitch_53 hz) hf (fun v1 μ2 H locs hf Y => ?_)
  refine g_if_eq (pc := 5) (tgt := 34) E dX8_weighs_5 (by decide) hf (fun hf => ?_) (fun hf => ?_)
  · refine lv_aload_n (pc := 34) hx hb dX8_weighs_34 rfl (lv_at hl 0 rfl) ?_
    refine lv_ldc (pc := 35) (v := (-1000000001)) hx hb E.1.2.2.2.1 (E.1.2.2.2.2 _ q_238) dX8_weighs_35 ?_
    refine g_callVi (pc := 37) E Y 53 S_53 V_8 o_X8_error q_716 [.int (-1000000001)] rfl rfl (hR_of (by omega) (by decide)) hl.1 (rest := []) rfl (Nat.le_of_ble_eq_true rfl) dX8_weighs_37 (fun z hz => m_X8_error_53 hz) hf (fun v3 μ4 H locs hf Y => ?_)
    exact g_iret (pc := 40) E Y hr hk dX8_weighs_40 hf
  · refine lv_iload_n (pc := 8) hx hb dX8_weighs_8 rfl (lv_at hl 2 rfl) ?_
    refine lv_iconst (pc := 9) (v := 0) hx hb dX8_weighs_9 (by decide) ?_
    refine lv_bipush (pc := 10) (v := 9) hx hb dX8_weighs_10 (by decide) ?_
    refine g_callSi (pc := 12) E Y o_X8_in q_707 [.int a1, .int 0, .int 9] rfl rfl (hR_of (by omega) (by decide)) hl.1 (rest := []) rfl (Nat.le_of_ble_eq_true rfl) dX8_weighs_12 (fun z hz => m_X8_in hz) hf (fun v5 μ6 H locs hf Y => ?_)
    refine g_if_eq (pc := 15) (tgt := 34) E dX8_weighs_15 (by decide) hf (fun hf => ?_) (fun hf => ?_)
    · refine lv_aload_n (pc := 34) hx hb dX8_weighs_34 rfl (lv_at hl 0 rfl) ?_
      refine lv_ldc (pc := 35) (v := (-1000000001)) hx hb E.1.2.2.2.1 (E.1.2.2.2.2 _ q_238) dX8_weighs_35 ?_
      refine g_callVi (pc := 37) E Y 53 S_53 V_8 o_X8_error q_716 [.int (-1000000001)] rfl rfl (hR_of (by omega) (by decide)) hl.1 (rest := []) rfl (Nat.le_of_ble_eq_true rfl) dX8_weighs_37 (fun z hz => m_X8_error_53 hz) hf (fun v7 μ8 H locs hf Y => ?_)
      exact g_iret (pc := 40) E Y hr hk dX8_weighs_40 hf
    · refine lv_aload_n (pc := 18) hx hb dX8_weighs_18 rfl (lv_at hl 0 rfl) ?_
      refine lv_bipush (pc := 19) (v := 11) hx hb dX8_weighs_19 (by decide) ?_
      refine lv_iconst (pc := 21) (v := 4) hx hb dX8_weighs_21 (by decide) ?_
      refine lv_iload_n (pc := 22) hx hb dX8_weighs_22 rfl (lv_at hl 1 rfl) ?_
      refine g_imul (pc := 23) E dX8_weighs_23 hf (fun v9 hf => ?_)
      refine g_iadd (pc := 24) E dX8_weighs_24 hf (fun v10 hf => ?_)
      refine lv_iconst (pc := 25) (v := 2) hx hb dX8_weighs_25 (by decide) ?_
      refine g_iadd (pc := 26) E dX8_weighs_26 hf (fun v11 hf => ?_)
      refine lv_iload_n (pc := 27) hx hb dX8_weighs_27 rfl (lv_at hl 2 rfl) ?_
      refine g_callVi (pc := 28) E Y 53 S_53 V_8 o_X8_becomes q_719 [.int v11, .int a1] rfl rfl (hR_of (by omega) (by decide)) hl.1 (rest := []) rfl (Nat.le_of_ble_eq_true rfl) dX8_weighs_28 (fun z hz => m_X8_becomes_53 hz) hf (fun v12 μ13 H locs hf Y => ?_)
      refine lv_goto (pc := 31) (tgt := 40) hx hb dX8_weighs_31 (by decide) ?_
      exact g_iret (pc := 40) E Y hr hk dX8_weighs_40 hf
