/-! methods, by program: a pure program and its contract each -/
def f_X7_within (a0 : Int32) (a1 : Int32) (a2 : Int32) (σ : Mem) : Res := if a0 < a1 then (gb 0 (some (0, σ))) else (if a2 < a0 then (gb 0 (some (0, σ))) else (gb 1 (some (1, σ))))
set_option maxHeartbeats 4000000 in
set_option maxRecDepth 100000 in
theorem m_X7_within {l : Launch} {σ : Mem} {Z : Int32 × Mem} {a0 : Int32} {a1 : Int32} {a2 : Int32} (hf : f_X7_within a0 a1 a2 σ = some Z) : CT l yX7_within cX7_within 3 (some .boolean) 0 (fun _ => [.int a0, .int a1, .int a2]) σ Z := by
  refine g_openT RX7 (by decide) rfl (fun _ => Nat.le_of_ble_eq_true rfl) (fun p e s m below meth c D cI cB ad st ls E Y hr hk hl => ?_)
  have hx := E.1.1
  have hb := E.1.2.1
  have hl : lv_has ls 3 [(0, .int a0), (1, .int a1), (2, .int a2)] := hl
  unfold f_X7_within at hf
  refine lv_iload_n (pc := 0) hx hb dX7_within_0 rfl (lv_at hl 0 rfl) ?_
  refine lv_iload_n (pc := 1) hx hb dX7_within_1 rfl (lv_at hl 1 rfl) ?_
  refine g_icmp_lt (pc := 2) (tgt := 14) E dX7_within_2 (by decide) hf (fun hf => ?_) (fun hf => ?_)
  · refine lv_iconst (pc := 14) (v := 0) hx hb dX7_within_14 (by decide) ?_
    exact g_zret (pc := 15) E Y hr hk dX7_within_15 hf
  · refine lv_iload_n (pc := 5) hx hb dX7_within_5 rfl (lv_at hl 0 rfl) ?_
    refine lv_iload_n (pc := 6) hx hb dX7_within_6 rfl (lv_at hl 2 rfl) ?_
    refine g_icmp_gt (pc := 7) (tgt := 14) E dX7_within_7 (by decide) hf (fun hf => ?_) (fun hf => ?_)
    · refine lv_iconst (pc := 14) (v := 0) hx hb dX7_within_14 (by decide) ?_
      exact g_zret (pc := 15) E Y hr hk dX7_within_15 hf
    · refine lv_iconst (pc := 10) (v := 1) hx hb dX7_within_10 (by decide) ?_
      refine lv_goto (pc := 11) (tgt := 15) hx hb dX7_within_11 (by decide) ?_
      exact g_zret (pc := 15) E Y hr hk dX7_within_15 hf
def f_X7_isKindAndM (a0 : Int32) (σ : Mem) : Res := bd (f_X7_within a0 0 69 σ) fun v1 μ2 => gb v1 (some (v1, μ2))
set_option maxHeartbeats 4000000 in
set_option maxRecDepth 100000 in
theorem m_X7_isKindAndM {l : Launch} {σ : Mem} {Z : Int32 × Mem} {a0 : Int32} (hf : f_X7_isKindAndM a0 σ = some Z) : CT l yX7_isKindAndM cX7_isKindAndM 1 (some .boolean) 1 (fun _ => [.int a0]) σ Z := by
  refine g_openT RX7 (by decide) rfl (fun _ => Nat.le_of_ble_eq_true rfl) (fun p e s m below meth c D cI cB ad st ls E Y hr hk hl => ?_)
  have hx := E.1.1
  have hb := E.1.2.1
  have hl : lv_has ls 1 [(0, .int a0)] := hl
  unfold f_X7_isKindAndM at hf
  refine lv_iload_n (pc := 0) hx hb dX7_isKindAndM_0 rfl (lv_at hl 0 rfl) ?_
  refine lv_iconst (pc := 1) (v := 0) hx hb dX7_isKindAndM_1 (by decide) ?_
  refine lv_bipush (pc := 2) (v := 69) hx hb dX7_isKindAndM_2 (by decide) ?_
  refine g_callSi (pc := 4) E Y o_X7_within q_661 [.int a0, .int 0, .int 69] rfl rfl (hR_of (by omega) (by decide)) hl.1 (rest := []) rfl (Nat.le_of_ble_eq_true rfl) dX7_isKindAndM_4 (fun z hz => m_X7_within hz) hf (fun v1 μ2 H locs hf Y => ?_)
  exact g_zret (pc := 7) E Y hr hk dX7_isKindAndM_7 hf
def f_X7_error_0 (a0 : Int32) (σ : Mem) : Res := if a0 < 0 then (nm ((-1000000000) - a0) fun (v1 : Int32) => some (v1, σ)) else (if 7 ≤ a0 then (nm ((-1000000000) - a0) fun (v2 : Int32) => some (v2, σ)) else (gi a0 7 <| nm (σ 52 a0.toNatClampNeg) fun (v3 : Int32) => nm (v3 + 1) fun (v4 : Int32) => gi a0 7 <| nm (mset σ 52 a0.toNatClampNeg v4) fun (μ5 : Mem) => nm ((-1000000000) - a0) fun (v6 : Int32) => some (v6, μ5)))
set_option maxHeartbeats 4000000 in
set_option maxRecDepth 100000 in
theorem m_X7_error_0 {l : Launch} {σ : Mem} {Z : Int32 × Mem} {a0 : Int32} (hf : f_X7_error_0 a0 σ = some Z) : CT l yX7_error cX7_error 2 (some .int) 0 (fun ad => [.ref (ad 0), .int a0]) σ Z := by
  refine g_openT RX7 (by decide) rfl (fun _ => Nat.le_of_ble_eq_true rfl) (fun p e s m below meth c D cI cB ad st ls E Y hr hk hl => ?_)
  have hx := E.1.1
  have hb := E.1.2.1
  have hl : lv_has ls 2 [(0, .ref (ad 0)), (1, .int a0)] := hl
  unfold f_X7_error_0 at hf
  refine lv_iload_n (pc := 0) hx hb dX7_error_0 rfl (lv_at hl 1 rfl) ?_
  refine g_if_lt (pc := 1) (tgt := 23) E dX7_error_1 (by decide) hf (fun hf => ?_) (fun hf => ?_)
  · refine lv_ldcw (pc := 23) (v := (-1000000000)) hx hb E.1.2.2.2.1 (E.1.2.2.2.2 _ q_232) dX7_error_23 ?_
    refine lv_iload_n (pc := 26) hx hb dX7_error_26 rfl (lv_at hl 1 rfl) ?_
    refine g_isub (pc := 27) E dX7_error_27 hf (fun v1 hf => ?_)
    exact g_iret (pc := 28) E Y hr hk dX7_error_28 hf
  · refine lv_iload_n (pc := 4) hx hb dX7_error_4 rfl (lv_at hl 1 rfl) ?_
    refine lv_aload_n (pc := 5) hx hb dX7_error_5 rfl (lv_at hl 0 rfl) ?_
    refine g_getr (pc := 6) E Y 0 5 52 S_0 rfl V_7 (by decide) AL_X7 q_332 dX7_error_6 ?_
    refine g_alen (pc := 9) E Y 52 (b := false) (ty := .int) 0 S_52 rfl (v := 7) (by decide) dX7_error_9 ?_
    refine g_icmp_ge (pc := 10) (tgt := 23) E dX7_error_10 (by decide) hf (fun hf => ?_) (fun hf => ?_)
    · refine lv_ldcw (pc := 23) (v := (-1000000000)) hx hb E.1.2.2.2.1 (E.1.2.2.2.2 _ q_232) dX7_error_23 ?_
      refine lv_iload_n (pc := 26) hx hb dX7_error_26 rfl (lv_at hl 1 rfl) ?_
      refine g_isub (pc := 27) E dX7_error_27 hf (fun v2 hf => ?_)
      exact g_iret (pc := 28) E Y hr hk dX7_error_28 hf
    · refine lv_aload_n (pc := 13) hx hb dX7_error_13 rfl (lv_at hl 0 rfl) ?_
      refine g_getr (pc := 14) E Y 0 5 52 S_0 rfl V_7 (by decide) AL_X7 q_332 dX7_error_14 ?_
      refine lv_iload_n (pc := 17) hx hb dX7_error_17 rfl (lv_at hl 1 rfl) ?_
      refine lv_dup2_11 (pc := 18) hx hb dX7_error_18 rfl rfl ?_
      refine g_iald (pc := 19) E Y 52 S_52 dX7_error_19 hf (fun v3 hf => ?_)
      refine lv_iconst (pc := 20) (v := 1) hx hb dX7_error_20 (by decide) ?_
      refine g_iadd (pc := 21) E dX7_error_21 hf (fun v4 hf => ?_)
      refine g_iast (pc := 22) E Y 52 S_52 dX7_error_22 hf (fun μ5 H locs hf Y => ?_)
      refine lv_ldcw (pc := 23) (v := (-1000000000)) hx hb E.1.2.2.2.1 (E.1.2.2.2.2 _ q_232) dX7_error_23 ?_
      refine lv_iload_n (pc := 26) hx hb dX7_error_26 rfl (lv_at hl 1 rfl) ?_
      refine g_isub (pc := 27) E dX7_error_27 hf (fun v6 hf => ?_)
      exact g_iret (pc := 28) E Y hr hk dX7_error_28 hf
def f_X7_isDigit (a0 : Int32) (σ : Mem) : Res := bd (f_X7_within a0 0 9 σ) fun v1 μ2 => gb v1 (some (v1, μ2))
set_option maxHeartbeats 4000000 in
set_option maxRecDepth 100000 in
theorem m_X7_isDigit {l : Launch} {σ : Mem} {Z : Int32 × Mem} {a0 : Int32} (hf : f_X7_isDigit a0 σ = some Z) : CT l yX7_isDigit cX7_isDigit 1 (some .boolean) 1 (fun _ => [.int a0]) σ Z := by
  refine g_openT RX7 (by decide) rfl (fun _ => Nat.le_of_ble_eq_true rfl) (fun p e s m below meth c D cI cB ad st ls E Y hr hk hl => ?_)
  have hx := E.1.1
  have hb := E.1.2.1
  have hl : lv_has ls 1 [(0, .int a0)] := hl
  unfold f_X7_isDigit at hf
  refine lv_iload_n (pc := 0) hx hb dX7_isDigit_0 rfl (lv_at hl 0 rfl) ?_
  refine lv_iconst (pc := 1) (v := 0) hx hb dX7_isDigit_1 (by decide) ?_
  refine lv_bipush (pc := 2) (v := 9) hx hb dX7_isDigit_2 (by decide) ?_
  refine g_callSi (pc := 4) E Y o_X7_within q_661 [.int a0, .int 0, .int 9] rfl rfl (hR_of (by omega) (by decide)) hl.1 (rest := []) rfl (Nat.le_of_ble_eq_true rfl) dX7_isDigit_4 (fun z hz => m_X7_within hz) hf (fun v1 μ2 H locs hf Y => ?_)
  exact g_zret (pc := 7) E Y hr hk dX7_isDigit_7 hf
def f_X0_add_2 (a0 : Int32) (a1 : Int32) (σ : Mem) : Res := nm (σ 2 4) fun (v1 : Int32) => if v1 < 6 then (gz 10 <| nm (a0 / 10) fun (v2 : Int32) => gi v1 6 <| nm (mset σ 3 v1.toNatClampNeg v2) fun (μ3 : Mem) => gz 10 <| nm (a0 - a0 / 10 * 10) fun (v4 : Int32) => gi v1 6 <| nm (mset μ3 4 v1.toNatClampNeg v4) fun (μ5 : Mem) => gi v1 6 <| nm (mset μ5 5 v1.toNatClampNeg a1) fun (μ6 : Mem) => gi v1 6 <| nm (mset μ6 6 v1.toNatClampNeg 0) fun (μ7 : Mem) => nm (μ7 2 4) fun (v8 : Int32) => nm (v8 + 1) fun (v9 : Int32) => nm (mset μ7 2 4 v9) fun (μ10 : Mem) => some (v1, μ10)) else (some ((-1), σ))
set_option maxHeartbeats 4000000 in
set_option maxRecDepth 100000 in
theorem m_X0_add_2 {l : Launch} {σ : Mem} {Z : Int32 × Mem} {a0 : Int32} {a1 : Int32} (hf : f_X0_add_2 a0 a1 σ = some Z) : CT l yX0_add cX0_add 4 (some .int) 0 (fun ad => [.ref (ad 2), .int a0, .int a1]) σ Z := by
  refine g_openT RX0 (by decide) rfl (fun _ => Nat.le_of_ble_eq_true rfl) (fun p e s m below meth c D cI cB ad st ls E Y hr hk hl => ?_)
  have hx := E.1.1
  have hb := E.1.2.1
  have hl : lv_has ls 4 [(0, .ref (ad 2)), (1, .int a0), (2, .int a1)] := hl
  unfold f_X0_add_2 at hf
  refine lv_aload_n (pc := 0) hx hb dX0_add_0 rfl (lv_at hl 0 rfl) ?_
  refine g_geti (pc := 1) E Y 2 4 S_2 rfl V_0 (by decide) AL_X0 q_245 dX0_add_1 hf (fun v1 hf => ?_)
  refine lv_istore_n (pc := 4) (lv' := [(3, .int v1), (0, .ref (ad 2)), (1, .int a0), (2, .int a1)]) hx hb dX0_add_4 rfl hl (by decide) rfl (fun ls hl => ?_)
  refine lv_iload_n (pc := 5) hx hb dX0_add_5 rfl (lv_at hl 0 rfl) ?_
  refine lv_bipush (pc := 6) (v := 6) hx hb dX0_add_6 (by decide) ?_
  refine g_icmp_lt (pc := 8) (tgt := 13) E dX0_add_8 (by decide) hf (fun hf => ?_) (fun hf => ?_)
  · refine lv_aload_n (pc := 13) hx hb dX0_add_13 rfl (lv_at hl 1 rfl) ?_
    refine g_getr (pc := 14) E Y 2 0 3 S_2 rfl V_0 (by decide) AL_X0 q_246 dX0_add_14 ?_
    refine lv_iload_n (pc := 17) hx hb dX0_add_17 rfl (lv_at hl 0 rfl) ?_
    refine lv_iload_n (pc := 18) hx hb dX0_add_18 rfl (lv_at hl 2 rfl) ?_
    refine lv_bipush (pc := 19) (v := 10) hx hb dX0_add_19 (by decide) ?_
    refine g_idiv (pc := 21) E dX0_add_21 hf (fun v2 hf => ?_)
    refine g_iast (pc := 22) E Y 3 S_3 dX0_add_22 hf (fun μ3 H locs hf Y => ?_)
    refine lv_aload_n (pc := 23) hx hb dX0_add_23 rfl (lv_at hl 1 rfl) ?_
    refine g_getr (pc := 24) E Y 2 1 4 S_2 rfl V_0 (by decide) AL_X0 q_242 dX0_add_24 ?_
    refine lv_iload_n (pc := 27) hx hb dX0_add_27 rfl (lv_at hl 0 rfl) ?_
    refine lv_iload_n (pc := 28) hx hb dX0_add_28 rfl (lv_at hl 2 rfl) ?_
    refine lv_bipush (pc := 29) (v := 10) hx hb dX0_add_29 (by decide) ?_
    refine g_irem (pc := 31) E dX0_add_31 hf (fun v4 hf => ?_)
    refine g_iast (pc := 32) E Y 4 S_4 dX0_add_32 hf (fun μ5 H locs hf Y => ?_)
    refine lv_aload_n (pc := 33) hx hb dX0_add_33 rfl (lv_at hl 1 rfl) ?_
    refine g_getr (pc := 34) E Y 2 2 5 S_2 rfl V_0 (by decide) AL_X0 q_243 dX0_add_34 ?_
    refine lv_iload_n (pc := 37) hx hb dX0_add_37 rfl (lv_at hl 0 rfl) ?_
    refine lv_iload_n (pc := 38) hx hb dX0_add_38 rfl (lv_at hl 3 rfl) ?_
    refine g_iast (pc := 39) E Y 5 S_5 dX0_add_39 hf (fun μ6 H locs hf Y => ?_)
    refine lv_aload_n (pc := 40) hx hb dX0_add_40 rfl (lv_at hl 1 rfl) ?_
    refine g_getr (pc := 41) E Y 2 3 6 S_2 rfl V_0 (by decide) AL_X0 q_244 dX0_add_41 ?_
    refine lv_iload_n (pc := 44) hx hb dX0_add_44 rfl (lv_at hl 0 rfl) ?_
    refine lv_iconst (pc := 45) (v := 0) hx hb dX0_add_45 (by decide) ?_
    refine g_iast (pc := 46) E Y 6 S_6 dX0_add_46 hf (fun μ7 H locs hf Y => ?_)
    refine lv_aload_n (pc := 47) hx hb dX0_add_47 rfl (lv_at hl 1 rfl) ?_
    refine lv_dup (pc := 48) hx hb dX0_add_48 rfl ?_
    refine g_geti (pc := 49) E Y 2 4 S_2 rfl V_0 (by decide) AL_X0 q_245 dX0_add_49 hf (fun v8 hf => ?_)
    refine lv_iconst (pc := 52) (v := 1) hx hb dX0_add_52 (by decide) ?_
    refine g_iadd (pc := 53) E dX0_add_53 hf (fun v9 hf => ?_)
    refine g_put (pc := 54) E Y 2 4 S_2 rfl V_0 (by decide) AL_X0 tyX0 tyX0_ok nmX0 q_245 rfl rfl rfl dX0_add_54 hf (fun μ10 H locs hf Y => ?_)
    refine lv_iload_n (pc := 57) hx hb dX0_add_57 rfl (lv_at hl 0 rfl) ?_
    exact g_iret (pc := 58) E Y hr hk dX0_add_58 hf
  · refine lv_iconst (pc := 11) (v := (-1)) hx hb dX0_add_11 (by decide) ?_
    exact g_iret (pc := 12) E Y hr hk dX0_add_12 hf
def f_X7_pitch_0 (a0 : Int32) (a1 : Int32) (σ : Mem) : Res := bd (f_X7_isKindAndM a0 σ) fun v1 μ2 => if v1 = 0 then (bd (f_X7_error_0 1 μ2) fun v3 μ4 => some (v3, μ4)) else (bd (f_X7_isDigit a1 μ2) fun v5 μ6 => if v5 = 0 then (bd (f_X7_error_0 1 μ6) fun v12 μ13 => some (v12, μ13)) else (nm (μ6 2 4) fun (v7 : Int32) => if v7 < 6 then (bd (f_X0_add_2 a0 a1 μ6) fun v8 μ9 => some (v8, μ9)) else (bd (f_X7_error_0 4 μ6) fun v10 μ11 => some (v10, μ11))))
set_option maxHeartbeats 4000000 in
set_option maxRecDepth 100000 in
theorem m_X7_pitch_0 {l : Launch} {σ : Mem} {Z : Int32 × Mem} {a0 : Int32} {a1 : Int32} (hf : f_X7_pitch_0 a0 a1 σ = some Z) : CT l yX7_pitch cX7_pitch 3 (some .int) 2 (fun ad => [.ref (ad 0), .int a0, .int a1]) σ Z := by
  refine g_openT RX7 (by decide) rfl (fun _ => Nat.le_of_ble_eq_true rfl) (fun p e s m below meth c D cI cB ad st ls E Y hr hk hl => ?_)
  have hx := E.1.1
  have hb := E.1.2.1
  have hl : lv_has ls 3 [(0, .ref (ad 0)), (1, .int a0), (2, .int a1)] := hl
  unfold f_X7_pitch_0 at hf
  refine lv_iload_n (pc := 0) hx hb dX7_pitch_0 rfl (lv_at hl 1 rfl) ?_
  refine g_callSi (pc := 1) E Y o_X7_isKindAndM q_654 [.int a0] rfl rfl (hR_of (by omega) (by decide)) hl.1 (rest := []) rfl (Nat.le_of_ble_eq_true rfl) dX7_pitch_1 (fun z hz => m_X7_isKindAndM hz) hf (fun v1 μ2 H locs hf Y => ?_)
  refine g_if_eq (pc := 4) (tgt := 14) E dX7_pitch_4 (by decide) hf (fun hf => ?_) (fun hf => ?_)
  · refine lv_aload_n (pc := 14) hx hb dX7_pitch_14 rfl (lv_at hl 0 rfl) ?_
    refine lv_iconst (pc := 15) (v := 1) hx hb dX7_pitch_15 (by decide) ?_
    refine g_callVi (pc := 16) E Y 0 S_0 V_7 o_X7_error q_656 [.int 1] rfl rfl (hR_of (by omega) (by decide)) hl.1 (rest := []) rfl (Nat.le_of_ble_eq_true rfl) dX7_pitch_16 (fun z hz => m_X7_error_0 hz) hf (fun v3 μ4 H locs hf Y => ?_)
    exact g_iret (pc := 19) E Y hr hk dX7_pitch_19 hf
  · refine lv_iload_n (pc := 7) hx hb dX7_pitch_7 rfl (lv_at hl 2 rfl) ?_
    refine g_callSi (pc := 8) E Y o_X7_isDigit q_655 [.int a1] rfl rfl (hR_of (by omega) (by decide)) hl.1 (rest := []) rfl (Nat.le_of_ble_eq_true rfl) dX7_pitch_8 (fun z hz => m_X7_isDigit hz) hf (fun v5 μ6 H locs hf Y => ?_)
    refine g_if_ne (pc := 11) (tgt := 20) E dX7_pitch_11 (by decide) hf (fun hf => ?_) (fun hf => ?_)
    · refine lv_aload_n (pc := 20) hx hb dX7_pitch_20 rfl (lv_at hl 0 rfl) ?_
      refine g_getr (pc := 21) E Y 0 0 1 S_0 rfl V_7 (by decide) AL_X7 q_301 dX7_pitch_21 ?_
      refine g_getr (pc := 24) E Y 1 0 2 S_1 rfl V_3 (by decide) AL_X3 q_334 dX7_pitch_24 ?_
      refine g_geti (pc := 27) E Y 2 4 S_2 rfl V_0 (by decide) AL_X0 q_335 dX7_pitch_27 hf (fun v7 hf => ?_)
      refine lv_bipush (pc := 30) (v := 6) hx hb dX7_pitch_30 (by decide) ?_
      refine g_icmp_lt (pc := 32) (tgt := 41) E dX7_pitch_32 (by decide) hf (fun hf => ?_) (fun hf => ?_)
      · refine lv_aload_n (pc := 41) hx hb dX7_pitch_41 rfl (lv_at hl 0 rfl) ?_
        refine g_getr (pc := 42) E Y 0 0 1 S_0 rfl V_7 (by decide) AL_X7 q_301 dX7_pitch_42 ?_
        refine g_getr (pc := 45) E Y 1 0 2 S_1 rfl V_3 (by decide) AL_X3 q_334 dX7_pitch_45 ?_
        refine lv_iload_n (pc := 48) hx hb dX7_pitch_48 rfl (lv_at hl 1 rfl) ?_
        refine lv_iload_n (pc := 49) hx hb dX7_pitch_49 rfl (lv_at hl 2 rfl) ?_
        refine g_callVi (pc := 50) E Y 2 S_2 V_0 o_X0_add q_657 [.int a0, .int a1] rfl rfl (hR_of (by omega) (by decide)) hl.1 (rest := []) rfl (Nat.le_of_ble_eq_true rfl) dX7_pitch_50 (fun z hz => m_X0_add_2 hz) hf (fun v8 μ9 H locs hf Y => ?_)
        exact g_iret (pc := 53) E Y hr hk dX7_pitch_53 hf
      · refine lv_aload_n (pc := 35) hx hb dX7_pitch_35 rfl (lv_at hl 0 rfl) ?_
        refine lv_iconst (pc := 36) (v := 4) hx hb dX7_pitch_36 (by decide) ?_
        refine g_callVi (pc := 37) E Y 0 S_0 V_7 o_X7_error q_656 [.int 4] rfl rfl (hR_of (by omega) (by decide)) hl.1 (rest := []) rfl (Nat.le_of_ble_eq_true rfl) dX7_pitch_37 (fun z hz => m_X7_error_0 hz) hf (fun v10 μ11 H locs hf Y => ?_)
        exact g_iret (pc := 40) E Y hr hk dX7_pitch_40 hf
    · refine lv_aload_n (pc := 14) hx hb dX7_pitch_14 rfl (lv_at hl 0 rfl) ?_
      refine lv_iconst (pc := 15) (v := 1) hx hb dX7_pitch_15 (by decide) ?_
      refine g_callVi (pc := 16) E Y 0 S_0 V_7 o_X7_error q_656 [.int 1] rfl rfl (hR_of (by omega) (by decide)) hl.1 (rest := []) rfl (Nat.le_of_ble_eq_true rfl) dX7_pitch_16 (fun z hz => m_X7_error_0 hz) hf (fun v12 μ13 H locs hf Y => ?_)
      exact g_iret (pc := 19) E Y hr hk dX7_pitch_19 hf
def f_X7_isPitch_0 (a0 : Int32) (σ : Mem) : Res := if a0 < 0 then (gb 0 (some (0, σ))) else (nm (σ 2 4) fun (v1 : Int32) => if v1 ≤ a0 then (gb 0 (some (0, σ))) else (gb 1 (some (1, σ))))
set_option maxHeartbeats 4000000 in
set_option maxRecDepth 100000 in
theorem m_X7_isPitch_0 {l : Launch} {σ : Mem} {Z : Int32 × Mem} {a0 : Int32} (hf : f_X7_isPitch_0 a0 σ = some Z) : CT l yX7_isPitch cX7_isPitch 2 (some .boolean) 0 (fun ad => [.ref (ad 0), .int a0]) σ Z := by
  refine g_openT RX7 (by decide) rfl (fun _ => Nat.le_of_ble_eq_true rfl) (fun p e s m below meth c D cI cB ad st ls E Y hr hk hl => ?_)
  have hx := E.1.1
  have hb := E.1.2.1
  have hl : lv_has ls 2 [(0, .ref (ad 0)), (1, .int a0)] := hl
  unfold f_X7_isPitch_0 at hf
  refine lv_iload_n (pc := 0) hx hb dX7_isPitch_0 rfl (lv_at hl 1 rfl) ?_
  refine g_if_lt (pc := 1) (tgt := 22) E dX7_isPitch_1 (by decide) hf (fun hf => ?_) (fun hf => ?_)
  · refine lv_iconst (pc := 22) (v := 0) hx hb dX7_isPitch_22 (by decide) ?_
    exact g_zret (pc := 23) E Y hr hk dX7_isPitch_23 hf
  · refine lv_iload_n (pc := 4) hx hb dX7_isPitch_4 rfl (lv_at hl 1 rfl) ?_
    refine lv_aload_n (pc := 5) hx hb dX7_isPitch_5 rfl (lv_at hl 0 rfl) ?_
    refine g_getr (pc := 6) E Y 0 0 1 S_0 rfl V_7 (by decide) AL_X7 q_301 dX7_isPitch_6 ?_
    refine g_getr (pc := 9) E Y 1 0 2 S_1 rfl V_3 (by decide) AL_X3 q_334 dX7_isPitch_9 ?_
    refine g_geti (pc := 12) E Y 2 4 S_2 rfl V_0 (by decide) AL_X0 q_335 dX7_isPitch_12 hf (fun v1 hf => ?_)
    refine g_icmp_ge (pc := 15) (tgt := 22) E dX7_isPitch_15 (by decide) hf (fun hf => ?_) (fun hf => ?_)
    · refine lv_iconst (pc := 22) (v := 0) hx hb dX7_isPitch_22 (by decide) ?_
      exact g_zret (pc := 23) E Y hr hk dX7_isPitch_23 hf
    · refine lv_iconst (pc := 18) (v := 1) hx hb dX7_isPitch_18 (by decide) ?_
      refine lv_goto (pc := 19) (tgt := 23) hx hb dX7_isPitch_19 (by decide) ?_
      exact g_zret (pc := 23) E Y hr hk dX7_isPitch_23 hf
def f_X3_airByKind_1 (a0 : Int32) (σ : Mem) : Res := gi a0 6 <| nm (σ 4 a0.toNatClampNeg) fun (v1 : Int32) => nm (45 + v1) fun (v2 : Int32) => gi a0 6 <| nm (σ 3 a0.toNatClampNeg) fun (v3 : Int32) => if v3 = 1 then (nm (v2 + 15) fun (v4 : Int32) => some (v4, σ)) else (if v3 = 2 then (nm (v2 - 5) fun (v5 : Int32) => some (v5, σ)) else (if v3 = 3 then (nm (v2 - 12) fun (v6 : Int32) => nm (v6 - v1) fun (v7 : Int32) => some (v7, σ)) else (if v3 = 4 then (nm (v2 + 15) fun (v8 : Int32) => nm (σ 1 10) fun (v9 : Int32) => nm (2 * v9) fun (v10 : Int32) => nm (v8 + v10) fun (v11 : Int32) => some (v11, σ)) else (if v3 = 5 then (nm (v2 - 5) fun (v12 : Int32) => nm (σ 1 11) fun (v13 : Int32) => nm (v12 + v13) fun (v14 : Int32) => some (v14, σ)) else (if v3 = 6 then (gi a0 6 <| nm (σ 6 a0.toNatClampNeg) fun (v15 : Int32) => gz 5 <| nm (v15 - v15 / 5 * 5) fun (v16 : Int32) => nm (v2 + v16) fun (v17 : Int32) => some (v17, σ)) else (some (v2, σ)))))))
set_option maxHeartbeats 4000000 in
set_option maxRecDepth 100000 in
theorem m_X3_airByKind_1 {l : Launch} {σ : Mem} {Z : Int32 × Mem} {a0 : Int32} (hf : f_X3_airByKind_1 a0 σ = some Z) : CT l yX3_airByKind cX3_airByKind 4 (some .int) 0 (fun ad => [.ref (ad 1), .int a0]) σ Z := by
  refine g_openT RX3 (by decide) rfl (fun _ => Nat.le_of_ble_eq_true rfl) (fun p e s m below meth c D cI cB ad st ls E Y hr hk hl => ?_)
  have hx := E.1.1
  have hb := E.1.2.1
  have hl : lv_has ls 4 [(0, .ref (ad 1)), (1, .int a0)] := hl
  unfold f_X3_airByKind_1 at hf
  refine lv_aload_n (pc := 0) hx hb dX3_airByKind_0 rfl (lv_at hl 0 rfl) ?_
  refine g_getr (pc := 1) E Y 1 0 2 S_1 rfl V_3 (by decide) AL_X3 q_265 dX3_airByKind_1 ?_
  refine g_getr (pc := 4) E Y 2 1 4 S_2 rfl V_0 (by decide) AL_X0 q_287 dX3_airByKind_4 ?_
  refine lv_iload_n (pc := 7) hx hb dX3_airByKind_7 rfl (lv_at hl 1 rfl) ?_
  refine g_iald (pc := 8) E Y 4 S_4 dX3_airByKind_8 hf (fun v1 hf => ?_)
  refine lv_istore_n (pc := 9) (lv' := [(2, .int v1), (0, .ref (ad 1)), (1, .int a0)]) hx hb dX3_airByKind_9 rfl hl (by decide) rfl (fun ls hl => ?_)
  refine lv_bipush (pc := 10) (v := 45) hx hb dX3_airByKind_10 (by decide) ?_
  refine lv_iload_n (pc := 12) hx hb dX3_airByKind_12 rfl (lv_at hl 0 rfl) ?_
  refine g_iadd (pc := 13) E dX3_airByKind_13 hf (fun v2 hf => ?_)
  refine lv_istore_n (pc := 14) (lv' := [(3, .int v2), (2, .int v1), (0, .ref (ad 1)), (1, .int a0)]) hx hb dX3_airByKind_14 rfl hl (by decide) rfl (fun ls hl => ?_)
  refine lv_aload_n (pc := 15) hx hb dX3_airByKind_15 rfl (lv_at hl 2 rfl) ?_
  refine g_getr (pc := 16) E Y 1 0 2 S_1 rfl V_3 (by decide) AL_X3 q_265 dX3_airByKind_16 ?_
  refine g_getr (pc := 19) E Y 2 0 3 S_2 rfl V_0 (by decide) AL_X0 q_263 dX3_airByKind_19 ?_
  refine lv_iload_n (pc := 22) hx hb dX3_airByKind_22 rfl (lv_at hl 3 rfl) ?_
  refine g_iald (pc := 23) E Y 3 S_3 dX3_airByKind_23 hf (fun v3 hf => ?_)
  by_cases hc : v3 = 1
  · rw [if_pos hc] at hf
    refine g_tabIn (pc := 24) (tgt := 64) E dX3_airByKind_24 hc (n := 1) (by decide) (by decide) (by decide) rfl (by decide) ?_
    refine lv_iload_n (pc := 64) hx hb dX3_airByKind_64 rfl (lv_at hl 0 rfl) ?_
    refine lv_bipush (pc := 65) (v := 15) hx hb dX3_airByKind_65 (by decide) ?_
    refine g_iadd (pc := 67) E dX3_airByKind_67 hf (fun v4 hf => ?_)
    exact g_iret (pc := 68) E Y hr hk dX3_airByKind_68 hf
  · rw [if_neg hc] at hf
    have n_1 := ti_ne (n := 1) (by decide) hc
    clear hc
    by_cases hc : v3 = 2
    · rw [if_pos hc] at hf
      refine g_tabIn (pc := 24) (tgt := 69) E dX3_airByKind_24 hc (n := 2) (by decide) (by decide) (by decide) rfl (by decide) ?_
      refine lv_iload_n (pc := 69) hx hb dX3_airByKind_69 rfl (lv_at hl 0 rfl) ?_
      refine lv_iconst (pc := 70) (v := 5) hx hb dX3_airByKind_70 (by decide) ?_
      refine g_isub (pc := 71) E dX3_airByKind_71 hf (fun v5 hf => ?_)
      exact g_iret (pc := 72) E Y hr hk dX3_airByKind_72 hf
    · rw [if_neg hc] at hf
      have n_2 := ti_ne (n := 2) (by decide) hc
      clear hc
      by_cases hc : v3 = 3
      · rw [if_pos hc] at hf
        refine g_tabIn (pc := 24) (tgt := 73) E dX3_airByKind_24 hc (n := 3) (by decide) (by decide) (by decide) rfl (by decide) ?_
        refine lv_iload_n (pc := 73) hx hb dX3_airByKind_73 rfl (lv_at hl 0 rfl) ?_
        refine lv_bipush (pc := 74) (v := 12) hx hb dX3_airByKind_74 (by decide) ?_
        refine g_isub (pc := 76) E dX3_airByKind_76 hf (fun v6 hf => ?_)
        refine lv_iload_n (pc := 77) hx hb dX3_airByKind_77 rfl (lv_at hl 1 rfl) ?_
        refine g_isub (pc := 78) E dX3_airByKind_78 hf (fun v7 hf => ?_)
        exact g_iret (pc := 79) E Y hr hk dX3_airByKind_79 hf
      · rw [if_neg hc] at hf
        have n_3 := ti_ne (n := 3) (by decide) hc
        clear hc
        by_cases hc : v3 = 4
        · rw [if_pos hc] at hf
          refine g_tabIn (pc := 24) (tgt := 80) E dX3_airByKind_24 hc (n := 4) (by decide) (by decide) (by decide) rfl (by decide) ?_
          refine lv_iload_n (pc := 80) hx hb dX3_airByKind_80 rfl (lv_at hl 0 rfl) ?_
          refine lv_bipush (pc := 81) (v := 15) hx hb dX3_airByKind_81 (by decide) ?_
          refine g_iadd (pc := 83) E dX3_airByKind_83 hf (fun v8 hf => ?_)
          refine lv_iconst (pc := 84) (v := 2) hx hb dX3_airByKind_84 (by decide) ?_
          refine lv_aload_n (pc := 85) hx hb dX3_airByKind_85 rfl (lv_at hl 2 rfl) ?_
          refine g_geti (pc := 86) E Y 1 10 S_1 rfl V_3 (by decide) AL_X3 q_281 dX3_airByKind_86 hf (fun v9 hf => ?_)
          refine g_imul (pc := 89) E dX3_airByKind_89 hf (fun v10 hf => ?_)
          refine g_iadd (pc := 90) E dX3_airByKind_90 hf (fun v11 hf => ?_)
          exact g_iret (pc := 91) E Y hr hk dX3_airByKind_91 hf
        · rw [if_neg hc] at hf
          have n_4 := ti_ne (n := 4) (by decide) hc
          clear hc
          by_cases hc : v3 = 5
          · rw [if_pos hc] at hf
            refine g_tabIn (pc := 24) (tgt := 92) E dX3_airByKind_24 hc (n := 5) (by decide) (by decide) (by decide) rfl (by decide) ?_
            refine lv_iload_n (pc := 92) hx hb dX3_airByKind_92 rfl (lv_at hl 0 rfl) ?_
            refine lv_iconst (pc := 93) (v := 5) hx hb dX3_airByKind_93 (by decide) ?_
            refine g_isub (pc := 94) E dX3_airByKind_94 hf (fun v12 hf => ?_)
            refine lv_aload_n (pc := 95) hx hb dX3_airByKind_95 rfl (lv_at hl 2 rfl) ?_
            refine g_geti (pc := 96) E Y 1 11 S_1 rfl V_3 (by decide) AL_X3 q_282 dX3_airByKind_96 hf (fun v13 hf => ?_)
            refine g_iadd (pc := 99) E dX3_airByKind_99 hf (fun v14 hf => ?_)
            exact g_iret (pc := 100) E Y hr hk dX3_airByKind_100 hf
          · rw [if_neg hc] at hf
            have n_5 := ti_ne (n := 5) (by decide) hc
            clear hc
            by_cases hc : v3 = 6
            · rw [if_pos hc] at hf
              refine g_tabIn (pc := 24) (tgt := 101) E dX3_airByKind_24 hc (n := 6) (by decide) (by decide) (by decide) rfl (by decide) ?_
              refine lv_iload_n (pc := 101) hx hb dX3_airByKind_101 rfl (lv_at hl 0 rfl) ?_
              refine lv_aload_n (pc := 102) hx hb dX3_airByKind_102 rfl (lv_at hl 2 rfl) ?_
              refine g_getr (pc := 103) E Y 1 0 2 S_1 rfl V_3 (by decide) AL_X3 q_265 dX3_airByKind_103 ?_
              refine g_getr (pc := 106) E Y 2 3 6 S_2 rfl V_0 (by decide) AL_X0 q_264 dX3_airByKind_106 ?_
              refine lv_iload_n (pc := 109) hx hb dX3_airByKind_109 rfl (lv_at hl 3 rfl) ?_
              refine g_iald (pc := 110) E Y 6 S_6 dX3_airByKind_110 hf (fun v15 hf => ?_)
              refine lv_iconst (pc := 111) (v := 5) hx hb dX3_airByKind_111 (by decide) ?_
              refine g_irem (pc := 112) E dX3_airByKind_112 hf (fun v16 hf => ?_)
              refine g_iadd (pc := 113) E dX3_airByKind_113 hf (fun v17 hf => ?_)
              exact g_iret (pc := 114) E Y hr hk dX3_airByKind_114 hf
            · rw [if_neg hc] at hf
              have n_6 := ti_ne (n := 6) (by decide) hc
              clear hc
              refine lv_tableOut (pc := 24) (tgt := 115) hx hb dX3_airByKind_24 (by omega) (by decide) ?_
              refine lv_iload_n (pc := 115) hx hb dX3_airByKind_115 rfl (lv_at hl 0 rfl) ?_
              exact g_iret (pc := 116) E Y hr hk dX3_airByKind_116 hf
def f_X3_held (a0 : Int32) (a1 : Int32) (a2 : Int32) (σ : Mem) : Res := nm (if a0 < a2 then a0 else a2) fun (v1 : Int32) => nm (if a1 < v1 then v1 else a1) fun (v2 : Int32) => some (v2, σ)
set_option maxHeartbeats 4000000 in
set_option maxRecDepth 100000 in
theorem m_X3_held {l : Launch} {σ : Mem} {Z : Int32 × Mem} {a0 : Int32} {a1 : Int32} {a2 : Int32} (hf : f_X3_held a0 a1 a2 σ = some Z) : CT l yX3_held cX3_held 3 (some .int) 1 (fun _ => [.int a0, .int a1, .int a2]) σ Z := by
  refine g_openT RX3 (by decide) rfl (fun _ => Nat.le_of_ble_eq_true rfl) (fun p e s m below meth c D cI cB ad st ls E Y hr hk hl => ?_)
  have hx := E.1.1
  have hb := E.1.2.1
  have hl : lv_has ls 3 [(0, .int a0), (1, .int a1), (2, .int a2)] := hl
  unfold f_X3_held at hf
  refine lv_iload_n (pc := 0) hx hb dX3_held_0 rfl (lv_at hl 1 rfl) ?_
  refine lv_iload_n (pc := 1) hx hb dX3_held_1 rfl (lv_at hl 2 rfl) ?_
  refine lv_iload_n (pc := 2) hx hb dX3_held_2 rfl (lv_at hl 0 rfl) ?_
  refine g_mmin (pc := 3) E hl.1 q_595 q_902 q_359 q_12 (hR_one (by omega)) (hR_lo (by omega) (Nat.le_of_ble_eq_true rfl)) dX3_held_3 hf (fun v1 hf => ?_)
  refine g_mmax (pc := 6) E hl.1 q_596 q_901 q_359 q_11 (hR_one (by omega)) (hR_lo (by omega) (Nat.le_of_ble_eq_true rfl)) dX3_held_6 hf (fun v2 hf => ?_)
  exact g_iret (pc := 9) E Y hr hk dX3_held_9 hf
def f_X5_joined (a0 : Int32) (a1 : Int32) (a2 : Int32) (σ : Mem) : Res := if a0 = 37 then (if a2 = 0 then (some (0, σ)) else (gz a2 <| nm (a1 - a1 / a2 * a2) fun (v1 : Int32) => some (v1, σ))) else (if a0 = 38 then (if a1 = 0 then (some (0, σ)) else (if a2 = 0 then (some (0, σ)) else (some (1, σ)))) else (if a0 = 42 then (nm (a1 * a2) fun (v2 : Int32) => some (v2, σ)) else (if a0 = 43 then (nm (a1 + a2) fun (v3 : Int32) => some (v3, σ)) else (if a0 = 45 then (nm (a1 - a2) fun (v4 : Int32) => some (v4, σ)) else (if a0 = 47 then (if a2 = 0 then (some (0, σ)) else (gz a2 <| nm (a1 / a2) fun (v5 : Int32) => some (v5, σ))) else (if a0 = 60 then (if a2 ≤ a1 then (some (0, σ)) else (some (1, σ))) else (if a0 = 61 then (if a1 = a2 then (some (1, σ)) else (some (0, σ))) else (if a0 = 62 then (if a1 ≤ a2 then (some (0, σ)) else (some (1, σ))) else (if a0 = 124 then (if a1 = 0 then (if a2 = 0 then (some (0, σ)) else (some (1, σ))) else (some (1, σ))) else (some (0, σ)))))))))))
set_option maxHeartbeats 4000000 in
set_option maxRecDepth 100000 in
theorem m_X5_joined {l : Launch} {σ : Mem} {Z : Int32 × Mem} {a0 : Int32} {a1 : Int32} {a2 : Int32} (hf : f_X5_joined a0 a1 a2 σ = some Z) : CT l yX5_joined cX5_joined 3 (some .int) 0 (fun _ => [.int a0, .int a1, .int a2]) σ Z := by
  refine g_openT RX5 (by decide) rfl (fun _ => Nat.le_of_ble_eq_true rfl) (fun p e s m below meth c D cI cB ad st ls E Y hr hk hl => ?_)
  have hx := E.1.1
  have hb := E.1.2.1
  have hl : lv_has ls 3 [(0, .int a0), (1, .int a1), (2, .int a2)] := hl
  unfold f_X5_joined at hf
  refine lv_iload_n (pc := 0) hx hb dX5_joined_0 rfl (lv_at hl 0 rfl) ?_
  by_cases hc : a0 = 37
  · rw [if_pos hc] at hf
    refine lv_lookup (pc := 1) (tgt := 177) (off := 176) hx hb dX5_joined_1 rfl (by rw [hc]; rfl) (by decide) ?_
    refine lv_iload_n (pc := 177) hx hb dX5_joined_177 rfl (lv_at hl 2 rfl) ?_
    refine g_if_ne (pc := 178) (tgt := 185) E dX5_joined_178 (by decide) hf (fun hf => ?_) (fun hf => ?_)
    · refine lv_iload_n (pc := 185) hx hb dX5_joined_185 rfl (lv_at hl 1 rfl) ?_
      refine lv_iload_n (pc := 186) hx hb dX5_joined_186 rfl (lv_at hl 2 rfl) ?_
      refine g_irem (pc := 187) E dX5_joined_187 hf (fun v1 hf => ?_)
      exact g_iret (pc := 188) E Y hr hk dX5_joined_188 hf
    · refine lv_iconst (pc := 181) (v := 0) hx hb dX5_joined_181 (by decide) ?_
      refine lv_goto (pc := 182) (tgt := 188) hx hb dX5_joined_182 (by decide) ?_
      exact g_iret (pc := 188) E Y hr hk dX5_joined_188 hf
  · rw [if_neg hc] at hf
    have n_37 := ti_ne (n := 37) (by decide) hc
    clear hc
    by_cases hc : a0 = 38
    · rw [if_pos hc] at hf
      refine lv_lookup (pc := 1) (tgt := 106) (off := 105) hx hb dX5_joined_1 rfl (by rw [hc]; rfl) (by decide) ?_
      refine lv_iload_n (pc := 106) hx hb dX5_joined_106 rfl (lv_at hl 1 rfl) ?_
      refine g_if_eq (pc := 107) (tgt := 118) E dX5_joined_107 (by decide) hf (fun hf => ?_) (fun hf => ?_)
      · refine lv_iconst (pc := 118) (v := 0) hx hb dX5_joined_118 (by decide) ?_
        exact g_iret (pc := 119) E Y hr hk dX5_joined_119 hf
      · refine lv_iload_n (pc := 110) hx hb dX5_joined_110 rfl (lv_at hl 2 rfl) ?_
        refine g_if_eq (pc := 111) (tgt := 118) E dX5_joined_111 (by decide) hf (fun hf => ?_) (fun hf => ?_)
        · refine lv_iconst (pc := 118) (v := 0) hx hb dX5_joined_118 (by decide) ?_
          exact g_iret (pc := 119) E Y hr hk dX5_joined_119 hf
        · refine lv_iconst (pc := 114) (v := 1) hx hb dX5_joined_114 (by decide) ?_
          refine lv_goto (pc := 115) (tgt := 119) hx hb dX5_joined_115 (by decide) ?_
          exact g_iret (pc := 119) E Y hr hk dX5_joined_119 hf
    · rw [if_neg hc] at hf
      have n_38 := ti_ne (n := 38) (by decide) hc
      clear hc
      by_cases hc : a0 = 42
      · rw [if_pos hc] at hf
        refine lv_lookup (pc := 1) (tgt := 161) (off := 160) hx hb dX5_joined_1 rfl (by rw [hc]; rfl) (by decide) ?_
        refine lv_iload_n (pc := 161) hx hb dX5_joined_161 rfl (lv_at hl 1 rfl) ?_
        refine lv_iload_n (pc := 162) hx hb dX5_joined_162 rfl (lv_at hl 2 rfl) ?_
        refine g_imul (pc := 163) E dX5_joined_163 hf (fun v2 hf => ?_)
        exact g_iret (pc := 164) E Y hr hk dX5_joined_164 hf
      · rw [if_neg hc] at hf
        have n_42 := ti_ne (n := 42) (by decide) hc
        clear hc
        by_cases hc : a0 = 43
        · rw [if_pos hc] at hf
          refine lv_lookup (pc := 1) (tgt := 153) (off := 152) hx hb dX5_joined_1 rfl (by rw [hc]; rfl) (by decide) ?_
          refine lv_iload_n (pc := 153) hx hb dX5_joined_153 rfl (lv_at hl 1 rfl) ?_
          refine lv_iload_n (pc := 154) hx hb dX5_joined_154 rfl (lv_at hl 2 rfl) ?_
          refine g_iadd (pc := 155) E dX5_joined_155 hf (fun v3 hf => ?_)
          exact g_iret (pc := 156) E Y hr hk dX5_joined_156 hf
        · rw [if_neg hc] at hf
          have n_43 := ti_ne (n := 43) (by decide) hc
          clear hc
          by_cases hc : a0 = 45
          · rw [if_pos hc] at hf
            refine lv_lookup (pc := 1) (tgt := 157) (off := 156) hx hb dX5_joined_1 rfl (by rw [hc]; rfl) (by decide) ?_
            refine lv_iload_n (pc := 157) hx hb dX5_joined_157 rfl (lv_at hl 1 rfl) ?_
            refine lv_iload_n (pc := 158) hx hb dX5_joined_158 rfl (lv_at hl 2 rfl) ?_
            refine g_isub (pc := 159) E dX5_joined_159 hf (fun v4 hf => ?_)
            exact g_iret (pc := 160) E Y hr hk dX5_joined_160 hf
          · rw [if_neg hc] at hf
            have n_45 := ti_ne (n := 45) (by decide) hc
            clear hc
            by_cases hc : a0 = 47
            · rw [if_pos hc] at hf
              refine lv_lookup (pc := 1) (tgt := 165) (off := 164) hx hb dX5_joined_1 rfl (by rw [hc]; rfl) (by decide) ?_
              refine lv_iload_n (pc := 165) hx hb dX5_joined_165 rfl (lv_at hl 2 rfl) ?_
              refine g_if_ne (pc := 166) (tgt := 173) E dX5_joined_166 (by decide) hf (fun hf => ?_) (fun hf => ?_)
              · refine lv_iload_n (pc := 173) hx hb dX5_joined_173 rfl (lv_at hl 1 rfl) ?_
                refine lv_iload_n (pc := 174) hx hb dX5_joined_174 rfl (lv_at hl 2 rfl) ?_
                refine g_idiv (pc := 175) E dX5_joined_175 hf (fun v5 hf => ?_)
                exact g_iret (pc := 176) E Y hr hk dX5_joined_176 hf
              · refine lv_iconst (pc := 169) (v := 0) hx hb dX5_joined_169 (by decide) ?_
                refine lv_goto (pc := 170) (tgt := 176) hx hb dX5_joined_170 (by decide) ?_
                exact g_iret (pc := 176) E Y hr hk dX5_joined_176 hf
            · rw [if_neg hc] at hf
              have n_47 := ti_ne (n := 47) (by decide) hc
              clear hc
              by_cases hc : a0 = 60
              · rw [if_pos hc] at hf
                refine lv_lookup (pc := 1) (tgt := 120) (off := 119) hx hb dX5_joined_1 rfl (by rw [hc]; rfl) (by decide) ?_
                refine lv_iload_n (pc := 120) hx hb dX5_joined_120 rfl (lv_at hl 1 rfl) ?_
                refine lv_iload_n (pc := 121) hx hb dX5_joined_121 rfl (lv_at hl 2 rfl) ?_
                refine g_icmp_ge (pc := 122) (tgt := 129) E dX5_joined_122 (by decide) hf (fun hf => ?_) (fun hf => ?_)
                · refine lv_iconst (pc := 129) (v := 0) hx hb dX5_joined_129 (by decide) ?_
                  exact g_iret (pc := 130) E Y hr hk dX5_joined_130 hf
                · refine lv_iconst (pc := 125) (v := 1) hx hb dX5_joined_125 (by decide) ?_
                  refine lv_goto (pc := 126) (tgt := 130) hx hb dX5_joined_126 (by decide) ?_
                  exact g_iret (pc := 130) E Y hr hk dX5_joined_130 hf
              · rw [if_neg hc] at hf
                have n_60 := ti_ne (n := 60) (by decide) hc
                clear hc
                by_cases hc : a0 = 61
                · rw [if_pos hc] at hf
                  refine lv_lookup (pc := 1) (tgt := 131) (off := 130) hx hb dX5_joined_1 rfl (by rw [hc]; rfl) (by decide) ?_
                  refine lv_iload_n (pc := 131) hx hb dX5_joined_131 rfl (lv_at hl 1 rfl) ?_
                  refine lv_iload_n (pc := 132) hx hb dX5_joined_132 rfl (lv_at hl 2 rfl) ?_
                  refine g_icmp_ne (pc := 133) (tgt := 140) E dX5_joined_133 (by decide) hf (fun hf => ?_) (fun hf => ?_)
                  · refine lv_iconst (pc := 140) (v := 0) hx hb dX5_joined_140 (by decide) ?_
                    exact g_iret (pc := 141) E Y hr hk dX5_joined_141 hf
                  · refine lv_iconst (pc := 136) (v := 1) hx hb dX5_joined_136 (by decide) ?_
                    refine lv_goto (pc := 137) (tgt := 141) hx hb dX5_joined_137 (by decide) ?_
                    exact g_iret (pc := 141) E Y hr hk dX5_joined_141 hf
                · rw [if_neg hc] at hf
                  have n_61 := ti_ne (n := 61) (by decide) hc
                  clear hc
                  by_cases hc : a0 = 62
                  · rw [if_pos hc] at hf
                    refine lv_lookup (pc := 1) (tgt := 142) (off := 141) hx hb dX5_joined_1 rfl (by rw [hc]; rfl) (by decide) ?_
                    refine lv_iload_n (pc := 142) hx hb dX5_joined_142 rfl (lv_at hl 1 rfl) ?_
                    refine lv_iload_n (pc := 143) hx hb dX5_joined_143 rfl (lv_at hl 2 rfl) ?_
                    refine g_icmp_le (pc := 144) (tgt := 151) E dX5_joined_144 (by decide) hf (fun hf => ?_) (fun hf => ?_)
                    · refine lv_iconst (pc := 151) (v := 0) hx hb dX5_joined_151 (by decide) ?_
                      exact g_iret (pc := 152) E Y hr hk dX5_joined_152 hf
                    · refine lv_iconst (pc := 147) (v := 1) hx hb dX5_joined_147 (by decide) ?_
                      refine lv_goto (pc := 148) (tgt := 152) hx hb dX5_joined_148 (by decide) ?_
                      exact g_iret (pc := 152) E Y hr hk dX5_joined_152 hf
                  · rw [if_neg hc] at hf
                    have n_62 := ti_ne (n := 62) (by decide) hc
                    clear hc
                    by_cases hc : a0 = 124
                    · rw [if_pos hc] at hf
                      refine lv_lookup (pc := 1) (tgt := 92) (off := 91) hx hb dX5_joined_1 rfl (by rw [hc]; rfl) (by decide) ?_
                      refine lv_iload_n (pc := 92) hx hb dX5_joined_92 rfl (lv_at hl 1 rfl) ?_
                      refine g_if_ne (pc := 93) (tgt := 100) E dX5_joined_93 (by decide) hf (fun hf => ?_) (fun hf => ?_)
                      · refine lv_iconst (pc := 100) (v := 1) hx hb dX5_joined_100 (by decide) ?_
                        refine lv_goto (pc := 101) (tgt := 105) hx hb dX5_joined_101 (by decide) ?_
                        exact g_iret (pc := 105) E Y hr hk dX5_joined_105 hf
                      · refine lv_iload_n (pc := 96) hx hb dX5_joined_96 rfl (lv_at hl 2 rfl) ?_
                        refine g_if_eq (pc := 97) (tgt := 104) E dX5_joined_97 (by decide) hf (fun hf => ?_) (fun hf => ?_)
                        · refine lv_iconst (pc := 104) (v := 0) hx hb dX5_joined_104 (by decide) ?_
                          exact g_iret (pc := 105) E Y hr hk dX5_joined_105 hf
                        · refine lv_iconst (pc := 100) (v := 1) hx hb dX5_joined_100 (by decide) ?_
                          refine lv_goto (pc := 101) (tgt := 105) hx hb dX5_joined_101 (by decide) ?_
                          exact g_iret (pc := 105) E Y hr hk dX5_joined_105 hf
                    · rw [if_neg hc] at hf
                      have n_124 := ti_ne (n := 124) (by decide) hc
                      clear hc
                      refine lv_lookup (pc := 1) (tgt := 189) (off := 188) hx hb dX5_joined_1 rfl (lk_def (by simp only [List.all_cons, List.all_nil, Bool.and_true, Bool.and_eq_true, bne_iff_ne, ne_eq]; omega)) (by decide) ?_
                      refine lv_iconst (pc := 189) (v := 0) hx hb dX5_joined_189 (by decide) ?_
                      exact g_iret (pc := 190) E Y hr hk dX5_joined_190 hf
def f_X5_named (a0 : Int32) (a1 : Int32) (a2 : Int32) (a3 : Int32) (σ : Mem) : Res := if a0 = (-2) then (some (a2, σ)) else (if a0 = (-1) then (some (a1, σ)) else (some (a3, σ)))
set_option maxHeartbeats 4000000 in
set_option maxRecDepth 100000 in
theorem m_X5_named {l : Launch} {σ : Mem} {Z : Int32 × Mem} {a0 : Int32} {a1 : Int32} {a2 : Int32} {a3 : Int32} (hf : f_X5_named a0 a1 a2 a3 σ = some Z) : CT l yX5_named cX5_named 4 (some .int) 0 (fun _ => [.int a0, .int a1, .int a2, .int a3]) σ Z := by
  refine g_openT RX5 (by decide) rfl (fun _ => Nat.le_of_ble_eq_true rfl) (fun p e s m below meth c D cI cB ad st ls E Y hr hk hl => ?_)
  have hx := E.1.1
  have hb := E.1.2.1
  have hl : lv_has ls 4 [(0, .int a0), (1, .int a1), (2, .int a2), (3, .int a3)] := hl
  unfold f_X5_named at hf
  refine lv_iload_n (pc := 0) hx hb dX5_named_0 rfl (lv_at hl 0 rfl) ?_
  by_cases hc : a0 = (-2)
  · rw [if_pos hc] at hf
    refine lv_lookup (pc := 1) (tgt := 30) (off := 29) hx hb dX5_named_1 rfl (by rw [hc]; rfl) (by decide) ?_
    refine lv_iload_n (pc := 30) hx hb dX5_named_30 rfl (lv_at hl 2 rfl) ?_
    exact g_iret (pc := 31) E Y hr hk dX5_named_31 hf
  · rw [if_neg hc] at hf
    have n_m2 := ti_ne (n := -2) (by decide) hc
    clear hc
    by_cases hc : a0 = (-1)
    · rw [if_pos hc] at hf
      refine lv_lookup (pc := 1) (tgt := 28) (off := 27) hx hb dX5_named_1 rfl (by rw [hc]; rfl) (by decide) ?_
      refine lv_iload_n (pc := 28) hx hb dX5_named_28 rfl (lv_at hl 1 rfl) ?_
      exact g_iret (pc := 29) E Y hr hk dX5_named_29 hf
    · rw [if_neg hc] at hf
      have n_m1 := ti_ne (n := -1) (by decide) hc
      clear hc
      refine lv_lookup (pc := 1) (tgt := 32) (off := 31) hx hb dX5_named_1 rfl (lk_def (by simp only [List.all_cons, List.all_nil, Bool.and_true, Bool.and_eq_true, bne_iff_ne, ne_eq]; omega)) (by decide) ?_
      refine lv_iload_n (pc := 32) hx hb dX5_named_32 rfl (lv_at hl 3 rfl) ?_
      exact g_iret (pc := 33) E Y hr hk dX5_named_33 hf
def fb_X5_work_16_L6 (bk : Int32 → Int32 → Int32 → Int32 → Int32 → Mem → Res) (x1 : Int32) (x2 : Int32) (x3 : Int32) (x4 : Int32) (x5 : Int32) (σ : Mem) : Res := nm (σ 16 2) fun (v1 : Int32) => if v1 ≤ x5 then (gi 0 60 <| nm (σ 18 (0 : Int32).toNatClampNeg) fun (v2 : Int32) => some (v2, σ)) else (if 60 ≤ x4 then (gi 0 60 <| nm (σ 18 (0 : Int32).toNatClampNeg) fun (v3 : Int32) => some (v3, σ)) else (gi x5 60 <| nm (σ 17 x5.toNatClampNeg) fun (v4 : Int32) => if v4 < (-3) then (if v4 = (-33) then (if 1 ≤ x4 then (nm (x4 - 1) fun (v15 : Int32) => nm (x4 - 1) fun (v16 : Int32) => gi v16 60 <| nm (σ 18 v16.toNatClampNeg) fun (v17 : Int32) => if v17 = 0 then (gi v15 60 <| nm (mset σ 18 v15.toNatClampNeg 1) fun (μ20 : Mem) => nm (x5 + 1) fun (v21 : Int32) => bk x1 x2 x3 x4 v21 μ20) else (gi v15 60 <| nm (mset σ 18 v15.toNatClampNeg 0) fun (μ18 : Mem) => nm (x5 + 1) fun (v19 : Int32) => bk x1 x2 x3 x4 v19 μ18)) else (some (0, σ))) else (if 2 ≤ x4 then (nm (x4 + (-1)) fun (v5 : Int32) => nm (v5 - 1) fun (v6 : Int32) => nm (-v4) fun (v7 : Int32) => nm (v5 - 1) fun (v8 : Int32) => gi v8 60 <| nm (σ 18 v8.toNatClampNeg) fun (v9 : Int32) => gi v5 60 <| nm (σ 18 v5.toNatClampNeg) fun (v10 : Int32) => bd (f_X5_joined v7 v9 v10 σ) fun v11 μ12 => gi v6 60 <| nm (mset μ12 18 v6.toNatClampNeg v11) fun (μ13 : Mem) => nm (x5 + 1) fun (v14 : Int32) => bk x1 x2 x3 v5 v14 μ13) else (some (0, σ)))) else (if v4 < 0 then (bd (f_X5_named v4 x1 x2 x3 σ) fun v22 μ23 => gi x4 60 <| nm (mset μ23 18 x4.toNatClampNeg v22) fun (μ24 : Mem) => nm (x4 + 1) fun (v25 : Int32) => nm (x5 + 1) fun (v26 : Int32) => bk x1 x2 x3 v25 v26 μ24) else (gi x4 60 <| nm (mset σ 18 x4.toNatClampNeg v4) fun (μ27 : Mem) => nm (x4 + 1) fun (v28 : Int32) => nm (x5 + 1) fun (v29 : Int32) => bk x1 x2 x3 v28 v29 μ27))))
def f_X5_work_16_L6 : Nat → Int32 → Int32 → Int32 → Int32 → Int32 → Mem → Res
  | 0, _, _, _, _, _, _ => none
  | n + 1, x1, x2, x3, x4, x5, σ => fb_X5_work_16_L6 (f_X5_work_16_L6 n) x1 x2 x3 x4 x5 σ
def f_X5_work_16 (a0 : Int32) (a1 : Int32) (a2 : Int32) (σ : Mem) : Res := f_X5_work_16_L6 1000 a0 a1 a2 0 0 σ
set_option maxHeartbeats 4000000 in
set_option maxRecDepth 100000 in
theorem m_X5_work_16 {l : Launch} {σ : Mem} {Z : Int32 × Mem} {a0 : Int32} {a1 : Int32} {a2 : Int32} (hf : f_X5_work_16 a0 a1 a2 σ = some Z) : CT l yX5_work cX5_work 7 (some .int) 1 (fun ad => [.ref (ad 16), .int a0, .int a1, .int a2]) σ Z := by
  refine g_openT RX5 (by decide) rfl (fun _ => Nat.le_of_ble_eq_true rfl) (fun p e s m below meth c D cI cB ad st ls E Y hr hk hl => ?_)
  have hx := E.1.1
  have hb := E.1.2.1
  have hl : lv_has ls 7 [(0, .ref (ad 16)), (1, .int a0), (2, .int a1), (3, .int a2)] := hl
  have hL_6 : ∀ (n : Nat) (x1 : Int32) (x2 : Int32) (x3 : Int32) (x4 : Int32) (x5 : Int32) (σ : Mem) (H : Heap) (locs : List Loc) (ls : Array Slot), f_X5_work_16_L6 n x1 x2 x3 x4 x5 σ = some Z → Wo D cI cB ad (AA ad) σ s H locs → lv_has ls 7 [(0, .ref (ad 16)), (1, .int x1), (2, .int x2), (3, .int x3), (4, .int x4), (5, .int x5)] → W p l e (rmd 1) s m ([.ref (ad 16), .int a0, .int a1, .int a2] : List Value).toArray below meth c H locs 0 0 (QT_ below D cI cB ad st Z ([.ref (ad 16), .int a0, .int a1, .int a2] : List Value).toArray s) (F0 m 6 ls []) := by
    intro n
    induction n with
    | zero =>
      intro x1 x2 x3 x4 x5 σ H locs ls hf
      cases (show (none : Res) = some Z from hf)
    | succ n ih =>
      intro x1 x2 x3 x4 x5 σ H locs ls hf Y hl
      have hf : fb_X5_work_16_L6 (f_X5_work_16_L6 n) x1 x2 x3 x4 x5 σ = some Z := hf
      unfold fb_X5_work_16_L6 at hf
      refine lv_iload (pc := 6) hx hb dX5_work_6 (lv_at hl 5 rfl) ?_
      refine lv_aload_n (pc := 8) hx hb dX5_work_8 rfl (lv_at hl 0 rfl) ?_
      refine g_geti (pc := 9) E Y 16 2 S_16 rfl V_5 (by decide) AL_X5 q_292 dX5_work_9 hf (fun v1 hf => ?_)
      refine g_icmp_ge (pc := 12) (tgt := 161) E dX5_work_12 (by decide) hf (fun hf => ?_) (fun hf => ?_)
      · refine lv_aload_n (pc := 161) hx hb dX5_work_161 rfl (lv_at hl 0 rfl) ?_
        refine g_getr (pc := 162) E Y 16 1 18 S_16 rfl V_5 (by decide) AL_X5 q_291 dX5_work_162 ?_
        refine lv_iconst (pc := 165) (v := 0) hx hb dX5_work_165 (by decide) ?_
        refine g_iald (pc := 166) E Y 18 S_18 dX5_work_166 hf (fun v2 hf => ?_)
        exact g_iret (pc := 167) E Y hr hk dX5_work_167 hf
      · refine lv_iload (pc := 15) hx hb dX5_work_15 (lv_at hl 4 rfl) ?_
        refine lv_bipush (pc := 17) (v := 60) hx hb dX5_work_17 (by decide) ?_
        refine g_icmp_ge (pc := 19) (tgt := 161) E dX5_work_19 (by decide) hf (fun hf => ?_) (fun hf => ?_)
        · refine lv_aload_n (pc := 161) hx hb dX5_work_161 rfl (lv_at hl 0 rfl) ?_
          refine g_getr (pc := 162) E Y 16 1 18 S_16 rfl V_5 (by decide) AL_X5 q_291 dX5_work_162 ?_
          refine lv_iconst (pc := 165) (v := 0) hx hb dX5_work_165 (by decide) ?_
          refine g_iald (pc := 166) E Y 18 S_18 dX5_work_166 hf (fun v3 hf => ?_)
          exact g_iret (pc := 167) E Y hr hk dX5_work_167 hf
        · refine lv_aload_n (pc := 22) hx hb dX5_work_22 rfl (lv_at hl 0 rfl) ?_
          refine g_getr (pc := 23) E Y 16 0 17 S_16 rfl V_5 (by decide) AL_X5 q_294 dX5_work_23 ?_
          refine lv_iload (pc := 26) hx hb dX5_work_26 (lv_at hl 5 rfl) ?_
          refine g_iald (pc := 28) E Y 17 S_17 dX5_work_28 hf (fun v4 hf => ?_)
          refine lv_istore (pc := 29) (lv' := [(6, .int v4), (0, .ref (ad 16)), (1, .int x1), (2, .int x2), (3, .int x3), (4, .int x4), (5, .int x5)]) hx hb dX5_work_29 hl (by decide) rfl (fun ls hl => ?_)
          refine lv_iload (pc := 31) hx hb dX5_work_31 (lv_at hl 0 rfl) ?_
          refine lv_bipush (pc := 33) (v := (-3)) hx hb dX5_work_33 (by decide) ?_
          refine g_icmp_lt (pc := 35) (tgt := 69) E dX5_work_35 (by decide) hf (fun hf => ?_) (fun hf => ?_)
          · refine lv_iload (pc := 69) hx hb dX5_work_69 (lv_at hl 0 rfl) ?_
            refine lv_bipush (pc := 71) (v := (-33)) hx hb dX5_work_71 (by decide) ?_
            refine g_icmp_ne (pc := 73) (tgt := 113) E dX5_work_73 (by decide) hf (fun hf => ?_) (fun hf => ?_)
            · refine lv_iload (pc := 113) hx hb dX5_work_113 (lv_at hl 5 rfl) ?_
              refine lv_iconst (pc := 115) (v := 2) hx hb dX5_work_115 (by decide) ?_
              refine g_icmp_ge (pc := 116) (tgt := 121) E dX5_work_116 (by decide) hf (fun hf => ?_) (fun hf => ?_)
              · refine g_iinc (pc := 121) E (fun v5 => [(4, .int v5), (6, .int v4), (0, .ref (ad 16)), (1, .int x1), (2, .int x2), (3, .int x3), (5, .int x5)]) dX5_work_121 hl (k := 5) rfl (t := (-1)) (by decide) (by decide) (fun _ => rfl) hf (fun v5 hf ls hl => ?_)
                refine lv_aload_n (pc := 124) hx hb dX5_work_124 rfl (lv_at hl 2 rfl) ?_
                refine g_getr (pc := 125) E Y 16 1 18 S_16 rfl V_5 (by decide) AL_X5 q_291 dX5_work_125 ?_
                refine lv_iload (pc := 128) hx hb dX5_work_128 (lv_at hl 0 rfl) ?_
                refine lv_iconst (pc := 130) (v := 1) hx hb dX5_work_130 (by decide) ?_
                refine g_isub (pc := 131) E dX5_work_131 hf (fun v6 hf => ?_)
                refine lv_iload (pc := 132) hx hb dX5_work_132 (lv_at hl 1 rfl) ?_
                refine g_ineg (pc := 134) E dX5_work_134 hf (fun v7 hf => ?_)
                refine lv_aload_n (pc := 135) hx hb dX5_work_135 rfl (lv_at hl 2 rfl) ?_
                refine g_getr (pc := 136) E Y 16 1 18 S_16 rfl V_5 (by decide) AL_X5 q_291 dX5_work_136 ?_
                refine lv_iload (pc := 139) hx hb dX5_work_139 (lv_at hl 0 rfl) ?_
                refine lv_iconst (pc := 141) (v := 1) hx hb dX5_work_141 (by decide) ?_
                refine g_isub (pc := 142) E dX5_work_142 hf (fun v8 hf => ?_)
                refine g_iald (pc := 143) E Y 18 S_18 dX5_work_143 hf (fun v9 hf => ?_)
                refine lv_aload_n (pc := 144) hx hb dX5_work_144 rfl (lv_at hl 2 rfl) ?_
                refine g_getr (pc := 145) E Y 16 1 18 S_16 rfl V_5 (by decide) AL_X5 q_291 dX5_work_145 ?_
                refine lv_iload (pc := 148) hx hb dX5_work_148 (lv_at hl 0 rfl) ?_
                refine g_iald (pc := 150) E Y 18 S_18 dX5_work_150 hf (fun v10 hf => ?_)
                refine g_callSi (pc := 151) E Y o_X5_joined q_609 [.int v7, .int v9, .int v10] rfl rfl (hR_of (by omega) (by decide)) hl.1 (rest := [.int v6, .ref (ad 18)]) rfl (Nat.le_of_ble_eq_true rfl) dX5_work_151 (fun z hz => m_X5_joined hz) hf (fun v11 μ12 H locs hf Y => ?_)
                refine g_iast (pc := 154) E Y 18 S_18 dX5_work_154 hf (fun μ13 H locs hf Y => ?_)
                refine g_iinc (pc := 155) E (fun v14 => [(5, .int v14), (4, .int v5), (6, .int v4), (0, .ref (ad 16)), (1, .int x1), (2, .int x2), (3, .int x3)]) dX5_work_155 hl (k := 6) rfl (t := 1) (by decide) (by decide) (fun _ => rfl) hf (fun v14 hf ls hl => ?_)
                refine lv_goto (pc := 158) (tgt := 6) hx hb dX5_work_158 (by decide) ?_
                exact ih _ _ _ _ _ _ _ _ _ hf Y (lv_sub hl [3, 4, 5, 6, 1, 0] rfl)
              · refine lv_iconst (pc := 119) (v := 0) hx hb dX5_work_119 (by decide) ?_
                exact g_iret (pc := 120) E Y hr hk dX5_work_120 hf
            · refine lv_iload (pc := 76) hx hb dX5_work_76 (lv_at hl 5 rfl) ?_
              refine lv_iconst (pc := 78) (v := 1) hx hb dX5_work_78 (by decide) ?_
              refine g_icmp_ge (pc := 79) (tgt := 84) E dX5_work_79 (by decide) hf (fun hf => ?_) (fun hf => ?_)
              · refine lv_aload_n (pc := 84) hx hb dX5_work_84 rfl (lv_at hl 1 rfl) ?_
                refine g_getr (pc := 85) E Y 16 1 18 S_16 rfl V_5 (by decide) AL_X5 q_291 dX5_work_85 ?_
                refine lv_iload (pc := 88) hx hb dX5_work_88 (lv_at hl 5 rfl) ?_
                refine lv_iconst (pc := 90) (v := 1) hx hb dX5_work_90 (by decide) ?_
                refine g_isub (pc := 91) E dX5_work_91 hf (fun v15 hf => ?_)
                refine lv_aload_n (pc := 92) hx hb dX5_work_92 rfl (lv_at hl 1 rfl) ?_
                refine g_getr (pc := 93) E Y 16 1 18 S_16 rfl V_5 (by decide) AL_X5 q_291 dX5_work_93 ?_
                refine lv_iload (pc := 96) hx hb dX5_work_96 (lv_at hl 5 rfl) ?_
                refine lv_iconst (pc := 98) (v := 1) hx hb dX5_work_98 (by decide) ?_
                refine g_isub (pc := 99) E dX5_work_99 hf (fun v16 hf => ?_)
                refine g_iald (pc := 100) E Y 18 S_18 dX5_work_100 hf (fun v17 hf => ?_)
                refine g_if_ne (pc := 101) (tgt := 108) E dX5_work_101 (by decide) hf (fun hf => ?_) (fun hf => ?_)
                · refine lv_iconst (pc := 108) (v := 0) hx hb dX5_work_108 (by decide) ?_
                  refine g_iast (pc := 109) E Y 18 S_18 dX5_work_109 hf (fun μ18 H locs hf Y => ?_)
                  refine lv_goto (pc := 110) (tgt := 155) hx hb dX5_work_110 (by decide) ?_
                  refine g_iinc (pc := 155) E (fun v19 => [(5, .int v19), (6, .int v4), (0, .ref (ad 16)), (1, .int x1), (2, .int x2), (3, .int x3), (4, .int x4)]) dX5_work_155 hl (k := 6) rfl (t := 1) (by decide) (by decide) (fun _ => rfl) hf (fun v19 hf ls hl => ?_)
                  refine lv_goto (pc := 158) (tgt := 6) hx hb dX5_work_158 (by decide) ?_
                  exact ih _ _ _ _ _ _ _ _ _ hf Y (lv_sub hl [2, 3, 4, 5, 6, 0] rfl)
                · refine lv_iconst (pc := 104) (v := 1) hx hb dX5_work_104 (by decide) ?_
                  refine lv_goto (pc := 105) (tgt := 109) hx hb dX5_work_105 (by decide) ?_
                  refine g_iast (pc := 109) E Y 18 S_18 dX5_work_109 hf (fun μ20 H locs hf Y => ?_)
                  refine lv_goto (pc := 110) (tgt := 155) hx hb dX5_work_110 (by decide) ?_
                  refine g_iinc (pc := 155) E (fun v21 => [(5, .int v21), (6, .int v4), (0, .ref (ad 16)), (1, .int x1), (2, .int x2), (3, .int x3), (4, .int x4)]) dX5_work_155 hl (k := 6) rfl (t := 1) (by decide) (by decide) (fun _ => rfl) hf (fun v21 hf ls hl => ?_)
                  refine lv_goto (pc := 158) (tgt := 6) hx hb dX5_work_158 (by decide) ?_
                  exact ih _ _ _ _ _ _ _ _ _ hf Y (lv_sub hl [2, 3, 4, 5, 6, 0] rfl)
              · refine lv_iconst (pc := 82) (v := 0) hx hb dX5_work_82 (by decide) ?_
                exact g_iret (pc := 83) E Y hr hk dX5_work_83 hf
          · refine lv_aload_n (pc := 38) hx hb dX5_work_38 rfl (lv_at hl 1 rfl) ?_
            refine g_getr (pc := 39) E Y 16 1 18 S_16 rfl V_5 (by decide) AL_X5 q_291 dX5_work_39 ?_
            refine lv_iload (pc := 42) hx hb dX5_work_42 (lv_at hl 5 rfl) ?_
            refine lv_iload (pc := 44) hx hb dX5_work_44 (lv_at hl 0 rfl) ?_
            refine g_if_lt (pc := 46) (tgt := 54) E dX5_work_46 (by decide) hf (fun hf => ?_) (fun hf => ?_)
            · refine lv_iload (pc := 54) hx hb dX5_work_54 (lv_at hl 0 rfl) ?_
              refine lv_iload_n (pc := 56) hx hb dX5_work_56 rfl (lv_at hl 2 rfl) ?_
              refine lv_iload_n (pc := 57) hx hb dX5_work_57 rfl (lv_at hl 3 rfl) ?_
              refine lv_iload_n (pc := 58) hx hb dX5_work_58 rfl (lv_at hl 4 rfl) ?_
              refine g_callSi (pc := 59) E Y o_X5_named q_608 [.int v4, .int x1, .int x2, .int x3] rfl rfl (hR_of (by omega) (by decide)) hl.1 (rest := [.int x4, .ref (ad 18)]) rfl (Nat.le_of_ble_eq_true rfl) dX5_work_59 (fun z hz => m_X5_named hz) hf (fun v22 μ23 H locs hf Y => ?_)
              refine g_iast (pc := 62) E Y 18 S_18 dX5_work_62 hf (fun μ24 H locs hf Y => ?_)
              refine g_iinc (pc := 63) E (fun v25 => [(4, .int v25), (6, .int v4), (0, .ref (ad 16)), (1, .int x1), (2, .int x2), (3, .int x3), (5, .int x5)]) dX5_work_63 hl (k := 5) rfl (t := 1) (by decide) (by decide) (fun _ => rfl) hf (fun v25 hf ls hl => ?_)
              refine lv_goto (pc := 66) (tgt := 155) hx hb dX5_work_66 (by decide) ?_
              refine g_iinc (pc := 155) E (fun v26 => [(5, .int v26), (4, .int v25), (6, .int v4), (0, .ref (ad 16)), (1, .int x1), (2, .int x2), (3, .int x3)]) dX5_work_155 hl (k := 6) rfl (t := 1) (by decide) (by decide) (fun _ => rfl) hf (fun v26 hf ls hl => ?_)
              refine lv_goto (pc := 158) (tgt := 6) hx hb dX5_work_158 (by decide) ?_
              exact ih _ _ _ _ _ _ _ _ _ hf Y (lv_sub hl [3, 4, 5, 6, 1, 0] rfl)
            · refine lv_iload (pc := 49) hx hb dX5_work_49 (lv_at hl 0 rfl) ?_
              refine lv_goto (pc := 51) (tgt := 62) hx hb dX5_work_51 (by decide) ?_
              refine g_iast (pc := 62) E Y 18 S_18 dX5_work_62 hf (fun μ27 H locs hf Y => ?_)
              refine g_iinc (pc := 63) E (fun v28 => [(4, .int v28), (6, .int v4), (0, .ref (ad 16)), (1, .int x1), (2, .int x2), (3, .int x3), (5, .int x5)]) dX5_work_63 hl (k := 5) rfl (t := 1) (by decide) (by decide) (fun _ => rfl) hf (fun v28 hf ls hl => ?_)
              refine lv_goto (pc := 66) (tgt := 155) hx hb dX5_work_66 (by decide) ?_
              refine g_iinc (pc := 155) E (fun v29 => [(5, .int v29), (4, .int v28), (6, .int v4), (0, .ref (ad 16)), (1, .int x1), (2, .int x2), (3, .int x3)]) dX5_work_155 hl (k := 6) rfl (t := 1) (by decide) (by decide) (fun _ => rfl) hf (fun v29 hf ls hl => ?_)
              refine lv_goto (pc := 158) (tgt := 6) hx hb dX5_work_158 (by decide) ?_
              exact ih _ _ _ _ _ _ _ _ _ hf Y (lv_sub hl [3, 4, 5, 6, 1, 0] rfl)
  unfold f_X5_work_16 at hf
  refine lv_iconst (pc := 0) (v := 0) hx hb dX5_work_0 (by decide) ?_
  refine lv_istore (pc := 1) (lv' := [(4, .int 0), (0, .ref (ad 16)), (1, .int a0), (2, .int a1), (3, .int a2)]) hx hb dX5_work_1 hl (by decide) rfl (fun ls hl => ?_)
  refine lv_iconst (pc := 3) (v := 0) hx hb dX5_work_3 (by decide) ?_
  refine lv_istore (pc := 4) (lv' := [(5, .int 0), (4, .int 0), (0, .ref (ad 16)), (1, .int a0), (2, .int a1), (3, .int a2)]) hx hb dX5_work_4 hl (by decide) rfl (fun ls hl => ?_)
  exact hL_6 1000 _ _ _ _ _ _ _ _ _ hf Y (lv_sub hl [2, 3, 4, 5, 1, 0] rfl)
def fb_X5_work_13_L6 (bk : Int32 → Int32 → Int32 → Int32 → Int32 → Mem → Res) (x1 : Int32) (x2 : Int32) (x3 : Int32) (x4 : Int32) (x5 : Int32) (σ : Mem) : Res := nm (σ 13 2) fun (v1 : Int32) => if v1 ≤ x5 then (gi 0 60 <| nm (σ 15 (0 : Int32).toNatClampNeg) fun (v2 : Int32) => some (v2, σ)) else (if 60 ≤ x4 then (gi 0 60 <| nm (σ 15 (0 : Int32).toNatClampNeg) fun (v3 : Int32) => some (v3, σ)) else (gi x5 60 <| nm (σ 14 x5.toNatClampNeg) fun (v4 : Int32) => if v4 < (-3) then (if v4 = (-33) then (if 1 ≤ x4 then (nm (x4 - 1) fun (v15 : Int32) => nm (x4 - 1) fun (v16 : Int32) => gi v16 60 <| nm (σ 15 v16.toNatClampNeg) fun (v17 : Int32) => if v17 = 0 then (gi v15 60 <| nm (mset σ 15 v15.toNatClampNeg 1) fun (μ20 : Mem) => nm (x5 + 1) fun (v21 : Int32) => bk x1 x2 x3 x4 v21 μ20) else (gi v15 60 <| nm (mset σ 15 v15.toNatClampNeg 0) fun (μ18 : Mem) => nm (x5 + 1) fun (v19 : Int32) => bk x1 x2 x3 x4 v19 μ18)) else (some (0, σ))) else (if 2 ≤ x4 then (nm (x4 + (-1)) fun (v5 : Int32) => nm (v5 - 1) fun (v6 : Int32) => nm (-v4) fun (v7 : Int32) => nm (v5 - 1) fun (v8 : Int32) => gi v8 60 <| nm (σ 15 v8.toNatClampNeg) fun (v9 : Int32) => gi v5 60 <| nm (σ 15 v5.toNatClampNeg) fun (v10 : Int32) => bd (f_X5_joined v7 v9 v10 σ) fun v11 μ12 => gi v6 60 <| nm (mset μ12 15 v6.toNatClampNeg v11) fun (μ13 : Mem) => nm (x5 + 1) fun (v14 : Int32) => bk x1 x2 x3 v5 v14 μ13) else (some (0, σ)))) else (if v4 < 0 then (bd (f_X5_named v4 x1 x2 x3 σ) fun v22 μ23 => gi x4 60 <| nm (mset μ23 15 x4.toNatClampNeg v22) fun (μ24 : Mem) => nm (x4 + 1) fun (v25 : Int32) => nm (x5 + 1) fun (v26 : Int32) => bk x1 x2 x3 v25 v26 μ24) else (gi x4 60 <| nm (mset σ 15 x4.toNatClampNeg v4) fun (μ27 : Mem) => nm (x4 + 1) fun (v28 : Int32) => nm (x5 + 1) fun (v29 : Int32) => bk x1 x2 x3 v28 v29 μ27))))
def f_X5_work_13_L6 : Nat → Int32 → Int32 → Int32 → Int32 → Int32 → Mem → Res
  | 0, _, _, _, _, _, _ => none
  | n + 1, x1, x2, x3, x4, x5, σ => fb_X5_work_13_L6 (f_X5_work_13_L6 n) x1 x2 x3 x4 x5 σ
def f_X5_work_13 (a0 : Int32) (a1 : Int32) (a2 : Int32) (σ : Mem) : Res := f_X5_work_13_L6 1000 a0 a1 a2 0 0 σ
set_option maxHeartbeats 4000000 in
set_option maxRecDepth 100000 in
theorem m_X5_work_13 {l : Launch} {σ : Mem} {Z : Int32 × Mem} {a0 : Int32} {a1 : Int32} {a2 : Int32} (hf : f_X5_work_13 a0 a1 a2 σ = some Z) : CT l yX5_work cX5_work 7 (some .int) 1 (fun ad => [.ref (ad 13), .int a0, .int a1, .int a2]) σ Z := by
  refine g_openT RX5 (by decide) rfl (fun _ => Nat.le_of_ble_eq_true rfl) (fun p e s m below meth c D cI cB ad st ls E Y hr hk hl => ?_)
  have hx := E.1.1
  have hb := E.1.2.1
  have hl : lv_has ls 7 [(0, .ref (ad 13)), (1, .int a0), (2, .int a1), (3, .int a2)] := hl
  have hL_6 : ∀ (n : Nat) (x1 : Int32) (x2 : Int32) (x3 : Int32) (x4 : Int32) (x5 : Int32) (σ : Mem) (H : Heap) (locs : List Loc) (ls : Array Slot), f_X5_work_13_L6 n x1 x2 x3 x4 x5 σ = some Z → Wo D cI cB ad (AA ad) σ s H locs → lv_has ls 7 [(0, .ref (ad 13)), (1, .int x1), (2, .int x2), (3, .int x3), (4, .int x4), (5, .int x5)] → W p l e (rmd 1) s m ([.ref (ad 13), .int a0, .int a1, .int a2] : List Value).toArray below meth c H locs 0 0 (QT_ below D cI cB ad st Z ([.ref (ad 13), .int a0, .int a1, .int a2] : List Value).toArray s) (F0 m 6 ls []) := by
    intro n
    induction n with
    | zero =>
      intro x1 x2 x3 x4 x5 σ H locs ls hf
      cases (show (none : Res) = some Z from hf)
    | succ n ih =>
      intro x1 x2 x3 x4 x5 σ H locs ls hf Y hl
      have hf : fb_X5_work_13_L6 (f_X5_work_13_L6 n) x1 x2 x3 x4 x5 σ = some Z := hf
      unfold fb_X5_work_13_L6 at hf
      refine lv_iload (pc := 6) hx hb dX5_work_6 (lv_at hl 5 rfl) ?_
      refine lv_aload_n (pc := 8) hx hb dX5_work_8 rfl (lv_at hl 0 rfl) ?_
      refine g_geti (pc := 9) E Y 13 2 S_13 rfl V_5 (by decide) AL_X5 q_292 dX5_work_9 hf (fun v1 hf => ?_)
      refine g_icmp_ge (pc := 12) (tgt := 161) E dX5_work_12 (by decide) hf (fun hf => ?_) (fun hf => ?_)
      · refine lv_aload_n (pc := 161) hx hb dX5_work_161 rfl (lv_at hl 0 rfl) ?_
        refine g_getr (pc := 162) E Y 13 1 15 S_13 rfl V_5 (by decide) AL_X5 q_291 dX5_work_162 ?_
        refine lv_iconst (pc := 165) (v := 0) hx hb dX5_work_165 (by decide) ?_
        refine g_iald (pc := 166) E Y 15 S_15 dX5_work_166 hf (fun v2 hf => ?_)
        exact g_iret (pc := 167) E Y hr hk dX5_work_167 hf
      · refine lv_iload (pc := 15) hx hb dX5_work_15 (lv_at hl 4 rfl) ?_
        refine lv_bipush (pc := 17) (v := 60) hx hb dX5_work_17 (by decide) ?_
        refine g_icmp_ge (pc := 19) (tgt := 161) E dX5_work_19 (by decide) hf (fun hf => ?_) (fun hf => ?_)
        · refine lv_aload_n (pc := 161) hx hb dX5_work_161 rfl (lv_at hl 0 rfl) ?_
          refine g_getr (pc := 162) E Y 13 1 15 S_13 rfl V_5 (by decide) AL_X5 q_291 dX5_work_162 ?_
          refine lv_iconst (pc := 165) (v := 0) hx hb dX5_work_165 (by decide) ?_
          refine g_iald (pc := 166) E Y 15 S_15 dX5_work_166 hf (fun v3 hf => ?_)
          exact g_iret (pc := 167) E Y hr hk dX5_work_167 hf
        · refine lv_aload_n (pc := 22) hx hb dX5_work_22 rfl (lv_at hl 0 rfl) ?_
          refine g_getr (pc := 23) E Y 13 0 14 S_13 rfl V_5 (by decide) AL_X5 q_294 dX5_work_23 ?_
          refine lv_iload (pc := 26) hx hb dX5_work_26 (lv_at hl 5 rfl) ?_
          refine g_iald (pc := 28) E Y 14 S_14 dX5_work_28 hf (fun v4 hf => ?_)
          refine lv_istore (pc := 29) (lv' := [(6, .int v4), (0, .ref (ad 13)), (1, .int x1), (2, .int x2), (3, .int x3), (4, .int x4), (5, .int x5)]) hx hb dX5_work_29 hl (by decide) rfl (fun ls hl => ?_)
          refine lv_iload (pc := 31) hx hb dX5_work_31 (lv_at hl 0 rfl) ?_
          refine lv_bipush (pc := 33) (v := (-3)) hx hb dX5_work_33 (by decide) ?_
          refine g_icmp_lt (pc := 35) (tgt := 69) E dX5_work_35 (by decide) hf (fun hf => ?_) (fun hf => ?_)
          · refine lv_iload (pc := 69) hx hb dX5_work_69 (lv_at hl 0 rfl) ?_
            refine lv_bipush (pc := 71) (v := (-33)) hx hb dX5_work_71 (by decide) ?_
            refine g_icmp_ne (pc := 73) (tgt := 113) E dX5_work_73 (by decide) hf (fun hf => ?_) (fun hf => ?_)
            · refine lv_iload (pc := 113) hx hb dX5_work_113 (lv_at hl 5 rfl) ?_
              refine lv_iconst (pc := 115) (v := 2) hx hb dX5_work_115 (by decide) ?_
              refine g_icmp_ge (pc := 116) (tgt := 121) E dX5_work_116 (by decide) hf (fun hf => ?_) (fun hf => ?_)
              · refine g_iinc (pc := 121) E (fun v5 => [(4, .int v5), (6, .int v4), (0, .ref (ad 13)), (1, .int x1), (2, .int x2), (3, .int x3), (5, .int x5)]) dX5_work_121 hl (k := 5) rfl (t := (-1)) (by decide) (by decide) (fun _ => rfl) hf (fun v5 hf ls hl => ?_)
                refine lv_aload_n (pc := 124) hx hb dX5_work_124 rfl (lv_at hl 2 rfl) ?_
                refine g_getr (pc := 125) E Y 13 1 15 S_13 rfl V_5 (by decide) AL_X5 q_291 dX5_work_125 ?_
                refine lv_iload (pc := 128) hx hb dX5_work_128 (lv_at hl 0 rfl) ?_
                refine lv_iconst (pc := 130) (v := 1) hx hb dX5_work_130 (by decide) ?_
                refine g_isub (pc := 131) E dX5_work_131 hf (fun v6 hf => ?_)
                refine lv_iload (pc := 132) hx hb dX5_work_132 (lv_at hl 1 rfl) ?_
                refine g_ineg (pc := 134) E dX5_work_134 hf (fun v7 hf => ?_)
                refine lv_aload_n (pc := 135) hx hb dX5_work_135 rfl (lv_at hl 2 rfl) ?_
                refine g_getr (pc := 136) E Y 13 1 15 S_13 rfl V_5 (by decide) AL_X5 q_291 dX5_work_136 ?_
                refine lv_iload (pc := 139) hx hb dX5_work_139 (lv_at hl 0 rfl) ?_
                refine lv_iconst (pc := 141) (v := 1) hx hb dX5_work_141 (by decide) ?_
                refine g_isub (pc := 142) E dX5_work_142 hf (fun v8 hf => ?_)
                refine g_iald (pc := 143) E Y 15 S_15 dX5_work_143 hf (fun v9 hf => ?_)
                refine lv_aload_n (pc := 144) hx hb dX5_work_144 rfl (lv_at hl 2 rfl) ?_
                refine g_getr (pc := 145) E Y 13 1 15 S_13 rfl V_5 (by decide) AL_X5 q_291 dX5_work_145 ?_
                refine lv_iload (pc := 148) hx hb dX5_work_148 (lv_at hl 0 rfl) ?_
                refine g_iald (pc := 150) E Y 15 S_15 dX5_work_150 hf (fun v10 hf => ?_)
                refine g_callSi (pc := 151) E Y o_X5_joined q_609 [.int v7, .int v9, .int v10] rfl rfl (hR_of (by omega) (by decide)) hl.1 (rest := [.int v6, .ref (ad 15)]) rfl (Nat.le_of_ble_eq_true rfl) dX5_work_151 (fun z hz => m_X5_joined hz) hf (fun v11 μ12 H locs hf Y => ?_)
                refine g_iast (pc := 154) E Y 15 S_15 dX5_work_154 hf (fun μ13 H locs hf Y => ?_)
                refine g_iinc (pc := 155) E (fun v14 => [(5, .int v14), (4, .int v5), (6, .int v4), (0, .ref (ad 13)), (1, .int x1), (2, .int x2), (3, .int x3)]) dX5_work_155 hl (k := 6) rfl (t := 1) (by decide) (by decide) (fun _ => rfl) hf (fun v14 hf ls hl => ?_)
                refine lv_goto (pc := 158) (tgt := 6) hx hb dX5_work_158 (by decide) ?_
                exact ih _ _ _ _ _ _ _ _ _ hf Y (lv_sub hl [3, 4, 5, 6, 1, 0] rfl)
              · refine lv_iconst (pc := 119) (v := 0) hx hb dX5_work_119 (by decide) ?_
                exact g_iret (pc := 120) E Y hr hk dX5_work_120 hf
            · refine lv_iload (pc := 76) hx hb dX5_work_76 (lv_at hl 5 rfl) ?_
              refine lv_iconst (pc := 78) (v := 1) hx hb dX5_work_78 (by decide) ?_
              refine g_icmp_ge (pc := 79) (tgt := 84) E dX5_work_79 (by decide) hf (fun hf => ?_) (fun hf => ?_)
              · refine lv_aload_n (pc := 84) hx hb dX5_work_84 rfl (lv_at hl 1 rfl) ?_
                refine g_getr (pc := 85) E Y 13 1 15 S_13 rfl V_5 (by decide) AL_X5 q_291 dX5_work_85 ?_
                refine lv_iload (pc := 88) hx hb dX5_work_88 (lv_at hl 5 rfl) ?_
                refine lv_iconst (pc := 90) (v := 1) hx hb dX5_work_90 (by decide) ?_
                refine g_isub (pc := 91) E dX5_work_91 hf (fun v15 hf => ?_)
                refine lv_aload_n (pc := 92) hx hb dX5_work_92 rfl (lv_at hl 1 rfl) ?_
                refine g_getr (pc := 93) E Y 13 1 15 S_13 rfl V_5 (by decide) AL_X5 q_291 dX5_work_93 ?_
                refine lv_iload (pc := 96) hx hb dX5_work_96 (lv_at hl 5 rfl) ?_
                refine lv_iconst (pc := 98) (v := 1) hx hb dX5_work_98 (by decide) ?_
                refine g_isub (pc := 99) E dX5_work_99 hf (fun v16 hf => ?_)
                refine g_iald (pc := 100) E Y 15 S_15 dX5_work_100 hf (fun v17 hf => ?_)
                refine g_if_ne (pc := 101) (tgt := 108) E dX5_work_101 (by decide) hf (fun hf => ?_) (fun hf => ?_)
                · refine lv_iconst (pc := 108) (v := 0) hx hb dX5_work_108 (by decide) ?_
                  refine g_iast (pc := 109) E Y 15 S_15 dX5_work_109 hf (fun μ18 H locs hf Y => ?_)
                  refine lv_goto (pc := 110) (tgt := 155) hx hb dX5_work_110 (by decide) ?_
                  refine g_iinc (pc := 155) E (fun v19 => [(5, .int v19), (6, .int v4), (0, .ref (ad 13)), (1, .int x1), (2, .int x2), (3, .int x3), (4, .int x4)]) dX5_work_155 hl (k := 6) rfl (t := 1) (by decide) (by decide) (fun _ => rfl) hf (fun v19 hf ls hl => ?_)
                  refine lv_goto (pc := 158) (tgt := 6) hx hb dX5_work_158 (by decide) ?_
                  exact ih _ _ _ _ _ _ _ _ _ hf Y (lv_sub hl [2, 3, 4, 5, 6, 0] rfl)
                · refine lv_iconst (pc := 104) (v := 1) hx hb dX5_work_104 (by decide) ?_
                  refine lv_goto (pc := 105) (tgt := 109) hx hb dX5_work_105 (by decide) ?_
                  refine g_iast (pc := 109) E Y 15 S_15 dX5_work_109 hf (fun μ20 H locs hf Y => ?_)
                  refine lv_goto (pc := 110) (tgt := 155) hx hb dX5_work_110 (by decide) ?_
                  refine g_iinc (pc := 155) E (fun v21 => [(5, .int v21), (6, .int v4), (0, .ref (ad 13)), (1, .int x1), (2, .int x2), (3, .int x3), (4, .int x4)]) dX5_work_155 hl (k := 6) rfl (t := 1) (by decide) (by decide) (fun _ => rfl) hf (fun v21 hf ls hl => ?_)
                  refine lv_goto (pc := 158) (tgt := 6) hx hb dX5_work_158 (by decide) ?_
                  exact ih _ _ _ _ _ _ _ _ _ hf Y (lv_sub hl [2, 3, 4, 5, 6, 0] rfl)
              · refine lv_iconst (pc := 82) (v := 0) hx hb dX5_work_82 (by decide) ?_
                exact g_iret (pc := 83) E Y hr hk dX5_work_83 hf
          · refine lv_aload_n (pc := 38) hx hb dX5_work_38 rfl (lv_at hl 1 rfl) ?_
            refine g_getr (pc := 39) E Y 13 1 15 S_13 rfl V_5 (by decide) AL_X5 q_291 dX5_work_39 ?_
            refine lv_iload (pc := 42) hx hb dX5_work_42 (lv_at hl 5 rfl) ?_
            refine lv_iload (pc := 44) hx hb dX5_work_44 (lv_at hl 0 rfl) ?_
            refine g_if_lt (pc := 46) (tgt := 54) E dX5_work_46 (by decide) hf (fun hf => ?_) (fun hf => ?_)
            · refine lv_iload (pc := 54) hx hb dX5_work_54 (lv_at hl 0 rfl) ?_
              refine lv_iload_n (pc := 56) hx hb dX5_work_56 rfl (lv_at hl 2 rfl) ?_
              refine lv_iload_n (pc := 57) hx hb dX5_work_57 rfl (lv_at hl 3 rfl) ?_
              refine lv_iload_n (pc := 58) hx hb dX5_work_58 rfl (lv_at hl 4 rfl) ?_
              refine g_callSi (pc := 59) E Y o_X5_named q_608 [.int v4, .int x1, .int x2, .int x3] rfl rfl (hR_of (by omega) (by decide)) hl.1 (rest := [.int x4, .ref (ad 15)]) rfl (Nat.le_of_ble_eq_true rfl) dX5_work_59 (fun z hz => m_X5_named hz) hf (fun v22 μ23 H locs hf Y => ?_)
              refine g_iast (pc := 62) E Y 15 S_15 dX5_work_62 hf (fun μ24 H locs hf Y => ?_)
              refine g_iinc (pc := 63) E (fun v25 => [(4, .int v25), (6, .int v4), (0, .ref (ad 13)), (1, .int x1), (2, .int x2), (3, .int x3), (5, .int x5)]) dX5_work_63 hl (k := 5) rfl (t := 1) (by decide) (by decide) (fun _ => rfl) hf (fun v25 hf ls hl => ?_)
              refine lv_goto (pc := 66) (tgt := 155) hx hb dX5_work_66 (by decide) ?_
              refine g_iinc (pc := 155) E (fun v26 => [(5, .int v26), (4, .int v25), (6, .int v4), (0, .ref (ad 13)), (1, .int x1), (2, .int x2), (3, .int x3)]) dX5_work_155 hl (k := 6) rfl (t := 1) (by decide) (by decide) (fun _ => rfl) hf (fun v26 hf ls hl => ?_)
              refine lv_goto (pc := 158) (tgt := 6) hx hb dX5_work_158 (by decide) ?_
              exact ih _ _ _ _ _ _ _ _ _ hf Y (lv_sub hl [3, 4, 5, 6, 1, 0] rfl)
            · refine lv_iload (pc := 49) hx hb dX5_work_49 (lv_at hl 0 rfl) ?_
              refine lv_goto (pc := 51) (tgt := 62) hx hb dX5_work_51 (by decide) ?_
              refine g_iast (pc := 62) E Y 15 S_15 dX5_work_62 hf (fun μ27 H locs hf Y => ?_)
              refine g_iinc (pc := 63) E (fun v28 => [(4, .int v28), (6, .int v4), (0, .ref (ad 13)), (1, .int x1), (2, .int x2), (3, .int x3), (5, .int x5)]) dX5_work_63 hl (k := 5) rfl (t := 1) (by decide) (by decide) (fun _ => rfl) hf (fun v28 hf ls hl => ?_)
              refine lv_goto (pc := 66) (tgt := 155) hx hb dX5_work_66 (by decide) ?_
              refine g_iinc (pc := 155) E (fun v29 => [(5, .int v29), (4, .int v28), (6, .int v4), (0, .ref (ad 13)), (1, .int x1), (2, .int x2), (3, .int x3)]) dX5_work_155 hl (k := 6) rfl (t := 1) (by decide) (by decide) (fun _ => rfl) hf (fun v29 hf ls hl => ?_)
              refine lv_goto (pc := 158) (tgt := 6) hx hb dX5_work_158 (by decide) ?_
              exact ih _ _ _ _ _ _ _ _ _ hf Y (lv_sub hl [3, 4, 5, 6, 1, 0] rfl)
  unfold f_X5_work_13 at hf
  refine lv_iconst (pc := 0) (v := 0) hx hb dX5_work_0 (by decide) ?_
  refine lv_istore (pc := 1) (lv' := [(4, .int 0), (0, .ref (ad 13)), (1, .int a0), (2, .int a1), (3, .int a2)]) hx hb dX5_work_1 hl (by decide) rfl (fun ls hl => ?_)
  refine lv_iconst (pc := 3) (v := 0) hx hb dX5_work_3 (by decide) ?_
  refine lv_istore (pc := 4) (lv' := [(5, .int 0), (4, .int 0), (0, .ref (ad 13)), (1, .int a0), (2, .int a1), (3, .int a2)]) hx hb dX5_work_4 hl (by decide) rfl (fun ls hl => ?_)
  exact hL_6 1000 _ _ _ _ _ _ _ _ _ hf Y (lv_sub hl [2, 3, 4, 5, 1, 0] rfl)
def f_X3_gives_1 (a0 : Int32) (a1 : Int32) (a2 : Int32) (a3 : Int32) (σ : Mem) : Res := if a0 = 0 then (nm (σ 13 3) fun (v15 : Int32) => if v15 = 0 then (bd (f_X3_held a1 0 199 σ) fun v16 μ17 => some (v16, μ17)) else (bd (f_X5_work_13 a1 a2 a3 σ) fun v18 μ19 => bd (f_X3_held v18 0 199 μ19) fun v20 μ21 => some (v20, μ21))) else (if a1 = 1 then (nm (σ 16 3) fun (v8 : Int32) => if v8 = 0 then (bd (f_X3_held 25 (-99) 99 σ) fun v9 μ10 => some (v9, μ10)) else (bd (f_X5_work_16 a1 a2 a3 σ) fun v11 μ12 => bd (f_X3_held v11 (-99) 99 μ12) fun v13 μ14 => some (v13, μ14))) else (nm (σ 16 3) fun (v1 : Int32) => if v1 = 0 then (bd (f_X3_held (-50) (-99) 99 σ) fun v2 μ3 => some (v2, μ3)) else (bd (f_X5_work_16 a1 a2 a3 σ) fun v4 μ5 => bd (f_X3_held v4 (-99) 99 μ5) fun v6 μ7 => some (v6, μ7))))
set_option maxHeartbeats 4000000 in
set_option maxRecDepth 100000 in
theorem m_X3_gives_1 {l : Launch} {σ : Mem} {Z : Int32 × Mem} {a0 : Int32} {a1 : Int32} {a2 : Int32} {a3 : Int32} (hf : f_X3_gives_1 a0 a1 a2 a3 σ = some Z) : CT l yX3_gives cX3_gives 6 (some .int) 2 (fun ad => [.ref (ad 1), .int a0, .int a1, .int a2, .int a3]) σ Z := by
  refine g_openT RX3 (by decide) rfl (fun _ => Nat.le_of_ble_eq_true rfl) (fun p e s m below meth c D cI cB ad st ls E Y hr hk hl => ?_)
  have hx := E.1.1
  have hb := E.1.2.1
  have hl : lv_has ls 6 [(0, .ref (ad 1)), (1, .int a0), (2, .int a1), (3, .int a2), (4, .int a3)] := hl
  unfold f_X3_gives_1 at hf
  refine lv_iload_n (pc := 0) hx hb dX3_gives_0 rfl (lv_at hl 1 rfl) ?_
  refine g_if_ne (pc := 1) (tgt := 37) E dX3_gives_1 (by decide) hf (fun hf => ?_) (fun hf => ?_)
  · refine lv_iload_n (pc := 37) hx hb dX3_gives_37 rfl (lv_at hl 2 rfl) ?_
    refine lv_iconst (pc := 38) (v := 1) hx hb dX3_gives_38 (by decide) ?_
    refine g_icmp_ne (pc := 39) (tgt := 47) E dX3_gives_39 (by decide) hf (fun hf => ?_) (fun hf => ?_)
    · refine lv_bipush (pc := 47) (v := (-50)) hx hb dX3_gives_47 (by decide) ?_
      refine lv_istore (pc := 49) (lv' := [(5, .int (-50)), (0, .ref (ad 1)), (1, .int a0), (2, .int a1), (3, .int a2), (4, .int a3)]) hx hb dX3_gives_49 hl (by decide) rfl (fun ls hl => ?_)
      refine lv_aload_n (pc := 51) hx hb dX3_gives_51 rfl (lv_at hl 1 rfl) ?_
      refine g_getr (pc := 52) E Y 1 3 16 S_1 rfl V_3 (by decide) AL_X3 q_274 dX3_gives_52 ?_
      refine g_geti (pc := 55) E Y 16 3 S_16 rfl V_5 (by decide) AL_X5 q_286 dX3_gives_55 hf (fun v1 hf => ?_)
      refine g_if_eq (pc := 58) (tgt := 75) E dX3_gives_58 (by decide) hf (fun hf => ?_) (fun hf => ?_)
      · refine lv_iload (pc := 75) hx hb dX3_gives_75 (lv_at hl 0 rfl) ?_
        refine lv_bipush (pc := 77) (v := (-99)) hx hb dX3_gives_77 (by decide) ?_
        refine lv_bipush (pc := 79) (v := 99) hx hb dX3_gives_79 (by decide) ?_
        refine g_callSi (pc := 81) E Y o_X3_held q_603 [.int (-50), .int (-99), .int 99] rfl rfl (hR_of (by omega) (by decide)) hl.1 (rest := []) rfl (Nat.le_of_ble_eq_true rfl) dX3_gives_81 (fun z hz => m_X3_held hz) hf (fun v2 μ3 H locs hf Y => ?_)
        exact g_iret (pc := 84) E Y hr hk dX3_gives_84 hf
      · refine lv_aload_n (pc := 61) hx hb dX3_gives_61 rfl (lv_at hl 1 rfl) ?_
        refine g_getr (pc := 62) E Y 1 3 16 S_1 rfl V_3 (by decide) AL_X3 q_274 dX3_gives_62 ?_
        refine lv_iload_n (pc := 65) hx hb dX3_gives_65 rfl (lv_at hl 3 rfl) ?_
        refine lv_iload_n (pc := 66) hx hb dX3_gives_66 rfl (lv_at hl 4 rfl) ?_
        refine lv_iload (pc := 67) hx hb dX3_gives_67 (lv_at hl 5 rfl) ?_
        refine g_callVi (pc := 69) E Y 16 S_16 V_5 o_X5_work q_602 [.int a1, .int a2, .int a3] rfl rfl (hR_of (by omega) (by decide)) hl.1 (rest := []) rfl (Nat.le_of_ble_eq_true rfl) dX3_gives_69 (fun z hz => m_X5_work_16 hz) hf (fun v4 μ5 H locs hf Y => ?_)
        refine lv_goto (pc := 72) (tgt := 77) hx hb dX3_gives_72 (by decide) ?_
        refine lv_bipush (pc := 77) (v := (-99)) hx hb dX3_gives_77 (by decide) ?_
        refine lv_bipush (pc := 79) (v := 99) hx hb dX3_gives_79 (by decide) ?_
        refine g_callSi (pc := 81) E Y o_X3_held q_603 [.int v4, .int (-99), .int 99] rfl rfl (hR_of (by omega) (by decide)) hl.1 (rest := []) rfl (Nat.le_of_ble_eq_true rfl) dX3_gives_81 (fun z hz => m_X3_held hz) hf (fun v6 μ7 H locs hf Y => ?_)
        exact g_iret (pc := 84) E Y hr hk dX3_gives_84 hf
    · refine lv_bipush (pc := 42) (v := 25) hx hb dX3_gives_42 (by decide) ?_
      refine lv_goto (pc := 44) (tgt := 49) hx hb dX3_gives_44 (by decide) ?_
      refine lv_istore (pc := 49) (lv' := [(5, .int 25), (0, .ref (ad 1)), (1, .int a0), (2, .int a1), (3, .int a2), (4, .int a3)]) hx hb dX3_gives_49 hl (by decide) rfl (fun ls hl => ?_)
      refine lv_aload_n (pc := 51) hx hb dX3_gives_51 rfl (lv_at hl 1 rfl) ?_
      refine g_getr (pc := 52) E Y 1 3 16 S_1 rfl V_3 (by decide) AL_X3 q_274 dX3_gives_52 ?_
      refine g_geti (pc := 55) E Y 16 3 S_16 rfl V_5 (by decide) AL_X5 q_286 dX3_gives_55 hf (fun v8 hf => ?_)
      refine g_if_eq (pc := 58) (tgt := 75) E dX3_gives_58 (by decide) hf (fun hf => ?_) (fun hf => ?_)
      · refine lv_iload (pc := 75) hx hb dX3_gives_75 (lv_at hl 0 rfl) ?_
        refine lv_bipush (pc := 77) (v := (-99)) hx hb dX3_gives_77 (by decide) ?_
        refine lv_bipush (pc := 79) (v := 99) hx hb dX3_gives_79 (by decide) ?_
        refine g_callSi (pc := 81) E Y o_X3_held q_603 [.int 25, .int (-99), .int 99] rfl rfl (hR_of (by omega) (by decide)) hl.1 (rest := []) rfl (Nat.le_of_ble_eq_true rfl) dX3_gives_81 (fun z hz => m_X3_held hz) hf (fun v9 μ10 H locs hf Y => ?_)
        exact g_iret (pc := 84) E Y hr hk dX3_gives_84 hf
      · refine lv_aload_n (pc := 61) hx hb dX3_gives_61 rfl (lv_at hl 1 rfl) ?_
        refine g_getr (pc := 62) E Y 1 3 16 S_1 rfl V_3 (by decide) AL_X3 q_274 dX3_gives_62 ?_
        refine lv_iload_n (pc := 65) hx hb dX3_gives_65 rfl (lv_at hl 3 rfl) ?_
        refine lv_iload_n (pc := 66) hx hb dX3_gives_66 rfl (lv_at hl 4 rfl) ?_
        refine lv_iload (pc := 67) hx hb dX3_gives_67 (lv_at hl 5 rfl) ?_
        refine g_callVi (pc := 69) E Y 16 S_16 V_5 o_X5_work q_602 [.int a1, .int a2, .int a3] rfl rfl (hR_of (by omega) (by decide)) hl.1 (rest := []) rfl (Nat.le_of_ble_eq_true rfl) dX3_gives_69 (fun z hz => m_X5_work_16 hz) hf (fun v11 μ12 H locs hf Y => ?_)
        refine lv_goto (pc := 72) (tgt := 77) hx hb dX3_gives_72 (by decide) ?_
        refine lv_bipush (pc := 77) (v := (-99)) hx hb dX3_gives_77 (by decide) ?_
        refine lv_bipush (pc := 79) (v := 99) hx hb dX3_gives_79 (by decide) ?_
        refine g_callSi (pc := 81) E Y o_X3_held q_603 [.int v11, .int (-99), .int 99] rfl rfl (hR_of (by omega) (by decide)) hl.1 (rest := []) rfl (Nat.le_of_ble_eq_true rfl) dX3_gives_81 (fun z hz => m_X3_held hz) hf (fun v13 μ14 H locs hf Y => ?_)
        exact g_iret (pc := 84) E Y hr hk dX3_gives_84 hf
  · refine lv_aload_n (pc := 4) hx hb dX3_gives_4 rfl (lv_at hl 0 rfl) ?_
    refine g_getr (pc := 5) E Y 1 2 13 S_1 rfl V_3 (by decide) AL_X3 q_273 dX3_gives_5 ?_
    refine g_geti (pc := 8) E Y 13 3 S_13 rfl V_5 (by decide) AL_X5 q_286 dX3_gives_8 hf (fun v15 hf => ?_)
    refine g_if_eq (pc := 11) (tgt := 28) E dX3_gives_11 (by decide) hf (fun hf => ?_) (fun hf => ?_)
    · refine lv_iload_n (pc := 28) hx hb dX3_gives_28 rfl (lv_at hl 2 rfl) ?_
      refine lv_iconst (pc := 29) (v := 0) hx hb dX3_gives_29 (by decide) ?_
      refine lv_sipush (pc := 30) (v := 199) hx hb dX3_gives_30 (by decide) ?_
      refine g_callSi (pc := 33) E Y o_X3_held q_603 [.int a1, .int 0, .int 199] rfl rfl (hR_of (by omega) (by decide)) hl.1 (rest := []) rfl (Nat.le_of_ble_eq_true rfl) dX3_gives_33 (fun z hz => m_X3_held hz) hf (fun v16 μ17 H locs hf Y => ?_)
      exact g_iret (pc := 36) E Y hr hk dX3_gives_36 hf
    · refine lv_aload_n (pc := 14) hx hb dX3_gives_14 rfl (lv_at hl 0 rfl) ?_
      refine g_getr (pc := 15) E Y 1 2 13 S_1 rfl V_3 (by decide) AL_X3 q_273 dX3_gives_15 ?_
      refine lv_iload_n (pc := 18) hx hb dX3_gives_18 rfl (lv_at hl 2 rfl) ?_
      refine lv_iload_n (pc := 19) hx hb dX3_gives_19 rfl (lv_at hl 3 rfl) ?_
      refine lv_iload (pc := 20) hx hb dX3_gives_20 (lv_at hl 4 rfl) ?_
      refine g_callVi (pc := 22) E Y 13 S_13 V_5 o_X5_work q_602 [.int a1, .int a2, .int a3] rfl rfl (hR_of (by omega) (by decide)) hl.1 (rest := []) rfl (Nat.le_of_ble_eq_true rfl) dX3_gives_22 (fun z hz => m_X5_work_13 hz) hf (fun v18 μ19 H locs hf Y => ?_)
      refine lv_goto (pc := 25) (tgt := 29) hx hb dX3_gives_25 (by decide) ?_
      refine lv_iconst (pc := 29) (v := 0) hx hb dX3_gives_29 (by decide) ?_
      refine lv_sipush (pc := 30) (v := 199) hx hb dX3_gives_30 (by decide) ?_
      refine g_callSi (pc := 33) E Y o_X3_held q_603 [.int v18, .int 0, .int 199] rfl rfl (hR_of (by omega) (by decide)) hl.1 (rest := []) rfl (Nat.le_of_ble_eq_true rfl) dX3_gives_33 (fun z hz => m_X3_held hz) hf (fun v20 μ21 H locs hf Y => ?_)
      exact g_iret (pc := 36) E Y hr hk dX3_gives_36 hf
def f_X3_air_1 (a0 : Int32) (σ : Mem) : Res := bd (f_X3_airByKind_1 a0 σ) fun v1 μ2 => nm (μ2 1 10) fun (v3 : Int32) => nm (μ2 1 11) fun (v4 : Int32) => bd (f_X3_gives_1 0 v1 v3 v4 μ2) fun v5 μ6 => some (v5, μ6)
set_option maxHeartbeats 4000000 in
set_option maxRecDepth 100000 in
theorem m_X3_air_1 {l : Launch} {σ : Mem} {Z : Int32 × Mem} {a0 : Int32} (hf : f_X3_air_1 a0 σ = some Z) : CT l yX3_air cX3_air 2 (some .int) 3 (fun ad => [.ref (ad 1), .int a0]) σ Z := by
  refine g_openT RX3 (by decide) rfl (fun _ => Nat.le_of_ble_eq_true rfl) (fun p e s m below meth c D cI cB ad st ls E Y hr hk hl => ?_)
  have hx := E.1.1
  have hb := E.1.2.1
  have hl : lv_has ls 2 [(0, .ref (ad 1)), (1, .int a0)] := hl
  unfold f_X3_air_1 at hf
  refine lv_aload_n (pc := 0) hx hb dX3_air_0 rfl (lv_at hl 0 rfl) ?_
  refine lv_iconst (pc := 1) (v := 0) hx hb dX3_air_1 (by decide) ?_
  refine lv_aload_n (pc := 2) hx hb dX3_air_2 rfl (lv_at hl 0 rfl) ?_
  refine lv_iload_n (pc := 3) hx hb dX3_air_3 rfl (lv_at hl 1 rfl) ?_
  refine g_callVi (pc := 4) E Y 1 S_1 V_3 o_X3_airByKind q_580 [.int a0] rfl rfl (hR_of (by omega) (by decide)) hl.1 (rest := [.int 0, .ref (ad 1)]) rfl (Nat.le_of_ble_eq_true rfl) dX3_air_4 (fun z hz => m_X3_airByKind_1 hz) hf (fun v1 μ2 H locs hf Y => ?_)
  refine lv_aload_n (pc := 7) hx hb dX3_air_7 rfl (lv_at hl 0 rfl) ?_
  refine g_geti (pc := 8) E Y 1 10 S_1 rfl V_3 (by decide) AL_X3 q_281 dX3_air_8 hf (fun v3 hf => ?_)
  refine lv_aload_n (pc := 11) hx hb dX3_air_11 rfl (lv_at hl 0 rfl) ?_
  refine g_geti (pc := 12) E Y 1 11 S_1 rfl V_3 (by decide) AL_X3 q_282 dX3_air_12 hf (fun v4 hf => ?_)
  refine g_callVi (pc := 15) E Y 1 S_1 V_3 o_X3_gives q_581 [.int 0, .int v1, .int v3, .int v4] rfl rfl (hR_of (by omega) (by decide)) hl.1 (rest := []) rfl (Nat.le_of_ble_eq_true rfl) dX3_air_15 (fun z hz => m_X3_gives_1 hz) hf (fun v5 μ6 H locs hf Y => ?_)
  exact g_iret (pc := 18) E Y hr hk dX3_air_18 hf
def f_X3_costs_1 (a0 : Int32) (σ : Mem) : Res := gi a0 6 <| nm (σ 3 a0.toNatClampNeg) fun (v1 : Int32) => if v1 = 1 then (nm (σ 1 11) fun (v2 : Int32) => some (v2, σ)) else (if v1 = 3 then (gi a0 6 <| nm (σ 4 a0.toNatClampNeg) fun (v3 : Int32) => nm (5 + v3) fun (v4 : Int32) => some (v4, σ)) else (if v1 = 4 then (nm (σ 1 11) fun (v5 : Int32) => nm (v5 + 1) fun (v6 : Int32) => some (v6, σ)) else (if v1 = 6 then (nm (σ 1 10) fun (v7 : Int32) => some (v7, σ)) else (some (0, σ)))))
set_option maxHeartbeats 4000000 in
set_option maxRecDepth 100000 in
theorem m_X3_costs_1 {l : Launch} {σ : Mem} {Z : Int32 × Mem} {a0 : Int32} (hf : f_X3_costs_1 a0 σ = some Z) : CT l yX3_costs cX3_costs 2 (some .int) 0 (fun ad => [.ref (ad 1), .int a0]) σ Z := by
  refine g_openT RX3 (by decide) rfl (fun _ => Nat.le_of_ble_eq_true rfl) (fun p e s m below meth c D cI cB ad st ls E Y hr hk hl => ?_)
  have hx := E.1.1
  have hb := E.1.2.1
  have hl : lv_has ls 2 [(0, .ref (ad 1)), (1, .int a0)] := hl
  unfold f_X3_costs_1 at hf
  refine lv_aload_n (pc := 0) hx hb dX3_costs_0 rfl (lv_at hl 0 rfl) ?_
  refine g_getr (pc := 1) E Y 1 0 2 S_1 rfl V_3 (by decide) AL_X3 q_265 dX3_costs_1 ?_
  refine g_getr (pc := 4) E Y 2 0 3 S_2 rfl V_0 (by decide) AL_X0 q_263 dX3_costs_4 ?_
  refine lv_iload_n (pc := 7) hx hb dX3_costs_7 rfl (lv_at hl 1 rfl) ?_
  refine g_iald (pc := 8) E Y 3 S_3 dX3_costs_8 hf (fun v1 hf => ?_)
  by_cases hc : v1 = 1
  · rw [if_pos hc] at hf
    refine g_tabIn (pc := 9) (tgt := 48) E dX3_costs_9 hc (n := 1) (by decide) (by decide) (by decide) rfl (by decide) ?_
    refine lv_aload_n (pc := 48) hx hb dX3_costs_48 rfl (lv_at hl 0 rfl) ?_
    refine g_geti (pc := 49) E Y 1 11 S_1 rfl V_3 (by decide) AL_X3 q_282 dX3_costs_49 hf (fun v2 hf => ?_)
    exact g_iret (pc := 52) E Y hr hk dX3_costs_52 hf
  · rw [if_neg hc] at hf
    have n_1 := ti_ne (n := 1) (by decide) hc
    clear hc
    by_cases hc : v1 = 3
    · rw [if_pos hc] at hf
      refine g_tabIn (pc := 9) (tgt := 53) E dX3_costs_9 hc (n := 3) (by decide) (by decide) (by decide) rfl (by decide) ?_
      refine lv_iconst (pc := 53) (v := 5) hx hb dX3_costs_53 (by decide) ?_
      refine lv_aload_n (pc := 54) hx hb dX3_costs_54 rfl (lv_at hl 0 rfl) ?_
      refine g_getr (pc := 55) E Y 1 0 2 S_1 rfl V_3 (by decide) AL_X3 q_265 dX3_costs_55 ?_
      refine g_getr (pc := 58) E Y 2 1 4 S_2 rfl V_0 (by decide) AL_X0 q_287 dX3_costs_58 ?_
      refine lv_iload_n (pc := 61) hx hb dX3_costs_61 rfl (lv_at hl 1 rfl) ?_
      refine g_iald (pc := 62) E Y 4 S_4 dX3_costs_62 hf (fun v3 hf => ?_)
      refine g_iadd (pc := 63) E dX3_costs_63 hf (fun v4 hf => ?_)
      exact g_iret (pc := 64) E Y hr hk dX3_costs_64 hf
    · rw [if_neg hc] at hf
      have n_3 := ti_ne (n := 3) (by decide) hc
      clear hc
      by_cases hc : v1 = 4
      · rw [if_pos hc] at hf
        refine g_tabIn (pc := 9) (tgt := 65) E dX3_costs_9 hc (n := 4) (by decide) (by decide) (by decide) rfl (by decide) ?_
        refine lv_aload_n (pc := 65) hx hb dX3_costs_65 rfl (lv_at hl 0 rfl) ?_
        refine g_geti (pc := 66) E Y 1 11 S_1 rfl V_3 (by decide) AL_X3 q_282 dX3_costs_66 hf (fun v5 hf => ?_)
        refine lv_iconst (pc := 69) (v := 1) hx hb dX3_costs_69 (by decide) ?_
        refine g_iadd (pc := 70) E dX3_costs_70 hf (fun v6 hf => ?_)
        exact g_iret (pc := 71) E Y hr hk dX3_costs_71 hf
      · rw [if_neg hc] at hf
        have n_4 := ti_ne (n := 4) (by decide) hc
        clear hc
        by_cases hc : v1 = 6
        · rw [if_pos hc] at hf
          refine g_tabIn (pc := 9) (tgt := 72) E dX3_costs_9 hc (n := 6) (by decide) (by decide) (by decide) rfl (by decide) ?_
          refine lv_aload_n (pc := 72) hx hb dX3_costs_72 rfl (lv_at hl 0 rfl) ?_
          refine g_geti (pc := 73) E Y 1 10 S_1 rfl V_3 (by decide) AL_X3 q_281 dX3_costs_73 hf (fun v7 hf => ?_)
          exact g_iret (pc := 76) E Y hr hk dX3_costs_76 hf
        · rw [if_neg hc] at hf
          have n_6 := ti_ne (n := 6) (by decide) hc
          clear hc
          refine g_tabDef (pc := 9) (tgt := 77) E dX3_costs_9 ?_ (by decide) ?_
          · by_cases hg : v1.toInt < 1 ∨ 6 < v1.toInt
            · exact Or.inl hg
            · have hg2 : v1.toInt = 2 ∨ v1.toInt = 5 := by omega
              rcases hg2 with hg2 | hg2 <;> exact Or.inr (by rw [hg2]; rfl)
          · refine lv_iconst (pc := 77) (v := 0) hx hb dX3_costs_77 (by decide) ?_
            exact g_iret (pc := 78) E Y hr hk dX3_costs_78 hf
def f_X7_pitchIs_0 (a0 : Int32) (a1 : Int32) (σ : Mem) : Res := bd (f_X7_isPitch_0 a0 σ) fun v1 μ2 => if v1 = 0 then (bd (f_X7_error_0 1 μ2) fun v13 μ14 => some (v13, μ14)) else (if a1 = 0 then (gi a0 6 <| nm (μ2 3 a0.toNatClampNeg) fun (v3 : Int32) => some (v3, μ2)) else (if a1 = 1 then (gi a0 6 <| nm (μ2 4 a0.toNatClampNeg) fun (v4 : Int32) => some (v4, μ2)) else (if a1 = 2 then (gi a0 6 <| nm (μ2 5 a0.toNatClampNeg) fun (v5 : Int32) => some (v5, μ2)) else (if a1 = 3 then (gi a0 6 <| nm (μ2 6 a0.toNatClampNeg) fun (v6 : Int32) => some (v6, μ2)) else (if a1 = 4 then (bd (f_X3_air_1 a0 μ2) fun v7 μ8 => some (v7, μ8)) else (if a1 = 5 then (bd (f_X3_costs_1 a0 μ2) fun v9 μ10 => some (v9, μ10)) else (bd (f_X7_error_0 1 μ2) fun v11 μ12 => some (v11, μ12))))))))
set_option maxHeartbeats 4000000 in
set_option maxRecDepth 100000 in
theorem m_X7_pitchIs_0 {l : Launch} {σ : Mem} {Z : Int32 × Mem} {a0 : Int32} {a1 : Int32} (hf : f_X7_pitchIs_0 a0 a1 σ = some Z) : CT l yX7_pitchIs cX7_pitchIs 3 (some .int) 4 (fun ad => [.ref (ad 0), .int a0, .int a1]) σ Z := by
  refine g_openT RX7 (by decide) rfl (fun _ => Nat.le_of_ble_eq_true rfl) (fun p e s m below meth c D cI cB ad st ls E Y hr hk hl => ?_)
  have hx := E.1.1
  have hb := E.1.2.1
  have hl : lv_has ls 3 [(0, .ref (ad 0)), (1, .int a0), (2, .int a1)] := hl
  unfold f_X7_pitchIs_0 at hf
  refine lv_aload_n (pc := 0) hx hb dX7_pitchIs_0 rfl (lv_at hl 0 rfl) ?_
  refine lv_iload_n (pc := 1) hx hb dX7_pitchIs_1 rfl (lv_at hl 1 rfl) ?_
  refine g_callVi (pc := 2) E Y 0 S_0 V_7 o_X7_isPitch q_658 [.int a0] rfl rfl (hR_of (by omega) (by decide)) hl.1 (rest := []) rfl (Nat.le_of_ble_eq_true rfl) dX7_pitchIs_2 (fun z hz => m_X7_isPitch_0 hz) hf (fun v1 μ2 H locs hf Y => ?_)
  refine g_if_ne (pc := 5) (tgt := 14) E dX7_pitchIs_5 (by decide) hf (fun hf => ?_) (fun hf => ?_)
  · refine lv_iload_n (pc := 14) hx hb dX7_pitchIs_14 rfl (lv_at hl 2 rfl) ?_
    by_cases hc : a1 = 0
    · rw [if_pos hc] at hf
      refine g_tabIn (pc := 15) (tgt := 52) E dX7_pitchIs_15 hc (n := 0) (by decide) (by decide) (by decide) rfl (by decide) ?_
      refine lv_aload_n (pc := 52) hx hb dX7_pitchIs_52 rfl (lv_at hl 0 rfl) ?_
      refine g_getr (pc := 53) E Y 0 0 1 S_0 rfl V_7 (by decide) AL_X7 q_301 dX7_pitchIs_53 ?_
      refine g_getr (pc := 56) E Y 1 0 2 S_1 rfl V_3 (by decide) AL_X3 q_334 dX7_pitchIs_56 ?_
      refine g_getr (pc := 59) E Y 2 0 3 S_2 rfl V_0 (by decide) AL_X0 q_336 dX7_pitchIs_59 ?_
      refine lv_iload_n (pc := 62) hx hb dX7_pitchIs_62 rfl (lv_at hl 1 rfl) ?_
      refine g_iald (pc := 63) E Y 3 S_3 dX7_pitchIs_63 hf (fun v3 hf => ?_)
      exact g_iret (pc := 64) E Y hr hk dX7_pitchIs_64 hf
    · rw [if_neg hc] at hf
      have n_0 := ti_ne (n := 0) (by decide) hc
      clear hc
      by_cases hc : a1 = 1
      · rw [if_pos hc] at hf
        refine g_tabIn (pc := 15) (tgt := 65) E dX7_pitchIs_15 hc (n := 1) (by decide) (by decide) (by decide) rfl (by decide) ?_
        refine lv_aload_n (pc := 65) hx hb dX7_pitchIs_65 rfl (lv_at hl 0 rfl) ?_
        refine g_getr (pc := 66) E Y 0 0 1 S_0 rfl V_7 (by decide) AL_X7 q_301 dX7_pitchIs_66 ?_
        refine g_getr (pc := 69) E Y 1 0 2 S_1 rfl V_3 (by decide) AL_X3 q_334 dX7_pitchIs_69 ?_
        refine g_getr (pc := 72) E Y 2 1 4 S_2 rfl V_0 (by decide) AL_X0 q_337 dX7_pitchIs_72 ?_
        refine lv_iload_n (pc := 75) hx hb dX7_pitchIs_75 rfl (lv_at hl 1 rfl) ?_
        refine g_iald (pc := 76) E Y 4 S_4 dX7_pitchIs_76 hf (fun v4 hf => ?_)
        exact g_iret (pc := 77) E Y hr hk dX7_pitchIs_77 hf
      · rw [if_neg hc] at hf
        have n_1 := ti_ne (n := 1) (by decide) hc
        clear hc
        by_cases hc : a1 = 2
        · rw [if_pos hc] at hf
          refine g_tabIn (pc := 15) (tgt := 78) E dX7_pitchIs_15 hc (n := 2) (by decide) (by decide) (by decide) rfl (by decide) ?_
          refine lv_aload_n (pc := 78) hx hb dX7_pitchIs_78 rfl (lv_at hl 0 rfl) ?_
          refine g_getr (pc := 79) E Y 0 0 1 S_0 rfl V_7 (by decide) AL_X7 q_301 dX7_pitchIs_79 ?_
          refine g_getr (pc := 82) E Y 1 0 2 S_1 rfl V_3 (by decide) AL_X3 q_334 dX7_pitchIs_82 ?_
          refine g_getr (pc := 85) E Y 2 2 5 S_2 rfl V_0 (by decide) AL_X0 q_338 dX7_pitchIs_85 ?_
          refine lv_iload_n (pc := 88) hx hb dX7_pitchIs_88 rfl (lv_at hl 1 rfl) ?_
          refine g_iald (pc := 89) E Y 5 S_5 dX7_pitchIs_89 hf (fun v5 hf => ?_)
          exact g_iret (pc := 90) E Y hr hk dX7_pitchIs_90 hf
        · rw [if_neg hc] at hf
          have n_2 := ti_ne (n := 2) (by decide) hc
          clear hc
          by_cases hc : a1 = 3
          · rw [if_pos hc] at hf
            refine g_tabIn (pc := 15) (tgt := 91) E dX7_pitchIs_15 hc (n := 3) (by decide) (by decide) (by decide) rfl (by decide) ?_
            refine lv_aload_n (pc := 91) hx hb dX7_pitchIs_91 rfl (lv_at hl 0 rfl) ?_
            refine g_getr (pc := 92) E Y 0 0 1 S_0 rfl V_7 (by decide) AL_X7 q_301 dX7_pitchIs_92 ?_
            refine g_getr (pc := 95) E Y 1 0 2 S_1 rfl V_3 (by decide) AL_X3 q_334 dX7_pitchIs_95 ?_
            refine g_getr (pc := 98) E Y 2 3 6 S_2 rfl V_0 (by decide) AL_X0 q_339 dX7_pitchIs_98 ?_
            refine lv_iload_n (pc := 101) hx hb dX7_pitchIs_101 rfl (lv_at hl 1 rfl) ?_
            refine g_iald (pc := 102) E Y 6 S_6 dX7_pitchIs_102 hf (fun v6 hf => ?_)
            exact g_iret (pc := 103) E Y hr hk dX7_pitchIs_103 hf
          · rw [if_neg hc] at hf
            have n_3 := ti_ne (n := 3) (by decide) hc
            clear hc
            by_cases hc : a1 = 4
            · rw [if_pos hc] at hf
              refine g_tabIn (pc := 15) (tgt := 104) E dX7_pitchIs_15 hc (n := 4) (by decide) (by decide) (by decide) rfl (by decide) ?_
              refine lv_aload_n (pc := 104) hx hb dX7_pitchIs_104 rfl (lv_at hl 0 rfl) ?_
              refine g_getr (pc := 105) E Y 0 0 1 S_0 rfl V_7 (by decide) AL_X7 q_301 dX7_pitchIs_105 ?_
              refine lv_iload_n (pc := 108) hx hb dX7_pitchIs_108 rfl (lv_at hl 1 rfl) ?_
              refine g_callVi (pc := 109) E Y 1 S_1 V_3 o_X3_air q_659 [.int a0] rfl rfl (hR_of (by omega) (by decide)) hl.1 (rest := []) rfl (Nat.le_of_ble_eq_true rfl) dX7_pitchIs_109 (fun z hz => m_X3_air_1 hz) hf (fun v7 μ8 H locs hf Y => ?_)
              exact g_iret (pc := 112) E Y hr hk dX7_pitchIs_112 hf
            · rw [if_neg hc] at hf
              have n_4 := ti_ne (n := 4) (by decide) hc
              clear hc
              by_cases hc : a1 = 5
              · rw [if_pos hc] at hf
                refine g_tabIn (pc := 15) (tgt := 113) E dX7_pitchIs_15 hc (n := 5) (by decide) (by decide) (by decide) rfl (by decide) ?_
                refine lv_aload_n (pc := 113) hx hb dX7_pitchIs_113 rfl (lv_at hl 0 rfl) ?_
                refine g_getr (pc := 114) E Y 0 0 1 S_0 rfl V_7 (by decide) AL_X7 q_301 dX7_pitchIs_114 ?_
                refine lv_iload_n (pc := 117) hx hb dX7_pitchIs_117 rfl (lv_at hl 1 rfl) ?_
                refine g_callVi (pc := 118) E Y 1 S_1 V_3 o_X3_costs q_660 [.int a0] rfl rfl (hR_of (by omega) (by decide)) hl.1 (rest := []) rfl (Nat.le_of_ble_eq_true rfl) dX7_pitchIs_118 (fun z hz => m_X3_costs_1 hz) hf (fun v9 μ10 H locs hf Y => ?_)
                exact g_iret (pc := 121) E Y hr hk dX7_pitchIs_121 hf
              · rw [if_neg hc] at hf
                have n_5 := ti_ne (n := 5) (by decide) hc
                clear hc
                refine lv_tableOut (pc := 15) (tgt := 122) hx hb dX7_pitchIs_15 (by omega) (by decide) ?_
                refine lv_aload_n (pc := 122) hx hb dX7_pitchIs_122 rfl (lv_at hl 0 rfl) ?_
                refine lv_iconst (pc := 123) (v := 1) hx hb dX7_pitchIs_123 (by decide) ?_
                refine g_callVi (pc := 124) E Y 0 S_0 V_7 o_X7_error q_656 [.int 1] rfl rfl (hR_of (by omega) (by decide)) hl.1 (rest := []) rfl (Nat.le_of_ble_eq_true rfl) dX7_pitchIs_124 (fun z hz => m_X7_error_0 hz) hf (fun v11 μ12 H locs hf Y => ?_)
                exact g_iret (pc := 127) E Y hr hk dX7_pitchIs_127 hf
  · refine lv_aload_n (pc := 8) hx hb dX7_pitchIs_8 rfl (lv_at hl 0 rfl) ?_
    refine lv_iconst (pc := 9) (v := 1) hx hb dX7_pitchIs_9 (by decide) ?_
    refine g_callVi (pc := 10) E Y 0 S_0 V_7 o_X7_error q_656 [.int 1] rfl rfl (hR_of (by omega) (by decide)) hl.1 (rest := []) rfl (Nat.le_of_ble_eq_true rfl) dX7_pitchIs_10 (fun z hz => m_X7_error_0 hz) hf (fun v13 μ14 H locs hf Y => ?_)
    exact g_iret (pc := 13) E Y hr hk dX7_pitchIs_13 hf
def f_X7_become_0 (a0 : Int32) (a1 : Int32) (σ : Mem) : Res := bd (f_X7_isPitch_0 a0 σ) fun v1 μ2 => if v1 = 0 then (bd (f_X7_error_0 1 μ2) fun v3 μ4 => some (v3, μ4)) else (bd (f_X7_isKindAndM a1 μ2) fun v5 μ6 => if v5 = 0 then (bd (f_X7_error_0 1 μ6) fun v12 μ13 => some (v12, μ13)) else (gi a0 6 <| nm (μ6 3 a0.toNatClampNeg) fun (v7 : Int32) => gz 10 <| nm (a1 / 10) fun (v8 : Int32) => gi a0 6 <| nm (mset μ6 3 a0.toNatClampNeg v8) fun (μ9 : Mem) => gz 10 <| nm (a1 - a1 / 10 * 10) fun (v10 : Int32) => gi a0 6 <| nm (mset μ9 4 a0.toNatClampNeg v10) fun (μ11 : Mem) => some (v7, μ11)))
set_option maxHeartbeats 4000000 in
set_option maxRecDepth 100000 in
theorem m_X7_become_0 {l : Launch} {σ : Mem} {Z : Int32 × Mem} {a0 : Int32} {a1 : Int32} (hf : f_X7_become_0 a0 a1 σ = some Z) : CT l yX7_become cX7_become 4 (some .int) 2 (fun ad => [.ref (ad 0), .int a0, .int a1]) σ Z := by
  refine g_openT RX7 (by decide) rfl (fun _ => Nat.le_of_ble_eq_true rfl) (fun p e s m below meth c D cI cB ad st ls E Y hr hk hl => ?_)
  have hx := E.1.1
  have hb := E.1.2.1
  have hl : lv_has ls 4 [(0, .ref (ad 0)), (1, .int a0), (2, .int a1)] := hl
  unfold f_X7_become_0 at hf
  refine lv_aload_n (pc := 0) hx hb dX7_become_0 rfl (lv_at hl 0 rfl) ?_
  refine lv_iload_n (pc := 1) hx hb dX7_become_1 rfl (lv_at hl 1 rfl) ?_
  refine g_callVi (pc := 2) E Y 0 S_0 V_7 o_X7_isPitch q_658 [.int a0] rfl rfl (hR_of (by omega) (by decide)) hl.1 (rest := []) rfl (Nat.le_of_ble_eq_true rfl) dX7_become_2 (fun z hz => m_X7_isPitch_0 hz) hf (fun v1 μ2 H locs hf Y => ?_)
  refine g_if_eq (pc := 5) (tgt := 15) E dX7_become_5 (by decide) hf (fun hf => ?_) (fun hf => ?_)
  · refine lv_aload_n (pc := 15) hx hb dX7_become_15 rfl (lv_at hl 0 rfl) ?_
    refine lv_iconst (pc := 16) (v := 1) hx hb dX7_become_16 (by decide) ?_
    refine g_callVi (pc := 17) E Y 0 S_0 V_7 o_X7_error q_656 [.int 1] rfl rfl (hR_of (by omega) (by decide)) hl.1 (rest := []) rfl (Nat.le_of_ble_eq_true rfl) dX7_become_17 (fun z hz => m_X7_error_0 hz) hf (fun v3 μ4 H locs hf Y => ?_)
    exact g_iret (pc := 20) E Y hr hk dX7_become_20 hf
  · refine lv_iload_n (pc := 8) hx hb dX7_become_8 rfl (lv_at hl 2 rfl) ?_
    refine g_callSi (pc := 9) E Y o_X7_isKindAndM q_654 [.int a1] rfl rfl (hR_of (by omega) (by decide)) hl.1 (rest := []) rfl (Nat.le_of_ble_eq_true rfl) dX7_become_9 (fun z hz => m_X7_isKindAndM hz) hf (fun v5 μ6 H locs hf Y => ?_)
    refine g_if_ne (pc := 12) (tgt := 21) E dX7_become_12 (by decide) hf (fun hf => ?_) (fun hf => ?_)
    · refine lv_aload_n (pc := 21) hx hb dX7_become_21 rfl (lv_at hl 0 rfl) ?_
      refine g_getr (pc := 22) E Y 0 0 1 S_0 rfl V_7 (by decide) AL_X7 q_301 dX7_become_22 ?_
      refine g_getr (pc := 25) E Y 1 0 2 S_1 rfl V_3 (by decide) AL_X3 q_334 dX7_become_25 ?_
      refine g_getr (pc := 28) E Y 2 0 3 S_2 rfl V_0 (by decide) AL_X0 q_336 dX7_become_28 ?_
      refine lv_iload_n (pc := 31) hx hb dX7_become_31 rfl (lv_at hl 1 rfl) ?_
      refine g_iald (pc := 32) E Y 3 S_3 dX7_become_32 hf (fun v7 hf => ?_)
      refine lv_istore_n (pc := 33) (lv' := [(3, .int v7), (0, .ref (ad 0)), (1, .int a0), (2, .int a1)]) hx hb dX7_become_33 rfl hl (by decide) rfl (fun ls hl => ?_)
      refine lv_aload_n (pc := 34) hx hb dX7_become_34 rfl (lv_at hl 1 rfl) ?_
      refine g_getr (pc := 35) E Y 0 0 1 S_0 rfl V_7 (by decide) AL_X7 q_301 dX7_become_35 ?_
      refine g_getr (pc := 38) E Y 1 0 2 S_1 rfl V_3 (by decide) AL_X3 q_334 dX7_become_38 ?_
      refine g_getr (pc := 41) E Y 2 0 3 S_2 rfl V_0 (by decide) AL_X0 q_336 dX7_become_41 ?_
      refine lv_iload_n (pc := 44) hx hb dX7_become_44 rfl (lv_at hl 2 rfl) ?_
      refine lv_iload_n (pc := 45) hx hb dX7_become_45 rfl (lv_at hl 3 rfl) ?_
      refine lv_bipush (pc := 46) (v := 10) hx hb dX7_become_46 (by decide) ?_
      refine g_idiv (pc := 48) E dX7_become_48 hf (fun v8 hf => ?_)
      refine g_iast (pc := 49) E Y 3 S_3 dX7_become_49 hf (fun μ9 H locs hf Y => ?_)
      refine lv_aload_n (pc := 50) hx hb dX7_become_50 rfl (lv_at hl 1 rfl) ?_
      refine g_getr (pc := 51) E Y 0 0 1 S_0 rfl V_7 (by decide) AL_X7 q_301 dX7_become_51 ?_
      refine g_getr (pc := 54) E Y 1 0 2 S_1 rfl V_3 (by decide) AL_X3 q_334 dX7_become_54 ?_
      refine g_getr (pc := 57) E Y 2 1 4 S_2 rfl V_0 (by decide) AL_X0 q_337 dX7_become_57 ?_
      refine lv_iload_n (pc := 60) hx hb dX7_become_60 rfl (lv_at hl 2 rfl) ?_
      refine lv_iload_n (pc := 61) hx hb dX7_become_61 rfl (lv_at hl 3 rfl) ?_
      refine lv_bipush (pc := 62) (v := 10) hx hb dX7_become_62 (by decide) ?_
      refine g_irem (pc := 64) E dX7_become_64 hf (fun v10 hf => ?_)
      refine g_iast (pc := 65) E Y 4 S_4 dX7_become_65 hf (fun μ11 H locs hf Y => ?_)
      refine lv_iload_n (pc := 66) hx hb dX7_become_66 rfl (lv_at hl 0 rfl) ?_
      exact g_iret (pc := 67) E Y hr hk dX7_become_67 hf
    · refine lv_aload_n (pc := 15) hx hb dX7_become_15 rfl (lv_at hl 0 rfl) ?_
      refine lv_iconst (pc := 16) (v := 1) hx hb dX7_become_16 (by decide) ?_
      refine g_callVi (pc := 17) E Y 0 S_0 V_7 o_X7_error q_656 [.int 1] rfl rfl (hR_of (by omega) (by decide)) hl.1 (rest := []) rfl (Nat.le_of_ble_eq_true rfl) dX7_become_17 (fun z hz => m_X7_error_0 hz) hf (fun v12 μ13 H locs hf Y => ?_)
      exact g_iret (pc := 20) E Y hr hk dX7_become_20 hf
def fb_X7_isUnder_L4 (bk : Int32 → Int32 → Int32 → Mem → Res) (x1 : Int32) (x2 : Int32) (x3 : Int32) (σ : Mem) : Res := if 7 ≤ x3 then (gb 0 (some (0, σ))) else (if x2 < 0 then (gb 0 (some (0, σ))) else (if 7 ≤ x2 then (gb 0 (some (0, σ))) else (if x2 = x1 then (gb 1 (some (1, σ))) else (gi x2 7 <| nm (tA x2.toNatClampNeg) fun (v1 : Int32) => nm (x3 + 1) fun (v2 : Int32) => bk x1 v1 v2 σ))))
def f_X7_isUnder_L4 : Nat → Int32 → Int32 → Int32 → Mem → Res
  | 0, _, _, _, _ => none
  | n + 1, x1, x2, x3, σ => fb_X7_isUnder_L4 (f_X7_isUnder_L4 n) x1 x2 x3 σ
def f_X7_isUnder (a0 : Int32) (a1 : Int32) (σ : Mem) : Res := f_X7_isUnder_L4 1000 a1 a0 0 σ
set_option maxHeartbeats 4000000 in
set_option maxRecDepth 100000 in
theorem m_X7_isUnder {l : Launch} {σ : Mem} {Z : Int32 × Mem} {a0 : Int32} {a1 : Int32} (hf : f_X7_isUnder a0 a1 σ = some Z) : CT l yX7_isUnder cX7_isUnder 4 (some .boolean) 0 (fun _ => [.int a0, .int a1]) σ Z := by
  refine g_openT RX7 (by decide) rfl (fun _ => Nat.le_of_ble_eq_true rfl) (fun p e s m below meth c D cI cB ad st ls E Y hr hk hl => ?_)
  have hx := E.1.1
  have hb := E.1.2.1
  have hl : lv_has ls 4 [(0, .int a0), (1, .int a1)] := hl
  have hL_4 : ∀ (n : Nat) (x1 : Int32) (x2 : Int32) (x3 : Int32) (σ : Mem) (H : Heap) (locs : List Loc) (ls : Array Slot), f_X7_isUnder_L4 n x1 x2 x3 σ = some Z → Wo D cI cB ad (AA ad) σ s H locs → lv_has ls 4 [(1, .int x1), (2, .int x2), (3, .int x3)] → W p l e (rmd 0) s m ([.int a0, .int a1] : List Value).toArray below meth c H locs 0 0 (QT_ below D cI cB ad st Z ([.int a0, .int a1] : List Value).toArray s) (F0 m 4 ls []) := by
    intro n
    induction n with
    | zero =>
      intro x1 x2 x3 σ H locs ls hf
      cases (show (none : Res) = some Z from hf)
    | succ n ih =>
      intro x1 x2 x3 σ H locs ls hf Y hl
      have hf : fb_X7_isUnder_L4 (f_X7_isUnder_L4 n) x1 x2 x3 σ = some Z := hf
      unfold fb_X7_isUnder_L4 at hf
      refine lv_iload_n (pc := 4) hx hb dX7_isUnder_4 rfl (lv_at hl 2 rfl) ?_
      refine lv_bipush (pc := 5) (v := 7) hx hb dX7_isUnder_5 (by decide) ?_
      refine g_icmp_ge (pc := 7) (tgt := 39) E dX7_isUnder_7 (by decide) hf (fun hf => ?_) (fun hf => ?_)
      · refine lv_iconst (pc := 39) (v := 0) hx hb dX7_isUnder_39 (by decide) ?_
        exact g_zret (pc := 40) E Y hr hk dX7_isUnder_40 hf
      · refine lv_iload_n (pc := 10) hx hb dX7_isUnder_10 rfl (lv_at hl 1 rfl) ?_
        refine g_if_lt (pc := 11) (tgt := 39) E dX7_isUnder_11 (by decide) hf (fun hf => ?_) (fun hf => ?_)
        · refine lv_iconst (pc := 39) (v := 0) hx hb dX7_isUnder_39 (by decide) ?_
          exact g_zret (pc := 40) E Y hr hk dX7_isUnder_40 hf
        · refine lv_iload_n (pc := 14) hx hb dX7_isUnder_14 rfl (lv_at hl 1 rfl) ?_
          refine lv_bipush (pc := 15) (v := 7) hx hb dX7_isUnder_15 (by decide) ?_
          refine g_icmp_ge (pc := 17) (tgt := 39) E dX7_isUnder_17 (by decide) hf (fun hf => ?_) (fun hf => ?_)
          · refine lv_iconst (pc := 39) (v := 0) hx hb dX7_isUnder_39 (by decide) ?_
            exact g_zret (pc := 40) E Y hr hk dX7_isUnder_40 hf
          · refine lv_iload_n (pc := 20) hx hb dX7_isUnder_20 rfl (lv_at hl 1 rfl) ?_
            refine lv_iload_n (pc := 21) hx hb dX7_isUnder_21 rfl (lv_at hl 0 rfl) ?_
            refine g_icmp_ne (pc := 22) (tgt := 27) E dX7_isUnder_22 (by decide) hf (fun hf => ?_) (fun hf => ?_)
            · refine g_gets0 (pc := 27) E Y q_330 dX7_isUnder_27 ?_
              refine lv_iload_n (pc := 30) hx hb dX7_isUnder_30 rfl (lv_at hl 1 rfl) ?_
              refine g_ti0 (pc := 31) E Y dX7_isUnder_31 hf (fun v1 hf => ?_)
              refine lv_istore_n (pc := 32) (lv' := [(2, .int v1), (1, .int x1), (3, .int x3)]) hx hb dX7_isUnder_32 rfl hl (by decide) rfl (fun ls hl => ?_)
              refine g_iinc (pc := 33) E (fun v2 => [(3, .int v2), (2, .int v1), (1, .int x1)]) dX7_isUnder_33 hl (k := 2) rfl (t := 1) (by decide) (by decide) (fun _ => rfl) hf (fun v2 hf ls hl => ?_)
              refine lv_goto (pc := 36) (tgt := 4) hx hb dX7_isUnder_36 (by decide) ?_
              exact ih _ _ _ _ _ _ _ hf Y (lv_sub hl [2, 1, 0] rfl)
            · refine lv_iconst (pc := 25) (v := 1) hx hb dX7_isUnder_25 (by decide) ?_
              exact g_zret (pc := 26) E Y hr hk dX7_isUnder_26 hf
  unfold f_X7_isUnder at hf
  refine lv_iload_n (pc := 0) hx hb dX7_isUnder_0 rfl (lv_at hl 0 rfl) ?_
  refine lv_istore_n (pc := 1) (lv' := [(2, .int a0), (0, .int a0), (1, .int a1)]) hx hb dX7_isUnder_1 rfl hl (by decide) rfl (fun ls hl => ?_)
  refine lv_iconst (pc := 2) (v := 0) hx hb dX7_isUnder_2 (by decide) ?_
  refine lv_istore_n (pc := 3) (lv' := [(3, .int 0), (2, .int a0), (0, .int a0), (1, .int a1)]) hx hb dX7_isUnder_3 rfl hl (by decide) rfl (fun ls hl => ?_)
  exact hL_4 1000 _ _ _ _ _ _ _ hf Y (lv_sub hl [3, 1, 0] rfl)
def f_X7_as_0 (a0 : Int32) (a1 : Int32) (σ : Mem) : Res := bd (f_X7_isPitch_0 a0 σ) fun v1 μ2 => if v1 = 0 then (bd (f_X7_error_0 1 μ2) fun v3 μ4 => some (v3, μ4)) else (bd (f_X7_within a1 0 6 μ2) fun v5 μ6 => if v5 = 0 then (bd (f_X7_error_0 1 μ6) fun v13 μ14 => some (v13, μ14)) else (gi a0 6 <| nm (μ6 3 a0.toNatClampNeg) fun (v7 : Int32) => bd (f_X7_isUnder v7 a1 μ6) fun v8 μ9 => if v8 = 0 then (bd (f_X7_error_0 5 μ9) fun v11 μ12 => some (v11, μ12)) else (gi a0 6 <| nm (μ9 4 a0.toNatClampNeg) fun (v10 : Int32) => some (v10, μ9))))
set_option maxHeartbeats 4000000 in
set_option maxRecDepth 100000 in
theorem m_X7_as_0 {l : Launch} {σ : Mem} {Z : Int32 × Mem} {a0 : Int32} {a1 : Int32} (hf : f_X7_as_0 a0 a1 σ = some Z) : CT l yX7_as cX7_as 3 (some .int) 1 (fun ad => [.ref (ad 0), .int a0, .int a1]) σ Z := by
  refine g_openT RX7 (by decide) rfl (fun _ => Nat.le_of_ble_eq_true rfl) (fun p e s m below meth c D cI cB ad st ls E Y hr hk hl => ?_)
  have hx := E.1.1
  have hb := E.1.2.1
  have hl : lv_has ls 3 [(0, .ref (ad 0)), (1, .int a0), (2, .int a1)] := hl
  unfold f_X7_as_0 at hf
  refine lv_aload_n (pc := 0) hx hb dX7_as_0 rfl (lv_at hl 0 rfl) ?_
  refine lv_iload_n (pc := 1) hx hb dX7_as_1 rfl (lv_at hl 1 rfl) ?_
  refine g_callVi (pc := 2) E Y 0 S_0 V_7 o_X7_isPitch q_658 [.int a0] rfl rfl (hR_of (by omega) (by decide)) hl.1 (rest := []) rfl (Nat.le_of_ble_eq_true rfl) dX7_as_2 (fun z hz => m_X7_isPitch_0 hz) hf (fun v1 μ2 H locs hf Y => ?_)
  refine g_if_eq (pc := 5) (tgt := 18) E dX7_as_5 (by decide) hf (fun hf => ?_) (fun hf => ?_)
  · refine lv_aload_n (pc := 18) hx hb dX7_as_18 rfl (lv_at hl 0 rfl) ?_
    refine lv_iconst (pc := 19) (v := 1) hx hb dX7_as_19 (by decide) ?_
    refine g_callVi (pc := 20) E Y 0 S_0 V_7 o_X7_error q_656 [.int 1] rfl rfl (hR_of (by omega) (by decide)) hl.1 (rest := []) rfl (Nat.le_of_ble_eq_true rfl) dX7_as_20 (fun z hz => m_X7_error_0 hz) hf (fun v3 μ4 H locs hf Y => ?_)
    exact g_iret (pc := 23) E Y hr hk dX7_as_23 hf
  · refine lv_iload_n (pc := 8) hx hb dX7_as_8 rfl (lv_at hl 2 rfl) ?_
    refine lv_iconst (pc := 9) (v := 0) hx hb dX7_as_9 (by decide) ?_
    refine lv_bipush (pc := 10) (v := 6) hx hb dX7_as_10 (by decide) ?_
    refine g_callSi (pc := 12) E Y o_X7_within q_661 [.int a1, .int 0, .int 6] rfl rfl (hR_of (by omega) (by decide)) hl.1 (rest := []) rfl (Nat.le_of_ble_eq_true rfl) dX7_as_12 (fun z hz => m_X7_within hz) hf (fun v5 μ6 H locs hf Y => ?_)
    refine g_if_ne (pc := 15) (tgt := 24) E dX7_as_15 (by decide) hf (fun hf => ?_) (fun hf => ?_)
    · refine lv_aload_n (pc := 24) hx hb dX7_as_24 rfl (lv_at hl 0 rfl) ?_
      refine g_getr (pc := 25) E Y 0 0 1 S_0 rfl V_7 (by decide) AL_X7 q_301 dX7_as_25 ?_
      refine g_getr (pc := 28) E Y 1 0 2 S_1 rfl V_3 (by decide) AL_X3 q_334 dX7_as_28 ?_
      refine g_getr (pc := 31) E Y 2 0 3 S_2 rfl V_0 (by decide) AL_X0 q_336 dX7_as_31 ?_
      refine lv_iload_n (pc := 34) hx hb dX7_as_34 rfl (lv_at hl 1 rfl) ?_
      refine g_iald (pc := 35) E Y 3 S_3 dX7_as_35 hf (fun v7 hf => ?_)
      refine lv_iload_n (pc := 36) hx hb dX7_as_36 rfl (lv_at hl 2 rfl) ?_
      refine g_callSi (pc := 37) E Y o_X7_isUnder q_662 [.int v7, .int a1] rfl rfl (hR_of (by omega) (by decide)) hl.1 (rest := []) rfl (Nat.le_of_ble_eq_true rfl) dX7_as_37 (fun z hz => m_X7_isUnder hz) hf (fun v8 μ9 H locs hf Y => ?_)
      refine g_if_ne (pc := 40) (tgt := 49) E dX7_as_40 (by decide) hf (fun hf => ?_) (fun hf => ?_)
      · refine lv_aload_n (pc := 49) hx hb dX7_as_49 rfl (lv_at hl 0 rfl) ?_
        refine g_getr (pc := 50) E Y 0 0 1 S_0 rfl V_7 (by decide) AL_X7 q_301 dX7_as_50 ?_
        refine g_getr (pc := 53) E Y 1 0 2 S_1 rfl V_3 (by decide) AL_X3 q_334 dX7_as_53 ?_
        refine g_getr (pc := 56) E Y 2 1 4 S_2 rfl V_0 (by decide) AL_X0 q_337 dX7_as_56 ?_
        refine lv_iload_n (pc := 59) hx hb dX7_as_59 rfl (lv_at hl 1 rfl) ?_
        refine g_iald (pc := 60) E Y 4 S_4 dX7_as_60 hf (fun v10 hf => ?_)
        exact g_iret (pc := 61) E Y hr hk dX7_as_61 hf
      · refine lv_aload_n (pc := 43) hx hb dX7_as_43 rfl (lv_at hl 0 rfl) ?_
        refine lv_iconst (pc := 44) (v := 5) hx hb dX7_as_44 (by decide) ?_
        refine g_callVi (pc := 45) E Y 0 S_0 V_7 o_X7_error q_656 [.int 5] rfl rfl (hR_of (by omega) (by decide)) hl.1 (rest := []) rfl (Nat.le_of_ble_eq_true rfl) dX7_as_45 (fun z hz => m_X7_error_0 hz) hf (fun v11 μ12 H locs hf Y => ?_)
        exact g_iret (pc := 48) E Y hr hk dX7_as_48 hf
    · refine lv_aload_n (pc := 18) hx hb dX7_as_18 rfl (lv_at hl 0 rfl) ?_
      refine lv_iconst (pc := 19) (v := 1) hx hb dX7_as_19 (by decide) ?_
      refine g_callVi (pc := 20) E Y 0 S_0 V_7 o_X7_error q_656 [.int 1] rfl rfl (hR_of (by omega) (by decide)) hl.1 (rest := []) rfl (Nat.le_of_ble_eq_true rfl) dX7_as_20 (fun z hz => m_X7_error_0 hz) hf (fun v13 μ14 H locs hf Y => ?_)
      exact g_iret (pc := 23) E Y hr hk dX7_as_23 hf
def f_X7_weighs_0 (a0 : Int32) (a1 : Int32) (σ : Mem) : Res := bd (f_X7_isPitch_0 a0 σ) fun v1 μ2 => if v1 = 0 then (bd (f_X7_error_0 1 μ2) fun v3 μ4 => some (v3, μ4)) else (bd (f_X7_isDigit a1 μ2) fun v5 μ6 => if v5 = 0 then (bd (f_X7_error_0 1 μ6) fun v9 μ10 => some (v9, μ10)) else (gi a0 6 <| nm (μ6 5 a0.toNatClampNeg) fun (v7 : Int32) => gi a0 6 <| nm (mset μ6 5 a0.toNatClampNeg a1) fun (μ8 : Mem) => some (v7, μ8)))
set_option maxHeartbeats 4000000 in
set_option maxRecDepth 100000 in
theorem m_X7_weighs_0 {l : Launch} {σ : Mem} {Z : Int32 × Mem} {a0 : Int32} {a1 : Int32} (hf : f_X7_weighs_0 a0 a1 σ = some Z) : CT l yX7_weighs cX7_weighs 4 (some .int) 2 (fun ad => [.ref (ad 0), .int a0, .int a1]) σ Z := by
  refine g_openT RX7 (by decide) rfl (fun _ => Nat.le_of_ble_eq_true rfl) (fun p e s m below meth c D cI cB ad st ls E Y hr hk hl => ?_)
  have hx := E.1.1
  have hb := E.1.2.1
  have hl : lv_has ls 4 [(0, .ref (ad 0)), (1, .int a0), (2, .int a1)] := hl
  unfold f_X7_weighs_0 at hf
  refine lv_aload_n (pc := 0) hx hb dX7_weighs_0 rfl (lv_at hl 0 rfl) ?_
  refine lv_iload_n (pc := 1) hx hb dX7_weighs_1 rfl (lv_at hl 1 rfl) ?_
  refine g_callVi (pc := 2) E Y 0 S_0 V_7 o_X7_isPitch q_658 [.int a0] rfl rfl (hR_of (by omega) (by decide)) hl.1 (rest := []) rfl (Nat.le_of_ble_eq_true rfl) dX7_weighs_2 (fun z hz => m_X7_isPitch_0 hz) hf (fun v1 μ2 H locs hf Y => ?_)
  refine g_if_eq (pc := 5) (tgt := 15) E dX7_weighs_5 (by decide) hf (fun hf => ?_) (fun hf => ?_)
  · refine lv_aload_n (pc := 15) hx hb dX7_weighs_15 rfl (lv_at hl 0 rfl) ?_
    refine lv_iconst (pc := 16) (v := 1) hx hb dX7_weighs_16 (by decide) ?_
    refine g_callVi (pc := 17) E Y 0 S_0 V_7 o_X7_error q_656 [.int 1] rfl rfl (hR_of (by omega) (by decide)) hl.1 (rest := []) rfl (Nat.le_of_ble_eq_true rfl) dX7_weighs_17 (fun z hz => m_X7_error_0 hz) hf (fun v3 μ4 H locs hf Y => ?_)
    exact g_iret (pc := 20) E Y hr hk dX7_weighs_20 hf
  · refine lv_iload_n (pc := 8) hx hb dX7_weighs_8 rfl (lv_at hl 2 rfl) ?_
    refine g_callSi (pc := 9) E Y o_X7_isDigit q_655 [.int a1] rfl rfl (hR_of (by omega) (by decide)) hl.1 (rest := []) rfl (Nat.le_of_ble_eq_true rfl) dX7_weighs_9 (fun z hz => m_X7_isDigit hz) hf (fun v5 μ6 H locs hf Y => ?_)
    refine g_if_ne (pc := 12) (tgt := 21) E dX7_weighs_12 (by decide) hf (fun hf => ?_) (fun hf => ?_)
    · refine lv_aload_n (pc := 21) hx hb dX7_weighs_21 rfl (lv_at hl 0 rfl) ?_
      refine g_getr (pc := 22) E Y 0 0 1 S_0 rfl V_7 (by decide) AL_X7 q_301 dX7_weighs_22 ?_
      refine g_getr (pc := 25) E Y 1 0 2 S_1 rfl V_3 (by decide) AL_X3 q_334 dX7_weighs_25 ?_
      refine g_getr (pc := 28) E Y 2 2 5 S_2 rfl V_0 (by decide) AL_X0 q_338 dX7_weighs_28 ?_
      refine lv_iload_n (pc := 31) hx hb dX7_weighs_31 rfl (lv_at hl 1 rfl) ?_
      refine g_iald (pc := 32) E Y 5 S_5 dX7_weighs_32 hf (fun v7 hf => ?_)
      refine lv_istore_n (pc := 33) (lv' := [(3, .int v7), (0, .ref (ad 0)), (1, .int a0), (2, .int a1)]) hx hb dX7_weighs_33 rfl hl (by decide) rfl (fun ls hl => ?_)
      refine lv_aload_n (pc := 34) hx hb dX7_weighs_34 rfl (lv_at hl 1 rfl) ?_
      refine g_getr (pc := 35) E Y 0 0 1 S_0 rfl V_7 (by decide) AL_X7 q_301 dX7_weighs_35 ?_
      refine g_getr (pc := 38) E Y 1 0 2 S_1 rfl V_3 (by decide) AL_X3 q_334 dX7_weighs_38 ?_
      refine g_getr (pc := 41) E Y 2 2 5 S_2 rfl V_0 (by decide) AL_X0 q_338 dX7_weighs_41 ?_
      refine lv_iload_n (pc := 44) hx hb dX7_weighs_44 rfl (lv_at hl 2 rfl) ?_
      refine lv_iload_n (pc := 45) hx hb dX7_weighs_45 rfl (lv_at hl 3 rfl) ?_
      refine g_iast (pc := 46) E Y 5 S_5 dX7_weighs_46 hf (fun μ8 H locs hf Y => ?_)
      refine lv_iload_n (pc := 47) hx hb dX7_weighs_47 rfl (lv_at hl 0 rfl) ?_
      exact g_iret (pc := 48) E Y hr hk dX7_weighs_48 hf
    · refine lv_aload_n (pc := 15) hx hb dX7_weighs_15 rfl (lv_at hl 0 rfl) ?_
      refine lv_iconst (pc := 16) (v := 1) hx hb dX7_weighs_16 (by decide) ?_
      refine g_callVi (pc := 17) E Y 0 S_0 V_7 o_X7_error q_656 [.int 1] rfl rfl (hR_of (by omega) (by decide)) hl.1 (rest := []) rfl (Nat.le_of_ble_eq_true rfl) dX7_weighs_17 (fun z hz => m_X7_error_0 hz) hf (fun v9 μ10 H locs hf Y => ?_)
      exact g_iret (pc := 20) E Y hr hk dX7_weighs_20 hf
def f_X2_add_7 (a0 : Int32) (a1 : Int32) (σ : Mem) : Res := nm (σ 7 5) fun (v1 : Int32) => if v1 < 5 then (gi v1 5 <| nm (mset σ 8 v1.toNatClampNeg a0) fun (μ2 : Mem) => gi v1 5 <| nm (mset μ2 9 v1.toNatClampNeg a1) fun (μ3 : Mem) => gi v1 5 <| nm (mset μ3 10 v1.toNatClampNeg 0) fun (μ4 : Mem) => gi v1 5 <| nm (mset μ4 11 v1.toNatClampNeg 0) fun (μ5 : Mem) => gi v1 5 <| nm (mset μ5 12 v1.toNatClampNeg 0) fun (μ6 : Mem) => nm (μ6 7 5) fun (v7 : Int32) => nm (v7 + 1) fun (v8 : Int32) => nm (mset μ6 7 5 v8) fun (μ9 : Mem) => some (v1, μ9)) else (some ((-1), σ))
set_option maxHeartbeats 4000000 in
set_option maxRecDepth 100000 in
theorem m_X2_add_7 {l : Launch} {σ : Mem} {Z : Int32 × Mem} {a0 : Int32} {a1 : Int32} (hf : f_X2_add_7 a0 a1 σ = some Z) : CT l yX2_add cX2_add 4 (some .int) 0 (fun ad => [.ref (ad 7), .int a0, .int a1]) σ Z := by
  refine g_openT RX2 (by decide) rfl (fun _ => Nat.le_of_ble_eq_true rfl) (fun p e s m below meth c D cI cB ad st ls E Y hr hk hl => ?_)
  have hx := E.1.1
  have hb := E.1.2.1
  have hl : lv_has ls 4 [(0, .ref (ad 7)), (1, .int a0), (2, .int a1)] := hl
  unfold f_X2_add_7 at hf
  refine lv_aload_n (pc := 0) hx hb dX2_add_0 rfl (lv_at hl 0 rfl) ?_
  refine g_geti (pc := 1) E Y 7 5 S_7 rfl V_2 (by decide) AL_X2 q_261 dX2_add_1 hf (fun v1 hf => ?_)
  refine lv_istore_n (pc := 4) (lv' := [(3, .int v1), (0, .ref (ad 7)), (1, .int a0), (2, .int a1)]) hx hb dX2_add_4 rfl hl (by decide) rfl (fun ls hl => ?_)
  refine lv_iload_n (pc := 5) hx hb dX2_add_5 rfl (lv_at hl 0 rfl) ?_
  refine lv_iconst (pc := 6) (v := 5) hx hb dX2_add_6 (by decide) ?_
  refine g_icmp_lt (pc := 7) (tgt := 12) E dX2_add_7 (by decide) hf (fun hf => ?_) (fun hf => ?_)
  · refine lv_aload_n (pc := 12) hx hb dX2_add_12 rfl (lv_at hl 1 rfl) ?_
    refine g_getr (pc := 13) E Y 7 0 8 S_7 rfl V_2 (by decide) AL_X2 q_262 dX2_add_13 ?_
    refine lv_iload_n (pc := 16) hx hb dX2_add_16 rfl (lv_at hl 0 rfl) ?_
    refine lv_iload_n (pc := 17) hx hb dX2_add_17 rfl (lv_at hl 2 rfl) ?_
    refine g_iast (pc := 18) E Y 8 S_8 dX2_add_18 hf (fun μ2 H locs hf Y => ?_)
    refine lv_aload_n (pc := 19) hx hb dX2_add_19 rfl (lv_at hl 1 rfl) ?_
    refine g_getr (pc := 20) E Y 7 1 9 S_7 rfl V_2 (by decide) AL_X2 q_257 dX2_add_20 ?_
    refine lv_iload_n (pc := 23) hx hb dX2_add_23 rfl (lv_at hl 0 rfl) ?_
    refine lv_iload_n (pc := 24) hx hb dX2_add_24 rfl (lv_at hl 3 rfl) ?_
    refine g_iast (pc := 25) E Y 9 S_9 dX2_add_25 hf (fun μ3 H locs hf Y => ?_)
    refine lv_aload_n (pc := 26) hx hb dX2_add_26 rfl (lv_at hl 1 rfl) ?_
    refine g_getr (pc := 27) E Y 7 2 10 S_7 rfl V_2 (by decide) AL_X2 q_258 dX2_add_27 ?_
    refine lv_iload_n (pc := 30) hx hb dX2_add_30 rfl (lv_at hl 0 rfl) ?_
    refine lv_iconst (pc := 31) (v := 0) hx hb dX2_add_31 (by decide) ?_
    refine g_iast (pc := 32) E Y 10 S_10 dX2_add_32 hf (fun μ4 H locs hf Y => ?_)
    refine lv_aload_n (pc := 33) hx hb dX2_add_33 rfl (lv_at hl 1 rfl) ?_
    refine g_getr (pc := 34) E Y 7 3 11 S_7 rfl V_2 (by decide) AL_X2 q_259 dX2_add_34 ?_
    refine lv_iload_n (pc := 37) hx hb dX2_add_37 rfl (lv_at hl 0 rfl) ?_
    refine lv_iconst (pc := 38) (v := 0) hx hb dX2_add_38 (by decide) ?_
    refine g_iast (pc := 39) E Y 11 S_11 dX2_add_39 hf (fun μ5 H locs hf Y => ?_)
    refine lv_aload_n (pc := 40) hx hb dX2_add_40 rfl (lv_at hl 1 rfl) ?_
    refine g_getr (pc := 41) E Y 7 4 12 S_7 rfl V_2 (by decide) AL_X2 q_260 dX2_add_41 ?_
    refine lv_iload_n (pc := 44) hx hb dX2_add_44 rfl (lv_at hl 0 rfl) ?_
    refine lv_iconst (pc := 45) (v := 0) hx hb dX2_add_45 (by decide) ?_
    refine g_iast (pc := 46) E Y 12 S_12 dX2_add_46 hf (fun μ6 H locs hf Y => ?_)
    refine lv_aload_n (pc := 47) hx hb dX2_add_47 rfl (lv_at hl 1 rfl) ?_
    refine lv_dup (pc := 48) hx hb dX2_add_48 rfl ?_
    refine g_geti (pc := 49) E Y 7 5 S_7 rfl V_2 (by decide) AL_X2 q_261 dX2_add_49 hf (fun v7 hf => ?_)
    refine lv_iconst (pc := 52) (v := 1) hx hb dX2_add_52 (by decide) ?_
    refine g_iadd (pc := 53) E dX2_add_53 hf (fun v8 hf => ?_)
    refine g_put (pc := 54) E Y 7 5 S_7 rfl V_2 (by decide) AL_X2 tyX2 tyX2_ok nmX2 q_261 rfl rfl rfl dX2_add_54 hf (fun μ9 H locs hf Y => ?_)
    refine lv_iload_n (pc := 57) hx hb dX2_add_57 rfl (lv_at hl 0 rfl) ?_
    exact g_iret (pc := 58) E Y hr hk dX2_add_58 hf
  · refine lv_iconst (pc := 10) (v := (-1)) hx hb dX2_add_10 (by decide) ?_
    exact g_iret (pc := 11) E Y hr hk dX2_add_11 hf
def f_X7_runner_0 (a0 : Int32) (a1 : Int32) (σ : Mem) : Res := bd (f_X7_within a0 0 99 σ) fun v1 μ2 => if v1 = 0 then (bd (f_X7_error_0 1 μ2) fun v3 μ4 => some (v3, μ4)) else (bd (f_X7_within a1 1 60 μ2) fun v5 μ6 => if v5 = 0 then (bd (f_X7_error_0 1 μ6) fun v12 μ13 => some (v12, μ13)) else (nm (μ6 7 5) fun (v7 : Int32) => if v7 < 5 then (bd (f_X2_add_7 a0 a1 μ6) fun v8 μ9 => some (v8, μ9)) else (bd (f_X7_error_0 4 μ6) fun v10 μ11 => some (v10, μ11))))
set_option maxHeartbeats 4000000 in
set_option maxRecDepth 100000 in
theorem m_X7_runner_0 {l : Launch} {σ : Mem} {Z : Int32 × Mem} {a0 : Int32} {a1 : Int32} (hf : f_X7_runner_0 a0 a1 σ = some Z) : CT l yX7_runner cX7_runner 3 (some .int) 1 (fun ad => [.ref (ad 0), .int a0, .int a1]) σ Z := by
  refine g_openT RX7 (by decide) rfl (fun _ => Nat.le_of_ble_eq_true rfl) (fun p e s m below meth c D cI cB ad st ls E Y hr hk hl => ?_)
  have hx := E.1.1
  have hb := E.1.2.1
  have hl : lv_has ls 3 [(0, .ref (ad 0)), (1, .int a0), (2, .int a1)] := hl
  unfold f_X7_runner_0 at hf
  refine lv_iload_n (pc := 0) hx hb dX7_runner_0 rfl (lv_at hl 1 rfl) ?_
  refine lv_iconst (pc := 1) (v := 0) hx hb dX7_runner_1 (by decide) ?_
  refine lv_bipush (pc := 2) (v := 99) hx hb dX7_runner_2 (by decide) ?_
  refine g_callSi (pc := 4) E Y o_X7_within q_661 [.int a0, .int 0, .int 99] rfl rfl (hR_of (by omega) (by decide)) hl.1 (rest := []) rfl (Nat.le_of_ble_eq_true rfl) dX7_runner_4 (fun z hz => m_X7_within hz) hf (fun v1 μ2 H locs hf Y => ?_)
  refine g_if_eq (pc := 7) (tgt := 20) E dX7_runner_7 (by decide) hf (fun hf => ?_) (fun hf => ?_)
  · refine lv_aload_n (pc := 20) hx hb dX7_runner_20 rfl (lv_at hl 0 rfl) ?_
    refine lv_iconst (pc := 21) (v := 1) hx hb dX7_runner_21 (by decide) ?_
    refine g_callVi (pc := 22) E Y 0 S_0 V_7 o_X7_error q_656 [.int 1] rfl rfl (hR_of (by omega) (by decide)) hl.1 (rest := []) rfl (Nat.le_of_ble_eq_true rfl) dX7_runner_22 (fun z hz => m_X7_error_0 hz) hf (fun v3 μ4 H locs hf Y => ?_)
    exact g_iret (pc := 25) E Y hr hk dX7_runner_25 hf
  · refine lv_iload_n (pc := 10) hx hb dX7_runner_10 rfl (lv_at hl 2 rfl) ?_
    refine lv_iconst (pc := 11) (v := 1) hx hb dX7_runner_11 (by decide) ?_
    refine lv_bipush (pc := 12) (v := 60) hx hb dX7_runner_12 (by decide) ?_
    refine g_callSi (pc := 14) E Y o_X7_within q_661 [.int a1, .int 1, .int 60] rfl rfl (hR_of (by omega) (by decide)) hl.1 (rest := []) rfl (Nat.le_of_ble_eq_true rfl) dX7_runner_14 (fun z hz => m_X7_within hz) hf (fun v5 μ6 H locs hf Y => ?_)
    refine g_if_ne (pc := 17) (tgt := 26) E dX7_runner_17 (by decide) hf (fun hf => ?_) (fun hf => ?_)
    · refine lv_aload_n (pc := 26) hx hb dX7_runner_26 rfl (lv_at hl 0 rfl) ?_
      refine g_getr (pc := 27) E Y 0 0 1 S_0 rfl V_7 (by decide) AL_X7 q_301 dX7_runner_27 ?_
      refine g_getr (pc := 30) E Y 1 1 7 S_1 rfl V_3 (by decide) AL_X3 q_302 dX7_runner_30 ?_
      refine g_geti (pc := 33) E Y 7 5 S_7 rfl V_2 (by decide) AL_X2 q_303 dX7_runner_33 hf (fun v7 hf => ?_)
      refine lv_iconst (pc := 36) (v := 5) hx hb dX7_runner_36 (by decide) ?_
      refine g_icmp_lt (pc := 37) (tgt := 46) E dX7_runner_37 (by decide) hf (fun hf => ?_) (fun hf => ?_)
      · refine lv_aload_n (pc := 46) hx hb dX7_runner_46 rfl (lv_at hl 0 rfl) ?_
        refine g_getr (pc := 47) E Y 0 0 1 S_0 rfl V_7 (by decide) AL_X7 q_301 dX7_runner_47 ?_
        refine g_getr (pc := 50) E Y 1 1 7 S_1 rfl V_3 (by decide) AL_X3 q_302 dX7_runner_50 ?_
        refine lv_iload_n (pc := 53) hx hb dX7_runner_53 rfl (lv_at hl 1 rfl) ?_
        refine lv_iload_n (pc := 54) hx hb dX7_runner_54 rfl (lv_at hl 2 rfl) ?_
        refine g_callVi (pc := 55) E Y 7 S_7 V_2 o_X2_add q_617 [.int a0, .int a1] rfl rfl (hR_of (by omega) (by decide)) hl.1 (rest := []) rfl (Nat.le_of_ble_eq_true rfl) dX7_runner_55 (fun z hz => m_X2_add_7 hz) hf (fun v8 μ9 H locs hf Y => ?_)
        exact g_iret (pc := 58) E Y hr hk dX7_runner_58 hf
      · refine lv_aload_n (pc := 40) hx hb dX7_runner_40 rfl (lv_at hl 0 rfl) ?_
        refine lv_iconst (pc := 41) (v := 4) hx hb dX7_runner_41 (by decide) ?_
        refine g_callVi (pc := 42) E Y 0 S_0 V_7 o_X7_error q_656 [.int 4] rfl rfl (hR_of (by omega) (by decide)) hl.1 (rest := []) rfl (Nat.le_of_ble_eq_true rfl) dX7_runner_42 (fun z hz => m_X7_error_0 hz) hf (fun v10 μ11 H locs hf Y => ?_)
        exact g_iret (pc := 45) E Y hr hk dX7_runner_45 hf
    · refine lv_aload_n (pc := 20) hx hb dX7_runner_20 rfl (lv_at hl 0 rfl) ?_
      refine lv_iconst (pc := 21) (v := 1) hx hb dX7_runner_21 (by decide) ?_
      refine g_callVi (pc := 22) E Y 0 S_0 V_7 o_X7_error q_656 [.int 1] rfl rfl (hR_of (by omega) (by decide)) hl.1 (rest := []) rfl (Nat.le_of_ble_eq_true rfl) dX7_runner_22 (fun z hz => m_X7_error_0 hz) hf (fun v12 μ13 H locs hf Y => ?_)
      exact g_iret (pc := 25) E Y hr hk dX7_runner_25 hf
