/-! methods, by program: a pure program and its contract each -/
def fb_X8_judge_53_L18 (bk : Int32 → Int32 → Mem → Res) (x1 : Int32) (x3 : Int32) (σ : Mem) : Res := gi x1 4 <| nm (σ 58 x1.toNatClampNeg) fun (v3 : Int32) => if v3 ≤ x3 then (some (x3, σ)) else (gi 7 386 <| nm (σ 54 (7 : Int32).toNatClampNeg) fun (v4 : Int32) => if v4 ≤ x3 then (some (x3, σ)) else (nm (24 * x1) fun (v5 : Int32) => nm (v5 + x3) fun (v6 : Int32) => gi v6 96 <| nm (σ 59 v6.toNatClampNeg) fun (v7 : Int32) => bd (f_X8_airOf_53 x3 σ) fun v8 μ9 => if v7 = v8 then (nm (x3 + 1) fun (v10 : Int32) => bk x1 v10 μ9) else (some (x3, μ9))))
def f_X8_judge_53_L18 : Nat → Int32 → Int32 → Mem → Res
  | 0, _, _, _ => none
  | n + 1, x1, x3, σ => fb_X8_judge_53_L18 (f_X8_judge_53_L18 n) x1 x3 σ
def f_X8_judge_53 (a0 : Int32) (σ : Mem) : Res := bd (f_X8_notThere_53 a0 σ) fun v1 μ2 => if v1 = 0 then (f_X8_judge_53_L18 1000 a0 0 μ2) else (bd (f_X8_error_53 v1 μ2) fun v11 μ12 => some (v11, μ12))
set_option maxHeartbeats 4000000 in
set_option maxRecDepth 100000 in
theorem m_X8_judge_53 {l : Launch} {σ : Mem} {Z : Int32 × Mem} {a0 : Int32} (hf : f_X8_judge_53 a0 σ = some Z) : CT l yX8_judge cX8_judge 4 (some .int) 4 (fun ad => [.ref (ad 53), .int a0]) σ Z := by
  refine g_openT RX8 (by decide) rfl (fun _ => Nat.le_of_ble_eq_true rfl) (fun p e s m below meth c D cI cB ad st ls E Y hr hk hl => ?_)
  have hx := E.1.1
  have hb := E.1.2.1
  have hl : lv_has ls 4 [(0, .ref (ad 53)), (1, .int a0)] := hl
  have hL_18 : ∀ (n : Nat) (x1 : Int32) (x3 : Int32) (σ : Mem) (H : Heap) (locs : List Loc) (ls : Array Slot), f_X8_judge_53_L18 n x1 x3 σ = some Z → Wo D cI cB ad (AA ad) σ s H locs → lv_has ls 4 [(0, .ref (ad 53)), (1, .int x1), (3, .int x3)] → W p l e (rmd 4) s m ([.ref (ad 53), .int a0] : List Value).toArray below meth c H locs 0 0 (QT_ below D cI cB ad st Z ([.ref (ad 53), .int a0] : List Value).toArray s) (F0 m 18 ls []) := by
    intro n
    induction n with
    | zero =>
      intro x1 x3 σ H locs ls hf
      cases (show (none : Res) = some Z from hf)
    | succ n ih =>
      intro x1 x3 σ H locs ls hf Y hl
      have hf : fb_X8_judge_53_L18 (f_X8_judge_53_L18 n) x1 x3 σ = some Z := hf
      unfold fb_X8_judge_53_L18 at hf
      refine lv_iload_n (pc := 18) hx hb dX8_judge_18 rfl (lv_at hl 2 rfl) ?_
      refine lv_aload_n (pc := 19) hx hb dX8_judge_19 rfl (lv_at hl 0 rfl) ?_
      refine g_getr (pc := 20) E Y 53 5 58 S_53 rfl V_8 (by decide) AL_X8 q_349 dX8_judge_20 ?_
      refine lv_iload_n (pc := 23) hx hb dX8_judge_23 rfl (lv_at hl 1 rfl) ?_
      refine g_iald (pc := 24) E Y 58 S_58 dX8_judge_24 hf (fun v3 hf => ?_)
      refine g_icmp_ge (pc := 25) (tgt := 64) E dX8_judge_25 (by decide) hf (fun hf => ?_) (fun hf => ?_)
      · refine lv_iload_n (pc := 64) hx hb dX8_judge_64 rfl (lv_at hl 2 rfl) ?_
        exact g_iret (pc := 65) E Y hr hk dX8_judge_65 hf
      · refine lv_iload_n (pc := 28) hx hb dX8_judge_28 rfl (lv_at hl 2 rfl) ?_
        refine lv_aload_n (pc := 29) hx hb dX8_judge_29 rfl (lv_at hl 0 rfl) ?_
        refine g_getr (pc := 30) E Y 53 0 54 S_53 rfl V_8 (by decide) AL_X8 q_358 dX8_judge_30 ?_
        refine lv_bipush (pc := 33) (v := 7) hx hb dX8_judge_33 (by decide) ?_
        refine g_iald (pc := 35) E Y 54 S_54 dX8_judge_35 hf (fun v4 hf => ?_)
        refine g_icmp_ge (pc := 36) (tgt := 64) E dX8_judge_36 (by decide) hf (fun hf => ?_) (fun hf => ?_)
        · refine lv_iload_n (pc := 64) hx hb dX8_judge_64 rfl (lv_at hl 2 rfl) ?_
          exact g_iret (pc := 65) E Y hr hk dX8_judge_65 hf
        · refine lv_aload_n (pc := 39) hx hb dX8_judge_39 rfl (lv_at hl 0 rfl) ?_
          refine g_getr (pc := 40) E Y 53 6 59 S_53 rfl V_8 (by decide) AL_X8 q_351 dX8_judge_40 ?_
          refine lv_bipush (pc := 43) (v := 24) hx hb dX8_judge_43 (by decide) ?_
          refine lv_iload_n (pc := 45) hx hb dX8_judge_45 rfl (lv_at hl 1 rfl) ?_
          refine g_imul (pc := 46) E dX8_judge_46 hf (fun v5 hf => ?_)
          refine lv_iload_n (pc := 47) hx hb dX8_judge_47 rfl (lv_at hl 2 rfl) ?_
          refine g_iadd (pc := 48) E dX8_judge_48 hf (fun v6 hf => ?_)
          refine g_iald (pc := 49) E Y 59 S_59 dX8_judge_49 hf (fun v7 hf => ?_)
          refine lv_aload_n (pc := 50) hx hb dX8_judge_50 rfl (lv_at hl 0 rfl) ?_
          refine lv_iload_n (pc := 51) hx hb dX8_judge_51 rfl (lv_at hl 2 rfl) ?_
          refine g_callVi (pc := 52) E Y 53 S_53 V_8 o_X8_airOf q_712 [.int x3] rfl rfl (hR_of (by omega) (by decide)) hl.1 (rest := [.int v7]) rfl (Nat.le_of_ble_eq_true rfl) dX8_judge_52 (fun z hz => m_X8_airOf_53 hz) hf (fun v8 μ9 H locs hf Y => ?_)
          refine g_icmp_ne (pc := 55) (tgt := 64) E dX8_judge_55 (by decide) hf (fun hf => ?_) (fun hf => ?_)
          · refine lv_iload_n (pc := 64) hx hb dX8_judge_64 rfl (lv_at hl 2 rfl) ?_
            exact g_iret (pc := 65) E Y hr hk dX8_judge_65 hf
          · refine g_iinc (pc := 58) E (fun v10 => [(3, .int v10), (0, .ref (ad 53)), (1, .int x1)]) dX8_judge_58 hl (k := 2) rfl (t := 1) (by decide) (by decide) (fun _ => rfl) hf (fun v10 hf ls hl => ?_)
            refine lv_goto (pc := 61) (tgt := 18) hx hb dX8_judge_61 (by decide) ?_
            exact ih _ _ _ _ _ _ hf Y (lv_sub hl [1, 2, 0] rfl)
  unfold f_X8_judge_53 at hf
  refine lv_aload_n (pc := 0) hx hb dX8_judge_0 rfl (lv_at hl 0 rfl) ?_
  refine lv_iload_n (pc := 1) hx hb dX8_judge_1 rfl (lv_at hl 1 rfl) ?_
  refine g_callVi (pc := 2) E Y 53 S_53 V_8 o_X8_notThere q_703 [.int a0] rfl rfl (hR_of (by omega) (by decide)) hl.1 (rest := []) rfl (Nat.le_of_ble_eq_true rfl) dX8_judge_2 (fun z hz => m_X8_notThere_53 hz) hf (fun v1 μ2 H locs hf Y => ?_)
  refine lv_istore_n (pc := 5) (lv' := [(2, .int v1), (0, .ref (ad 53)), (1, .int a0)]) hx hb dX8_judge_5 rfl hl (by decide) rfl (fun ls hl => ?_)
  refine lv_iload_n (pc := 6) hx hb dX8_judge_6 rfl (lv_at hl 0 rfl) ?_
  refine g_if_eq (pc := 7) (tgt := 16) E dX8_judge_7 (by decide) hf (fun hf => ?_) (fun hf => ?_)
  · refine lv_iconst (pc := 16) (v := 0) hx hb dX8_judge_16 (by decide) ?_
    refine lv_istore_n (pc := 17) (lv' := [(3, .int 0), (2, .int v1), (0, .ref (ad 53)), (1, .int a0)]) hx hb dX8_judge_17 rfl hl (by decide) rfl (fun ls hl => ?_)
    exact hL_18 1000 _ _ _ _ _ _ hf Y (lv_sub hl [2, 3, 0] rfl)
  · refine lv_aload_n (pc := 10) hx hb dX8_judge_10 rfl (lv_at hl 1 rfl) ?_
    refine lv_iload_n (pc := 11) hx hb dX8_judge_11 rfl (lv_at hl 0 rfl) ?_
    refine g_callVi (pc := 12) E Y 53 S_53 V_8 o_X8_error q_716 [.int v1] rfl rfl (hR_of (by omega) (by decide)) hl.1 (rest := []) rfl (Nat.le_of_ble_eq_true rfl) dX8_judge_12 (fun z hz => m_X8_error_53 hz) hf (fun v11 μ12 H locs hf Y => ?_)
    exact g_iret (pc := 15) E Y hr hk dX8_judge_15 hf
def fb_X8_copyAll_54_55_L2 (bk : Int32 → Mem → Res) (x2 : Int32) (σ : Mem) : Res := if 386 ≤ x2 then (some (0, σ)) else (gi x2 386 <| nm (σ 54 x2.toNatClampNeg) fun (v1 : Int32) => gi x2 386 <| nm (mset σ 55 x2.toNatClampNeg v1) fun (μ2 : Mem) => nm (x2 + 1) fun (v3 : Int32) => bk v3 μ2)
def f_X8_copyAll_54_55_L2 : Nat → Int32 → Mem → Res
  | 0, _, _ => none
  | n + 1, x2, σ => fb_X8_copyAll_54_55_L2 (f_X8_copyAll_54_55_L2 n) x2 σ
def f_X8_copyAll_54_55 (σ : Mem) : Res := f_X8_copyAll_54_55_L2 1000 0 σ
set_option maxHeartbeats 4000000 in
set_option maxRecDepth 100000 in
theorem m_X8_copyAll_54_55 {l : Launch} {σ : Mem} {Z : Int32 × Mem}  (hf : f_X8_copyAll_54_55 σ = some Z) : CV l yX8_copyAll cX8_copyAll 3 0 (fun ad => [.ref (ad 54), .ref (ad 55)]) σ Z := by
  refine g_openV RX8 (by decide) rfl (fun _ => Nat.le_of_ble_eq_true rfl) (fun p e s m below meth c D cI cB ad st ls E Y hr hk hl => ?_)
  have hx := E.1.1
  have hb := E.1.2.1
  have hl : lv_has ls 3 [(0, .ref (ad 54)), (1, .ref (ad 55))] := hl
  have hL_2 : ∀ (n : Nat) (x2 : Int32) (σ : Mem) (H : Heap) (locs : List Loc) (ls : Array Slot), f_X8_copyAll_54_55_L2 n x2 σ = some Z → Wo D cI cB ad (AA ad) σ s H locs → lv_has ls 3 [(0, .ref (ad 54)), (1, .ref (ad 55)), (2, .int x2)] → W p l e (rmd 0) s m ([.ref (ad 54), .ref (ad 55)] : List Value).toArray below meth c H locs 0 0 (QV_ below D cI cB ad st Z ([.ref (ad 54), .ref (ad 55)] : List Value).toArray s) (F0 m 2 ls []) := by
    intro n
    induction n with
    | zero =>
      intro x2 σ H locs ls hf
      cases (show (none : Res) = some Z from hf)
    | succ n ih =>
      intro x2 σ H locs ls hf Y hl
      have hf : fb_X8_copyAll_54_55_L2 (f_X8_copyAll_54_55_L2 n) x2 σ = some Z := hf
      unfold fb_X8_copyAll_54_55_L2 at hf
      refine lv_iload_n (pc := 2) hx hb dX8_copyAll_2 rfl (lv_at hl 2 rfl) ?_
      refine lv_sipush (pc := 3) (v := 386) hx hb dX8_copyAll_3 (by decide) ?_
      refine g_icmp_ge (pc := 6) (tgt := 21) E dX8_copyAll_6 (by decide) hf (fun hf => ?_) (fun hf => ?_)
      · exact g_vret (pc := 21) E Y hr hk dX8_copyAll_21 hf
      · refine lv_aload_n (pc := 9) hx hb dX8_copyAll_9 rfl (lv_at hl 1 rfl) ?_
        refine lv_iload_n (pc := 10) hx hb dX8_copyAll_10 rfl (lv_at hl 2 rfl) ?_
        refine lv_aload_n (pc := 11) hx hb dX8_copyAll_11 rfl (lv_at hl 0 rfl) ?_
        refine lv_iload_n (pc := 12) hx hb dX8_copyAll_12 rfl (lv_at hl 2 rfl) ?_
        refine g_iald (pc := 13) E Y 54 S_54 dX8_copyAll_13 hf (fun v1 hf => ?_)
        refine g_iast (pc := 14) E Y 55 S_55 dX8_copyAll_14 hf (fun μ2 H locs hf Y => ?_)
        refine g_iinc (pc := 15) E (fun v3 => [(2, .int v3), (0, .ref (ad 54)), (1, .ref (ad 55))]) dX8_copyAll_15 hl (k := 2) rfl (t := 1) (by decide) (by decide) (fun _ => rfl) hf (fun v3 hf ls hl => ?_)
        refine lv_goto (pc := 18) (tgt := 2) hx hb dX8_copyAll_18 (by decide) ?_
        exact ih _ _ _ _ _ hf Y (lv_sub hl [1, 2, 0] rfl)
  unfold f_X8_copyAll_54_55 at hf
  refine lv_iconst (pc := 0) (v := 0) hx hb dX8_copyAll_0 (by decide) ?_
  refine lv_istore_n (pc := 1) (lv' := [(2, .int 0), (0, .ref (ad 54)), (1, .ref (ad 55))]) hx hb dX8_copyAll_1 rfl hl (by decide) rfl (fun ls hl => ?_)
  exact hL_2 1000 _ _ _ _ _ hf Y (lv_sub hl [1, 2, 0] rfl)
def f_X8_image_53 (σ : Mem) : Res := bd (f_X8_copyAll_54_55 σ) fun v1 μ2 => nm (μ2 53 2) fun (v3 : Int32) => nm (v3 + 1) fun (v4 : Int32) => nm (mset μ2 53 2 v4) fun (μ5 : Mem) => nm (μ5 53 2) fun (v6 : Int32) => some (v6, μ5)
set_option maxHeartbeats 4000000 in
set_option maxRecDepth 100000 in
theorem m_X8_image_53 {l : Launch} {σ : Mem} {Z : Int32 × Mem}  (hf : f_X8_image_53 σ = some Z) : CT l yX8_image cX8_image 1 (some .int) 1 (fun ad => [.ref (ad 53)]) σ Z := by
  refine g_openT RX8 (by decide) rfl (fun _ => Nat.le_of_ble_eq_true rfl) (fun p e s m below meth c D cI cB ad st ls E Y hr hk hl => ?_)
  have hx := E.1.1
  have hb := E.1.2.1
  have hl : lv_has ls 1 [(0, .ref (ad 53))] := hl
  unfold f_X8_image_53 at hf
  refine lv_aload_n (pc := 0) hx hb dX8_image_0 rfl (lv_at hl 0 rfl) ?_
  refine g_getr (pc := 1) E Y 53 0 54 S_53 rfl V_8 (by decide) AL_X8 q_358 dX8_image_1 ?_
  refine lv_aload_n (pc := 4) hx hb dX8_image_4 rfl (lv_at hl 0 rfl) ?_
  refine g_getr (pc := 5) E Y 53 1 55 S_53 rfl V_8 (by decide) AL_X8 q_341 dX8_image_5 ?_
  refine g_callSv (pc := 8) E Y o_X8_copyAll q_705 [.ref (ad 54), .ref (ad 55)] rfl rfl (hR_of (by omega) (by decide)) hl.1 (rest := []) rfl (Nat.le_of_ble_eq_true rfl) dX8_image_8 (fun z hz => m_X8_copyAll_54_55 hz) hf (fun v1 μ2 H locs hf Y => ?_)
  refine lv_aload_n (pc := 11) hx hb dX8_image_11 rfl (lv_at hl 0 rfl) ?_
  refine lv_dup (pc := 12) hx hb dX8_image_12 rfl ?_
  refine g_geti (pc := 13) E Y 53 2 S_53 rfl V_8 (by decide) AL_X8 q_352 dX8_image_13 hf (fun v3 hf => ?_)
  refine lv_iconst (pc := 16) (v := 1) hx hb dX8_image_16 (by decide) ?_
  refine g_iadd (pc := 17) E dX8_image_17 hf (fun v4 hf => ?_)
  refine g_put (pc := 18) E Y 53 2 S_53 rfl V_8 (by decide) AL_X8 tyX8 tyX8_ok nmX8 q_352 rfl rfl rfl dX8_image_18 hf (fun μ5 H locs hf Y => ?_)
  refine lv_aload_n (pc := 21) hx hb dX8_image_21 rfl (lv_at hl 0 rfl) ?_
  refine g_geti (pc := 22) E Y 53 2 S_53 rfl V_8 (by decide) AL_X8 q_352 dX8_image_22 hf (fun v6 hf => ?_)
  exact g_iret (pc := 25) E Y hr hk dX8_image_25 hf
def fb_X8_copyAll_55_54_L2 (bk : Int32 → Mem → Res) (x2 : Int32) (σ : Mem) : Res := if 386 ≤ x2 then (some (0, σ)) else (gi x2 386 <| nm (σ 55 x2.toNatClampNeg) fun (v1 : Int32) => gi x2 386 <| nm (mset σ 54 x2.toNatClampNeg v1) fun (μ2 : Mem) => nm (x2 + 1) fun (v3 : Int32) => bk v3 μ2)
def f_X8_copyAll_55_54_L2 : Nat → Int32 → Mem → Res
  | 0, _, _ => none
  | n + 1, x2, σ => fb_X8_copyAll_55_54_L2 (f_X8_copyAll_55_54_L2 n) x2 σ
def f_X8_copyAll_55_54 (σ : Mem) : Res := f_X8_copyAll_55_54_L2 1000 0 σ
set_option maxHeartbeats 4000000 in
set_option maxRecDepth 100000 in
theorem m_X8_copyAll_55_54 {l : Launch} {σ : Mem} {Z : Int32 × Mem}  (hf : f_X8_copyAll_55_54 σ = some Z) : CV l yX8_copyAll cX8_copyAll 3 0 (fun ad => [.ref (ad 55), .ref (ad 54)]) σ Z := by
  refine g_openV RX8 (by decide) rfl (fun _ => Nat.le_of_ble_eq_true rfl) (fun p e s m below meth c D cI cB ad st ls E Y hr hk hl => ?_)
  have hx := E.1.1
  have hb := E.1.2.1
  have hl : lv_has ls 3 [(0, .ref (ad 55)), (1, .ref (ad 54))] := hl
  have hL_2 : ∀ (n : Nat) (x2 : Int32) (σ : Mem) (H : Heap) (locs : List Loc) (ls : Array Slot), f_X8_copyAll_55_54_L2 n x2 σ = some Z → Wo D cI cB ad (AA ad) σ s H locs → lv_has ls 3 [(0, .ref (ad 55)), (1, .ref (ad 54)), (2, .int x2)] → W p l e (rmd 0) s m ([.ref (ad 55), .ref (ad 54)] : List Value).toArray below meth c H locs 0 0 (QV_ below D cI cB ad st Z ([.ref (ad 55), .ref (ad 54)] : List Value).toArray s) (F0 m 2 ls []) := by
    intro n
    induction n with
    | zero =>
      intro x2 σ H locs ls hf
      cases (show (none : Res) = some Z from hf)
    | succ n ih =>
      intro x2 σ H locs ls hf Y hl
      have hf : fb_X8_copyAll_55_54_L2 (f_X8_copyAll_55_54_L2 n) x2 σ = some Z := hf
      unfold fb_X8_copyAll_55_54_L2 at hf
      refine lv_iload_n (pc := 2) hx hb dX8_copyAll_2 rfl (lv_at hl 2 rfl) ?_
      refine lv_sipush (pc := 3) (v := 386) hx hb dX8_copyAll_3 (by decide) ?_
      refine g_icmp_ge (pc := 6) (tgt := 21) E dX8_copyAll_6 (by decide) hf (fun hf => ?_) (fun hf => ?_)
      · exact g_vret (pc := 21) E Y hr hk dX8_copyAll_21 hf
      · refine lv_aload_n (pc := 9) hx hb dX8_copyAll_9 rfl (lv_at hl 1 rfl) ?_
        refine lv_iload_n (pc := 10) hx hb dX8_copyAll_10 rfl (lv_at hl 2 rfl) ?_
        refine lv_aload_n (pc := 11) hx hb dX8_copyAll_11 rfl (lv_at hl 0 rfl) ?_
        refine lv_iload_n (pc := 12) hx hb dX8_copyAll_12 rfl (lv_at hl 2 rfl) ?_
        refine g_iald (pc := 13) E Y 55 S_55 dX8_copyAll_13 hf (fun v1 hf => ?_)
        refine g_iast (pc := 14) E Y 54 S_54 dX8_copyAll_14 hf (fun μ2 H locs hf Y => ?_)
        refine g_iinc (pc := 15) E (fun v3 => [(2, .int v3), (0, .ref (ad 55)), (1, .ref (ad 54))]) dX8_copyAll_15 hl (k := 2) rfl (t := 1) (by decide) (by decide) (fun _ => rfl) hf (fun v3 hf ls hl => ?_)
        refine lv_goto (pc := 18) (tgt := 2) hx hb dX8_copyAll_18 (by decide) ?_
        exact ih _ _ _ _ _ hf Y (lv_sub hl [1, 2, 0] rfl)
  unfold f_X8_copyAll_55_54 at hf
  refine lv_iconst (pc := 0) (v := 0) hx hb dX8_copyAll_0 (by decide) ?_
  refine lv_istore_n (pc := 1) (lv' := [(2, .int 0), (0, .ref (ad 55)), (1, .ref (ad 54))]) hx hb dX8_copyAll_1 rfl hl (by decide) rfl (fun ls hl => ?_)
  exact hL_2 1000 _ _ _ _ _ hf Y (lv_sub hl [1, 2, 0] rfl)
def f_X8_restore_53 (σ : Mem) : Res := nm (σ 53 2) fun (v1 : Int32) => if v1 = 0 then (bd (f_X8_error_53 (-1000000002) σ) fun v5 μ6 => some (v5, μ6)) else (bd (f_X8_copyAll_55_54 σ) fun v2 μ3 => gi 4 386 <| nm (μ3 54 (4 : Int32).toNatClampNeg) fun (v4 : Int32) => some (v4, μ3))
set_option maxHeartbeats 4000000 in
set_option maxRecDepth 100000 in
theorem m_X8_restore_53 {l : Launch} {σ : Mem} {Z : Int32 × Mem}  (hf : f_X8_restore_53 σ = some Z) : CT l yX8_restore cX8_restore 1 (some .int) 1 (fun ad => [.ref (ad 53)]) σ Z := by
  refine g_openT RX8 (by decide) rfl (fun _ => Nat.le_of_ble_eq_true rfl) (fun p e s m below meth c D cI cB ad st ls E Y hr hk hl => ?_)
  have hx := E.1.1
  have hb := E.1.2.1
  have hl : lv_has ls 1 [(0, .ref (ad 53))] := hl
  unfold f_X8_restore_53 at hf
  refine lv_aload_n (pc := 0) hx hb dX8_restore_0 rfl (lv_at hl 0 rfl) ?_
  refine g_geti (pc := 1) E Y 53 2 S_53 rfl V_8 (by decide) AL_X8 q_352 dX8_restore_1 hf (fun v1 hf => ?_)
  refine g_if_ne (pc := 4) (tgt := 14) E dX8_restore_4 (by decide) hf (fun hf => ?_) (fun hf => ?_)
  · refine lv_aload_n (pc := 14) hx hb dX8_restore_14 rfl (lv_at hl 0 rfl) ?_
    refine g_getr (pc := 15) E Y 53 1 55 S_53 rfl V_8 (by decide) AL_X8 q_341 dX8_restore_15 ?_
    refine lv_aload_n (pc := 18) hx hb dX8_restore_18 rfl (lv_at hl 0 rfl) ?_
    refine g_getr (pc := 19) E Y 53 0 54 S_53 rfl V_8 (by decide) AL_X8 q_358 dX8_restore_19 ?_
    refine g_callSv (pc := 22) E Y o_X8_copyAll q_705 [.ref (ad 55), .ref (ad 54)] rfl rfl (hR_of (by omega) (by decide)) hl.1 (rest := []) rfl (Nat.le_of_ble_eq_true rfl) dX8_restore_22 (fun z hz => m_X8_copyAll_55_54 hz) hf (fun v2 μ3 H locs hf Y => ?_)
    refine lv_aload_n (pc := 25) hx hb dX8_restore_25 rfl (lv_at hl 0 rfl) ?_
    refine g_getr (pc := 26) E Y 53 0 54 S_53 rfl V_8 (by decide) AL_X8 q_358 dX8_restore_26 ?_
    refine lv_iconst (pc := 29) (v := 4) hx hb dX8_restore_29 (by decide) ?_
    refine g_iald (pc := 30) E Y 54 S_54 dX8_restore_30 hf (fun v4 hf => ?_)
    exact g_iret (pc := 31) E Y hr hk dX8_restore_31 hf
  · refine lv_aload_n (pc := 7) hx hb dX8_restore_7 rfl (lv_at hl 0 rfl) ?_
    refine lv_ldc (pc := 8) (v := (-1000000002)) hx hb E.1.2.2.2.1 (E.1.2.2.2.2 _ q_233) dX8_restore_8 ?_
    refine g_callVi (pc := 10) E Y 53 S_53 V_8 o_X8_error q_716 [.int (-1000000002)] rfl rfl (hR_of (by omega) (by decide)) hl.1 (rest := []) rfl (Nat.le_of_ble_eq_true rfl) dX8_restore_10 (fun z hz => m_X8_error_53 hz) hf (fun v5 μ6 H locs hf Y => ?_)
    exact g_iret (pc := 13) E Y hr hk dX8_restore_13 hf
def f_X8_tell_53 (a0 : Int32) (σ : Mem) : Res := gi 10 386 <| nm (σ 54 (10 : Int32).toNatClampNeg) fun (v1 : Int32) => if v1 = 24 then (bd (f_X8_error_53 (-1000000004) σ) fun v9 μ10 => some (v9, μ10)) else (gi 10 386 <| nm (σ 54 (10 : Int32).toNatClampNeg) fun (v2 : Int32) => nm (120 + v2) fun (v3 : Int32) => gi v3 386 <| nm (mset σ 54 v3.toNatClampNeg a0) fun (μ4 : Mem) => gi 10 386 <| nm (μ4 54 (10 : Int32).toNatClampNeg) fun (v5 : Int32) => nm (v5 + 1) fun (v6 : Int32) => gi 10 386 <| nm (mset μ4 54 (10 : Int32).toNatClampNeg v6) fun (μ7 : Mem) => gi 10 386 <| nm (μ7 54 (10 : Int32).toNatClampNeg) fun (v8 : Int32) => some (v8, μ7))
set_option maxHeartbeats 4000000 in
set_option maxRecDepth 100000 in
theorem m_X8_tell_53 {l : Launch} {σ : Mem} {Z : Int32 × Mem} {a0 : Int32} (hf : f_X8_tell_53 a0 σ = some Z) : CT l yX8_tell cX8_tell 2 (some .int) 1 (fun ad => [.ref (ad 53), .int a0]) σ Z := by
  refine g_openT RX8 (by decide) rfl (fun _ => Nat.le_of_ble_eq_true rfl) (fun p e s m below meth c D cI cB ad st ls E Y hr hk hl => ?_)
  have hx := E.1.1
  have hb := E.1.2.1
  have hl : lv_has ls 2 [(0, .ref (ad 53)), (1, .int a0)] := hl
  unfold f_X8_tell_53 at hf
  refine lv_aload_n (pc := 0) hx hb dX8_tell_0 rfl (lv_at hl 0 rfl) ?_
  refine g_getr (pc := 1) E Y 53 0 54 S_53 rfl V_8 (by decide) AL_X8 q_358 dX8_tell_1 ?_
  refine lv_bipush (pc := 4) (v := 10) hx hb dX8_tell_4 (by decide) ?_
  refine g_iald (pc := 6) E Y 54 S_54 dX8_tell_6 hf (fun v1 hf => ?_)
  refine lv_bipush (pc := 7) (v := 24) hx hb dX8_tell_7 (by decide) ?_
  refine g_icmp_ne (pc := 9) (tgt := 19) E dX8_tell_9 (by decide) hf (fun hf => ?_) (fun hf => ?_)
  · refine lv_aload_n (pc := 19) hx hb dX8_tell_19 rfl (lv_at hl 0 rfl) ?_
    refine g_getr (pc := 20) E Y 53 0 54 S_53 rfl V_8 (by decide) AL_X8 q_358 dX8_tell_20 ?_
    refine lv_bipush (pc := 23) (v := 120) hx hb dX8_tell_23 (by decide) ?_
    refine lv_aload_n (pc := 25) hx hb dX8_tell_25 rfl (lv_at hl 0 rfl) ?_
    refine g_getr (pc := 26) E Y 53 0 54 S_53 rfl V_8 (by decide) AL_X8 q_358 dX8_tell_26 ?_
    refine lv_bipush (pc := 29) (v := 10) hx hb dX8_tell_29 (by decide) ?_
    refine g_iald (pc := 31) E Y 54 S_54 dX8_tell_31 hf (fun v2 hf => ?_)
    refine g_iadd (pc := 32) E dX8_tell_32 hf (fun v3 hf => ?_)
    refine lv_iload_n (pc := 33) hx hb dX8_tell_33 rfl (lv_at hl 1 rfl) ?_
    refine g_iast (pc := 34) E Y 54 S_54 dX8_tell_34 hf (fun μ4 H locs hf Y => ?_)
    refine lv_aload_n (pc := 35) hx hb dX8_tell_35 rfl (lv_at hl 0 rfl) ?_
    refine g_getr (pc := 36) E Y 53 0 54 S_53 rfl V_8 (by decide) AL_X8 q_358 dX8_tell_36 ?_
    refine lv_bipush (pc := 39) (v := 10) hx hb dX8_tell_39 (by decide) ?_
    refine lv_dup2_11 (pc := 41) hx hb dX8_tell_41 rfl rfl ?_
    refine g_iald (pc := 42) E Y 54 S_54 dX8_tell_42 hf (fun v5 hf => ?_)
    refine lv_iconst (pc := 43) (v := 1) hx hb dX8_tell_43 (by decide) ?_
    refine g_iadd (pc := 44) E dX8_tell_44 hf (fun v6 hf => ?_)
    refine g_iast (pc := 45) E Y 54 S_54 dX8_tell_45 hf (fun μ7 H locs hf Y => ?_)
    refine lv_aload_n (pc := 46) hx hb dX8_tell_46 rfl (lv_at hl 0 rfl) ?_
    refine g_getr (pc := 47) E Y 53 0 54 S_53 rfl V_8 (by decide) AL_X8 q_358 dX8_tell_47 ?_
    refine lv_bipush (pc := 50) (v := 10) hx hb dX8_tell_50 (by decide) ?_
    refine g_iald (pc := 52) E Y 54 S_54 dX8_tell_52 hf (fun v8 hf => ?_)
    exact g_iret (pc := 53) E Y hr hk dX8_tell_53 hf
  · refine lv_aload_n (pc := 12) hx hb dX8_tell_12 rfl (lv_at hl 0 rfl) ?_
    refine lv_ldc (pc := 13) (v := (-1000000004)) hx hb E.1.2.2.2.1 (E.1.2.2.2.2 _ q_239) dX8_tell_13 ?_
    refine g_callVi (pc := 15) E Y 53 S_53 V_8 o_X8_error q_716 [.int (-1000000004)] rfl rfl (hR_of (by omega) (by decide)) hl.1 (rest := []) rfl (Nat.le_of_ble_eq_true rfl) dX8_tell_15 (fun z hz => m_X8_error_53 hz) hf (fun v9 μ10 H locs hf Y => ?_)
    exact g_iret (pc := 18) E Y hr hk dX8_tell_18 hf
def fb_X8_check_53_L18 (bk : Int32 → Int32 → Mem → Res) (x1 : Int32) (x2 : Int32) (σ : Mem) : Res := if x1 ≤ x2 then (some (0, σ)) else (bd (f_X8_isRunner_53 x2 σ) fun v3 μ4 => if v3 = 0 then (nm (1 + x2) fun (v5 : Int32) => some (v5, μ4)) else (nm (120 + x2) fun (v6 : Int32) => gi v6 386 <| nm (μ4 54 v6.toNatClampNeg) fun (v7 : Int32) => bd (f_X8_about_53 x2 2 μ4) fun v8 μ9 => if v7 = v8 then (nm (x2 + 1) fun (v10 : Int32) => bk x1 v10 μ9) else (nm (1 + x2) fun (v11 : Int32) => some (v11, μ9))))
def f_X8_check_53_L18 : Nat → Int32 → Int32 → Mem → Res
  | 0, _, _, _ => none
  | n + 1, x1, x2, σ => fb_X8_check_53_L18 (f_X8_check_53_L18 n) x1 x2 σ
def f_X8_check_53 (σ : Mem) : Res := gi 10 386 <| nm (σ 54 (10 : Int32).toNatClampNeg) fun (v1 : Int32) => gi 10 386 <| nm (mset σ 54 (10 : Int32).toNatClampNeg 0) fun (μ2 : Mem) => f_X8_check_53_L18 1000 v1 0 μ2
set_option maxHeartbeats 4000000 in
set_option maxRecDepth 100000 in
theorem m_X8_check_53 {l : Launch} {σ : Mem} {Z : Int32 × Mem}  (hf : f_X8_check_53 σ = some Z) : CT l yX8_check cX8_check 3 (some .int) 2 (fun ad => [.ref (ad 53)]) σ Z := by
  refine g_openT RX8 (by decide) rfl (fun _ => Nat.le_of_ble_eq_true rfl) (fun p e s m below meth c D cI cB ad st ls E Y hr hk hl => ?_)
  have hx := E.1.1
  have hb := E.1.2.1
  have hl : lv_has ls 3 [(0, .ref (ad 53))] := hl
  have hL_18 : ∀ (n : Nat) (x1 : Int32) (x2 : Int32) (σ : Mem) (H : Heap) (locs : List Loc) (ls : Array Slot), f_X8_check_53_L18 n x1 x2 σ = some Z → Wo D cI cB ad (AA ad) σ s H locs → lv_has ls 3 [(0, .ref (ad 53)), (1, .int x1), (2, .int x2)] → W p l e (rmd 2) s m ([.ref (ad 53)] : List Value).toArray below meth c H locs 0 0 (QT_ below D cI cB ad st Z ([.ref (ad 53)] : List Value).toArray s) (F0 m 18 ls []) := by
    intro n
    induction n with
    | zero =>
      intro x1 x2 σ H locs ls hf
      cases (show (none : Res) = some Z from hf)
    | succ n ih =>
      intro x1 x2 σ H locs ls hf Y hl
      have hf : fb_X8_check_53_L18 (f_X8_check_53_L18 n) x1 x2 σ = some Z := hf
      unfold fb_X8_check_53_L18 at hf
      refine lv_iload_n (pc := 18) hx hb dX8_check_18 rfl (lv_at hl 2 rfl) ?_
      refine lv_iload_n (pc := 19) hx hb dX8_check_19 rfl (lv_at hl 1 rfl) ?_
      refine g_icmp_ge (pc := 20) (tgt := 59) E dX8_check_20 (by decide) hf (fun hf => ?_) (fun hf => ?_)
      · refine lv_iconst (pc := 59) (v := 0) hx hb dX8_check_59 (by decide) ?_
        exact g_iret (pc := 60) E Y hr hk dX8_check_60 hf
      · refine lv_aload_n (pc := 23) hx hb dX8_check_23 rfl (lv_at hl 0 rfl) ?_
        refine lv_iload_n (pc := 24) hx hb dX8_check_24 rfl (lv_at hl 2 rfl) ?_
        refine g_callVi (pc := 25) E Y 53 S_53 V_8 o_X8_isRunner q_721 [.int x2] rfl rfl (hR_of (by omega) (by decide)) hl.1 (rest := []) rfl (Nat.le_of_ble_eq_true rfl) dX8_check_25 (fun z hz => m_X8_isRunner_53 hz) hf (fun v3 μ4 H locs hf Y => ?_)
        refine g_if_eq (pc := 28) (tgt := 49) E dX8_check_28 (by decide) hf (fun hf => ?_) (fun hf => ?_)
        · refine lv_iconst (pc := 49) (v := 1) hx hb dX8_check_49 (by decide) ?_
          refine lv_iload_n (pc := 50) hx hb dX8_check_50 rfl (lv_at hl 2 rfl) ?_
          refine g_iadd (pc := 51) E dX8_check_51 hf (fun v5 hf => ?_)
          exact g_iret (pc := 52) E Y hr hk dX8_check_52 hf
        · refine lv_aload_n (pc := 31) hx hb dX8_check_31 rfl (lv_at hl 0 rfl) ?_
          refine g_getr (pc := 32) E Y 53 0 54 S_53 rfl V_8 (by decide) AL_X8 q_358 dX8_check_32 ?_
          refine lv_bipush (pc := 35) (v := 120) hx hb dX8_check_35 (by decide) ?_
          refine lv_iload_n (pc := 37) hx hb dX8_check_37 rfl (lv_at hl 2 rfl) ?_
          refine g_iadd (pc := 38) E dX8_check_38 hf (fun v6 hf => ?_)
          refine g_iald (pc := 39) E Y 54 S_54 dX8_check_39 hf (fun v7 hf => ?_)
          refine lv_aload_n (pc := 40) hx hb dX8_check_40 rfl (lv_at hl 0 rfl) ?_
          refine lv_iload_n (pc := 41) hx hb dX8_check_41 rfl (lv_at hl 2 rfl) ?_
          refine lv_iconst (pc := 42) (v := 2) hx hb dX8_check_42 (by decide) ?_
          refine g_callVi (pc := 43) E Y 53 S_53 V_8 o_X8_about q_711 [.int x2, .int 2] rfl rfl (hR_of (by omega) (by decide)) hl.1 (rest := [.int v7]) rfl (Nat.le_of_ble_eq_true rfl) dX8_check_43 (fun z hz => m_X8_about_53 hz) hf (fun v8 μ9 H locs hf Y => ?_)
          refine g_icmp_eq (pc := 46) (tgt := 53) E dX8_check_46 (by decide) hf (fun hf => ?_) (fun hf => ?_)
          · refine g_iinc (pc := 53) E (fun v10 => [(2, .int v10), (0, .ref (ad 53)), (1, .int x1)]) dX8_check_53 hl (k := 2) rfl (t := 1) (by decide) (by decide) (fun _ => rfl) hf (fun v10 hf ls hl => ?_)
            refine lv_goto (pc := 56) (tgt := 18) hx hb dX8_check_56 (by decide) ?_
            exact ih _ _ _ _ _ _ hf Y (lv_sub hl [1, 2, 0] rfl)
          · refine lv_iconst (pc := 49) (v := 1) hx hb dX8_check_49 (by decide) ?_
            refine lv_iload_n (pc := 50) hx hb dX8_check_50 rfl (lv_at hl 2 rfl) ?_
            refine g_iadd (pc := 51) E dX8_check_51 hf (fun v11 hf => ?_)
            exact g_iret (pc := 52) E Y hr hk dX8_check_52 hf
  unfold f_X8_check_53 at hf
  refine lv_aload_n (pc := 0) hx hb dX8_check_0 rfl (lv_at hl 0 rfl) ?_
  refine g_getr (pc := 1) E Y 53 0 54 S_53 rfl V_8 (by decide) AL_X8 q_358 dX8_check_1 ?_
  refine lv_bipush (pc := 4) (v := 10) hx hb dX8_check_4 (by decide) ?_
  refine g_iald (pc := 6) E Y 54 S_54 dX8_check_6 hf (fun v1 hf => ?_)
  refine lv_istore_n (pc := 7) (lv' := [(1, .int v1), (0, .ref (ad 53))]) hx hb dX8_check_7 rfl hl (by decide) rfl (fun ls hl => ?_)
  refine lv_aload_n (pc := 8) hx hb dX8_check_8 rfl (lv_at hl 1 rfl) ?_
  refine g_getr (pc := 9) E Y 53 0 54 S_53 rfl V_8 (by decide) AL_X8 q_358 dX8_check_9 ?_
  refine lv_bipush (pc := 12) (v := 10) hx hb dX8_check_12 (by decide) ?_
  refine lv_iconst (pc := 14) (v := 0) hx hb dX8_check_14 (by decide) ?_
  refine g_iast (pc := 15) E Y 54 S_54 dX8_check_15 hf (fun μ2 H locs hf Y => ?_)
  refine lv_iconst (pc := 16) (v := 0) hx hb dX8_check_16 (by decide) ?_
  refine lv_istore_n (pc := 17) (lv' := [(2, .int 0), (1, .int v1), (0, .ref (ad 53))]) hx hb dX8_check_17 rfl hl (by decide) rfl (fun ls hl => ?_)
  exact hL_18 1000 _ _ _ _ _ _ hf Y (lv_sub hl [2, 1, 0] rfl)
def f_X8_count_53_L80 (x1 : Int32) (σ : Mem) : Res := nm (3 + x1) fun (v3 : Int32) => nm (v3 - 2) fun (v4 : Int32) => gi v4 386 <| nm (σ 54 v4.toNatClampNeg) fun (v5 : Int32) => some (v5, σ)
def f_X8_count_53_L91 (x1 : Int32) (σ : Mem) : Res := nm (0 + x1) fun (v6 : Int32) => nm (v6 - 5) fun (v7 : Int32) => gi v7 386 <| nm (σ 54 v7.toNatClampNeg) fun (v8 : Int32) => some (v8, σ)
def f_X8_count_53 (a0 : Int32) (σ : Mem) : Res := if a0 = 0 then (gi 7 386 <| nm (σ 54 (7 : Int32).toNatClampNeg) fun (v1 : Int32) => some (v1, σ)) else (if a0 = 1 then (gi 8 386 <| nm (σ 54 (8 : Int32).toNatClampNeg) fun (v2 : Int32) => some (v2, σ)) else (if a0 = 2 then (f_X8_count_53_L80 a0 σ) else (if a0 = 3 then (f_X8_count_53_L80 a0 σ) else (if a0 = 4 then (f_X8_count_53_L80 a0 σ) else (if a0 = 5 then (f_X8_count_53_L91 a0 σ) else (if a0 = 6 then (f_X8_count_53_L91 a0 σ) else (if a0 = 7 then (f_X8_count_53_L91 a0 σ) else (if a0 = 8 then (gi 9 386 <| nm (σ 54 (9 : Int32).toNatClampNeg) fun (v9 : Int32) => some (v9, σ)) else (if a0 = 9 then (gi 10 386 <| nm (σ 54 (10 : Int32).toNatClampNeg) fun (v10 : Int32) => some (v10, σ)) else (if a0 = 10 then (nm (σ 53 17) fun (v11 : Int32) => some (v11, σ)) else (if a0 = 11 then (gi 6 386 <| nm (σ 54 (6 : Int32).toNatClampNeg) fun (v12 : Int32) => some (v12, σ)) else (bd (f_X8_error_53 (-1000000001) σ) fun v13 μ14 => some (v13, μ14)))))))))))))
set_option maxHeartbeats 4000000 in
set_option maxRecDepth 100000 in
theorem m_X8_count_53 {l : Launch} {σ : Mem} {Z : Int32 × Mem} {a0 : Int32} (hf : f_X8_count_53 a0 σ = some Z) : CT l yX8_count cX8_count 2 (some .int) 1 (fun ad => [.ref (ad 53), .int a0]) σ Z := by
  refine g_openT RX8 (by decide) rfl (fun _ => Nat.le_of_ble_eq_true rfl) (fun p e s m below meth c D cI cB ad st ls E Y hr hk hl => ?_)
  have hx := E.1.1
  have hb := E.1.2.1
  have hl : lv_has ls 2 [(0, .ref (ad 53)), (1, .int a0)] := hl
  have hL_80 : ∀ (x1 : Int32) (σ : Mem) (H : Heap) (locs : List Loc) (ls : Array Slot), f_X8_count_53_L80 x1 σ = some Z → Wo D cI cB ad (AA ad) σ s H locs → lv_has ls 2 [(0, .ref (ad 53)), (1, .int x1)] → W p l e (rmd 1) s m ([.ref (ad 53), .int a0] : List Value).toArray below meth c H locs 0 0 (QT_ below D cI cB ad st Z ([.ref (ad 53), .int a0] : List Value).toArray s) (F0 m 80 ls []) := by
    intro x1 σ H locs ls hf Y hl
    unfold f_X8_count_53_L80 at hf
    refine lv_aload_n (pc := 80) hx hb dX8_count_80 rfl (lv_at hl 0 rfl) ?_
    refine g_getr (pc := 81) E Y 53 0 54 S_53 rfl V_8 (by decide) AL_X8 q_358 dX8_count_81 ?_
    refine lv_iconst (pc := 84) (v := 3) hx hb dX8_count_84 (by decide) ?_
    refine lv_iload_n (pc := 85) hx hb dX8_count_85 rfl (lv_at hl 1 rfl) ?_
    refine g_iadd (pc := 86) E dX8_count_86 hf (fun v3 hf => ?_)
    refine lv_iconst (pc := 87) (v := 2) hx hb dX8_count_87 (by decide) ?_
    refine g_isub (pc := 88) E dX8_count_88 hf (fun v4 hf => ?_)
    refine g_iald (pc := 89) E Y 54 S_54 dX8_count_89 hf (fun v5 hf => ?_)
    exact g_iret (pc := 90) E Y hr hk dX8_count_90 hf
  have hL_91 : ∀ (x1 : Int32) (σ : Mem) (H : Heap) (locs : List Loc) (ls : Array Slot), f_X8_count_53_L91 x1 σ = some Z → Wo D cI cB ad (AA ad) σ s H locs → lv_has ls 2 [(0, .ref (ad 53)), (1, .int x1)] → W p l e (rmd 1) s m ([.ref (ad 53), .int a0] : List Value).toArray below meth c H locs 0 0 (QT_ below D cI cB ad st Z ([.ref (ad 53), .int a0] : List Value).toArray s) (F0 m 91 ls []) := by
    intro x1 σ H locs ls hf Y hl
    unfold f_X8_count_53_L91 at hf
    refine lv_aload_n (pc := 91) hx hb dX8_count_91 rfl (lv_at hl 0 rfl) ?_
    refine g_getr (pc := 92) E Y 53 0 54 S_53 rfl V_8 (by decide) AL_X8 q_358 dX8_count_92 ?_
    refine lv_iconst (pc := 95) (v := 0) hx hb dX8_count_95 (by decide) ?_
    refine lv_iload_n (pc := 96) hx hb dX8_count_96 rfl (lv_at hl 1 rfl) ?_
    refine g_iadd (pc := 97) E dX8_count_97 hf (fun v6 hf => ?_)
    refine lv_iconst (pc := 98) (v := 5) hx hb dX8_count_98 (by decide) ?_
    refine g_isub (pc := 99) E dX8_count_99 hf (fun v7 hf => ?_)
    refine g_iald (pc := 100) E Y 54 S_54 dX8_count_100 hf (fun v8 hf => ?_)
    exact g_iret (pc := 101) E Y hr hk dX8_count_101 hf
  unfold f_X8_count_53 at hf
  refine lv_iload_n (pc := 0) hx hb dX8_count_0 rfl (lv_at hl 1 rfl) ?_
  by_cases hc : a0 = 0
  · rw [if_pos hc] at hf
    refine g_tabIn (pc := 1) (tgt := 64) E dX8_count_1 hc (n := 0) (by decide) (by decide) (by decide) rfl (by decide) ?_
    refine lv_aload_n (pc := 64) hx hb dX8_count_64 rfl (lv_at hl 0 rfl) ?_
    refine g_getr (pc := 65) E Y 53 0 54 S_53 rfl V_8 (by decide) AL_X8 q_358 dX8_count_65 ?_
    refine lv_bipush (pc := 68) (v := 7) hx hb dX8_count_68 (by decide) ?_
    refine g_iald (pc := 70) E Y 54 S_54 dX8_count_70 hf (fun v1 hf => ?_)
    exact g_iret (pc := 71) E Y hr hk dX8_count_71 hf
  · rw [if_neg hc] at hf
    have n_0 := ti_ne (n := 0) (by decide) hc
    clear hc
    by_cases hc : a0 = 1
    · rw [if_pos hc] at hf
      refine g_tabIn (pc := 1) (tgt := 72) E dX8_count_1 hc (n := 1) (by decide) (by decide) (by decide) rfl (by decide) ?_
      refine lv_aload_n (pc := 72) hx hb dX8_count_72 rfl (lv_at hl 0 rfl) ?_
      refine g_getr (pc := 73) E Y 53 0 54 S_53 rfl V_8 (by decide) AL_X8 q_358 dX8_count_73 ?_
      refine lv_bipush (pc := 76) (v := 8) hx hb dX8_count_76 (by decide) ?_
      refine g_iald (pc := 78) E Y 54 S_54 dX8_count_78 hf (fun v2 hf => ?_)
      exact g_iret (pc := 79) E Y hr hk dX8_count_79 hf
    · rw [if_neg hc] at hf
      have n_1 := ti_ne (n := 1) (by decide) hc
      clear hc
      by_cases hc : a0 = 2
      · rw [if_pos hc] at hf
        refine g_tabIn (pc := 1) (tgt := 80) E dX8_count_1 hc (n := 2) (by decide) (by decide) (by decide) rfl (by decide) ?_
        exact hL_80 _ _ _ _ _ hf Y (lv_sub hl [0, 1] rfl)
      · rw [if_neg hc] at hf
        have n_2 := ti_ne (n := 2) (by decide) hc
        clear hc
        by_cases hc : a0 = 3
        · rw [if_pos hc] at hf
          refine g_tabIn (pc := 1) (tgt := 80) E dX8_count_1 hc (n := 3) (by decide) (by decide) (by decide) rfl (by decide) ?_
          exact hL_80 _ _ _ _ _ hf Y (lv_sub hl [0, 1] rfl)
        · rw [if_neg hc] at hf
          have n_3 := ti_ne (n := 3) (by decide) hc
          clear hc
          by_cases hc : a0 = 4
          · rw [if_pos hc] at hf
            refine g_tabIn (pc := 1) (tgt := 80) E dX8_count_1 hc (n := 4) (by decide) (by decide) (by decide) rfl (by decide) ?_
            exact hL_80 _ _ _ _ _ hf Y (lv_sub hl [0, 1] rfl)
          · rw [if_neg hc] at hf
            have n_4 := ti_ne (n := 4) (by decide) hc
            clear hc
            by_cases hc : a0 = 5
            · rw [if_pos hc] at hf
              refine g_tabIn (pc := 1) (tgt := 91) E dX8_count_1 hc (n := 5) (by decide) (by decide) (by decide) rfl (by decide) ?_
              exact hL_91 _ _ _ _ _ hf Y (lv_sub hl [0, 1] rfl)
            · rw [if_neg hc] at hf
              have n_5 := ti_ne (n := 5) (by decide) hc
              clear hc
              by_cases hc : a0 = 6
              · rw [if_pos hc] at hf
                refine g_tabIn (pc := 1) (tgt := 91) E dX8_count_1 hc (n := 6) (by decide) (by decide) (by decide) rfl (by decide) ?_
                exact hL_91 _ _ _ _ _ hf Y (lv_sub hl [0, 1] rfl)
              · rw [if_neg hc] at hf
                have n_6 := ti_ne (n := 6) (by decide) hc
                clear hc
                by_cases hc : a0 = 7
                · rw [if_pos hc] at hf
                  refine g_tabIn (pc := 1) (tgt := 91) E dX8_count_1 hc (n := 7) (by decide) (by decide) (by decide) rfl (by decide) ?_
                  exact hL_91 _ _ _ _ _ hf Y (lv_sub hl [0, 1] rfl)
                · rw [if_neg hc] at hf
                  have n_7 := ti_ne (n := 7) (by decide) hc
                  clear hc
                  by_cases hc : a0 = 8
                  · rw [if_pos hc] at hf
                    refine g_tabIn (pc := 1) (tgt := 102) E dX8_count_1 hc (n := 8) (by decide) (by decide) (by decide) rfl (by decide) ?_
                    refine lv_aload_n (pc := 102) hx hb dX8_count_102 rfl (lv_at hl 0 rfl) ?_
                    refine g_getr (pc := 103) E Y 53 0 54 S_53 rfl V_8 (by decide) AL_X8 q_358 dX8_count_103 ?_
                    refine lv_bipush (pc := 106) (v := 9) hx hb dX8_count_106 (by decide) ?_
                    refine g_iald (pc := 108) E Y 54 S_54 dX8_count_108 hf (fun v9 hf => ?_)
                    exact g_iret (pc := 109) E Y hr hk dX8_count_109 hf
                  · rw [if_neg hc] at hf
                    have n_8 := ti_ne (n := 8) (by decide) hc
                    clear hc
                    by_cases hc : a0 = 9
                    · rw [if_pos hc] at hf
                      refine g_tabIn (pc := 1) (tgt := 110) E dX8_count_1 hc (n := 9) (by decide) (by decide) (by decide) rfl (by decide) ?_
                      refine lv_aload_n (pc := 110) hx hb dX8_count_110 rfl (lv_at hl 0 rfl) ?_
                      refine g_getr (pc := 111) E Y 53 0 54 S_53 rfl V_8 (by decide) AL_X8 q_358 dX8_count_111 ?_
                      refine lv_bipush (pc := 114) (v := 10) hx hb dX8_count_114 (by decide) ?_
                      refine g_iald (pc := 116) E Y 54 S_54 dX8_count_116 hf (fun v10 hf => ?_)
                      exact g_iret (pc := 117) E Y hr hk dX8_count_117 hf
                    · rw [if_neg hc] at hf
                      have n_9 := ti_ne (n := 9) (by decide) hc
                      clear hc
                      by_cases hc : a0 = 10
                      · rw [if_pos hc] at hf
                        refine g_tabIn (pc := 1) (tgt := 118) E dX8_count_1 hc (n := 10) (by decide) (by decide) (by decide) rfl (by decide) ?_
                        refine lv_aload_n (pc := 118) hx hb dX8_count_118 rfl (lv_at hl 0 rfl) ?_
                        refine g_geti (pc := 119) E Y 53 17 S_53 rfl V_8 (by decide) AL_X8 q_348 dX8_count_119 hf (fun v11 hf => ?_)
                        exact g_iret (pc := 122) E Y hr hk dX8_count_122 hf
                      · rw [if_neg hc] at hf
                        have n_10 := ti_ne (n := 10) (by decide) hc
                        clear hc
                        by_cases hc : a0 = 11
                        · rw [if_pos hc] at hf
                          refine g_tabIn (pc := 1) (tgt := 123) E dX8_count_1 hc (n := 11) (by decide) (by decide) (by decide) rfl (by decide) ?_
                          refine lv_aload_n (pc := 123) hx hb dX8_count_123 rfl (lv_at hl 0 rfl) ?_
                          refine g_getr (pc := 124) E Y 53 0 54 S_53 rfl V_8 (by decide) AL_X8 q_358 dX8_count_124 ?_
                          refine lv_bipush (pc := 127) (v := 6) hx hb dX8_count_127 (by decide) ?_
                          refine g_iald (pc := 129) E Y 54 S_54 dX8_count_129 hf (fun v12 hf => ?_)
                          exact g_iret (pc := 130) E Y hr hk dX8_count_130 hf
                        · rw [if_neg hc] at hf
                          have n_11 := ti_ne (n := 11) (by decide) hc
                          clear hc
                          refine lv_tableOut (pc := 1) (tgt := 131) hx hb dX8_count_1 (by omega) (by decide) ?_
                          refine lv_aload_n (pc := 131) hx hb dX8_count_131 rfl (lv_at hl 0 rfl) ?_
                          refine lv_ldc (pc := 132) (v := (-1000000001)) hx hb E.1.2.2.2.1 (E.1.2.2.2.2 _ q_238) dX8_count_132 ?_
                          refine g_callVi (pc := 134) E Y 53 S_53 V_8 o_X8_error q_716 [.int (-1000000001)] rfl rfl (hR_of (by omega) (by decide)) hl.1 (rest := []) rfl (Nat.le_of_ble_eq_true rfl) dX8_count_134 (fun z hz => m_X8_error_53 hz) hf (fun v13 μ14 H locs hf Y => ?_)
                          exact g_iret (pc := 137) E Y hr hk dX8_count_137 hf
def f_X8_told_53 (a0 : Int32) (σ : Mem) : Res := bd (f_X8_in a0 1 6 σ) fun v1 μ2 => if v1 = 0 then (bd (f_X8_error_53 (-1000000001) μ2) fun v3 μ4 => some (v3, μ4)) else (gi a0 7 <| nm (μ2 56 a0.toNatClampNeg) fun (v5 : Int32) => some (v5, μ2))
set_option maxHeartbeats 4000000 in
set_option maxRecDepth 100000 in
theorem m_X8_told_53 {l : Launch} {σ : Mem} {Z : Int32 × Mem} {a0 : Int32} (hf : f_X8_told_53 a0 σ = some Z) : CT l yX8_told cX8_told 2 (some .int) 1 (fun ad => [.ref (ad 53), .int a0]) σ Z := by
  refine g_openT RX8 (by decide) rfl (fun _ => Nat.le_of_ble_eq_true rfl) (fun p e s m below meth c D cI cB ad st ls E Y hr hk hl => ?_)
  have hx := E.1.1
  have hb := E.1.2.1
  have hl : lv_has ls 2 [(0, .ref (ad 53)), (1, .int a0)] := hl
  unfold f_X8_told_53 at hf
  refine lv_iload_n (pc := 0) hx hb dX8_told_0 rfl (lv_at hl 1 rfl) ?_
  refine lv_iconst (pc := 1) (v := 1) hx hb dX8_told_1 (by decide) ?_
  refine lv_bipush (pc := 2) (v := 6) hx hb dX8_told_2 (by decide) ?_
  refine g_callSi (pc := 4) E Y o_X8_in q_707 [.int a0, .int 1, .int 6] rfl rfl (hR_of (by omega) (by decide)) hl.1 (rest := []) rfl (Nat.le_of_ble_eq_true rfl) dX8_told_4 (fun z hz => m_X8_in hz) hf (fun v1 μ2 H locs hf Y => ?_)
  refine g_if_eq (pc := 7) (tgt := 19) E dX8_told_7 (by decide) hf (fun hf => ?_) (fun hf => ?_)
  · refine lv_aload_n (pc := 19) hx hb dX8_told_19 rfl (lv_at hl 0 rfl) ?_
    refine lv_ldc (pc := 20) (v := (-1000000001)) hx hb E.1.2.2.2.1 (E.1.2.2.2.2 _ q_238) dX8_told_20 ?_
    refine g_callVi (pc := 22) E Y 53 S_53 V_8 o_X8_error q_716 [.int (-1000000001)] rfl rfl (hR_of (by omega) (by decide)) hl.1 (rest := []) rfl (Nat.le_of_ble_eq_true rfl) dX8_told_22 (fun z hz => m_X8_error_53 hz) hf (fun v3 μ4 H locs hf Y => ?_)
    exact g_iret (pc := 25) E Y hr hk dX8_told_25 hf
  · refine lv_aload_n (pc := 10) hx hb dX8_told_10 rfl (lv_at hl 0 rfl) ?_
    refine g_getr (pc := 11) E Y 53 3 56 S_53 rfl V_8 (by decide) AL_X8 q_346 dX8_told_11 ?_
    refine lv_iload_n (pc := 14) hx hb dX8_told_14 rfl (lv_at hl 1 rfl) ?_
    refine g_iald (pc := 15) E Y 56 S_56 dX8_told_15 hf (fun v5 hf => ?_)
    refine lv_goto (pc := 16) (tgt := 25) hx hb dX8_told_16 (by decide) ?_
    exact g_iret (pc := 25) E Y hr hk dX8_told_25 hf
