/-! methods, by program: a pure program and its contract each -/
def f_X8_draw_53 (σ : Mem) : Res := gi 6 386 <| nm (σ 54 (6 : Int32).toNatClampNeg) fun (v1 : Int32) => nm (v1 * 1103515245) fun (v2 : Int32) => nm (v2 + 12345) fun (v3 : Int32) => gi 6 386 <| nm (mset σ 54 (6 : Int32).toNatClampNeg v3) fun (μ4 : Mem) => gi 6 386 <| nm (μ4 54 (6 : Int32).toNatClampNeg) fun (v5 : Int32) => nm ((v5.toUInt32 >>> ((8 : Int32).toUInt32 &&& Int32.toUInt32 31)).toInt32) fun (v6 : Int32) => some (v6, μ4)
set_option maxHeartbeats 4000000 in
set_option maxRecDepth 100000 in
theorem m_X8_draw_53 {l : Launch} {σ : Mem} {Z : Int32 × Mem}  (hf : f_X8_draw_53 σ = some Z) : CT l yX8_draw cX8_draw 1 (some .int) 0 (fun ad => [.ref (ad 53)]) σ Z := by
  refine g_openT RX8 (by decide) rfl (fun _ => Nat.le_of_ble_eq_true rfl) (fun p e s m below meth c D cI cB ad st ls E Y hr hk hl => ?_)
  have hx := E.1.1
  have hb := E.1.2.1
  have hl : lv_has ls 1 [(0, .ref (ad 53))] := hl
  unfold f_X8_draw_53 at hf
  refine lv_aload_n (pc := 0) hx hb dX8_draw_0 rfl (lv_at hl 0 rfl) ?_
  refine g_getr (pc := 1) E Y 53 0 54 S_53 rfl V_8 (by decide) AL_X8 q_358 dX8_draw_1 ?_
  refine lv_bipush (pc := 4) (v := 6) hx hb dX8_draw_4 (by decide) ?_
  refine lv_aload_n (pc := 6) hx hb dX8_draw_6 rfl (lv_at hl 0 rfl) ?_
  refine g_getr (pc := 7) E Y 53 0 54 S_53 rfl V_8 (by decide) AL_X8 q_358 dX8_draw_7 ?_
  refine lv_bipush (pc := 10) (v := 6) hx hb dX8_draw_10 (by decide) ?_
  refine g_iald (pc := 12) E Y 54 S_54 dX8_draw_12 hf (fun v1 hf => ?_)
  refine lv_ldc (pc := 13) (v := 1103515245) hx hb E.1.2.2.2.1 (E.1.2.2.2.2 _ q_235) dX8_draw_13 ?_
  refine g_imul (pc := 15) E dX8_draw_15 hf (fun v2 hf => ?_)
  refine lv_sipush (pc := 16) (v := 12345) hx hb dX8_draw_16 (by decide) ?_
  refine g_iadd (pc := 19) E dX8_draw_19 hf (fun v3 hf => ?_)
  refine g_iast (pc := 20) E Y 54 S_54 dX8_draw_20 hf (fun μ4 H locs hf Y => ?_)
  refine lv_aload_n (pc := 21) hx hb dX8_draw_21 rfl (lv_at hl 0 rfl) ?_
  refine g_getr (pc := 22) E Y 53 0 54 S_53 rfl V_8 (by decide) AL_X8 q_358 dX8_draw_22 ?_
  refine lv_bipush (pc := 25) (v := 6) hx hb dX8_draw_25 (by decide) ?_
  refine g_iald (pc := 27) E Y 54 S_54 dX8_draw_27 hf (fun v5 hf => ?_)
  refine lv_bipush (pc := 28) (v := 8) hx hb dX8_draw_28 (by decide) ?_
  refine g_iushr (pc := 30) E dX8_draw_30 hf (fun v6 hf => ?_)
  exact g_iret (pc := 31) E Y hr hk dX8_draw_31 hf
def fb_X8_drawn_53_L57 (bk : Int32 → Int32 → Int32 → Mem → Res) (x2 : Int32) (x3 : Int32) (x4 : Int32) (σ : Mem) : Res := bd (f_X8_of_53 x4 2 σ) fun v16 μ17 => if x3 < v16 then (bd (f_X8_draw_53 μ17) fun v18 μ19 => gz 4 <| nm (v18 - v18 / 4 * 4) fun (v20 : Int32) => if v20 = 0 then (if (1 : Int32) = 0 then (bd (f_X8_goes_53 x2 x4 μ19) fun v31 μ32 => gb v31 (some (v31, μ32))) else (bd (f_X8_about_53 x2 2 μ19) fun v33 μ34 => bd (f_X8_isPickedAt_53 x2 v33 μ34) fun v35 μ36 => if v35 = 0 then (bd (f_X8_goes_53 x2 x4 μ36) fun v37 μ38 => gb v37 (some (v37, μ38))) else (bd (f_X8_isOut_53 x2 μ36) fun v39 μ40 => gb 0 (some (0, μ40))))) else (if (0 : Int32) = 0 then (bd (f_X8_goes_53 x2 x4 μ19) fun v21 μ22 => gb v21 (some (v21, μ22))) else (bd (f_X8_about_53 x2 2 μ19) fun v23 μ24 => bd (f_X8_isPickedAt_53 x2 v23 μ24) fun v25 μ26 => if v25 = 0 then (bd (f_X8_goes_53 x2 x4 μ26) fun v27 μ28 => gb v27 (some (v27, μ28))) else (bd (f_X8_isOut_53 x2 μ26) fun v29 μ30 => gb 0 (some (0, μ30)))))) else (bd (f_X8_of_53 x4 2 μ17) fun v41 μ42 => nm (x3 - v41) fun (v43 : Int32) => nm (x4 + 1) fun (v44 : Int32) => bk x2 v43 v44 μ42)
def f_X8_drawn_53_L57 : Nat → Int32 → Int32 → Int32 → Mem → Res
  | 0, _, _, _, _ => none
  | n + 1, x2, x3, x4, σ => fb_X8_drawn_53_L57 (f_X8_drawn_53_L57 n) x2 x3 x4 σ
def f_X8_drawn_53 (σ : Mem) : Res := bd (f_X8_weights_53 σ) fun v1 μ2 => gi 8 386 <| nm (μ2 54 (8 : Int32).toNatClampNeg) fun (v3 : Int32) => if v3 = 0 then (gb 0 (some (0, μ2))) else (if v1 = 0 then (gb 0 (some (0, μ2))) else (bd (f_X8_draw_53 μ2) fun v4 μ5 => gi 8 386 <| nm (μ5 54 (8 : Int32).toNatClampNeg) fun (v6 : Int32) => gz v6 <| nm (v4 - v4 / v6 * v6) fun (v7 : Int32) => bd (f_X8_draw_53 μ5) fun v8 μ9 => gz 21 <| nm (v8 - v8 / 21 * 21) fun (v10 : Int32) => bd (f_X8_lets_53 v7 2 v10 μ9) fun v11 μ12 => bd (f_X8_draw_53 μ12) fun v13 μ14 => gz v1 <| nm (v13 - v13 / v1 * v1) fun (v15 : Int32) => f_X8_drawn_53_L57 1000 v7 v15 0 μ14))
set_option maxHeartbeats 4000000 in
set_option maxRecDepth 100000 in
theorem m_X8_drawn_53 {l : Launch} {σ : Mem} {Z : Int32 × Mem}  (hf : f_X8_drawn_53 σ = some Z) : CT l yX8_drawn cX8_drawn 6 (some .boolean) 7 (fun ad => [.ref (ad 53)]) σ Z := by
  refine g_openT RX8 (by decide) rfl (fun _ => Nat.le_of_ble_eq_true rfl) (fun p e s m below meth c D cI cB ad st ls E Y hr hk hl => ?_)
  have hx := E.1.1
  have hb := E.1.2.1
  have hl : lv_has ls 6 [(0, .ref (ad 53))] := hl
  have hL_57 : ∀ (n : Nat) (x2 : Int32) (x3 : Int32) (x4 : Int32) (σ : Mem) (H : Heap) (locs : List Loc) (ls : Array Slot), f_X8_drawn_53_L57 n x2 x3 x4 σ = some Z → Wo D cI cB ad (AA ad) σ s H locs → lv_has ls 6 [(0, .ref (ad 53)), (2, .int x2), (3, .int x3), (4, .int x4)] → W p l e (rmd 7) s m ([.ref (ad 53)] : List Value).toArray below meth c H locs 0 0 (QT_ below D cI cB ad st Z ([.ref (ad 53)] : List Value).toArray s) (F0 m 57 ls []) := by
    intro n
    induction n with
    | zero =>
      intro x2 x3 x4 σ H locs ls hf
      cases (show (none : Res) = some Z from hf)
    | succ n ih =>
      intro x2 x3 x4 σ H locs ls hf Y hl
      have hf : fb_X8_drawn_53_L57 (f_X8_drawn_53_L57 n) x2 x3 x4 σ = some Z := hf
      unfold fb_X8_drawn_53_L57 at hf
      refine lv_iload_n (pc := 57) hx hb dX8_drawn_57 rfl (lv_at hl 2 rfl) ?_
      refine lv_aload_n (pc := 58) hx hb dX8_drawn_58 rfl (lv_at hl 0 rfl) ?_
      refine lv_iload (pc := 59) hx hb dX8_drawn_59 (lv_at hl 3 rfl) ?_
      refine lv_iconst (pc := 61) (v := 2) hx hb dX8_drawn_61 (by decide) ?_
      refine g_callVi (pc := 62) E Y 53 S_53 V_8 o_X8_of q_708 [.int x4, .int 2] rfl rfl (hR_of (by omega) (by decide)) hl.1 (rest := [.int x3]) rfl (Nat.le_of_ble_eq_true rfl) dX8_drawn_62 (fun z hz => m_X8_of_53 hz) hf (fun v16 μ17 H locs hf Y => ?_)
      refine g_icmp_lt (pc := 65) (tgt := 84) E dX8_drawn_65 (by decide) hf (fun hf => ?_) (fun hf => ?_)
      · refine lv_aload_n (pc := 84) hx hb dX8_drawn_84 rfl (lv_at hl 0 rfl) ?_
        refine g_callVi (pc := 85) E Y 53 S_53 V_8 o_X8_draw q_690 [] rfl rfl (hR_of (by omega) (by decide)) hl.1 (rest := []) rfl (Nat.le_of_ble_eq_true rfl) dX8_drawn_85 (fun z hz => m_X8_draw_53 hz) hf (fun v18 μ19 H locs hf Y => ?_)
        refine lv_iconst (pc := 88) (v := 4) hx hb dX8_drawn_88 (by decide) ?_
        refine g_irem (pc := 89) E dX8_drawn_89 hf (fun v20 hf => ?_)
        refine g_if_ne (pc := 90) (tgt := 97) E dX8_drawn_90 (by decide) hf (fun hf => ?_) (fun hf => ?_)
        · refine lv_iconst (pc := 97) (v := 0) hx hb dX8_drawn_97 (by decide) ?_
          refine lv_istore (pc := 98) (lv' := [(5, .int 0), (0, .ref (ad 53)), (2, .int x2), (3, .int x3), (4, .int x4)]) hx hb dX8_drawn_98 hl (by decide) rfl (fun ls hl => ?_)
          refine lv_iload (pc := 100) hx hb dX8_drawn_100 (lv_at hl 0 rfl) ?_
          refine g_if_eq (pc := 102) (tgt := 126) E dX8_drawn_102 (by decide) hf (fun hf => ?_) (fun hf => ?_)
          · refine lv_aload_n (pc := 126) hx hb dX8_drawn_126 rfl (lv_at hl 1 rfl) ?_
            refine lv_iload_n (pc := 127) hx hb dX8_drawn_127 rfl (lv_at hl 2 rfl) ?_
            refine lv_iload (pc := 128) hx hb dX8_drawn_128 (lv_at hl 4 rfl) ?_
            refine g_callVi (pc := 130) E Y 53 S_53 V_8 o_X8_goes q_669 [.int x2, .int x4] rfl rfl (hR_of (by omega) (by decide)) hl.1 (rest := []) rfl (Nat.le_of_ble_eq_true rfl) dX8_drawn_130 (fun z hz => m_X8_goes_53 hz) hf (fun v21 μ22 H locs hf Y => ?_)
            exact g_zret (pc := 133) E Y hr hk dX8_drawn_133 hf
          · refine lv_aload_n (pc := 105) hx hb dX8_drawn_105 rfl (lv_at hl 1 rfl) ?_
            refine lv_iload_n (pc := 106) hx hb dX8_drawn_106 rfl (lv_at hl 2 rfl) ?_
            refine lv_aload_n (pc := 107) hx hb dX8_drawn_107 rfl (lv_at hl 1 rfl) ?_
            refine lv_iload_n (pc := 108) hx hb dX8_drawn_108 rfl (lv_at hl 2 rfl) ?_
            refine lv_iconst (pc := 109) (v := 2) hx hb dX8_drawn_109 (by decide) ?_
            refine g_callVi (pc := 110) E Y 53 S_53 V_8 o_X8_about q_711 [.int x2, .int 2] rfl rfl (hR_of (by omega) (by decide)) hl.1 (rest := [.int x2, .ref (ad 53)]) rfl (Nat.le_of_ble_eq_true rfl) dX8_drawn_110 (fun z hz => m_X8_about_53 hz) hf (fun v23 μ24 H locs hf Y => ?_)
            refine g_callVi (pc := 113) E Y 53 S_53 V_8 o_X8_isPickedAt q_722 [.int x2, .int v23] rfl rfl (hR_of (by omega) (by decide)) hl.1 (rest := []) rfl (Nat.le_of_ble_eq_true rfl) dX8_drawn_113 (fun z hz => m_X8_isPickedAt_53 hz) hf (fun v25 μ26 H locs hf Y => ?_)
            refine g_if_eq (pc := 116) (tgt := 126) E dX8_drawn_116 (by decide) hf (fun hf => ?_) (fun hf => ?_)
            · refine lv_aload_n (pc := 126) hx hb dX8_drawn_126 rfl (lv_at hl 1 rfl) ?_
              refine lv_iload_n (pc := 127) hx hb dX8_drawn_127 rfl (lv_at hl 2 rfl) ?_
              refine lv_iload (pc := 128) hx hb dX8_drawn_128 (lv_at hl 4 rfl) ?_
              refine g_callVi (pc := 130) E Y 53 S_53 V_8 o_X8_goes q_669 [.int x2, .int x4] rfl rfl (hR_of (by omega) (by decide)) hl.1 (rest := []) rfl (Nat.le_of_ble_eq_true rfl) dX8_drawn_130 (fun z hz => m_X8_goes_53 hz) hf (fun v27 μ28 H locs hf Y => ?_)
              exact g_zret (pc := 133) E Y hr hk dX8_drawn_133 hf
            · refine lv_aload_n (pc := 119) hx hb dX8_drawn_119 rfl (lv_at hl 1 rfl) ?_
              refine lv_iload_n (pc := 120) hx hb dX8_drawn_120 rfl (lv_at hl 2 rfl) ?_
              refine g_callVv (pc := 121) E Y 53 S_53 V_8 o_X8_isOut q_668 [.int x2] rfl rfl (hR_of (by omega) (by decide)) hl.1 (rest := []) rfl (Nat.le_of_ble_eq_true rfl) dX8_drawn_121 (fun z hz => m_X8_isOut_53 hz) hf (fun v29 μ30 H locs hf Y => ?_)
              refine lv_iconst (pc := 124) (v := 0) hx hb dX8_drawn_124 (by decide) ?_
              exact g_zret (pc := 125) E Y hr hk dX8_drawn_125 hf
        · refine lv_iconst (pc := 93) (v := 1) hx hb dX8_drawn_93 (by decide) ?_
          refine lv_goto (pc := 94) (tgt := 98) hx hb dX8_drawn_94 (by decide) ?_
          refine lv_istore (pc := 98) (lv' := [(5, .int 1), (0, .ref (ad 53)), (2, .int x2), (3, .int x3), (4, .int x4)]) hx hb dX8_drawn_98 hl (by decide) rfl (fun ls hl => ?_)
          refine lv_iload (pc := 100) hx hb dX8_drawn_100 (lv_at hl 0 rfl) ?_
          refine g_if_eq (pc := 102) (tgt := 126) E dX8_drawn_102 (by decide) hf (fun hf => ?_) (fun hf => ?_)
          · refine lv_aload_n (pc := 126) hx hb dX8_drawn_126 rfl (lv_at hl 1 rfl) ?_
            refine lv_iload_n (pc := 127) hx hb dX8_drawn_127 rfl (lv_at hl 2 rfl) ?_
            refine lv_iload (pc := 128) hx hb dX8_drawn_128 (lv_at hl 4 rfl) ?_
            refine g_callVi (pc := 130) E Y 53 S_53 V_8 o_X8_goes q_669 [.int x2, .int x4] rfl rfl (hR_of (by omega) (by decide)) hl.1 (rest := []) rfl (Nat.le_of_ble_eq_true rfl) dX8_drawn_130 (fun z hz => m_X8_goes_53 hz) hf (fun v31 μ32 H locs hf Y => ?_)
            exact g_zret (pc := 133) E Y hr hk dX8_drawn_133 hf
          · refine lv_aload_n (pc := 105) hx hb dX8_drawn_105 rfl (lv_at hl 1 rfl) ?_
            refine lv_iload_n (pc := 106) hx hb dX8_drawn_106 rfl (lv_at hl 2 rfl) ?_
            refine lv_aload_n (pc := 107) hx hb dX8_drawn_107 rfl (lv_at hl 1 rfl) ?_
            refine lv_iload_n (pc := 108) hx hb dX8_drawn_108 rfl (lv_at hl 2 rfl) ?_
            refine lv_iconst (pc := 109) (v := 2) hx hb dX8_drawn_109 (by decide) ?_
            refine g_callVi (pc := 110) E Y 53 S_53 V_8 o_X8_about q_711 [.int x2, .int 2] rfl rfl (hR_of (by omega) (by decide)) hl.1 (rest := [.int x2, .ref (ad 53)]) rfl (Nat.le_of_ble_eq_true rfl) dX8_drawn_110 (fun z hz => m_X8_about_53 hz) hf (fun v33 μ34 H locs hf Y => ?_)
            refine g_callVi (pc := 113) E Y 53 S_53 V_8 o_X8_isPickedAt q_722 [.int x2, .int v33] rfl rfl (hR_of (by omega) (by decide)) hl.1 (rest := []) rfl (Nat.le_of_ble_eq_true rfl) dX8_drawn_113 (fun z hz => m_X8_isPickedAt_53 hz) hf (fun v35 μ36 H locs hf Y => ?_)
            refine g_if_eq (pc := 116) (tgt := 126) E dX8_drawn_116 (by decide) hf (fun hf => ?_) (fun hf => ?_)
            · refine lv_aload_n (pc := 126) hx hb dX8_drawn_126 rfl (lv_at hl 1 rfl) ?_
              refine lv_iload_n (pc := 127) hx hb dX8_drawn_127 rfl (lv_at hl 2 rfl) ?_
              refine lv_iload (pc := 128) hx hb dX8_drawn_128 (lv_at hl 4 rfl) ?_
              refine g_callVi (pc := 130) E Y 53 S_53 V_8 o_X8_goes q_669 [.int x2, .int x4] rfl rfl (hR_of (by omega) (by decide)) hl.1 (rest := []) rfl (Nat.le_of_ble_eq_true rfl) dX8_drawn_130 (fun z hz => m_X8_goes_53 hz) hf (fun v37 μ38 H locs hf Y => ?_)
              exact g_zret (pc := 133) E Y hr hk dX8_drawn_133 hf
            · refine lv_aload_n (pc := 119) hx hb dX8_drawn_119 rfl (lv_at hl 1 rfl) ?_
              refine lv_iload_n (pc := 120) hx hb dX8_drawn_120 rfl (lv_at hl 2 rfl) ?_
              refine g_callVv (pc := 121) E Y 53 S_53 V_8 o_X8_isOut q_668 [.int x2] rfl rfl (hR_of (by omega) (by decide)) hl.1 (rest := []) rfl (Nat.le_of_ble_eq_true rfl) dX8_drawn_121 (fun z hz => m_X8_isOut_53 hz) hf (fun v39 μ40 H locs hf Y => ?_)
              refine lv_iconst (pc := 124) (v := 0) hx hb dX8_drawn_124 (by decide) ?_
              exact g_zret (pc := 125) E Y hr hk dX8_drawn_125 hf
      · refine lv_iload_n (pc := 68) hx hb dX8_drawn_68 rfl (lv_at hl 2 rfl) ?_
        refine lv_aload_n (pc := 69) hx hb dX8_drawn_69 rfl (lv_at hl 0 rfl) ?_
        refine lv_iload (pc := 70) hx hb dX8_drawn_70 (lv_at hl 3 rfl) ?_
        refine lv_iconst (pc := 72) (v := 2) hx hb dX8_drawn_72 (by decide) ?_
        refine g_callVi (pc := 73) E Y 53 S_53 V_8 o_X8_of q_708 [.int x4, .int 2] rfl rfl (hR_of (by omega) (by decide)) hl.1 (rest := [.int x3]) rfl (Nat.le_of_ble_eq_true rfl) dX8_drawn_73 (fun z hz => m_X8_of_53 hz) hf (fun v41 μ42 H locs hf Y => ?_)
        refine g_isub (pc := 76) E dX8_drawn_76 hf (fun v43 hf => ?_)
        refine lv_istore_n (pc := 77) (lv' := [(3, .int v43), (0, .ref (ad 53)), (2, .int x2), (4, .int x4)]) hx hb dX8_drawn_77 rfl hl (by decide) rfl (fun ls hl => ?_)
        refine g_iinc (pc := 78) E (fun v44 => [(4, .int v44), (3, .int v43), (0, .ref (ad 53)), (2, .int x2)]) dX8_drawn_78 hl (k := 3) rfl (t := 1) (by decide) (by decide) (fun _ => rfl) hf (fun v44 hf ls hl => ?_)
        refine lv_goto (pc := 81) (tgt := 57) hx hb dX8_drawn_81 (by decide) ?_
        exact ih _ _ _ _ _ _ _ hf Y (lv_sub hl [2, 3, 1, 0] rfl)
  unfold f_X8_drawn_53 at hf
  refine lv_aload_n (pc := 0) hx hb dX8_drawn_0 rfl (lv_at hl 0 rfl) ?_
  refine g_callVi (pc := 1) E Y 53 S_53 V_8 o_X8_weights q_684 [] rfl rfl (hR_of (by omega) (by decide)) hl.1 (rest := []) rfl (Nat.le_of_ble_eq_true rfl) dX8_drawn_1 (fun z hz => m_X8_weights_53 hz) hf (fun v1 μ2 H locs hf Y => ?_)
  refine lv_istore_n (pc := 4) (lv' := [(1, .int v1), (0, .ref (ad 53))]) hx hb dX8_drawn_4 rfl hl (by decide) rfl (fun ls hl => ?_)
  refine lv_aload_n (pc := 5) hx hb dX8_drawn_5 rfl (lv_at hl 1 rfl) ?_
  refine g_getr (pc := 6) E Y 53 0 54 S_53 rfl V_8 (by decide) AL_X8 q_358 dX8_drawn_6 ?_
  refine lv_bipush (pc := 9) (v := 8) hx hb dX8_drawn_9 (by decide) ?_
  refine g_iald (pc := 11) E Y 54 S_54 dX8_drawn_11 hf (fun v3 hf => ?_)
  refine g_if_eq (pc := 12) (tgt := 19) E dX8_drawn_12 (by decide) hf (fun hf => ?_) (fun hf => ?_)
  · refine lv_iconst (pc := 19) (v := 0) hx hb dX8_drawn_19 (by decide) ?_
    exact g_zret (pc := 20) E Y hr hk dX8_drawn_20 hf
  · refine lv_iload_n (pc := 15) hx hb dX8_drawn_15 rfl (lv_at hl 0 rfl) ?_
    refine g_if_ne (pc := 16) (tgt := 21) E dX8_drawn_16 (by decide) hf (fun hf => ?_) (fun hf => ?_)
    · refine lv_aload_n (pc := 21) hx hb dX8_drawn_21 rfl (lv_at hl 1 rfl) ?_
      refine g_callVi (pc := 22) E Y 53 S_53 V_8 o_X8_draw q_690 [] rfl rfl (hR_of (by omega) (by decide)) hl.1 (rest := []) rfl (Nat.le_of_ble_eq_true rfl) dX8_drawn_22 (fun z hz => m_X8_draw_53 hz) hf (fun v4 μ5 H locs hf Y => ?_)
      refine lv_aload_n (pc := 25) hx hb dX8_drawn_25 rfl (lv_at hl 1 rfl) ?_
      refine g_getr (pc := 26) E Y 53 0 54 S_53 rfl V_8 (by decide) AL_X8 q_358 dX8_drawn_26 ?_
      refine lv_bipush (pc := 29) (v := 8) hx hb dX8_drawn_29 (by decide) ?_
      refine g_iald (pc := 31) E Y 54 S_54 dX8_drawn_31 hf (fun v6 hf => ?_)
      refine g_irem (pc := 32) E dX8_drawn_32 hf (fun v7 hf => ?_)
      refine lv_istore_n (pc := 33) (lv' := [(2, .int v7), (1, .int v1), (0, .ref (ad 53))]) hx hb dX8_drawn_33 rfl hl (by decide) rfl (fun ls hl => ?_)
      refine lv_aload_n (pc := 34) hx hb dX8_drawn_34 rfl (lv_at hl 2 rfl) ?_
      refine lv_iload_n (pc := 35) hx hb dX8_drawn_35 rfl (lv_at hl 0 rfl) ?_
      refine lv_iconst (pc := 36) (v := 2) hx hb dX8_drawn_36 (by decide) ?_
      refine lv_aload_n (pc := 37) hx hb dX8_drawn_37 rfl (lv_at hl 2 rfl) ?_
      refine g_callVi (pc := 38) E Y 53 S_53 V_8 o_X8_draw q_690 [] rfl rfl (hR_of (by omega) (by decide)) hl.1 (rest := [.int 2, .int v7, .ref (ad 53)]) rfl (Nat.le_of_ble_eq_true rfl) dX8_drawn_38 (fun z hz => m_X8_draw_53 hz) hf (fun v8 μ9 H locs hf Y => ?_)
      refine lv_bipush (pc := 41) (v := 21) hx hb dX8_drawn_41 (by decide) ?_
      refine g_irem (pc := 43) E dX8_drawn_43 hf (fun v10 hf => ?_)
      refine g_callVv (pc := 44) E Y 53 S_53 V_8 o_X8_lets q_720 [.int v7, .int 2, .int v10] rfl rfl (hR_of (by omega) (by decide)) hl.1 (rest := []) rfl (Nat.le_of_ble_eq_true rfl) dX8_drawn_44 (fun z hz => m_X8_lets_53 hz) hf (fun v11 μ12 H locs hf Y => ?_)
      refine lv_aload_n (pc := 47) hx hb dX8_drawn_47 rfl (lv_at hl 2 rfl) ?_
      refine g_callVi (pc := 48) E Y 53 S_53 V_8 o_X8_draw q_690 [] rfl rfl (hR_of (by omega) (by decide)) hl.1 (rest := []) rfl (Nat.le_of_ble_eq_true rfl) dX8_drawn_48 (fun z hz => m_X8_draw_53 hz) hf (fun v13 μ14 H locs hf Y => ?_)
      refine lv_iload_n (pc := 51) hx hb dX8_drawn_51 rfl (lv_at hl 1 rfl) ?_
      refine g_irem (pc := 52) E dX8_drawn_52 hf (fun v15 hf => ?_)
      refine lv_istore_n (pc := 53) (lv' := [(3, .int v15), (2, .int v7), (1, .int v1), (0, .ref (ad 53))]) hx hb dX8_drawn_53 rfl hl (by decide) rfl (fun ls hl => ?_)
      refine lv_iconst (pc := 54) (v := 0) hx hb dX8_drawn_54 (by decide) ?_
      refine lv_istore (pc := 55) (lv' := [(4, .int 0), (3, .int v15), (2, .int v7), (1, .int v1), (0, .ref (ad 53))]) hx hb dX8_drawn_55 hl (by decide) rfl (fun ls hl => ?_)
      exact hL_57 1000 _ _ _ _ _ _ _ hf Y (lv_sub hl [4, 2, 1, 0] rfl)
    · refine lv_iconst (pc := 19) (v := 0) hx hb dX8_drawn_19 (by decide) ?_
      exact g_zret (pc := 20) E Y hr hk dX8_drawn_20 hf
def fb_X8_loose_53_L21 (bk : Int32 → Int32 → Int32 → Mem → Res) (x1 : Int32) (x2 : Int32) (x3 : Int32) (σ : Mem) : Res := if x1 ≤ x3 then (some (x2, σ)) else (bd (f_X8_drawn_53 σ) fun v3 μ4 => if v3 = 0 then (nm (x2 + 0) fun (v5 : Int32) => nm (x3 + 1) fun (v6 : Int32) => bk x1 v5 v6 μ4) else (nm (x2 + 1) fun (v7 : Int32) => nm (x3 + 1) fun (v8 : Int32) => bk x1 v7 v8 μ4))
def f_X8_loose_53_L21 : Nat → Int32 → Int32 → Int32 → Mem → Res
  | 0, _, _, _, _ => none
  | n + 1, x1, x2, x3, σ => fb_X8_loose_53_L21 (f_X8_loose_53_L21 n) x1 x2 x3 σ
def f_X8_loose_53 (a0 : Int32) (σ : Mem) : Res := bd (f_X8_in a0 1 30 σ) fun v1 μ2 => if v1 = 0 then (bd (f_X8_error_53 (-1000000001) μ2) fun v9 μ10 => some (v9, μ10)) else (f_X8_loose_53_L21 1000 a0 0 0 μ2)
set_option maxHeartbeats 4000000 in
set_option maxRecDepth 100000 in
theorem m_X8_loose_53 {l : Launch} {σ : Mem} {Z : Int32 × Mem} {a0 : Int32} (hf : f_X8_loose_53 a0 σ = some Z) : CT l yX8_loose cX8_loose 4 (some .int) 8 (fun ad => [.ref (ad 53), .int a0]) σ Z := by
  refine g_openT RX8 (by decide) rfl (fun _ => Nat.le_of_ble_eq_true rfl) (fun p e s m below meth c D cI cB ad st ls E Y hr hk hl => ?_)
  have hx := E.1.1
  have hb := E.1.2.1
  have hl : lv_has ls 4 [(0, .ref (ad 53)), (1, .int a0)] := hl
  have hL_21 : ∀ (n : Nat) (x1 : Int32) (x2 : Int32) (x3 : Int32) (σ : Mem) (H : Heap) (locs : List Loc) (ls : Array Slot), f_X8_loose_53_L21 n x1 x2 x3 σ = some Z → Wo D cI cB ad (AA ad) σ s H locs → lv_has ls 4 [(0, .ref (ad 53)), (1, .int x1), (2, .int x2), (3, .int x3)] → W p l e (rmd 8) s m ([.ref (ad 53), .int a0] : List Value).toArray below meth c H locs 0 0 (QT_ below D cI cB ad st Z ([.ref (ad 53), .int a0] : List Value).toArray s) (F0 m 21 ls []) := by
    intro n
    induction n with
    | zero =>
      intro x1 x2 x3 σ H locs ls hf
      cases (show (none : Res) = some Z from hf)
    | succ n ih =>
      intro x1 x2 x3 σ H locs ls hf Y hl
      have hf : fb_X8_loose_53_L21 (f_X8_loose_53_L21 n) x1 x2 x3 σ = some Z := hf
      unfold fb_X8_loose_53_L21 at hf
      refine lv_iload_n (pc := 21) hx hb dX8_loose_21 rfl (lv_at hl 3 rfl) ?_
      refine lv_iload_n (pc := 22) hx hb dX8_loose_22 rfl (lv_at hl 1 rfl) ?_
      refine g_icmp_ge (pc := 23) (tgt := 47) E dX8_loose_23 (by decide) hf (fun hf => ?_) (fun hf => ?_)
      · refine lv_iload_n (pc := 47) hx hb dX8_loose_47 rfl (lv_at hl 2 rfl) ?_
        exact g_iret (pc := 48) E Y hr hk dX8_loose_48 hf
      · refine lv_iload_n (pc := 26) hx hb dX8_loose_26 rfl (lv_at hl 2 rfl) ?_
        refine lv_aload_n (pc := 27) hx hb dX8_loose_27 rfl (lv_at hl 0 rfl) ?_
        refine g_callVi (pc := 28) E Y 53 S_53 V_8 o_X8_drawn q_691 [] rfl rfl (hR_of (by omega) (by decide)) hl.1 (rest := [.int x2]) rfl (Nat.le_of_ble_eq_true rfl) dX8_loose_28 (fun z hz => m_X8_drawn_53 hz) hf (fun v3 μ4 H locs hf Y => ?_)
        refine g_if_eq (pc := 31) (tgt := 38) E dX8_loose_31 (by decide) hf (fun hf => ?_) (fun hf => ?_)
        · refine lv_iconst (pc := 38) (v := 0) hx hb dX8_loose_38 (by decide) ?_
          refine g_iadd (pc := 39) E dX8_loose_39 hf (fun v5 hf => ?_)
          refine lv_istore_n (pc := 40) (lv' := [(2, .int v5), (0, .ref (ad 53)), (1, .int x1), (3, .int x3)]) hx hb dX8_loose_40 rfl hl (by decide) rfl (fun ls hl => ?_)
          refine g_iinc (pc := 41) E (fun v6 => [(3, .int v6), (2, .int v5), (0, .ref (ad 53)), (1, .int x1)]) dX8_loose_41 hl (k := 3) rfl (t := 1) (by decide) (by decide) (fun _ => rfl) hf (fun v6 hf ls hl => ?_)
          refine lv_goto (pc := 44) (tgt := 21) hx hb dX8_loose_44 (by decide) ?_
          exact ih _ _ _ _ _ _ _ hf Y (lv_sub hl [2, 3, 1, 0] rfl)
        · refine lv_iconst (pc := 34) (v := 1) hx hb dX8_loose_34 (by decide) ?_
          refine lv_goto (pc := 35) (tgt := 39) hx hb dX8_loose_35 (by decide) ?_
          refine g_iadd (pc := 39) E dX8_loose_39 hf (fun v7 hf => ?_)
          refine lv_istore_n (pc := 40) (lv' := [(2, .int v7), (0, .ref (ad 53)), (1, .int x1), (3, .int x3)]) hx hb dX8_loose_40 rfl hl (by decide) rfl (fun ls hl => ?_)
          refine g_iinc (pc := 41) E (fun v8 => [(3, .int v8), (2, .int v7), (0, .ref (ad 53)), (1, .int x1)]) dX8_loose_41 hl (k := 3) rfl (t := 1) (by decide) (by decide) (fun _ => rfl) hf (fun v8 hf ls hl => ?_)
          refine lv_goto (pc := 44) (tgt := 21) hx hb dX8_loose_44 (by decide) ?_
          exact ih _ _ _ _ _ _ _ hf Y (lv_sub hl [2, 3, 1, 0] rfl)
  unfold f_X8_loose_53 at hf
  refine lv_iload_n (pc := 0) hx hb dX8_loose_0 rfl (lv_at hl 1 rfl) ?_
  refine lv_iconst (pc := 1) (v := 1) hx hb dX8_loose_1 (by decide) ?_
  refine lv_bipush (pc := 2) (v := 30) hx hb dX8_loose_2 (by decide) ?_
  refine g_callSi (pc := 4) E Y o_X8_in q_707 [.int a0, .int 1, .int 30] rfl rfl (hR_of (by omega) (by decide)) hl.1 (rest := []) rfl (Nat.le_of_ble_eq_true rfl) dX8_loose_4 (fun z hz => m_X8_in hz) hf (fun v1 μ2 H locs hf Y => ?_)
  refine g_if_ne (pc := 7) (tgt := 17) E dX8_loose_7 (by decide) hf (fun hf => ?_) (fun hf => ?_)
  · refine lv_iconst (pc := 17) (v := 0) hx hb dX8_loose_17 (by decide) ?_
    refine lv_istore_n (pc := 18) (lv' := [(2, .int 0), (0, .ref (ad 53)), (1, .int a0)]) hx hb dX8_loose_18 rfl hl (by decide) rfl (fun ls hl => ?_)
    refine lv_iconst (pc := 19) (v := 0) hx hb dX8_loose_19 (by decide) ?_
    refine lv_istore_n (pc := 20) (lv' := [(3, .int 0), (2, .int 0), (0, .ref (ad 53)), (1, .int a0)]) hx hb dX8_loose_20 rfl hl (by decide) rfl (fun ls hl => ?_)
    exact hL_21 1000 _ _ _ _ _ _ _ hf Y (lv_sub hl [2, 3, 1, 0] rfl)
  · refine lv_aload_n (pc := 10) hx hb dX8_loose_10 rfl (lv_at hl 0 rfl) ?_
    refine lv_ldc (pc := 11) (v := (-1000000001)) hx hb E.1.2.2.2.1 (E.1.2.2.2.2 _ q_238) dX8_loose_11 ?_
    refine g_callVi (pc := 13) E Y 53 S_53 V_8 o_X8_error q_716 [.int (-1000000001)] rfl rfl (hR_of (by omega) (by decide)) hl.1 (rest := []) rfl (Nat.le_of_ble_eq_true rfl) dX8_loose_13 (fun z hz => m_X8_error_53 hz) hf (fun v9 μ10 H locs hf Y => ?_)
    exact g_iret (pc := 16) E Y hr hk dX8_loose_16 hf
def f_X8_seed_53 (a0 : Int32) (σ : Mem) : Res := bd (f_X8_becomes_53 6 a0 σ) fun v1 μ2 => some (v1, μ2)
set_option maxHeartbeats 4000000 in
set_option maxRecDepth 100000 in
theorem m_X8_seed_53 {l : Launch} {σ : Mem} {Z : Int32 × Mem} {a0 : Int32} (hf : f_X8_seed_53 a0 σ = some Z) : CT l yX8_seed cX8_seed 2 (some .int) 1 (fun ad => [.ref (ad 53), .int a0]) σ Z := by
  refine g_openT RX8 (by decide) rfl (fun _ => Nat.le_of_ble_eq_true rfl) (fun p e s m below meth c D cI cB ad st ls E Y hr hk hl => ?_)
  have hx := E.1.1
  have hb := E.1.2.1
  have hl : lv_has ls 2 [(0, .ref (ad 53)), (1, .int a0)] := hl
  unfold f_X8_seed_53 at hf
  refine lv_aload_n (pc := 0) hx hb dX8_seed_0 rfl (lv_at hl 0 rfl) ?_
  refine lv_bipush (pc := 1) (v := 6) hx hb dX8_seed_1 (by decide) ?_
  refine lv_iload_n (pc := 3) hx hb dX8_seed_3 rfl (lv_at hl 1 rfl) ?_
  refine g_callVi (pc := 4) E Y 53 S_53 V_8 o_X8_becomes q_719 [.int 6, .int a0] rfl rfl (hR_of (by omega) (by decide)) hl.1 (rest := []) rfl (Nat.le_of_ble_eq_true rfl) dX8_seed_4 (fun z hz => m_X8_becomes_53 hz) hf (fun v1 μ2 H locs hf Y => ?_)
  exact g_iret (pc := 7) E Y hr hk dX8_seed_7 hf
def f_X8_begins_53 (a0 : Int32) (σ : Mem) : Res := nm (σ 53 17) fun (v1 : Int32) => if 30 ≤ v1 then (some (0, σ)) else (nm (σ 53 17) fun (v2 : Int32) => gi v2 30 <| nm (mset σ 64 v2.toNatClampNeg a0) fun (μ3 : Mem) => nm (μ3 53 17) fun (v4 : Int32) => nm (v4 + 1) fun (v5 : Int32) => nm (mset μ3 53 17 v5) fun (μ6 : Mem) => some (0, μ6))
set_option maxHeartbeats 4000000 in
set_option maxRecDepth 100000 in
theorem m_X8_begins_53 {l : Launch} {σ : Mem} {Z : Int32 × Mem} {a0 : Int32} (hf : f_X8_begins_53 a0 σ = some Z) : CV l yX8_begins cX8_begins 2 0 (fun ad => [.ref (ad 53), .int a0]) σ Z := by
  refine g_openV RX8 (by decide) rfl (fun _ => Nat.le_of_ble_eq_true rfl) (fun p e s m below meth c D cI cB ad st ls E Y hr hk hl => ?_)
  have hx := E.1.1
  have hb := E.1.2.1
  have hl : lv_has ls 2 [(0, .ref (ad 53)), (1, .int a0)] := hl
  unfold f_X8_begins_53 at hf
  refine lv_aload_n (pc := 0) hx hb dX8_begins_0 rfl (lv_at hl 0 rfl) ?_
  refine g_geti (pc := 1) E Y 53 17 S_53 rfl V_8 (by decide) AL_X8 q_348 dX8_begins_1 hf (fun v1 hf => ?_)
  refine lv_bipush (pc := 4) (v := 30) hx hb dX8_begins_4 (by decide) ?_
  refine g_icmp_ge (pc := 6) (tgt := 29) E dX8_begins_6 (by decide) hf (fun hf => ?_) (fun hf => ?_)
  · exact g_vret (pc := 29) E Y hr hk dX8_begins_29 hf
  · refine lv_aload_n (pc := 9) hx hb dX8_begins_9 rfl (lv_at hl 0 rfl) ?_
    refine g_getr (pc := 10) E Y 53 16 64 S_53 rfl V_8 (by decide) AL_X8 q_357 dX8_begins_10 ?_
    refine lv_aload_n (pc := 13) hx hb dX8_begins_13 rfl (lv_at hl 0 rfl) ?_
    refine g_geti (pc := 14) E Y 53 17 S_53 rfl V_8 (by decide) AL_X8 q_348 dX8_begins_14 hf (fun v2 hf => ?_)
    refine lv_iload_n (pc := 17) hx hb dX8_begins_17 rfl (lv_at hl 1 rfl) ?_
    refine g_iast (pc := 18) E Y 64 S_64 dX8_begins_18 hf (fun μ3 H locs hf Y => ?_)
    refine lv_aload_n (pc := 19) hx hb dX8_begins_19 rfl (lv_at hl 0 rfl) ?_
    refine lv_dup (pc := 20) hx hb dX8_begins_20 rfl ?_
    refine g_geti (pc := 21) E Y 53 17 S_53 rfl V_8 (by decide) AL_X8 q_348 dX8_begins_21 hf (fun v4 hf => ?_)
    refine lv_iconst (pc := 24) (v := 1) hx hb dX8_begins_24 (by decide) ?_
    refine g_iadd (pc := 25) E dX8_begins_25 hf (fun v5 hf => ?_)
    refine g_put (pc := 26) E Y 53 17 S_53 rfl V_8 (by decide) AL_X8 tyX8 tyX8_ok nmX8 q_348 rfl rfl rfl dX8_begins_26 hf (fun μ6 H locs hf Y => ?_)
    exact g_vret (pc := 29) E Y hr hk dX8_begins_29 hf
def f_X8_plainHisses_53 (a0 : Int32) (a1 : Int32) (σ : Mem) : Res := bd (f_X8_begins_53 10 σ) fun v1 μ2 => nm (a1 + a0) fun (v3 : Int32) => some (v3, μ2)
set_option maxHeartbeats 4000000 in
set_option maxRecDepth 100000 in
theorem m_X8_plainHisses_53 {l : Launch} {σ : Mem} {Z : Int32 × Mem} {a0 : Int32} {a1 : Int32} (hf : f_X8_plainHisses_53 a0 a1 σ = some Z) : CT l yX8_plainHisses cX8_plainHisses 3 (some .int) 1 (fun ad => [.ref (ad 53), .int a0, .int a1]) σ Z := by
  refine g_openT RX8 (by decide) rfl (fun _ => Nat.le_of_ble_eq_true rfl) (fun p e s m below meth c D cI cB ad st ls E Y hr hk hl => ?_)
  have hx := E.1.1
  have hb := E.1.2.1
  have hl : lv_has ls 3 [(0, .ref (ad 53)), (1, .int a0), (2, .int a1)] := hl
  unfold f_X8_plainHisses_53 at hf
  refine lv_aload_n (pc := 0) hx hb dX8_plainHisses_0 rfl (lv_at hl 0 rfl) ?_
  refine lv_bipush (pc := 1) (v := 10) hx hb dX8_plainHisses_1 (by decide) ?_
  refine g_callVv (pc := 3) E Y 53 S_53 V_8 o_X8_begins q_692 [.int 10] rfl rfl (hR_of (by omega) (by decide)) hl.1 (rest := []) rfl (Nat.le_of_ble_eq_true rfl) dX8_plainHisses_3 (fun z hz => m_X8_begins_53 hz) hf (fun v1 μ2 H locs hf Y => ?_)
  refine lv_iload_n (pc := 6) hx hb dX8_plainHisses_6 rfl (lv_at hl 2 rfl) ?_
  refine lv_iload_n (pc := 7) hx hb dX8_plainHisses_7 rfl (lv_at hl 1 rfl) ?_
  refine g_iadd (pc := 8) E dX8_plainHisses_8 hf (fun v3 hf => ?_)
  exact g_iret (pc := 9) E Y hr hk dX8_plainHisses_9 hf
def f_X8_curveHisses_53 (a0 : Int32) (a1 : Int32) (σ : Mem) : Res := bd (f_X8_begins_53 20 σ) fun v1 μ2 => bd (f_X8_plainHisses_53 a0 a1 μ2) fun v3 μ4 => nm (v3 - 4) fun (v5 : Int32) => some (v5, μ4)
set_option maxHeartbeats 4000000 in
set_option maxRecDepth 100000 in
theorem m_X8_curveHisses_53 {l : Launch} {σ : Mem} {Z : Int32 × Mem} {a0 : Int32} {a1 : Int32} (hf : f_X8_curveHisses_53 a0 a1 σ = some Z) : CT l yX8_curveHisses cX8_curveHisses 3 (some .int) 2 (fun ad => [.ref (ad 53), .int a0, .int a1]) σ Z := by
  refine g_openT RX8 (by decide) rfl (fun _ => Nat.le_of_ble_eq_true rfl) (fun p e s m below meth c D cI cB ad st ls E Y hr hk hl => ?_)
  have hx := E.1.1
  have hb := E.1.2.1
  have hl : lv_has ls 3 [(0, .ref (ad 53)), (1, .int a0), (2, .int a1)] := hl
  unfold f_X8_curveHisses_53 at hf
  refine lv_aload_n (pc := 0) hx hb dX8_curveHisses_0 rfl (lv_at hl 0 rfl) ?_
  refine lv_bipush (pc := 1) (v := 20) hx hb dX8_curveHisses_1 (by decide) ?_
  refine g_callVv (pc := 3) E Y 53 S_53 V_8 o_X8_begins q_692 [.int 20] rfl rfl (hR_of (by omega) (by decide)) hl.1 (rest := []) rfl (Nat.le_of_ble_eq_true rfl) dX8_curveHisses_3 (fun z hz => m_X8_begins_53 hz) hf (fun v1 μ2 H locs hf Y => ?_)
  refine lv_aload_n (pc := 6) hx hb dX8_curveHisses_6 rfl (lv_at hl 0 rfl) ?_
  refine lv_iload_n (pc := 7) hx hb dX8_curveHisses_7 rfl (lv_at hl 1 rfl) ?_
  refine lv_iload_n (pc := 8) hx hb dX8_curveHisses_8 rfl (lv_at hl 2 rfl) ?_
  refine g_callVi (pc := 9) E Y 53 S_53 V_8 o_X8_plainHisses q_693 [.int a0, .int a1] rfl rfl (hR_of (by omega) (by decide)) hl.1 (rest := []) rfl (Nat.le_of_ble_eq_true rfl) dX8_curveHisses_9 (fun z hz => m_X8_plainHisses_53 hz) hf (fun v3 μ4 H locs hf Y => ?_)
  refine lv_iconst (pc := 12) (v := 4) hx hb dX8_curveHisses_12 (by decide) ?_
  refine g_isub (pc := 13) E dX8_curveHisses_13 hf (fun v5 hf => ?_)
  exact g_iret (pc := 14) E Y hr hk dX8_curveHisses_14 hf
def f_X8_hisses_53 (a0 : Int32) (a1 : Int32) (σ : Mem) : Res := bd (f_X8_of_53 a0 0 σ) fun v1 μ2 => if v1 = 1 then (bd (f_X8_curveHisses_53 a0 a1 μ2) fun v3 μ4 => some (v3, μ4)) else (if v1 = 4 then (bd (f_X8_begins_53 50 μ2) fun v5 μ6 => bd (f_X8_curveHisses_53 a0 a1 μ6) fun v7 μ8 => nm (v7 * 3) fun (v9 : Int32) => some (v9, μ8)) else (if v1 = 6 then (bd (f_X8_begins_53 70 μ2) fun v10 μ11 => some (9, μ11)) else (bd (f_X8_plainHisses_53 a0 a1 μ2) fun v12 μ13 => some (v12, μ13))))
set_option maxHeartbeats 4000000 in
set_option maxRecDepth 100000 in
theorem m_X8_hisses_53 {l : Launch} {σ : Mem} {Z : Int32 × Mem} {a0 : Int32} {a1 : Int32} (hf : f_X8_hisses_53 a0 a1 σ = some Z) : CT l yX8_hisses cX8_hisses 3 (some .int) 3 (fun ad => [.ref (ad 53), .int a0, .int a1]) σ Z := by
  refine g_openT RX8 (by decide) rfl (fun _ => Nat.le_of_ble_eq_true rfl) (fun p e s m below meth c D cI cB ad st ls E Y hr hk hl => ?_)
  have hx := E.1.1
  have hb := E.1.2.1
  have hl : lv_has ls 3 [(0, .ref (ad 53)), (1, .int a0), (2, .int a1)] := hl
  unfold f_X8_hisses_53 at hf
  refine lv_aload_n (pc := 0) hx hb dX8_hisses_0 rfl (lv_at hl 0 rfl) ?_
  refine lv_iload_n (pc := 1) hx hb dX8_hisses_1 rfl (lv_at hl 1 rfl) ?_
  refine lv_iconst (pc := 2) (v := 0) hx hb dX8_hisses_2 (by decide) ?_
  refine g_callVi (pc := 3) E Y 53 S_53 V_8 o_X8_of q_708 [.int a0, .int 0] rfl rfl (hR_of (by omega) (by decide)) hl.1 (rest := []) rfl (Nat.le_of_ble_eq_true rfl) dX8_hisses_3 (fun z hz => m_X8_of_53 hz) hf (fun v1 μ2 H locs hf Y => ?_)
  by_cases hc : v1 = 1
  · rw [if_pos hc] at hf
    refine lv_lookup (pc := 6) (tgt := 40) (off := 34) hx hb dX8_hisses_6 rfl (by rw [hc]; rfl) (by decide) ?_
    refine lv_aload_n (pc := 40) hx hb dX8_hisses_40 rfl (lv_at hl 0 rfl) ?_
    refine lv_iload_n (pc := 41) hx hb dX8_hisses_41 rfl (lv_at hl 1 rfl) ?_
    refine lv_iload_n (pc := 42) hx hb dX8_hisses_42 rfl (lv_at hl 2 rfl) ?_
    refine g_callVi (pc := 43) E Y 53 S_53 V_8 o_X8_curveHisses q_694 [.int a0, .int a1] rfl rfl (hR_of (by omega) (by decide)) hl.1 (rest := []) rfl (Nat.le_of_ble_eq_true rfl) dX8_hisses_43 (fun z hz => m_X8_curveHisses_53 hz) hf (fun v3 μ4 H locs hf Y => ?_)
    exact g_iret (pc := 46) E Y hr hk dX8_hisses_46 hf
  · rw [if_neg hc] at hf
    have n_1 := ti_ne (n := 1) (by decide) hc
    clear hc
    by_cases hc : v1 = 4
    · rw [if_pos hc] at hf
      refine lv_lookup (pc := 6) (tgt := 47) (off := 41) hx hb dX8_hisses_6 rfl (by rw [hc]; rfl) (by decide) ?_
      refine lv_aload_n (pc := 47) hx hb dX8_hisses_47 rfl (lv_at hl 0 rfl) ?_
      refine lv_bipush (pc := 48) (v := 50) hx hb dX8_hisses_48 (by decide) ?_
      refine g_callVv (pc := 50) E Y 53 S_53 V_8 o_X8_begins q_692 [.int 50] rfl rfl (hR_of (by omega) (by decide)) hl.1 (rest := []) rfl (Nat.le_of_ble_eq_true rfl) dX8_hisses_50 (fun z hz => m_X8_begins_53 hz) hf (fun v5 μ6 H locs hf Y => ?_)
      refine lv_aload_n (pc := 53) hx hb dX8_hisses_53 rfl (lv_at hl 0 rfl) ?_
      refine lv_iload_n (pc := 54) hx hb dX8_hisses_54 rfl (lv_at hl 1 rfl) ?_
      refine lv_iload_n (pc := 55) hx hb dX8_hisses_55 rfl (lv_at hl 2 rfl) ?_
      refine g_callVi (pc := 56) E Y 53 S_53 V_8 o_X8_curveHisses q_694 [.int a0, .int a1] rfl rfl (hR_of (by omega) (by decide)) hl.1 (rest := []) rfl (Nat.le_of_ble_eq_true rfl) dX8_hisses_56 (fun z hz => m_X8_curveHisses_53 hz) hf (fun v7 μ8 H locs hf Y => ?_)
      refine lv_iconst (pc := 59) (v := 3) hx hb dX8_hisses_59 (by decide) ?_
      refine g_imul (pc := 60) E dX8_hisses_60 hf (fun v9 hf => ?_)
      exact g_iret (pc := 61) E Y hr hk dX8_hisses_61 hf
    · rw [if_neg hc] at hf
      have n_4 := ti_ne (n := 4) (by decide) hc
      clear hc
      by_cases hc : v1 = 6
      · rw [if_pos hc] at hf
        refine lv_lookup (pc := 6) (tgt := 62) (off := 56) hx hb dX8_hisses_6 rfl (by rw [hc]; rfl) (by decide) ?_
        refine lv_aload_n (pc := 62) hx hb dX8_hisses_62 rfl (lv_at hl 0 rfl) ?_
        refine lv_bipush (pc := 63) (v := 70) hx hb dX8_hisses_63 (by decide) ?_
        refine g_callVv (pc := 65) E Y 53 S_53 V_8 o_X8_begins q_692 [.int 70] rfl rfl (hR_of (by omega) (by decide)) hl.1 (rest := []) rfl (Nat.le_of_ble_eq_true rfl) dX8_hisses_65 (fun z hz => m_X8_begins_53 hz) hf (fun v10 μ11 H locs hf Y => ?_)
        refine lv_bipush (pc := 68) (v := 9) hx hb dX8_hisses_68 (by decide) ?_
        exact g_iret (pc := 70) E Y hr hk dX8_hisses_70 hf
      · rw [if_neg hc] at hf
        have n_6 := ti_ne (n := 6) (by decide) hc
        clear hc
        refine lv_lookup (pc := 6) (tgt := 71) (off := 65) hx hb dX8_hisses_6 rfl (lk_def (by simp only [List.all_cons, List.all_nil, Bool.and_true, Bool.and_eq_true, bne_iff_ne, ne_eq]; omega)) (by decide) ?_
        refine lv_aload_n (pc := 71) hx hb dX8_hisses_71 rfl (lv_at hl 0 rfl) ?_
        refine lv_iload_n (pc := 72) hx hb dX8_hisses_72 rfl (lv_at hl 1 rfl) ?_
        refine lv_iload_n (pc := 73) hx hb dX8_hisses_73 rfl (lv_at hl 2 rfl) ?_
        refine g_callVi (pc := 74) E Y 53 S_53 V_8 o_X8_plainHisses q_693 [.int a0, .int a1] rfl rfl (hR_of (by omega) (by decide)) hl.1 (rest := []) rfl (Nat.le_of_ble_eq_true rfl) dX8_hisses_74 (fun z hz => m_X8_plainHisses_53 hz) hf (fun v12 μ13 H locs hf Y => ?_)
        exact g_iret (pc := 77) E Y hr hk dX8_hisses_77 hf
def f_X8_plainDrops_53 (a0 : Int32) (a1 : Int32) (σ : Mem) : Res := bd (f_X8_begins_53 11 σ) fun v1 μ2 => bd (f_X8_hisses_53 a0 a1 μ2) fun v3 μ4 => nm (v3 * 2) fun (v5 : Int32) => some (v5, μ4)
set_option maxHeartbeats 4000000 in
set_option maxRecDepth 100000 in
theorem m_X8_plainDrops_53 {l : Launch} {σ : Mem} {Z : Int32 × Mem} {a0 : Int32} {a1 : Int32} (hf : f_X8_plainDrops_53 a0 a1 σ = some Z) : CT l yX8_plainDrops cX8_plainDrops 3 (some .int) 4 (fun ad => [.ref (ad 53), .int a0, .int a1]) σ Z := by
  refine g_openT RX8 (by decide) rfl (fun _ => Nat.le_of_ble_eq_true rfl) (fun p e s m below meth c D cI cB ad st ls E Y hr hk hl => ?_)
  have hx := E.1.1
  have hb := E.1.2.1
  have hl : lv_has ls 3 [(0, .ref (ad 53)), (1, .int a0), (2, .int a1)] := hl
  unfold f_X8_plainDrops_53 at hf
  refine lv_aload_n (pc := 0) hx hb dX8_plainDrops_0 rfl (lv_at hl 0 rfl) ?_
  refine lv_bipush (pc := 1) (v := 11) hx hb dX8_plainDrops_1 (by decide) ?_
  refine g_callVv (pc := 3) E Y 53 S_53 V_8 o_X8_begins q_692 [.int 11] rfl rfl (hR_of (by omega) (by decide)) hl.1 (rest := []) rfl (Nat.le_of_ble_eq_true rfl) dX8_plainDrops_3 (fun z hz => m_X8_begins_53 hz) hf (fun v1 μ2 H locs hf Y => ?_)
  refine lv_aload_n (pc := 6) hx hb dX8_plainDrops_6 rfl (lv_at hl 0 rfl) ?_
  refine lv_iload_n (pc := 7) hx hb dX8_plainDrops_7 rfl (lv_at hl 1 rfl) ?_
  refine lv_iload_n (pc := 8) hx hb dX8_plainDrops_8 rfl (lv_at hl 2 rfl) ?_
  refine g_callVi (pc := 9) E Y 53 S_53 V_8 o_X8_hisses q_695 [.int a0, .int a1] rfl rfl (hR_of (by omega) (by decide)) hl.1 (rest := []) rfl (Nat.le_of_ble_eq_true rfl) dX8_plainDrops_9 (fun z hz => m_X8_hisses_53 hz) hf (fun v3 μ4 H locs hf Y => ?_)
  refine lv_iconst (pc := 12) (v := 2) hx hb dX8_plainDrops_12 (by decide) ?_
  refine g_imul (pc := 13) E dX8_plainDrops_13 hf (fun v5 hf => ?_)
  exact g_iret (pc := 14) E Y hr hk dX8_plainDrops_14 hf
def f_X8_hardDrops_53 (a0 : Int32) (a1 : Int32) (σ : Mem) : Res := bd (f_X8_begins_53 30 σ) fun v1 μ2 => bd (f_X8_plainDrops_53 a0 a1 μ2) fun v3 μ4 => nm (-v3) fun (v5 : Int32) => some (v5, μ4)
set_option maxHeartbeats 4000000 in
set_option maxRecDepth 100000 in
theorem m_X8_hardDrops_53 {l : Launch} {σ : Mem} {Z : Int32 × Mem} {a0 : Int32} {a1 : Int32} (hf : f_X8_hardDrops_53 a0 a1 σ = some Z) : CT l yX8_hardDrops cX8_hardDrops 3 (some .int) 5 (fun ad => [.ref (ad 53), .int a0, .int a1]) σ Z := by
  refine g_openT RX8 (by decide) rfl (fun _ => Nat.le_of_ble_eq_true rfl) (fun p e s m below meth c D cI cB ad st ls E Y hr hk hl => ?_)
  have hx := E.1.1
  have hb := E.1.2.1
  have hl : lv_has ls 3 [(0, .ref (ad 53)), (1, .int a0), (2, .int a1)] := hl
  unfold f_X8_hardDrops_53 at hf
  refine lv_aload_n (pc := 0) hx hb dX8_hardDrops_0 rfl (lv_at hl 0 rfl) ?_
  refine lv_bipush (pc := 1) (v := 30) hx hb dX8_hardDrops_1 (by decide) ?_
  refine g_callVv (pc := 3) E Y 53 S_53 V_8 o_X8_begins q_692 [.int 30] rfl rfl (hR_of (by omega) (by decide)) hl.1 (rest := []) rfl (Nat.le_of_ble_eq_true rfl) dX8_hardDrops_3 (fun z hz => m_X8_begins_53 hz) hf (fun v1 μ2 H locs hf Y => ?_)
  refine lv_aload_n (pc := 6) hx hb dX8_hardDrops_6 rfl (lv_at hl 0 rfl) ?_
  refine lv_iload_n (pc := 7) hx hb dX8_hardDrops_7 rfl (lv_at hl 1 rfl) ?_
  refine lv_iload_n (pc := 8) hx hb dX8_hardDrops_8 rfl (lv_at hl 2 rfl) ?_
  refine g_callVi (pc := 9) E Y 53 S_53 V_8 o_X8_plainDrops q_696 [.int a0, .int a1] rfl rfl (hR_of (by omega) (by decide)) hl.1 (rest := []) rfl (Nat.le_of_ble_eq_true rfl) dX8_hardDrops_9 (fun z hz => m_X8_plainDrops_53 hz) hf (fun v3 μ4 H locs hf Y => ?_)
  refine g_ineg (pc := 12) E dX8_hardDrops_12 hf (fun v5 hf => ?_)
  exact g_iret (pc := 13) E Y hr hk dX8_hardDrops_13 hf
def f_X8_drops_53 (a0 : Int32) (a1 : Int32) (σ : Mem) : Res := bd (f_X8_of_53 a0 0 σ) fun v1 μ2 => if v1 = 2 then (bd (f_X8_hardDrops_53 a0 a1 μ2) fun v3 μ4 => some (v3, μ4)) else (if v1 = 5 then (bd (f_X8_begins_53 60 μ2) fun v5 μ6 => nm (a1 + 1) fun (v7 : Int32) => bd (f_X8_hardDrops_53 a0 v7 μ6) fun v8 μ9 => some (v8, μ9)) else (if v1 = 6 then (bd (f_X8_begins_53 71 μ2) fun v10 μ11 => bd (f_X8_plainDrops_53 a0 a1 μ11) fun v12 μ13 => bd (f_X8_of_53 a0 1 μ13) fun v14 μ15 => nm (v12 + v14) fun (v16 : Int32) => some (v16, μ15)) else (bd (f_X8_plainDrops_53 a0 a1 μ2) fun v17 μ18 => some (v17, μ18))))
set_option maxHeartbeats 4000000 in
set_option maxRecDepth 100000 in
theorem m_X8_drops_53 {l : Launch} {σ : Mem} {Z : Int32 × Mem} {a0 : Int32} {a1 : Int32} (hf : f_X8_drops_53 a0 a1 σ = some Z) : CT l yX8_drops cX8_drops 3 (some .int) 6 (fun ad => [.ref (ad 53), .int a0, .int a1]) σ Z := by
  refine g_openT RX8 (by decide) rfl (fun _ => Nat.le_of_ble_eq_true rfl) (fun p e s m below meth c D cI cB ad st ls E Y hr hk hl => ?_)
  have hx := E.1.1
  have hb := E.1.2.1
  have hl : lv_has ls 3 [(0, .ref (ad 53)), (1, .int a0), (2, .int a1)] := hl
  unfold f_X8_drops_53 at hf
  refine lv_aload_n (pc := 0) hx hb dX8_drops_0 rfl (lv_at hl 0 rfl) ?_
  refine lv_iload_n (pc := 1) hx hb dX8_drops_1 rfl (lv_at hl 1 rfl) ?_
  refine lv_iconst (pc := 2) (v := 0) hx hb dX8_drops_2 (by decide) ?_
  refine g_callVi (pc := 3) E Y 53 S_53 V_8 o_X8_of q_708 [.int a0, .int 0] rfl rfl (hR_of (by omega) (by decide)) hl.1 (rest := []) rfl (Nat.le_of_ble_eq_true rfl) dX8_drops_3 (fun z hz => m_X8_of_53 hz) hf (fun v1 μ2 H locs hf Y => ?_)
  by_cases hc : v1 = 2
  · rw [if_pos hc] at hf
    refine g_tabIn (pc := 6) (tgt := 40) E dX8_drops_6 hc (n := 2) (by decide) (by decide) (by decide) rfl (by decide) ?_
    refine lv_aload_n (pc := 40) hx hb dX8_drops_40 rfl (lv_at hl 0 rfl) ?_
    refine lv_iload_n (pc := 41) hx hb dX8_drops_41 rfl (lv_at hl 1 rfl) ?_
    refine lv_iload_n (pc := 42) hx hb dX8_drops_42 rfl (lv_at hl 2 rfl) ?_
    refine g_callVi (pc := 43) E Y 53 S_53 V_8 o_X8_hardDrops q_697 [.int a0, .int a1] rfl rfl (hR_of (by omega) (by decide)) hl.1 (rest := []) rfl (Nat.le_of_ble_eq_true rfl) dX8_drops_43 (fun z hz => m_X8_hardDrops_53 hz) hf (fun v3 μ4 H locs hf Y => ?_)
    exact g_iret (pc := 46) E Y hr hk dX8_drops_46 hf
  · rw [if_neg hc] at hf
    have n_2 := ti_ne (n := 2) (by decide) hc
    clear hc
    by_cases hc : v1 = 5
    · rw [if_pos hc] at hf
      refine g_tabIn (pc := 6) (tgt := 47) E dX8_drops_6 hc (n := 5) (by decide) (by decide) (by decide) rfl (by decide) ?_
      refine lv_aload_n (pc := 47) hx hb dX8_drops_47 rfl (lv_at hl 0 rfl) ?_
      refine lv_bipush (pc := 48) (v := 60) hx hb dX8_drops_48 (by decide) ?_
      refine g_callVv (pc := 50) E Y 53 S_53 V_8 o_X8_begins q_692 [.int 60] rfl rfl (hR_of (by omega) (by decide)) hl.1 (rest := []) rfl (Nat.le_of_ble_eq_true rfl) dX8_drops_50 (fun z hz => m_X8_begins_53 hz) hf (fun v5 μ6 H locs hf Y => ?_)
      refine lv_aload_n (pc := 53) hx hb dX8_drops_53 rfl (lv_at hl 0 rfl) ?_
      refine lv_iload_n (pc := 54) hx hb dX8_drops_54 rfl (lv_at hl 1 rfl) ?_
      refine lv_iload_n (pc := 55) hx hb dX8_drops_55 rfl (lv_at hl 2 rfl) ?_
      refine lv_iconst (pc := 56) (v := 1) hx hb dX8_drops_56 (by decide) ?_
      refine g_iadd (pc := 57) E dX8_drops_57 hf (fun v7 hf => ?_)
      refine g_callVi (pc := 58) E Y 53 S_53 V_8 o_X8_hardDrops q_697 [.int a0, .int v7] rfl rfl (hR_of (by omega) (by decide)) hl.1 (rest := []) rfl (Nat.le_of_ble_eq_true rfl) dX8_drops_58 (fun z hz => m_X8_hardDrops_53 hz) hf (fun v8 μ9 H locs hf Y => ?_)
      exact g_iret (pc := 61) E Y hr hk dX8_drops_61 hf
    · rw [if_neg hc] at hf
      have n_5 := ti_ne (n := 5) (by decide) hc
      clear hc
      by_cases hc : v1 = 6
      · rw [if_pos hc] at hf
        refine g_tabIn (pc := 6) (tgt := 62) E dX8_drops_6 hc (n := 6) (by decide) (by decide) (by decide) rfl (by decide) ?_
        refine lv_aload_n (pc := 62) hx hb dX8_drops_62 rfl (lv_at hl 0 rfl) ?_
        refine lv_bipush (pc := 63) (v := 71) hx hb dX8_drops_63 (by decide) ?_
        refine g_callVv (pc := 65) E Y 53 S_53 V_8 o_X8_begins q_692 [.int 71] rfl rfl (hR_of (by omega) (by decide)) hl.1 (rest := []) rfl (Nat.le_of_ble_eq_true rfl) dX8_drops_65 (fun z hz => m_X8_begins_53 hz) hf (fun v10 μ11 H locs hf Y => ?_)
        refine lv_aload_n (pc := 68) hx hb dX8_drops_68 rfl (lv_at hl 0 rfl) ?_
        refine lv_iload_n (pc := 69) hx hb dX8_drops_69 rfl (lv_at hl 1 rfl) ?_
        refine lv_iload_n (pc := 70) hx hb dX8_drops_70 rfl (lv_at hl 2 rfl) ?_
        refine g_callVi (pc := 71) E Y 53 S_53 V_8 o_X8_plainDrops q_696 [.int a0, .int a1] rfl rfl (hR_of (by omega) (by decide)) hl.1 (rest := []) rfl (Nat.le_of_ble_eq_true rfl) dX8_drops_71 (fun z hz => m_X8_plainDrops_53 hz) hf (fun v12 μ13 H locs hf Y => ?_)
        refine lv_aload_n (pc := 74) hx hb dX8_drops_74 rfl (lv_at hl 0 rfl) ?_
        refine lv_iload_n (pc := 75) hx hb dX8_drops_75 rfl (lv_at hl 1 rfl) ?_
        refine lv_iconst (pc := 76) (v := 1) hx hb dX8_drops_76 (by decide) ?_
        refine g_callVi (pc := 77) E Y 53 S_53 V_8 o_X8_of q_708 [.int a0, .int 1] rfl rfl (hR_of (by omega) (by decide)) hl.1 (rest := [.int v12]) rfl (Nat.le_of_ble_eq_true rfl) dX8_drops_77 (fun z hz => m_X8_of_53 hz) hf (fun v14 μ15 H locs hf Y => ?_)
        refine g_iadd (pc := 80) E dX8_drops_80 hf (fun v16 hf => ?_)
        exact g_iret (pc := 81) E Y hr hk dX8_drops_81 hf
      · rw [if_neg hc] at hf
        have n_6 := ti_ne (n := 6) (by decide) hc
        clear hc
        refine g_tabDef (pc := 6) (tgt := 82) E dX8_drops_6 ?_ (by decide) ?_
        · by_cases hg : v1.toInt < 2 ∨ 6 < v1.toInt
          · exact Or.inl hg
          · have hg2 : v1.toInt = 3 ∨ v1.toInt = 4 := by omega
            rcases hg2 with hg2 | hg2 <;> exact Or.inr (by rw [hg2]; rfl)
        · refine lv_aload_n (pc := 82) hx hb dX8_drops_82 rfl (lv_at hl 0 rfl) ?_
          refine lv_iload_n (pc := 83) hx hb dX8_drops_83 rfl (lv_at hl 1 rfl) ?_
          refine lv_iload_n (pc := 84) hx hb dX8_drops_84 rfl (lv_at hl 2 rfl) ?_
          refine g_callVi (pc := 85) E Y 53 S_53 V_8 o_X8_plainDrops q_696 [.int a0, .int a1] rfl rfl (hR_of (by omega) (by decide)) hl.1 (rest := []) rfl (Nat.le_of_ble_eq_true rfl) dX8_drops_85 (fun z hz => m_X8_plainDrops_53 hz) hf (fun v17 μ18 H locs hf Y => ?_)
          exact g_iret (pc := 88) E Y hr hk dX8_drops_88 hf
def f_X8_plainThuds_53 (a0 : Int32) (a1 : Int32) (σ : Mem) : Res := bd (f_X8_begins_53 12 σ) fun v1 μ2 => bd (f_X8_drops_53 a0 a1 μ2) fun v3 μ4 => bd (f_X8_of_53 a0 1 μ4) fun v5 μ6 => nm (v3 - v5) fun (v7 : Int32) => some (v7, μ6)
set_option maxHeartbeats 4000000 in
set_option maxRecDepth 100000 in
theorem m_X8_plainThuds_53 {l : Launch} {σ : Mem} {Z : Int32 × Mem} {a0 : Int32} {a1 : Int32} (hf : f_X8_plainThuds_53 a0 a1 σ = some Z) : CT l yX8_plainThuds cX8_plainThuds 3 (some .int) 7 (fun ad => [.ref (ad 53), .int a0, .int a1]) σ Z := by
  refine g_openT RX8 (by decide) rfl (fun _ => Nat.le_of_ble_eq_true rfl) (fun p e s m below meth c D cI cB ad st ls E Y hr hk hl => ?_)
  have hx := E.1.1
  have hb := E.1.2.1
  have hl : lv_has ls 3 [(0, .ref (ad 53)), (1, .int a0), (2, .int a1)] := hl
  unfold f_X8_plainThuds_53 at hf
  refine lv_aload_n (pc := 0) hx hb dX8_plainThuds_0 rfl (lv_at hl 0 rfl) ?_
  refine lv_bipush (pc := 1) (v := 12) hx hb dX8_plainThuds_1 (by decide) ?_
  refine g_callVv (pc := 3) E Y 53 S_53 V_8 o_X8_begins q_692 [.int 12] rfl rfl (hR_of (by omega) (by decide)) hl.1 (rest := []) rfl (Nat.le_of_ble_eq_true rfl) dX8_plainThuds_3 (fun z hz => m_X8_begins_53 hz) hf (fun v1 μ2 H locs hf Y => ?_)
  refine lv_aload_n (pc := 6) hx hb dX8_plainThuds_6 rfl (lv_at hl 0 rfl) ?_
  refine lv_iload_n (pc := 7) hx hb dX8_plainThuds_7 rfl (lv_at hl 1 rfl) ?_
  refine lv_iload_n (pc := 8) hx hb dX8_plainThuds_8 rfl (lv_at hl 2 rfl) ?_
  refine g_callVi (pc := 9) E Y 53 S_53 V_8 o_X8_drops q_698 [.int a0, .int a1] rfl rfl (hR_of (by omega) (by decide)) hl.1 (rest := []) rfl (Nat.le_of_ble_eq_true rfl) dX8_plainThuds_9 (fun z hz => m_X8_drops_53 hz) hf (fun v3 μ4 H locs hf Y => ?_)
  refine lv_aload_n (pc := 12) hx hb dX8_plainThuds_12 rfl (lv_at hl 0 rfl) ?_
  refine lv_iload_n (pc := 13) hx hb dX8_plainThuds_13 rfl (lv_at hl 1 rfl) ?_
  refine lv_iconst (pc := 14) (v := 1) hx hb dX8_plainThuds_14 (by decide) ?_
  refine g_callVi (pc := 15) E Y 53 S_53 V_8 o_X8_of q_708 [.int a0, .int 1] rfl rfl (hR_of (by omega) (by decide)) hl.1 (rest := [.int v3]) rfl (Nat.le_of_ble_eq_true rfl) dX8_plainThuds_15 (fun z hz => m_X8_of_53 hz) hf (fun v5 μ6 H locs hf Y => ?_)
  refine g_isub (pc := 18) E dX8_plainThuds_18 hf (fun v7 hf => ?_)
  exact g_iret (pc := 19) E Y hr hk dX8_plainThuds_19 hf
def f_X8_thuds_53 (a0 : Int32) (a1 : Int32) (σ : Mem) : Res := bd (f_X8_of_53 a0 0 σ) fun v1 μ2 => if v1 = 3 then (bd (f_X8_begins_53 40 μ2) fun v3 μ4 => gz 2 <| nm (a1 / 2) fun (v5 : Int32) => bd (f_X8_plainThuds_53 a0 v5 μ4) fun v6 μ7 => some (v6, μ7)) else (if v1 = 4 then (bd (f_X8_begins_53 51 μ2) fun v8 μ9 => bd (f_X8_plainThuds_53 a0 a1 μ9) fun v10 μ11 => nm (v10 ^^^ a0) fun (v12 : Int32) => some (v12, μ11)) else (bd (f_X8_plainThuds_53 a0 a1 μ2) fun v13 μ14 => some (v13, μ14)))
set_option maxHeartbeats 4000000 in
set_option maxRecDepth 100000 in
theorem m_X8_thuds_53 {l : Launch} {σ : Mem} {Z : Int32 × Mem} {a0 : Int32} {a1 : Int32} (hf : f_X8_thuds_53 a0 a1 σ = some Z) : CT l yX8_thuds cX8_thuds 3 (some .int) 8 (fun ad => [.ref (ad 53), .int a0, .int a1]) σ Z := by
  refine g_openT RX8 (by decide) rfl (fun _ => Nat.le_of_ble_eq_true rfl) (fun p e s m below meth c D cI cB ad st ls E Y hr hk hl => ?_)
  have hx := E.1.1
  have hb := E.1.2.1
  have hl : lv_has ls 3 [(0, .ref (ad 53)), (1, .int a0), (2, .int a1)] := hl
  unfold f_X8_thuds_53 at hf
  refine lv_aload_n (pc := 0) hx hb dX8_thuds_0 rfl (lv_at hl 0 rfl) ?_
  refine lv_iload_n (pc := 1) hx hb dX8_thuds_1 rfl (lv_at hl 1 rfl) ?_
  refine lv_iconst (pc := 2) (v := 0) hx hb dX8_thuds_2 (by decide) ?_
  refine g_callVi (pc := 3) E Y 53 S_53 V_8 o_X8_of q_708 [.int a0, .int 0] rfl rfl (hR_of (by omega) (by decide)) hl.1 (rest := []) rfl (Nat.le_of_ble_eq_true rfl) dX8_thuds_3 (fun z hz => m_X8_of_53 hz) hf (fun v1 μ2 H locs hf Y => ?_)
  by_cases hc : v1 = 3
  · rw [if_pos hc] at hf
    refine lv_lookup (pc := 6) (tgt := 32) (off := 26) hx hb dX8_thuds_6 rfl (by rw [hc]; rfl) (by decide) ?_
    refine lv_aload_n (pc := 32) hx hb dX8_thuds_32 rfl (lv_at hl 0 rfl) ?_
    refine lv_bipush (pc := 33) (v := 40) hx hb dX8_thuds_33 (by decide) ?_
    refine g_callVv (pc := 35) E Y 53 S_53 V_8 o_X8_begins q_692 [.int 40] rfl rfl (hR_of (by omega) (by decide)) hl.1 (rest := []) rfl (Nat.le_of_ble_eq_true rfl) dX8_thuds_35 (fun z hz => m_X8_begins_53 hz) hf (fun v3 μ4 H locs hf Y => ?_)
    refine lv_aload_n (pc := 38) hx hb dX8_thuds_38 rfl (lv_at hl 0 rfl) ?_
    refine lv_iload_n (pc := 39) hx hb dX8_thuds_39 rfl (lv_at hl 1 rfl) ?_
    refine lv_iload_n (pc := 40) hx hb dX8_thuds_40 rfl (lv_at hl 2 rfl) ?_
    refine lv_iconst (pc := 41) (v := 2) hx hb dX8_thuds_41 (by decide) ?_
    refine g_idiv (pc := 42) E dX8_thuds_42 hf (fun v5 hf => ?_)
    refine g_callVi (pc := 43) E Y 53 S_53 V_8 o_X8_plainThuds q_699 [.int a0, .int v5] rfl rfl (hR_of (by omega) (by decide)) hl.1 (rest := []) rfl (Nat.le_of_ble_eq_true rfl) dX8_thuds_43 (fun z hz => m_X8_plainThuds_53 hz) hf (fun v6 μ7 H locs hf Y => ?_)
    exact g_iret (pc := 46) E Y hr hk dX8_thuds_46 hf
  · rw [if_neg hc] at hf
    have n_3 := ti_ne (n := 3) (by decide) hc
    clear hc
    by_cases hc : v1 = 4
    · rw [if_pos hc] at hf
      refine lv_lookup (pc := 6) (tgt := 47) (off := 41) hx hb dX8_thuds_6 rfl (by rw [hc]; rfl) (by decide) ?_
      refine lv_aload_n (pc := 47) hx hb dX8_thuds_47 rfl (lv_at hl 0 rfl) ?_
      refine lv_bipush (pc := 48) (v := 51) hx hb dX8_thuds_48 (by decide) ?_
      refine g_callVv (pc := 50) E Y 53 S_53 V_8 o_X8_begins q_692 [.int 51] rfl rfl (hR_of (by omega) (by decide)) hl.1 (rest := []) rfl (Nat.le_of_ble_eq_true rfl) dX8_thuds_50 (fun z hz => m_X8_begins_53 hz) hf (fun v8 μ9 H locs hf Y => ?_)
      refine lv_aload_n (pc := 53) hx hb dX8_thuds_53 rfl (lv_at hl 0 rfl) ?_
      refine lv_iload_n (pc := 54) hx hb dX8_thuds_54 rfl (lv_at hl 1 rfl) ?_
      refine lv_iload_n (pc := 55) hx hb dX8_thuds_55 rfl (lv_at hl 2 rfl) ?_
      refine g_callVi (pc := 56) E Y 53 S_53 V_8 o_X8_plainThuds q_699 [.int a0, .int a1] rfl rfl (hR_of (by omega) (by decide)) hl.1 (rest := []) rfl (Nat.le_of_ble_eq_true rfl) dX8_thuds_56 (fun z hz => m_X8_plainThuds_53 hz) hf (fun v10 μ11 H locs hf Y => ?_)
      refine lv_iload_n (pc := 59) hx hb dX8_thuds_59 rfl (lv_at hl 1 rfl) ?_
      refine g_ixor (pc := 60) E dX8_thuds_60 hf (fun v12 hf => ?_)
      exact g_iret (pc := 61) E Y hr hk dX8_thuds_61 hf
    · rw [if_neg hc] at hf
      have n_4 := ti_ne (n := 4) (by decide) hc
      clear hc
      refine lv_lookup (pc := 6) (tgt := 62) (off := 56) hx hb dX8_thuds_6 rfl (lk_def (by simp only [List.all_cons, List.all_nil, Bool.and_true, Bool.and_eq_true, bne_iff_ne, ne_eq]; omega)) (by decide) ?_
      refine lv_aload_n (pc := 62) hx hb dX8_thuds_62 rfl (lv_at hl 0 rfl) ?_
      refine lv_iload_n (pc := 63) hx hb dX8_thuds_63 rfl (lv_at hl 1 rfl) ?_
      refine lv_iload_n (pc := 64) hx hb dX8_thuds_64 rfl (lv_at hl 2 rfl) ?_
      refine g_callVi (pc := 65) E Y 53 S_53 V_8 o_X8_plainThuds q_699 [.int a0, .int a1] rfl rfl (hR_of (by omega) (by decide)) hl.1 (rest := []) rfl (Nat.le_of_ble_eq_true rfl) dX8_thuds_65 (fun z hz => m_X8_plainThuds_53 hz) hf (fun v13 μ14 H locs hf Y => ?_)
      exact g_iret (pc := 68) E Y hr hk dX8_thuds_68 hf
def f_X8_plainParts_53 (a0 : Int32) (a1 : Int32) (σ : Mem) : Res := bd (f_X8_begins_53 13 σ) fun v1 μ2 => bd (f_X8_of_53 a0 1 μ2) fun v3 μ4 => nm (v3 - a0) fun (v5 : Int32) => if v5 = 0 then (gb 1 <| nm (mset μ4 53 18 1) fun (μ9 : Mem) => nm (μ9 53 18) fun (v10 : Int32) => if v10 = 0 then (gz v5 <| nm (a1 / v5) fun (v11 : Int32) => some (v11, μ9)) else (some (0, μ9))) else (gb 0 <| nm (mset μ4 53 18 0) fun (μ6 : Mem) => nm (μ6 53 18) fun (v7 : Int32) => if v7 = 0 then (gz v5 <| nm (a1 / v5) fun (v8 : Int32) => some (v8, μ6)) else (some (0, μ6)))
set_option maxHeartbeats 4000000 in
set_option maxRecDepth 100000 in
theorem m_X8_plainParts_53 {l : Launch} {σ : Mem} {Z : Int32 × Mem} {a0 : Int32} {a1 : Int32} (hf : f_X8_plainParts_53 a0 a1 σ = some Z) : CT l yX8_plainParts cX8_plainParts 4 (some .int) 1 (fun ad => [.ref (ad 53), .int a0, .int a1]) σ Z := by
  refine g_openT RX8 (by decide) rfl (fun _ => Nat.le_of_ble_eq_true rfl) (fun p e s m below meth c D cI cB ad st ls E Y hr hk hl => ?_)
  have hx := E.1.1
  have hb := E.1.2.1
  have hl : lv_has ls 4 [(0, .ref (ad 53)), (1, .int a0), (2, .int a1)] := hl
  unfold f_X8_plainParts_53 at hf
  refine lv_aload_n (pc := 0) hx hb dX8_plainParts_0 rfl (lv_at hl 0 rfl) ?_
  refine lv_bipush (pc := 1) (v := 13) hx hb dX8_plainParts_1 (by decide) ?_
  refine g_callVv (pc := 3) E Y 53 S_53 V_8 o_X8_begins q_692 [.int 13] rfl rfl (hR_of (by omega) (by decide)) hl.1 (rest := []) rfl (Nat.le_of_ble_eq_true rfl) dX8_plainParts_3 (fun z hz => m_X8_begins_53 hz) hf (fun v1 μ2 H locs hf Y => ?_)
  refine lv_aload_n (pc := 6) hx hb dX8_plainParts_6 rfl (lv_at hl 0 rfl) ?_
  refine lv_iload_n (pc := 7) hx hb dX8_plainParts_7 rfl (lv_at hl 1 rfl) ?_
  refine lv_iconst (pc := 8) (v := 1) hx hb dX8_plainParts_8 (by decide) ?_
  refine g_callVi (pc := 9) E Y 53 S_53 V_8 o_X8_of q_708 [.int a0, .int 1] rfl rfl (hR_of (by omega) (by decide)) hl.1 (rest := []) rfl (Nat.le_of_ble_eq_true rfl) dX8_plainParts_9 (fun z hz => m_X8_of_53 hz) hf (fun v3 μ4 H locs hf Y => ?_)
  refine lv_iload_n (pc := 12) hx hb dX8_plainParts_12 rfl (lv_at hl 1 rfl) ?_
  refine g_isub (pc := 13) E dX8_plainParts_13 hf (fun v5 hf => ?_)
  refine lv_istore_n (pc := 14) (lv' := [(3, .int v5), (0, .ref (ad 53)), (1, .int a0), (2, .int a1)]) hx hb dX8_plainParts_14 rfl hl (by decide) rfl (fun ls hl => ?_)
  refine lv_aload_n (pc := 15) hx hb dX8_plainParts_15 rfl (lv_at hl 1 rfl) ?_
  refine lv_iload_n (pc := 16) hx hb dX8_plainParts_16 rfl (lv_at hl 0 rfl) ?_
  refine g_if_ne (pc := 17) (tgt := 24) E dX8_plainParts_17 (by decide) hf (fun hf => ?_) (fun hf => ?_)
  · refine lv_iconst (pc := 24) (v := 0) hx hb dX8_plainParts_24 (by decide) ?_
    obtain ⟨h01, hf⟩ := gb_some hf
    refine g_put (pc := 25) E Y 53 18 S_53 rfl V_8 (by decide) AL_X8 tyX8 tyX8_ok nmX8 q_350 rfl (nar01 h01) (fit01 h01) dX8_plainParts_25 hf (fun μ6 H locs hf Y => ?_)
    refine lv_aload_n (pc := 28) hx hb dX8_plainParts_28 rfl (lv_at hl 1 rfl) ?_
    refine g_geti (pc := 29) E Y 53 18 S_53 rfl V_8 (by decide) AL_X8 q_350 dX8_plainParts_29 hf (fun v7 hf => ?_)
    refine g_if_eq (pc := 32) (tgt := 39) E dX8_plainParts_32 (by decide) hf (fun hf => ?_) (fun hf => ?_)
    · refine lv_iload_n (pc := 39) hx hb dX8_plainParts_39 rfl (lv_at hl 3 rfl) ?_
      refine lv_iload_n (pc := 40) hx hb dX8_plainParts_40 rfl (lv_at hl 0 rfl) ?_
      refine g_idiv (pc := 41) E dX8_plainParts_41 hf (fun v8 hf => ?_)
      exact g_iret (pc := 42) E Y hr hk dX8_plainParts_42 hf
    · refine lv_iconst (pc := 35) (v := 0) hx hb dX8_plainParts_35 (by decide) ?_
      refine lv_goto (pc := 36) (tgt := 42) hx hb dX8_plainParts_36 (by decide) ?_
      exact g_iret (pc := 42) E Y hr hk dX8_plainParts_42 hf
  · refine lv_iconst (pc := 20) (v := 1) hx hb dX8_plainParts_20 (by decide) ?_
    refine lv_goto (pc := 21) (tgt := 25) hx hb dX8_plainParts_21 (by decide) ?_
    obtain ⟨h01, hf⟩ := gb_some hf
    refine g_put (pc := 25) E Y 53 18 S_53 rfl V_8 (by decide) AL_X8 tyX8 tyX8_ok nmX8 q_350 rfl (nar01 h01) (fit01 h01) dX8_plainParts_25 hf (fun μ9 H locs hf Y => ?_)
    refine lv_aload_n (pc := 28) hx hb dX8_plainParts_28 rfl (lv_at hl 1 rfl) ?_
    refine g_geti (pc := 29) E Y 53 18 S_53 rfl V_8 (by decide) AL_X8 q_350 dX8_plainParts_29 hf (fun v10 hf => ?_)
    refine g_if_eq (pc := 32) (tgt := 39) E dX8_plainParts_32 (by decide) hf (fun hf => ?_) (fun hf => ?_)
    · refine lv_iload_n (pc := 39) hx hb dX8_plainParts_39 rfl (lv_at hl 3 rfl) ?_
      refine lv_iload_n (pc := 40) hx hb dX8_plainParts_40 rfl (lv_at hl 0 rfl) ?_
      refine g_idiv (pc := 41) E dX8_plainParts_41 hf (fun v11 hf => ?_)
      exact g_iret (pc := 42) E Y hr hk dX8_plainParts_42 hf
    · refine lv_iconst (pc := 35) (v := 0) hx hb dX8_plainParts_35 (by decide) ?_
      refine lv_goto (pc := 36) (tgt := 42) hx hb dX8_plainParts_36 (by decide) ?_
      exact g_iret (pc := 42) E Y hr hk dX8_plainParts_42 hf
def f_X8_partsBy_53_L20 (x1 : Int32) (x2 : Int32) (σ : Mem) : Res := bd (f_X8_begins_53 21 σ) fun v3 μ4 => bd (f_X8_plainParts_53 x1 x2 μ4) fun v5 μ6 => nm (μ6 53 18) fun (v7 : Int32) => if v7 = 0 then (bd (f_X8_drops_53 x1 1 μ6) fun v8 μ9 => nm (v5 + v8) fun (v10 : Int32) => some (v10, μ9)) else (some (0, μ6))
def f_X8_partsBy_53 (a0 : Int32) (a1 : Int32) (σ : Mem) : Res := bd (f_X8_of_53 a0 0 σ) fun v1 μ2 => if v1 = 1 then (f_X8_partsBy_53_L20 a0 a1 μ2) else (bd (f_X8_of_53 a0 0 μ2) fun v11 μ12 => if v11 = 4 then (f_X8_partsBy_53_L20 a0 a1 μ12) else (bd (f_X8_plainParts_53 a0 a1 μ12) fun v13 μ14 => some (v13, μ14)))
set_option maxHeartbeats 4000000 in
set_option maxRecDepth 100000 in
theorem m_X8_partsBy_53 {l : Launch} {σ : Mem} {Z : Int32 × Mem} {a0 : Int32} {a1 : Int32} (hf : f_X8_partsBy_53 a0 a1 σ = some Z) : CT l yX8_partsBy cX8_partsBy 4 (some .int) 7 (fun ad => [.ref (ad 53), .int a0, .int a1]) σ Z := by
  refine g_openT RX8 (by decide) rfl (fun _ => Nat.le_of_ble_eq_true rfl) (fun p e s m below meth c D cI cB ad st ls E Y hr hk hl => ?_)
  have hx := E.1.1
  have hb := E.1.2.1
  have hl : lv_has ls 4 [(0, .ref (ad 53)), (1, .int a0), (2, .int a1)] := hl
  have hL_20 : ∀ (x1 : Int32) (x2 : Int32) (σ : Mem) (H : Heap) (locs : List Loc) (ls : Array Slot), f_X8_partsBy_53_L20 x1 x2 σ = some Z → Wo D cI cB ad (AA ad) σ s H locs → lv_has ls 4 [(0, .ref (ad 53)), (1, .int x1), (2, .int x2)] → W p l e (rmd 7) s m ([.ref (ad 53), .int a0, .int a1] : List Value).toArray below meth c H locs 0 0 (QT_ below D cI cB ad st Z ([.ref (ad 53), .int a0, .int a1] : List Value).toArray s) (F0 m 20 ls []) := by
    intro x1 x2 σ H locs ls hf Y hl
    unfold f_X8_partsBy_53_L20 at hf
    refine lv_aload_n (pc := 20) hx hb dX8_partsBy_20 rfl (lv_at hl 0 rfl) ?_
    refine lv_bipush (pc := 21) (v := 21) hx hb dX8_partsBy_21 (by decide) ?_
    refine g_callVv (pc := 23) E Y 53 S_53 V_8 o_X8_begins q_692 [.int 21] rfl rfl (hR_of (by omega) (by decide)) hl.1 (rest := []) rfl (Nat.le_of_ble_eq_true rfl) dX8_partsBy_23 (fun z hz => m_X8_begins_53 hz) hf (fun v3 μ4 H locs hf Y => ?_)
    refine lv_aload_n (pc := 26) hx hb dX8_partsBy_26 rfl (lv_at hl 0 rfl) ?_
    refine lv_iload_n (pc := 27) hx hb dX8_partsBy_27 rfl (lv_at hl 1 rfl) ?_
    refine lv_iload_n (pc := 28) hx hb dX8_partsBy_28 rfl (lv_at hl 2 rfl) ?_
    refine g_callVi (pc := 29) E Y 53 S_53 V_8 o_X8_plainParts q_700 [.int x1, .int x2] rfl rfl (hR_of (by omega) (by decide)) hl.1 (rest := []) rfl (Nat.le_of_ble_eq_true rfl) dX8_partsBy_29 (fun z hz => m_X8_plainParts_53 hz) hf (fun v5 μ6 H locs hf Y => ?_)
    refine lv_istore_n (pc := 32) (lv' := [(3, .int v5), (0, .ref (ad 53)), (1, .int x1), (2, .int x2)]) hx hb dX8_partsBy_32 rfl hl (by decide) rfl (fun ls hl => ?_)
    refine lv_aload_n (pc := 33) hx hb dX8_partsBy_33 rfl (lv_at hl 1 rfl) ?_
    refine g_geti (pc := 34) E Y 53 18 S_53 rfl V_8 (by decide) AL_X8 q_350 dX8_partsBy_34 hf (fun v7 hf => ?_)
    refine g_if_eq (pc := 37) (tgt := 44) E dX8_partsBy_37 (by decide) hf (fun hf => ?_) (fun hf => ?_)
    · refine lv_iload_n (pc := 44) hx hb dX8_partsBy_44 rfl (lv_at hl 0 rfl) ?_
      refine lv_aload_n (pc := 45) hx hb dX8_partsBy_45 rfl (lv_at hl 1 rfl) ?_
      refine lv_iload_n (pc := 46) hx hb dX8_partsBy_46 rfl (lv_at hl 2 rfl) ?_
      refine lv_iconst (pc := 47) (v := 1) hx hb dX8_partsBy_47 (by decide) ?_
      refine g_callVi (pc := 48) E Y 53 S_53 V_8 o_X8_drops q_698 [.int x1, .int 1] rfl rfl (hR_of (by omega) (by decide)) hl.1 (rest := [.int v5]) rfl (Nat.le_of_ble_eq_true rfl) dX8_partsBy_48 (fun z hz => m_X8_drops_53 hz) hf (fun v8 μ9 H locs hf Y => ?_)
      refine g_iadd (pc := 51) E dX8_partsBy_51 hf (fun v10 hf => ?_)
      exact g_iret (pc := 52) E Y hr hk dX8_partsBy_52 hf
    · refine lv_iconst (pc := 40) (v := 0) hx hb dX8_partsBy_40 (by decide) ?_
      refine lv_goto (pc := 41) (tgt := 52) hx hb dX8_partsBy_41 (by decide) ?_
      exact g_iret (pc := 52) E Y hr hk dX8_partsBy_52 hf
  unfold f_X8_partsBy_53 at hf
  refine lv_aload_n (pc := 0) hx hb dX8_partsBy_0 rfl (lv_at hl 0 rfl) ?_
  refine lv_iload_n (pc := 1) hx hb dX8_partsBy_1 rfl (lv_at hl 1 rfl) ?_
  refine lv_iconst (pc := 2) (v := 0) hx hb dX8_partsBy_2 (by decide) ?_
  refine g_callVi (pc := 3) E Y 53 S_53 V_8 o_X8_of q_708 [.int a0, .int 0] rfl rfl (hR_of (by omega) (by decide)) hl.1 (rest := []) rfl (Nat.le_of_ble_eq_true rfl) dX8_partsBy_3 (fun z hz => m_X8_of_53 hz) hf (fun v1 μ2 H locs hf Y => ?_)
  refine lv_iconst (pc := 6) (v := 1) hx hb dX8_partsBy_6 (by decide) ?_
  refine g_icmp_eq (pc := 7) (tgt := 20) E dX8_partsBy_7 (by decide) hf (fun hf => ?_) (fun hf => ?_)
  · exact hL_20 _ _ _ _ _ _ hf Y (lv_sub hl [0, 1, 2] rfl)
  · refine lv_aload_n (pc := 10) hx hb dX8_partsBy_10 rfl (lv_at hl 0 rfl) ?_
    refine lv_iload_n (pc := 11) hx hb dX8_partsBy_11 rfl (lv_at hl 1 rfl) ?_
    refine lv_iconst (pc := 12) (v := 0) hx hb dX8_partsBy_12 (by decide) ?_
    refine g_callVi (pc := 13) E Y 53 S_53 V_8 o_X8_of q_708 [.int a0, .int 0] rfl rfl (hR_of (by omega) (by decide)) hl.1 (rest := []) rfl (Nat.le_of_ble_eq_true rfl) dX8_partsBy_13 (fun z hz => m_X8_of_53 hz) hf (fun v11 μ12 H locs hf Y => ?_)
    refine lv_iconst (pc := 16) (v := 4) hx hb dX8_partsBy_16 (by decide) ?_
    refine g_icmp_ne (pc := 17) (tgt := 53) E dX8_partsBy_17 (by decide) hf (fun hf => ?_) (fun hf => ?_)
    · refine lv_aload_n (pc := 53) hx hb dX8_partsBy_53 rfl (lv_at hl 0 rfl) ?_
      refine lv_iload_n (pc := 54) hx hb dX8_partsBy_54 rfl (lv_at hl 1 rfl) ?_
      refine lv_iload_n (pc := 55) hx hb dX8_partsBy_55 rfl (lv_at hl 2 rfl) ?_
      refine g_callVi (pc := 56) E Y 53 S_53 V_8 o_X8_plainParts q_700 [.int a0, .int a1] rfl rfl (hR_of (by omega) (by decide)) hl.1 (rest := []) rfl (Nat.le_of_ble_eq_true rfl) dX8_partsBy_56 (fun z hz => m_X8_plainParts_53 hz) hf (fun v13 μ14 H locs hf Y => ?_)
      exact g_iret (pc := 59) E Y hr hk dX8_partsBy_59 hf
    · exact hL_20 _ _ _ _ _ _ hf Y (lv_sub hl [0, 1, 2] rfl)
def f_X8_voice_53 (a0 : Int32) (a1 : Int32) (a2 : Int32) (σ : Mem) : Res := bd (f_X8_isPitch_53 a0 σ) fun v1 μ2 => if v1 = 0 then (bd (f_X8_error_53 (-1000000001) μ2) fun v3 μ4 => some (v3, μ4)) else (bd (f_X8_in a1 0 3 μ2) fun v5 μ6 => if v5 = 0 then (bd (f_X8_error_53 (-1000000001) μ6) fun v29 μ30 => some (v29, μ30)) else (nm (mset μ6 53 17 0) fun (μ7 : Mem) => gb 0 <| nm (mset μ7 53 18 0) fun (μ8 : Mem) => if a1 = 0 then (bd (f_X8_hisses_53 a0 a2 μ8) fun v24 μ25 => nm (μ25 53 18) fun (v26 : Int32) => if v26 = 0 then (some (v24, μ25)) else (bd (f_X8_error_53 (-1000000006) μ25) fun v27 μ28 => some (v27, μ28))) else (if a1 = 1 then (bd (f_X8_drops_53 a0 a2 μ8) fun v19 μ20 => nm (μ20 53 18) fun (v21 : Int32) => if v21 = 0 then (some (v19, μ20)) else (bd (f_X8_error_53 (-1000000006) μ20) fun v22 μ23 => some (v22, μ23))) else (if a1 = 2 then (bd (f_X8_thuds_53 a0 a2 μ8) fun v14 μ15 => nm (μ15 53 18) fun (v16 : Int32) => if v16 = 0 then (some (v14, μ15)) else (bd (f_X8_error_53 (-1000000006) μ15) fun v17 μ18 => some (v17, μ18))) else (bd (f_X8_partsBy_53 a0 a2 μ8) fun v9 μ10 => nm (μ10 53 18) fun (v11 : Int32) => if v11 = 0 then (some (v9, μ10)) else (bd (f_X8_error_53 (-1000000006) μ10) fun v12 μ13 => some (v12, μ13)))))))
set_option maxHeartbeats 4000000 in
set_option maxRecDepth 100000 in
theorem m_X8_voice_53 {l : Launch} {σ : Mem} {Z : Int32 × Mem} {a0 : Int32} {a1 : Int32} {a2 : Int32} (hf : f_X8_voice_53 a0 a1 a2 σ = some Z) : CT l yX8_voice cX8_voice 5 (some .int) 9 (fun ad => [.ref (ad 53), .int a0, .int a1, .int a2]) σ Z := by
  refine g_openT RX8 (by decide) rfl (fun _ => Nat.le_of_ble_eq_true rfl) (fun p e s m below meth c D cI cB ad st ls E Y hr hk hl => ?_)
  have hx := E.1.1
  have hb := E.1.2.1
  have hl : lv_has ls 5 [(0, .ref (ad 53)), (1, .int a0), (2, .int a1), (3, .int a2)] := hl
  unfold f_X8_voice_53 at hf
  refine lv_aload_n (pc := 0) hx hb dX8_voice_0 rfl (lv_at hl 0 rfl) ?_
  refine lv_iload_n (pc := 1) hx hb dX8_voice_1 rfl (lv_at hl 1 rfl) ?_
  refine g_callVi (pc := 2) E Y 53 S_53 V_8 o_X8_isPitch q_717 [.int a0] rfl rfl (hR_of (by omega) (by decide)) hl.1 (rest := []) rfl (Nat.le_of_ble_eq_true rfl) dX8_voice_2 (fun z hz => m_X8_isPitch_53 hz) hf (fun v1 μ2 H locs hf Y => ?_)
  refine g_if_eq (pc := 5) (tgt := 17) E dX8_voice_5 (by decide) hf (fun hf => ?_) (fun hf => ?_)
  · refine lv_aload_n (pc := 17) hx hb dX8_voice_17 rfl (lv_at hl 0 rfl) ?_
    refine lv_ldc (pc := 18) (v := (-1000000001)) hx hb E.1.2.2.2.1 (E.1.2.2.2.2 _ q_238) dX8_voice_18 ?_
    refine g_callVi (pc := 20) E Y 53 S_53 V_8 o_X8_error q_716 [.int (-1000000001)] rfl rfl (hR_of (by omega) (by decide)) hl.1 (rest := []) rfl (Nat.le_of_ble_eq_true rfl) dX8_voice_20 (fun z hz => m_X8_error_53 hz) hf (fun v3 μ4 H locs hf Y => ?_)
    exact g_iret (pc := 23) E Y hr hk dX8_voice_23 hf
  · refine lv_iload_n (pc := 8) hx hb dX8_voice_8 rfl (lv_at hl 2 rfl) ?_
    refine lv_iconst (pc := 9) (v := 0) hx hb dX8_voice_9 (by decide) ?_
    refine lv_iconst (pc := 10) (v := 3) hx hb dX8_voice_10 (by decide) ?_
    refine g_callSi (pc := 11) E Y o_X8_in q_707 [.int a1, .int 0, .int 3] rfl rfl (hR_of (by omega) (by decide)) hl.1 (rest := []) rfl (Nat.le_of_ble_eq_true rfl) dX8_voice_11 (fun z hz => m_X8_in hz) hf (fun v5 μ6 H locs hf Y => ?_)
    refine g_if_ne (pc := 14) (tgt := 24) E dX8_voice_14 (by decide) hf (fun hf => ?_) (fun hf => ?_)
    · refine lv_aload_n (pc := 24) hx hb dX8_voice_24 rfl (lv_at hl 0 rfl) ?_
      refine lv_iconst (pc := 25) (v := 0) hx hb dX8_voice_25 (by decide) ?_
      refine g_put (pc := 26) E Y 53 17 S_53 rfl V_8 (by decide) AL_X8 tyX8 tyX8_ok nmX8 q_348 rfl rfl rfl dX8_voice_26 hf (fun μ7 H locs hf Y => ?_)
      refine lv_aload_n (pc := 29) hx hb dX8_voice_29 rfl (lv_at hl 0 rfl) ?_
      refine lv_iconst (pc := 30) (v := 0) hx hb dX8_voice_30 (by decide) ?_
      obtain ⟨h01, hf⟩ := gb_some hf
      refine g_put (pc := 31) E Y 53 18 S_53 rfl V_8 (by decide) AL_X8 tyX8 tyX8_ok nmX8 q_350 rfl (nar01 h01) (fit01 h01) dX8_voice_31 hf (fun μ8 H locs hf Y => ?_)
      refine lv_iload_n (pc := 34) hx hb dX8_voice_34 rfl (lv_at hl 2 rfl) ?_
      refine g_if_ne (pc := 35) (tgt := 47) E dX8_voice_35 (by decide) hf (fun hf => ?_) (fun hf => ?_)
      · refine lv_iload_n (pc := 47) hx hb dX8_voice_47 rfl (lv_at hl 2 rfl) ?_
        refine lv_iconst (pc := 48) (v := 1) hx hb dX8_voice_48 (by decide) ?_
        refine g_icmp_ne (pc := 49) (tgt := 61) E dX8_voice_49 (by decide) hf (fun hf => ?_) (fun hf => ?_)
        · refine lv_iload_n (pc := 61) hx hb dX8_voice_61 rfl (lv_at hl 2 rfl) ?_
          refine lv_iconst (pc := 62) (v := 2) hx hb dX8_voice_62 (by decide) ?_
          refine g_icmp_ne (pc := 63) (tgt := 75) E dX8_voice_63 (by decide) hf (fun hf => ?_) (fun hf => ?_)
          · refine lv_aload_n (pc := 75) hx hb dX8_voice_75 rfl (lv_at hl 0 rfl) ?_
            refine lv_iload_n (pc := 76) hx hb dX8_voice_76 rfl (lv_at hl 1 rfl) ?_
            refine lv_iload_n (pc := 77) hx hb dX8_voice_77 rfl (lv_at hl 3 rfl) ?_
            refine g_callVi (pc := 78) E Y 53 S_53 V_8 o_X8_partsBy q_702 [.int a0, .int a2] rfl rfl (hR_of (by omega) (by decide)) hl.1 (rest := []) rfl (Nat.le_of_ble_eq_true rfl) dX8_voice_78 (fun z hz => m_X8_partsBy_53 hz) hf (fun v9 μ10 H locs hf Y => ?_)
            refine lv_istore (pc := 81) (lv' := [(4, .int v9), (0, .ref (ad 53)), (1, .int a0), (2, .int a1), (3, .int a2)]) hx hb dX8_voice_81 hl (by decide) rfl (fun ls hl => ?_)
            refine lv_aload_n (pc := 83) hx hb dX8_voice_83 rfl (lv_at hl 1 rfl) ?_
            refine g_geti (pc := 84) E Y 53 18 S_53 rfl V_8 (by decide) AL_X8 q_350 dX8_voice_84 hf (fun v11 hf => ?_)
            refine g_if_eq (pc := 87) (tgt := 99) E dX8_voice_87 (by decide) hf (fun hf => ?_) (fun hf => ?_)
            · refine lv_iload (pc := 99) hx hb dX8_voice_99 (lv_at hl 0 rfl) ?_
              exact g_iret (pc := 101) E Y hr hk dX8_voice_101 hf
            · refine lv_aload_n (pc := 90) hx hb dX8_voice_90 rfl (lv_at hl 1 rfl) ?_
              refine lv_ldc (pc := 91) (v := (-1000000006)) hx hb E.1.2.2.2.1 (E.1.2.2.2.2 _ q_236) dX8_voice_91 ?_
              refine g_callVi (pc := 93) E Y 53 S_53 V_8 o_X8_error q_716 [.int (-1000000006)] rfl rfl (hR_of (by omega) (by decide)) hl.1 (rest := []) rfl (Nat.le_of_ble_eq_true rfl) dX8_voice_93 (fun z hz => m_X8_error_53 hz) hf (fun v12 μ13 H locs hf Y => ?_)
              refine lv_goto (pc := 96) (tgt := 101) hx hb dX8_voice_96 (by decide) ?_
              exact g_iret (pc := 101) E Y hr hk dX8_voice_101 hf
          · refine lv_aload_n (pc := 66) hx hb dX8_voice_66 rfl (lv_at hl 0 rfl) ?_
            refine lv_iload_n (pc := 67) hx hb dX8_voice_67 rfl (lv_at hl 1 rfl) ?_
            refine lv_iload_n (pc := 68) hx hb dX8_voice_68 rfl (lv_at hl 3 rfl) ?_
            refine g_callVi (pc := 69) E Y 53 S_53 V_8 o_X8_thuds q_701 [.int a0, .int a2] rfl rfl (hR_of (by omega) (by decide)) hl.1 (rest := []) rfl (Nat.le_of_ble_eq_true rfl) dX8_voice_69 (fun z hz => m_X8_thuds_53 hz) hf (fun v14 μ15 H locs hf Y => ?_)
            refine lv_goto (pc := 72) (tgt := 81) hx hb dX8_voice_72 (by decide) ?_
            refine lv_istore (pc := 81) (lv' := [(4, .int v14), (0, .ref (ad 53)), (1, .int a0), (2, .int a1), (3, .int a2)]) hx hb dX8_voice_81 hl (by decide) rfl (fun ls hl => ?_)
            refine lv_aload_n (pc := 83) hx hb dX8_voice_83 rfl (lv_at hl 1 rfl) ?_
            refine g_geti (pc := 84) E Y 53 18 S_53 rfl V_8 (by decide) AL_X8 q_350 dX8_voice_84 hf (fun v16 hf => ?_)
            refine g_if_eq (pc := 87) (tgt := 99) E dX8_voice_87 (by decide) hf (fun hf => ?_) (fun hf => ?_)
            · refine lv_iload (pc := 99) hx hb dX8_voice_99 (lv_at hl 0 rfl) ?_
              exact g_iret (pc := 101) E Y hr hk dX8_voice_101 hf
            · refine lv_aload_n (pc := 90) hx hb dX8_voice_90 rfl (lv_at hl 1 rfl) ?_
              refine lv_ldc (pc := 91) (v := (-1000000006)) hx hb E.1.2.2.2.1 (E.1.2.2.2.2 _ q_236) dX8_voice_91 ?_
              refine g_callVi (pc := 93) E Y 53 S_53 V_8 o_X8_error q_716 [.int (-1000000006)] rfl rfl (hR_of (by omega) (by decide)) hl.1 (rest := []) rfl (Nat.le_of_ble_eq_true rfl) dX8_voice_93 (fun z hz => m_X8_error_53 hz) hf (fun v17 μ18 H locs hf Y => ?_)
              refine lv_goto (pc := 96) (tgt := 101) hx hb dX8_voice_96 (by decide) ?_
              exact g_iret (pc := 101) E Y hr hk dX8_voice_101 hf
        · refine lv_aload_n (pc := 52) hx hb dX8_voice_52 rfl (lv_at hl 0 rfl) ?_
          refine lv_iload_n (pc := 53) hx hb dX8_voice_53 rfl (lv_at hl 1 rfl) ?_
          refine lv_iload_n (pc := 54) hx hb dX8_voice_54 rfl (lv_at hl 3 rfl) ?_
          refine g_callVi (pc := 55) E Y 53 S_53 V_8 o_X8_drops q_698 [.int a0, .int a2] rfl rfl (hR_of (by omega) (by decide)) hl.1 (rest := []) rfl (Nat.le_of_ble_eq_true rfl) dX8_voice_55 (fun z hz => m_X8_drops_53 hz) hf (fun v19 μ20 H locs hf Y => ?_)
          refine lv_goto (pc := 58) (tgt := 81) hx hb dX8_voice_58 (by decide) ?_
          refine lv_istore (pc := 81) (lv' := [(4, .int v19), (0, .ref (ad 53)), (1, .int a0), (2, .int a1), (3, .int a2)]) hx hb dX8_voice_81 hl (by decide) rfl (fun ls hl => ?_)
          refine lv_aload_n (pc := 83) hx hb dX8_voice_83 rfl (lv_at hl 1 rfl) ?_
          refine g_geti (pc := 84) E Y 53 18 S_53 rfl V_8 (by decide) AL_X8 q_350 dX8_voice_84 hf (fun v21 hf => ?_)
          refine g_if_eq (pc := 87) (tgt := 99) E dX8_voice_87 (by decide) hf (fun hf => ?_) (fun hf => ?_)
          · refine lv_iload (pc := 99) hx hb dX8_voice_99 (lv_at hl 0 rfl) ?_
            exact g_iret (pc := 101) E Y hr hk dX8_voice_101 hf
          · refine lv_aload_n (pc := 90) hx hb dX8_voice_90 rfl (lv_at hl 1 rfl) ?_
            refine lv_ldc (pc := 91) (v := (-1000000006)) hx hb E.1.2.2.2.1 (E.1.2.2.2.2 _ q_236) dX8_voice_91 ?_
            refine g_callVi (pc := 93) E Y 53 S_53 V_8 o_X8_error q_716 [.int (-1000000006)] rfl rfl (hR_of (by omega) (by decide)) hl.1 (rest := []) rfl (Nat.le_of_ble_eq_true rfl) dX8_voice_93 (fun z hz => m_X8_error_53 hz) hf (fun v22 μ23 H locs hf Y => ?_)
            refine lv_goto (pc := 96) (tgt := 101) hx hb dX8_voice_96 (by decide) ?_
            exact g_iret (pc := 101) E Y hr hk dX8_voice_101 hf
      · refine lv_aload_n (pc := 38) hx hb dX8_voice_38 rfl (lv_at hl 0 rfl) ?_
        refine lv_iload_n (pc := 39) hx hb dX8_voice_39 rfl (lv_at hl 1 rfl) ?_
        refine lv_iload_n (pc := 40) hx hb dX8_voice_40 rfl (lv_at hl 3 rfl) ?_
        refine g_callVi (pc := 41) E Y 53 S_53 V_8 o_X8_hisses q_695 [.int a0, .int a2] rfl rfl (hR_of (by omega) (by decide)) hl.1 (rest := []) rfl (Nat.le_of_ble_eq_true rfl) dX8_voice_41 (fun z hz => m_X8_hisses_53 hz) hf (fun v24 μ25 H locs hf Y => ?_)
        refine lv_goto (pc := 44) (tgt := 81) hx hb dX8_voice_44 (by decide) ?_
        refine lv_istore (pc := 81) (lv' := [(4, .int v24), (0, .ref (ad 53)), (1, .int a0), (2, .int a1), (3, .int a2)]) hx hb dX8_voice_81 hl (by decide) rfl (fun ls hl => ?_)
        refine lv_aload_n (pc := 83) hx hb dX8_voice_83 rfl (lv_at hl 1 rfl) ?_
        refine g_geti (pc := 84) E Y 53 18 S_53 rfl V_8 (by decide) AL_X8 q_350 dX8_voice_84 hf (fun v26 hf => ?_)
        refine g_if_eq (pc := 87) (tgt := 99) E dX8_voice_87 (by decide) hf (fun hf => ?_) (fun hf => ?_)
        · refine lv_iload (pc := 99) hx hb dX8_voice_99 (lv_at hl 0 rfl) ?_
          exact g_iret (pc := 101) E Y hr hk dX8_voice_101 hf
        · refine lv_aload_n (pc := 90) hx hb dX8_voice_90 rfl (lv_at hl 1 rfl) ?_
          refine lv_ldc (pc := 91) (v := (-1000000006)) hx hb E.1.2.2.2.1 (E.1.2.2.2.2 _ q_236) dX8_voice_91 ?_
          refine g_callVi (pc := 93) E Y 53 S_53 V_8 o_X8_error q_716 [.int (-1000000006)] rfl rfl (hR_of (by omega) (by decide)) hl.1 (rest := []) rfl (Nat.le_of_ble_eq_true rfl) dX8_voice_93 (fun z hz => m_X8_error_53 hz) hf (fun v27 μ28 H locs hf Y => ?_)
          refine lv_goto (pc := 96) (tgt := 101) hx hb dX8_voice_96 (by decide) ?_
          exact g_iret (pc := 101) E Y hr hk dX8_voice_101 hf
    · refine lv_aload_n (pc := 17) hx hb dX8_voice_17 rfl (lv_at hl 0 rfl) ?_
      refine lv_ldc (pc := 18) (v := (-1000000001)) hx hb E.1.2.2.2.1 (E.1.2.2.2.2 _ q_238) dX8_voice_18 ?_
      refine g_callVi (pc := 20) E Y 53 S_53 V_8 o_X8_error q_716 [.int (-1000000001)] rfl rfl (hR_of (by omega) (by decide)) hl.1 (rest := []) rfl (Nat.le_of_ble_eq_true rfl) dX8_voice_20 (fun z hz => m_X8_error_53 hz) hf (fun v29 μ30 H locs hf Y => ?_)
      exact g_iret (pc := 23) E Y hr hk dX8_voice_23 hf
def f_X8_body_53 (a0 : Int32) (σ : Mem) : Res := nm (σ 53 17) fun (v1 : Int32) => nm (v1 - 1) fun (v2 : Int32) => bd (f_X8_in a0 0 v2 σ) fun v3 μ4 => if v3 = 0 then (bd (f_X8_error_53 (-1000000002) μ4) fun v5 μ6 => some (v5, μ6)) else (gi a0 30 <| nm (μ4 64 a0.toNatClampNeg) fun (v7 : Int32) => some (v7, μ4))
set_option maxHeartbeats 4000000 in
set_option maxRecDepth 100000 in
theorem m_X8_body_53 {l : Launch} {σ : Mem} {Z : Int32 × Mem} {a0 : Int32} (hf : f_X8_body_53 a0 σ = some Z) : CT l yX8_body cX8_body 2 (some .int) 1 (fun ad => [.ref (ad 53), .int a0]) σ Z := by
  refine g_openT RX8 (by decide) rfl (fun _ => Nat.le_of_ble_eq_true rfl) (fun p e s m below meth c D cI cB ad st ls E Y hr hk hl => ?_)
  have hx := E.1.1
  have hb := E.1.2.1
  have hl : lv_has ls 2 [(0, .ref (ad 53)), (1, .int a0)] := hl
  unfold f_X8_body_53 at hf
  refine lv_iload_n (pc := 0) hx hb dX8_body_0 rfl (lv_at hl 1 rfl) ?_
  refine lv_iconst (pc := 1) (v := 0) hx hb dX8_body_1 (by decide) ?_
  refine lv_aload_n (pc := 2) hx hb dX8_body_2 rfl (lv_at hl 0 rfl) ?_
  refine g_geti (pc := 3) E Y 53 17 S_53 rfl V_8 (by decide) AL_X8 q_348 dX8_body_3 hf (fun v1 hf => ?_)
  refine lv_iconst (pc := 6) (v := 1) hx hb dX8_body_6 (by decide) ?_
  refine g_isub (pc := 7) E dX8_body_7 hf (fun v2 hf => ?_)
  refine g_callSi (pc := 8) E Y o_X8_in q_707 [.int a0, .int 0, .int v2] rfl rfl (hR_of (by omega) (by decide)) hl.1 (rest := []) rfl (Nat.le_of_ble_eq_true rfl) dX8_body_8 (fun z hz => m_X8_in hz) hf (fun v3 μ4 H locs hf Y => ?_)
  refine g_if_eq (pc := 11) (tgt := 23) E dX8_body_11 (by decide) hf (fun hf => ?_) (fun hf => ?_)
  · refine lv_aload_n (pc := 23) hx hb dX8_body_23 rfl (lv_at hl 0 rfl) ?_
    refine lv_ldc (pc := 24) (v := (-1000000002)) hx hb E.1.2.2.2.1 (E.1.2.2.2.2 _ q_233) dX8_body_24 ?_
    refine g_callVi (pc := 26) E Y 53 S_53 V_8 o_X8_error q_716 [.int (-1000000002)] rfl rfl (hR_of (by omega) (by decide)) hl.1 (rest := []) rfl (Nat.le_of_ble_eq_true rfl) dX8_body_26 (fun z hz => m_X8_error_53 hz) hf (fun v5 μ6 H locs hf Y => ?_)
    exact g_iret (pc := 29) E Y hr hk dX8_body_29 hf
  · refine lv_aload_n (pc := 14) hx hb dX8_body_14 rfl (lv_at hl 0 rfl) ?_
    refine g_getr (pc := 15) E Y 53 16 64 S_53 rfl V_8 (by decide) AL_X8 q_357 dX8_body_15 ?_
    refine lv_iload_n (pc := 18) hx hb dX8_body_18 rfl (lv_at hl 1 rfl) ?_
    refine g_iald (pc := 19) E Y 64 S_64 dX8_body_19 hf (fun v7 hf => ?_)
    refine lv_goto (pc := 20) (tgt := 29) hx hb dX8_body_20 (by decide) ?_
    exact g_iret (pc := 29) E Y hr hk dX8_body_29 hf
def fb_X8_sheet_53_L93 (bk : Int32 → Int32 → Mem → Res) (x1 : Int32) (x4 : Int32) (σ : Mem) : Res := if 24 ≤ x4 then (some (1, σ)) else (nm (24 * x1) fun (v7 : Int32) => nm (v7 + x4) fun (v8 : Int32) => gi v8 96 <| nm (mset σ 59 v8.toNatClampNeg 0) fun (μ9 : Mem) => nm (x4 + 1) fun (v10 : Int32) => bk x1 v10 μ9)
def f_X8_sheet_53_L93 : Nat → Int32 → Int32 → Mem → Res
  | 0, _, _, _ => none
  | n + 1, x1, x4, σ => fb_X8_sheet_53_L93 (f_X8_sheet_53_L93 n) x1 x4 σ
def f_X8_sheet_53_L68 (x1 : Int32) (x2 : Int32) (x3 : Int32) (σ : Mem) : Res := gi x1 4 <| nm (mset σ 57 x1.toNatClampNeg x2) fun (μ5 : Mem) => if x2 = 0 then (gi x1 4 <| nm (mset μ5 58 x1.toNatClampNeg 0) fun (μ11 : Mem) => f_X8_sheet_53_L93 1000 x1 0 μ11) else (gi x1 4 <| nm (mset μ5 58 x1.toNatClampNeg x3) fun (μ6 : Mem) => f_X8_sheet_53_L93 1000 x1 0 μ6)
def f_X8_sheet_53_L51 (x1 : Int32) (x2 : Int32) (x3 : Int32) (σ : Mem) : Res := if x2 ≤ 0 then (f_X8_sheet_53_L68 x1 x2 x3 σ) else (if x3 ≤ 24 then (f_X8_sheet_53_L68 x1 x2 x3 σ) else (bd (f_X8_error_53 (-1000000001) σ) fun v12 μ13 => some (v12, μ13)))
def f_X8_sheet_53_L36 (x1 : Int32) (x2 : Int32) (x3 : Int32) (σ : Mem) : Res := if x2 ≤ 0 then (f_X8_sheet_53_L51 x1 x2 x3 σ) else (if 0 ≤ x3 then (f_X8_sheet_53_L51 x1 x2 x3 σ) else (bd (f_X8_error_53 (-1000000003) σ) fun v14 μ15 => some (v14, μ15)))
def f_X8_sheet_53 (a0 : Int32) (a1 : Int32) (a2 : Int32) (σ : Mem) : Res := bd (f_X8_isSheet a0 σ) fun v1 μ2 => if v1 = 0 then (bd (f_X8_error_53 (-1000000001) μ2) fun v3 μ4 => some (v3, μ4)) else (if a1 = 0 then (f_X8_sheet_53_L36 a0 a1 a2 μ2) else (if a1 = 8 then (f_X8_sheet_53_L36 a0 a1 a2 μ2) else (if a1 = 16 then (f_X8_sheet_53_L36 a0 a1 a2 μ2) else (if a1 = 32 then (f_X8_sheet_53_L36 a0 a1 a2 μ2) else (bd (f_X8_error_53 (-1000000001) μ2) fun v16 μ17 => some (v16, μ17))))))
set_option maxHeartbeats 4000000 in
set_option maxRecDepth 100000 in
theorem m_X8_sheet_53 {l : Launch} {σ : Mem} {Z : Int32 × Mem} {a0 : Int32} {a1 : Int32} {a2 : Int32} (hf : f_X8_sheet_53 a0 a1 a2 σ = some Z) : CT l yX8_sheet cX8_sheet 5 (some .int) 2 (fun ad => [.ref (ad 53), .int a0, .int a1, .int a2]) σ Z := by
  refine g_openT RX8 (by decide) rfl (fun _ => Nat.le_of_ble_eq_true rfl) (fun p e s m below meth c D cI cB ad st ls E Y hr hk hl => ?_)
  have hx := E.1.1
  have hb := E.1.2.1
  have hl : lv_has ls 5 [(0, .ref (ad 53)), (1, .int a0), (2, .int a1), (3, .int a2)] := hl
  have hL_93 : ∀ (n : Nat) (x1 : Int32) (x4 : Int32) (σ : Mem) (H : Heap) (locs : List Loc) (ls : Array Slot), f_X8_sheet_53_L93 n x1 x4 σ = some Z → Wo D cI cB ad (AA ad) σ s H locs → lv_has ls 5 [(0, .ref (ad 53)), (1, .int x1), (4, .int x4)] → W p l e (rmd 2) s m ([.ref (ad 53), .int a0, .int a1, .int a2] : List Value).toArray below meth c H locs 0 0 (QT_ below D cI cB ad st Z ([.ref (ad 53), .int a0, .int a1, .int a2] : List Value).toArray s) (F0 m 93 ls []) := by
    intro n
    induction n with
    | zero =>
      intro x1 x4 σ H locs ls hf
      cases (show (none : Res) = some Z from hf)
    | succ n ih =>
      intro x1 x4 σ H locs ls hf Y hl
      have hf : fb_X8_sheet_53_L93 (f_X8_sheet_53_L93 n) x1 x4 σ = some Z := hf
      unfold fb_X8_sheet_53_L93 at hf
      refine lv_iload (pc := 93) hx hb dX8_sheet_93 (lv_at hl 2 rfl) ?_
      refine lv_bipush (pc := 95) (v := 24) hx hb dX8_sheet_95 (by decide) ?_
      refine g_icmp_ge (pc := 97) (tgt := 119) E dX8_sheet_97 (by decide) hf (fun hf => ?_) (fun hf => ?_)
      · refine lv_iconst (pc := 119) (v := 1) hx hb dX8_sheet_119 (by decide) ?_
        exact g_iret (pc := 120) E Y hr hk dX8_sheet_120 hf
      · refine lv_aload_n (pc := 100) hx hb dX8_sheet_100 rfl (lv_at hl 0 rfl) ?_
        refine g_getr (pc := 101) E Y 53 6 59 S_53 rfl V_8 (by decide) AL_X8 q_351 dX8_sheet_101 ?_
        refine lv_bipush (pc := 104) (v := 24) hx hb dX8_sheet_104 (by decide) ?_
        refine lv_iload_n (pc := 106) hx hb dX8_sheet_106 rfl (lv_at hl 1 rfl) ?_
        refine g_imul (pc := 107) E dX8_sheet_107 hf (fun v7 hf => ?_)
        refine lv_iload (pc := 108) hx hb dX8_sheet_108 (lv_at hl 2 rfl) ?_
        refine g_iadd (pc := 110) E dX8_sheet_110 hf (fun v8 hf => ?_)
        refine lv_iconst (pc := 111) (v := 0) hx hb dX8_sheet_111 (by decide) ?_
        refine g_iast (pc := 112) E Y 59 S_59 dX8_sheet_112 hf (fun μ9 H locs hf Y => ?_)
        refine g_iinc (pc := 113) E (fun v10 => [(4, .int v10), (0, .ref (ad 53)), (1, .int x1)]) dX8_sheet_113 hl (k := 2) rfl (t := 1) (by decide) (by decide) (fun _ => rfl) hf (fun v10 hf ls hl => ?_)
        refine lv_goto (pc := 116) (tgt := 93) hx hb dX8_sheet_116 (by decide) ?_
        exact ih _ _ _ _ _ _ hf Y (lv_sub hl [1, 2, 0] rfl)
  have hL_68 : ∀ (x1 : Int32) (x2 : Int32) (x3 : Int32) (σ : Mem) (H : Heap) (locs : List Loc) (ls : Array Slot), f_X8_sheet_53_L68 x1 x2 x3 σ = some Z → Wo D cI cB ad (AA ad) σ s H locs → lv_has ls 5 [(0, .ref (ad 53)), (1, .int x1), (2, .int x2), (3, .int x3)] → W p l e (rmd 2) s m ([.ref (ad 53), .int a0, .int a1, .int a2] : List Value).toArray below meth c H locs 0 0 (QT_ below D cI cB ad st Z ([.ref (ad 53), .int a0, .int a1, .int a2] : List Value).toArray s) (F0 m 68 ls []) := by
    intro x1 x2 x3 σ H locs ls hf Y hl
    unfold f_X8_sheet_53_L68 at hf
    refine lv_aload_n (pc := 68) hx hb dX8_sheet_68 rfl (lv_at hl 0 rfl) ?_
    refine g_getr (pc := 69) E Y 53 4 57 S_53 rfl V_8 (by decide) AL_X8 q_347 dX8_sheet_69 ?_
    refine lv_iload_n (pc := 72) hx hb dX8_sheet_72 rfl (lv_at hl 1 rfl) ?_
    refine lv_iload_n (pc := 73) hx hb dX8_sheet_73 rfl (lv_at hl 2 rfl) ?_
    refine g_iast (pc := 74) E Y 57 S_57 dX8_sheet_74 hf (fun μ5 H locs hf Y => ?_)
    refine lv_aload_n (pc := 75) hx hb dX8_sheet_75 rfl (lv_at hl 0 rfl) ?_
    refine g_getr (pc := 76) E Y 53 5 58 S_53 rfl V_8 (by decide) AL_X8 q_349 dX8_sheet_76 ?_
    refine lv_iload_n (pc := 79) hx hb dX8_sheet_79 rfl (lv_at hl 1 rfl) ?_
    refine lv_iload_n (pc := 80) hx hb dX8_sheet_80 rfl (lv_at hl 2 rfl) ?_
    refine g_if_ne (pc := 81) (tgt := 88) E dX8_sheet_81 (by decide) hf (fun hf => ?_) (fun hf => ?_)
    · refine lv_iload_n (pc := 88) hx hb dX8_sheet_88 rfl (lv_at hl 3 rfl) ?_
      refine g_iast (pc := 89) E Y 58 S_58 dX8_sheet_89 hf (fun μ6 H locs hf Y => ?_)
      refine lv_iconst (pc := 90) (v := 0) hx hb dX8_sheet_90 (by decide) ?_
      refine lv_istore (pc := 91) (lv' := [(4, .int 0), (0, .ref (ad 53)), (1, .int x1), (2, .int x2), (3, .int x3)]) hx hb dX8_sheet_91 hl (by decide) rfl (fun ls hl => ?_)
      exact hL_93 1000 _ _ _ _ _ _ hf Y (lv_sub hl [1, 2, 0] rfl)
    · refine lv_iconst (pc := 84) (v := 0) hx hb dX8_sheet_84 (by decide) ?_
      refine lv_goto (pc := 85) (tgt := 89) hx hb dX8_sheet_85 (by decide) ?_
      refine g_iast (pc := 89) E Y 58 S_58 dX8_sheet_89 hf (fun μ11 H locs hf Y => ?_)
      refine lv_iconst (pc := 90) (v := 0) hx hb dX8_sheet_90 (by decide) ?_
      refine lv_istore (pc := 91) (lv' := [(4, .int 0), (0, .ref (ad 53)), (1, .int x1), (2, .int x2), (3, .int x3)]) hx hb dX8_sheet_91 hl (by decide) rfl (fun ls hl => ?_)
      exact hL_93 1000 _ _ _ _ _ _ hf Y (lv_sub hl [1, 2, 0] rfl)
  have hL_51 : ∀ (x1 : Int32) (x2 : Int32) (x3 : Int32) (σ : Mem) (H : Heap) (locs : List Loc) (ls : Array Slot), f_X8_sheet_53_L51 x1 x2 x3 σ = some Z → Wo D cI cB ad (AA ad) σ s H locs → lv_has ls 5 [(0, .ref (ad 53)), (1, .int x1), (2, .int x2), (3, .int x3)] → W p l e (rmd 2) s m ([.ref (ad 53), .int a0, .int a1, .int a2] : List Value).toArray below meth c H locs 0 0 (QT_ below D cI cB ad st Z ([.ref (ad 53), .int a0, .int a1, .int a2] : List Value).toArray s) (F0 m 51 ls []) := by
    intro x1 x2 x3 σ H locs ls hf Y hl
    unfold f_X8_sheet_53_L51 at hf
    refine lv_iload_n (pc := 51) hx hb dX8_sheet_51 rfl (lv_at hl 2 rfl) ?_
    refine g_if_le (pc := 52) (tgt := 68) E dX8_sheet_52 (by decide) hf (fun hf => ?_) (fun hf => ?_)
    · exact hL_68 _ _ _ _ _ _ _ hf Y (lv_sub hl [0, 1, 2, 3] rfl)
    · refine lv_iload_n (pc := 55) hx hb dX8_sheet_55 rfl (lv_at hl 3 rfl) ?_
      refine lv_bipush (pc := 56) (v := 24) hx hb dX8_sheet_56 (by decide) ?_
      refine g_icmp_le (pc := 58) (tgt := 68) E dX8_sheet_58 (by decide) hf (fun hf => ?_) (fun hf => ?_)
      · exact hL_68 _ _ _ _ _ _ _ hf Y (lv_sub hl [0, 1, 2, 3] rfl)
      · refine lv_aload_n (pc := 61) hx hb dX8_sheet_61 rfl (lv_at hl 0 rfl) ?_
        refine lv_ldc (pc := 62) (v := (-1000000001)) hx hb E.1.2.2.2.1 (E.1.2.2.2.2 _ q_238) dX8_sheet_62 ?_
        refine g_callVi (pc := 64) E Y 53 S_53 V_8 o_X8_error q_716 [.int (-1000000001)] rfl rfl (hR_of (by omega) (by decide)) hl.1 (rest := []) rfl (Nat.le_of_ble_eq_true rfl) dX8_sheet_64 (fun z hz => m_X8_error_53 hz) hf (fun v12 μ13 H locs hf Y => ?_)
        exact g_iret (pc := 67) E Y hr hk dX8_sheet_67 hf
  have hL_36 : ∀ (x1 : Int32) (x2 : Int32) (x3 : Int32) (σ : Mem) (H : Heap) (locs : List Loc) (ls : Array Slot), f_X8_sheet_53_L36 x1 x2 x3 σ = some Z → Wo D cI cB ad (AA ad) σ s H locs → lv_has ls 5 [(0, .ref (ad 53)), (1, .int x1), (2, .int x2), (3, .int x3)] → W p l e (rmd 2) s m ([.ref (ad 53), .int a0, .int a1, .int a2] : List Value).toArray below meth c H locs 0 0 (QT_ below D cI cB ad st Z ([.ref (ad 53), .int a0, .int a1, .int a2] : List Value).toArray s) (F0 m 36 ls []) := by
    intro x1 x2 x3 σ H locs ls hf Y hl
    unfold f_X8_sheet_53_L36 at hf
    refine lv_iload_n (pc := 36) hx hb dX8_sheet_36 rfl (lv_at hl 2 rfl) ?_
    refine g_if_le (pc := 37) (tgt := 51) E dX8_sheet_37 (by decide) hf (fun hf => ?_) (fun hf => ?_)
    · exact hL_51 _ _ _ _ _ _ _ hf Y (lv_sub hl [0, 1, 2, 3] rfl)
    · refine lv_iload_n (pc := 40) hx hb dX8_sheet_40 rfl (lv_at hl 3 rfl) ?_
      refine g_if_ge (pc := 41) (tgt := 51) E dX8_sheet_41 (by decide) hf (fun hf => ?_) (fun hf => ?_)
      · exact hL_51 _ _ _ _ _ _ _ hf Y (lv_sub hl [0, 1, 2, 3] rfl)
      · refine lv_aload_n (pc := 44) hx hb dX8_sheet_44 rfl (lv_at hl 0 rfl) ?_
        refine lv_ldc (pc := 45) (v := (-1000000003)) hx hb E.1.2.2.2.1 (E.1.2.2.2.2 _ q_234) dX8_sheet_45 ?_
        refine g_callVi (pc := 47) E Y 53 S_53 V_8 o_X8_error q_716 [.int (-1000000003)] rfl rfl (hR_of (by omega) (by decide)) hl.1 (rest := []) rfl (Nat.le_of_ble_eq_true rfl) dX8_sheet_47 (fun z hz => m_X8_error_53 hz) hf (fun v14 μ15 H locs hf Y => ?_)
        exact g_iret (pc := 50) E Y hr hk dX8_sheet_50 hf
  unfold f_X8_sheet_53 at hf
  refine lv_iload_n (pc := 0) hx hb dX8_sheet_0 rfl (lv_at hl 1 rfl) ?_
  refine g_callSi (pc := 1) E Y o_X8_isSheet q_688 [.int a0] rfl rfl (hR_of (by omega) (by decide)) hl.1 (rest := []) rfl (Nat.le_of_ble_eq_true rfl) dX8_sheet_1 (fun z hz => m_X8_isSheet hz) hf (fun v1 μ2 H locs hf Y => ?_)
  refine g_if_eq (pc := 4) (tgt := 29) E dX8_sheet_4 (by decide) hf (fun hf => ?_) (fun hf => ?_)
  · refine lv_aload_n (pc := 29) hx hb dX8_sheet_29 rfl (lv_at hl 0 rfl) ?_
    refine lv_ldc (pc := 30) (v := (-1000000001)) hx hb E.1.2.2.2.1 (E.1.2.2.2.2 _ q_238) dX8_sheet_30 ?_
    refine g_callVi (pc := 32) E Y 53 S_53 V_8 o_X8_error q_716 [.int (-1000000001)] rfl rfl (hR_of (by omega) (by decide)) hl.1 (rest := []) rfl (Nat.le_of_ble_eq_true rfl) dX8_sheet_32 (fun z hz => m_X8_error_53 hz) hf (fun v3 μ4 H locs hf Y => ?_)
    exact g_iret (pc := 35) E Y hr hk dX8_sheet_35 hf
  · refine lv_iload_n (pc := 7) hx hb dX8_sheet_7 rfl (lv_at hl 2 rfl) ?_
    refine g_if_eq (pc := 8) (tgt := 36) E dX8_sheet_8 (by decide) hf (fun hf => ?_) (fun hf => ?_)
    · exact hL_36 _ _ _ _ _ _ _ hf Y (lv_sub hl [0, 1, 2, 3] rfl)
    · refine lv_iload_n (pc := 11) hx hb dX8_sheet_11 rfl (lv_at hl 2 rfl) ?_
      refine lv_bipush (pc := 12) (v := 8) hx hb dX8_sheet_12 (by decide) ?_
      refine g_icmp_eq (pc := 14) (tgt := 36) E dX8_sheet_14 (by decide) hf (fun hf => ?_) (fun hf => ?_)
      · exact hL_36 _ _ _ _ _ _ _ hf Y (lv_sub hl [0, 1, 2, 3] rfl)
      · refine lv_iload_n (pc := 17) hx hb dX8_sheet_17 rfl (lv_at hl 2 rfl) ?_
        refine lv_bipush (pc := 18) (v := 16) hx hb dX8_sheet_18 (by decide) ?_
        refine g_icmp_eq (pc := 20) (tgt := 36) E dX8_sheet_20 (by decide) hf (fun hf => ?_) (fun hf => ?_)
        · exact hL_36 _ _ _ _ _ _ _ hf Y (lv_sub hl [0, 1, 2, 3] rfl)
        · refine lv_iload_n (pc := 23) hx hb dX8_sheet_23 rfl (lv_at hl 2 rfl) ?_
          refine lv_bipush (pc := 24) (v := 32) hx hb dX8_sheet_24 (by decide) ?_
          refine g_icmp_eq (pc := 26) (tgt := 36) E dX8_sheet_26 (by decide) hf (fun hf => ?_) (fun hf => ?_)
          · exact hL_36 _ _ _ _ _ _ _ hf Y (lv_sub hl [0, 1, 2, 3] rfl)
          · refine lv_aload_n (pc := 29) hx hb dX8_sheet_29 rfl (lv_at hl 0 rfl) ?_
            refine lv_ldc (pc := 30) (v := (-1000000001)) hx hb E.1.2.2.2.1 (E.1.2.2.2.2 _ q_238) dX8_sheet_30 ?_
            refine g_callVi (pc := 32) E Y 53 S_53 V_8 o_X8_error q_716 [.int (-1000000001)] rfl rfl (hR_of (by omega) (by decide)) hl.1 (rest := []) rfl (Nat.le_of_ble_eq_true rfl) dX8_sheet_32 (fun z hz => m_X8_error_53 hz) hf (fun v16 μ17 H locs hf Y => ?_)
            exact g_iret (pc := 35) E Y hr hk dX8_sheet_35 hf
def f_X8_notThere_53 (a0 : Int32) (σ : Mem) : Res := bd (f_X8_isSheet a0 σ) fun v1 μ2 => if v1 = 0 then (some ((-1000000001), μ2)) else (gi a0 4 <| nm (μ2 57 a0.toNatClampNeg) fun (v3 : Int32) => if v3 = 0 then (some ((-1000000002), μ2)) else (some (0, μ2)))
set_option maxHeartbeats 4000000 in
set_option maxRecDepth 100000 in
theorem m_X8_notThere_53 {l : Launch} {σ : Mem} {Z : Int32 × Mem} {a0 : Int32} (hf : f_X8_notThere_53 a0 σ = some Z) : CT l yX8_notThere cX8_notThere 2 (some .int) 2 (fun ad => [.ref (ad 53), .int a0]) σ Z := by
  refine g_openT RX8 (by decide) rfl (fun _ => Nat.le_of_ble_eq_true rfl) (fun p e s m below meth c D cI cB ad st ls E Y hr hk hl => ?_)
  have hx := E.1.1
  have hb := E.1.2.1
  have hl : lv_has ls 2 [(0, .ref (ad 53)), (1, .int a0)] := hl
  unfold f_X8_notThere_53 at hf
  refine lv_iload_n (pc := 0) hx hb dX8_notThere_0 rfl (lv_at hl 1 rfl) ?_
  refine g_callSi (pc := 1) E Y o_X8_isSheet q_688 [.int a0] rfl rfl (hR_of (by omega) (by decide)) hl.1 (rest := []) rfl (Nat.le_of_ble_eq_true rfl) dX8_notThere_1 (fun z hz => m_X8_isSheet hz) hf (fun v1 μ2 H locs hf Y => ?_)
  refine g_if_ne (pc := 4) (tgt := 12) E dX8_notThere_4 (by decide) hf (fun hf => ?_) (fun hf => ?_)
  · refine lv_aload_n (pc := 12) hx hb dX8_notThere_12 rfl (lv_at hl 0 rfl) ?_
    refine g_getr (pc := 13) E Y 53 4 57 S_53 rfl V_8 (by decide) AL_X8 q_347 dX8_notThere_13 ?_
    refine lv_iload_n (pc := 16) hx hb dX8_notThere_16 rfl (lv_at hl 1 rfl) ?_
    refine g_iald (pc := 17) E Y 57 S_57 dX8_notThere_17 hf (fun v3 hf => ?_)
    refine g_if_ne (pc := 18) (tgt := 26) E dX8_notThere_18 (by decide) hf (fun hf => ?_) (fun hf => ?_)
    · refine lv_iconst (pc := 26) (v := 0) hx hb dX8_notThere_26 (by decide) ?_
      exact g_iret (pc := 27) E Y hr hk dX8_notThere_27 hf
    · refine lv_ldc (pc := 21) (v := (-1000000002)) hx hb E.1.2.2.2.1 (E.1.2.2.2.2 _ q_233) dX8_notThere_21 ?_
      refine lv_goto (pc := 23) (tgt := 27) hx hb dX8_notThere_23 (by decide) ?_
      exact g_iret (pc := 27) E Y hr hk dX8_notThere_27 hf
  · refine lv_ldc (pc := 7) (v := (-1000000001)) hx hb E.1.2.2.2.1 (E.1.2.2.2.2 _ q_238) dX8_notThere_7 ?_
    refine lv_goto (pc := 9) (tgt := 27) hx hb dX8_notThere_9 (by decide) ?_
    exact g_iret (pc := 27) E Y hr hk dX8_notThere_27 hf
def f_X8_put_53_L33 (x1 : Int32) (x2 : Int32) (x3 : Int32) (x4 : Int32) (σ : Mem) : Res := if x4 = 0 then (nm (24 * x1) fun (v3 : Int32) => nm (v3 + x2) fun (v4 : Int32) => gi x1 4 <| nm (σ 57 x1.toNatClampNeg) fun (v5 : Int32) => if v5 = 8 then (nm (x3.toInt8.toInt32) fun (v10 : Int32) => gi v4 96 <| nm (mset σ 59 v4.toNatClampNeg v10) fun (μ11 : Mem) => some (1, μ11)) else (gi x1 4 <| nm (σ 57 x1.toNatClampNeg) fun (v6 : Int32) => if v6 = 16 then (nm (x3.toInt16.toInt32) fun (v8 : Int32) => gi v4 96 <| nm (mset σ 59 v4.toNatClampNeg v8) fun (μ9 : Mem) => some (1, μ9)) else (gi v4 96 <| nm (mset σ 59 v4.toNatClampNeg x3) fun (μ7 : Mem) => some (1, μ7)))) else (bd (f_X8_error_53 x4 σ) fun v12 μ13 => some (v12, μ13))
def f_X8_put_53 (a0 : Int32) (a1 : Int32) (a2 : Int32) (σ : Mem) : Res := bd (f_X8_notThere_53 a0 σ) fun v1 μ2 => if v1 = 0 then (gi a0 4 <| nm (μ2 58 a0.toNatClampNeg) fun (v14 : Int32) => nm (v14 - 1) fun (v15 : Int32) => bd (f_X8_in a1 0 v15 μ2) fun v16 μ17 => if v16 = 0 then (if ((-1000000001) : Int32) = 0 then (nm (24 * a0) fun (v18 : Int32) => nm (v18 + a1) fun (v19 : Int32) => gi a0 4 <| nm (μ17 57 a0.toNatClampNeg) fun (v20 : Int32) => if v20 = 8 then (nm (a2.toInt8.toInt32) fun (v25 : Int32) => gi v19 96 <| nm (mset μ17 59 v19.toNatClampNeg v25) fun (μ26 : Mem) => some (1, μ26)) else (gi a0 4 <| nm (μ17 57 a0.toNatClampNeg) fun (v21 : Int32) => if v21 = 16 then (nm (a2.toInt16.toInt32) fun (v23 : Int32) => gi v19 96 <| nm (mset μ17 59 v19.toNatClampNeg v23) fun (μ24 : Mem) => some (1, μ24)) else (gi v19 96 <| nm (mset μ17 59 v19.toNatClampNeg a2) fun (μ22 : Mem) => some (1, μ22)))) else (bd (f_X8_error_53 (-1000000001) μ17) fun v27 μ28 => some (v27, μ28))) else (f_X8_put_53_L33 a0 a1 a2 v1 μ17)) else (f_X8_put_53_L33 a0 a1 a2 v1 μ2)
set_option maxHeartbeats 4000000 in
set_option maxRecDepth 100000 in
theorem m_X8_put_53 {l : Launch} {σ : Mem} {Z : Int32 × Mem} {a0 : Int32} {a1 : Int32} {a2 : Int32} (hf : f_X8_put_53 a0 a1 a2 σ = some Z) : CT l yX8_put cX8_put 5 (some .int) 3 (fun ad => [.ref (ad 53), .int a0, .int a1, .int a2]) σ Z := by
  refine g_openT RX8 (by decide) rfl (fun _ => Nat.le_of_ble_eq_true rfl) (fun p e s m below meth c D cI cB ad st ls E Y hr hk hl => ?_)
  have hx := E.1.1
  have hb := E.1.2.1
  have hl : lv_has ls 5 [(0, .ref (ad 53)), (1, .int a0), (2, .int a1), (3, .int a2)] := hl
  have hL_33 : ∀ (x1 : Int32) (x2 : Int32) (x3 : Int32) (x4 : Int32) (σ : Mem) (H : Heap) (locs : List Loc) (ls : Array Slot), f_X8_put_53_L33 x1 x2 x3 x4 σ = some Z → Wo D cI cB ad (AA ad) σ s H locs → lv_has ls 5 [(0, .ref (ad 53)), (1, .int x1), (2, .int x2), (3, .int x3), (4, .int x4)] → W p l e (rmd 3) s m ([.ref (ad 53), .int a0, .int a1, .int a2] : List Value).toArray below meth c H locs 0 0 (QT_ below D cI cB ad st Z ([.ref (ad 53), .int a0, .int a1, .int a2] : List Value).toArray s) (F0 m 33 ls []) := by
    intro x1 x2 x3 x4 σ H locs ls hf Y hl
    unfold f_X8_put_53_L33 at hf
    refine lv_iload (pc := 33) hx hb dX8_put_33 (lv_at hl 4 rfl) ?_
    refine lv_istore (pc := 35) (lv' := [(4, .int x4), (0, .ref (ad 53)), (1, .int x1), (2, .int x2), (3, .int x3)]) hx hb dX8_put_35 hl (by decide) rfl (fun ls hl => ?_)
    refine lv_iload (pc := 37) hx hb dX8_put_37 (lv_at hl 0 rfl) ?_
    refine g_if_eq (pc := 39) (tgt := 49) E dX8_put_39 (by decide) hf (fun hf => ?_) (fun hf => ?_)
    · refine lv_aload_n (pc := 49) hx hb dX8_put_49 rfl (lv_at hl 1 rfl) ?_
      refine g_getr (pc := 50) E Y 53 6 59 S_53 rfl V_8 (by decide) AL_X8 q_351 dX8_put_50 ?_
      refine lv_bipush (pc := 53) (v := 24) hx hb dX8_put_53 (by decide) ?_
      refine lv_iload_n (pc := 55) hx hb dX8_put_55 rfl (lv_at hl 2 rfl) ?_
      refine g_imul (pc := 56) E dX8_put_56 hf (fun v3 hf => ?_)
      refine lv_iload_n (pc := 57) hx hb dX8_put_57 rfl (lv_at hl 3 rfl) ?_
      refine g_iadd (pc := 58) E dX8_put_58 hf (fun v4 hf => ?_)
      refine lv_aload_n (pc := 59) hx hb dX8_put_59 rfl (lv_at hl 1 rfl) ?_
      refine g_getr (pc := 60) E Y 53 4 57 S_53 rfl V_8 (by decide) AL_X8 q_347 dX8_put_60 ?_
      refine lv_iload_n (pc := 63) hx hb dX8_put_63 rfl (lv_at hl 2 rfl) ?_
      refine g_iald (pc := 64) E Y 57 S_57 dX8_put_64 hf (fun v5 hf => ?_)
      refine lv_bipush (pc := 65) (v := 8) hx hb dX8_put_65 (by decide) ?_
      refine g_icmp_ne (pc := 67) (tgt := 75) E dX8_put_67 (by decide) hf (fun hf => ?_) (fun hf => ?_)
      · refine lv_aload_n (pc := 75) hx hb dX8_put_75 rfl (lv_at hl 1 rfl) ?_
        refine g_getr (pc := 76) E Y 53 4 57 S_53 rfl V_8 (by decide) AL_X8 q_347 dX8_put_76 ?_
        refine lv_iload_n (pc := 79) hx hb dX8_put_79 rfl (lv_at hl 2 rfl) ?_
        refine g_iald (pc := 80) E Y 57 S_57 dX8_put_80 hf (fun v6 hf => ?_)
        refine lv_bipush (pc := 81) (v := 16) hx hb dX8_put_81 (by decide) ?_
        refine g_icmp_ne (pc := 83) (tgt := 91) E dX8_put_83 (by decide) hf (fun hf => ?_) (fun hf => ?_)
        · refine lv_iload_n (pc := 91) hx hb dX8_put_91 rfl (lv_at hl 4 rfl) ?_
          refine g_iast (pc := 92) E Y 59 S_59 dX8_put_92 hf (fun μ7 H locs hf Y => ?_)
          refine lv_iconst (pc := 93) (v := 1) hx hb dX8_put_93 (by decide) ?_
          exact g_iret (pc := 94) E Y hr hk dX8_put_94 hf
        · refine lv_iload_n (pc := 86) hx hb dX8_put_86 rfl (lv_at hl 4 rfl) ?_
          refine g_i2s (pc := 87) E dX8_put_87 hf (fun v8 hf => ?_)
          refine lv_goto (pc := 88) (tgt := 92) hx hb dX8_put_88 (by decide) ?_
          refine g_iast (pc := 92) E Y 59 S_59 dX8_put_92 hf (fun μ9 H locs hf Y => ?_)
          refine lv_iconst (pc := 93) (v := 1) hx hb dX8_put_93 (by decide) ?_
          exact g_iret (pc := 94) E Y hr hk dX8_put_94 hf
      · refine lv_iload_n (pc := 70) hx hb dX8_put_70 rfl (lv_at hl 4 rfl) ?_
        refine g_i2b (pc := 71) E dX8_put_71 hf (fun v10 hf => ?_)
        refine lv_goto (pc := 72) (tgt := 92) hx hb dX8_put_72 (by decide) ?_
        refine g_iast (pc := 92) E Y 59 S_59 dX8_put_92 hf (fun μ11 H locs hf Y => ?_)
        refine lv_iconst (pc := 93) (v := 1) hx hb dX8_put_93 (by decide) ?_
        exact g_iret (pc := 94) E Y hr hk dX8_put_94 hf
    · refine lv_aload_n (pc := 42) hx hb dX8_put_42 rfl (lv_at hl 1 rfl) ?_
      refine lv_iload (pc := 43) hx hb dX8_put_43 (lv_at hl 0 rfl) ?_
      refine g_callVi (pc := 45) E Y 53 S_53 V_8 o_X8_error q_716 [.int x4] rfl rfl (hR_of (by omega) (by decide)) hl.1 (rest := []) rfl (Nat.le_of_ble_eq_true rfl) dX8_put_45 (fun z hz => m_X8_error_53 hz) hf (fun v12 μ13 H locs hf Y => ?_)
      exact g_iret (pc := 48) E Y hr hk dX8_put_48 hf
  unfold f_X8_put_53 at hf
  refine lv_aload_n (pc := 0) hx hb dX8_put_0 rfl (lv_at hl 0 rfl) ?_
  refine lv_iload_n (pc := 1) hx hb dX8_put_1 rfl (lv_at hl 1 rfl) ?_
  refine g_callVi (pc := 2) E Y 53 S_53 V_8 o_X8_notThere q_703 [.int a0] rfl rfl (hR_of (by omega) (by decide)) hl.1 (rest := []) rfl (Nat.le_of_ble_eq_true rfl) dX8_put_2 (fun z hz => m_X8_notThere_53 hz) hf (fun v1 μ2 H locs hf Y => ?_)
  refine lv_istore (pc := 5) (lv' := [(4, .int v1), (0, .ref (ad 53)), (1, .int a0), (2, .int a1), (3, .int a2)]) hx hb dX8_put_5 hl (by decide) rfl (fun ls hl => ?_)
  refine lv_iload (pc := 7) hx hb dX8_put_7 (lv_at hl 0 rfl) ?_
  refine g_if_ne (pc := 9) (tgt := 33) E dX8_put_9 (by decide) hf (fun hf => ?_) (fun hf => ?_)
  · exact hL_33 _ _ _ _ _ _ _ _ hf Y (lv_sub hl [1, 2, 3, 4, 0] rfl)
  · refine lv_iload_n (pc := 12) hx hb dX8_put_12 rfl (lv_at hl 3 rfl) ?_
    refine lv_iconst (pc := 13) (v := 0) hx hb dX8_put_13 (by decide) ?_
    refine lv_aload_n (pc := 14) hx hb dX8_put_14 rfl (lv_at hl 1 rfl) ?_
    refine g_getr (pc := 15) E Y 53 5 58 S_53 rfl V_8 (by decide) AL_X8 q_349 dX8_put_15 ?_
    refine lv_iload_n (pc := 18) hx hb dX8_put_18 rfl (lv_at hl 2 rfl) ?_
    refine g_iald (pc := 19) E Y 58 S_58 dX8_put_19 hf (fun v14 hf => ?_)
    refine lv_iconst (pc := 20) (v := 1) hx hb dX8_put_20 (by decide) ?_
    refine g_isub (pc := 21) E dX8_put_21 hf (fun v15 hf => ?_)
    refine g_callSi (pc := 22) E Y o_X8_in q_707 [.int a1, .int 0, .int v15] rfl rfl (hR_of (by omega) (by decide)) hl.1 (rest := []) rfl (Nat.le_of_ble_eq_true rfl) dX8_put_22 (fun z hz => m_X8_in hz) hf (fun v16 μ17 H locs hf Y => ?_)
    refine g_if_ne (pc := 25) (tgt := 33) E dX8_put_25 (by decide) hf (fun hf => ?_) (fun hf => ?_)
    · exact hL_33 _ _ _ _ _ _ _ _ hf Y (lv_sub hl [1, 2, 3, 4, 0] rfl)
    · refine lv_ldc (pc := 28) (v := (-1000000001)) hx hb E.1.2.2.2.1 (E.1.2.2.2.2 _ q_238) dX8_put_28 ?_
      refine lv_goto (pc := 30) (tgt := 35) hx hb dX8_put_30 (by decide) ?_
      refine lv_istore (pc := 35) (lv' := [(4, .int (-1000000001)), (0, .ref (ad 53)), (1, .int a0), (2, .int a1), (3, .int a2)]) hx hb dX8_put_35 hl (by decide) rfl (fun ls hl => ?_)
      refine lv_iload (pc := 37) hx hb dX8_put_37 (lv_at hl 0 rfl) ?_
      refine g_if_eq (pc := 39) (tgt := 49) E dX8_put_39 (by decide) hf (fun hf => ?_) (fun hf => ?_)
      · refine lv_aload_n (pc := 49) hx hb dX8_put_49 rfl (lv_at hl 1 rfl) ?_
        refine g_getr (pc := 50) E Y 53 6 59 S_53 rfl V_8 (by decide) AL_X8 q_351 dX8_put_50 ?_
        refine lv_bipush (pc := 53) (v := 24) hx hb dX8_put_53 (by decide) ?_
        refine lv_iload_n (pc := 55) hx hb dX8_put_55 rfl (lv_at hl 2 rfl) ?_
        refine g_imul (pc := 56) E dX8_put_56 hf (fun v18 hf => ?_)
        refine lv_iload_n (pc := 57) hx hb dX8_put_57 rfl (lv_at hl 3 rfl) ?_
        refine g_iadd (pc := 58) E dX8_put_58 hf (fun v19 hf => ?_)
        refine lv_aload_n (pc := 59) hx hb dX8_put_59 rfl (lv_at hl 1 rfl) ?_
        refine g_getr (pc := 60) E Y 53 4 57 S_53 rfl V_8 (by decide) AL_X8 q_347 dX8_put_60 ?_
        refine lv_iload_n (pc := 63) hx hb dX8_put_63 rfl (lv_at hl 2 rfl) ?_
        refine g_iald (pc := 64) E Y 57 S_57 dX8_put_64 hf (fun v20 hf => ?_)
        refine lv_bipush (pc := 65) (v := 8) hx hb dX8_put_65 (by decide) ?_
        refine g_icmp_ne (pc := 67) (tgt := 75) E dX8_put_67 (by decide) hf (fun hf => ?_) (fun hf => ?_)
        · refine lv_aload_n (pc := 75) hx hb dX8_put_75 rfl (lv_at hl 1 rfl) ?_
          refine g_getr (pc := 76) E Y 53 4 57 S_53 rfl V_8 (by decide) AL_X8 q_347 dX8_put_76 ?_
          refine lv_iload_n (pc := 79) hx hb dX8_put_79 rfl (lv_at hl 2 rfl) ?_
          refine g_iald (pc := 80) E Y 57 S_57 dX8_put_80 hf (fun v21 hf => ?_)
          refine lv_bipush (pc := 81) (v := 16) hx hb dX8_put_81 (by decide) ?_
          refine g_icmp_ne (pc := 83) (tgt := 91) E dX8_put_83 (by decide) hf (fun hf => ?_) (fun hf => ?_)
          · refine lv_iload_n (pc := 91) hx hb dX8_put_91 rfl (lv_at hl 4 rfl) ?_
            refine g_iast (pc := 92) E Y 59 S_59 dX8_put_92 hf (fun μ22 H locs hf Y => ?_)
            refine lv_iconst (pc := 93) (v := 1) hx hb dX8_put_93 (by decide) ?_
            exact g_iret (pc := 94) E Y hr hk dX8_put_94 hf
          · refine lv_iload_n (pc := 86) hx hb dX8_put_86 rfl (lv_at hl 4 rfl) ?_
            refine g_i2s (pc := 87) E dX8_put_87 hf (fun v23 hf => ?_)
            refine lv_goto (pc := 88) (tgt := 92) hx hb dX8_put_88 (by decide) ?_
            refine g_iast (pc := 92) E Y 59 S_59 dX8_put_92 hf (fun μ24 H locs hf Y => ?_)
            refine lv_iconst (pc := 93) (v := 1) hx hb dX8_put_93 (by decide) ?_
            exact g_iret (pc := 94) E Y hr hk dX8_put_94 hf
        · refine lv_iload_n (pc := 70) hx hb dX8_put_70 rfl (lv_at hl 4 rfl) ?_
          refine g_i2b (pc := 71) E dX8_put_71 hf (fun v25 hf => ?_)
          refine lv_goto (pc := 72) (tgt := 92) hx hb dX8_put_72 (by decide) ?_
          refine g_iast (pc := 92) E Y 59 S_59 dX8_put_92 hf (fun μ26 H locs hf Y => ?_)
          refine lv_iconst (pc := 93) (v := 1) hx hb dX8_put_93 (by decide) ?_
          exact g_iret (pc := 94) E Y hr hk dX8_put_94 hf
      · refine lv_aload_n (pc := 42) hx hb dX8_put_42 rfl (lv_at hl 1 rfl) ?_
        refine lv_iload (pc := 43) hx hb dX8_put_43 (lv_at hl 0 rfl) ?_
        refine g_callVi (pc := 45) E Y 53 S_53 V_8 o_X8_error q_716 [.int (-1000000001)] rfl rfl (hR_of (by omega) (by decide)) hl.1 (rest := []) rfl (Nat.le_of_ble_eq_true rfl) dX8_put_45 (fun z hz => m_X8_error_53 hz) hf (fun v27 μ28 H locs hf Y => ?_)
        exact g_iret (pc := 48) E Y hr hk dX8_put_48 hf
def f_X8_notMoved_53 (a0 : Int32) (a1 : Int32) (a2 : Int32) (a3 : Int32) (a4 : Int32) (σ : Mem) : Res := bd (f_X8_isSheet a0 σ) fun v1 μ2 => if v1 = 0 then (some ((-1000000001), μ2)) else (bd (f_X8_isSheet a2 μ2) fun v3 μ4 => if v3 = 0 then (some ((-1000000001), μ4)) else (gi a0 4 <| nm (μ4 57 a0.toNatClampNeg) fun (v5 : Int32) => if v5 = 0 then (some ((-1000000002), μ4)) else (gi a2 4 <| nm (μ4 57 a2.toNatClampNeg) fun (v6 : Int32) => if v6 = 0 then (some ((-1000000002), μ4)) else (gi a0 4 <| nm (μ4 57 a0.toNatClampNeg) fun (v7 : Int32) => gi a2 4 <| nm (μ4 57 a2.toNatClampNeg) fun (v8 : Int32) => if v7 = v8 then (if a4 < 0 then (if (0 : Int32) = 0 then (some ((-1000000001), μ4)) else (some (0, μ4))) else (if a1 < 0 then (if (0 : Int32) = 0 then (some ((-1000000001), μ4)) else (some (0, μ4))) else (if a3 < 0 then (if (0 : Int32) = 0 then (some ((-1000000001), μ4)) else (some (0, μ4))) else (gi a0 4 <| nm (μ4 58 a0.toNatClampNeg) fun (v9 : Int32) => nm (v9 - a1) fun (v10 : Int32) => if v10 < a4 then (if (0 : Int32) = 0 then (some ((-1000000001), μ4)) else (some (0, μ4))) else (gi a2 4 <| nm (μ4 58 a2.toNatClampNeg) fun (v11 : Int32) => nm (v11 - a3) fun (v12 : Int32) => if v12 < a4 then (if (0 : Int32) = 0 then (some ((-1000000001), μ4)) else (some (0, μ4))) else (if (1 : Int32) = 0 then (some ((-1000000001), μ4)) else (some (0, μ4)))))))) else (some ((-1000000005), μ4))))))
set_option maxHeartbeats 4000000 in
set_option maxRecDepth 100000 in
theorem m_X8_notMoved_53 {l : Launch} {σ : Mem} {Z : Int32 × Mem} {a0 : Int32} {a1 : Int32} {a2 : Int32} {a3 : Int32} {a4 : Int32} (hf : f_X8_notMoved_53 a0 a1 a2 a3 a4 σ = some Z) : CT l yX8_notMoved cX8_notMoved 7 (some .int) 2 (fun ad => [.ref (ad 53), .int a0, .int a1, .int a2, .int a3, .int a4]) σ Z := by
  refine g_openT RX8 (by decide) rfl (fun _ => Nat.le_of_ble_eq_true rfl) (fun p e s m below meth c D cI cB ad st ls E Y hr hk hl => ?_)
  have hx := E.1.1
  have hb := E.1.2.1
  have hl : lv_has ls 7 [(0, .ref (ad 53)), (1, .int a0), (2, .int a1), (3, .int a2), (4, .int a3), (5, .int a4)] := hl
  unfold f_X8_notMoved_53 at hf
  refine lv_iload_n (pc := 0) hx hb dX8_notMoved_0 rfl (lv_at hl 1 rfl) ?_
  refine g_callSi (pc := 1) E Y o_X8_isSheet q_688 [.int a0] rfl rfl (hR_of (by omega) (by decide)) hl.1 (rest := []) rfl (Nat.le_of_ble_eq_true rfl) dX8_notMoved_1 (fun z hz => m_X8_isSheet hz) hf (fun v1 μ2 H locs hf Y => ?_)
  refine g_if_eq (pc := 4) (tgt := 14) E dX8_notMoved_4 (by decide) hf (fun hf => ?_) (fun hf => ?_)
  · refine lv_ldc (pc := 14) (v := (-1000000001)) hx hb E.1.2.2.2.1 (E.1.2.2.2.2 _ q_238) dX8_notMoved_14 ?_
    exact g_iret (pc := 16) E Y hr hk dX8_notMoved_16 hf
  · refine lv_iload_n (pc := 7) hx hb dX8_notMoved_7 rfl (lv_at hl 3 rfl) ?_
    refine g_callSi (pc := 8) E Y o_X8_isSheet q_688 [.int a2] rfl rfl (hR_of (by omega) (by decide)) hl.1 (rest := []) rfl (Nat.le_of_ble_eq_true rfl) dX8_notMoved_8 (fun z hz => m_X8_isSheet hz) hf (fun v3 μ4 H locs hf Y => ?_)
    refine g_if_ne (pc := 11) (tgt := 17) E dX8_notMoved_11 (by decide) hf (fun hf => ?_) (fun hf => ?_)
    · refine lv_aload_n (pc := 17) hx hb dX8_notMoved_17 rfl (lv_at hl 0 rfl) ?_
      refine g_getr (pc := 18) E Y 53 4 57 S_53 rfl V_8 (by decide) AL_X8 q_347 dX8_notMoved_18 ?_
      refine lv_iload_n (pc := 21) hx hb dX8_notMoved_21 rfl (lv_at hl 1 rfl) ?_
      refine g_iald (pc := 22) E Y 57 S_57 dX8_notMoved_22 hf (fun v5 hf => ?_)
      refine g_if_eq (pc := 23) (tgt := 35) E dX8_notMoved_23 (by decide) hf (fun hf => ?_) (fun hf => ?_)
      · refine lv_ldc (pc := 35) (v := (-1000000002)) hx hb E.1.2.2.2.1 (E.1.2.2.2.2 _ q_233) dX8_notMoved_35 ?_
        exact g_iret (pc := 37) E Y hr hk dX8_notMoved_37 hf
      · refine lv_aload_n (pc := 26) hx hb dX8_notMoved_26 rfl (lv_at hl 0 rfl) ?_
        refine g_getr (pc := 27) E Y 53 4 57 S_53 rfl V_8 (by decide) AL_X8 q_347 dX8_notMoved_27 ?_
        refine lv_iload_n (pc := 30) hx hb dX8_notMoved_30 rfl (lv_at hl 3 rfl) ?_
        refine g_iald (pc := 31) E Y 57 S_57 dX8_notMoved_31 hf (fun v6 hf => ?_)
        refine g_if_ne (pc := 32) (tgt := 38) E dX8_notMoved_32 (by decide) hf (fun hf => ?_) (fun hf => ?_)
        · refine lv_aload_n (pc := 38) hx hb dX8_notMoved_38 rfl (lv_at hl 0 rfl) ?_
          refine g_getr (pc := 39) E Y 53 4 57 S_53 rfl V_8 (by decide) AL_X8 q_347 dX8_notMoved_39 ?_
          refine lv_iload_n (pc := 42) hx hb dX8_notMoved_42 rfl (lv_at hl 1 rfl) ?_
          refine g_iald (pc := 43) E Y 57 S_57 dX8_notMoved_43 hf (fun v7 hf => ?_)
          refine lv_aload_n (pc := 44) hx hb dX8_notMoved_44 rfl (lv_at hl 0 rfl) ?_
          refine g_getr (pc := 45) E Y 53 4 57 S_53 rfl V_8 (by decide) AL_X8 q_347 dX8_notMoved_45 ?_
          refine lv_iload_n (pc := 48) hx hb dX8_notMoved_48 rfl (lv_at hl 3 rfl) ?_
          refine g_iald (pc := 49) E Y 57 S_57 dX8_notMoved_49 hf (fun v8 hf => ?_)
          refine g_icmp_eq (pc := 50) (tgt := 56) E dX8_notMoved_50 (by decide) hf (fun hf => ?_) (fun hf => ?_)
          · refine lv_iload (pc := 56) hx hb dX8_notMoved_56 (lv_at hl 5 rfl) ?_
            refine g_if_lt (pc := 58) (tgt := 101) E dX8_notMoved_58 (by decide) hf (fun hf => ?_) (fun hf => ?_)
            · refine lv_iconst (pc := 101) (v := 0) hx hb dX8_notMoved_101 (by decide) ?_
              refine lv_istore (pc := 102) (lv' := [(6, .int 0), (0, .ref (ad 53)), (1, .int a0), (2, .int a1), (3, .int a2), (4, .int a3), (5, .int a4)]) hx hb dX8_notMoved_102 hl (by decide) rfl (fun ls hl => ?_)
              refine lv_iload (pc := 104) hx hb dX8_notMoved_104 (lv_at hl 0 rfl) ?_
              refine g_if_eq (pc := 106) (tgt := 113) E dX8_notMoved_106 (by decide) hf (fun hf => ?_) (fun hf => ?_)
              · refine lv_ldc (pc := 113) (v := (-1000000001)) hx hb E.1.2.2.2.1 (E.1.2.2.2.2 _ q_238) dX8_notMoved_113 ?_
                exact g_iret (pc := 115) E Y hr hk dX8_notMoved_115 hf
              · refine lv_iconst (pc := 109) (v := 0) hx hb dX8_notMoved_109 (by decide) ?_
                refine lv_goto (pc := 110) (tgt := 115) hx hb dX8_notMoved_110 (by decide) ?_
                exact g_iret (pc := 115) E Y hr hk dX8_notMoved_115 hf
            · refine lv_iload_n (pc := 61) hx hb dX8_notMoved_61 rfl (lv_at hl 2 rfl) ?_
              refine g_if_lt (pc := 62) (tgt := 101) E dX8_notMoved_62 (by decide) hf (fun hf => ?_) (fun hf => ?_)
              · refine lv_iconst (pc := 101) (v := 0) hx hb dX8_notMoved_101 (by decide) ?_
                refine lv_istore (pc := 102) (lv' := [(6, .int 0), (0, .ref (ad 53)), (1, .int a0), (2, .int a1), (3, .int a2), (4, .int a3), (5, .int a4)]) hx hb dX8_notMoved_102 hl (by decide) rfl (fun ls hl => ?_)
                refine lv_iload (pc := 104) hx hb dX8_notMoved_104 (lv_at hl 0 rfl) ?_
                refine g_if_eq (pc := 106) (tgt := 113) E dX8_notMoved_106 (by decide) hf (fun hf => ?_) (fun hf => ?_)
                · refine lv_ldc (pc := 113) (v := (-1000000001)) hx hb E.1.2.2.2.1 (E.1.2.2.2.2 _ q_238) dX8_notMoved_113 ?_
                  exact g_iret (pc := 115) E Y hr hk dX8_notMoved_115 hf
                · refine lv_iconst (pc := 109) (v := 0) hx hb dX8_notMoved_109 (by decide) ?_
                  refine lv_goto (pc := 110) (tgt := 115) hx hb dX8_notMoved_110 (by decide) ?_
                  exact g_iret (pc := 115) E Y hr hk dX8_notMoved_115 hf
              · refine lv_iload (pc := 65) hx hb dX8_notMoved_65 (lv_at hl 4 rfl) ?_
                refine g_if_lt (pc := 67) (tgt := 101) E dX8_notMoved_67 (by decide) hf (fun hf => ?_) (fun hf => ?_)
                · refine lv_iconst (pc := 101) (v := 0) hx hb dX8_notMoved_101 (by decide) ?_
                  refine lv_istore (pc := 102) (lv' := [(6, .int 0), (0, .ref (ad 53)), (1, .int a0), (2, .int a1), (3, .int a2), (4, .int a3), (5, .int a4)]) hx hb dX8_notMoved_102 hl (by decide) rfl (fun ls hl => ?_)
                  refine lv_iload (pc := 104) hx hb dX8_notMoved_104 (lv_at hl 0 rfl) ?_
                  refine g_if_eq (pc := 106) (tgt := 113) E dX8_notMoved_106 (by decide) hf (fun hf => ?_) (fun hf => ?_)
                  · refine lv_ldc (pc := 113) (v := (-1000000001)) hx hb E.1.2.2.2.1 (E.1.2.2.2.2 _ q_238) dX8_notMoved_113 ?_
                    exact g_iret (pc := 115) E Y hr hk dX8_notMoved_115 hf
                  · refine lv_iconst (pc := 109) (v := 0) hx hb dX8_notMoved_109 (by decide) ?_
                    refine lv_goto (pc := 110) (tgt := 115) hx hb dX8_notMoved_110 (by decide) ?_
                    exact g_iret (pc := 115) E Y hr hk dX8_notMoved_115 hf
                · refine lv_iload (pc := 70) hx hb dX8_notMoved_70 (lv_at hl 5 rfl) ?_
                  refine lv_aload_n (pc := 72) hx hb dX8_notMoved_72 rfl (lv_at hl 0 rfl) ?_
                  refine g_getr (pc := 73) E Y 53 5 58 S_53 rfl V_8 (by decide) AL_X8 q_349 dX8_notMoved_73 ?_
                  refine lv_iload_n (pc := 76) hx hb dX8_notMoved_76 rfl (lv_at hl 1 rfl) ?_
                  refine g_iald (pc := 77) E Y 58 S_58 dX8_notMoved_77 hf (fun v9 hf => ?_)
                  refine lv_iload_n (pc := 78) hx hb dX8_notMoved_78 rfl (lv_at hl 2 rfl) ?_
                  refine g_isub (pc := 79) E dX8_notMoved_79 hf (fun v10 hf => ?_)
                  refine g_icmp_gt (pc := 80) (tgt := 101) E dX8_notMoved_80 (by decide) hf (fun hf => ?_) (fun hf => ?_)
                  · refine lv_iconst (pc := 101) (v := 0) hx hb dX8_notMoved_101 (by decide) ?_
                    refine lv_istore (pc := 102) (lv' := [(6, .int 0), (0, .ref (ad 53)), (1, .int a0), (2, .int a1), (3, .int a2), (4, .int a3), (5, .int a4)]) hx hb dX8_notMoved_102 hl (by decide) rfl (fun ls hl => ?_)
                    refine lv_iload (pc := 104) hx hb dX8_notMoved_104 (lv_at hl 0 rfl) ?_
                    refine g_if_eq (pc := 106) (tgt := 113) E dX8_notMoved_106 (by decide) hf (fun hf => ?_) (fun hf => ?_)
                    · refine lv_ldc (pc := 113) (v := (-1000000001)) hx hb E.1.2.2.2.1 (E.1.2.2.2.2 _ q_238) dX8_notMoved_113 ?_
                      exact g_iret (pc := 115) E Y hr hk dX8_notMoved_115 hf
                    · refine lv_iconst (pc := 109) (v := 0) hx hb dX8_notMoved_109 (by decide) ?_
                      refine lv_goto (pc := 110) (tgt := 115) hx hb dX8_notMoved_110 (by decide) ?_
                      exact g_iret (pc := 115) E Y hr hk dX8_notMoved_115 hf
                  · refine lv_iload (pc := 83) hx hb dX8_notMoved_83 (lv_at hl 5 rfl) ?_
                    refine lv_aload_n (pc := 85) hx hb dX8_notMoved_85 rfl (lv_at hl 0 rfl) ?_
                    refine g_getr (pc := 86) E Y 53 5 58 S_53 rfl V_8 (by decide) AL_X8 q_349 dX8_notMoved_86 ?_
                    refine lv_iload_n (pc := 89) hx hb dX8_notMoved_89 rfl (lv_at hl 3 rfl) ?_
                    refine g_iald (pc := 90) E Y 58 S_58 dX8_notMoved_90 hf (fun v11 hf => ?_)
                    refine lv_iload (pc := 91) hx hb dX8_notMoved_91 (lv_at hl 4 rfl) ?_
                    refine g_isub (pc := 93) E dX8_notMoved_93 hf (fun v12 hf => ?_)
                    refine g_icmp_gt (pc := 94) (tgt := 101) E dX8_notMoved_94 (by decide) hf (fun hf => ?_) (fun hf => ?_)
                    · refine lv_iconst (pc := 101) (v := 0) hx hb dX8_notMoved_101 (by decide) ?_
                      refine lv_istore (pc := 102) (lv' := [(6, .int 0), (0, .ref (ad 53)), (1, .int a0), (2, .int a1), (3, .int a2), (4, .int a3), (5, .int a4)]) hx hb dX8_notMoved_102 hl (by decide) rfl (fun ls hl => ?_)
                      refine lv_iload (pc := 104) hx hb dX8_notMoved_104 (lv_at hl 0 rfl) ?_
                      refine g_if_eq (pc := 106) (tgt := 113) E dX8_notMoved_106 (by decide) hf (fun hf => ?_) (fun hf => ?_)
                      · refine lv_ldc (pc := 113) (v := (-1000000001)) hx hb E.1.2.2.2.1 (E.1.2.2.2.2 _ q_238) dX8_notMoved_113 ?_
                        exact g_iret (pc := 115) E Y hr hk dX8_notMoved_115 hf
                      · refine lv_iconst (pc := 109) (v := 0) hx hb dX8_notMoved_109 (by decide) ?_
                        refine lv_goto (pc := 110) (tgt := 115) hx hb dX8_notMoved_110 (by decide) ?_
                        exact g_iret (pc := 115) E Y hr hk dX8_notMoved_115 hf
                    · refine lv_iconst (pc := 97) (v := 1) hx hb dX8_notMoved_97 (by decide) ?_
                      refine lv_goto (pc := 98) (tgt := 102) hx hb dX8_notMoved_98 (by decide) ?_
                      refine lv_istore (pc := 102) (lv' := [(6, .int 1), (0, .ref (ad 53)), (1, .int a0), (2, .int a1), (3, .int a2), (4, .int a3), (5, .int a4)]) hx hb dX8_notMoved_102 hl (by decide) rfl (fun ls hl => ?_)
                      refine lv_iload (pc := 104) hx hb dX8_notMoved_104 (lv_at hl 0 rfl) ?_
                      refine g_if_eq (pc := 106) (tgt := 113) E dX8_notMoved_106 (by decide) hf (fun hf => ?_) (fun hf => ?_)
                      · refine lv_ldc (pc := 113) (v := (-1000000001)) hx hb E.1.2.2.2.1 (E.1.2.2.2.2 _ q_238) dX8_notMoved_113 ?_
                        exact g_iret (pc := 115) E Y hr hk dX8_notMoved_115 hf
                      · refine lv_iconst (pc := 109) (v := 0) hx hb dX8_notMoved_109 (by decide) ?_
                        refine lv_goto (pc := 110) (tgt := 115) hx hb dX8_notMoved_110 (by decide) ?_
                        exact g_iret (pc := 115) E Y hr hk dX8_notMoved_115 hf
          · refine lv_ldc (pc := 53) (v := (-1000000005)) hx hb E.1.2.2.2.1 (E.1.2.2.2.2 _ q_240) dX8_notMoved_53 ?_
            exact g_iret (pc := 55) E Y hr hk dX8_notMoved_55 hf
        · refine lv_ldc (pc := 35) (v := (-1000000002)) hx hb E.1.2.2.2.1 (E.1.2.2.2.2 _ q_233) dX8_notMoved_35 ?_
          exact g_iret (pc := 37) E Y hr hk dX8_notMoved_37 hf
    · refine lv_ldc (pc := 14) (v := (-1000000001)) hx hb E.1.2.2.2.1 (E.1.2.2.2.2 _ q_238) dX8_notMoved_14 ?_
      exact g_iret (pc := 16) E Y hr hk dX8_notMoved_16 hf
def fb_X8_move_53_L28 (bk : Int32 → Int32 → Int32 → Int32 → Int32 → Int32 → Mem → Res) (x1 : Int32) (x2 : Int32) (x3 : Int32) (x4 : Int32) (x5 : Int32) (x7 : Int32) (σ : Mem) : Res := if x5 ≤ x7 then (some (x5, σ)) else (if x4 ≤ x2 then (nm (24 * x3) fun (v3 : Int32) => nm (v3 + x4) fun (v4 : Int32) => nm (v4 + x7) fun (v5 : Int32) => nm (24 * x1) fun (v6 : Int32) => nm (v6 + x2) fun (v7 : Int32) => nm (v7 + x7) fun (v8 : Int32) => gi v8 96 <| nm (σ 59 v8.toNatClampNeg) fun (v9 : Int32) => gi v5 96 <| nm (mset σ 59 v5.toNatClampNeg v9) fun (μ10 : Mem) => nm (x7 + 1) fun (v11 : Int32) => bk x1 x2 x3 x4 x5 v11 μ10) else (nm (x5 - 1) fun (v12 : Int32) => nm (v12 - x7) fun (v13 : Int32) => nm (24 * x3) fun (v14 : Int32) => nm (v14 + x4) fun (v15 : Int32) => nm (v15 + v13) fun (v16 : Int32) => nm (24 * x1) fun (v17 : Int32) => nm (v17 + x2) fun (v18 : Int32) => nm (v18 + v13) fun (v19 : Int32) => gi v19 96 <| nm (σ 59 v19.toNatClampNeg) fun (v20 : Int32) => gi v16 96 <| nm (mset σ 59 v16.toNatClampNeg v20) fun (μ21 : Mem) => nm (x7 + 1) fun (v22 : Int32) => bk x1 x2 x3 x4 x5 v22 μ21))
def f_X8_move_53_L28 : Nat → Int32 → Int32 → Int32 → Int32 → Int32 → Int32 → Mem → Res
  | 0, _, _, _, _, _, _, _ => none
  | n + 1, x1, x2, x3, x4, x5, x7, σ => fb_X8_move_53_L28 (f_X8_move_53_L28 n) x1 x2 x3 x4 x5 x7 σ
def f_X8_move_53 (a0 : Int32) (a1 : Int32) (a2 : Int32) (a3 : Int32) (a4 : Int32) (σ : Mem) : Res := bd (f_X8_notMoved_53 a0 a1 a2 a3 a4 σ) fun v1 μ2 => if v1 = 0 then (f_X8_move_53_L28 1000 a0 a1 a2 a3 a4 0 μ2) else (bd (f_X8_error_53 v1 μ2) fun v23 μ24 => some (v23, μ24))
set_option maxHeartbeats 4000000 in
set_option maxRecDepth 100000 in
theorem m_X8_move_53 {l : Launch} {σ : Mem} {Z : Int32 × Mem} {a0 : Int32} {a1 : Int32} {a2 : Int32} {a3 : Int32} {a4 : Int32} (hf : f_X8_move_53 a0 a1 a2 a3 a4 σ = some Z) : CT l yX8_move cX8_move 9 (some .int) 3 (fun ad => [.ref (ad 53), .int a0, .int a1, .int a2, .int a3, .int a4]) σ Z := by
  refine g_openT RX8 (by decide) rfl (fun _ => Nat.le_of_ble_eq_true rfl) (fun p e s m below meth c D cI cB ad st ls E Y hr hk hl => ?_)
  have hx := E.1.1
  have hb := E.1.2.1
  have hl : lv_has ls 9 [(0, .ref (ad 53)), (1, .int a0), (2, .int a1), (3, .int a2), (4, .int a3), (5, .int a4)] := hl
  have hL_28 : ∀ (n : Nat) (x1 : Int32) (x2 : Int32) (x3 : Int32) (x4 : Int32) (x5 : Int32) (x7 : Int32) (σ : Mem) (H : Heap) (locs : List Loc) (ls : Array Slot), f_X8_move_53_L28 n x1 x2 x3 x4 x5 x7 σ = some Z → Wo D cI cB ad (AA ad) σ s H locs → lv_has ls 9 [(0, .ref (ad 53)), (1, .int x1), (2, .int x2), (3, .int x3), (4, .int x4), (5, .int x5), (7, .int x7)] → W p l e (rmd 3) s m ([.ref (ad 53), .int a0, .int a1, .int a2, .int a3, .int a4] : List Value).toArray below meth c H locs 0 0 (QT_ below D cI cB ad st Z ([.ref (ad 53), .int a0, .int a1, .int a2, .int a3, .int a4] : List Value).toArray s) (F0 m 28 ls []) := by
    intro n
    induction n with
    | zero =>
      intro x1 x2 x3 x4 x5 x7 σ H locs ls hf
      cases (show (none : Res) = some Z from hf)
    | succ n ih =>
      intro x1 x2 x3 x4 x5 x7 σ H locs ls hf Y hl
      have hf : fb_X8_move_53_L28 (f_X8_move_53_L28 n) x1 x2 x3 x4 x5 x7 σ = some Z := hf
      unfold fb_X8_move_53_L28 at hf
      refine lv_iload (pc := 28) hx hb dX8_move_28 (lv_at hl 6 rfl) ?_
      refine lv_iload (pc := 30) hx hb dX8_move_30 (lv_at hl 5 rfl) ?_
      refine g_icmp_ge (pc := 32) (tgt := 90) E dX8_move_32 (by decide) hf (fun hf => ?_) (fun hf => ?_)
      · refine lv_iload (pc := 90) hx hb dX8_move_90 (lv_at hl 5 rfl) ?_
        exact g_iret (pc := 92) E Y hr hk dX8_move_92 hf
      · refine lv_iload_n (pc := 35) hx hb dX8_move_35 rfl (lv_at hl 2 rfl) ?_
        refine lv_iload (pc := 36) hx hb dX8_move_36 (lv_at hl 4 rfl) ?_
        refine g_icmp_ge (pc := 38) (tgt := 51) E dX8_move_38 (by decide) hf (fun hf => ?_) (fun hf => ?_)
        · refine lv_iload (pc := 51) hx hb dX8_move_51 (lv_at hl 6 rfl) ?_
          refine lv_istore (pc := 53) (lv' := [(8, .int x7), (0, .ref (ad 53)), (1, .int x1), (2, .int x2), (3, .int x3), (4, .int x4), (5, .int x5), (7, .int x7)]) hx hb dX8_move_53 hl (by decide) rfl (fun ls hl => ?_)
          refine lv_aload_n (pc := 55) hx hb dX8_move_55 rfl (lv_at hl 1 rfl) ?_
          refine g_getr (pc := 56) E Y 53 6 59 S_53 rfl V_8 (by decide) AL_X8 q_351 dX8_move_56 ?_
          refine lv_bipush (pc := 59) (v := 24) hx hb dX8_move_59 (by decide) ?_
          refine lv_iload_n (pc := 61) hx hb dX8_move_61 rfl (lv_at hl 4 rfl) ?_
          refine g_imul (pc := 62) E dX8_move_62 hf (fun v3 hf => ?_)
          refine lv_iload (pc := 63) hx hb dX8_move_63 (lv_at hl 5 rfl) ?_
          refine g_iadd (pc := 65) E dX8_move_65 hf (fun v4 hf => ?_)
          refine lv_iload (pc := 66) hx hb dX8_move_66 (lv_at hl 0 rfl) ?_
          refine g_iadd (pc := 68) E dX8_move_68 hf (fun v5 hf => ?_)
          refine lv_aload_n (pc := 69) hx hb dX8_move_69 rfl (lv_at hl 1 rfl) ?_
          refine g_getr (pc := 70) E Y 53 6 59 S_53 rfl V_8 (by decide) AL_X8 q_351 dX8_move_70 ?_
          refine lv_bipush (pc := 73) (v := 24) hx hb dX8_move_73 (by decide) ?_
          refine lv_iload_n (pc := 75) hx hb dX8_move_75 rfl (lv_at hl 2 rfl) ?_
          refine g_imul (pc := 76) E dX8_move_76 hf (fun v6 hf => ?_)
          refine lv_iload_n (pc := 77) hx hb dX8_move_77 rfl (lv_at hl 3 rfl) ?_
          refine g_iadd (pc := 78) E dX8_move_78 hf (fun v7 hf => ?_)
          refine lv_iload (pc := 79) hx hb dX8_move_79 (lv_at hl 0 rfl) ?_
          refine g_iadd (pc := 81) E dX8_move_81 hf (fun v8 hf => ?_)
          refine g_iald (pc := 82) E Y 59 S_59 dX8_move_82 hf (fun v9 hf => ?_)
          refine g_iast (pc := 83) E Y 59 S_59 dX8_move_83 hf (fun μ10 H locs hf Y => ?_)
          refine g_iinc (pc := 84) E (fun v11 => [(7, .int v11), (8, .int x7), (0, .ref (ad 53)), (1, .int x1), (2, .int x2), (3, .int x3), (4, .int x4), (5, .int x5)]) dX8_move_84 hl (k := 7) rfl (t := 1) (by decide) (by decide) (fun _ => rfl) hf (fun v11 hf ls hl => ?_)
          refine lv_goto (pc := 87) (tgt := 28) hx hb dX8_move_87 (by decide) ?_
          exact ih _ _ _ _ _ _ _ _ _ _ hf Y (lv_sub hl [2, 3, 4, 5, 6, 7, 0] rfl)
        · refine lv_iload (pc := 41) hx hb dX8_move_41 (lv_at hl 5 rfl) ?_
          refine lv_iconst (pc := 43) (v := 1) hx hb dX8_move_43 (by decide) ?_
          refine g_isub (pc := 44) E dX8_move_44 hf (fun v12 hf => ?_)
          refine lv_iload (pc := 45) hx hb dX8_move_45 (lv_at hl 6 rfl) ?_
          refine g_isub (pc := 47) E dX8_move_47 hf (fun v13 hf => ?_)
          refine lv_goto (pc := 48) (tgt := 53) hx hb dX8_move_48 (by decide) ?_
          refine lv_istore (pc := 53) (lv' := [(8, .int v13), (0, .ref (ad 53)), (1, .int x1), (2, .int x2), (3, .int x3), (4, .int x4), (5, .int x5), (7, .int x7)]) hx hb dX8_move_53 hl (by decide) rfl (fun ls hl => ?_)
          refine lv_aload_n (pc := 55) hx hb dX8_move_55 rfl (lv_at hl 1 rfl) ?_
          refine g_getr (pc := 56) E Y 53 6 59 S_53 rfl V_8 (by decide) AL_X8 q_351 dX8_move_56 ?_
          refine lv_bipush (pc := 59) (v := 24) hx hb dX8_move_59 (by decide) ?_
          refine lv_iload_n (pc := 61) hx hb dX8_move_61 rfl (lv_at hl 4 rfl) ?_
          refine g_imul (pc := 62) E dX8_move_62 hf (fun v14 hf => ?_)
          refine lv_iload (pc := 63) hx hb dX8_move_63 (lv_at hl 5 rfl) ?_
          refine g_iadd (pc := 65) E dX8_move_65 hf (fun v15 hf => ?_)
          refine lv_iload (pc := 66) hx hb dX8_move_66 (lv_at hl 0 rfl) ?_
          refine g_iadd (pc := 68) E dX8_move_68 hf (fun v16 hf => ?_)
          refine lv_aload_n (pc := 69) hx hb dX8_move_69 rfl (lv_at hl 1 rfl) ?_
          refine g_getr (pc := 70) E Y 53 6 59 S_53 rfl V_8 (by decide) AL_X8 q_351 dX8_move_70 ?_
          refine lv_bipush (pc := 73) (v := 24) hx hb dX8_move_73 (by decide) ?_
          refine lv_iload_n (pc := 75) hx hb dX8_move_75 rfl (lv_at hl 2 rfl) ?_
          refine g_imul (pc := 76) E dX8_move_76 hf (fun v17 hf => ?_)
          refine lv_iload_n (pc := 77) hx hb dX8_move_77 rfl (lv_at hl 3 rfl) ?_
          refine g_iadd (pc := 78) E dX8_move_78 hf (fun v18 hf => ?_)
          refine lv_iload (pc := 79) hx hb dX8_move_79 (lv_at hl 0 rfl) ?_
          refine g_iadd (pc := 81) E dX8_move_81 hf (fun v19 hf => ?_)
          refine g_iald (pc := 82) E Y 59 S_59 dX8_move_82 hf (fun v20 hf => ?_)
          refine g_iast (pc := 83) E Y 59 S_59 dX8_move_83 hf (fun μ21 H locs hf Y => ?_)
          refine g_iinc (pc := 84) E (fun v22 => [(7, .int v22), (8, .int v13), (0, .ref (ad 53)), (1, .int x1), (2, .int x2), (3, .int x3), (4, .int x4), (5, .int x5)]) dX8_move_84 hl (k := 7) rfl (t := 1) (by decide) (by decide) (fun _ => rfl) hf (fun v22 hf ls hl => ?_)
          refine lv_goto (pc := 87) (tgt := 28) hx hb dX8_move_87 (by decide) ?_
          exact ih _ _ _ _ _ _ _ _ _ _ hf Y (lv_sub hl [2, 3, 4, 5, 6, 7, 0] rfl)
  unfold f_X8_move_53 at hf
  refine lv_aload_n (pc := 0) hx hb dX8_move_0 rfl (lv_at hl 0 rfl) ?_
  refine lv_iload_n (pc := 1) hx hb dX8_move_1 rfl (lv_at hl 1 rfl) ?_
  refine lv_iload_n (pc := 2) hx hb dX8_move_2 rfl (lv_at hl 2 rfl) ?_
  refine lv_iload_n (pc := 3) hx hb dX8_move_3 rfl (lv_at hl 3 rfl) ?_
  refine lv_iload (pc := 4) hx hb dX8_move_4 (lv_at hl 4 rfl) ?_
  refine lv_iload (pc := 6) hx hb dX8_move_6 (lv_at hl 5 rfl) ?_
  refine g_callVi (pc := 8) E Y 53 S_53 V_8 o_X8_notMoved q_704 [.int a0, .int a1, .int a2, .int a3, .int a4] rfl rfl (hR_of (by omega) (by decide)) hl.1 (rest := []) rfl (Nat.le_of_ble_eq_true rfl) dX8_move_8 (fun z hz => m_X8_notMoved_53 hz) hf (fun v1 μ2 H locs hf Y => ?_)
  refine lv_istore (pc := 11) (lv' := [(6, .int v1), (0, .ref (ad 53)), (1, .int a0), (2, .int a1), (3, .int a2), (4, .int a3), (5, .int a4)]) hx hb dX8_move_11 hl (by decide) rfl (fun ls hl => ?_)
  refine lv_iload (pc := 13) hx hb dX8_move_13 (lv_at hl 0 rfl) ?_
  refine g_if_eq (pc := 15) (tgt := 25) E dX8_move_15 (by decide) hf (fun hf => ?_) (fun hf => ?_)
  · refine lv_iconst (pc := 25) (v := 0) hx hb dX8_move_25 (by decide) ?_
    refine lv_istore (pc := 26) (lv' := [(7, .int 0), (6, .int v1), (0, .ref (ad 53)), (1, .int a0), (2, .int a1), (3, .int a2), (4, .int a3), (5, .int a4)]) hx hb dX8_move_26 hl (by decide) rfl (fun ls hl => ?_)
    exact hL_28 1000 _ _ _ _ _ _ _ _ _ _ hf Y (lv_sub hl [2, 3, 4, 5, 6, 7, 0] rfl)
  · refine lv_aload_n (pc := 18) hx hb dX8_move_18 rfl (lv_at hl 1 rfl) ?_
    refine lv_iload (pc := 19) hx hb dX8_move_19 (lv_at hl 0 rfl) ?_
    refine g_callVi (pc := 21) E Y 53 S_53 V_8 o_X8_error q_716 [.int v1] rfl rfl (hR_of (by omega) (by decide)) hl.1 (rest := []) rfl (Nat.le_of_ble_eq_true rfl) dX8_move_21 (fun z hz => m_X8_error_53 hz) hf (fun v23 μ24 H locs hf Y => ?_)
    exact g_iret (pc := 24) E Y hr hk dX8_move_24 hf
def fb_X8_weightsBy_53_L18 (bk : Int32 → Int32 → Mem → Res) (x1 : Int32) (x3 : Int32) (σ : Mem) : Res := gi x1 4 <| nm (σ 58 x1.toNatClampNeg) fun (v3 : Int32) => if v3 ≤ x3 then (some (x3, σ)) else (gi 7 386 <| nm (σ 54 (7 : Int32).toNatClampNeg) fun (v4 : Int32) => if v4 ≤ x3 then (some (x3, σ)) else (nm (24 * x1) fun (v5 : Int32) => nm (v5 + x3) fun (v6 : Int32) => gi v6 96 <| nm (σ 59 v6.toNatClampNeg) fun (v7 : Int32) => bd (f_X8_in v7 0 9 σ) fun v8 μ9 => if v8 = 0 then (some (x3, μ9)) else (nm (4 * x3) fun (v10 : Int32) => nm (11 + v10) fun (v11 : Int32) => nm (v11 + 2) fun (v12 : Int32) => nm (24 * x1) fun (v13 : Int32) => nm (v13 + x3) fun (v14 : Int32) => gi v14 96 <| nm (μ9 59 v14.toNatClampNeg) fun (v15 : Int32) => gi v12 386 <| nm (mset μ9 54 v12.toNatClampNeg v15) fun (μ16 : Mem) => nm (x3 + 1) fun (v17 : Int32) => bk x1 v17 μ16)))
def f_X8_weightsBy_53_L18 : Nat → Int32 → Int32 → Mem → Res
  | 0, _, _, _ => none
  | n + 1, x1, x3, σ => fb_X8_weightsBy_53_L18 (f_X8_weightsBy_53_L18 n) x1 x3 σ
def f_X8_weightsBy_53 (a0 : Int32) (σ : Mem) : Res := bd (f_X8_notThere_53 a0 σ) fun v1 μ2 => if v1 = 0 then (f_X8_weightsBy_53_L18 1000 a0 0 μ2) else (bd (f_X8_error_53 v1 μ2) fun v18 μ19 => some (v18, μ19))
set_option maxHeartbeats 4000000 in
set_option maxRecDepth 100000 in
theorem m_X8_weightsBy_53 {l : Launch} {σ : Mem} {Z : Int32 × Mem} {a0 : Int32} (hf : f_X8_weightsBy_53 a0 σ = some Z) : CT l yX8_weightsBy cX8_weightsBy 4 (some .int) 3 (fun ad => [.ref (ad 53), .int a0]) σ Z := by
  refine g_openT RX8 (by decide) rfl (fun _ => Nat.le_of_ble_eq_true rfl) (fun p e s m below meth c D cI cB ad st ls E Y hr hk hl => ?_)
  have hx := E.1.1
  have hb := E.1.2.1
  have hl : lv_has ls 4 [(0, .ref (ad 53)), (1, .int a0)] := hl
  have hL_18 : ∀ (n : Nat) (x1 : Int32) (x3 : Int32) (σ : Mem) (H : Heap) (locs : List Loc) (ls : Array Slot), f_X8_weightsBy_53_L18 n x1 x3 σ = some Z → Wo D cI cB ad (AA ad) σ s H locs → lv_has ls 4 [(0, .ref (ad 53)), (1, .int x1), (3, .int x3)] → W p l e (rmd 3) s m ([.ref (ad 53), .int a0] : List Value).toArray below meth c H locs 0 0 (QT_ below D cI cB ad st Z ([.ref (ad 53), .int a0] : List Value).toArray s) (F0 m 18 ls []) := by
    intro n
    induction n with
    | zero =>
      intro x1 x3 σ H locs ls hf
      cases (show (none : Res) = some Z from hf)
    | succ n ih =>
      intro x1 x3 σ H locs ls hf Y hl
      have hf : fb_X8_weightsBy_53_L18 (f_X8_weightsBy_53_L18 n) x1 x3 σ = some Z := hf
      unfold fb_X8_weightsBy_53_L18 at hf
      refine lv_iload_n (pc := 18) hx hb dX8_weightsBy_18 rfl (lv_at hl 2 rfl) ?_
      refine lv_aload_n (pc := 19) hx hb dX8_weightsBy_19 rfl (lv_at hl 0 rfl) ?_
      refine g_getr (pc := 20) E Y 53 5 58 S_53 rfl V_8 (by decide) AL_X8 q_349 dX8_weightsBy_20 ?_
      refine lv_iload_n (pc := 23) hx hb dX8_weightsBy_23 rfl (lv_at hl 1 rfl) ?_
      refine g_iald (pc := 24) E Y 58 S_58 dX8_weightsBy_24 hf (fun v3 hf => ?_)
      refine g_icmp_ge (pc := 25) (tgt := 89) E dX8_weightsBy_25 (by decide) hf (fun hf => ?_) (fun hf => ?_)
      · refine lv_iload_n (pc := 89) hx hb dX8_weightsBy_89 rfl (lv_at hl 2 rfl) ?_
        exact g_iret (pc := 90) E Y hr hk dX8_weightsBy_90 hf
      · refine lv_iload_n (pc := 28) hx hb dX8_weightsBy_28 rfl (lv_at hl 2 rfl) ?_
        refine lv_aload_n (pc := 29) hx hb dX8_weightsBy_29 rfl (lv_at hl 0 rfl) ?_
        refine g_getr (pc := 30) E Y 53 0 54 S_53 rfl V_8 (by decide) AL_X8 q_358 dX8_weightsBy_30 ?_
        refine lv_bipush (pc := 33) (v := 7) hx hb dX8_weightsBy_33 (by decide) ?_
        refine g_iald (pc := 35) E Y 54 S_54 dX8_weightsBy_35 hf (fun v4 hf => ?_)
        refine g_icmp_ge (pc := 36) (tgt := 89) E dX8_weightsBy_36 (by decide) hf (fun hf => ?_) (fun hf => ?_)
        · refine lv_iload_n (pc := 89) hx hb dX8_weightsBy_89 rfl (lv_at hl 2 rfl) ?_
          exact g_iret (pc := 90) E Y hr hk dX8_weightsBy_90 hf
        · refine lv_aload_n (pc := 39) hx hb dX8_weightsBy_39 rfl (lv_at hl 0 rfl) ?_
          refine g_getr (pc := 40) E Y 53 6 59 S_53 rfl V_8 (by decide) AL_X8 q_351 dX8_weightsBy_40 ?_
          refine lv_bipush (pc := 43) (v := 24) hx hb dX8_weightsBy_43 (by decide) ?_
          refine lv_iload_n (pc := 45) hx hb dX8_weightsBy_45 rfl (lv_at hl 1 rfl) ?_
          refine g_imul (pc := 46) E dX8_weightsBy_46 hf (fun v5 hf => ?_)
          refine lv_iload_n (pc := 47) hx hb dX8_weightsBy_47 rfl (lv_at hl 2 rfl) ?_
          refine g_iadd (pc := 48) E dX8_weightsBy_48 hf (fun v6 hf => ?_)
          refine g_iald (pc := 49) E Y 59 S_59 dX8_weightsBy_49 hf (fun v7 hf => ?_)
          refine lv_iconst (pc := 50) (v := 0) hx hb dX8_weightsBy_50 (by decide) ?_
          refine lv_bipush (pc := 51) (v := 9) hx hb dX8_weightsBy_51 (by decide) ?_
          refine g_callSi (pc := 53) E Y o_X8_in q_707 [.int v7, .int 0, .int 9] rfl rfl (hR_of (by omega) (by decide)) hl.1 (rest := []) rfl (Nat.le_of_ble_eq_true rfl) dX8_weightsBy_53 (fun z hz => m_X8_in hz) hf (fun v8 μ9 H locs hf Y => ?_)
          refine g_if_eq (pc := 56) (tgt := 89) E dX8_weightsBy_56 (by decide) hf (fun hf => ?_) (fun hf => ?_)
          · refine lv_iload_n (pc := 89) hx hb dX8_weightsBy_89 rfl (lv_at hl 2 rfl) ?_
            exact g_iret (pc := 90) E Y hr hk dX8_weightsBy_90 hf
          · refine lv_aload_n (pc := 59) hx hb dX8_weightsBy_59 rfl (lv_at hl 0 rfl) ?_
            refine g_getr (pc := 60) E Y 53 0 54 S_53 rfl V_8 (by decide) AL_X8 q_358 dX8_weightsBy_60 ?_
            refine lv_bipush (pc := 63) (v := 11) hx hb dX8_weightsBy_63 (by decide) ?_
            refine lv_iconst (pc := 65) (v := 4) hx hb dX8_weightsBy_65 (by decide) ?_
            refine lv_iload_n (pc := 66) hx hb dX8_weightsBy_66 rfl (lv_at hl 2 rfl) ?_
            refine g_imul (pc := 67) E dX8_weightsBy_67 hf (fun v10 hf => ?_)
            refine g_iadd (pc := 68) E dX8_weightsBy_68 hf (fun v11 hf => ?_)
            refine lv_iconst (pc := 69) (v := 2) hx hb dX8_weightsBy_69 (by decide) ?_
            refine g_iadd (pc := 70) E dX8_weightsBy_70 hf (fun v12 hf => ?_)
            refine lv_aload_n (pc := 71) hx hb dX8_weightsBy_71 rfl (lv_at hl 0 rfl) ?_
            refine g_getr (pc := 72) E Y 53 6 59 S_53 rfl V_8 (by decide) AL_X8 q_351 dX8_weightsBy_72 ?_
            refine lv_bipush (pc := 75) (v := 24) hx hb dX8_weightsBy_75 (by decide) ?_
            refine lv_iload_n (pc := 77) hx hb dX8_weightsBy_77 rfl (lv_at hl 1 rfl) ?_
            refine g_imul (pc := 78) E dX8_weightsBy_78 hf (fun v13 hf => ?_)
            refine lv_iload_n (pc := 79) hx hb dX8_weightsBy_79 rfl (lv_at hl 2 rfl) ?_
            refine g_iadd (pc := 80) E dX8_weightsBy_80 hf (fun v14 hf => ?_)
            refine g_iald (pc := 81) E Y 59 S_59 dX8_weightsBy_81 hf (fun v15 hf => ?_)
            refine g_iast (pc := 82) E Y 54 S_54 dX8_weightsBy_82 hf (fun μ16 H locs hf Y => ?_)
            refine g_iinc (pc := 83) E (fun v17 => [(3, .int v17), (0, .ref (ad 53)), (1, .int x1)]) dX8_weightsBy_83 hl (k := 2) rfl (t := 1) (by decide) (by decide) (fun _ => rfl) hf (fun v17 hf ls hl => ?_)
            refine lv_goto (pc := 86) (tgt := 18) hx hb dX8_weightsBy_86 (by decide) ?_
            exact ih _ _ _ _ _ _ hf Y (lv_sub hl [1, 2, 0] rfl)
  unfold f_X8_weightsBy_53 at hf
  refine lv_aload_n (pc := 0) hx hb dX8_weightsBy_0 rfl (lv_at hl 0 rfl) ?_
  refine lv_iload_n (pc := 1) hx hb dX8_weightsBy_1 rfl (lv_at hl 1 rfl) ?_
  refine g_callVi (pc := 2) E Y 53 S_53 V_8 o_X8_notThere q_703 [.int a0] rfl rfl (hR_of (by omega) (by decide)) hl.1 (rest := []) rfl (Nat.le_of_ble_eq_true rfl) dX8_weightsBy_2 (fun z hz => m_X8_notThere_53 hz) hf (fun v1 μ2 H locs hf Y => ?_)
  refine lv_istore_n (pc := 5) (lv' := [(2, .int v1), (0, .ref (ad 53)), (1, .int a0)]) hx hb dX8_weightsBy_5 rfl hl (by decide) rfl (fun ls hl => ?_)
  refine lv_iload_n (pc := 6) hx hb dX8_weightsBy_6 rfl (lv_at hl 0 rfl) ?_
  refine g_if_eq (pc := 7) (tgt := 16) E dX8_weightsBy_7 (by decide) hf (fun hf => ?_) (fun hf => ?_)
  · refine lv_iconst (pc := 16) (v := 0) hx hb dX8_weightsBy_16 (by decide) ?_
    refine lv_istore_n (pc := 17) (lv' := [(3, .int 0), (2, .int v1), (0, .ref (ad 53)), (1, .int a0)]) hx hb dX8_weightsBy_17 rfl hl (by decide) rfl (fun ls hl => ?_)
    exact hL_18 1000 _ _ _ _ _ _ hf Y (lv_sub hl [2, 3, 0] rfl)
  · refine lv_aload_n (pc := 10) hx hb dX8_weightsBy_10 rfl (lv_at hl 1 rfl) ?_
    refine lv_iload_n (pc := 11) hx hb dX8_weightsBy_11 rfl (lv_at hl 0 rfl) ?_
    refine g_callVi (pc := 12) E Y 53 S_53 V_8 o_X8_error q_716 [.int v1] rfl rfl (hR_of (by omega) (by decide)) hl.1 (rest := []) rfl (Nat.le_of_ble_eq_true rfl) dX8_weightsBy_12 (fun z hz => m_X8_error_53 hz) hf (fun v18 μ19 H locs hf Y => ?_)
    exact g_iret (pc := 15) E Y hr hk dX8_weightsBy_15 hf
