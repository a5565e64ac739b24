/-! methods, by program: a pure program and its contract each -/
def fb_X8_text_53_L119 (bk : Int32 → Int32 → Mem → Res) (x2 : Int32) (x3 : Int32) (σ : Mem) : Res := nm (σ 53 11) fun (v18 : Int32) => if v18 ≤ x3 then (some (1, σ)) else (nm (x2 + 1) fun (v19 : Int32) => nm (v19 + x3) fun (v20 : Int32) => gi x3 60 <| nm (σ 60 x3.toNatClampNeg) fun (v21 : Int32) => gi v20 386 <| nm (mset σ 54 v20.toNatClampNeg v21) fun (μ22 : Mem) => nm (x2 + 61) fun (v23 : Int32) => nm (v23 + x3) fun (v24 : Int32) => gi x3 60 <| nm (μ22 61 x3.toNatClampNeg) fun (v25 : Int32) => gi v24 386 <| nm (mset μ22 54 v24.toNatClampNeg v25) fun (μ26 : Mem) => nm (x3 + 1) fun (v27 : Int32) => bk x2 v27 μ26)
def f_X8_text_53_L119 : Nat → Int32 → Int32 → Mem → Res
  | 0, _, _, _ => none
  | n + 1, x2, x3, σ => fb_X8_text_53_L119 (f_X8_text_53_L119 n) x2 x3 σ
def f_X8_text_53 (a0 : Int32) (σ : Mem) : Res := bd (f_X8_in a0 0 1 σ) fun v1 μ2 => if v1 = 0 then (bd (f_X8_error_53 (-1000000001) μ2) fun v50 μ51 => some (v50, μ51)) else (nm (mset μ2 53 15 a0) fun (μ3 : Mem) => nm (mset μ3 53 11 0) fun (μ4 : Mem) => nm (mset μ4 53 12 0) fun (μ5 : Mem) => nm (mset μ5 53 13 0) fun (μ6 : Mem) => gb 0 <| nm (mset μ6 53 14 0) fun (μ7 : Mem) => bd (f_X8_any_53 (f_X8_opens_53 8) μ7) fun v8 μ9 => nm (μ9 53 14) fun (v10 : Int32) => if v10 = 0 then (nm (μ9 53 12) fun (v30 : Int32) => gi 9 386 <| nm (μ9 54 (9 : Int32).toNatClampNeg) fun (v31 : Int32) => if v31 ≤ v30 then (gb 0 <| nm (mset μ9 53 14 0) fun (μ32 : Mem) => gi 9 386 <| nm (mset μ32 54 (9 : Int32).toNatClampNeg 0) fun (μ33 : Mem) => nm (μ33 53 14) fun (v34 : Int32) => if v34 = 0 then (nm (121 * a0) fun (v35 : Int32) => nm (144 + v35) fun (v36 : Int32) => nm (μ33 53 11) fun (v37 : Int32) => gi v36 386 <| nm (mset μ33 54 v36.toNatClampNeg v37) fun (μ38 : Mem) => f_X8_text_53_L119 1000 v36 0 μ38) else (nm (μ33 53 12) fun (v39 : Int32) => nm ((-10) - v39) fun (v40 : Int32) => some (v40, μ33))) else (gb 1 <| nm (mset μ9 53 14 1) fun (μ41 : Mem) => gi 9 386 <| nm (mset μ41 54 (9 : Int32).toNatClampNeg 0) fun (μ42 : Mem) => nm (μ42 53 14) fun (v43 : Int32) => if v43 = 0 then (nm (121 * a0) fun (v44 : Int32) => nm (144 + v44) fun (v45 : Int32) => nm (μ42 53 11) fun (v46 : Int32) => gi v45 386 <| nm (mset μ42 54 v45.toNatClampNeg v46) fun (μ47 : Mem) => f_X8_text_53_L119 1000 v45 0 μ47) else (nm (μ42 53 12) fun (v48 : Int32) => nm ((-10) - v48) fun (v49 : Int32) => some (v49, μ42)))) else (gb 1 <| nm (mset μ9 53 14 1) fun (μ11 : Mem) => gi 9 386 <| nm (mset μ11 54 (9 : Int32).toNatClampNeg 0) fun (μ12 : Mem) => nm (μ12 53 14) fun (v13 : Int32) => if v13 = 0 then (nm (121 * a0) fun (v14 : Int32) => nm (144 + v14) fun (v15 : Int32) => nm (μ12 53 11) fun (v16 : Int32) => gi v15 386 <| nm (mset μ12 54 v15.toNatClampNeg v16) fun (μ17 : Mem) => f_X8_text_53_L119 1000 v15 0 μ17) else (nm (μ12 53 12) fun (v28 : Int32) => nm ((-10) - v28) fun (v29 : Int32) => some (v29, μ12))))
set_option maxHeartbeats 4000000 in
set_option maxRecDepth 100000 in
theorem m_X8_text_53 {l : Launch} {σ : Mem} {Z : Int32 × Mem} {a0 : Int32} (hf : f_X8_text_53 a0 σ = some Z) : CT l yX8_text cX8_text 4 (some .int) 73 (fun ad => [.ref (ad 53), .int a0]) σ Z := by
  refine g_openT RX8 (by decide) rfl (fun _ => Nat.le_of_ble_eq_true rfl) (fun p e s m below meth c D cI cB ad st ls E Y hr hk hl => ?_)
  have hx := E.1.1
  have hb := E.1.2.1
  have hl : lv_has ls 4 [(0, .ref (ad 53)), (1, .int a0)] := hl
  have hL_119 : ∀ (n : Nat) (x2 : Int32) (x3 : Int32) (σ : Mem) (H : Heap) (locs : List Loc) (ls : Array Slot), f_X8_text_53_L119 n x2 x3 σ = some Z → Wo D cI cB ad (AA ad) σ s H locs → lv_has ls 4 [(0, .ref (ad 53)), (2, .int x2), (3, .int x3)] → W p l e (rmd 73) s m ([.ref (ad 53), .int a0] : List Value).toArray below meth c H locs 0 0 (QT_ below D cI cB ad st Z ([.ref (ad 53), .int a0] : List Value).toArray s) (F0 m 119 ls []) := by
    intro n
    induction n with
    | zero =>
      intro x2 x3 σ H locs ls hf
      cases (show (none : Res) = some Z from hf)
    | succ n ih =>
      intro x2 x3 σ H locs ls hf Y hl
      have hf : fb_X8_text_53_L119 (f_X8_text_53_L119 n) x2 x3 σ = some Z := hf
      unfold fb_X8_text_53_L119 at hf
      refine lv_iload_n (pc := 119) hx hb dX8_text_119 rfl (lv_at hl 2 rfl) ?_
      refine lv_aload_n (pc := 120) hx hb dX8_text_120 rfl (lv_at hl 0 rfl) ?_
      refine g_geti (pc := 121) E Y 53 11 S_53 rfl V_8 (by decide) AL_X8 q_342 dX8_text_121 hf (fun v18 hf => ?_)
      refine g_icmp_ge (pc := 124) (tgt := 166) E dX8_text_124 (by decide) hf (fun hf => ?_) (fun hf => ?_)
      · refine lv_iconst (pc := 166) (v := 1) hx hb dX8_text_166 (by decide) ?_
        exact g_iret (pc := 167) E Y hr hk dX8_text_167 hf
      · refine lv_aload_n (pc := 127) hx hb dX8_text_127 rfl (lv_at hl 0 rfl) ?_
        refine g_getr (pc := 128) E Y 53 0 54 S_53 rfl V_8 (by decide) AL_X8 q_358 dX8_text_128 ?_
        refine lv_iload_n (pc := 131) hx hb dX8_text_131 rfl (lv_at hl 1 rfl) ?_
        refine lv_iconst (pc := 132) (v := 1) hx hb dX8_text_132 (by decide) ?_
        refine g_iadd (pc := 133) E dX8_text_133 hf (fun v19 hf => ?_)
        refine lv_iload_n (pc := 134) hx hb dX8_text_134 rfl (lv_at hl 2 rfl) ?_
        refine g_iadd (pc := 135) E dX8_text_135 hf (fun v20 hf => ?_)
        refine lv_aload_n (pc := 136) hx hb dX8_text_136 rfl (lv_at hl 0 rfl) ?_
        refine g_getr (pc := 137) E Y 53 7 60 S_53 rfl V_8 (by decide) AL_X8 q_353 dX8_text_137 ?_
        refine lv_iload_n (pc := 140) hx hb dX8_text_140 rfl (lv_at hl 2 rfl) ?_
        refine g_iald (pc := 141) E Y 60 S_60 dX8_text_141 hf (fun v21 hf => ?_)
        refine g_iast (pc := 142) E Y 54 S_54 dX8_text_142 hf (fun μ22 H locs hf Y => ?_)
        refine lv_aload_n (pc := 143) hx hb dX8_text_143 rfl (lv_at hl 0 rfl) ?_
        refine g_getr (pc := 144) E Y 53 0 54 S_53 rfl V_8 (by decide) AL_X8 q_358 dX8_text_144 ?_
        refine lv_iload_n (pc := 147) hx hb dX8_text_147 rfl (lv_at hl 1 rfl) ?_
        refine lv_bipush (pc := 148) (v := 61) hx hb dX8_text_148 (by decide) ?_
        refine g_iadd (pc := 150) E dX8_text_150 hf (fun v23 hf => ?_)
        refine lv_iload_n (pc := 151) hx hb dX8_text_151 rfl (lv_at hl 2 rfl) ?_
        refine g_iadd (pc := 152) E dX8_text_152 hf (fun v24 hf => ?_)
        refine lv_aload_n (pc := 153) hx hb dX8_text_153 rfl (lv_at hl 0 rfl) ?_
        refine g_getr (pc := 154) E Y 53 8 61 S_53 rfl V_8 (by decide) AL_X8 q_354 dX8_text_154 ?_
        refine lv_iload_n (pc := 157) hx hb dX8_text_157 rfl (lv_at hl 2 rfl) ?_
        refine g_iald (pc := 158) E Y 61 S_61 dX8_text_158 hf (fun v25 hf => ?_)
        refine g_iast (pc := 159) E Y 54 S_54 dX8_text_159 hf (fun μ26 H locs hf Y => ?_)
        refine g_iinc (pc := 160) E (fun v27 => [(3, .int v27), (0, .ref (ad 53)), (2, .int x2)]) dX8_text_160 hl (k := 2) rfl (t := 1) (by decide) (by decide) (fun _ => rfl) hf (fun v27 hf ls hl => ?_)
        refine lv_goto (pc := 163) (tgt := 119) hx hb dX8_text_163 (by decide) ?_
        exact ih _ _ _ _ _ _ hf Y (lv_sub hl [1, 2, 0] rfl)
  unfold f_X8_text_53 at hf
  refine lv_iload_n (pc := 0) hx hb dX8_text_0 rfl (lv_at hl 1 rfl) ?_
  refine lv_iconst (pc := 1) (v := 0) hx hb dX8_text_1 (by decide) ?_
  refine lv_iconst (pc := 2) (v := 1) hx hb dX8_text_2 (by decide) ?_
  refine g_callSi (pc := 3) E Y o_X8_in q_707 [.int a0, .int 0, .int 1] rfl rfl (hR_of (by omega) (by decide)) hl.1 (rest := []) rfl (Nat.le_of_ble_eq_true rfl) dX8_text_3 (fun z hz => m_X8_in hz) hf (fun v1 μ2 H locs hf Y => ?_)
  refine g_if_ne (pc := 6) (tgt := 16) E dX8_text_6 (by decide) hf (fun hf => ?_) (fun hf => ?_)
  · refine lv_aload_n (pc := 16) hx hb dX8_text_16 rfl (lv_at hl 0 rfl) ?_
    refine lv_iload_n (pc := 17) hx hb dX8_text_17 rfl (lv_at hl 1 rfl) ?_
    refine g_put (pc := 18) E Y 53 15 S_53 rfl V_8 (by decide) AL_X8 tyX8 tyX8_ok nmX8 q_343 rfl rfl rfl dX8_text_18 hf (fun μ3 H locs hf Y => ?_)
    refine lv_aload_n (pc := 21) hx hb dX8_text_21 rfl (lv_at hl 0 rfl) ?_
    refine lv_iconst (pc := 22) (v := 0) hx hb dX8_text_22 (by decide) ?_
    refine g_put (pc := 23) E Y 53 11 S_53 rfl V_8 (by decide) AL_X8 tyX8 tyX8_ok nmX8 q_342 rfl rfl rfl dX8_text_23 hf (fun μ4 H locs hf Y => ?_)
    refine lv_aload_n (pc := 26) hx hb dX8_text_26 rfl (lv_at hl 0 rfl) ?_
    refine lv_iconst (pc := 27) (v := 0) hx hb dX8_text_27 (by decide) ?_
    refine g_put (pc := 28) E Y 53 12 S_53 rfl V_8 (by decide) AL_X8 tyX8 tyX8_ok nmX8 q_340 rfl rfl rfl dX8_text_28 hf (fun μ5 H locs hf Y => ?_)
    refine lv_aload_n (pc := 31) hx hb dX8_text_31 rfl (lv_at hl 0 rfl) ?_
    refine lv_iconst (pc := 32) (v := 0) hx hb dX8_text_32 (by decide) ?_
    refine g_put (pc := 33) E Y 53 13 S_53 rfl V_8 (by decide) AL_X8 tyX8 tyX8_ok nmX8 q_345 rfl rfl rfl dX8_text_33 hf (fun μ6 H locs hf Y => ?_)
    refine lv_aload_n (pc := 36) hx hb dX8_text_36 rfl (lv_at hl 0 rfl) ?_
    refine lv_iconst (pc := 37) (v := 0) hx hb dX8_text_37 (by decide) ?_
    obtain ⟨h01, hf⟩ := gb_some hf
    refine g_put (pc := 38) E Y 53 14 S_53 rfl V_8 (by decide) AL_X8 tyX8 tyX8_ok nmX8 q_344 rfl (nar01 h01) (fit01 h01) dX8_text_38 hf (fun μ7 H locs hf Y => ?_)
    refine lv_aload_n (pc := 41) hx hb dX8_text_41 rfl (lv_at hl 0 rfl) ?_
    refine g_callVv (pc := 42) E Y 53 S_53 V_8 o_X8_any q_673 [] rfl rfl (hR_of (by omega) (by decide)) hl.1 (rest := []) rfl (Nat.le_of_ble_eq_true rfl) dX8_text_42 (fun z hz => m_X8_any_53 (dr := 66) (by decide) (fun _ _ _ hz => m_X8_opens_53 8 hz) hz) hf (fun v8 μ9 H locs hf Y => ?_)
    refine lv_aload_n (pc := 45) hx hb dX8_text_45 rfl (lv_at hl 0 rfl) ?_
    refine lv_aload_n (pc := 46) hx hb dX8_text_46 rfl (lv_at hl 0 rfl) ?_
    refine g_geti (pc := 47) E Y 53 14 S_53 rfl V_8 (by decide) AL_X8 q_344 dX8_text_47 hf (fun v10 hf => ?_)
    refine g_if_ne (pc := 50) (tgt := 67) E dX8_text_50 (by decide) hf (fun hf => ?_) (fun hf => ?_)
    · refine lv_iconst (pc := 67) (v := 1) hx hb dX8_text_67 (by decide) ?_
      refine lv_goto (pc := 68) (tgt := 72) hx hb dX8_text_68 (by decide) ?_
      obtain ⟨h01, hf⟩ := gb_some hf
      refine g_put (pc := 72) E Y 53 14 S_53 rfl V_8 (by decide) AL_X8 tyX8 tyX8_ok nmX8 q_344 rfl (nar01 h01) (fit01 h01) dX8_text_72 hf (fun μ11 H locs hf Y => ?_)
      refine lv_aload_n (pc := 75) hx hb dX8_text_75 rfl (lv_at hl 0 rfl) ?_
      refine g_getr (pc := 76) E Y 53 0 54 S_53 rfl V_8 (by decide) AL_X8 q_358 dX8_text_76 ?_
      refine lv_bipush (pc := 79) (v := 9) hx hb dX8_text_79 (by decide) ?_
      refine lv_iconst (pc := 81) (v := 0) hx hb dX8_text_81 (by decide) ?_
      refine g_iast (pc := 82) E Y 54 S_54 dX8_text_82 hf (fun μ12 H locs hf Y => ?_)
      refine lv_aload_n (pc := 83) hx hb dX8_text_83 rfl (lv_at hl 0 rfl) ?_
      refine g_geti (pc := 84) E Y 53 14 S_53 rfl V_8 (by decide) AL_X8 q_344 dX8_text_84 hf (fun v13 hf => ?_)
      refine g_if_eq (pc := 87) (tgt := 98) E dX8_text_87 (by decide) hf (fun hf => ?_) (fun hf => ?_)
      · refine lv_sipush (pc := 98) (v := 144) hx hb dX8_text_98 (by decide) ?_
        refine lv_bipush (pc := 101) (v := 121) hx hb dX8_text_101 (by decide) ?_
        refine lv_iload_n (pc := 103) hx hb dX8_text_103 rfl (lv_at hl 1 rfl) ?_
        refine g_imul (pc := 104) E dX8_text_104 hf (fun v14 hf => ?_)
        refine g_iadd (pc := 105) E dX8_text_105 hf (fun v15 hf => ?_)
        refine lv_istore_n (pc := 106) (lv' := [(2, .int v15), (0, .ref (ad 53)), (1, .int a0)]) hx hb dX8_text_106 rfl hl (by decide) rfl (fun ls hl => ?_)
        refine lv_aload_n (pc := 107) hx hb dX8_text_107 rfl (lv_at hl 1 rfl) ?_
        refine g_getr (pc := 108) E Y 53 0 54 S_53 rfl V_8 (by decide) AL_X8 q_358 dX8_text_108 ?_
        refine lv_iload_n (pc := 111) hx hb dX8_text_111 rfl (lv_at hl 0 rfl) ?_
        refine lv_aload_n (pc := 112) hx hb dX8_text_112 rfl (lv_at hl 1 rfl) ?_
        refine g_geti (pc := 113) E Y 53 11 S_53 rfl V_8 (by decide) AL_X8 q_342 dX8_text_113 hf (fun v16 hf => ?_)
        refine g_iast (pc := 116) E Y 54 S_54 dX8_text_116 hf (fun μ17 H locs hf Y => ?_)
        refine lv_iconst (pc := 117) (v := 0) hx hb dX8_text_117 (by decide) ?_
        refine lv_istore_n (pc := 118) (lv' := [(3, .int 0), (2, .int v15), (0, .ref (ad 53)), (1, .int a0)]) hx hb dX8_text_118 rfl hl (by decide) rfl (fun ls hl => ?_)
        exact hL_119 1000 _ _ _ _ _ _ hf Y (lv_sub hl [2, 1, 0] rfl)
      · refine lv_bipush (pc := 90) (v := (-10)) hx hb dX8_text_90 (by decide) ?_
        refine lv_aload_n (pc := 92) hx hb dX8_text_92 rfl (lv_at hl 0 rfl) ?_
        refine g_geti (pc := 93) E Y 53 12 S_53 rfl V_8 (by decide) AL_X8 q_340 dX8_text_93 hf (fun v28 hf => ?_)
        refine g_isub (pc := 96) E dX8_text_96 hf (fun v29 hf => ?_)
        exact g_iret (pc := 97) E Y hr hk dX8_text_97 hf
    · refine lv_aload_n (pc := 53) hx hb dX8_text_53 rfl (lv_at hl 0 rfl) ?_
      refine g_geti (pc := 54) E Y 53 12 S_53 rfl V_8 (by decide) AL_X8 q_340 dX8_text_54 hf (fun v30 hf => ?_)
      refine lv_aload_n (pc := 57) hx hb dX8_text_57 rfl (lv_at hl 0 rfl) ?_
      refine g_getr (pc := 58) E Y 53 0 54 S_53 rfl V_8 (by decide) AL_X8 q_358 dX8_text_58 ?_
      refine lv_bipush (pc := 61) (v := 9) hx hb dX8_text_61 (by decide) ?_
      refine g_iald (pc := 63) E Y 54 S_54 dX8_text_63 hf (fun v31 hf => ?_)
      refine g_icmp_ge (pc := 64) (tgt := 71) E dX8_text_64 (by decide) hf (fun hf => ?_) (fun hf => ?_)
      · refine lv_iconst (pc := 71) (v := 0) hx hb dX8_text_71 (by decide) ?_
        obtain ⟨h01, hf⟩ := gb_some hf
        refine g_put (pc := 72) E Y 53 14 S_53 rfl V_8 (by decide) AL_X8 tyX8 tyX8_ok nmX8 q_344 rfl (nar01 h01) (fit01 h01) dX8_text_72 hf (fun μ32 H locs hf Y => ?_)
        refine lv_aload_n (pc := 75) hx hb dX8_text_75 rfl (lv_at hl 0 rfl) ?_
        refine g_getr (pc := 76) E Y 53 0 54 S_53 rfl V_8 (by decide) AL_X8 q_358 dX8_text_76 ?_
        refine lv_bipush (pc := 79) (v := 9) hx hb dX8_text_79 (by decide) ?_
        refine lv_iconst (pc := 81) (v := 0) hx hb dX8_text_81 (by decide) ?_
        refine g_iast (pc := 82) E Y 54 S_54 dX8_text_82 hf (fun μ33 H locs hf Y => ?_)
        refine lv_aload_n (pc := 83) hx hb dX8_text_83 rfl (lv_at hl 0 rfl) ?_
        refine g_geti (pc := 84) E Y 53 14 S_53 rfl V_8 (by decide) AL_X8 q_344 dX8_text_84 hf (fun v34 hf => ?_)
        refine g_if_eq (pc := 87) (tgt := 98) E dX8_text_87 (by decide) hf (fun hf => ?_) (fun hf => ?_)
        · refine lv_sipush (pc := 98) (v := 144) hx hb dX8_text_98 (by decide) ?_
          refine lv_bipush (pc := 101) (v := 121) hx hb dX8_text_101 (by decide) ?_
          refine lv_iload_n (pc := 103) hx hb dX8_text_103 rfl (lv_at hl 1 rfl) ?_
          refine g_imul (pc := 104) E dX8_text_104 hf (fun v35 hf => ?_)
          refine g_iadd (pc := 105) E dX8_text_105 hf (fun v36 hf => ?_)
          refine lv_istore_n (pc := 106) (lv' := [(2, .int v36), (0, .ref (ad 53)), (1, .int a0)]) hx hb dX8_text_106 rfl hl (by decide) rfl (fun ls hl => ?_)
          refine lv_aload_n (pc := 107) hx hb dX8_text_107 rfl (lv_at hl 1 rfl) ?_
          refine g_getr (pc := 108) E Y 53 0 54 S_53 rfl V_8 (by decide) AL_X8 q_358 dX8_text_108 ?_
          refine lv_iload_n (pc := 111) hx hb dX8_text_111 rfl (lv_at hl 0 rfl) ?_
          refine lv_aload_n (pc := 112) hx hb dX8_text_112 rfl (lv_at hl 1 rfl) ?_
          refine g_geti (pc := 113) E Y 53 11 S_53 rfl V_8 (by decide) AL_X8 q_342 dX8_text_113 hf (fun v37 hf => ?_)
          refine g_iast (pc := 116) E Y 54 S_54 dX8_text_116 hf (fun μ38 H locs hf Y => ?_)
          refine lv_iconst (pc := 117) (v := 0) hx hb dX8_text_117 (by decide) ?_
          refine lv_istore_n (pc := 118) (lv' := [(3, .int 0), (2, .int v36), (0, .ref (ad 53)), (1, .int a0)]) hx hb dX8_text_118 rfl hl (by decide) rfl (fun ls hl => ?_)
          exact hL_119 1000 _ _ _ _ _ _ hf Y (lv_sub hl [2, 1, 0] rfl)
        · refine lv_bipush (pc := 90) (v := (-10)) hx hb dX8_text_90 (by decide) ?_
          refine lv_aload_n (pc := 92) hx hb dX8_text_92 rfl (lv_at hl 0 rfl) ?_
          refine g_geti (pc := 93) E Y 53 12 S_53 rfl V_8 (by decide) AL_X8 q_340 dX8_text_93 hf (fun v39 hf => ?_)
          refine g_isub (pc := 96) E dX8_text_96 hf (fun v40 hf => ?_)
          exact g_iret (pc := 97) E Y hr hk dX8_text_97 hf
      · refine lv_iconst (pc := 67) (v := 1) hx hb dX8_text_67 (by decide) ?_
        refine lv_goto (pc := 68) (tgt := 72) hx hb dX8_text_68 (by decide) ?_
        obtain ⟨h01, hf⟩ := gb_some hf
        refine g_put (pc := 72) E Y 53 14 S_53 rfl V_8 (by decide) AL_X8 tyX8 tyX8_ok nmX8 q_344 rfl (nar01 h01) (fit01 h01) dX8_text_72 hf (fun μ41 H locs hf Y => ?_)
        refine lv_aload_n (pc := 75) hx hb dX8_text_75 rfl (lv_at hl 0 rfl) ?_
        refine g_getr (pc := 76) E Y 53 0 54 S_53 rfl V_8 (by decide) AL_X8 q_358 dX8_text_76 ?_
        refine lv_bipush (pc := 79) (v := 9) hx hb dX8_text_79 (by decide) ?_
        refine lv_iconst (pc := 81) (v := 0) hx hb dX8_text_81 (by decide) ?_
        refine g_iast (pc := 82) E Y 54 S_54 dX8_text_82 hf (fun μ42 H locs hf Y => ?_)
        refine lv_aload_n (pc := 83) hx hb dX8_text_83 rfl (lv_at hl 0 rfl) ?_
        refine g_geti (pc := 84) E Y 53 14 S_53 rfl V_8 (by decide) AL_X8 q_344 dX8_text_84 hf (fun v43 hf => ?_)
        refine g_if_eq (pc := 87) (tgt := 98) E dX8_text_87 (by decide) hf (fun hf => ?_) (fun hf => ?_)
        · refine lv_sipush (pc := 98) (v := 144) hx hb dX8_text_98 (by decide) ?_
          refine lv_bipush (pc := 101) (v := 121) hx hb dX8_text_101 (by decide) ?_
          refine lv_iload_n (pc := 103) hx hb dX8_text_103 rfl (lv_at hl 1 rfl) ?_
          refine g_imul (pc := 104) E dX8_text_104 hf (fun v44 hf => ?_)
          refine g_iadd (pc := 105) E dX8_text_105 hf (fun v45 hf => ?_)
          refine lv_istore_n (pc := 106) (lv' := [(2, .int v45), (0, .ref (ad 53)), (1, .int a0)]) hx hb dX8_text_106 rfl hl (by decide) rfl (fun ls hl => ?_)
          refine lv_aload_n (pc := 107) hx hb dX8_text_107 rfl (lv_at hl 1 rfl) ?_
          refine g_getr (pc := 108) E Y 53 0 54 S_53 rfl V_8 (by decide) AL_X8 q_358 dX8_text_108 ?_
          refine lv_iload_n (pc := 111) hx hb dX8_text_111 rfl (lv_at hl 0 rfl) ?_
          refine lv_aload_n (pc := 112) hx hb dX8_text_112 rfl (lv_at hl 1 rfl) ?_
          refine g_geti (pc := 113) E Y 53 11 S_53 rfl V_8 (by decide) AL_X8 q_342 dX8_text_113 hf (fun v46 hf => ?_)
          refine g_iast (pc := 116) E Y 54 S_54 dX8_text_116 hf (fun μ47 H locs hf Y => ?_)
          refine lv_iconst (pc := 117) (v := 0) hx hb dX8_text_117 (by decide) ?_
          refine lv_istore_n (pc := 118) (lv' := [(3, .int 0), (2, .int v45), (0, .ref (ad 53)), (1, .int a0)]) hx hb dX8_text_118 rfl hl (by decide) rfl (fun ls hl => ?_)
          exact hL_119 1000 _ _ _ _ _ _ hf Y (lv_sub hl [2, 1, 0] rfl)
        · refine lv_bipush (pc := 90) (v := (-10)) hx hb dX8_text_90 (by decide) ?_
          refine lv_aload_n (pc := 92) hx hb dX8_text_92 rfl (lv_at hl 0 rfl) ?_
          refine g_geti (pc := 93) E Y 53 12 S_53 rfl V_8 (by decide) AL_X8 q_340 dX8_text_93 hf (fun v48 hf => ?_)
          refine g_isub (pc := 96) E dX8_text_96 hf (fun v49 hf => ?_)
          exact g_iret (pc := 97) E Y hr hk dX8_text_97 hf
  · refine lv_aload_n (pc := 9) hx hb dX8_text_9 rfl (lv_at hl 0 rfl) ?_
    refine lv_ldc (pc := 10) (v := (-1000000001)) hx hb E.1.2.2.2.1 (E.1.2.2.2.2 _ q_238) dX8_text_10 ?_
    refine g_callVi (pc := 12) E Y 53 S_53 V_8 o_X8_error q_716 [.int (-1000000001)] rfl rfl (hR_of (by omega) (by decide)) hl.1 (rest := []) rfl (Nat.le_of_ble_eq_true rfl) dX8_text_12 (fun z hz => m_X8_error_53 hz) hf (fun v50 μ51 H locs hf Y => ?_)
    exact g_iret (pc := 15) E Y hr hk dX8_text_15 hf
def f_X8_untell_53 (a0 : Int32) (σ : Mem) : Res := bd (f_X8_in a0 0 1 σ) fun v1 μ2 => if v1 = 0 then (bd (f_X8_error_53 (-1000000001) μ2) fun v7 μ8 => some (v7, μ8)) else (nm (121 * a0) fun (v3 : Int32) => nm (144 + v3) fun (v4 : Int32) => bd (f_X8_becomes_53 v4 0 μ2) fun v5 μ6 => if v5 ≤ 0 then (some (0, μ6)) else (some (1, μ6)))
set_option maxHeartbeats 4000000 in
set_option maxRecDepth 100000 in
theorem m_X8_untell_53 {l : Launch} {σ : Mem} {Z : Int32 × Mem} {a0 : Int32} (hf : f_X8_untell_53 a0 σ = some Z) : CT l yX8_untell cX8_untell 2 (some .int) 1 (fun ad => [.ref (ad 53), .int a0]) σ Z := by
  refine g_openT RX8 (by decide) rfl (fun _ => Nat.le_of_ble_eq_true rfl) (fun p e s m below meth c D cI cB ad st ls E Y hr hk hl => ?_)
  have hx := E.1.1
  have hb := E.1.2.1
  have hl : lv_has ls 2 [(0, .ref (ad 53)), (1, .int a0)] := hl
  unfold f_X8_untell_53 at hf
  refine lv_iload_n (pc := 0) hx hb dX8_untell_0 rfl (lv_at hl 1 rfl) ?_
  refine lv_iconst (pc := 1) (v := 0) hx hb dX8_untell_1 (by decide) ?_
  refine lv_iconst (pc := 2) (v := 1) hx hb dX8_untell_2 (by decide) ?_
  refine g_callSi (pc := 3) E Y o_X8_in q_707 [.int a0, .int 0, .int 1] rfl rfl (hR_of (by omega) (by decide)) hl.1 (rest := []) rfl (Nat.le_of_ble_eq_true rfl) dX8_untell_3 (fun z hz => m_X8_in hz) hf (fun v1 μ2 H locs hf Y => ?_)
  refine g_if_ne (pc := 6) (tgt := 16) E dX8_untell_6 (by decide) hf (fun hf => ?_) (fun hf => ?_)
  · refine lv_aload_n (pc := 16) hx hb dX8_untell_16 rfl (lv_at hl 0 rfl) ?_
    refine lv_sipush (pc := 17) (v := 144) hx hb dX8_untell_17 (by decide) ?_
    refine lv_bipush (pc := 20) (v := 121) hx hb dX8_untell_20 (by decide) ?_
    refine lv_iload_n (pc := 22) hx hb dX8_untell_22 rfl (lv_at hl 1 rfl) ?_
    refine g_imul (pc := 23) E dX8_untell_23 hf (fun v3 hf => ?_)
    refine g_iadd (pc := 24) E dX8_untell_24 hf (fun v4 hf => ?_)
    refine lv_iconst (pc := 25) (v := 0) hx hb dX8_untell_25 (by decide) ?_
    refine g_callVi (pc := 26) E Y 53 S_53 V_8 o_X8_becomes q_719 [.int v4, .int 0] rfl rfl (hR_of (by omega) (by decide)) hl.1 (rest := []) rfl (Nat.le_of_ble_eq_true rfl) dX8_untell_26 (fun z hz => m_X8_becomes_53 hz) hf (fun v5 μ6 H locs hf Y => ?_)
    refine g_if_le (pc := 29) (tgt := 36) E dX8_untell_29 (by decide) hf (fun hf => ?_) (fun hf => ?_)
    · refine lv_iconst (pc := 36) (v := 0) hx hb dX8_untell_36 (by decide) ?_
      exact g_iret (pc := 37) E Y hr hk dX8_untell_37 hf
    · refine lv_iconst (pc := 32) (v := 1) hx hb dX8_untell_32 (by decide) ?_
      refine lv_goto (pc := 33) (tgt := 37) hx hb dX8_untell_33 (by decide) ?_
      exact g_iret (pc := 37) E Y hr hk dX8_untell_37 hf
  · refine lv_aload_n (pc := 9) hx hb dX8_untell_9 rfl (lv_at hl 0 rfl) ?_
    refine lv_ldc (pc := 10) (v := (-1000000001)) hx hb E.1.2.2.2.1 (E.1.2.2.2.2 _ q_238) dX8_untell_10 ?_
    refine g_callVi (pc := 12) E Y 53 S_53 V_8 o_X8_error q_716 [.int (-1000000001)] rfl rfl (hR_of (by omega) (by decide)) hl.1 (rest := []) rfl (Nat.le_of_ble_eq_true rfl) dX8_untell_12 (fun z hz => m_X8_error_53 hz) hf (fun v7 μ8 H locs hf Y => ?_)
    exact g_iret (pc := 15) E Y hr hk dX8_untell_15 hf
def f_X8_law_53 (a0 : Int32) (a1 : Int32) (a2 : Int32) (a3 : Int32) (σ : Mem) : Res := bd (f_X8_in a0 0 1 σ) fun v1 μ2 => if v1 = 0 then (bd (f_X8_error_53 (-1000000001) μ2) fun v3 μ4 => some (v3, μ4)) else (bd (f_X8_gives_53 a0 a1 a2 a3 μ2) fun v5 μ6 => some (v5, μ6))
set_option maxHeartbeats 4000000 in
set_option maxRecDepth 100000 in
theorem m_X8_law_53 {l : Launch} {σ : Mem} {Z : Int32 × Mem} {a0 : Int32} {a1 : Int32} {a2 : Int32} {a3 : Int32} (hf : f_X8_law_53 a0 a1 a2 a3 σ = some Z) : CT l yX8_law cX8_law 5 (some .int) 3 (fun ad => [.ref (ad 53), .int a0, .int a1, .int a2, .int a3]) σ Z := by
  refine g_openT RX8 (by decide) rfl (fun _ => Nat.le_of_ble_eq_true rfl) (fun p e s m below meth c D cI cB ad st ls E Y hr hk hl => ?_)
  have hx := E.1.1
  have hb := E.1.2.1
  have hl : lv_has ls 5 [(0, .ref (ad 53)), (1, .int a0), (2, .int a1), (3, .int a2), (4, .int a3)] := hl
  unfold f_X8_law_53 at hf
  refine lv_iload_n (pc := 0) hx hb dX8_law_0 rfl (lv_at hl 1 rfl) ?_
  refine lv_iconst (pc := 1) (v := 0) hx hb dX8_law_1 (by decide) ?_
  refine lv_iconst (pc := 2) (v := 1) hx hb dX8_law_2 (by decide) ?_
  refine g_callSi (pc := 3) E Y o_X8_in q_707 [.int a0, .int 0, .int 1] rfl rfl (hR_of (by omega) (by decide)) hl.1 (rest := []) rfl (Nat.le_of_ble_eq_true rfl) dX8_law_3 (fun z hz => m_X8_in hz) hf (fun v1 μ2 H locs hf Y => ?_)
  refine g_if_eq (pc := 6) (tgt := 21) E dX8_law_6 (by decide) hf (fun hf => ?_) (fun hf => ?_)
  · refine lv_aload_n (pc := 21) hx hb dX8_law_21 rfl (lv_at hl 0 rfl) ?_
    refine lv_ldc (pc := 22) (v := (-1000000001)) hx hb E.1.2.2.2.1 (E.1.2.2.2.2 _ q_238) dX8_law_22 ?_
    refine g_callVi (pc := 24) E Y 53 S_53 V_8 o_X8_error q_716 [.int (-1000000001)] rfl rfl (hR_of (by omega) (by decide)) hl.1 (rest := []) rfl (Nat.le_of_ble_eq_true rfl) dX8_law_24 (fun z hz => m_X8_error_53 hz) hf (fun v3 μ4 H locs hf Y => ?_)
    exact g_iret (pc := 27) E Y hr hk dX8_law_27 hf
  · refine lv_aload_n (pc := 9) hx hb dX8_law_9 rfl (lv_at hl 0 rfl) ?_
    refine lv_iload_n (pc := 10) hx hb dX8_law_10 rfl (lv_at hl 1 rfl) ?_
    refine lv_iload_n (pc := 11) hx hb dX8_law_11 rfl (lv_at hl 2 rfl) ?_
    refine lv_iload_n (pc := 12) hx hb dX8_law_12 rfl (lv_at hl 3 rfl) ?_
    refine lv_iload (pc := 13) hx hb dX8_law_13 (lv_at hl 4 rfl) ?_
    refine g_callVi (pc := 15) E Y 53 S_53 V_8 o_X8_gives q_710 [.int a0, .int a1, .int a2, .int a3] rfl rfl (hR_of (by omega) (by decide)) hl.1 (rest := []) rfl (Nat.le_of_ble_eq_true rfl) dX8_law_15 (fun z hz => m_X8_gives_53 hz) hf (fun v5 μ6 H locs hf Y => ?_)
    refine lv_goto (pc := 18) (tgt := 27) hx hb dX8_law_18 (by decide) ?_
    exact g_iret (pc := 27) E Y hr hk dX8_law_27 hf
def f_X8_margin_53 (a0 : Int32) (a1 : Int32) (a2 : Int32) (σ : Mem) : Res := bd (f_X8_isRunner_53 a0 σ) fun v1 μ2 => if v1 = 0 then (bd (f_X8_error_53 (-1000000001) μ2) fun v3 μ4 => some (v3, μ4)) else (bd (f_X8_isPitch_53 a1 μ2) fun v5 μ6 => if v5 = 0 then (bd (f_X8_error_53 (-1000000001) μ6) fun v7 μ8 => some (v7, μ8)) else (bd (f_X8_isLead a2 μ6) fun v9 μ10 => if v9 = 0 then (bd (f_X8_error_53 (-1000000001) μ10) fun v11 μ12 => some (v11, μ12)) else (bd (f_X8_marginOf_53 a0 a1 a2 μ10) fun v13 μ14 => some (v13, μ14))))
set_option maxHeartbeats 4000000 in
set_option maxRecDepth 100000 in
theorem m_X8_margin_53 {l : Launch} {σ : Mem} {Z : Int32 × Mem} {a0 : Int32} {a1 : Int32} {a2 : Int32} (hf : f_X8_margin_53 a0 a1 a2 σ = some Z) : CT l yX8_margin cX8_margin 4 (some .int) 5 (fun ad => [.ref (ad 53), .int a0, .int a1, .int a2]) σ Z := by
  refine g_openT RX8 (by decide) rfl (fun _ => Nat.le_of_ble_eq_true rfl) (fun p e s m below meth c D cI cB ad st ls E Y hr hk hl => ?_)
  have hx := E.1.1
  have hb := E.1.2.1
  have hl : lv_has ls 4 [(0, .ref (ad 53)), (1, .int a0), (2, .int a1), (3, .int a2)] := hl
  unfold f_X8_margin_53 at hf
  refine lv_aload_n (pc := 0) hx hb dX8_margin_0 rfl (lv_at hl 0 rfl) ?_
  refine lv_iload_n (pc := 1) hx hb dX8_margin_1 rfl (lv_at hl 1 rfl) ?_
  refine g_callVi (pc := 2) E Y 53 S_53 V_8 o_X8_isRunner q_721 [.int a0] rfl rfl (hR_of (by omega) (by decide)) hl.1 (rest := []) rfl (Nat.le_of_ble_eq_true rfl) dX8_margin_2 (fun z hz => m_X8_isRunner_53 hz) hf (fun v1 μ2 H locs hf Y => ?_)
  refine g_if_eq (pc := 5) (tgt := 33) E dX8_margin_5 (by decide) hf (fun hf => ?_) (fun hf => ?_)
  · refine lv_aload_n (pc := 33) hx hb dX8_margin_33 rfl (lv_at hl 0 rfl) ?_
    refine lv_ldc (pc := 34) (v := (-1000000001)) hx hb E.1.2.2.2.1 (E.1.2.2.2.2 _ q_238) dX8_margin_34 ?_
    refine g_callVi (pc := 36) E Y 53 S_53 V_8 o_X8_error q_716 [.int (-1000000001)] rfl rfl (hR_of (by omega) (by decide)) hl.1 (rest := []) rfl (Nat.le_of_ble_eq_true rfl) dX8_margin_36 (fun z hz => m_X8_error_53 hz) hf (fun v3 μ4 H locs hf Y => ?_)
    exact g_iret (pc := 39) E Y hr hk dX8_margin_39 hf
  · refine lv_aload_n (pc := 8) hx hb dX8_margin_8 rfl (lv_at hl 0 rfl) ?_
    refine lv_iload_n (pc := 9) hx hb dX8_margin_9 rfl (lv_at hl 2 rfl) ?_
    refine g_callVi (pc := 10) E Y 53 S_53 V_8 o_X8_isPitch q_717 [.int a1] rfl rfl (hR_of (by omega) (by decide)) hl.1 (rest := []) rfl (Nat.le_of_ble_eq_true rfl) dX8_margin_10 (fun z hz => m_X8_isPitch_53 hz) hf (fun v5 μ6 H locs hf Y => ?_)
    refine g_if_eq (pc := 13) (tgt := 33) E dX8_margin_13 (by decide) hf (fun hf => ?_) (fun hf => ?_)
    · refine lv_aload_n (pc := 33) hx hb dX8_margin_33 rfl (lv_at hl 0 rfl) ?_
      refine lv_ldc (pc := 34) (v := (-1000000001)) hx hb E.1.2.2.2.1 (E.1.2.2.2.2 _ q_238) dX8_margin_34 ?_
      refine g_callVi (pc := 36) E Y 53 S_53 V_8 o_X8_error q_716 [.int (-1000000001)] rfl rfl (hR_of (by omega) (by decide)) hl.1 (rest := []) rfl (Nat.le_of_ble_eq_true rfl) dX8_margin_36 (fun z hz => m_X8_error_53 hz) hf (fun v7 μ8 H locs hf Y => ?_)
      exact g_iret (pc := 39) E Y hr hk dX8_margin_39 hf
    · refine lv_iload_n (pc := 16) hx hb dX8_margin_16 rfl (lv_at hl 3 rfl) ?_
      refine g_callSi (pc := 17) E Y o_X8_isLead q_663 [.int a2] rfl rfl (hR_of (by omega) (by decide)) hl.1 (rest := []) rfl (Nat.le_of_ble_eq_true rfl) dX8_margin_17 (fun z hz => m_X8_isLead hz) hf (fun v9 μ10 H locs hf Y => ?_)
      refine g_if_eq (pc := 20) (tgt := 33) E dX8_margin_20 (by decide) hf (fun hf => ?_) (fun hf => ?_)
      · refine lv_aload_n (pc := 33) hx hb dX8_margin_33 rfl (lv_at hl 0 rfl) ?_
        refine lv_ldc (pc := 34) (v := (-1000000001)) hx hb E.1.2.2.2.1 (E.1.2.2.2.2 _ q_238) dX8_margin_34 ?_
        refine g_callVi (pc := 36) E Y 53 S_53 V_8 o_X8_error q_716 [.int (-1000000001)] rfl rfl (hR_of (by omega) (by decide)) hl.1 (rest := []) rfl (Nat.le_of_ble_eq_true rfl) dX8_margin_36 (fun z hz => m_X8_error_53 hz) hf (fun v11 μ12 H locs hf Y => ?_)
        exact g_iret (pc := 39) E Y hr hk dX8_margin_39 hf
      · refine lv_aload_n (pc := 23) hx hb dX8_margin_23 rfl (lv_at hl 0 rfl) ?_
        refine lv_iload_n (pc := 24) hx hb dX8_margin_24 rfl (lv_at hl 1 rfl) ?_
        refine lv_iload_n (pc := 25) hx hb dX8_margin_25 rfl (lv_at hl 2 rfl) ?_
        refine lv_iload_n (pc := 26) hx hb dX8_margin_26 rfl (lv_at hl 3 rfl) ?_
        refine g_callVi (pc := 27) E Y 53 S_53 V_8 o_X8_marginOf q_714 [.int a0, .int a1, .int a2] rfl rfl (hR_of (by omega) (by decide)) hl.1 (rest := []) rfl (Nat.le_of_ble_eq_true rfl) dX8_margin_27 (fun z hz => m_X8_marginOf_53 hz) hf (fun v13 μ14 H locs hf Y => ?_)
        refine lv_goto (pc := 30) (tgt := 39) hx hb dX8_margin_30 (by decide) ?_
        exact g_iret (pc := 39) E Y hr hk dX8_margin_39 hf
def fb_X8_leadFor_53_L25 (bk : Int32 → Int32 → Int32 → Mem → Res) (x1 : Int32) (x2 : Int32) (x3 : Int32) (σ : Mem) : Res := if 20 < x3 then (bd (f_X8_error_53 (-1000000002) σ) fun v7 μ8 => some (v7, μ8)) else (bd (f_X8_isSafe_53 x1 x2 x3 σ) fun v9 μ10 => if v9 = 0 then (nm (x3 + 1) fun (v11 : Int32) => bk x1 x2 v11 μ10) else (some (x3, μ10)))
def f_X8_leadFor_53_L25 : Nat → Int32 → Int32 → Int32 → Mem → Res
  | 0, _, _, _, _ => none
  | n + 1, x1, x2, x3, σ => fb_X8_leadFor_53_L25 (f_X8_leadFor_53_L25 n) x1 x2 x3 σ
def f_X8_leadFor_53 (a0 : Int32) (a1 : Int32) (σ : Mem) : Res := bd (f_X8_isRunner_53 a0 σ) fun v1 μ2 => if v1 = 0 then (bd (f_X8_error_53 (-1000000001) μ2) fun v3 μ4 => some (v3, μ4)) else (bd (f_X8_isPitch_53 a1 μ2) fun v5 μ6 => if v5 = 0 then (bd (f_X8_error_53 (-1000000001) μ6) fun v12 μ13 => some (v12, μ13)) else (f_X8_leadFor_53_L25 1000 a0 a1 0 μ6))
set_option maxHeartbeats 4000000 in
set_option maxRecDepth 100000 in
theorem m_X8_leadFor_53 {l : Launch} {σ : Mem} {Z : Int32 × Mem} {a0 : Int32} {a1 : Int32} (hf : f_X8_leadFor_53 a0 a1 σ = some Z) : CT l yX8_leadFor cX8_leadFor 4 (some .int) 6 (fun ad => [.ref (ad 53), .int a0, .int a1]) σ Z := by
  refine g_openT RX8 (by decide) rfl (fun _ => Nat.le_of_ble_eq_true rfl) (fun p e s m below meth c D cI cB ad st ls E Y hr hk hl => ?_)
  have hx := E.1.1
  have hb := E.1.2.1
  have hl : lv_has ls 4 [(0, .ref (ad 53)), (1, .int a0), (2, .int a1)] := hl
  have hL_25 : ∀ (n : Nat) (x1 : Int32) (x2 : Int32) (x3 : Int32) (σ : Mem) (H : Heap) (locs : List Loc) (ls : Array Slot), f_X8_leadFor_53_L25 n x1 x2 x3 σ = some Z → Wo D cI cB ad (AA ad) σ s H locs → lv_has ls 4 [(0, .ref (ad 53)), (1, .int x1), (2, .int x2), (3, .int x3)] → W p l e (rmd 6) s m ([.ref (ad 53), .int a0, .int a1] : List Value).toArray below meth c H locs 0 0 (QT_ below D cI cB ad st Z ([.ref (ad 53), .int a0, .int a1] : List Value).toArray s) (F0 m 25 ls []) := by
    intro n
    induction n with
    | zero =>
      intro x1 x2 x3 σ H locs ls hf
      cases (show (none : Res) = some Z from hf)
    | succ n ih =>
      intro x1 x2 x3 σ H locs ls hf Y hl
      have hf : fb_X8_leadFor_53_L25 (f_X8_leadFor_53_L25 n) x1 x2 x3 σ = some Z := hf
      unfold fb_X8_leadFor_53_L25 at hf
      refine lv_iload_n (pc := 25) hx hb dX8_leadFor_25 rfl (lv_at hl 3 rfl) ?_
      refine lv_bipush (pc := 26) (v := 20) hx hb dX8_leadFor_26 (by decide) ?_
      refine g_icmp_gt (pc := 28) (tgt := 49) E dX8_leadFor_28 (by decide) hf (fun hf => ?_) (fun hf => ?_)
      · refine lv_aload_n (pc := 49) hx hb dX8_leadFor_49 rfl (lv_at hl 0 rfl) ?_
        refine lv_ldc (pc := 50) (v := (-1000000002)) hx hb E.1.2.2.2.1 (E.1.2.2.2.2 _ q_233) dX8_leadFor_50 ?_
        refine g_callVi (pc := 52) E Y 53 S_53 V_8 o_X8_error q_716 [.int (-1000000002)] rfl rfl (hR_of (by omega) (by decide)) hl.1 (rest := []) rfl (Nat.le_of_ble_eq_true rfl) dX8_leadFor_52 (fun z hz => m_X8_error_53 hz) hf (fun v7 μ8 H locs hf Y => ?_)
        exact g_iret (pc := 55) E Y hr hk dX8_leadFor_55 hf
      · refine lv_aload_n (pc := 31) hx hb dX8_leadFor_31 rfl (lv_at hl 0 rfl) ?_
        refine lv_iload_n (pc := 32) hx hb dX8_leadFor_32 rfl (lv_at hl 1 rfl) ?_
        refine lv_iload_n (pc := 33) hx hb dX8_leadFor_33 rfl (lv_at hl 2 rfl) ?_
        refine lv_iload_n (pc := 34) hx hb dX8_leadFor_34 rfl (lv_at hl 3 rfl) ?_
        refine g_callVi (pc := 35) E Y 53 S_53 V_8 o_X8_isSafe q_666 [.int x1, .int x2, .int x3] rfl rfl (hR_of (by omega) (by decide)) hl.1 (rest := []) rfl (Nat.le_of_ble_eq_true rfl) dX8_leadFor_35 (fun z hz => m_X8_isSafe_53 hz) hf (fun v9 μ10 H locs hf Y => ?_)
        refine g_if_eq (pc := 38) (tgt := 43) E dX8_leadFor_38 (by decide) hf (fun hf => ?_) (fun hf => ?_)
        · refine g_iinc (pc := 43) E (fun v11 => [(3, .int v11), (0, .ref (ad 53)), (1, .int x1), (2, .int x2)]) dX8_leadFor_43 hl (k := 3) rfl (t := 1) (by decide) (by decide) (fun _ => rfl) hf (fun v11 hf ls hl => ?_)
          refine lv_goto (pc := 46) (tgt := 25) hx hb dX8_leadFor_46 (by decide) ?_
          exact ih _ _ _ _ _ _ _ hf Y (lv_sub hl [1, 2, 3, 0] rfl)
        · refine lv_iload_n (pc := 41) hx hb dX8_leadFor_41 rfl (lv_at hl 3 rfl) ?_
          exact g_iret (pc := 42) E Y hr hk dX8_leadFor_42 hf
  unfold f_X8_leadFor_53 at hf
  refine lv_aload_n (pc := 0) hx hb dX8_leadFor_0 rfl (lv_at hl 0 rfl) ?_
  refine lv_iload_n (pc := 1) hx hb dX8_leadFor_1 rfl (lv_at hl 1 rfl) ?_
  refine g_callVi (pc := 2) E Y 53 S_53 V_8 o_X8_isRunner q_721 [.int a0] rfl rfl (hR_of (by omega) (by decide)) hl.1 (rest := []) rfl (Nat.le_of_ble_eq_true rfl) dX8_leadFor_2 (fun z hz => m_X8_isRunner_53 hz) hf (fun v1 μ2 H locs hf Y => ?_)
  refine g_if_eq (pc := 5) (tgt := 16) E dX8_leadFor_5 (by decide) hf (fun hf => ?_) (fun hf => ?_)
  · refine lv_aload_n (pc := 16) hx hb dX8_leadFor_16 rfl (lv_at hl 0 rfl) ?_
    refine lv_ldc (pc := 17) (v := (-1000000001)) hx hb E.1.2.2.2.1 (E.1.2.2.2.2 _ q_238) dX8_leadFor_17 ?_
    refine g_callVi (pc := 19) E Y 53 S_53 V_8 o_X8_error q_716 [.int (-1000000001)] rfl rfl (hR_of (by omega) (by decide)) hl.1 (rest := []) rfl (Nat.le_of_ble_eq_true rfl) dX8_leadFor_19 (fun z hz => m_X8_error_53 hz) hf (fun v3 μ4 H locs hf Y => ?_)
    exact g_iret (pc := 22) E Y hr hk dX8_leadFor_22 hf
  · refine lv_aload_n (pc := 8) hx hb dX8_leadFor_8 rfl (lv_at hl 0 rfl) ?_
    refine lv_iload_n (pc := 9) hx hb dX8_leadFor_9 rfl (lv_at hl 2 rfl) ?_
    refine g_callVi (pc := 10) E Y 53 S_53 V_8 o_X8_isPitch q_717 [.int a1] rfl rfl (hR_of (by omega) (by decide)) hl.1 (rest := []) rfl (Nat.le_of_ble_eq_true rfl) dX8_leadFor_10 (fun z hz => m_X8_isPitch_53 hz) hf (fun v5 μ6 H locs hf Y => ?_)
    refine g_if_ne (pc := 13) (tgt := 23) E dX8_leadFor_13 (by decide) hf (fun hf => ?_) (fun hf => ?_)
    · refine lv_iconst (pc := 23) (v := 0) hx hb dX8_leadFor_23 (by decide) ?_
      refine lv_istore_n (pc := 24) (lv' := [(3, .int 0), (0, .ref (ad 53)), (1, .int a0), (2, .int a1)]) hx hb dX8_leadFor_24 rfl hl (by decide) rfl (fun ls hl => ?_)
      exact hL_25 1000 _ _ _ _ _ _ _ hf Y (lv_sub hl [1, 2, 3, 0] rfl)
    · refine lv_aload_n (pc := 16) hx hb dX8_leadFor_16 rfl (lv_at hl 0 rfl) ?_
      refine lv_ldc (pc := 17) (v := (-1000000001)) hx hb E.1.2.2.2.1 (E.1.2.2.2.2 _ q_238) dX8_leadFor_17 ?_
      refine g_callVi (pc := 19) E Y 53 S_53 V_8 o_X8_error q_716 [.int (-1000000001)] rfl rfl (hR_of (by omega) (by decide)) hl.1 (rest := []) rfl (Nat.le_of_ble_eq_true rfl) dX8_leadFor_19 (fun z hz => m_X8_error_53 hz) hf (fun v12 μ13 H locs hf Y => ?_)
      exact g_iret (pc := 22) E Y hr hk dX8_leadFor_22 hf
def fb_X8_gainsFrom_53_L5 (bk : Int32 → Int32 → Int32 → Int32 → Mem → Res) (x1 : Int32) (x2 : Int32) (x3 : Int32) (x4 : Int32) (σ : Mem) : Res := gi 7 386 <| nm (σ 54 (7 : Int32).toNatClampNeg) fun (v1 : Int32) => if v1 ≤ x4 then (some (x3, σ)) else (bd (f_X8_of_53 x4 2 σ) fun v2 μ3 => bd (f_X8_gainOf_53 x1 x4 x2 μ3) fun v4 μ5 => nm (v2 * v4) fun (v6 : Int32) => nm (x3 + v6) fun (v7 : Int32) => nm (x4 + 1) fun (v8 : Int32) => bk x1 x2 v7 v8 μ5)
def f_X8_gainsFrom_53_L5 : Nat → Int32 → Int32 → Int32 → Int32 → Mem → Res
  | 0, _, _, _, _, _ => none
  | n + 1, x1, x2, x3, x4, σ => fb_X8_gainsFrom_53_L5 (f_X8_gainsFrom_53_L5 n) x1 x2 x3 x4 σ
def f_X8_gainsFrom_53 (a0 : Int32) (a1 : Int32) (σ : Mem) : Res := f_X8_gainsFrom_53_L5 1000 a0 a1 0 0 σ
set_option maxHeartbeats 4000000 in
set_option maxRecDepth 100000 in
theorem m_X8_gainsFrom_53 {l : Launch} {σ : Mem} {Z : Int32 × Mem} {a0 : Int32} {a1 : Int32} (hf : f_X8_gainsFrom_53 a0 a1 σ = some Z) : CT l yX8_gainsFrom cX8_gainsFrom 5 (some .int) 6 (fun ad => [.ref (ad 53), .int a0, .int a1]) σ Z := by
  refine g_openT RX8 (by decide) rfl (fun _ => Nat.le_of_ble_eq_true rfl) (fun p e s m below meth c D cI cB ad st ls E Y hr hk hl => ?_)
  have hx := E.1.1
  have hb := E.1.2.1
  have hl : lv_has ls 5 [(0, .ref (ad 53)), (1, .int a0), (2, .int a1)] := hl
  have hL_5 : ∀ (n : Nat) (x1 : Int32) (x2 : Int32) (x3 : Int32) (x4 : Int32) (σ : Mem) (H : Heap) (locs : List Loc) (ls : Array Slot), f_X8_gainsFrom_53_L5 n x1 x2 x3 x4 σ = some Z → Wo D cI cB ad (AA ad) σ s H locs → lv_has ls 5 [(0, .ref (ad 53)), (1, .int x1), (2, .int x2), (3, .int x3), (4, .int x4)] → W p l e (rmd 6) s m ([.ref (ad 53), .int a0, .int a1] : List Value).toArray below meth c H locs 0 0 (QT_ below D cI cB ad st Z ([.ref (ad 53), .int a0, .int a1] : List Value).toArray s) (F0 m 5 ls []) := by
    intro n
    induction n with
    | zero =>
      intro x1 x2 x3 x4 σ H locs ls hf
      cases (show (none : Res) = some Z from hf)
    | succ n ih =>
      intro x1 x2 x3 x4 σ H locs ls hf Y hl
      have hf : fb_X8_gainsFrom_53_L5 (f_X8_gainsFrom_53_L5 n) x1 x2 x3 x4 σ = some Z := hf
      unfold fb_X8_gainsFrom_53_L5 at hf
      refine lv_iload (pc := 5) hx hb dX8_gainsFrom_5 (lv_at hl 4 rfl) ?_
      refine lv_aload_n (pc := 7) hx hb dX8_gainsFrom_7 rfl (lv_at hl 0 rfl) ?_
      refine g_getr (pc := 8) E Y 53 0 54 S_53 rfl V_8 (by decide) AL_X8 q_358 dX8_gainsFrom_8 ?_
      refine lv_bipush (pc := 11) (v := 7) hx hb dX8_gainsFrom_11 (by decide) ?_
      refine g_iald (pc := 13) E Y 54 S_54 dX8_gainsFrom_13 hf (fun v1 hf => ?_)
      refine g_icmp_ge (pc := 14) (tgt := 42) E dX8_gainsFrom_14 (by decide) hf (fun hf => ?_) (fun hf => ?_)
      · refine lv_iload_n (pc := 42) hx hb dX8_gainsFrom_42 rfl (lv_at hl 3 rfl) ?_
        exact g_iret (pc := 43) E Y hr hk dX8_gainsFrom_43 hf
      · refine lv_iload_n (pc := 17) hx hb dX8_gainsFrom_17 rfl (lv_at hl 3 rfl) ?_
        refine lv_aload_n (pc := 18) hx hb dX8_gainsFrom_18 rfl (lv_at hl 0 rfl) ?_
        refine lv_iload (pc := 19) hx hb dX8_gainsFrom_19 (lv_at hl 4 rfl) ?_
        refine lv_iconst (pc := 21) (v := 2) hx hb dX8_gainsFrom_21 (by decide) ?_
        refine g_callVi (pc := 22) E Y 53 S_53 V_8 o_X8_of q_708 [.int x4, .int 2] rfl rfl (hR_of (by omega) (by decide)) hl.1 (rest := [.int x3]) rfl (Nat.le_of_ble_eq_true rfl) dX8_gainsFrom_22 (fun z hz => m_X8_of_53 hz) hf (fun v2 μ3 H locs hf Y => ?_)
        refine lv_aload_n (pc := 25) hx hb dX8_gainsFrom_25 rfl (lv_at hl 0 rfl) ?_
        refine lv_iload_n (pc := 26) hx hb dX8_gainsFrom_26 rfl (lv_at hl 1 rfl) ?_
        refine lv_iload (pc := 27) hx hb dX8_gainsFrom_27 (lv_at hl 4 rfl) ?_
        refine lv_iload_n (pc := 29) hx hb dX8_gainsFrom_29 rfl (lv_at hl 2 rfl) ?_
        refine g_callVi (pc := 30) E Y 53 S_53 V_8 o_X8_gainOf q_667 [.int x1, .int x4, .int x2] rfl rfl (hR_of (by omega) (by decide)) hl.1 (rest := [.int v2, .int x3]) rfl (Nat.le_of_ble_eq_true rfl) dX8_gainsFrom_30 (fun z hz => m_X8_gainOf_53 hz) hf (fun v4 μ5 H locs hf Y => ?_)
        refine g_imul (pc := 33) E dX8_gainsFrom_33 hf (fun v6 hf => ?_)
        refine g_iadd (pc := 34) E dX8_gainsFrom_34 hf (fun v7 hf => ?_)
        refine lv_istore_n (pc := 35) (lv' := [(3, .int v7), (0, .ref (ad 53)), (1, .int x1), (2, .int x2), (4, .int x4)]) hx hb dX8_gainsFrom_35 rfl hl (by decide) rfl (fun ls hl => ?_)
        refine g_iinc (pc := 36) E (fun v8 => [(4, .int v8), (3, .int v7), (0, .ref (ad 53)), (1, .int x1), (2, .int x2)]) dX8_gainsFrom_36 hl (k := 4) rfl (t := 1) (by decide) (by decide) (fun _ => rfl) hf (fun v8 hf ls hl => ?_)
        refine lv_goto (pc := 39) (tgt := 5) hx hb dX8_gainsFrom_39 (by decide) ?_
        exact ih _ _ _ _ _ _ _ _ hf Y (lv_sub hl [2, 3, 4, 1, 0] rfl)
  unfold f_X8_gainsFrom_53 at hf
  refine lv_iconst (pc := 0) (v := 0) hx hb dX8_gainsFrom_0 (by decide) ?_
  refine lv_istore_n (pc := 1) (lv' := [(3, .int 0), (0, .ref (ad 53)), (1, .int a0), (2, .int a1)]) hx hb dX8_gainsFrom_1 rfl hl (by decide) rfl (fun ls hl => ?_)
  refine lv_iconst (pc := 2) (v := 0) hx hb dX8_gainsFrom_2 (by decide) ?_
  refine lv_istore (pc := 3) (lv' := [(4, .int 0), (3, .int 0), (0, .ref (ad 53)), (1, .int a0), (2, .int a1)]) hx hb dX8_gainsFrom_3 hl (by decide) rfl (fun ls hl => ?_)
  exact hL_5 1000 _ _ _ _ _ _ _ _ hf Y (lv_sub hl [2, 3, 4, 1, 0] rfl)
def fb_X8_bestLead_53_L32 (bk : Int32 → Int32 → Int32 → Int32 → Int32 → Mem → Res) (x1 : Int32) (x2 : Int32) (x3 : Int32) (x4 : Int32) (x5 : Int32) (σ : Mem) : Res := if 20 < x5 then (if 0 ≤ x3 then (if x2 = 0 then (some (x3, σ)) else (some (x4, σ))) else (bd (f_X8_error_53 (-1000000002) σ) fun v7 μ8 => some (v7, μ8))) else (bd (f_X8_isPickedAt_53 x1 x5 σ) fun v9 μ10 => if v9 = 0 then (bd (f_X8_gainsFrom_53 x1 x5 μ10) fun v12 μ13 => if x3 < 0 then (if (1 : Int32) = 0 then (if (1 : Int32) = 0 then (nm (x5 + 1) fun (v14 : Int32) => bk x1 x2 x3 x4 v14 μ13) else (nm (x5 + 1) fun (v15 : Int32) => bk x1 x2 x3 v12 v15 μ13)) else (if (1 : Int32) = 0 then (nm (x5 + 1) fun (v16 : Int32) => bk x1 x2 x5 x4 v16 μ13) else (nm (x5 + 1) fun (v17 : Int32) => bk x1 x2 x5 v12 v17 μ13))) else (if v12 ≤ x4 then (if (0 : Int32) = 0 then (if (0 : Int32) = 0 then (nm (x5 + 1) fun (v18 : Int32) => bk x1 x2 x3 x4 v18 μ13) else (nm (x5 + 1) fun (v19 : Int32) => bk x1 x2 x3 v12 v19 μ13)) else (if (0 : Int32) = 0 then (nm (x5 + 1) fun (v20 : Int32) => bk x1 x2 x5 x4 v20 μ13) else (nm (x5 + 1) fun (v21 : Int32) => bk x1 x2 x5 v12 v21 μ13))) else (if (1 : Int32) = 0 then (if (1 : Int32) = 0 then (nm (x5 + 1) fun (v22 : Int32) => bk x1 x2 x3 x4 v22 μ13) else (nm (x5 + 1) fun (v23 : Int32) => bk x1 x2 x3 v12 v23 μ13)) else (if (1 : Int32) = 0 then (nm (x5 + 1) fun (v24 : Int32) => bk x1 x2 x5 x4 v24 μ13) else (nm (x5 + 1) fun (v25 : Int32) => bk x1 x2 x5 v12 v25 μ13))))) else (nm (x5 + 1) fun (v11 : Int32) => bk x1 x2 x3 x4 v11 μ10))
def f_X8_bestLead_53_L32 : Nat → Int32 → Int32 → Int32 → Int32 → Int32 → Mem → Res
  | 0, _, _, _, _, _, _ => none
  | n + 1, x1, x2, x3, x4, x5, σ => fb_X8_bestLead_53_L32 (f_X8_bestLead_53_L32 n) x1 x2 x3 x4 x5 σ
def f_X8_bestLead_53 (a0 : Int32) (a1 : Int32) (σ : Mem) : Res := bd (f_X8_isRunner_53 a0 σ) fun v1 μ2 => if v1 = 0 then (bd (f_X8_error_53 (-1000000001) μ2) fun v3 μ4 => some (v3, μ4)) else (bd (f_X8_in a1 0 1 μ2) fun v5 μ6 => if v5 = 0 then (bd (f_X8_error_53 (-1000000001) μ6) fun v26 μ27 => some (v26, μ27)) else (f_X8_bestLead_53_L32 1000 a0 a1 (-1) 0 0 μ6))
set_option maxHeartbeats 4000000 in
set_option maxRecDepth 100000 in
theorem m_X8_bestLead_53 {l : Launch} {σ : Mem} {Z : Int32 × Mem} {a0 : Int32} {a1 : Int32} (hf : f_X8_bestLead_53 a0 a1 σ = some Z) : CT l yX8_bestLead cX8_bestLead 8 (some .int) 7 (fun ad => [.ref (ad 53), .int a0, .int a1]) σ Z := by
  refine g_openT RX8 (by decide) rfl (fun _ => Nat.le_of_ble_eq_true rfl) (fun p e s m below meth c D cI cB ad st ls E Y hr hk hl => ?_)
  have hx := E.1.1
  have hb := E.1.2.1
  have hl : lv_has ls 8 [(0, .ref (ad 53)), (1, .int a0), (2, .int a1)] := hl
  have hL_32 : ∀ (n : Nat) (x1 : Int32) (x2 : Int32) (x3 : Int32) (x4 : Int32) (x5 : Int32) (σ : Mem) (H : Heap) (locs : List Loc) (ls : Array Slot), f_X8_bestLead_53_L32 n x1 x2 x3 x4 x5 σ = some Z → Wo D cI cB ad (AA ad) σ s H locs → lv_has ls 8 [(0, .ref (ad 53)), (1, .int x1), (2, .int x2), (3, .int x3), (4, .int x4), (5, .int x5)] → W p l e (rmd 7) s m ([.ref (ad 53), .int a0, .int a1] : List Value).toArray below meth c H locs 0 0 (QT_ below D cI cB ad st Z ([.ref (ad 53), .int a0, .int a1] : List Value).toArray s) (F0 m 32 ls []) := by
    intro n
    induction n with
    | zero =>
      intro x1 x2 x3 x4 x5 σ H locs ls hf
      cases (show (none : Res) = some Z from hf)
    | succ n ih =>
      intro x1 x2 x3 x4 x5 σ H locs ls hf Y hl
      have hf : fb_X8_bestLead_53_L32 (f_X8_bestLead_53_L32 n) x1 x2 x3 x4 x5 σ = some Z := hf
      unfold fb_X8_bestLead_53_L32 at hf
      refine lv_iload (pc := 32) hx hb dX8_bestLead_32 (lv_at hl 5 rfl) ?_
      refine lv_bipush (pc := 34) (v := 20) hx hb dX8_bestLead_34 (by decide) ?_
      refine g_icmp_gt (pc := 36) (tgt := 108) E dX8_bestLead_36 (by decide) hf (fun hf => ?_) (fun hf => ?_)
      · refine lv_iload_n (pc := 108) hx hb dX8_bestLead_108 rfl (lv_at hl 3 rfl) ?_
        refine g_if_ge (pc := 109) (tgt := 121) E dX8_bestLead_109 (by decide) hf (fun hf => ?_) (fun hf => ?_)
        · refine lv_iload_n (pc := 121) hx hb dX8_bestLead_121 rfl (lv_at hl 2 rfl) ?_
          refine g_if_ne (pc := 122) (tgt := 129) E dX8_bestLead_122 (by decide) hf (fun hf => ?_) (fun hf => ?_)
          · refine lv_iload (pc := 129) hx hb dX8_bestLead_129 (lv_at hl 4 rfl) ?_
            exact g_iret (pc := 131) E Y hr hk dX8_bestLead_131 hf
          · refine lv_iload_n (pc := 125) hx hb dX8_bestLead_125 rfl (lv_at hl 3 rfl) ?_
            refine lv_goto (pc := 126) (tgt := 131) hx hb dX8_bestLead_126 (by decide) ?_
            exact g_iret (pc := 131) E Y hr hk dX8_bestLead_131 hf
        · refine lv_aload_n (pc := 112) hx hb dX8_bestLead_112 rfl (lv_at hl 0 rfl) ?_
          refine lv_ldc (pc := 113) (v := (-1000000002)) hx hb E.1.2.2.2.1 (E.1.2.2.2.2 _ q_233) dX8_bestLead_113 ?_
          refine g_callVi (pc := 115) E Y 53 S_53 V_8 o_X8_error q_716 [.int (-1000000002)] rfl rfl (hR_of (by omega) (by decide)) hl.1 (rest := []) rfl (Nat.le_of_ble_eq_true rfl) dX8_bestLead_115 (fun z hz => m_X8_error_53 hz) hf (fun v7 μ8 H locs hf Y => ?_)
          refine lv_goto (pc := 118) (tgt := 131) hx hb dX8_bestLead_118 (by decide) ?_
          exact g_iret (pc := 131) E Y hr hk dX8_bestLead_131 hf
      · refine lv_aload_n (pc := 39) hx hb dX8_bestLead_39 rfl (lv_at hl 0 rfl) ?_
        refine lv_iload_n (pc := 40) hx hb dX8_bestLead_40 rfl (lv_at hl 1 rfl) ?_
        refine lv_iload (pc := 41) hx hb dX8_bestLead_41 (lv_at hl 5 rfl) ?_
        refine g_callVi (pc := 43) E Y 53 S_53 V_8 o_X8_isPickedAt q_722 [.int x1, .int x5] rfl rfl (hR_of (by omega) (by decide)) hl.1 (rest := []) rfl (Nat.le_of_ble_eq_true rfl) dX8_bestLead_43 (fun z hz => m_X8_isPickedAt_53 hz) hf (fun v9 μ10 H locs hf Y => ?_)
        refine g_if_ne (pc := 46) (tgt := 102) E dX8_bestLead_46 (by decide) hf (fun hf => ?_) (fun hf => ?_)
        · refine g_iinc (pc := 102) E (fun v11 => [(5, .int v11), (0, .ref (ad 53)), (1, .int x1), (2, .int x2), (3, .int x3), (4, .int x4)]) dX8_bestLead_102 hl (k := 5) rfl (t := 1) (by decide) (by decide) (fun _ => rfl) hf (fun v11 hf ls hl => ?_)
          refine lv_goto (pc := 105) (tgt := 32) hx hb dX8_bestLead_105 (by decide) ?_
          exact ih _ _ _ _ _ _ _ _ _ hf Y (lv_sub hl [1, 2, 3, 4, 5, 0] rfl)
        · refine lv_aload_n (pc := 49) hx hb dX8_bestLead_49 rfl (lv_at hl 0 rfl) ?_
          refine lv_iload_n (pc := 50) hx hb dX8_bestLead_50 rfl (lv_at hl 1 rfl) ?_
          refine lv_iload (pc := 51) hx hb dX8_bestLead_51 (lv_at hl 5 rfl) ?_
          refine g_callVi (pc := 53) E Y 53 S_53 V_8 o_X8_gainsFrom q_683 [.int x1, .int x5] rfl rfl (hR_of (by omega) (by decide)) hl.1 (rest := []) rfl (Nat.le_of_ble_eq_true rfl) dX8_bestLead_53 (fun z hz => m_X8_gainsFrom_53 hz) hf (fun v12 μ13 H locs hf Y => ?_)
          refine lv_istore (pc := 56) (lv' := [(6, .int v12), (0, .ref (ad 53)), (1, .int x1), (2, .int x2), (3, .int x3), (4, .int x4), (5, .int x5)]) hx hb dX8_bestLead_56 hl (by decide) rfl (fun ls hl => ?_)
          refine lv_iload_n (pc := 58) hx hb dX8_bestLead_58 rfl (lv_at hl 4 rfl) ?_
          refine g_if_lt (pc := 59) (tgt := 69) E dX8_bestLead_59 (by decide) hf (fun hf => ?_) (fun hf => ?_)
          · refine lv_iconst (pc := 69) (v := 1) hx hb dX8_bestLead_69 (by decide) ?_
            refine lv_goto (pc := 70) (tgt := 74) hx hb dX8_bestLead_70 (by decide) ?_
            refine lv_istore (pc := 74) (lv' := [(7, .int 1), (6, .int v12), (0, .ref (ad 53)), (1, .int x1), (2, .int x2), (3, .int x3), (4, .int x4), (5, .int x5)]) hx hb dX8_bestLead_74 hl (by decide) rfl (fun ls hl => ?_)
            refine lv_iload (pc := 76) hx hb dX8_bestLead_76 (lv_at hl 0 rfl) ?_
            refine g_if_eq (pc := 78) (tgt := 86) E dX8_bestLead_78 (by decide) hf (fun hf => ?_) (fun hf => ?_)
            · refine lv_iload_n (pc := 86) hx hb dX8_bestLead_86 rfl (lv_at hl 5 rfl) ?_
              refine lv_istore_n (pc := 87) (lv' := [(3, .int x3), (7, .int 1), (6, .int v12), (0, .ref (ad 53)), (1, .int x1), (2, .int x2), (4, .int x4), (5, .int x5)]) hx hb dX8_bestLead_87 rfl hl (by decide) rfl (fun ls hl => ?_)
              refine lv_iload (pc := 88) hx hb dX8_bestLead_88 (lv_at hl 1 rfl) ?_
              refine g_if_eq (pc := 90) (tgt := 98) E dX8_bestLead_90 (by decide) hf (fun hf => ?_) (fun hf => ?_)
              · refine lv_iload (pc := 98) hx hb dX8_bestLead_98 (lv_at hl 6 rfl) ?_
                refine lv_istore (pc := 100) (lv' := [(4, .int x4), (3, .int x3), (7, .int 1), (6, .int v12), (0, .ref (ad 53)), (1, .int x1), (2, .int x2), (5, .int x5)]) hx hb dX8_bestLead_100 hl (by decide) rfl (fun ls hl => ?_)
                refine g_iinc (pc := 102) E (fun v14 => [(5, .int v14), (4, .int x4), (3, .int x3), (7, .int 1), (6, .int v12), (0, .ref (ad 53)), (1, .int x1), (2, .int x2)]) dX8_bestLead_102 hl (k := 7) rfl (t := 1) (by decide) (by decide) (fun _ => rfl) hf (fun v14 hf ls hl => ?_)
                refine lv_goto (pc := 105) (tgt := 32) hx hb dX8_bestLead_105 (by decide) ?_
                exact ih _ _ _ _ _ _ _ _ _ hf Y (lv_sub hl [5, 6, 7, 2, 1, 0] rfl)
              · refine lv_iload (pc := 93) hx hb dX8_bestLead_93 (lv_at hl 2 rfl) ?_
                refine lv_goto (pc := 95) (tgt := 100) hx hb dX8_bestLead_95 (by decide) ?_
                refine lv_istore (pc := 100) (lv' := [(4, .int v12), (3, .int x3), (7, .int 1), (6, .int v12), (0, .ref (ad 53)), (1, .int x1), (2, .int x2), (5, .int x5)]) hx hb dX8_bestLead_100 hl (by decide) rfl (fun ls hl => ?_)
                refine g_iinc (pc := 102) E (fun v15 => [(5, .int v15), (4, .int v12), (3, .int x3), (7, .int 1), (6, .int v12), (0, .ref (ad 53)), (1, .int x1), (2, .int x2)]) dX8_bestLead_102 hl (k := 7) rfl (t := 1) (by decide) (by decide) (fun _ => rfl) hf (fun v15 hf ls hl => ?_)
                refine lv_goto (pc := 105) (tgt := 32) hx hb dX8_bestLead_105 (by decide) ?_
                exact ih _ _ _ _ _ _ _ _ _ hf Y (lv_sub hl [5, 6, 7, 2, 1, 0] rfl)
            · refine lv_iload (pc := 81) hx hb dX8_bestLead_81 (lv_at hl 7 rfl) ?_
              refine lv_goto (pc := 83) (tgt := 87) hx hb dX8_bestLead_83 (by decide) ?_
              refine lv_istore_n (pc := 87) (lv' := [(3, .int x5), (7, .int 1), (6, .int v12), (0, .ref (ad 53)), (1, .int x1), (2, .int x2), (4, .int x4), (5, .int x5)]) hx hb dX8_bestLead_87 rfl hl (by decide) rfl (fun ls hl => ?_)
              refine lv_iload (pc := 88) hx hb dX8_bestLead_88 (lv_at hl 1 rfl) ?_
              refine g_if_eq (pc := 90) (tgt := 98) E dX8_bestLead_90 (by decide) hf (fun hf => ?_) (fun hf => ?_)
              · refine lv_iload (pc := 98) hx hb dX8_bestLead_98 (lv_at hl 6 rfl) ?_
                refine lv_istore (pc := 100) (lv' := [(4, .int x4), (3, .int x5), (7, .int 1), (6, .int v12), (0, .ref (ad 53)), (1, .int x1), (2, .int x2), (5, .int x5)]) hx hb dX8_bestLead_100 hl (by decide) rfl (fun ls hl => ?_)
                refine g_iinc (pc := 102) E (fun v16 => [(5, .int v16), (4, .int x4), (3, .int x5), (7, .int 1), (6, .int v12), (0, .ref (ad 53)), (1, .int x1), (2, .int x2)]) dX8_bestLead_102 hl (k := 7) rfl (t := 1) (by decide) (by decide) (fun _ => rfl) hf (fun v16 hf ls hl => ?_)
                refine lv_goto (pc := 105) (tgt := 32) hx hb dX8_bestLead_105 (by decide) ?_
                exact ih _ _ _ _ _ _ _ _ _ hf Y (lv_sub hl [5, 6, 7, 2, 1, 0] rfl)
              · refine lv_iload (pc := 93) hx hb dX8_bestLead_93 (lv_at hl 2 rfl) ?_
                refine lv_goto (pc := 95) (tgt := 100) hx hb dX8_bestLead_95 (by decide) ?_
                refine lv_istore (pc := 100) (lv' := [(4, .int v12), (3, .int x5), (7, .int 1), (6, .int v12), (0, .ref (ad 53)), (1, .int x1), (2, .int x2), (5, .int x5)]) hx hb dX8_bestLead_100 hl (by decide) rfl (fun ls hl => ?_)
                refine g_iinc (pc := 102) E (fun v17 => [(5, .int v17), (4, .int v12), (3, .int x5), (7, .int 1), (6, .int v12), (0, .ref (ad 53)), (1, .int x1), (2, .int x2)]) dX8_bestLead_102 hl (k := 7) rfl (t := 1) (by decide) (by decide) (fun _ => rfl) hf (fun v17 hf ls hl => ?_)
                refine lv_goto (pc := 105) (tgt := 32) hx hb dX8_bestLead_105 (by decide) ?_
                exact ih _ _ _ _ _ _ _ _ _ hf Y (lv_sub hl [5, 6, 7, 2, 1, 0] rfl)
          · refine lv_iload (pc := 62) hx hb dX8_bestLead_62 (lv_at hl 0 rfl) ?_
            refine lv_iload (pc := 64) hx hb dX8_bestLead_64 (lv_at hl 5 rfl) ?_
            refine g_icmp_le (pc := 66) (tgt := 73) E dX8_bestLead_66 (by decide) hf (fun hf => ?_) (fun hf => ?_)
            · refine lv_iconst (pc := 73) (v := 0) hx hb dX8_bestLead_73 (by decide) ?_
              refine lv_istore (pc := 74) (lv' := [(7, .int 0), (6, .int v12), (0, .ref (ad 53)), (1, .int x1), (2, .int x2), (3, .int x3), (4, .int x4), (5, .int x5)]) hx hb dX8_bestLead_74 hl (by decide) rfl (fun ls hl => ?_)
              refine lv_iload (pc := 76) hx hb dX8_bestLead_76 (lv_at hl 0 rfl) ?_
              refine g_if_eq (pc := 78) (tgt := 86) E dX8_bestLead_78 (by decide) hf (fun hf => ?_) (fun hf => ?_)
              · refine lv_iload_n (pc := 86) hx hb dX8_bestLead_86 rfl (lv_at hl 5 rfl) ?_
                refine lv_istore_n (pc := 87) (lv' := [(3, .int x3), (7, .int 0), (6, .int v12), (0, .ref (ad 53)), (1, .int x1), (2, .int x2), (4, .int x4), (5, .int x5)]) hx hb dX8_bestLead_87 rfl hl (by decide) rfl (fun ls hl => ?_)
                refine lv_iload (pc := 88) hx hb dX8_bestLead_88 (lv_at hl 1 rfl) ?_
                refine g_if_eq (pc := 90) (tgt := 98) E dX8_bestLead_90 (by decide) hf (fun hf => ?_) (fun hf => ?_)
                · refine lv_iload (pc := 98) hx hb dX8_bestLead_98 (lv_at hl 6 rfl) ?_
                  refine lv_istore (pc := 100) (lv' := [(4, .int x4), (3, .int x3), (7, .int 0), (6, .int v12), (0, .ref (ad 53)), (1, .int x1), (2, .int x2), (5, .int x5)]) hx hb dX8_bestLead_100 hl (by decide) rfl (fun ls hl => ?_)
                  refine g_iinc (pc := 102) E (fun v18 => [(5, .int v18), (4, .int x4), (3, .int x3), (7, .int 0), (6, .int v12), (0, .ref (ad 53)), (1, .int x1), (2, .int x2)]) dX8_bestLead_102 hl (k := 7) rfl (t := 1) (by decide) (by decide) (fun _ => rfl) hf (fun v18 hf ls hl => ?_)
                  refine lv_goto (pc := 105) (tgt := 32) hx hb dX8_bestLead_105 (by decide) ?_
                  exact ih _ _ _ _ _ _ _ _ _ hf Y (lv_sub hl [5, 6, 7, 2, 1, 0] rfl)
                · refine lv_iload (pc := 93) hx hb dX8_bestLead_93 (lv_at hl 2 rfl) ?_
                  refine lv_goto (pc := 95) (tgt := 100) hx hb dX8_bestLead_95 (by decide) ?_
                  refine lv_istore (pc := 100) (lv' := [(4, .int v12), (3, .int x3), (7, .int 0), (6, .int v12), (0, .ref (ad 53)), (1, .int x1), (2, .int x2), (5, .int x5)]) hx hb dX8_bestLead_100 hl (by decide) rfl (fun ls hl => ?_)
                  refine g_iinc (pc := 102) E (fun v19 => [(5, .int v19), (4, .int v12), (3, .int x3), (7, .int 0), (6, .int v12), (0, .ref (ad 53)), (1, .int x1), (2, .int x2)]) dX8_bestLead_102 hl (k := 7) rfl (t := 1) (by decide) (by decide) (fun _ => rfl) hf (fun v19 hf ls hl => ?_)
                  refine lv_goto (pc := 105) (tgt := 32) hx hb dX8_bestLead_105 (by decide) ?_
                  exact ih _ _ _ _ _ _ _ _ _ hf Y (lv_sub hl [5, 6, 7, 2, 1, 0] rfl)
              · refine lv_iload (pc := 81) hx hb dX8_bestLead_81 (lv_at hl 7 rfl) ?_
                refine lv_goto (pc := 83) (tgt := 87) hx hb dX8_bestLead_83 (by decide) ?_
                refine lv_istore_n (pc := 87) (lv' := [(3, .int x5), (7, .int 0), (6, .int v12), (0, .ref (ad 53)), (1, .int x1), (2, .int x2), (4, .int x4), (5, .int x5)]) hx hb dX8_bestLead_87 rfl hl (by decide) rfl (fun ls hl => ?_)
                refine lv_iload (pc := 88) hx hb dX8_bestLead_88 (lv_at hl 1 rfl) ?_
                refine g_if_eq (pc := 90) (tgt := 98) E dX8_bestLead_90 (by decide) hf (fun hf => ?_) (fun hf => ?_)
                · refine lv_iload (pc := 98) hx hb dX8_bestLead_98 (lv_at hl 6 rfl) ?_
                  refine lv_istore (pc := 100) (lv' := [(4, .int x4), (3, .int x5), (7, .int 0), (6, .int v12), (0, .ref (ad 53)), (1, .int x1), (2, .int x2), (5, .int x5)]) hx hb dX8_bestLead_100 hl (by decide) rfl (fun ls hl => ?_)
                  refine g_iinc (pc := 102) E (fun v20 => [(5, .int v20), (4, .int x4), (3, .int x5), (7, .int 0), (6, .int v12), (0, .ref (ad 53)), (1, .int x1), (2, .int x2)]) dX8_bestLead_102 hl (k := 7) rfl (t := 1) (by decide) (by decide) (fun _ => rfl) hf (fun v20 hf ls hl => ?_)
                  refine lv_goto (pc := 105) (tgt := 32) hx hb dX8_bestLead_105 (by decide) ?_
                  exact ih _ _ _ _ _ _ _ _ _ hf Y (lv_sub hl [5, 6, 7, 2, 1, 0] rfl)
                · refine lv_iload (pc := 93) hx hb dX8_bestLead_93 (lv_at hl 2 rfl) ?_
                  refine lv_goto (pc := 95) (tgt := 100) hx hb dX8_bestLead_95 (by decide) ?_
                  refine lv_istore (pc := 100) (lv' := [(4, .int v12), (3, .int x5), (7, .int 0), (6, .int v12), (0, .ref (ad 53)), (1, .int x1), (2, .int x2), (5, .int x5)]) hx hb dX8_bestLead_100 hl (by decide) rfl (fun ls hl => ?_)
                  refine g_iinc (pc := 102) E (fun v21 => [(5, .int v21), (4, .int v12), (3, .int x5), (7, .int 0), (6, .int v12), (0, .ref (ad 53)), (1, .int x1), (2, .int x2)]) dX8_bestLead_102 hl (k := 7) rfl (t := 1) (by decide) (by decide) (fun _ => rfl) hf (fun v21 hf ls hl => ?_)
                  refine lv_goto (pc := 105) (tgt := 32) hx hb dX8_bestLead_105 (by decide) ?_
                  exact ih _ _ _ _ _ _ _ _ _ hf Y (lv_sub hl [5, 6, 7, 2, 1, 0] rfl)
            · refine lv_iconst (pc := 69) (v := 1) hx hb dX8_bestLead_69 (by decide) ?_
              refine lv_goto (pc := 70) (tgt := 74) hx hb dX8_bestLead_70 (by decide) ?_
              refine lv_istore (pc := 74) (lv' := [(7, .int 1), (6, .int v12), (0, .ref (ad 53)), (1, .int x1), (2, .int x2), (3, .int x3), (4, .int x4), (5, .int x5)]) hx hb dX8_bestLead_74 hl (by decide) rfl (fun ls hl => ?_)
              refine lv_iload (pc := 76) hx hb dX8_bestLead_76 (lv_at hl 0 rfl) ?_
              refine g_if_eq (pc := 78) (tgt := 86) E dX8_bestLead_78 (by decide) hf (fun hf => ?_) (fun hf => ?_)
              · refine lv_iload_n (pc := 86) hx hb dX8_bestLead_86 rfl (lv_at hl 5 rfl) ?_
                refine lv_istore_n (pc := 87) (lv' := [(3, .int x3), (7, .int 1), (6, .int v12), (0, .ref (ad 53)), (1, .int x1), (2, .int x2), (4, .int x4), (5, .int x5)]) hx hb dX8_bestLead_87 rfl hl (by decide) rfl (fun ls hl => ?_)
                refine lv_iload (pc := 88) hx hb dX8_bestLead_88 (lv_at hl 1 rfl) ?_
                refine g_if_eq (pc := 90) (tgt := 98) E dX8_bestLead_90 (by decide) hf (fun hf => ?_) (fun hf => ?_)
                · refine lv_iload (pc := 98) hx hb dX8_bestLead_98 (lv_at hl 6 rfl) ?_
                  refine lv_istore (pc := 100) (lv' := [(4, .int x4), (3, .int x3), (7, .int 1), (6, .int v12), (0, .ref (ad 53)), (1, .int x1), (2, .int x2), (5, .int x5)]) hx hb dX8_bestLead_100 hl (by decide) rfl (fun ls hl => ?_)
                  refine g_iinc (pc := 102) E (fun v22 => [(5, .int v22), (4, .int x4), (3, .int x3), (7, .int 1), (6, .int v12), (0, .ref (ad 53)), (1, .int x1), (2, .int x2)]) dX8_bestLead_102 hl (k := 7) rfl (t := 1) (by decide) (by decide) (fun _ => rfl) hf (fun v22 hf ls hl => ?_)
                  refine lv_goto (pc := 105) (tgt := 32) hx hb dX8_bestLead_105 (by decide) ?_
                  exact ih _ _ _ _ _ _ _ _ _ hf Y (lv_sub hl [5, 6, 7, 2, 1, 0] rfl)
                · refine lv_iload (pc := 93) hx hb dX8_bestLead_93 (lv_at hl 2 rfl) ?_
                  refine lv_goto (pc := 95) (tgt := 100) hx hb dX8_bestLead_95 (by decide) ?_
                  refine lv_istore (pc := 100) (lv' := [(4, .int v12), (3, .int x3), (7, .int 1), (6, .int v12), (0, .ref (ad 53)), (1, .int x1), (2, .int x2), (5, .int x5)]) hx hb dX8_bestLead_100 hl (by decide) rfl (fun ls hl => ?_)
                  refine g_iinc (pc := 102) E (fun v23 => [(5, .int v23), (4, .int v12), (3, .int x3), (7, .int 1), (6, .int v12), (0, .ref (ad 53)), (1, .int x1), (2, .int x2)]) dX8_bestLead_102 hl (k := 7) rfl (t := 1) (by decide) (by decide) (fun _ => rfl) hf (fun v23 hf ls hl => ?_)
                  refine lv_goto (pc := 105) (tgt := 32) hx hb dX8_bestLead_105 (by decide) ?_
                  exact ih _ _ _ _ _ _ _ _ _ hf Y (lv_sub hl [5, 6, 7, 2, 1, 0] rfl)
              · refine lv_iload (pc := 81) hx hb dX8_bestLead_81 (lv_at hl 7 rfl) ?_
                refine lv_goto (pc := 83) (tgt := 87) hx hb dX8_bestLead_83 (by decide) ?_
                refine lv_istore_n (pc := 87) (lv' := [(3, .int x5), (7, .int 1), (6, .int v12), (0, .ref (ad 53)), (1, .int x1), (2, .int x2), (4, .int x4), (5, .int x5)]) hx hb dX8_bestLead_87 rfl hl (by decide) rfl (fun ls hl => ?_)
                refine lv_iload (pc := 88) hx hb dX8_bestLead_88 (lv_at hl 1 rfl) ?_
                refine g_if_eq (pc := 90) (tgt := 98) E dX8_bestLead_90 (by decide) hf (fun hf => ?_) (fun hf => ?_)
                · refine lv_iload (pc := 98) hx hb dX8_bestLead_98 (lv_at hl 6 rfl) ?_
                  refine lv_istore (pc := 100) (lv' := [(4, .int x4), (3, .int x5), (7, .int 1), (6, .int v12), (0, .ref (ad 53)), (1, .int x1), (2, .int x2), (5, .int x5)]) hx hb dX8_bestLead_100 hl (by decide) rfl (fun ls hl => ?_)
                  refine g_iinc (pc := 102) E (fun v24 => [(5, .int v24), (4, .int x4), (3, .int x5), (7, .int 1), (6, .int v12), (0, .ref (ad 53)), (1, .int x1), (2, .int x2)]) dX8_bestLead_102 hl (k := 7) rfl (t := 1) (by decide) (by decide) (fun _ => rfl) hf (fun v24 hf ls hl => ?_)
                  refine lv_goto (pc := 105) (tgt := 32) hx hb dX8_bestLead_105 (by decide) ?_
                  exact ih _ _ _ _ _ _ _ _ _ hf Y (lv_sub hl [5, 6, 7, 2, 1, 0] rfl)
                · refine lv_iload (pc := 93) hx hb dX8_bestLead_93 (lv_at hl 2 rfl) ?_
                  refine lv_goto (pc := 95) (tgt := 100) hx hb dX8_bestLead_95 (by decide) ?_
                  refine lv_istore (pc := 100) (lv' := [(4, .int v12), (3, .int x5), (7, .int 1), (6, .int v12), (0, .ref (ad 53)), (1, .int x1), (2, .int x2), (5, .int x5)]) hx hb dX8_bestLead_100 hl (by decide) rfl (fun ls hl => ?_)
                  refine g_iinc (pc := 102) E (fun v25 => [(5, .int v25), (4, .int v12), (3, .int x5), (7, .int 1), (6, .int v12), (0, .ref (ad 53)), (1, .int x1), (2, .int x2)]) dX8_bestLead_102 hl (k := 7) rfl (t := 1) (by decide) (by decide) (fun _ => rfl) hf (fun v25 hf ls hl => ?_)
                  refine lv_goto (pc := 105) (tgt := 32) hx hb dX8_bestLead_105 (by decide) ?_
                  exact ih _ _ _ _ _ _ _ _ _ hf Y (lv_sub hl [5, 6, 7, 2, 1, 0] rfl)
  unfold f_X8_bestLead_53 at hf
  refine lv_aload_n (pc := 0) hx hb dX8_bestLead_0 rfl (lv_at hl 0 rfl) ?_
  refine lv_iload_n (pc := 1) hx hb dX8_bestLead_1 rfl (lv_at hl 1 rfl) ?_
  refine g_callVi (pc := 2) E Y 53 S_53 V_8 o_X8_isRunner q_721 [.int a0] rfl rfl (hR_of (by omega) (by decide)) hl.1 (rest := []) rfl (Nat.le_of_ble_eq_true rfl) dX8_bestLead_2 (fun z hz => m_X8_isRunner_53 hz) hf (fun v1 μ2 H locs hf Y => ?_)
  refine g_if_eq (pc := 5) (tgt := 17) E dX8_bestLead_5 (by decide) hf (fun hf => ?_) (fun hf => ?_)
  · refine lv_aload_n (pc := 17) hx hb dX8_bestLead_17 rfl (lv_at hl 0 rfl) ?_
    refine lv_ldc (pc := 18) (v := (-1000000001)) hx hb E.1.2.2.2.1 (E.1.2.2.2.2 _ q_238) dX8_bestLead_18 ?_
    refine g_callVi (pc := 20) E Y 53 S_53 V_8 o_X8_error q_716 [.int (-1000000001)] rfl rfl (hR_of (by omega) (by decide)) hl.1 (rest := []) rfl (Nat.le_of_ble_eq_true rfl) dX8_bestLead_20 (fun z hz => m_X8_error_53 hz) hf (fun v3 μ4 H locs hf Y => ?_)
    exact g_iret (pc := 23) E Y hr hk dX8_bestLead_23 hf
  · refine lv_iload_n (pc := 8) hx hb dX8_bestLead_8 rfl (lv_at hl 2 rfl) ?_
    refine lv_iconst (pc := 9) (v := 0) hx hb dX8_bestLead_9 (by decide) ?_
    refine lv_iconst (pc := 10) (v := 1) hx hb dX8_bestLead_10 (by decide) ?_
    refine g_callSi (pc := 11) E Y o_X8_in q_707 [.int a1, .int 0, .int 1] rfl rfl (hR_of (by omega) (by decide)) hl.1 (rest := []) rfl (Nat.le_of_ble_eq_true rfl) dX8_bestLead_11 (fun z hz => m_X8_in hz) hf (fun v5 μ6 H locs hf Y => ?_)
    refine g_if_ne (pc := 14) (tgt := 24) E dX8_bestLead_14 (by decide) hf (fun hf => ?_) (fun hf => ?_)
    · refine lv_iconst (pc := 24) (v := (-1)) hx hb dX8_bestLead_24 (by decide) ?_
      refine lv_istore_n (pc := 25) (lv' := [(3, .int (-1)), (0, .ref (ad 53)), (1, .int a0), (2, .int a1)]) hx hb dX8_bestLead_25 rfl hl (by decide) rfl (fun ls hl => ?_)
      refine lv_iconst (pc := 26) (v := 0) hx hb dX8_bestLead_26 (by decide) ?_
      refine lv_istore (pc := 27) (lv' := [(4, .int 0), (3, .int (-1)), (0, .ref (ad 53)), (1, .int a0), (2, .int a1)]) hx hb dX8_bestLead_27 hl (by decide) rfl (fun ls hl => ?_)
      refine lv_iconst (pc := 29) (v := 0) hx hb dX8_bestLead_29 (by decide) ?_
      refine lv_istore (pc := 30) (lv' := [(5, .int 0), (4, .int 0), (3, .int (-1)), (0, .ref (ad 53)), (1, .int a0), (2, .int a1)]) hx hb dX8_bestLead_30 hl (by decide) rfl (fun ls hl => ?_)
      exact hL_32 1000 _ _ _ _ _ _ _ _ _ hf Y (lv_sub hl [3, 4, 5, 2, 1, 0] rfl)
    · refine lv_aload_n (pc := 17) hx hb dX8_bestLead_17 rfl (lv_at hl 0 rfl) ?_
      refine lv_ldc (pc := 18) (v := (-1000000001)) hx hb E.1.2.2.2.1 (E.1.2.2.2.2 _ q_238) dX8_bestLead_18 ?_
      refine g_callVi (pc := 20) E Y 53 S_53 V_8 o_X8_error q_716 [.int (-1000000001)] rfl rfl (hR_of (by omega) (by decide)) hl.1 (rest := []) rfl (Nat.le_of_ble_eq_true rfl) dX8_bestLead_20 (fun z hz => m_X8_error_53 hz) hf (fun v26 μ27 H locs hf Y => ?_)
      exact g_iret (pc := 23) E Y hr hk dX8_bestLead_23 hf
def fb_X8_weights_53_L4 (bk : Int32 → Int32 → Mem → Res) (x1 : Int32) (x2 : Int32) (σ : Mem) : Res := gi 7 386 <| nm (σ 54 (7 : Int32).toNatClampNeg) fun (v1 : Int32) => if v1 ≤ x2 then (some (x1, σ)) else (bd (f_X8_of_53 x2 2 σ) fun v2 μ3 => nm (x1 + v2) fun (v4 : Int32) => nm (x2 + 1) fun (v5 : Int32) => bk v4 v5 μ3)
def f_X8_weights_53_L4 : Nat → Int32 → Int32 → Mem → Res
  | 0, _, _, _ => none
  | n + 1, x1, x2, σ => fb_X8_weights_53_L4 (f_X8_weights_53_L4 n) x1 x2 σ
def f_X8_weights_53 (σ : Mem) : Res := f_X8_weights_53_L4 1000 0 0 σ
set_option maxHeartbeats 4000000 in
set_option maxRecDepth 100000 in
theorem m_X8_weights_53 {l : Launch} {σ : Mem} {Z : Int32 × Mem}  (hf : f_X8_weights_53 σ = some Z) : CT l yX8_weights cX8_weights 3 (some .int) 1 (fun ad => [.ref (ad 53)]) σ Z := by
  refine g_openT RX8 (by decide) rfl (fun _ => Nat.le_of_ble_eq_true rfl) (fun p e s m below meth c D cI cB ad st ls E Y hr hk hl => ?_)
  have hx := E.1.1
  have hb := E.1.2.1
  have hl : lv_has ls 3 [(0, .ref (ad 53))] := hl
  have hL_4 : ∀ (n : Nat) (x1 : Int32) (x2 : Int32) (σ : Mem) (H : Heap) (locs : List Loc) (ls : Array Slot), f_X8_weights_53_L4 n x1 x2 σ = some Z → Wo D cI cB ad (AA ad) σ s H locs → lv_has ls 3 [(0, .ref (ad 53)), (1, .int x1), (2, .int x2)] → W p l e (rmd 1) s m ([.ref (ad 53)] : List Value).toArray below meth c H locs 0 0 (QT_ below D cI cB ad st Z ([.ref (ad 53)] : List Value).toArray s) (F0 m 4 ls []) := by
    intro n
    induction n with
    | zero =>
      intro x1 x2 σ H locs ls hf
      cases (show (none : Res) = some Z from hf)
    | succ n ih =>
      intro x1 x2 σ H locs ls hf Y hl
      have hf : fb_X8_weights_53_L4 (f_X8_weights_53_L4 n) x1 x2 σ = some Z := hf
      unfold fb_X8_weights_53_L4 at hf
      refine lv_iload_n (pc := 4) hx hb dX8_weights_4 rfl (lv_at hl 2 rfl) ?_
      refine lv_aload_n (pc := 5) hx hb dX8_weights_5 rfl (lv_at hl 0 rfl) ?_
      refine g_getr (pc := 6) E Y 53 0 54 S_53 rfl V_8 (by decide) AL_X8 q_358 dX8_weights_6 ?_
      refine lv_bipush (pc := 9) (v := 7) hx hb dX8_weights_9 (by decide) ?_
      refine g_iald (pc := 11) E Y 54 S_54 dX8_weights_11 hf (fun v1 hf => ?_)
      refine g_icmp_ge (pc := 12) (tgt := 30) E dX8_weights_12 (by decide) hf (fun hf => ?_) (fun hf => ?_)
      · refine lv_iload_n (pc := 30) hx hb dX8_weights_30 rfl (lv_at hl 1 rfl) ?_
        exact g_iret (pc := 31) E Y hr hk dX8_weights_31 hf
      · refine lv_iload_n (pc := 15) hx hb dX8_weights_15 rfl (lv_at hl 1 rfl) ?_
        refine lv_aload_n (pc := 16) hx hb dX8_weights_16 rfl (lv_at hl 0 rfl) ?_
        refine lv_iload_n (pc := 17) hx hb dX8_weights_17 rfl (lv_at hl 2 rfl) ?_
        refine lv_iconst (pc := 18) (v := 2) hx hb dX8_weights_18 (by decide) ?_
        refine g_callVi (pc := 19) E Y 53 S_53 V_8 o_X8_of q_708 [.int x2, .int 2] rfl rfl (hR_of (by omega) (by decide)) hl.1 (rest := [.int x1]) rfl (Nat.le_of_ble_eq_true rfl) dX8_weights_19 (fun z hz => m_X8_of_53 hz) hf (fun v2 μ3 H locs hf Y => ?_)
        refine g_iadd (pc := 22) E dX8_weights_22 hf (fun v4 hf => ?_)
        refine lv_istore_n (pc := 23) (lv' := [(1, .int v4), (0, .ref (ad 53)), (2, .int x2)]) hx hb dX8_weights_23 rfl hl (by decide) rfl (fun ls hl => ?_)
        refine g_iinc (pc := 24) E (fun v5 => [(2, .int v5), (1, .int v4), (0, .ref (ad 53))]) dX8_weights_24 hl (k := 2) rfl (t := 1) (by decide) (by decide) (fun _ => rfl) hf (fun v5 hf ls hl => ?_)
        refine lv_goto (pc := 27) (tgt := 4) hx hb dX8_weights_27 (by decide) ?_
        exact ih _ _ _ _ _ _ hf Y (lv_sub hl [2, 1, 0] rfl)
  unfold f_X8_weights_53 at hf
  refine lv_iconst (pc := 0) (v := 0) hx hb dX8_weights_0 (by decide) ?_
  refine lv_istore_n (pc := 1) (lv' := [(1, .int 0), (0, .ref (ad 53))]) hx hb dX8_weights_1 rfl hl (by decide) rfl (fun ls hl => ?_)
  refine lv_iconst (pc := 2) (v := 0) hx hb dX8_weights_2 (by decide) ?_
  refine lv_istore_n (pc := 3) (lv' := [(2, .int 0), (1, .int 0), (0, .ref (ad 53))]) hx hb dX8_weights_3 rfl hl (by decide) rfl (fun ls hl => ?_)
  exact hL_4 1000 _ _ _ _ _ _ hf Y (lv_sub hl [2, 1, 0] rfl)
def fb_X8_partOf_L23 (bk : Int32 → Int32 → Int32 → Int32 → Int32 → Mem → Res) (x0 : Int32) (x1 : Int32) (x2 : Int32) (x3 : Int32) (x4 : Int32) (σ : Mem) : Res := if x3 = 0 then (if 0 ≤ x1 then (if x2 = 0 then (gz x4 <| nm (x0 / x4) fun (v2 : Int32) => some (v2, σ)) else (gz x4 <| nm (x1 / x4) fun (v1 : Int32) => some (v1, σ))) else (nm (-x4) fun (v3 : Int32) => if x2 = 0 then (gz v3 <| nm (x0 / v3) fun (v5 : Int32) => some (v5, σ)) else (gz v3 <| nm (x1 / v3) fun (v4 : Int32) => some (v4, σ)))) else (gz x3 <| nm (x4 - x4 / x3 * x3) fun (v6 : Int32) => bk x0 x1 x2 v6 x3 σ)
def f_X8_partOf_L23 : Nat → Int32 → Int32 → Int32 → Int32 → Int32 → Mem → Res
  | 0, _, _, _, _, _, _ => none
  | n + 1, x0, x1, x2, x3, x4, σ => fb_X8_partOf_L23 (f_X8_partOf_L23 n) x0 x1 x2 x3 x4 σ
def f_X8_partOf (a0 : Int32) (a1 : Int32) (a2 : Int32) (σ : Mem) : Res := if 0 ≤ a0 then (if 0 ≤ a1 then (f_X8_partOf_L23 1000 a0 a1 a2 a0 a1 σ) else (nm (-a1) fun (v7 : Int32) => f_X8_partOf_L23 1000 a0 a1 a2 a0 v7 σ)) else (nm (-a0) fun (v8 : Int32) => if 0 ≤ a1 then (f_X8_partOf_L23 1000 a0 a1 a2 v8 a1 σ) else (nm (-a1) fun (v9 : Int32) => f_X8_partOf_L23 1000 a0 a1 a2 v8 v9 σ))
set_option maxHeartbeats 4000000 in
set_option maxRecDepth 100000 in
theorem m_X8_partOf {l : Launch} {σ : Mem} {Z : Int32 × Mem} {a0 : Int32} {a1 : Int32} {a2 : Int32} (hf : f_X8_partOf a0 a1 a2 σ = some Z) : CT l yX8_partOf cX8_partOf 6 (some .int) 0 (fun _ => [.int a0, .int a1, .int a2]) σ Z := by
  refine g_openT RX8 (by decide) rfl (fun _ => Nat.le_of_ble_eq_true rfl) (fun p e s m below meth c D cI cB ad st ls E Y hr hk hl => ?_)
  have hx := E.1.1
  have hb := E.1.2.1
  have hl : lv_has ls 6 [(0, .int a0), (1, .int a1), (2, .int a2)] := hl
  have hL_23 : ∀ (n : Nat) (x0 : Int32) (x1 : Int32) (x2 : Int32) (x3 : Int32) (x4 : Int32) (σ : Mem) (H : Heap) (locs : List Loc) (ls : Array Slot), f_X8_partOf_L23 n x0 x1 x2 x3 x4 σ = some Z → Wo D cI cB ad (AA ad) σ s H locs → lv_has ls 6 [(0, .int x0), (1, .int x1), (2, .int x2), (3, .int x3), (4, .int x4)] → W p l e (rmd 0) s m ([.int a0, .int a1, .int a2] : List Value).toArray below meth c H locs 0 0 (QT_ below D cI cB ad st Z ([.int a0, .int a1, .int a2] : List Value).toArray s) (F0 m 23 ls []) := by
    intro n
    induction n with
    | zero =>
      intro x0 x1 x2 x3 x4 σ H locs ls hf
      cases (show (none : Res) = some Z from hf)
    | succ n ih =>
      intro x0 x1 x2 x3 x4 σ H locs ls hf Y hl
      have hf : fb_X8_partOf_L23 (f_X8_partOf_L23 n) x0 x1 x2 x3 x4 σ = some Z := hf
      unfold fb_X8_partOf_L23 at hf
      refine lv_iload_n (pc := 23) hx hb dX8_partOf_23 rfl (lv_at hl 3 rfl) ?_
      refine g_if_eq (pc := 24) (tgt := 42) E dX8_partOf_24 (by decide) hf (fun hf => ?_) (fun hf => ?_)
      · refine lv_iload_n (pc := 42) hx hb dX8_partOf_42 rfl (lv_at hl 1 rfl) ?_
        refine g_if_ge (pc := 43) (tgt := 52) E dX8_partOf_43 (by decide) hf (fun hf => ?_) (fun hf => ?_)
        · refine lv_iload (pc := 52) hx hb dX8_partOf_52 (lv_at hl 4 rfl) ?_
          refine lv_istore (pc := 54) (lv' := [(5, .int x4), (0, .int x0), (1, .int x1), (2, .int x2), (3, .int x3), (4, .int x4)]) hx hb dX8_partOf_54 hl (by decide) rfl (fun ls hl => ?_)
          refine lv_iload_n (pc := 56) hx hb dX8_partOf_56 rfl (lv_at hl 3 rfl) ?_
          refine g_if_ne (pc := 57) (tgt := 67) E dX8_partOf_57 (by decide) hf (fun hf => ?_) (fun hf => ?_)
          · refine lv_iload_n (pc := 67) hx hb dX8_partOf_67 rfl (lv_at hl 2 rfl) ?_
            refine lv_iload (pc := 68) hx hb dX8_partOf_68 (lv_at hl 0 rfl) ?_
            refine g_idiv (pc := 70) E dX8_partOf_70 hf (fun v1 hf => ?_)
            exact g_iret (pc := 71) E Y hr hk dX8_partOf_71 hf
          · refine lv_iload_n (pc := 60) hx hb dX8_partOf_60 rfl (lv_at hl 1 rfl) ?_
            refine lv_iload (pc := 61) hx hb dX8_partOf_61 (lv_at hl 0 rfl) ?_
            refine g_idiv (pc := 63) E dX8_partOf_63 hf (fun v2 hf => ?_)
            refine lv_goto (pc := 64) (tgt := 71) hx hb dX8_partOf_64 (by decide) ?_
            exact g_iret (pc := 71) E Y hr hk dX8_partOf_71 hf
        · refine lv_iload (pc := 46) hx hb dX8_partOf_46 (lv_at hl 4 rfl) ?_
          refine g_ineg (pc := 48) E dX8_partOf_48 hf (fun v3 hf => ?_)
          refine lv_goto (pc := 49) (tgt := 54) hx hb dX8_partOf_49 (by decide) ?_
          refine lv_istore (pc := 54) (lv' := [(5, .int v3), (0, .int x0), (1, .int x1), (2, .int x2), (3, .int x3), (4, .int x4)]) hx hb dX8_partOf_54 hl (by decide) rfl (fun ls hl => ?_)
          refine lv_iload_n (pc := 56) hx hb dX8_partOf_56 rfl (lv_at hl 3 rfl) ?_
          refine g_if_ne (pc := 57) (tgt := 67) E dX8_partOf_57 (by decide) hf (fun hf => ?_) (fun hf => ?_)
          · refine lv_iload_n (pc := 67) hx hb dX8_partOf_67 rfl (lv_at hl 2 rfl) ?_
            refine lv_iload (pc := 68) hx hb dX8_partOf_68 (lv_at hl 0 rfl) ?_
            refine g_idiv (pc := 70) E dX8_partOf_70 hf (fun v4 hf => ?_)
            exact g_iret (pc := 71) E Y hr hk dX8_partOf_71 hf
          · refine lv_iload_n (pc := 60) hx hb dX8_partOf_60 rfl (lv_at hl 1 rfl) ?_
            refine lv_iload (pc := 61) hx hb dX8_partOf_61 (lv_at hl 0 rfl) ?_
            refine g_idiv (pc := 63) E dX8_partOf_63 hf (fun v5 hf => ?_)
            refine lv_goto (pc := 64) (tgt := 71) hx hb dX8_partOf_64 (by decide) ?_
            exact g_iret (pc := 71) E Y hr hk dX8_partOf_71 hf
      · refine lv_iload (pc := 27) hx hb dX8_partOf_27 (lv_at hl 4 rfl) ?_
        refine lv_iload_n (pc := 29) hx hb dX8_partOf_29 rfl (lv_at hl 3 rfl) ?_
        refine g_irem (pc := 30) E dX8_partOf_30 hf (fun v6 hf => ?_)
        refine lv_istore (pc := 31) (lv' := [(5, .int v6), (0, .int x0), (1, .int x1), (2, .int x2), (3, .int x3), (4, .int x4)]) hx hb dX8_partOf_31 hl (by decide) rfl (fun ls hl => ?_)
        refine lv_iload_n (pc := 33) hx hb dX8_partOf_33 rfl (lv_at hl 4 rfl) ?_
        refine lv_istore (pc := 34) (lv' := [(4, .int x3), (5, .int v6), (0, .int x0), (1, .int x1), (2, .int x2), (3, .int x3)]) hx hb dX8_partOf_34 hl (by decide) rfl (fun ls hl => ?_)
        refine lv_iload (pc := 36) hx hb dX8_partOf_36 (lv_at hl 1 rfl) ?_
        refine lv_istore_n (pc := 38) (lv' := [(3, .int v6), (4, .int x3), (5, .int v6), (0, .int x0), (1, .int x1), (2, .int x2)]) hx hb dX8_partOf_38 rfl hl (by decide) rfl (fun ls hl => ?_)
        refine lv_goto (pc := 39) (tgt := 23) hx hb dX8_partOf_39 (by decide) ?_
        exact ih _ _ _ _ _ _ _ _ _ hf Y (lv_sub hl [3, 4, 5, 0, 1] rfl)
  unfold f_X8_partOf at hf
  refine lv_iload_n (pc := 0) hx hb dX8_partOf_0 rfl (lv_at hl 0 rfl) ?_
  refine g_if_ge (pc := 1) (tgt := 9) E dX8_partOf_1 (by decide) hf (fun hf => ?_) (fun hf => ?_)
  · refine lv_iload_n (pc := 9) hx hb dX8_partOf_9 rfl (lv_at hl 0 rfl) ?_
    refine lv_istore_n (pc := 10) (lv' := [(3, .int a0), (0, .int a0), (1, .int a1), (2, .int a2)]) hx hb dX8_partOf_10 rfl hl (by decide) rfl (fun ls hl => ?_)
    refine lv_iload_n (pc := 11) hx hb dX8_partOf_11 rfl (lv_at hl 2 rfl) ?_
    refine g_if_ge (pc := 12) (tgt := 20) E dX8_partOf_12 (by decide) hf (fun hf => ?_) (fun hf => ?_)
    · refine lv_iload_n (pc := 20) hx hb dX8_partOf_20 rfl (lv_at hl 2 rfl) ?_
      refine lv_istore (pc := 21) (lv' := [(4, .int a1), (3, .int a0), (0, .int a0), (1, .int a1), (2, .int a2)]) hx hb dX8_partOf_21 hl (by decide) rfl (fun ls hl => ?_)
      exact hL_23 1000 _ _ _ _ _ _ _ _ _ hf Y (lv_sub hl [2, 3, 4, 1, 0] rfl)
    · refine lv_iload_n (pc := 15) hx hb dX8_partOf_15 rfl (lv_at hl 2 rfl) ?_
      refine g_ineg (pc := 16) E dX8_partOf_16 hf (fun v7 hf => ?_)
      refine lv_goto (pc := 17) (tgt := 21) hx hb dX8_partOf_17 (by decide) ?_
      refine lv_istore (pc := 21) (lv' := [(4, .int v7), (3, .int a0), (0, .int a0), (1, .int a1), (2, .int a2)]) hx hb dX8_partOf_21 hl (by decide) rfl (fun ls hl => ?_)
      exact hL_23 1000 _ _ _ _ _ _ _ _ _ hf Y (lv_sub hl [2, 3, 4, 1, 0] rfl)
  · refine lv_iload_n (pc := 4) hx hb dX8_partOf_4 rfl (lv_at hl 0 rfl) ?_
    refine g_ineg (pc := 5) E dX8_partOf_5 hf (fun v8 hf => ?_)
    refine lv_goto (pc := 6) (tgt := 10) hx hb dX8_partOf_6 (by decide) ?_
    refine lv_istore_n (pc := 10) (lv' := [(3, .int v8), (0, .int a0), (1, .int a1), (2, .int a2)]) hx hb dX8_partOf_10 rfl hl (by decide) rfl (fun ls hl => ?_)
    refine lv_iload_n (pc := 11) hx hb dX8_partOf_11 rfl (lv_at hl 2 rfl) ?_
    refine g_if_ge (pc := 12) (tgt := 20) E dX8_partOf_12 (by decide) hf (fun hf => ?_) (fun hf => ?_)
    · refine lv_iload_n (pc := 20) hx hb dX8_partOf_20 rfl (lv_at hl 2 rfl) ?_
      refine lv_istore (pc := 21) (lv' := [(4, .int a1), (3, .int v8), (0, .int a0), (1, .int a1), (2, .int a2)]) hx hb dX8_partOf_21 hl (by decide) rfl (fun ls hl => ?_)
      exact hL_23 1000 _ _ _ _ _ _ _ _ _ hf Y (lv_sub hl [2, 3, 4, 1, 0] rfl)
    · refine lv_iload_n (pc := 15) hx hb dX8_partOf_15 rfl (lv_at hl 2 rfl) ?_
      refine g_ineg (pc := 16) E dX8_partOf_16 hf (fun v9 hf => ?_)
      refine lv_goto (pc := 17) (tgt := 21) hx hb dX8_partOf_17 (by decide) ?_
      refine lv_istore (pc := 21) (lv' := [(4, .int v9), (3, .int v8), (0, .int a0), (1, .int a1), (2, .int a2)]) hx hb dX8_partOf_21 hl (by decide) rfl (fun ls hl => ?_)
      exact hL_23 1000 _ _ _ _ _ _ _ _ _ hf Y (lv_sub hl [2, 3, 4, 1, 0] rfl)
def fb_X8_odds_53_L46 (bk : Int32 → Int32 → Int32 → Int32 → Int32 → Mem → Res) (x1 : Int32) (x2 : Int32) (x3 : Int32) (x4 : Int32) (x5 : Int32) (σ : Mem) : Res := gi 7 386 <| nm (σ 54 (7 : Int32).toNatClampNeg) fun (v9 : Int32) => if v9 ≤ x5 then (bd (f_X8_partOf x4 x3 x2 σ) fun v10 μ11 => some (v10, μ11)) else (bd (f_X8_about_53 x1 2 σ) fun v12 μ13 => bd (f_X8_isSafe_53 x1 x5 v12 μ13) fun v14 μ15 => if v14 = 0 then (nm (x4 + 0) fun (v16 : Int32) => nm (x5 + 1) fun (v17 : Int32) => bk x1 x2 x3 v16 v17 μ15) else (bd (f_X8_of_53 x5 2 μ15) fun v18 μ19 => nm (x4 + v18) fun (v20 : Int32) => nm (x5 + 1) fun (v21 : Int32) => bk x1 x2 x3 v20 v21 μ19))
def f_X8_odds_53_L46 : Nat → Int32 → Int32 → Int32 → Int32 → Int32 → Mem → Res
  | 0, _, _, _, _, _, _ => none
  | n + 1, x1, x2, x3, x4, x5, σ => fb_X8_odds_53_L46 (f_X8_odds_53_L46 n) x1 x2 x3 x4 x5 σ
def f_X8_odds_53 (a0 : Int32) (a1 : Int32) (σ : Mem) : Res := bd (f_X8_isRunner_53 a0 σ) fun v1 μ2 => if v1 = 0 then (bd (f_X8_error_53 (-1000000001) μ2) fun v3 μ4 => some (v3, μ4)) else (bd (f_X8_in a1 0 1 μ2) fun v5 μ6 => if v5 = 0 then (bd (f_X8_error_53 (-1000000001) μ6) fun v24 μ25 => some (v24, μ25)) else (bd (f_X8_weights_53 μ6) fun v7 μ8 => if v7 = 0 then (bd (f_X8_error_53 (-1000000003) μ8) fun v22 μ23 => some (v22, μ23)) else (f_X8_odds_53_L46 1000 a0 a1 v7 0 0 μ8)))
set_option maxHeartbeats 4000000 in
set_option maxRecDepth 100000 in
theorem m_X8_odds_53 {l : Launch} {σ : Mem} {Z : Int32 × Mem} {a0 : Int32} {a1 : Int32} (hf : f_X8_odds_53 a0 a1 σ = some Z) : CT l yX8_odds cX8_odds 6 (some .int) 6 (fun ad => [.ref (ad 53), .int a0, .int a1]) σ Z := by
  refine g_openT RX8 (by decide) rfl (fun _ => Nat.le_of_ble_eq_true rfl) (fun p e s m below meth c D cI cB ad st ls E Y hr hk hl => ?_)
  have hx := E.1.1
  have hb := E.1.2.1
  have hl : lv_has ls 6 [(0, .ref (ad 53)), (1, .int a0), (2, .int a1)] := hl
  have hL_46 : ∀ (n : Nat) (x1 : Int32) (x2 : Int32) (x3 : Int32) (x4 : Int32) (x5 : Int32) (σ : Mem) (H : Heap) (locs : List Loc) (ls : Array Slot), f_X8_odds_53_L46 n x1 x2 x3 x4 x5 σ = some Z → Wo D cI cB ad (AA ad) σ s H locs → lv_has ls 6 [(0, .ref (ad 53)), (1, .int x1), (2, .int x2), (3, .int x3), (4, .int x4), (5, .int x5)] → W p l e (rmd 6) s m ([.ref (ad 53), .int a0, .int a1] : List Value).toArray below meth c H locs 0 0 (QT_ below D cI cB ad st Z ([.ref (ad 53), .int a0, .int a1] : List Value).toArray s) (F0 m 46 ls []) := by
    intro n
    induction n with
    | zero =>
      intro x1 x2 x3 x4 x5 σ H locs ls hf
      cases (show (none : Res) = some Z from hf)
    | succ n ih =>
      intro x1 x2 x3 x4 x5 σ H locs ls hf Y hl
      have hf : fb_X8_odds_53_L46 (f_X8_odds_53_L46 n) x1 x2 x3 x4 x5 σ = some Z := hf
      unfold fb_X8_odds_53_L46 at hf
      refine lv_iload (pc := 46) hx hb dX8_odds_46 (lv_at hl 5 rfl) ?_
      refine lv_aload_n (pc := 48) hx hb dX8_odds_48 rfl (lv_at hl 0 rfl) ?_
      refine g_getr (pc := 49) E Y 53 0 54 S_53 rfl V_8 (by decide) AL_X8 q_358 dX8_odds_49 ?_
      refine lv_bipush (pc := 52) (v := 7) hx hb dX8_odds_52 (by decide) ?_
      refine g_iald (pc := 54) E Y 54 S_54 dX8_odds_54 hf (fun v9 hf => ?_)
      refine g_icmp_ge (pc := 55) (tgt := 96) E dX8_odds_55 (by decide) hf (fun hf => ?_) (fun hf => ?_)
      · refine lv_iload (pc := 96) hx hb dX8_odds_96 (lv_at hl 4 rfl) ?_
        refine lv_iload_n (pc := 98) hx hb dX8_odds_98 rfl (lv_at hl 3 rfl) ?_
        refine lv_iload_n (pc := 99) hx hb dX8_odds_99 rfl (lv_at hl 2 rfl) ?_
        refine g_callSi (pc := 100) E Y o_X8_partOf q_685 [.int x4, .int x3, .int x2] rfl rfl (hR_of (by omega) (by decide)) hl.1 (rest := []) rfl (Nat.le_of_ble_eq_true rfl) dX8_odds_100 (fun z hz => m_X8_partOf hz) hf (fun v10 μ11 H locs hf Y => ?_)
        exact g_iret (pc := 103) E Y hr hk dX8_odds_103 hf
      · refine lv_iload (pc := 58) hx hb dX8_odds_58 (lv_at hl 4 rfl) ?_
        refine lv_aload_n (pc := 60) hx hb dX8_odds_60 rfl (lv_at hl 0 rfl) ?_
        refine lv_iload_n (pc := 61) hx hb dX8_odds_61 rfl (lv_at hl 1 rfl) ?_
        refine lv_iload (pc := 62) hx hb dX8_odds_62 (lv_at hl 5 rfl) ?_
        refine lv_aload_n (pc := 64) hx hb dX8_odds_64 rfl (lv_at hl 0 rfl) ?_
        refine lv_iload_n (pc := 65) hx hb dX8_odds_65 rfl (lv_at hl 1 rfl) ?_
        refine lv_iconst (pc := 66) (v := 2) hx hb dX8_odds_66 (by decide) ?_
        refine g_callVi (pc := 67) E Y 53 S_53 V_8 o_X8_about q_711 [.int x1, .int 2] rfl rfl (hR_of (by omega) (by decide)) hl.1 (rest := [.int x5, .int x1, .ref (ad 53), .int x4]) rfl (Nat.le_of_ble_eq_true rfl) dX8_odds_67 (fun z hz => m_X8_about_53 hz) hf (fun v12 μ13 H locs hf Y => ?_)
        refine g_callVi (pc := 70) E Y 53 S_53 V_8 o_X8_isSafe q_666 [.int x1, .int x5, .int v12] rfl rfl (hR_of (by omega) (by decide)) hl.1 (rest := [.int x4]) rfl (Nat.le_of_ble_eq_true rfl) dX8_odds_70 (fun z hz => m_X8_isSafe_53 hz) hf (fun v14 μ15 H locs hf Y => ?_)
        refine g_if_eq (pc := 73) (tgt := 86) E dX8_odds_73 (by decide) hf (fun hf => ?_) (fun hf => ?_)
        · refine lv_iconst (pc := 86) (v := 0) hx hb dX8_odds_86 (by decide) ?_
          refine g_iadd (pc := 87) E dX8_odds_87 hf (fun v16 hf => ?_)
          refine lv_istore (pc := 88) (lv' := [(4, .int v16), (0, .ref (ad 53)), (1, .int x1), (2, .int x2), (3, .int x3), (5, .int x5)]) hx hb dX8_odds_88 hl (by decide) rfl (fun ls hl => ?_)
          refine g_iinc (pc := 90) E (fun v17 => [(5, .int v17), (4, .int v16), (0, .ref (ad 53)), (1, .int x1), (2, .int x2), (3, .int x3)]) dX8_odds_90 hl (k := 5) rfl (t := 1) (by decide) (by decide) (fun _ => rfl) hf (fun v17 hf ls hl => ?_)
          refine lv_goto (pc := 93) (tgt := 46) hx hb dX8_odds_93 (by decide) ?_
          exact ih _ _ _ _ _ _ _ _ _ hf Y (lv_sub hl [2, 3, 4, 5, 1, 0] rfl)
        · refine lv_aload_n (pc := 76) hx hb dX8_odds_76 rfl (lv_at hl 0 rfl) ?_
          refine lv_iload (pc := 77) hx hb dX8_odds_77 (lv_at hl 5 rfl) ?_
          refine lv_iconst (pc := 79) (v := 2) hx hb dX8_odds_79 (by decide) ?_
          refine g_callVi (pc := 80) E Y 53 S_53 V_8 o_X8_of q_708 [.int x5, .int 2] rfl rfl (hR_of (by omega) (by decide)) hl.1 (rest := [.int x4]) rfl (Nat.le_of_ble_eq_true rfl) dX8_odds_80 (fun z hz => m_X8_of_53 hz) hf (fun v18 μ19 H locs hf Y => ?_)
          refine lv_goto (pc := 83) (tgt := 87) hx hb dX8_odds_83 (by decide) ?_
          refine g_iadd (pc := 87) E dX8_odds_87 hf (fun v20 hf => ?_)
          refine lv_istore (pc := 88) (lv' := [(4, .int v20), (0, .ref (ad 53)), (1, .int x1), (2, .int x2), (3, .int x3), (5, .int x5)]) hx hb dX8_odds_88 hl (by decide) rfl (fun ls hl => ?_)
          refine g_iinc (pc := 90) E (fun v21 => [(5, .int v21), (4, .int v20), (0, .ref (ad 53)), (1, .int x1), (2, .int x2), (3, .int x3)]) dX8_odds_90 hl (k := 5) rfl (t := 1) (by decide) (by decide) (fun _ => rfl) hf (fun v21 hf ls hl => ?_)
          refine lv_goto (pc := 93) (tgt := 46) hx hb dX8_odds_93 (by decide) ?_
          exact ih _ _ _ _ _ _ _ _ _ hf Y (lv_sub hl [2, 3, 4, 5, 1, 0] rfl)
  unfold f_X8_odds_53 at hf
  refine lv_aload_n (pc := 0) hx hb dX8_odds_0 rfl (lv_at hl 0 rfl) ?_
  refine lv_iload_n (pc := 1) hx hb dX8_odds_1 rfl (lv_at hl 1 rfl) ?_
  refine g_callVi (pc := 2) E Y 53 S_53 V_8 o_X8_isRunner q_721 [.int a0] rfl rfl (hR_of (by omega) (by decide)) hl.1 (rest := []) rfl (Nat.le_of_ble_eq_true rfl) dX8_odds_2 (fun z hz => m_X8_isRunner_53 hz) hf (fun v1 μ2 H locs hf Y => ?_)
  refine g_if_eq (pc := 5) (tgt := 17) E dX8_odds_5 (by decide) hf (fun hf => ?_) (fun hf => ?_)
  · refine lv_aload_n (pc := 17) hx hb dX8_odds_17 rfl (lv_at hl 0 rfl) ?_
    refine lv_ldc (pc := 18) (v := (-1000000001)) hx hb E.1.2.2.2.1 (E.1.2.2.2.2 _ q_238) dX8_odds_18 ?_
    refine g_callVi (pc := 20) E Y 53 S_53 V_8 o_X8_error q_716 [.int (-1000000001)] rfl rfl (hR_of (by omega) (by decide)) hl.1 (rest := []) rfl (Nat.le_of_ble_eq_true rfl) dX8_odds_20 (fun z hz => m_X8_error_53 hz) hf (fun v3 μ4 H locs hf Y => ?_)
    exact g_iret (pc := 23) E Y hr hk dX8_odds_23 hf
  · refine lv_iload_n (pc := 8) hx hb dX8_odds_8 rfl (lv_at hl 2 rfl) ?_
    refine lv_iconst (pc := 9) (v := 0) hx hb dX8_odds_9 (by decide) ?_
    refine lv_iconst (pc := 10) (v := 1) hx hb dX8_odds_10 (by decide) ?_
    refine g_callSi (pc := 11) E Y o_X8_in q_707 [.int a1, .int 0, .int 1] rfl rfl (hR_of (by omega) (by decide)) hl.1 (rest := []) rfl (Nat.le_of_ble_eq_true rfl) dX8_odds_11 (fun z hz => m_X8_in hz) hf (fun v5 μ6 H locs hf Y => ?_)
    refine g_if_ne (pc := 14) (tgt := 24) E dX8_odds_14 (by decide) hf (fun hf => ?_) (fun hf => ?_)
    · refine lv_aload_n (pc := 24) hx hb dX8_odds_24 rfl (lv_at hl 0 rfl) ?_
      refine g_callVi (pc := 25) E Y 53 S_53 V_8 o_X8_weights q_684 [] rfl rfl (hR_of (by omega) (by decide)) hl.1 (rest := []) rfl (Nat.le_of_ble_eq_true rfl) dX8_odds_25 (fun z hz => m_X8_weights_53 hz) hf (fun v7 μ8 H locs hf Y => ?_)
      refine lv_istore_n (pc := 28) (lv' := [(3, .int v7), (0, .ref (ad 53)), (1, .int a0), (2, .int a1)]) hx hb dX8_odds_28 rfl hl (by decide) rfl (fun ls hl => ?_)
      refine lv_iload_n (pc := 29) hx hb dX8_odds_29 rfl (lv_at hl 0 rfl) ?_
      refine g_if_ne (pc := 30) (tgt := 40) E dX8_odds_30 (by decide) hf (fun hf => ?_) (fun hf => ?_)
      · refine lv_iconst (pc := 40) (v := 0) hx hb dX8_odds_40 (by decide) ?_
        refine lv_istore (pc := 41) (lv' := [(4, .int 0), (3, .int v7), (0, .ref (ad 53)), (1, .int a0), (2, .int a1)]) hx hb dX8_odds_41 hl (by decide) rfl (fun ls hl => ?_)
        refine lv_iconst (pc := 43) (v := 0) hx hb dX8_odds_43 (by decide) ?_
        refine lv_istore (pc := 44) (lv' := [(5, .int 0), (4, .int 0), (3, .int v7), (0, .ref (ad 53)), (1, .int a0), (2, .int a1)]) hx hb dX8_odds_44 hl (by decide) rfl (fun ls hl => ?_)
        exact hL_46 1000 _ _ _ _ _ _ _ _ _ hf Y (lv_sub hl [3, 4, 5, 2, 1, 0] rfl)
      · refine lv_aload_n (pc := 33) hx hb dX8_odds_33 rfl (lv_at hl 1 rfl) ?_
        refine lv_ldc (pc := 34) (v := (-1000000003)) hx hb E.1.2.2.2.1 (E.1.2.2.2.2 _ q_234) dX8_odds_34 ?_
        refine g_callVi (pc := 36) E Y 53 S_53 V_8 o_X8_error q_716 [.int (-1000000003)] rfl rfl (hR_of (by omega) (by decide)) hl.1 (rest := []) rfl (Nat.le_of_ble_eq_true rfl) dX8_odds_36 (fun z hz => m_X8_error_53 hz) hf (fun v22 μ23 H locs hf Y => ?_)
        exact g_iret (pc := 39) E Y hr hk dX8_odds_39 hf
    · refine lv_aload_n (pc := 17) hx hb dX8_odds_17 rfl (lv_at hl 0 rfl) ?_
      refine lv_ldc (pc := 18) (v := (-1000000001)) hx hb E.1.2.2.2.1 (E.1.2.2.2.2 _ q_238) dX8_odds_18 ?_
      refine g_callVi (pc := 20) E Y 53 S_53 V_8 o_X8_error q_716 [.int (-1000000001)] rfl rfl (hR_of (by omega) (by decide)) hl.1 (rest := []) rfl (Nat.le_of_ble_eq_true rfl) dX8_odds_20 (fun z hz => m_X8_error_53 hz) hf (fun v24 μ25 H locs hf Y => ?_)
      exact g_iret (pc := 23) E Y hr hk dX8_odds_23 hf
def f_X8_go_53 (a0 : Int32) (a1 : Int32) (σ : Mem) : Res := bd (f_X8_isRunner_53 a0 σ) fun v1 μ2 => if v1 = 0 then (bd (f_X8_error_53 (-1000000001) μ2) fun v3 μ4 => some (v3, μ4)) else (bd (f_X8_in a1 0 1 μ2) fun v5 μ6 => if v5 = 0 then (bd (f_X8_error_53 (-1000000001) μ6) fun v17 μ18 => some (v17, μ18)) else (bd (f_X8_weights_53 μ6) fun v7 μ8 => if v7 = 0 then (bd (f_X8_error_53 (-1000000003) μ8) fun v15 μ16 => some (v15, μ16)) else (bd (f_X8_about_53 a0 2 μ8) fun v9 μ10 => bd (f_X8_gainsFrom_53 a0 v9 μ10) fun v11 μ12 => bd (f_X8_partOf v11 v7 a1 μ12) fun v13 μ14 => some (v13, μ14))))
set_option maxHeartbeats 4000000 in
set_option maxRecDepth 100000 in
theorem m_X8_go_53 {l : Launch} {σ : Mem} {Z : Int32 × Mem} {a0 : Int32} {a1 : Int32} (hf : f_X8_go_53 a0 a1 σ = some Z) : CT l yX8_go cX8_go 4 (some .int) 7 (fun ad => [.ref (ad 53), .int a0, .int a1]) σ Z := by
  refine g_openT RX8 (by decide) rfl (fun _ => Nat.le_of_ble_eq_true rfl) (fun p e s m below meth c D cI cB ad st ls E Y hr hk hl => ?_)
  have hx := E.1.1
  have hb := E.1.2.1
  have hl : lv_has ls 4 [(0, .ref (ad 53)), (1, .int a0), (2, .int a1)] := hl
  unfold f_X8_go_53 at hf
  refine lv_aload_n (pc := 0) hx hb dX8_go_0 rfl (lv_at hl 0 rfl) ?_
  refine lv_iload_n (pc := 1) hx hb dX8_go_1 rfl (lv_at hl 1 rfl) ?_
  refine g_callVi (pc := 2) E Y 53 S_53 V_8 o_X8_isRunner q_721 [.int a0] rfl rfl (hR_of (by omega) (by decide)) hl.1 (rest := []) rfl (Nat.le_of_ble_eq_true rfl) dX8_go_2 (fun z hz => m_X8_isRunner_53 hz) hf (fun v1 μ2 H locs hf Y => ?_)
  refine g_if_eq (pc := 5) (tgt := 17) E dX8_go_5 (by decide) hf (fun hf => ?_) (fun hf => ?_)
  · refine lv_aload_n (pc := 17) hx hb dX8_go_17 rfl (lv_at hl 0 rfl) ?_
    refine lv_ldc (pc := 18) (v := (-1000000001)) hx hb E.1.2.2.2.1 (E.1.2.2.2.2 _ q_238) dX8_go_18 ?_
    refine g_callVi (pc := 20) E Y 53 S_53 V_8 o_X8_error q_716 [.int (-1000000001)] rfl rfl (hR_of (by omega) (by decide)) hl.1 (rest := []) rfl (Nat.le_of_ble_eq_true rfl) dX8_go_20 (fun z hz => m_X8_error_53 hz) hf (fun v3 μ4 H locs hf Y => ?_)
    exact g_iret (pc := 23) E Y hr hk dX8_go_23 hf
  · refine lv_iload_n (pc := 8) hx hb dX8_go_8 rfl (lv_at hl 2 rfl) ?_
    refine lv_iconst (pc := 9) (v := 0) hx hb dX8_go_9 (by decide) ?_
    refine lv_iconst (pc := 10) (v := 1) hx hb dX8_go_10 (by decide) ?_
    refine g_callSi (pc := 11) E Y o_X8_in q_707 [.int a1, .int 0, .int 1] rfl rfl (hR_of (by omega) (by decide)) hl.1 (rest := []) rfl (Nat.le_of_ble_eq_true rfl) dX8_go_11 (fun z hz => m_X8_in hz) hf (fun v5 μ6 H locs hf Y => ?_)
    refine g_if_ne (pc := 14) (tgt := 24) E dX8_go_14 (by decide) hf (fun hf => ?_) (fun hf => ?_)
    · refine lv_aload_n (pc := 24) hx hb dX8_go_24 rfl (lv_at hl 0 rfl) ?_
      refine g_callVi (pc := 25) E Y 53 S_53 V_8 o_X8_weights q_684 [] rfl rfl (hR_of (by omega) (by decide)) hl.1 (rest := []) rfl (Nat.le_of_ble_eq_true rfl) dX8_go_25 (fun z hz => m_X8_weights_53 hz) hf (fun v7 μ8 H locs hf Y => ?_)
      refine lv_istore_n (pc := 28) (lv' := [(3, .int v7), (0, .ref (ad 53)), (1, .int a0), (2, .int a1)]) hx hb dX8_go_28 rfl hl (by decide) rfl (fun ls hl => ?_)
      refine lv_iload_n (pc := 29) hx hb dX8_go_29 rfl (lv_at hl 0 rfl) ?_
      refine g_if_ne (pc := 30) (tgt := 42) E dX8_go_30 (by decide) hf (fun hf => ?_) (fun hf => ?_)
      · refine lv_aload_n (pc := 42) hx hb dX8_go_42 rfl (lv_at hl 1 rfl) ?_
        refine lv_iload_n (pc := 43) hx hb dX8_go_43 rfl (lv_at hl 2 rfl) ?_
        refine lv_aload_n (pc := 44) hx hb dX8_go_44 rfl (lv_at hl 1 rfl) ?_
        refine lv_iload_n (pc := 45) hx hb dX8_go_45 rfl (lv_at hl 2 rfl) ?_
        refine lv_iconst (pc := 46) (v := 2) hx hb dX8_go_46 (by decide) ?_
        refine g_callVi (pc := 47) E Y 53 S_53 V_8 o_X8_about q_711 [.int a0, .int 2] rfl rfl (hR_of (by omega) (by decide)) hl.1 (rest := [.int a0, .ref (ad 53)]) rfl (Nat.le_of_ble_eq_true rfl) dX8_go_47 (fun z hz => m_X8_about_53 hz) hf (fun v9 μ10 H locs hf Y => ?_)
        refine g_callVi (pc := 50) E Y 53 S_53 V_8 o_X8_gainsFrom q_683 [.int a0, .int v9] rfl rfl (hR_of (by omega) (by decide)) hl.1 (rest := []) rfl (Nat.le_of_ble_eq_true rfl) dX8_go_50 (fun z hz => m_X8_gainsFrom_53 hz) hf (fun v11 μ12 H locs hf Y => ?_)
        refine lv_iload_n (pc := 53) hx hb dX8_go_53 rfl (lv_at hl 0 rfl) ?_
        refine lv_iload_n (pc := 54) hx hb dX8_go_54 rfl (lv_at hl 3 rfl) ?_
        refine g_callSi (pc := 55) E Y o_X8_partOf q_685 [.int v11, .int v7, .int a1] rfl rfl (hR_of (by omega) (by decide)) hl.1 (rest := []) rfl (Nat.le_of_ble_eq_true rfl) dX8_go_55 (fun z hz => m_X8_partOf hz) hf (fun v13 μ14 H locs hf Y => ?_)
        exact g_iret (pc := 58) E Y hr hk dX8_go_58 hf
      · refine lv_aload_n (pc := 33) hx hb dX8_go_33 rfl (lv_at hl 1 rfl) ?_
        refine lv_ldc (pc := 34) (v := (-1000000003)) hx hb E.1.2.2.2.1 (E.1.2.2.2.2 _ q_234) dX8_go_34 ?_
        refine g_callVi (pc := 36) E Y 53 S_53 V_8 o_X8_error q_716 [.int (-1000000003)] rfl rfl (hR_of (by omega) (by decide)) hl.1 (rest := []) rfl (Nat.le_of_ble_eq_true rfl) dX8_go_36 (fun z hz => m_X8_error_53 hz) hf (fun v15 μ16 H locs hf Y => ?_)
        refine lv_goto (pc := 39) (tgt := 58) hx hb dX8_go_39 (by decide) ?_
        exact g_iret (pc := 58) E Y hr hk dX8_go_58 hf
    · refine lv_aload_n (pc := 17) hx hb dX8_go_17 rfl (lv_at hl 0 rfl) ?_
      refine lv_ldc (pc := 18) (v := (-1000000001)) hx hb E.1.2.2.2.1 (E.1.2.2.2.2 _ q_238) dX8_go_18 ?_
      refine g_callVi (pc := 20) E Y 53 S_53 V_8 o_X8_error q_716 [.int (-1000000001)] rfl rfl (hR_of (by omega) (by decide)) hl.1 (rest := []) rfl (Nat.le_of_ble_eq_true rfl) dX8_go_20 (fun z hz => m_X8_error_53 hz) hf (fun v17 μ18 H locs hf Y => ?_)
      exact g_iret (pc := 23) E Y hr hk dX8_go_23 hf
def f_X8_lesser (a0 : Int32) (a1 : Int32) (σ : Mem) : Res := if a1 ≤ a0 then (some (a1, σ)) else (some (a0, σ))
set_option maxHeartbeats 4000000 in
set_option maxRecDepth 100000 in
theorem m_X8_lesser {l : Launch} {σ : Mem} {Z : Int32 × Mem} {a0 : Int32} {a1 : Int32} (hf : f_X8_lesser a0 a1 σ = some Z) : CT l yX8_lesser cX8_lesser 2 (some .int) 0 (fun _ => [.int a0, .int a1]) σ Z := by
  refine g_openT RX8 (by decide) rfl (fun _ => Nat.le_of_ble_eq_true rfl) (fun p e s m below meth c D cI cB ad st ls E Y hr hk hl => ?_)
  have hx := E.1.1
  have hb := E.1.2.1
  have hl : lv_has ls 2 [(0, .int a0), (1, .int a1)] := hl
  unfold f_X8_lesser at hf
  refine lv_iload_n (pc := 0) hx hb dX8_lesser_0 rfl (lv_at hl 0 rfl) ?_
  refine lv_iload_n (pc := 1) hx hb dX8_lesser_1 rfl (lv_at hl 1 rfl) ?_
  refine g_icmp_ge (pc := 2) (tgt := 9) E dX8_lesser_2 (by decide) hf (fun hf => ?_) (fun hf => ?_)
  · refine lv_iload_n (pc := 9) hx hb dX8_lesser_9 rfl (lv_at hl 1 rfl) ?_
    exact g_iret (pc := 10) E Y hr hk dX8_lesser_10 hf
  · refine lv_iload_n (pc := 5) hx hb dX8_lesser_5 rfl (lv_at hl 0 rfl) ?_
    refine lv_goto (pc := 6) (tgt := 10) hx hb dX8_lesser_6 (by decide) ?_
    exact g_iret (pc := 10) E Y hr hk dX8_lesser_10 hf
def f_X8_greater (a0 : Int32) (a1 : Int32) (σ : Mem) : Res := if a0 ≤ a1 then (some (a1, σ)) else (some (a0, σ))
set_option maxHeartbeats 4000000 in
set_option maxRecDepth 100000 in
theorem m_X8_greater {l : Launch} {σ : Mem} {Z : Int32 × Mem} {a0 : Int32} {a1 : Int32} (hf : f_X8_greater a0 a1 σ = some Z) : CT l yX8_greater cX8_greater 2 (some .int) 0 (fun _ => [.int a0, .int a1]) σ Z := by
  refine g_openT RX8 (by decide) rfl (fun _ => Nat.le_of_ble_eq_true rfl) (fun p e s m below meth c D cI cB ad st ls E Y hr hk hl => ?_)
  have hx := E.1.1
  have hb := E.1.2.1
  have hl : lv_has ls 2 [(0, .int a0), (1, .int a1)] := hl
  unfold f_X8_greater at hf
  refine lv_iload_n (pc := 0) hx hb dX8_greater_0 rfl (lv_at hl 0 rfl) ?_
  refine lv_iload_n (pc := 1) hx hb dX8_greater_1 rfl (lv_at hl 1 rfl) ?_
  refine g_icmp_le (pc := 2) (tgt := 9) E dX8_greater_2 (by decide) hf (fun hf => ?_) (fun hf => ?_)
  · refine lv_iload_n (pc := 9) hx hb dX8_greater_9 rfl (lv_at hl 1 rfl) ?_
    exact g_iret (pc := 10) E Y hr hk dX8_greater_10 hf
  · refine lv_iload_n (pc := 5) hx hb dX8_greater_5 rfl (lv_at hl 0 rfl) ?_
    refine lv_goto (pc := 6) (tgt := 10) hx hb dX8_greater_6 (by decide) ?_
    exact g_iret (pc := 10) E Y hr hk dX8_greater_10 hf
def f_X8_duel_53 (a0 : Int32) (a1 : Int32) (a2 : Int32) (a3 : Int32) (σ : Mem) : Res := bd (f_X8_isRunner_53 a0 σ) fun v1 μ2 => if v1 = 0 then (bd (f_X8_error_53 (-1000000001) μ2) fun v3 μ4 => some (v3, μ4)) else (bd (f_X8_isPitch_53 a1 μ2) fun v5 μ6 => if v5 = 0 then (bd (f_X8_error_53 (-1000000001) μ6) fun v7 μ8 => some (v7, μ8)) else (bd (f_X8_isPitch_53 a2 μ6) fun v9 μ10 => if v9 = 0 then (bd (f_X8_error_53 (-1000000001) μ10) fun v11 μ12 => some (v11, μ12)) else (bd (f_X8_in a3 0 1 μ10) fun v13 μ14 => if v13 = 0 then (bd (f_X8_error_53 (-1000000001) μ14) fun v49 μ50 => some (v49, μ50)) else (bd (f_X8_about_53 a0 2 μ14) fun v15 μ16 => bd (f_X8_gainOf_53 a0 a1 v15 μ16) fun v17 μ18 => bd (f_X8_about_53 a0 2 μ18) fun v19 μ20 => bd (f_X8_gainOf_53 a0 a2 v19 μ20) fun v21 μ22 => bd (f_X8_costsOf_53 a1 μ22) fun v23 μ24 => bd (f_X8_costsOf_53 a2 μ24) fun v25 μ26 => bd (f_X8_lesser v17 v21 μ26) fun v27 μ28 => bd (f_X8_lesser v23 v25 μ28) fun v29 μ30 => bd (f_X8_greater v27 v29 μ30) fun v31 μ32 => bd (f_X8_greater v17 v23 μ32) fun v33 μ34 => bd (f_X8_greater v21 v25 μ34) fun v35 μ36 => bd (f_X8_lesser v33 v35 μ36) fun v37 μ38 => if v31 = v37 then (bd (f_X8_partOf v31 1 a3 μ38) fun v47 μ48 => some (v47, μ48)) else (nm (v17 * v25) fun (v39 : Int32) => nm (v21 * v23) fun (v40 : Int32) => nm (v39 - v40) fun (v41 : Int32) => nm (v17 + v25) fun (v42 : Int32) => nm (v42 - v21) fun (v43 : Int32) => nm (v43 - v23) fun (v44 : Int32) => bd (f_X8_partOf v41 v44 a3 μ38) fun v45 μ46 => some (v45, μ46))))))
set_option maxHeartbeats 4000000 in
set_option maxRecDepth 100000 in
theorem m_X8_duel_53 {l : Launch} {σ : Mem} {Z : Int32 × Mem} {a0 : Int32} {a1 : Int32} {a2 : Int32} {a3 : Int32} (hf : f_X8_duel_53 a0 a1 a2 a3 σ = some Z) : CT l yX8_duel cX8_duel 11 (some .int) 6 (fun ad => [.ref (ad 53), .int a0, .int a1, .int a2, .int a3]) σ Z := by
  refine g_openT RX8 (by decide) rfl (fun _ => Nat.le_of_ble_eq_true rfl) (fun p e s m below meth c D cI cB ad st ls E Y hr hk hl => ?_)
  have hx := E.1.1
  have hb := E.1.2.1
  have hl : lv_has ls 11 [(0, .ref (ad 53)), (1, .int a0), (2, .int a1), (3, .int a2), (4, .int a3)] := hl
  unfold f_X8_duel_53 at hf
  refine lv_aload_n (pc := 0) hx hb dX8_duel_0 rfl (lv_at hl 0 rfl) ?_
  refine lv_iload_n (pc := 1) hx hb dX8_duel_1 rfl (lv_at hl 1 rfl) ?_
  refine g_callVi (pc := 2) E Y 53 S_53 V_8 o_X8_isRunner q_721 [.int a0] rfl rfl (hR_of (by omega) (by decide)) hl.1 (rest := []) rfl (Nat.le_of_ble_eq_true rfl) dX8_duel_2 (fun z hz => m_X8_isRunner_53 hz) hf (fun v1 μ2 H locs hf Y => ?_)
  refine g_if_eq (pc := 5) (tgt := 34) E dX8_duel_5 (by decide) hf (fun hf => ?_) (fun hf => ?_)
  · refine lv_aload_n (pc := 34) hx hb dX8_duel_34 rfl (lv_at hl 0 rfl) ?_
    refine lv_ldc (pc := 35) (v := (-1000000001)) hx hb E.1.2.2.2.1 (E.1.2.2.2.2 _ q_238) dX8_duel_35 ?_
    refine g_callVi (pc := 37) E Y 53 S_53 V_8 o_X8_error q_716 [.int (-1000000001)] rfl rfl (hR_of (by omega) (by decide)) hl.1 (rest := []) rfl (Nat.le_of_ble_eq_true rfl) dX8_duel_37 (fun z hz => m_X8_error_53 hz) hf (fun v3 μ4 H locs hf Y => ?_)
    exact g_iret (pc := 40) E Y hr hk dX8_duel_40 hf
  · refine lv_aload_n (pc := 8) hx hb dX8_duel_8 rfl (lv_at hl 0 rfl) ?_
    refine lv_iload_n (pc := 9) hx hb dX8_duel_9 rfl (lv_at hl 2 rfl) ?_
    refine g_callVi (pc := 10) E Y 53 S_53 V_8 o_X8_isPitch q_717 [.int a1] rfl rfl (hR_of (by omega) (by decide)) hl.1 (rest := []) rfl (Nat.le_of_ble_eq_true rfl) dX8_duel_10 (fun z hz => m_X8_isPitch_53 hz) hf (fun v5 μ6 H locs hf Y => ?_)
    refine g_if_eq (pc := 13) (tgt := 34) E dX8_duel_13 (by decide) hf (fun hf => ?_) (fun hf => ?_)
    · refine lv_aload_n (pc := 34) hx hb dX8_duel_34 rfl (lv_at hl 0 rfl) ?_
      refine lv_ldc (pc := 35) (v := (-1000000001)) hx hb E.1.2.2.2.1 (E.1.2.2.2.2 _ q_238) dX8_duel_35 ?_
      refine g_callVi (pc := 37) E Y 53 S_53 V_8 o_X8_error q_716 [.int (-1000000001)] rfl rfl (hR_of (by omega) (by decide)) hl.1 (rest := []) rfl (Nat.le_of_ble_eq_true rfl) dX8_duel_37 (fun z hz => m_X8_error_53 hz) hf (fun v7 μ8 H locs hf Y => ?_)
      exact g_iret (pc := 40) E Y hr hk dX8_duel_40 hf
    · refine lv_aload_n (pc := 16) hx hb dX8_duel_16 rfl (lv_at hl 0 rfl) ?_
      refine lv_iload_n (pc := 17) hx hb dX8_duel_17 rfl (lv_at hl 3 rfl) ?_
      refine g_callVi (pc := 18) E Y 53 S_53 V_8 o_X8_isPitch q_717 [.int a2] rfl rfl (hR_of (by omega) (by decide)) hl.1 (rest := []) rfl (Nat.le_of_ble_eq_true rfl) dX8_duel_18 (fun z hz => m_X8_isPitch_53 hz) hf (fun v9 μ10 H locs hf Y => ?_)
      refine g_if_eq (pc := 21) (tgt := 34) E dX8_duel_21 (by decide) hf (fun hf => ?_) (fun hf => ?_)
      · refine lv_aload_n (pc := 34) hx hb dX8_duel_34 rfl (lv_at hl 0 rfl) ?_
        refine lv_ldc (pc := 35) (v := (-1000000001)) hx hb E.1.2.2.2.1 (E.1.2.2.2.2 _ q_238) dX8_duel_35 ?_
        refine g_callVi (pc := 37) E Y 53 S_53 V_8 o_X8_error q_716 [.int (-1000000001)] rfl rfl (hR_of (by omega) (by decide)) hl.1 (rest := []) rfl (Nat.le_of_ble_eq_true rfl) dX8_duel_37 (fun z hz => m_X8_error_53 hz) hf (fun v11 μ12 H locs hf Y => ?_)
        exact g_iret (pc := 40) E Y hr hk dX8_duel_40 hf
      · refine lv_iload (pc := 24) hx hb dX8_duel_24 (lv_at hl 4 rfl) ?_
        refine lv_iconst (pc := 26) (v := 0) hx hb dX8_duel_26 (by decide) ?_
        refine lv_iconst (pc := 27) (v := 1) hx hb dX8_duel_27 (by decide) ?_
        refine g_callSi (pc := 28) E Y o_X8_in q_707 [.int a3, .int 0, .int 1] rfl rfl (hR_of (by omega) (by decide)) hl.1 (rest := []) rfl (Nat.le_of_ble_eq_true rfl) dX8_duel_28 (fun z hz => m_X8_in hz) hf (fun v13 μ14 H locs hf Y => ?_)
        refine g_if_ne (pc := 31) (tgt := 41) E dX8_duel_31 (by decide) hf (fun hf => ?_) (fun hf => ?_)
        · refine lv_aload_n (pc := 41) hx hb dX8_duel_41 rfl (lv_at hl 0 rfl) ?_
          refine lv_iload_n (pc := 42) hx hb dX8_duel_42 rfl (lv_at hl 1 rfl) ?_
          refine lv_iload_n (pc := 43) hx hb dX8_duel_43 rfl (lv_at hl 2 rfl) ?_
          refine lv_aload_n (pc := 44) hx hb dX8_duel_44 rfl (lv_at hl 0 rfl) ?_
          refine lv_iload_n (pc := 45) hx hb dX8_duel_45 rfl (lv_at hl 1 rfl) ?_
          refine lv_iconst (pc := 46) (v := 2) hx hb dX8_duel_46 (by decide) ?_
          refine g_callVi (pc := 47) E Y 53 S_53 V_8 o_X8_about q_711 [.int a0, .int 2] rfl rfl (hR_of (by omega) (by decide)) hl.1 (rest := [.int a1, .int a0, .ref (ad 53)]) rfl (Nat.le_of_ble_eq_true rfl) dX8_duel_47 (fun z hz => m_X8_about_53 hz) hf (fun v15 μ16 H locs hf Y => ?_)
          refine g_callVi (pc := 50) E Y 53 S_53 V_8 o_X8_gainOf q_667 [.int a0, .int a1, .int v15] rfl rfl (hR_of (by omega) (by decide)) hl.1 (rest := []) rfl (Nat.le_of_ble_eq_true rfl) dX8_duel_50 (fun z hz => m_X8_gainOf_53 hz) hf (fun v17 μ18 H locs hf Y => ?_)
          refine lv_istore (pc := 53) (lv' := [(5, .int v17), (0, .ref (ad 53)), (1, .int a0), (2, .int a1), (3, .int a2), (4, .int a3)]) hx hb dX8_duel_53 hl (by decide) rfl (fun ls hl => ?_)
          refine lv_aload_n (pc := 55) hx hb dX8_duel_55 rfl (lv_at hl 1 rfl) ?_
          refine lv_iload_n (pc := 56) hx hb dX8_duel_56 rfl (lv_at hl 2 rfl) ?_
          refine lv_iload_n (pc := 57) hx hb dX8_duel_57 rfl (lv_at hl 4 rfl) ?_
          refine lv_aload_n (pc := 58) hx hb dX8_duel_58 rfl (lv_at hl 1 rfl) ?_
          refine lv_iload_n (pc := 59) hx hb dX8_duel_59 rfl (lv_at hl 2 rfl) ?_
          refine lv_iconst (pc := 60) (v := 2) hx hb dX8_duel_60 (by decide) ?_
          refine g_callVi (pc := 61) E Y 53 S_53 V_8 o_X8_about q_711 [.int a0, .int 2] rfl rfl (hR_of (by omega) (by decide)) hl.1 (rest := [.int a2, .int a0, .ref (ad 53)]) rfl (Nat.le_of_ble_eq_true rfl) dX8_duel_61 (fun z hz => m_X8_about_53 hz) hf (fun v19 μ20 H locs hf Y => ?_)
          refine g_callVi (pc := 64) E Y 53 S_53 V_8 o_X8_gainOf q_667 [.int a0, .int a2, .int v19] rfl rfl (hR_of (by omega) (by decide)) hl.1 (rest := []) rfl (Nat.le_of_ble_eq_true rfl) dX8_duel_64 (fun z hz => m_X8_gainOf_53 hz) hf (fun v21 μ22 H locs hf Y => ?_)
          refine lv_istore (pc := 67) (lv' := [(6, .int v21), (5, .int v17), (0, .ref (ad 53)), (1, .int a0), (2, .int a1), (3, .int a2), (4, .int a3)]) hx hb dX8_duel_67 hl (by decide) rfl (fun ls hl => ?_)
          refine lv_aload_n (pc := 69) hx hb dX8_duel_69 rfl (lv_at hl 2 rfl) ?_
          refine lv_iload_n (pc := 70) hx hb dX8_duel_70 rfl (lv_at hl 4 rfl) ?_
          refine g_callVi (pc := 71) E Y 53 S_53 V_8 o_X8_costsOf q_718 [.int a1] rfl rfl (hR_of (by omega) (by decide)) hl.1 (rest := []) rfl (Nat.le_of_ble_eq_true rfl) dX8_duel_71 (fun z hz => m_X8_costsOf_53 hz) hf (fun v23 μ24 H locs hf Y => ?_)
          refine lv_istore (pc := 74) (lv' := [(7, .int v23), (6, .int v21), (5, .int v17), (0, .ref (ad 53)), (1, .int a0), (2, .int a1), (3, .int a2), (4, .int a3)]) hx hb dX8_duel_74 hl (by decide) rfl (fun ls hl => ?_)
          refine lv_aload_n (pc := 76) hx hb dX8_duel_76 rfl (lv_at hl 3 rfl) ?_
          refine lv_iload_n (pc := 77) hx hb dX8_duel_77 rfl (lv_at hl 6 rfl) ?_
          refine g_callVi (pc := 78) E Y 53 S_53 V_8 o_X8_costsOf q_718 [.int a2] rfl rfl (hR_of (by omega) (by decide)) hl.1 (rest := []) rfl (Nat.le_of_ble_eq_true rfl) dX8_duel_78 (fun z hz => m_X8_costsOf_53 hz) hf (fun v25 μ26 H locs hf Y => ?_)
          refine lv_istore (pc := 81) (lv' := [(8, .int v25), (7, .int v23), (6, .int v21), (5, .int v17), (0, .ref (ad 53)), (1, .int a0), (2, .int a1), (3, .int a2), (4, .int a3)]) hx hb dX8_duel_81 hl (by decide) rfl (fun ls hl => ?_)
          refine lv_iload (pc := 83) hx hb dX8_duel_83 (lv_at hl 3 rfl) ?_
          refine lv_iload (pc := 85) hx hb dX8_duel_85 (lv_at hl 2 rfl) ?_
          refine g_callSi (pc := 87) E Y o_X8_lesser q_686 [.int v17, .int v21] rfl rfl (hR_of (by omega) (by decide)) hl.1 (rest := []) rfl (Nat.le_of_ble_eq_true rfl) dX8_duel_87 (fun z hz => m_X8_lesser hz) hf (fun v27 μ28 H locs hf Y => ?_)
          refine lv_iload (pc := 90) hx hb dX8_duel_90 (lv_at hl 1 rfl) ?_
          refine lv_iload (pc := 92) hx hb dX8_duel_92 (lv_at hl 0 rfl) ?_
          refine g_callSi (pc := 94) E Y o_X8_lesser q_686 [.int v23, .int v25] rfl rfl (hR_of (by omega) (by decide)) hl.1 (rest := [.int v27]) rfl (Nat.le_of_ble_eq_true rfl) dX8_duel_94 (fun z hz => m_X8_lesser hz) hf (fun v29 μ30 H locs hf Y => ?_)
          refine g_callSi (pc := 97) E Y o_X8_greater q_687 [.int v27, .int v29] rfl rfl (hR_of (by omega) (by decide)) hl.1 (rest := []) rfl (Nat.le_of_ble_eq_true rfl) dX8_duel_97 (fun z hz => m_X8_greater hz) hf (fun v31 μ32 H locs hf Y => ?_)
          refine lv_istore (pc := 100) (lv' := [(9, .int v31), (8, .int v25), (7, .int v23), (6, .int v21), (5, .int v17), (0, .ref (ad 53)), (1, .int a0), (2, .int a1), (3, .int a2), (4, .int a3)]) hx hb dX8_duel_100 hl (by decide) rfl (fun ls hl => ?_)
          refine lv_iload (pc := 102) hx hb dX8_duel_102 (lv_at hl 4 rfl) ?_
          refine lv_iload (pc := 104) hx hb dX8_duel_104 (lv_at hl 2 rfl) ?_
          refine g_callSi (pc := 106) E Y o_X8_greater q_687 [.int v17, .int v23] rfl rfl (hR_of (by omega) (by decide)) hl.1 (rest := []) rfl (Nat.le_of_ble_eq_true rfl) dX8_duel_106 (fun z hz => m_X8_greater hz) hf (fun v33 μ34 H locs hf Y => ?_)
          refine lv_iload (pc := 109) hx hb dX8_duel_109 (lv_at hl 3 rfl) ?_
          refine lv_iload (pc := 111) hx hb dX8_duel_111 (lv_at hl 1 rfl) ?_
          refine g_callSi (pc := 113) E Y o_X8_greater q_687 [.int v21, .int v25] rfl rfl (hR_of (by omega) (by decide)) hl.1 (rest := [.int v33]) rfl (Nat.le_of_ble_eq_true rfl) dX8_duel_113 (fun z hz => m_X8_greater hz) hf (fun v35 μ36 H locs hf Y => ?_)
          refine g_callSi (pc := 116) E Y o_X8_lesser q_686 [.int v33, .int v35] rfl rfl (hR_of (by omega) (by decide)) hl.1 (rest := []) rfl (Nat.le_of_ble_eq_true rfl) dX8_duel_116 (fun z hz => m_X8_lesser hz) hf (fun v37 μ38 H locs hf Y => ?_)
          refine lv_istore (pc := 119) (lv' := [(10, .int v37), (9, .int v31), (8, .int v25), (7, .int v23), (6, .int v21), (5, .int v17), (0, .ref (ad 53)), (1, .int a0), (2, .int a1), (3, .int a2), (4, .int a3)]) hx hb dX8_duel_119 hl (by decide) rfl (fun ls hl => ?_)
          refine lv_iload (pc := 121) hx hb dX8_duel_121 (lv_at hl 1 rfl) ?_
          refine lv_iload (pc := 123) hx hb dX8_duel_123 (lv_at hl 0 rfl) ?_
          refine g_icmp_ne (pc := 125) (tgt := 139) E dX8_duel_125 (by decide) hf (fun hf => ?_) (fun hf => ?_)
          · refine lv_iload (pc := 139) hx hb dX8_duel_139 (lv_at hl 5 rfl) ?_
            refine lv_iload (pc := 141) hx hb dX8_duel_141 (lv_at hl 2 rfl) ?_
            refine g_imul (pc := 143) E dX8_duel_143 hf (fun v39 hf => ?_)
            refine lv_iload (pc := 144) hx hb dX8_duel_144 (lv_at hl 4 rfl) ?_
            refine lv_iload (pc := 146) hx hb dX8_duel_146 (lv_at hl 3 rfl) ?_
            refine g_imul (pc := 148) E dX8_duel_148 hf (fun v40 hf => ?_)
            refine g_isub (pc := 149) E dX8_duel_149 hf (fun v41 hf => ?_)
            refine lv_iload (pc := 150) hx hb dX8_duel_150 (lv_at hl 5 rfl) ?_
            refine lv_iload (pc := 152) hx hb dX8_duel_152 (lv_at hl 2 rfl) ?_
            refine g_iadd (pc := 154) E dX8_duel_154 hf (fun v42 hf => ?_)
            refine lv_iload (pc := 155) hx hb dX8_duel_155 (lv_at hl 4 rfl) ?_
            refine g_isub (pc := 157) E dX8_duel_157 hf (fun v43 hf => ?_)
            refine lv_iload (pc := 158) hx hb dX8_duel_158 (lv_at hl 3 rfl) ?_
            refine g_isub (pc := 160) E dX8_duel_160 hf (fun v44 hf => ?_)
            refine lv_iload (pc := 161) hx hb dX8_duel_161 (lv_at hl 10 rfl) ?_
            refine g_callSi (pc := 163) E Y o_X8_partOf q_685 [.int v41, .int v44, .int a3] rfl rfl (hR_of (by omega) (by decide)) hl.1 (rest := []) rfl (Nat.le_of_ble_eq_true rfl) dX8_duel_163 (fun z hz => m_X8_partOf hz) hf (fun v45 μ46 H locs hf Y => ?_)
            exact g_iret (pc := 166) E Y hr hk dX8_duel_166 hf
          · refine lv_iload (pc := 128) hx hb dX8_duel_128 (lv_at hl 1 rfl) ?_
            refine lv_iconst (pc := 130) (v := 1) hx hb dX8_duel_130 (by decide) ?_
            refine lv_iload (pc := 131) hx hb dX8_duel_131 (lv_at hl 10 rfl) ?_
            refine g_callSi (pc := 133) E Y o_X8_partOf q_685 [.int v31, .int 1, .int a3] rfl rfl (hR_of (by omega) (by decide)) hl.1 (rest := []) rfl (Nat.le_of_ble_eq_true rfl) dX8_duel_133 (fun z hz => m_X8_partOf hz) hf (fun v47 μ48 H locs hf Y => ?_)
            refine lv_goto (pc := 136) (tgt := 166) hx hb dX8_duel_136 (by decide) ?_
            exact g_iret (pc := 166) E Y hr hk dX8_duel_166 hf
        · refine lv_aload_n (pc := 34) hx hb dX8_duel_34 rfl (lv_at hl 0 rfl) ?_
          refine lv_ldc (pc := 35) (v := (-1000000001)) hx hb E.1.2.2.2.1 (E.1.2.2.2.2 _ q_238) dX8_duel_35 ?_
          refine g_callVi (pc := 37) E Y 53 S_53 V_8 o_X8_error q_716 [.int (-1000000001)] rfl rfl (hR_of (by omega) (by decide)) hl.1 (rest := []) rfl (Nat.le_of_ble_eq_true rfl) dX8_duel_37 (fun z hz => m_X8_error_53 hz) hf (fun v49 μ50 H locs hf Y => ?_)
          exact g_iret (pc := 40) E Y hr hk dX8_duel_40 hf
def fb_X8_surely_53_L32 (bk : Int32 → Int32 → Int32 → Int32 → Int32 → Mem → Res) (x1 : Int32) (x2 : Int32) (x3 : Int32) (x4 : Int32) (x5 : Int32) (σ : Mem) : Res := gi 7 386 <| nm (σ 54 (7 : Int32).toNatClampNeg) fun (v7 : Int32) => if v7 ≤ x5 then (if x2 = 0 then (some (x3, σ)) else (some (x4, σ))) else (bd (f_X8_about_53 x1 2 σ) fun v8 μ9 => bd (f_X8_isSafe_53 x1 x5 v8 μ9) fun v10 μ11 => if v10 = 0 then (nm (x3 ||| 0) fun (v12 : Int32) => if v10 = 0 then (nm (x4 + 0) fun (v13 : Int32) => nm (x5 + 1) fun (v14 : Int32) => bk x1 x2 v12 v13 v14 μ11) else (nm (x4 + 1) fun (v15 : Int32) => nm (x5 + 1) fun (v16 : Int32) => bk x1 x2 v12 v15 v16 μ11)) else (nm (1 <<< (x5 &&& 31)) fun (v17 : Int32) => nm (x3 ||| v17) fun (v18 : Int32) => if v10 = 0 then (nm (x4 + 0) fun (v19 : Int32) => nm (x5 + 1) fun (v20 : Int32) => bk x1 x2 v18 v19 v20 μ11) else (nm (x4 + 1) fun (v21 : Int32) => nm (x5 + 1) fun (v22 : Int32) => bk x1 x2 v18 v21 v22 μ11)))
def f_X8_surely_53_L32 : Nat → Int32 → Int32 → Int32 → Int32 → Int32 → Mem → Res
  | 0, _, _, _, _, _, _ => none
  | n + 1, x1, x2, x3, x4, x5, σ => fb_X8_surely_53_L32 (f_X8_surely_53_L32 n) x1 x2 x3 x4 x5 σ
def f_X8_surely_53 (a0 : Int32) (a1 : Int32) (σ : Mem) : Res := bd (f_X8_isRunner_53 a0 σ) fun v1 μ2 => if v1 = 0 then (bd (f_X8_error_53 (-1000000001) μ2) fun v3 μ4 => some (v3, μ4)) else (bd (f_X8_in a1 0 1 μ2) fun v5 μ6 => if v5 = 0 then (bd (f_X8_error_53 (-1000000001) μ6) fun v23 μ24 => some (v23, μ24)) else (f_X8_surely_53_L32 1000 a0 a1 0 0 0 μ6))
set_option maxHeartbeats 4000000 in
set_option maxRecDepth 100000 in
theorem m_X8_surely_53 {l : Launch} {σ : Mem} {Z : Int32 × Mem} {a0 : Int32} {a1 : Int32} (hf : f_X8_surely_53 a0 a1 σ = some Z) : CT l yX8_surely cX8_surely 7 (some .int) 6 (fun ad => [.ref (ad 53), .int a0, .int a1]) σ Z := by
  refine g_openT RX8 (by decide) rfl (fun _ => Nat.le_of_ble_eq_true rfl) (fun p e s m below meth c D cI cB ad st ls E Y hr hk hl => ?_)
  have hx := E.1.1
  have hb := E.1.2.1
  have hl : lv_has ls 7 [(0, .ref (ad 53)), (1, .int a0), (2, .int a1)] := hl
  have hL_32 : ∀ (n : Nat) (x1 : Int32) (x2 : Int32) (x3 : Int32) (x4 : Int32) (x5 : Int32) (σ : Mem) (H : Heap) (locs : List Loc) (ls : Array Slot), f_X8_surely_53_L32 n x1 x2 x3 x4 x5 σ = some Z → Wo D cI cB ad (AA ad) σ s H locs → lv_has ls 7 [(0, .ref (ad 53)), (1, .int x1), (2, .int x2), (3, .int x3), (4, .int x4), (5, .int x5)] → W p l e (rmd 6) s m ([.ref (ad 53), .int a0, .int a1] : List Value).toArray below meth c H locs 0 0 (QT_ below D cI cB ad st Z ([.ref (ad 53), .int a0, .int a1] : List Value).toArray s) (F0 m 32 ls []) := by
    intro n
    induction n with
    | zero =>
      intro x1 x2 x3 x4 x5 σ H locs ls hf
      cases (show (none : Res) = some Z from hf)
    | succ n ih =>
      intro x1 x2 x3 x4 x5 σ H locs ls hf Y hl
      have hf : fb_X8_surely_53_L32 (f_X8_surely_53_L32 n) x1 x2 x3 x4 x5 σ = some Z := hf
      unfold fb_X8_surely_53_L32 at hf
      refine lv_iload (pc := 32) hx hb dX8_surely_32 (lv_at hl 5 rfl) ?_
      refine lv_aload_n (pc := 34) hx hb dX8_surely_34 rfl (lv_at hl 0 rfl) ?_
      refine g_getr (pc := 35) E Y 53 0 54 S_53 rfl V_8 (by decide) AL_X8 q_358 dX8_surely_35 ?_
      refine lv_bipush (pc := 38) (v := 7) hx hb dX8_surely_38 (by decide) ?_
      refine g_iald (pc := 40) E Y 54 S_54 dX8_surely_40 hf (fun v7 hf => ?_)
      refine g_icmp_ge (pc := 41) (tgt := 96) E dX8_surely_41 (by decide) hf (fun hf => ?_) (fun hf => ?_)
      · refine lv_iload_n (pc := 96) hx hb dX8_surely_96 rfl (lv_at hl 2 rfl) ?_
        refine g_if_ne (pc := 97) (tgt := 104) E dX8_surely_97 (by decide) hf (fun hf => ?_) (fun hf => ?_)
        · refine lv_iload (pc := 104) hx hb dX8_surely_104 (lv_at hl 4 rfl) ?_
          exact g_iret (pc := 106) E Y hr hk dX8_surely_106 hf
        · refine lv_iload_n (pc := 100) hx hb dX8_surely_100 rfl (lv_at hl 3 rfl) ?_
          refine lv_goto (pc := 101) (tgt := 106) hx hb dX8_surely_101 (by decide) ?_
          exact g_iret (pc := 106) E Y hr hk dX8_surely_106 hf
      · refine lv_aload_n (pc := 44) hx hb dX8_surely_44 rfl (lv_at hl 0 rfl) ?_
        refine lv_iload_n (pc := 45) hx hb dX8_surely_45 rfl (lv_at hl 1 rfl) ?_
        refine lv_iload (pc := 46) hx hb dX8_surely_46 (lv_at hl 5 rfl) ?_
        refine lv_aload_n (pc := 48) hx hb dX8_surely_48 rfl (lv_at hl 0 rfl) ?_
        refine lv_iload_n (pc := 49) hx hb dX8_surely_49 rfl (lv_at hl 1 rfl) ?_
        refine lv_iconst (pc := 50) (v := 2) hx hb dX8_surely_50 (by decide) ?_
        refine g_callVi (pc := 51) E Y 53 S_53 V_8 o_X8_about q_711 [.int x1, .int 2] rfl rfl (hR_of (by omega) (by decide)) hl.1 (rest := [.int x5, .int x1, .ref (ad 53)]) rfl (Nat.le_of_ble_eq_true rfl) dX8_surely_51 (fun z hz => m_X8_about_53 hz) hf (fun v8 μ9 H locs hf Y => ?_)
        refine g_callVi (pc := 54) E Y 53 S_53 V_8 o_X8_isSafe q_666 [.int x1, .int x5, .int v8] rfl rfl (hR_of (by omega) (by decide)) hl.1 (rest := []) rfl (Nat.le_of_ble_eq_true rfl) dX8_surely_54 (fun z hz => m_X8_isSafe_53 hz) hf (fun v10 μ11 H locs hf Y => ?_)
        refine lv_istore (pc := 57) (lv' := [(6, .int v10), (0, .ref (ad 53)), (1, .int x1), (2, .int x2), (3, .int x3), (4, .int x4), (5, .int x5)]) hx hb dX8_surely_57 hl (by decide) rfl (fun ls hl => ?_)
        refine lv_iload_n (pc := 59) hx hb dX8_surely_59 rfl (lv_at hl 4 rfl) ?_
        refine lv_iload (pc := 60) hx hb dX8_surely_60 (lv_at hl 0 rfl) ?_
        refine g_if_eq (pc := 62) (tgt := 72) E dX8_surely_62 (by decide) hf (fun hf => ?_) (fun hf => ?_)
        · refine lv_iconst (pc := 72) (v := 0) hx hb dX8_surely_72 (by decide) ?_
          refine g_ior (pc := 73) E dX8_surely_73 hf (fun v12 hf => ?_)
          refine lv_istore_n (pc := 74) (lv' := [(3, .int v12), (6, .int v10), (0, .ref (ad 53)), (1, .int x1), (2, .int x2), (4, .int x4), (5, .int x5)]) hx hb dX8_surely_74 rfl hl (by decide) rfl (fun ls hl => ?_)
          refine lv_iload (pc := 75) hx hb dX8_surely_75 (lv_at hl 5 rfl) ?_
          refine lv_iload (pc := 77) hx hb dX8_surely_77 (lv_at hl 1 rfl) ?_
          refine g_if_eq (pc := 79) (tgt := 86) E dX8_surely_79 (by decide) hf (fun hf => ?_) (fun hf => ?_)
          · refine lv_iconst (pc := 86) (v := 0) hx hb dX8_surely_86 (by decide) ?_
            refine g_iadd (pc := 87) E dX8_surely_87 hf (fun v13 hf => ?_)
            refine lv_istore (pc := 88) (lv' := [(4, .int v13), (3, .int v12), (6, .int v10), (0, .ref (ad 53)), (1, .int x1), (2, .int x2), (5, .int x5)]) hx hb dX8_surely_88 hl (by decide) rfl (fun ls hl => ?_)
            refine g_iinc (pc := 90) E (fun v14 => [(5, .int v14), (4, .int v13), (3, .int v12), (6, .int v10), (0, .ref (ad 53)), (1, .int x1), (2, .int x2)]) dX8_surely_90 hl (k := 6) rfl (t := 1) (by decide) (by decide) (fun _ => rfl) hf (fun v14 hf ls hl => ?_)
            refine lv_goto (pc := 93) (tgt := 32) hx hb dX8_surely_93 (by decide) ?_
            exact ih _ _ _ _ _ _ _ _ _ hf Y (lv_sub hl [4, 5, 6, 2, 1, 0] rfl)
          · refine lv_iconst (pc := 82) (v := 1) hx hb dX8_surely_82 (by decide) ?_
            refine lv_goto (pc := 83) (tgt := 87) hx hb dX8_surely_83 (by decide) ?_
            refine g_iadd (pc := 87) E dX8_surely_87 hf (fun v15 hf => ?_)
            refine lv_istore (pc := 88) (lv' := [(4, .int v15), (3, .int v12), (6, .int v10), (0, .ref (ad 53)), (1, .int x1), (2, .int x2), (5, .int x5)]) hx hb dX8_surely_88 hl (by decide) rfl (fun ls hl => ?_)
            refine g_iinc (pc := 90) E (fun v16 => [(5, .int v16), (4, .int v15), (3, .int v12), (6, .int v10), (0, .ref (ad 53)), (1, .int x1), (2, .int x2)]) dX8_surely_90 hl (k := 6) rfl (t := 1) (by decide) (by decide) (fun _ => rfl) hf (fun v16 hf ls hl => ?_)
            refine lv_goto (pc := 93) (tgt := 32) hx hb dX8_surely_93 (by decide) ?_
            exact ih _ _ _ _ _ _ _ _ _ hf Y (lv_sub hl [4, 5, 6, 2, 1, 0] rfl)
        · refine lv_iconst (pc := 65) (v := 1) hx hb dX8_surely_65 (by decide) ?_
          refine lv_iload (pc := 66) hx hb dX8_surely_66 (lv_at hl 6 rfl) ?_
          refine g_ishl (pc := 68) E dX8_surely_68 hf (fun v17 hf => ?_)
          refine lv_goto (pc := 69) (tgt := 73) hx hb dX8_surely_69 (by decide) ?_
          refine g_ior (pc := 73) E dX8_surely_73 hf (fun v18 hf => ?_)
          refine lv_istore_n (pc := 74) (lv' := [(3, .int v18), (6, .int v10), (0, .ref (ad 53)), (1, .int x1), (2, .int x2), (4, .int x4), (5, .int x5)]) hx hb dX8_surely_74 rfl hl (by decide) rfl (fun ls hl => ?_)
          refine lv_iload (pc := 75) hx hb dX8_surely_75 (lv_at hl 5 rfl) ?_
          refine lv_iload (pc := 77) hx hb dX8_surely_77 (lv_at hl 1 rfl) ?_
          refine g_if_eq (pc := 79) (tgt := 86) E dX8_surely_79 (by decide) hf (fun hf => ?_) (fun hf => ?_)
          · refine lv_iconst (pc := 86) (v := 0) hx hb dX8_surely_86 (by decide) ?_
            refine g_iadd (pc := 87) E dX8_surely_87 hf (fun v19 hf => ?_)
            refine lv_istore (pc := 88) (lv' := [(4, .int v19), (3, .int v18), (6, .int v10), (0, .ref (ad 53)), (1, .int x1), (2, .int x2), (5, .int x5)]) hx hb dX8_surely_88 hl (by decide) rfl (fun ls hl => ?_)
            refine g_iinc (pc := 90) E (fun v20 => [(5, .int v20), (4, .int v19), (3, .int v18), (6, .int v10), (0, .ref (ad 53)), (1, .int x1), (2, .int x2)]) dX8_surely_90 hl (k := 6) rfl (t := 1) (by decide) (by decide) (fun _ => rfl) hf (fun v20 hf ls hl => ?_)
            refine lv_goto (pc := 93) (tgt := 32) hx hb dX8_surely_93 (by decide) ?_
            exact ih _ _ _ _ _ _ _ _ _ hf Y (lv_sub hl [4, 5, 6, 2, 1, 0] rfl)
          · refine lv_iconst (pc := 82) (v := 1) hx hb dX8_surely_82 (by decide) ?_
            refine lv_goto (pc := 83) (tgt := 87) hx hb dX8_surely_83 (by decide) ?_
            refine g_iadd (pc := 87) E dX8_surely_87 hf (fun v21 hf => ?_)
            refine lv_istore (pc := 88) (lv' := [(4, .int v21), (3, .int v18), (6, .int v10), (0, .ref (ad 53)), (1, .int x1), (2, .int x2), (5, .int x5)]) hx hb dX8_surely_88 hl (by decide) rfl (fun ls hl => ?_)
            refine g_iinc (pc := 90) E (fun v22 => [(5, .int v22), (4, .int v21), (3, .int v18), (6, .int v10), (0, .ref (ad 53)), (1, .int x1), (2, .int x2)]) dX8_surely_90 hl (k := 6) rfl (t := 1) (by decide) (by decide) (fun _ => rfl) hf (fun v22 hf ls hl => ?_)
            refine lv_goto (pc := 93) (tgt := 32) hx hb dX8_surely_93 (by decide) ?_
            exact ih _ _ _ _ _ _ _ _ _ hf Y (lv_sub hl [4, 5, 6, 2, 1, 0] rfl)
  unfold f_X8_surely_53 at hf
  refine lv_aload_n (pc := 0) hx hb dX8_surely_0 rfl (lv_at hl 0 rfl) ?_
  refine lv_iload_n (pc := 1) hx hb dX8_surely_1 rfl (lv_at hl 1 rfl) ?_
  refine g_callVi (pc := 2) E Y 53 S_53 V_8 o_X8_isRunner q_721 [.int a0] rfl rfl (hR_of (by omega) (by decide)) hl.1 (rest := []) rfl (Nat.le_of_ble_eq_true rfl) dX8_surely_2 (fun z hz => m_X8_isRunner_53 hz) hf (fun v1 μ2 H locs hf Y => ?_)
  refine g_if_eq (pc := 5) (tgt := 17) E dX8_surely_5 (by decide) hf (fun hf => ?_) (fun hf => ?_)
  · refine lv_aload_n (pc := 17) hx hb dX8_surely_17 rfl (lv_at hl 0 rfl) ?_
    refine lv_ldc (pc := 18) (v := (-1000000001)) hx hb E.1.2.2.2.1 (E.1.2.2.2.2 _ q_238) dX8_surely_18 ?_
    refine g_callVi (pc := 20) E Y 53 S_53 V_8 o_X8_error q_716 [.int (-1000000001)] rfl rfl (hR_of (by omega) (by decide)) hl.1 (rest := []) rfl (Nat.le_of_ble_eq_true rfl) dX8_surely_20 (fun z hz => m_X8_error_53 hz) hf (fun v3 μ4 H locs hf Y => ?_)
    exact g_iret (pc := 23) E Y hr hk dX8_surely_23 hf
  · refine lv_iload_n (pc := 8) hx hb dX8_surely_8 rfl (lv_at hl 2 rfl) ?_
    refine lv_iconst (pc := 9) (v := 0) hx hb dX8_surely_9 (by decide) ?_
    refine lv_iconst (pc := 10) (v := 1) hx hb dX8_surely_10 (by decide) ?_
    refine g_callSi (pc := 11) E Y o_X8_in q_707 [.int a1, .int 0, .int 1] rfl rfl (hR_of (by omega) (by decide)) hl.1 (rest := []) rfl (Nat.le_of_ble_eq_true rfl) dX8_surely_11 (fun z hz => m_X8_in hz) hf (fun v5 μ6 H locs hf Y => ?_)
    refine g_if_ne (pc := 14) (tgt := 24) E dX8_surely_14 (by decide) hf (fun hf => ?_) (fun hf => ?_)
    · refine lv_iconst (pc := 24) (v := 0) hx hb dX8_surely_24 (by decide) ?_
      refine lv_istore_n (pc := 25) (lv' := [(3, .int 0), (0, .ref (ad 53)), (1, .int a0), (2, .int a1)]) hx hb dX8_surely_25 rfl hl (by decide) rfl (fun ls hl => ?_)
      refine lv_iconst (pc := 26) (v := 0) hx hb dX8_surely_26 (by decide) ?_
      refine lv_istore (pc := 27) (lv' := [(4, .int 0), (3, .int 0), (0, .ref (ad 53)), (1, .int a0), (2, .int a1)]) hx hb dX8_surely_27 hl (by decide) rfl (fun ls hl => ?_)
      refine lv_iconst (pc := 29) (v := 0) hx hb dX8_surely_29 (by decide) ?_
      refine lv_istore (pc := 30) (lv' := [(5, .int 0), (4, .int 0), (3, .int 0), (0, .ref (ad 53)), (1, .int a0), (2, .int a1)]) hx hb dX8_surely_30 hl (by decide) rfl (fun ls hl => ?_)
      exact hL_32 1000 _ _ _ _ _ _ _ _ _ hf Y (lv_sub hl [3, 4, 5, 2, 1, 0] rfl)
    · refine lv_aload_n (pc := 17) hx hb dX8_surely_17 rfl (lv_at hl 0 rfl) ?_
      refine lv_ldc (pc := 18) (v := (-1000000001)) hx hb E.1.2.2.2.1 (E.1.2.2.2.2 _ q_238) dX8_surely_18 ?_
      refine g_callVi (pc := 20) E Y 53 S_53 V_8 o_X8_error q_716 [.int (-1000000001)] rfl rfl (hR_of (by omega) (by decide)) hl.1 (rest := []) rfl (Nat.le_of_ble_eq_true rfl) dX8_surely_20 (fun z hz => m_X8_error_53 hz) hf (fun v23 μ24 H locs hf Y => ?_)
      exact g_iret (pc := 23) E Y hr hk dX8_surely_23 hf
def fb_X8_isSo_53_L26 (bk : Int32 → Int32 → Int32 → Int32 → Int32 → Mem → Res) (x1 : Int32) (x2 : Int32) (x3 : Int32) (x4 : Int32) (x5 : Int32) (σ : Mem) : Res := gi x1 4 <| nm (σ 58 x1.toNatClampNeg) fun (v3 : Int32) => if v3 ≤ x5 then (gb x4 (some (x4, σ))) else (if x4 = 0 then (gb x4 (some (x4, σ))) else (nm (24 * x1) fun (v4 : Int32) => nm (v4 + x5) fun (v5 : Int32) => gi v5 96 <| nm (σ 59 v5.toNatClampNeg) fun (v6 : Int32) => bd (f_X8_isSafe_53 x2 x5 x3 σ) fun v7 μ8 => if v7 = 0 then (if v6 = 0 then (nm (x5 + 1) fun (v10 : Int32) => bk x1 x2 x3 1 v10 μ8) else (nm (x5 + 1) fun (v9 : Int32) => bk x1 x2 x3 0 v9 μ8)) else (if v6 = 1 then (nm (x5 + 1) fun (v12 : Int32) => bk x1 x2 x3 1 v12 μ8) else (nm (x5 + 1) fun (v11 : Int32) => bk x1 x2 x3 0 v11 μ8))))
def f_X8_isSo_53_L26 : Nat → Int32 → Int32 → Int32 → Int32 → Int32 → Mem → Res
  | 0, _, _, _, _, _, _ => none
  | n + 1, x1, x2, x3, x4, x5, σ => fb_X8_isSo_53_L26 (f_X8_isSo_53_L26 n) x1 x2 x3 x4 x5 σ
def f_X8_isSo_53 (a0 : Int32) (a1 : Int32) (a2 : Int32) (σ : Mem) : Res := gi a0 4 <| nm (σ 58 a0.toNatClampNeg) fun (v1 : Int32) => gi 7 386 <| nm (σ 54 (7 : Int32).toNatClampNeg) fun (v2 : Int32) => if v2 < v1 then (f_X8_isSo_53_L26 1000 a0 a1 a2 0 0 σ) else (f_X8_isSo_53_L26 1000 a0 a1 a2 1 0 σ)
set_option maxHeartbeats 4000000 in
set_option maxRecDepth 100000 in
theorem m_X8_isSo_53 {l : Launch} {σ : Mem} {Z : Int32 × Mem} {a0 : Int32} {a1 : Int32} {a2 : Int32} (hf : f_X8_isSo_53 a0 a1 a2 σ = some Z) : CT l yX8_isSo cX8_isSo 6 (some .boolean) 6 (fun ad => [.ref (ad 53), .int a0, .int a1, .int a2]) σ Z := by
  refine g_openT RX8 (by decide) rfl (fun _ => Nat.le_of_ble_eq_true rfl) (fun p e s m below meth c D cI cB ad st ls E Y hr hk hl => ?_)
  have hx := E.1.1
  have hb := E.1.2.1
  have hl : lv_has ls 6 [(0, .ref (ad 53)), (1, .int a0), (2, .int a1), (3, .int a2)] := hl
  have hL_26 : ∀ (n : Nat) (x1 : Int32) (x2 : Int32) (x3 : Int32) (x4 : Int32) (x5 : Int32) (σ : Mem) (H : Heap) (locs : List Loc) (ls : Array Slot), f_X8_isSo_53_L26 n x1 x2 x3 x4 x5 σ = some Z → Wo D cI cB ad (AA ad) σ s H locs → lv_has ls 6 [(0, .ref (ad 53)), (1, .int x1), (2, .int x2), (3, .int x3), (4, .int x4), (5, .int x5)] → W p l e (rmd 6) s m ([.ref (ad 53), .int a0, .int a1, .int a2] : List Value).toArray below meth c H locs 0 0 (QT_ below D cI cB ad st Z ([.ref (ad 53), .int a0, .int a1, .int a2] : List Value).toArray s) (F0 m 26 ls []) := by
    intro n
    induction n with
    | zero =>
      intro x1 x2 x3 x4 x5 σ H locs ls hf
      cases (show (none : Res) = some Z from hf)
    | succ n ih =>
      intro x1 x2 x3 x4 x5 σ H locs ls hf Y hl
      have hf : fb_X8_isSo_53_L26 (f_X8_isSo_53_L26 n) x1 x2 x3 x4 x5 σ = some Z := hf
      unfold fb_X8_isSo_53_L26 at hf
      refine lv_iload (pc := 26) hx hb dX8_isSo_26 (lv_at hl 5 rfl) ?_
      refine lv_aload_n (pc := 28) hx hb dX8_isSo_28 rfl (lv_at hl 0 rfl) ?_
      refine g_getr (pc := 29) E Y 53 5 58 S_53 rfl V_8 (by decide) AL_X8 q_349 dX8_isSo_29 ?_
      refine lv_iload_n (pc := 32) hx hb dX8_isSo_32 rfl (lv_at hl 1 rfl) ?_
      refine g_iald (pc := 33) E Y 58 S_58 dX8_isSo_33 hf (fun v3 hf => ?_)
      refine g_icmp_ge (pc := 34) (tgt := 86) E dX8_isSo_34 (by decide) hf (fun hf => ?_) (fun hf => ?_)
      · refine lv_iload (pc := 86) hx hb dX8_isSo_86 (lv_at hl 4 rfl) ?_
        exact g_zret (pc := 88) E Y hr hk dX8_isSo_88 hf
      · refine lv_iload (pc := 37) hx hb dX8_isSo_37 (lv_at hl 4 rfl) ?_
        refine g_if_eq (pc := 39) (tgt := 86) E dX8_isSo_39 (by decide) hf (fun hf => ?_) (fun hf => ?_)
        · refine lv_iload (pc := 86) hx hb dX8_isSo_86 (lv_at hl 4 rfl) ?_
          exact g_zret (pc := 88) E Y hr hk dX8_isSo_88 hf
        · refine lv_aload_n (pc := 42) hx hb dX8_isSo_42 rfl (lv_at hl 0 rfl) ?_
          refine g_getr (pc := 43) E Y 53 6 59 S_53 rfl V_8 (by decide) AL_X8 q_351 dX8_isSo_43 ?_
          refine lv_bipush (pc := 46) (v := 24) hx hb dX8_isSo_46 (by decide) ?_
          refine lv_iload_n (pc := 48) hx hb dX8_isSo_48 rfl (lv_at hl 1 rfl) ?_
          refine g_imul (pc := 49) E dX8_isSo_49 hf (fun v4 hf => ?_)
          refine lv_iload (pc := 50) hx hb dX8_isSo_50 (lv_at hl 5 rfl) ?_
          refine g_iadd (pc := 52) E dX8_isSo_52 hf (fun v5 hf => ?_)
          refine g_iald (pc := 53) E Y 59 S_59 dX8_isSo_53 hf (fun v6 hf => ?_)
          refine lv_aload_n (pc := 54) hx hb dX8_isSo_54 rfl (lv_at hl 0 rfl) ?_
          refine lv_iload_n (pc := 55) hx hb dX8_isSo_55 rfl (lv_at hl 2 rfl) ?_
          refine lv_iload (pc := 56) hx hb dX8_isSo_56 (lv_at hl 5 rfl) ?_
          refine lv_iload_n (pc := 58) hx hb dX8_isSo_58 rfl (lv_at hl 3 rfl) ?_
          refine g_callVi (pc := 59) E Y 53 S_53 V_8 o_X8_isSafe q_666 [.int x2, .int x5, .int x3] rfl rfl (hR_of (by omega) (by decide)) hl.1 (rest := [.int v6]) rfl (Nat.le_of_ble_eq_true rfl) dX8_isSo_59 (fun z hz => m_X8_isSafe_53 hz) hf (fun v7 μ8 H locs hf Y => ?_)
          refine g_if_eq (pc := 62) (tgt := 69) E dX8_isSo_62 (by decide) hf (fun hf => ?_) (fun hf => ?_)
          · refine lv_iconst (pc := 69) (v := 0) hx hb dX8_isSo_69 (by decide) ?_
            refine g_icmp_ne (pc := 70) (tgt := 77) E dX8_isSo_70 (by decide) hf (fun hf => ?_) (fun hf => ?_)
            · refine lv_iconst (pc := 77) (v := 0) hx hb dX8_isSo_77 (by decide) ?_
              refine lv_istore (pc := 78) (lv' := [(4, .int 0), (0, .ref (ad 53)), (1, .int x1), (2, .int x2), (3, .int x3), (5, .int x5)]) hx hb dX8_isSo_78 hl (by decide) rfl (fun ls hl => ?_)
              refine g_iinc (pc := 80) E (fun v9 => [(5, .int v9), (4, .int 0), (0, .ref (ad 53)), (1, .int x1), (2, .int x2), (3, .int x3)]) dX8_isSo_80 hl (k := 5) rfl (t := 1) (by decide) (by decide) (fun _ => rfl) hf (fun v9 hf ls hl => ?_)
              refine lv_goto (pc := 83) (tgt := 26) hx hb dX8_isSo_83 (by decide) ?_
              exact ih _ _ _ _ _ _ _ _ _ hf Y (lv_sub hl [2, 3, 4, 5, 1, 0] rfl)
            · refine lv_iconst (pc := 73) (v := 1) hx hb dX8_isSo_73 (by decide) ?_
              refine lv_goto (pc := 74) (tgt := 78) hx hb dX8_isSo_74 (by decide) ?_
              refine lv_istore (pc := 78) (lv' := [(4, .int 1), (0, .ref (ad 53)), (1, .int x1), (2, .int x2), (3, .int x3), (5, .int x5)]) hx hb dX8_isSo_78 hl (by decide) rfl (fun ls hl => ?_)
              refine g_iinc (pc := 80) E (fun v10 => [(5, .int v10), (4, .int 1), (0, .ref (ad 53)), (1, .int x1), (2, .int x2), (3, .int x3)]) dX8_isSo_80 hl (k := 5) rfl (t := 1) (by decide) (by decide) (fun _ => rfl) hf (fun v10 hf ls hl => ?_)
              refine lv_goto (pc := 83) (tgt := 26) hx hb dX8_isSo_83 (by decide) ?_
              exact ih _ _ _ _ _ _ _ _ _ hf Y (lv_sub hl [2, 3, 4, 5, 1, 0] rfl)
          · refine lv_iconst (pc := 65) (v := 1) hx hb dX8_isSo_65 (by decide) ?_
            refine lv_goto (pc := 66) (tgt := 70) hx hb dX8_isSo_66 (by decide) ?_
            refine g_icmp_ne (pc := 70) (tgt := 77) E dX8_isSo_70 (by decide) hf (fun hf => ?_) (fun hf => ?_)
            · refine lv_iconst (pc := 77) (v := 0) hx hb dX8_isSo_77 (by decide) ?_
              refine lv_istore (pc := 78) (lv' := [(4, .int 0), (0, .ref (ad 53)), (1, .int x1), (2, .int x2), (3, .int x3), (5, .int x5)]) hx hb dX8_isSo_78 hl (by decide) rfl (fun ls hl => ?_)
              refine g_iinc (pc := 80) E (fun v11 => [(5, .int v11), (4, .int 0), (0, .ref (ad 53)), (1, .int x1), (2, .int x2), (3, .int x3)]) dX8_isSo_80 hl (k := 5) rfl (t := 1) (by decide) (by decide) (fun _ => rfl) hf (fun v11 hf ls hl => ?_)
              refine lv_goto (pc := 83) (tgt := 26) hx hb dX8_isSo_83 (by decide) ?_
              exact ih _ _ _ _ _ _ _ _ _ hf Y (lv_sub hl [2, 3, 4, 5, 1, 0] rfl)
            · refine lv_iconst (pc := 73) (v := 1) hx hb dX8_isSo_73 (by decide) ?_
              refine lv_goto (pc := 74) (tgt := 78) hx hb dX8_isSo_74 (by decide) ?_
              refine lv_istore (pc := 78) (lv' := [(4, .int 1), (0, .ref (ad 53)), (1, .int x1), (2, .int x2), (3, .int x3), (5, .int x5)]) hx hb dX8_isSo_78 hl (by decide) rfl (fun ls hl => ?_)
              refine g_iinc (pc := 80) E (fun v12 => [(5, .int v12), (4, .int 1), (0, .ref (ad 53)), (1, .int x1), (2, .int x2), (3, .int x3)]) dX8_isSo_80 hl (k := 5) rfl (t := 1) (by decide) (by decide) (fun _ => rfl) hf (fun v12 hf ls hl => ?_)
              refine lv_goto (pc := 83) (tgt := 26) hx hb dX8_isSo_83 (by decide) ?_
              exact ih _ _ _ _ _ _ _ _ _ hf Y (lv_sub hl [2, 3, 4, 5, 1, 0] rfl)
  unfold f_X8_isSo_53 at hf
  refine lv_aload_n (pc := 0) hx hb dX8_isSo_0 rfl (lv_at hl 0 rfl) ?_
  refine g_getr (pc := 1) E Y 53 5 58 S_53 rfl V_8 (by decide) AL_X8 q_349 dX8_isSo_1 ?_
  refine lv_iload_n (pc := 4) hx hb dX8_isSo_4 rfl (lv_at hl 1 rfl) ?_
  refine g_iald (pc := 5) E Y 58 S_58 dX8_isSo_5 hf (fun v1 hf => ?_)
  refine lv_aload_n (pc := 6) hx hb dX8_isSo_6 rfl (lv_at hl 0 rfl) ?_
  refine g_getr (pc := 7) E Y 53 0 54 S_53 rfl V_8 (by decide) AL_X8 q_358 dX8_isSo_7 ?_
  refine lv_bipush (pc := 10) (v := 7) hx hb dX8_isSo_10 (by decide) ?_
  refine g_iald (pc := 12) E Y 54 S_54 dX8_isSo_12 hf (fun v2 hf => ?_)
  refine g_icmp_gt (pc := 13) (tgt := 20) E dX8_isSo_13 (by decide) hf (fun hf => ?_) (fun hf => ?_)
  · refine lv_iconst (pc := 20) (v := 0) hx hb dX8_isSo_20 (by decide) ?_
    refine lv_istore (pc := 21) (lv' := [(4, .int 0), (0, .ref (ad 53)), (1, .int a0), (2, .int a1), (3, .int a2)]) hx hb dX8_isSo_21 hl (by decide) rfl (fun ls hl => ?_)
    refine lv_iconst (pc := 23) (v := 0) hx hb dX8_isSo_23 (by decide) ?_
    refine lv_istore (pc := 24) (lv' := [(5, .int 0), (4, .int 0), (0, .ref (ad 53)), (1, .int a0), (2, .int a1), (3, .int a2)]) hx hb dX8_isSo_24 hl (by decide) rfl (fun ls hl => ?_)
    exact hL_26 1000 _ _ _ _ _ _ _ _ _ hf Y (lv_sub hl [2, 3, 4, 5, 1, 0] rfl)
  · refine lv_iconst (pc := 16) (v := 1) hx hb dX8_isSo_16 (by decide) ?_
    refine lv_goto (pc := 17) (tgt := 21) hx hb dX8_isSo_17 (by decide) ?_
    refine lv_istore (pc := 21) (lv' := [(4, .int 1), (0, .ref (ad 53)), (1, .int a0), (2, .int a1), (3, .int a2)]) hx hb dX8_isSo_21 hl (by decide) rfl (fun ls hl => ?_)
    refine lv_iconst (pc := 23) (v := 0) hx hb dX8_isSo_23 (by decide) ?_
    refine lv_istore (pc := 24) (lv' := [(5, .int 0), (4, .int 1), (0, .ref (ad 53)), (1, .int a0), (2, .int a1), (3, .int a2)]) hx hb dX8_isSo_24 hl (by decide) rfl (fun ls hl => ?_)
    exact hL_26 1000 _ _ _ _ _ _ _ _ _ hf Y (lv_sub hl [2, 3, 4, 5, 1, 0] rfl)
def f_X8_isSheet (a0 : Int32) (σ : Mem) : Res := bd (f_X8_in a0 0 3 σ) fun v1 μ2 => gb v1 (some (v1, μ2))
set_option maxHeartbeats 4000000 in
set_option maxRecDepth 100000 in
theorem m_X8_isSheet {l : Launch} {σ : Mem} {Z : Int32 × Mem} {a0 : Int32} (hf : f_X8_isSheet a0 σ = some Z) : CT l yX8_isSheet cX8_isSheet 1 (some .boolean) 1 (fun _ => [.int a0]) σ Z := by
  refine g_openT RX8 (by decide) rfl (fun _ => Nat.le_of_ble_eq_true rfl) (fun p e s m below meth c D cI cB ad st ls E Y hr hk hl => ?_)
  have hx := E.1.1
  have hb := E.1.2.1
  have hl : lv_has ls 1 [(0, .int a0)] := hl
  unfold f_X8_isSheet at hf
  refine lv_iload_n (pc := 0) hx hb dX8_isSheet_0 rfl (lv_at hl 0 rfl) ?_
  refine lv_iconst (pc := 1) (v := 0) hx hb dX8_isSheet_1 (by decide) ?_
  refine lv_iconst (pc := 2) (v := 3) hx hb dX8_isSheet_2 (by decide) ?_
  refine g_callSi (pc := 3) E Y o_X8_in q_707 [.int a0, .int 0, .int 3] rfl rfl (hR_of (by omega) (by decide)) hl.1 (rest := []) rfl (Nat.le_of_ble_eq_true rfl) dX8_isSheet_3 (fun z hz => m_X8_in hz) hf (fun v1 μ2 H locs hf Y => ?_)
  exact g_zret (pc := 6) E Y hr hk dX8_isSheet_6 hf
def fb_X8_fits_53_L57 (bk : Int32 → Int32 → Int32 → Int32 → Int32 → Int32 → Mem → Res) (x1 : Int32) (x2 : Int32) (x3 : Int32) (x4 : Int32) (x5 : Int32) (x6 : Int32) (σ : Mem) : Res := if x6 < 0 then (if x3 = 0 then (some (x4, σ)) else (if 0 ≤ x5 then (some (x5, σ)) else (bd (f_X8_error_53 (-1000000002) σ) fun v12 μ13 => some (v12, μ13)))) else (bd (f_X8_isSo_53 x1 x2 x6 σ) fun v14 μ15 => if v14 = 0 then (nm (x4 + 0) fun (v16 : Int32) => if v14 = 0 then (nm (x6 + (-1)) fun (v17 : Int32) => bk x1 x2 x3 v16 x5 v17 μ15) else (nm (x6 + (-1)) fun (v18 : Int32) => bk x1 x2 x3 v16 x6 v18 μ15)) else (nm (x4 + 1) fun (v19 : Int32) => if v14 = 0 then (nm (x6 + (-1)) fun (v20 : Int32) => bk x1 x2 x3 v19 x5 v20 μ15) else (nm (x6 + (-1)) fun (v21 : Int32) => bk x1 x2 x3 v19 x6 v21 μ15)))
def f_X8_fits_53_L57 : Nat → Int32 → Int32 → Int32 → Int32 → Int32 → Int32 → Mem → Res
  | 0, _, _, _, _, _, _, _ => none
  | n + 1, x1, x2, x3, x4, x5, x6, σ => fb_X8_fits_53_L57 (f_X8_fits_53_L57 n) x1 x2 x3 x4 x5 x6 σ
def f_X8_fits_53 (a0 : Int32) (a1 : Int32) (a2 : Int32) (σ : Mem) : Res := bd (f_X8_isSheet a0 σ) fun v1 μ2 => if v1 = 0 then (bd (f_X8_error_53 (-1000000001) μ2) fun v3 μ4 => some (v3, μ4)) else (bd (f_X8_isRunner_53 a1 μ2) fun v5 μ6 => if v5 = 0 then (bd (f_X8_error_53 (-1000000001) μ6) fun v7 μ8 => some (v7, μ8)) else (bd (f_X8_in a2 0 1 μ6) fun v9 μ10 => if v9 = 0 then (bd (f_X8_error_53 (-1000000001) μ10) fun v24 μ25 => some (v24, μ25)) else (gi a0 4 <| nm (μ10 57 a0.toNatClampNeg) fun (v11 : Int32) => if v11 = 0 then (bd (f_X8_error_53 (-1000000002) μ10) fun v22 μ23 => some (v22, μ23)) else (f_X8_fits_53_L57 1000 a0 a1 a2 0 (-1) 20 μ10))))
set_option maxHeartbeats 4000000 in
set_option maxRecDepth 100000 in
theorem m_X8_fits_53 {l : Launch} {σ : Mem} {Z : Int32 × Mem} {a0 : Int32} {a1 : Int32} {a2 : Int32} (hf : f_X8_fits_53 a0 a1 a2 σ = some Z) : CT l yX8_fits cX8_fits 8 (some .int) 7 (fun ad => [.ref (ad 53), .int a0, .int a1, .int a2]) σ Z := by
  refine g_openT RX8 (by decide) rfl (fun _ => Nat.le_of_ble_eq_true rfl) (fun p e s m below meth c D cI cB ad st ls E Y hr hk hl => ?_)
  have hx := E.1.1
  have hb := E.1.2.1
  have hl : lv_has ls 8 [(0, .ref (ad 53)), (1, .int a0), (2, .int a1), (3, .int a2)] := hl
  have hL_57 : ∀ (n : Nat) (x1 : Int32) (x2 : Int32) (x3 : Int32) (x4 : Int32) (x5 : Int32) (x6 : Int32) (σ : Mem) (H : Heap) (locs : List Loc) (ls : Array Slot), f_X8_fits_53_L57 n x1 x2 x3 x4 x5 x6 σ = some Z → Wo D cI cB ad (AA ad) σ s H locs → lv_has ls 8 [(0, .ref (ad 53)), (1, .int x1), (2, .int x2), (3, .int x3), (4, .int x4), (5, .int x5), (6, .int x6)] → W p l e (rmd 7) s m ([.ref (ad 53), .int a0, .int a1, .int a2] : List Value).toArray below meth c H locs 0 0 (QT_ below D cI cB ad st Z ([.ref (ad 53), .int a0, .int a1, .int a2] : List Value).toArray s) (F0 m 57 ls []) := by
    intro n
    induction n with
    | zero =>
      intro x1 x2 x3 x4 x5 x6 σ H locs ls hf
      cases (show (none : Res) = some Z from hf)
    | succ n ih =>
      intro x1 x2 x3 x4 x5 x6 σ H locs ls hf Y hl
      have hf : fb_X8_fits_53_L57 (f_X8_fits_53_L57 n) x1 x2 x3 x4 x5 x6 σ = some Z := hf
      unfold fb_X8_fits_53_L57 at hf
      refine lv_iload (pc := 57) hx hb dX8_fits_57 (lv_at hl 6 rfl) ?_
      refine g_if_lt (pc := 59) (tgt := 107) E dX8_fits_59 (by decide) hf (fun hf => ?_) (fun hf => ?_)
      · refine lv_iload_n (pc := 107) hx hb dX8_fits_107 rfl (lv_at hl 3 rfl) ?_
        refine g_if_ne (pc := 108) (tgt := 116) E dX8_fits_108 (by decide) hf (fun hf => ?_) (fun hf => ?_)
        · refine lv_iload (pc := 116) hx hb dX8_fits_116 (lv_at hl 5 rfl) ?_
          refine g_if_ge (pc := 118) (tgt := 130) E dX8_fits_118 (by decide) hf (fun hf => ?_) (fun hf => ?_)
          · refine lv_iload (pc := 130) hx hb dX8_fits_130 (lv_at hl 5 rfl) ?_
            exact g_iret (pc := 132) E Y hr hk dX8_fits_132 hf
          · refine lv_aload_n (pc := 121) hx hb dX8_fits_121 rfl (lv_at hl 0 rfl) ?_
            refine lv_ldc (pc := 122) (v := (-1000000002)) hx hb E.1.2.2.2.1 (E.1.2.2.2.2 _ q_233) dX8_fits_122 ?_
            refine g_callVi (pc := 124) E Y 53 S_53 V_8 o_X8_error q_716 [.int (-1000000002)] rfl rfl (hR_of (by omega) (by decide)) hl.1 (rest := []) rfl (Nat.le_of_ble_eq_true rfl) dX8_fits_124 (fun z hz => m_X8_error_53 hz) hf (fun v12 μ13 H locs hf Y => ?_)
            refine lv_goto (pc := 127) (tgt := 132) hx hb dX8_fits_127 (by decide) ?_
            exact g_iret (pc := 132) E Y hr hk dX8_fits_132 hf
        · refine lv_iload (pc := 111) hx hb dX8_fits_111 (lv_at hl 4 rfl) ?_
          refine lv_goto (pc := 113) (tgt := 132) hx hb dX8_fits_113 (by decide) ?_
          exact g_iret (pc := 132) E Y hr hk dX8_fits_132 hf
      · refine lv_aload_n (pc := 62) hx hb dX8_fits_62 rfl (lv_at hl 0 rfl) ?_
        refine lv_iload_n (pc := 63) hx hb dX8_fits_63 rfl (lv_at hl 1 rfl) ?_
        refine lv_iload_n (pc := 64) hx hb dX8_fits_64 rfl (lv_at hl 2 rfl) ?_
        refine lv_iload (pc := 65) hx hb dX8_fits_65 (lv_at hl 6 rfl) ?_
        refine g_callVi (pc := 67) E Y 53 S_53 V_8 o_X8_isSo q_689 [.int x1, .int x2, .int x6] rfl rfl (hR_of (by omega) (by decide)) hl.1 (rest := []) rfl (Nat.le_of_ble_eq_true rfl) dX8_fits_67 (fun z hz => m_X8_isSo_53 hz) hf (fun v14 μ15 H locs hf Y => ?_)
        refine lv_istore (pc := 70) (lv' := [(7, .int v14), (0, .ref (ad 53)), (1, .int x1), (2, .int x2), (3, .int x3), (4, .int x4), (5, .int x5), (6, .int x6)]) hx hb dX8_fits_70 hl (by decide) rfl (fun ls hl => ?_)
        refine lv_iload (pc := 72) hx hb dX8_fits_72 (lv_at hl 5 rfl) ?_
        refine lv_iload (pc := 74) hx hb dX8_fits_74 (lv_at hl 0 rfl) ?_
        refine g_if_eq (pc := 76) (tgt := 83) E dX8_fits_76 (by decide) hf (fun hf => ?_) (fun hf => ?_)
        · refine lv_iconst (pc := 83) (v := 0) hx hb dX8_fits_83 (by decide) ?_
          refine g_iadd (pc := 84) E dX8_fits_84 hf (fun v16 hf => ?_)
          refine lv_istore (pc := 85) (lv' := [(4, .int v16), (7, .int v14), (0, .ref (ad 53)), (1, .int x1), (2, .int x2), (3, .int x3), (5, .int x5), (6, .int x6)]) hx hb dX8_fits_85 hl (by decide) rfl (fun ls hl => ?_)
          refine lv_iload (pc := 87) hx hb dX8_fits_87 (lv_at hl 1 rfl) ?_
          refine g_if_eq (pc := 89) (tgt := 97) E dX8_fits_89 (by decide) hf (fun hf => ?_) (fun hf => ?_)
          · refine lv_iload (pc := 97) hx hb dX8_fits_97 (lv_at hl 6 rfl) ?_
            refine lv_istore (pc := 99) (lv' := [(5, .int x5), (4, .int v16), (7, .int v14), (0, .ref (ad 53)), (1, .int x1), (2, .int x2), (3, .int x3), (6, .int x6)]) hx hb dX8_fits_99 hl (by decide) rfl (fun ls hl => ?_)
            refine g_iinc (pc := 101) E (fun v17 => [(6, .int v17), (5, .int x5), (4, .int v16), (7, .int v14), (0, .ref (ad 53)), (1, .int x1), (2, .int x2), (3, .int x3)]) dX8_fits_101 hl (k := 7) rfl (t := (-1)) (by decide) (by decide) (fun _ => rfl) hf (fun v17 hf ls hl => ?_)
            refine lv_goto (pc := 104) (tgt := 57) hx hb dX8_fits_104 (by decide) ?_
            exact ih _ _ _ _ _ _ _ _ _ _ hf Y (lv_sub hl [4, 5, 6, 7, 2, 1, 0] rfl)
          · refine lv_iload (pc := 92) hx hb dX8_fits_92 (lv_at hl 7 rfl) ?_
            refine lv_goto (pc := 94) (tgt := 99) hx hb dX8_fits_94 (by decide) ?_
            refine lv_istore (pc := 99) (lv' := [(5, .int x6), (4, .int v16), (7, .int v14), (0, .ref (ad 53)), (1, .int x1), (2, .int x2), (3, .int x3), (6, .int x6)]) hx hb dX8_fits_99 hl (by decide) rfl (fun ls hl => ?_)
            refine g_iinc (pc := 101) E (fun v18 => [(6, .int v18), (5, .int x6), (4, .int v16), (7, .int v14), (0, .ref (ad 53)), (1, .int x1), (2, .int x2), (3, .int x3)]) dX8_fits_101 hl (k := 7) rfl (t := (-1)) (by decide) (by decide) (fun _ => rfl) hf (fun v18 hf ls hl => ?_)
            refine lv_goto (pc := 104) (tgt := 57) hx hb dX8_fits_104 (by decide) ?_
            exact ih _ _ _ _ _ _ _ _ _ _ hf Y (lv_sub hl [4, 5, 6, 7, 2, 1, 0] rfl)
        · refine lv_iconst (pc := 79) (v := 1) hx hb dX8_fits_79 (by decide) ?_
          refine lv_goto (pc := 80) (tgt := 84) hx hb dX8_fits_80 (by decide) ?_
          refine g_iadd (pc := 84) E dX8_fits_84 hf (fun v19 hf => ?_)
          refine lv_istore (pc := 85) (lv' := [(4, .int v19), (7, .int v14), (0, .ref (ad 53)), (1, .int x1), (2, .int x2), (3, .int x3), (5, .int x5), (6, .int x6)]) hx hb dX8_fits_85 hl (by decide) rfl (fun ls hl => ?_)
          refine lv_iload (pc := 87) hx hb dX8_fits_87 (lv_at hl 1 rfl) ?_
          refine g_if_eq (pc := 89) (tgt := 97) E dX8_fits_89 (by decide) hf (fun hf => ?_) (fun hf => ?_)
          · refine lv_iload (pc := 97) hx hb dX8_fits_97 (lv_at hl 6 rfl) ?_
            refine lv_istore (pc := 99) (lv' := [(5, .int x5), (4, .int v19), (7, .int v14), (0, .ref (ad 53)), (1, .int x1), (2, .int x2), (3, .int x3), (6, .int x6)]) hx hb dX8_fits_99 hl (by decide) rfl (fun ls hl => ?_)
            refine g_iinc (pc := 101) E (fun v20 => [(6, .int v20), (5, .int x5), (4, .int v19), (7, .int v14), (0, .ref (ad 53)), (1, .int x1), (2, .int x2), (3, .int x3)]) dX8_fits_101 hl (k := 7) rfl (t := (-1)) (by decide) (by decide) (fun _ => rfl) hf (fun v20 hf ls hl => ?_)
            refine lv_goto (pc := 104) (tgt := 57) hx hb dX8_fits_104 (by decide) ?_
            exact ih _ _ _ _ _ _ _ _ _ _ hf Y (lv_sub hl [4, 5, 6, 7, 2, 1, 0] rfl)
          · refine lv_iload (pc := 92) hx hb dX8_fits_92 (lv_at hl 7 rfl) ?_
            refine lv_goto (pc := 94) (tgt := 99) hx hb dX8_fits_94 (by decide) ?_
            refine lv_istore (pc := 99) (lv' := [(5, .int x6), (4, .int v19), (7, .int v14), (0, .ref (ad 53)), (1, .int x1), (2, .int x2), (3, .int x3), (6, .int x6)]) hx hb dX8_fits_99 hl (by decide) rfl (fun ls hl => ?_)
            refine g_iinc (pc := 101) E (fun v21 => [(6, .int v21), (5, .int x6), (4, .int v19), (7, .int v14), (0, .ref (ad 53)), (1, .int x1), (2, .int x2), (3, .int x3)]) dX8_fits_101 hl (k := 7) rfl (t := (-1)) (by decide) (by decide) (fun _ => rfl) hf (fun v21 hf ls hl => ?_)
            refine lv_goto (pc := 104) (tgt := 57) hx hb dX8_fits_104 (by decide) ?_
            exact ih _ _ _ _ _ _ _ _ _ _ hf Y (lv_sub hl [4, 5, 6, 7, 2, 1, 0] rfl)
  unfold f_X8_fits_53 at hf
  refine lv_iload_n (pc := 0) hx hb dX8_fits_0 rfl (lv_at hl 1 rfl) ?_
  refine g_callSi (pc := 1) E Y o_X8_isSheet q_688 [.int a0] rfl rfl (hR_of (by omega) (by decide)) hl.1 (rest := []) rfl (Nat.le_of_ble_eq_true rfl) dX8_fits_1 (fun z hz => m_X8_isSheet hz) hf (fun v1 μ2 H locs hf Y => ?_)
  refine g_if_eq (pc := 4) (tgt := 24) E dX8_fits_4 (by decide) hf (fun hf => ?_) (fun hf => ?_)
  · refine lv_aload_n (pc := 24) hx hb dX8_fits_24 rfl (lv_at hl 0 rfl) ?_
    refine lv_ldc (pc := 25) (v := (-1000000001)) hx hb E.1.2.2.2.1 (E.1.2.2.2.2 _ q_238) dX8_fits_25 ?_
    refine g_callVi (pc := 27) E Y 53 S_53 V_8 o_X8_error q_716 [.int (-1000000001)] rfl rfl (hR_of (by omega) (by decide)) hl.1 (rest := []) rfl (Nat.le_of_ble_eq_true rfl) dX8_fits_27 (fun z hz => m_X8_error_53 hz) hf (fun v3 μ4 H locs hf Y => ?_)
    exact g_iret (pc := 30) E Y hr hk dX8_fits_30 hf
  · refine lv_aload_n (pc := 7) hx hb dX8_fits_7 rfl (lv_at hl 0 rfl) ?_
    refine lv_iload_n (pc := 8) hx hb dX8_fits_8 rfl (lv_at hl 2 rfl) ?_
    refine g_callVi (pc := 9) E Y 53 S_53 V_8 o_X8_isRunner q_721 [.int a1] rfl rfl (hR_of (by omega) (by decide)) hl.1 (rest := []) rfl (Nat.le_of_ble_eq_true rfl) dX8_fits_9 (fun z hz => m_X8_isRunner_53 hz) hf (fun v5 μ6 H locs hf Y => ?_)
    refine g_if_eq (pc := 12) (tgt := 24) E dX8_fits_12 (by decide) hf (fun hf => ?_) (fun hf => ?_)
    · refine lv_aload_n (pc := 24) hx hb dX8_fits_24 rfl (lv_at hl 0 rfl) ?_
      refine lv_ldc (pc := 25) (v := (-1000000001)) hx hb E.1.2.2.2.1 (E.1.2.2.2.2 _ q_238) dX8_fits_25 ?_
      refine g_callVi (pc := 27) E Y 53 S_53 V_8 o_X8_error q_716 [.int (-1000000001)] rfl rfl (hR_of (by omega) (by decide)) hl.1 (rest := []) rfl (Nat.le_of_ble_eq_true rfl) dX8_fits_27 (fun z hz => m_X8_error_53 hz) hf (fun v7 μ8 H locs hf Y => ?_)
      exact g_iret (pc := 30) E Y hr hk dX8_fits_30 hf
    · refine lv_iload_n (pc := 15) hx hb dX8_fits_15 rfl (lv_at hl 3 rfl) ?_
      refine lv_iconst (pc := 16) (v := 0) hx hb dX8_fits_16 (by decide) ?_
      refine lv_iconst (pc := 17) (v := 1) hx hb dX8_fits_17 (by decide) ?_
      refine g_callSi (pc := 18) E Y o_X8_in q_707 [.int a2, .int 0, .int 1] rfl rfl (hR_of (by omega) (by decide)) hl.1 (rest := []) rfl (Nat.le_of_ble_eq_true rfl) dX8_fits_18 (fun z hz => m_X8_in hz) hf (fun v9 μ10 H locs hf Y => ?_)
      refine g_if_ne (pc := 21) (tgt := 31) E dX8_fits_21 (by decide) hf (fun hf => ?_) (fun hf => ?_)
      · refine lv_aload_n (pc := 31) hx hb dX8_fits_31 rfl (lv_at hl 0 rfl) ?_
        refine g_getr (pc := 32) E Y 53 4 57 S_53 rfl V_8 (by decide) AL_X8 q_347 dX8_fits_32 ?_
        refine lv_iload_n (pc := 35) hx hb dX8_fits_35 rfl (lv_at hl 1 rfl) ?_
        refine g_iald (pc := 36) E Y 57 S_57 dX8_fits_36 hf (fun v11 hf => ?_)
        refine g_if_ne (pc := 37) (tgt := 47) E dX8_fits_37 (by decide) hf (fun hf => ?_) (fun hf => ?_)
        · refine lv_iconst (pc := 47) (v := 0) hx hb dX8_fits_47 (by decide) ?_
          refine lv_istore (pc := 48) (lv' := [(4, .int 0), (0, .ref (ad 53)), (1, .int a0), (2, .int a1), (3, .int a2)]) hx hb dX8_fits_48 hl (by decide) rfl (fun ls hl => ?_)
          refine lv_iconst (pc := 50) (v := (-1)) hx hb dX8_fits_50 (by decide) ?_
          refine lv_istore (pc := 51) (lv' := [(5, .int (-1)), (4, .int 0), (0, .ref (ad 53)), (1, .int a0), (2, .int a1), (3, .int a2)]) hx hb dX8_fits_51 hl (by decide) rfl (fun ls hl => ?_)
          refine lv_bipush (pc := 53) (v := 20) hx hb dX8_fits_53 (by decide) ?_
          refine lv_istore (pc := 55) (lv' := [(6, .int 20), (5, .int (-1)), (4, .int 0), (0, .ref (ad 53)), (1, .int a0), (2, .int a1), (3, .int a2)]) hx hb dX8_fits_55 hl (by decide) rfl (fun ls hl => ?_)
          exact hL_57 1000 _ _ _ _ _ _ _ _ _ _ hf Y (lv_sub hl [3, 4, 5, 6, 2, 1, 0] rfl)
        · refine lv_aload_n (pc := 40) hx hb dX8_fits_40 rfl (lv_at hl 0 rfl) ?_
          refine lv_ldc (pc := 41) (v := (-1000000002)) hx hb E.1.2.2.2.1 (E.1.2.2.2.2 _ q_233) dX8_fits_41 ?_
          refine g_callVi (pc := 43) E Y 53 S_53 V_8 o_X8_error q_716 [.int (-1000000002)] rfl rfl (hR_of (by omega) (by decide)) hl.1 (rest := []) rfl (Nat.le_of_ble_eq_true rfl) dX8_fits_43 (fun z hz => m_X8_error_53 hz) hf (fun v22 μ23 H locs hf Y => ?_)
          exact g_iret (pc := 46) E Y hr hk dX8_fits_46 hf
      · refine lv_aload_n (pc := 24) hx hb dX8_fits_24 rfl (lv_at hl 0 rfl) ?_
        refine lv_ldc (pc := 25) (v := (-1000000001)) hx hb E.1.2.2.2.1 (E.1.2.2.2.2 _ q_238) dX8_fits_25 ?_
        refine g_callVi (pc := 27) E Y 53 S_53 V_8 o_X8_error q_716 [.int (-1000000001)] rfl rfl (hR_of (by omega) (by decide)) hl.1 (rest := []) rfl (Nat.le_of_ble_eq_true rfl) dX8_fits_27 (fun z hz => m_X8_error_53 hz) hf (fun v24 μ25 H locs hf Y => ?_)
        exact g_iret (pc := 30) E Y hr hk dX8_fits_30 hf
