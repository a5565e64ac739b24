/-- a call out of the law: its link stands in a list of the law's own -/
theorem g_callL {p : Program} {l : Launch} {e : Env} {R : Room} {s : State} {m : MethodId} {args : Array Value} {below : List Frame} {meth : Method} {c : Code} {H : Heap} {locs : List Loc} {cells slots : Nat} {Q : State → Prop} {cc : ByteArray} {pc nL : Nat} {own : String} {ls : Array Slot} {rest : List Value} {D : va_G} {cI cB : ClassId} {ad st : Nat → Nat} {A : Nat → Prop} {σ : Mem} {Z : Int32 × Mem} (E : En p R s m args c cc nL own D cI cB ad st A cells slots) (Y : Wo D cI cB ad A σ s H locs)
    {LK : List Cond} (hLK : ∀ w ∈ LK, w.before args s = true) (hgd : LK.all goodWord = true) {y : MethodName} {b : ByteArray} {mL n d idx : Nat} {rt : FieldType} (k : Nat) {ci N : Nat} {C : String} {T : u_T} {fl : List (Option Nat)} (h1 : shp[k]? = some (.inl (ci, fl))) (h3 : vwCl[ci]? = some (C, T, N)) (o : OV y b mL (some rt) C n) (hl : Cond.methodLink own idx y ∈ LK) (As : List Value) {av : (Nat → Nat) → List Value} (hav : av ad = .ref (ad k) :: As) (hn : As.length = n) (hR : (rmd d).frames + 1 ≤ R.frames ∧ 8 + (mL + 11) + (rmd d).locals ≤ R.locals) (hz : ls.size = nL) {stk : List Value} (hst : stk = As.reverse ++ .ref (ad k) :: rest) (hW : (rest.map fun v => v.category).sum ≤ 8) (dc : decode cc pc = .ok (.invokevirtual idx, 3)) {F : Res} {K : Int32 → Mem → Res} (hC : ∀ z : Int32 × Mem, F = some z → CT l y b mL (some rt) d av σ z) (hf : bd F K = some Z) (kk : ∀ (r : Int32) (σ1 : Mem) (H1 : Heap) (locs1 : List Loc), K r σ1 = some Z → Wo D cI cB ad A σ1 s H1 locs1 → W p l e R s m args below meth c H1 locs1 cells slots Q (F0 m (pc + 3) ls (.int r :: rest))) : W p l e R s m args below meth c H locs cells slots Q (F0 m pc ls stk) := by
  obtain ⟨z, hz1, hK⟩ := bd_some hf
  have hM := hC z hz1 D cI cB ad st E.2.2.2.1
  have hbl : FrameBlind (va_Pc (av ad) (fun U => WP D cI cB ad st σ U)) := fun a U g mk q => ⟨q.1, WP.blind q.2⟩
  have hAA : ∀ q, AA ad q → A q := fun q h => by
    obtain ⟨k', h1', h2'⟩ := h
    rw [h2']
    exact E.2.2.2.2.1 k' h1'
  have hts : ∀ w ∈ LK ++ ALL, w.before args s = true := fun w hw => (List.mem_append.mp hw).elim (hLK w) (E.1.2.2.2.2 w)
  have hG : GoodIn (LK ++ ALL) (wsV own idx C y (.code y b mL (some rt) :: ALL)) := by
    intro w hw
    rcases List.mem_append.mp hw with h | h
    · simp only [List.mem_cons, List.not_mem_nil, or_false] at h
      rcases h with h | h | h | h <;> rw [h]
      · exact ⟨List.mem_append_left _ hl, good_of_word (List.all_eq_true.mp hgd _ hl)⟩
      · exact ⟨List.mem_append_right _ o.1, good_of_word (List.all_eq_true.mp ALL_good _ o.1)⟩
      · exact ⟨List.mem_append_right _ o.2.1, good_of_word (List.all_eq_true.mp ALL_good _ o.2.1)⟩
      · exact ⟨List.mem_append_right _ o.2.2.1, good_of_word (List.all_eq_true.mp ALL_good _ o.2.2.1)⟩
    · have hm : w ∈ ALL := by
        rcases List.mem_cons.mp h with h | h
        · rw [h]; exact o.2.2.2.1
        · exact h
      exact ⟨List.mem_append_right _ hm, good_of_word (List.all_eq_true.mp ALL_good _ hm)⟩
  exact va_calli (A1 := AA ad) (free := AA ad) (a := (Value.ref (ad k) :: As).toArray) (va_runV (As := As) (rest := rest) ⟨E.1.1, E.1.2.1, E.1.2.2.1, E.1.2.2.2.1, hts⟩ hM (cwV n hts hG rfl rfl rfl o.2.2.2.2 hR) ⟨hbl, va_recv E.2.1 Y.1 h3 (Wd_obj h1), fun U hU hW => ⟨by rw [hav], WP_of E Y hU hW⟩⟩ rfl hn hz hst (lv_room hW) dc ⟨E.2.2.2.2.2.1, E.2.2.2.2.2.2⟩) Y.2 (fun q _ h => hAA q h) hAA (fun r u t H1 locs1 ht hvm hw hB hz1 hk1 hS => by rw [hw]; exact kk z.1 z.2 H1 locs1 hK ⟨by rw [← ht]; exact hB.1, hS⟩)
/-- the script's places and length -/
theorem g_sld {p : Program} {l : Launch} {e : Env} {R : Room} {s : State} {m : MethodId} {args : Array Value} {below : List Frame} {meth : Method} {c : Code} {H : Heap} {locs : List Loc} {cells slots : Nat} {Q : State → Prop} {cc : ByteArray} {pc nL : Nat} {own : String} {ls : Array Slot} {rest : List Value} {D : va_G} {cI cB : ClassId} {ad st : Nat → Nat} {A : Nat → Prop} {σ : Mem} {Z : Int32 × Mem} (E : En p R s m args c cc nL own D cI cB ad st A cells slots) (Y : Wo D cI cB ad A σ s H locs) {b L : Nat} {xs : Nat → Int32} (hX : va_X b L xs s s.heap) (hbl : b < s.heap.size) (hbA : ¬ A b) {i : Int32} (d : decode cc pc = .ok (.iaload, 1)) {K : Int32 → Res} (hf : gi i L (nm (xs i.toNatClampNeg) K) = some Z) (kk : ∀ z : Int32, K z = some Z → W p l e R s m args below meth c H locs cells slots Q (F0 m (pc + 1) ls (.int z :: rest))) : W p l e R s m args below meth c H locs cells slots Q (F0 m pc ls (.int i :: .ref b :: rest)) :=
  va_sld E.1.1 E.1.2.1 hX hbl hbA Y.2 (gi_some hf).1 d (kk _ (gi_some hf).2)
def fc_law_0 (bk : Int32 → Mem → Res) (L : Nat) (xs : Nat → Int32) (x3 : Int32) (σ : Mem) : Res := nm (x3 + 1) fun (v4 : Int32) => gi v4 L <| nm (xs v4.toNatClampNeg) fun (v5 : Int32) => nm (x3 + 2) fun (v6 : Int32) => gi v6 L <| nm (xs v6.toNatClampNeg) fun (v7 : Int32) => bd (f_X7_pitch_0 v5 v7 σ) fun v8 μ9 => nm (x3 + 1) fun (v10 : Int32) => gi v10 L <| nm (xs v10.toNatClampNeg) fun (v11 : Int32) => nm (x3 + 2) fun (v12 : Int32) => gi v12 L <| nm (xs v12.toNatClampNeg) fun (v13 : Int32) => bd (f_X8_pitch_53 v11 v13 μ9) fun v14 μ15 => nm (x3 + 6) fun (v16 : Int32) => bk v16 μ15
def fc_law_1 (bk : Int32 → Mem → Res) (L : Nat) (xs : Nat → Int32) (x3 : Int32) (σ : Mem) : Res := nm (x3 + 1) fun (v17 : Int32) => gi v17 L <| nm (xs v17.toNatClampNeg) fun (v18 : Int32) => nm (x3 + 2) fun (v19 : Int32) => gi v19 L <| nm (xs v19.toNatClampNeg) fun (v20 : Int32) => bd (f_X7_pitchIs_0 v18 v20 σ) fun v21 μ22 => nm (x3 + 1) fun (v23 : Int32) => gi v23 L <| nm (xs v23.toNatClampNeg) fun (v24 : Int32) => nm (x3 + 2) fun (v25 : Int32) => gi v25 L <| nm (xs v25.toNatClampNeg) fun (v26 : Int32) => bd (f_X8_pitchIs_53 v24 v26 μ22) fun v27 μ28 => nm (x3 + 6) fun (v29 : Int32) => bk v29 μ28
def fc_law_2 (bk : Int32 → Mem → Res) (L : Nat) (xs : Nat → Int32) (x3 : Int32) (σ : Mem) : Res := nm (x3 + 1) fun (v30 : Int32) => gi v30 L <| nm (xs v30.toNatClampNeg) fun (v31 : Int32) => nm (x3 + 2) fun (v32 : Int32) => gi v32 L <| nm (xs v32.toNatClampNeg) fun (v33 : Int32) => bd (f_X7_become_0 v31 v33 σ) fun v34 μ35 => nm (x3 + 1) fun (v36 : Int32) => gi v36 L <| nm (xs v36.toNatClampNeg) fun (v37 : Int32) => nm (x3 + 2) fun (v38 : Int32) => gi v38 L <| nm (xs v38.toNatClampNeg) fun (v39 : Int32) => bd (f_X8_become_53 v37 v39 μ35) fun v40 μ41 => nm (x3 + 6) fun (v42 : Int32) => bk v42 μ41
def fc_law_3 (bk : Int32 → Mem → Res) (L : Nat) (xs : Nat → Int32) (x3 : Int32) (σ : Mem) : Res := nm (x3 + 1) fun (v43 : Int32) => gi v43 L <| nm (xs v43.toNatClampNeg) fun (v44 : Int32) => nm (x3 + 2) fun (v45 : Int32) => gi v45 L <| nm (xs v45.toNatClampNeg) fun (v46 : Int32) => bd (f_X7_as_0 v44 v46 σ) fun v47 μ48 => nm (x3 + 1) fun (v49 : Int32) => gi v49 L <| nm (xs v49.toNatClampNeg) fun (v50 : Int32) => nm (x3 + 2) fun (v51 : Int32) => gi v51 L <| nm (xs v51.toNatClampNeg) fun (v52 : Int32) => bd (f_X8_as_53 v50 v52 μ48) fun v53 μ54 => nm (x3 + 6) fun (v55 : Int32) => bk v55 μ54
def fc_law_4 (bk : Int32 → Mem → Res) (L : Nat) (xs : Nat → Int32) (x3 : Int32) (σ : Mem) : Res := nm (x3 + 1) fun (v56 : Int32) => gi v56 L <| nm (xs v56.toNatClampNeg) fun (v57 : Int32) => nm (x3 + 2) fun (v58 : Int32) => gi v58 L <| nm (xs v58.toNatClampNeg) fun (v59 : Int32) => bd (f_X7_weighs_0 v57 v59 σ) fun v60 μ61 => nm (x3 + 1) fun (v62 : Int32) => gi v62 L <| nm (xs v62.toNatClampNeg) fun (v63 : Int32) => nm (x3 + 2) fun (v64 : Int32) => gi v64 L <| nm (xs v64.toNatClampNeg) fun (v65 : Int32) => bd (f_X8_weighs_53 v63 v65 μ61) fun v66 μ67 => nm (x3 + 6) fun (v68 : Int32) => bk v68 μ67
def fc_law_5 (bk : Int32 → Mem → Res) (L : Nat) (xs : Nat → Int32) (x3 : Int32) (σ : Mem) : Res := nm (x3 + 1) fun (v69 : Int32) => gi v69 L <| nm (xs v69.toNatClampNeg) fun (v70 : Int32) => nm (x3 + 2) fun (v71 : Int32) => gi v71 L <| nm (xs v71.toNatClampNeg) fun (v72 : Int32) => bd (f_X7_runner_0 v70 v72 σ) fun v73 μ74 => nm (x3 + 1) fun (v75 : Int32) => gi v75 L <| nm (xs v75.toNatClampNeg) fun (v76 : Int32) => nm (x3 + 2) fun (v77 : Int32) => gi v77 L <| nm (xs v77.toNatClampNeg) fun (v78 : Int32) => bd (f_X8_runner_53 v76 v78 μ74) fun v79 μ80 => nm (x3 + 6) fun (v81 : Int32) => bk v81 μ80
def fc_law_6 (bk : Int32 → Mem → Res) (L : Nat) (xs : Nat → Int32) (x3 : Int32) (σ : Mem) : Res := nm (x3 + 1) fun (v82 : Int32) => gi v82 L <| nm (xs v82.toNatClampNeg) fun (v83 : Int32) => nm (x3 + 2) fun (v84 : Int32) => gi v84 L <| nm (xs v84.toNatClampNeg) fun (v85 : Int32) => bd (f_X7_runnerIs_0 v83 v85 σ) fun v86 μ87 => nm (x3 + 1) fun (v88 : Int32) => gi v88 L <| nm (xs v88.toNatClampNeg) fun (v89 : Int32) => nm (x3 + 2) fun (v90 : Int32) => gi v90 L <| nm (xs v90.toNatClampNeg) fun (v91 : Int32) => bd (f_X8_runnerIs_53 v89 v91 μ87) fun v92 μ93 => nm (x3 + 6) fun (v94 : Int32) => bk v94 μ93
def fc_law_7 (bk : Int32 → Mem → Res) (L : Nat) (xs : Nat → Int32) (x3 : Int32) (σ : Mem) : Res := nm (x3 + 1) fun (v95 : Int32) => gi v95 L <| nm (xs v95.toNatClampNeg) fun (v96 : Int32) => nm (x3 + 2) fun (v97 : Int32) => gi v97 L <| nm (xs v97.toNatClampNeg) fun (v98 : Int32) => bd (f_X7_leads_0 v96 v98 σ) fun v99 μ100 => nm (x3 + 1) fun (v101 : Int32) => gi v101 L <| nm (xs v101.toNatClampNeg) fun (v102 : Int32) => nm (x3 + 2) fun (v103 : Int32) => gi v103 L <| nm (xs v103.toNatClampNeg) fun (v104 : Int32) => bd (f_X8_leads_53 v102 v104 μ100) fun v105 μ106 => nm (x3 + 6) fun (v107 : Int32) => bk v107 μ106
def fc_law_8 (bk : Int32 → Mem → Res) (L : Nat) (xs : Nat → Int32) (x3 : Int32) (σ : Mem) : Res := nm (x3 + 1) fun (v108 : Int32) => gi v108 L <| nm (xs v108.toNatClampNeg) fun (v109 : Int32) => nm (x3 + 2) fun (v110 : Int32) => gi v110 L <| nm (xs v110.toNatClampNeg) fun (v111 : Int32) => bd (f_X7_set_0 v109 v111 σ) fun v112 μ113 => nm (x3 + 1) fun (v114 : Int32) => gi v114 L <| nm (xs v114.toNatClampNeg) fun (v115 : Int32) => nm (x3 + 2) fun (v116 : Int32) => gi v116 L <| nm (xs v116.toNatClampNeg) fun (v117 : Int32) => bd (f_X8_set_53 v115 v117 μ113) fun v118 μ119 => nm (x3 + 6) fun (v120 : Int32) => bk v120 μ119
def fc_law_9 (bk : Int32 → Mem → Res) (L : Nat) (xs : Nat → Int32) (x3 : Int32) (σ : Mem) : Res := nm (x3 + 1) fun (v121 : Int32) => gi v121 L <| nm (xs v121.toNatClampNeg) fun (v122 : Int32) => nm (x3 + 2) fun (v123 : Int32) => gi v123 L <| nm (xs v123.toNatClampNeg) fun (v124 : Int32) => bd (f_X7_steal_0 v122 v124 σ) fun v125 μ126 => nm (x3 + 1) fun (v127 : Int32) => gi v127 L <| nm (xs v127.toNatClampNeg) fun (v128 : Int32) => nm (x3 + 2) fun (v129 : Int32) => gi v129 L <| nm (xs v129.toNatClampNeg) fun (v130 : Int32) => bd (f_X8_steal_53 v128 v130 μ126) fun v131 μ132 => nm (x3 + 6) fun (v133 : Int32) => bk v133 μ132
def fc_law_10 (bk : Int32 → Mem → Res) (L : Nat) (xs : Nat → Int32) (x3 : Int32) (σ : Mem) : Res := nm (x3 + 1) fun (v134 : Int32) => gi v134 L <| nm (xs v134.toNatClampNeg) fun (v135 : Int32) => bd (f_X7_over_0 v135 σ) fun v136 μ137 => nm (x3 + 1) fun (v138 : Int32) => gi v138 L <| nm (xs v138.toNatClampNeg) fun (v139 : Int32) => bd (f_X8_over_53 v139 μ137) fun v140 μ141 => nm (x3 + 6) fun (v142 : Int32) => bk v142 μ141
def fc_law_11 (bk : Int32 → Mem → Res) (L : Nat) (xs : Nat → Int32) (x3 : Int32) (σ : Mem) : Res := nm (x3 + 1) fun (v143 : Int32) => gi v143 L <| nm (xs v143.toNatClampNeg) fun (v144 : Int32) => nm (v144.toInt64) fun (v145 : Int64) => nm (v145 <<< ((32 : Int32).toInt64 &&& 63)) fun (v146 : Int64) => nm (x3 + 2) fun (v147 : Int32) => gi v147 L <| nm (xs v147.toNatClampNeg) fun (v148 : Int32) => nm (v148.toInt64) fun (v149 : Int64) => nm (v149 &&& 4294967295) fun (v150 : Int64) => nm (v146 ||| v150) fun (v151 : Int64) => nm (x3 + 3) fun (v152 : Int32) => gi v152 L <| nm (xs v152.toNatClampNeg) fun (v153 : Int32) => bd (f_X7_feed_0 v151 v153 σ) fun v154 μ155 => nm (x3 + 1) fun (v156 : Int32) => gi v156 L <| nm (xs v156.toNatClampNeg) fun (v157 : Int32) => nm (v157.toInt64) fun (v158 : Int64) => nm (v158 <<< ((32 : Int32).toInt64 &&& 63)) fun (v159 : Int64) => nm (x3 + 2) fun (v160 : Int32) => gi v160 L <| nm (xs v160.toNatClampNeg) fun (v161 : Int32) => nm (v161.toInt64) fun (v162 : Int64) => nm (v162 &&& 4294967295) fun (v163 : Int64) => nm (v159 ||| v163) fun (v164 : Int64) => nm (x3 + 3) fun (v165 : Int32) => gi v165 L <| nm (xs v165.toNatClampNeg) fun (v166 : Int32) => bd (f_X8_feed_53 v164 v166 μ155) fun v167 μ168 => nm (x3 + 6) fun (v169 : Int32) => bk v169 μ168
def fc_law_12 (bk : Int32 → Mem → Res) (L : Nat) (xs : Nat → Int32) (x3 : Int32) (σ : Mem) : Res := nm (x3 + 1) fun (v170 : Int32) => gi v170 L <| nm (xs v170.toNatClampNeg) fun (v171 : Int32) => bd (f_X7_text_0 v171 σ) fun v172 μ173 => nm (x3 + 1) fun (v174 : Int32) => gi v174 L <| nm (xs v174.toNatClampNeg) fun (v175 : Int32) => bd (f_X8_text_53 v175 μ173) fun v176 μ177 => nm (x3 + 6) fun (v178 : Int32) => bk v178 μ177
def fc_law_13 (bk : Int32 → Mem → Res) (L : Nat) (xs : Nat → Int32) (x3 : Int32) (σ : Mem) : Res := nm (x3 + 1) fun (v179 : Int32) => gi v179 L <| nm (xs v179.toNatClampNeg) fun (v180 : Int32) => bd (f_X7_untell_0 v180 σ) fun v181 μ182 => nm (x3 + 1) fun (v183 : Int32) => gi v183 L <| nm (xs v183.toNatClampNeg) fun (v184 : Int32) => bd (f_X8_untell_53 v184 μ182) fun v185 μ186 => nm (x3 + 6) fun (v187 : Int32) => bk v187 μ186
def fc_law_14 (bk : Int32 → Mem → Res) (L : Nat) (xs : Nat → Int32) (x3 : Int32) (σ : Mem) : Res := nm (x3 + 1) fun (v188 : Int32) => gi v188 L <| nm (xs v188.toNatClampNeg) fun (v189 : Int32) => nm (x3 + 2) fun (v190 : Int32) => gi v190 L <| nm (xs v190.toNatClampNeg) fun (v191 : Int32) => nm (x3 + 3) fun (v192 : Int32) => gi v192 L <| nm (xs v192.toNatClampNeg) fun (v193 : Int32) => nm (x3 + 4) fun (v194 : Int32) => gi v194 L <| nm (xs v194.toNatClampNeg) fun (v195 : Int32) => bd (f_X7_law_0 v189 v191 v193 v195 σ) fun v196 μ197 => nm (x3 + 1) fun (v198 : Int32) => gi v198 L <| nm (xs v198.toNatClampNeg) fun (v199 : Int32) => nm (x3 + 2) fun (v200 : Int32) => gi v200 L <| nm (xs v200.toNatClampNeg) fun (v201 : Int32) => nm (x3 + 3) fun (v202 : Int32) => gi v202 L <| nm (xs v202.toNatClampNeg) fun (v203 : Int32) => nm (x3 + 4) fun (v204 : Int32) => gi v204 L <| nm (xs v204.toNatClampNeg) fun (v205 : Int32) => bd (f_X8_law_53 v199 v201 v203 v205 μ197) fun v206 μ207 => nm (x3 + 6) fun (v208 : Int32) => bk v208 μ207
def fc_law_15 (bk : Int32 → Mem → Res) (L : Nat) (xs : Nat → Int32) (x3 : Int32) (σ : Mem) : Res := nm (x3 + 1) fun (v209 : Int32) => gi v209 L <| nm (xs v209.toNatClampNeg) fun (v210 : Int32) => nm (x3 + 2) fun (v211 : Int32) => gi v211 L <| nm (xs v211.toNatClampNeg) fun (v212 : Int32) => nm (x3 + 3) fun (v213 : Int32) => gi v213 L <| nm (xs v213.toNatClampNeg) fun (v214 : Int32) => bd (f_X7_margin_0 v210 v212 v214 σ) fun v215 μ216 => nm (x3 + 1) fun (v217 : Int32) => gi v217 L <| nm (xs v217.toNatClampNeg) fun (v218 : Int32) => nm (x3 + 2) fun (v219 : Int32) => gi v219 L <| nm (xs v219.toNatClampNeg) fun (v220 : Int32) => nm (x3 + 3) fun (v221 : Int32) => gi v221 L <| nm (xs v221.toNatClampNeg) fun (v222 : Int32) => bd (f_X8_margin_53 v218 v220 v222 μ216) fun v223 μ224 => nm (x3 + 6) fun (v225 : Int32) => bk v225 μ224
def fc_law_16 (bk : Int32 → Mem → Res) (L : Nat) (xs : Nat → Int32) (x3 : Int32) (σ : Mem) : Res := nm (x3 + 1) fun (v226 : Int32) => gi v226 L <| nm (xs v226.toNatClampNeg) fun (v227 : Int32) => nm (x3 + 2) fun (v228 : Int32) => gi v228 L <| nm (xs v228.toNatClampNeg) fun (v229 : Int32) => bd (f_X7_leadFor_0 v227 v229 σ) fun v230 μ231 => nm (x3 + 1) fun (v232 : Int32) => gi v232 L <| nm (xs v232.toNatClampNeg) fun (v233 : Int32) => nm (x3 + 2) fun (v234 : Int32) => gi v234 L <| nm (xs v234.toNatClampNeg) fun (v235 : Int32) => bd (f_X8_leadFor_53 v233 v235 μ231) fun v236 μ237 => nm (x3 + 6) fun (v238 : Int32) => bk v238 μ237
def fc_law_17 (bk : Int32 → Mem → Res) (L : Nat) (xs : Nat → Int32) (x3 : Int32) (σ : Mem) : Res := nm (x3 + 1) fun (v239 : Int32) => gi v239 L <| nm (xs v239.toNatClampNeg) fun (v240 : Int32) => nm (x3 + 2) fun (v241 : Int32) => gi v241 L <| nm (xs v241.toNatClampNeg) fun (v242 : Int32) => bd (f_X7_bestLead_0 v240 v242 σ) fun v243 μ244 => nm (x3 + 1) fun (v245 : Int32) => gi v245 L <| nm (xs v245.toNatClampNeg) fun (v246 : Int32) => nm (x3 + 2) fun (v247 : Int32) => gi v247 L <| nm (xs v247.toNatClampNeg) fun (v248 : Int32) => bd (f_X8_bestLead_53 v246 v248 μ244) fun v249 μ250 => nm (x3 + 6) fun (v251 : Int32) => bk v251 μ250
def fc_law_18 (bk : Int32 → Mem → Res) (L : Nat) (xs : Nat → Int32) (x3 : Int32) (σ : Mem) : Res := nm (x3 + 1) fun (v252 : Int32) => gi v252 L <| nm (xs v252.toNatClampNeg) fun (v253 : Int32) => nm (x3 + 2) fun (v254 : Int32) => gi v254 L <| nm (xs v254.toNatClampNeg) fun (v255 : Int32) => bd (f_X7_odds_0 v253 v255 σ) fun v256 μ257 => nm (x3 + 1) fun (v258 : Int32) => gi v258 L <| nm (xs v258.toNatClampNeg) fun (v259 : Int32) => nm (x3 + 2) fun (v260 : Int32) => gi v260 L <| nm (xs v260.toNatClampNeg) fun (v261 : Int32) => bd (f_X8_odds_53 v259 v261 μ257) fun v262 μ263 => nm (x3 + 6) fun (v264 : Int32) => bk v264 μ263
def fc_law_19 (bk : Int32 → Mem → Res) (L : Nat) (xs : Nat → Int32) (x3 : Int32) (σ : Mem) : Res := nm (x3 + 1) fun (v265 : Int32) => gi v265 L <| nm (xs v265.toNatClampNeg) fun (v266 : Int32) => nm (x3 + 2) fun (v267 : Int32) => gi v267 L <| nm (xs v267.toNatClampNeg) fun (v268 : Int32) => bd (f_X7_go_0 v266 v268 σ) fun v269 μ270 => nm (x3 + 1) fun (v271 : Int32) => gi v271 L <| nm (xs v271.toNatClampNeg) fun (v272 : Int32) => nm (x3 + 2) fun (v273 : Int32) => gi v273 L <| nm (xs v273.toNatClampNeg) fun (v274 : Int32) => bd (f_X8_go_53 v272 v274 μ270) fun v275 μ276 => nm (x3 + 6) fun (v277 : Int32) => bk v277 μ276
def fc_law_20 (bk : Int32 → Mem → Res) (L : Nat) (xs : Nat → Int32) (x3 : Int32) (σ : Mem) : Res := nm (x3 + 1) fun (v278 : Int32) => gi v278 L <| nm (xs v278.toNatClampNeg) fun (v279 : Int32) => nm (x3 + 2) fun (v280 : Int32) => gi v280 L <| nm (xs v280.toNatClampNeg) fun (v281 : Int32) => nm (x3 + 3) fun (v282 : Int32) => gi v282 L <| nm (xs v282.toNatClampNeg) fun (v283 : Int32) => nm (x3 + 4) fun (v284 : Int32) => gi v284 L <| nm (xs v284.toNatClampNeg) fun (v285 : Int32) => bd (f_X7_duel_0 v279 v281 v283 v285 σ) fun v286 μ287 => nm (x3 + 1) fun (v288 : Int32) => gi v288 L <| nm (xs v288.toNatClampNeg) fun (v289 : Int32) => nm (x3 + 2) fun (v290 : Int32) => gi v290 L <| nm (xs v290.toNatClampNeg) fun (v291 : Int32) => nm (x3 + 3) fun (v292 : Int32) => gi v292 L <| nm (xs v292.toNatClampNeg) fun (v293 : Int32) => nm (x3 + 4) fun (v294 : Int32) => gi v294 L <| nm (xs v294.toNatClampNeg) fun (v295 : Int32) => bd (f_X8_duel_53 v289 v291 v293 v295 μ287) fun v296 μ297 => nm (x3 + 6) fun (v298 : Int32) => bk v298 μ297
def fc_law_21 (bk : Int32 → Mem → Res) (L : Nat) (xs : Nat → Int32) (x3 : Int32) (σ : Mem) : Res := nm (x3 + 1) fun (v299 : Int32) => gi v299 L <| nm (xs v299.toNatClampNeg) fun (v300 : Int32) => nm (x3 + 2) fun (v301 : Int32) => gi v301 L <| nm (xs v301.toNatClampNeg) fun (v302 : Int32) => bd (f_X7_surely_0 v300 v302 σ) fun v303 μ304 => nm (x3 + 1) fun (v305 : Int32) => gi v305 L <| nm (xs v305.toNatClampNeg) fun (v306 : Int32) => nm (x3 + 2) fun (v307 : Int32) => gi v307 L <| nm (xs v307.toNatClampNeg) fun (v308 : Int32) => bd (f_X8_surely_53 v306 v308 μ304) fun v309 μ310 => nm (x3 + 6) fun (v311 : Int32) => bk v311 μ310
def fc_law_22 (bk : Int32 → Mem → Res) (L : Nat) (xs : Nat → Int32) (x3 : Int32) (σ : Mem) : Res := nm (x3 + 1) fun (v312 : Int32) => gi v312 L <| nm (xs v312.toNatClampNeg) fun (v313 : Int32) => nm (x3 + 2) fun (v314 : Int32) => gi v314 L <| nm (xs v314.toNatClampNeg) fun (v315 : Int32) => nm (x3 + 3) fun (v316 : Int32) => gi v316 L <| nm (xs v316.toNatClampNeg) fun (v317 : Int32) => bd (f_X7_fits_0 v313 v315 v317 σ) fun v318 μ319 => nm (x3 + 1) fun (v320 : Int32) => gi v320 L <| nm (xs v320.toNatClampNeg) fun (v321 : Int32) => nm (x3 + 2) fun (v322 : Int32) => gi v322 L <| nm (xs v322.toNatClampNeg) fun (v323 : Int32) => nm (x3 + 3) fun (v324 : Int32) => gi v324 L <| nm (xs v324.toNatClampNeg) fun (v325 : Int32) => bd (f_X8_fits_53 v321 v323 v325 μ319) fun v326 μ327 => nm (x3 + 6) fun (v328 : Int32) => bk v328 μ327
def fc_law_23 (bk : Int32 → Mem → Res) (L : Nat) (xs : Nat → Int32) (x3 : Int32) (σ : Mem) : Res := nm (x3 + 1) fun (v329 : Int32) => gi v329 L <| nm (xs v329.toNatClampNeg) fun (v330 : Int32) => bd (f_X7_loose_0 v330 σ) fun v331 μ332 => nm (x3 + 1) fun (v333 : Int32) => gi v333 L <| nm (xs v333.toNatClampNeg) fun (v334 : Int32) => bd (f_X8_loose_53 v334 μ332) fun v335 μ336 => nm (x3 + 6) fun (v337 : Int32) => bk v337 μ336
def fc_law_24 (bk : Int32 → Mem → Res) (L : Nat) (xs : Nat → Int32) (x3 : Int32) (σ : Mem) : Res := nm (x3 + 1) fun (v338 : Int32) => gi v338 L <| nm (xs v338.toNatClampNeg) fun (v339 : Int32) => bd (f_X7_seed_0 v339 σ) fun v340 μ341 => nm (x3 + 1) fun (v342 : Int32) => gi v342 L <| nm (xs v342.toNatClampNeg) fun (v343 : Int32) => bd (f_X8_seed_53 v343 μ341) fun v344 μ345 => nm (x3 + 6) fun (v346 : Int32) => bk v346 μ345
def fc_law_25 (bk : Int32 → Mem → Res) (L : Nat) (xs : Nat → Int32) (x3 : Int32) (σ : Mem) : Res := nm (x3 + 1) fun (v347 : Int32) => gi v347 L <| nm (xs v347.toNatClampNeg) fun (v348 : Int32) => nm (x3 + 2) fun (v349 : Int32) => gi v349 L <| nm (xs v349.toNatClampNeg) fun (v350 : Int32) => nm (x3 + 3) fun (v351 : Int32) => gi v351 L <| nm (xs v351.toNatClampNeg) fun (v352 : Int32) => bd (f_X7_voice_0 v348 v350 v352 σ) fun v353 μ354 => nm (x3 + 1) fun (v355 : Int32) => gi v355 L <| nm (xs v355.toNatClampNeg) fun (v356 : Int32) => nm (x3 + 2) fun (v357 : Int32) => gi v357 L <| nm (xs v357.toNatClampNeg) fun (v358 : Int32) => nm (x3 + 3) fun (v359 : Int32) => gi v359 L <| nm (xs v359.toNatClampNeg) fun (v360 : Int32) => bd (f_X8_voice_53 v356 v358 v360 μ354) fun v361 μ362 => nm (x3 + 6) fun (v363 : Int32) => bk v363 μ362
def fc_law_26 (bk : Int32 → Mem → Res) (L : Nat) (xs : Nat → Int32) (x3 : Int32) (σ : Mem) : Res := nm (x3 + 1) fun (v364 : Int32) => gi v364 L <| nm (xs v364.toNatClampNeg) fun (v365 : Int32) => bd (f_X7_body_0 v365 σ) fun v366 μ367 => nm (x3 + 1) fun (v368 : Int32) => gi v368 L <| nm (xs v368.toNatClampNeg) fun (v369 : Int32) => bd (f_X8_body_53 v369 μ367) fun v370 μ371 => nm (x3 + 6) fun (v372 : Int32) => bk v372 μ371
def fc_law_27 (bk : Int32 → Mem → Res) (L : Nat) (xs : Nat → Int32) (x3 : Int32) (σ : Mem) : Res := nm (x3 + 1) fun (v373 : Int32) => gi v373 L <| nm (xs v373.toNatClampNeg) fun (v374 : Int32) => nm (x3 + 2) fun (v375 : Int32) => gi v375 L <| nm (xs v375.toNatClampNeg) fun (v376 : Int32) => nm (x3 + 3) fun (v377 : Int32) => gi v377 L <| nm (xs v377.toNatClampNeg) fun (v378 : Int32) => bd (f_X7_sheet_0 v374 v376 v378 σ) fun v379 μ380 => nm (x3 + 1) fun (v381 : Int32) => gi v381 L <| nm (xs v381.toNatClampNeg) fun (v382 : Int32) => nm (x3 + 2) fun (v383 : Int32) => gi v383 L <| nm (xs v383.toNatClampNeg) fun (v384 : Int32) => nm (x3 + 3) fun (v385 : Int32) => gi v385 L <| nm (xs v385.toNatClampNeg) fun (v386 : Int32) => bd (f_X8_sheet_53 v382 v384 v386 μ380) fun v387 μ388 => nm (x3 + 6) fun (v389 : Int32) => bk v389 μ388
def fc_law_28 (bk : Int32 → Mem → Res) (L : Nat) (xs : Nat → Int32) (x3 : Int32) (σ : Mem) : Res := nm (x3 + 1) fun (v390 : Int32) => gi v390 L <| nm (xs v390.toNatClampNeg) fun (v391 : Int32) => nm (x3 + 2) fun (v392 : Int32) => gi v392 L <| nm (xs v392.toNatClampNeg) fun (v393 : Int32) => nm (x3 + 3) fun (v394 : Int32) => gi v394 L <| nm (xs v394.toNatClampNeg) fun (v395 : Int32) => bd (f_X7_put_0 v391 v393 v395 σ) fun v396 μ397 => nm (x3 + 1) fun (v398 : Int32) => gi v398 L <| nm (xs v398.toNatClampNeg) fun (v399 : Int32) => nm (x3 + 2) fun (v400 : Int32) => gi v400 L <| nm (xs v400.toNatClampNeg) fun (v401 : Int32) => nm (x3 + 3) fun (v402 : Int32) => gi v402 L <| nm (xs v402.toNatClampNeg) fun (v403 : Int32) => bd (f_X8_put_53 v399 v401 v403 μ397) fun v404 μ405 => nm (x3 + 6) fun (v406 : Int32) => bk v406 μ405
def fc_law_29 (bk : Int32 → Mem → Res) (L : Nat) (xs : Nat → Int32) (x3 : Int32) (σ : Mem) : Res := nm (x3 + 1) fun (v407 : Int32) => gi v407 L <| nm (xs v407.toNatClampNeg) fun (v408 : Int32) => nm (x3 + 2) fun (v409 : Int32) => gi v409 L <| nm (xs v409.toNatClampNeg) fun (v410 : Int32) => nm (x3 + 3) fun (v411 : Int32) => gi v411 L <| nm (xs v411.toNatClampNeg) fun (v412 : Int32) => nm (x3 + 4) fun (v413 : Int32) => gi v413 L <| nm (xs v413.toNatClampNeg) fun (v414 : Int32) => nm (x3 + 5) fun (v415 : Int32) => gi v415 L <| nm (xs v415.toNatClampNeg) fun (v416 : Int32) => bd (f_X7_move_0 v408 v410 v412 v414 v416 σ) fun v417 μ418 => nm (x3 + 1) fun (v419 : Int32) => gi v419 L <| nm (xs v419.toNatClampNeg) fun (v420 : Int32) => nm (x3 + 2) fun (v421 : Int32) => gi v421 L <| nm (xs v421.toNatClampNeg) fun (v422 : Int32) => nm (x3 + 3) fun (v423 : Int32) => gi v423 L <| nm (xs v423.toNatClampNeg) fun (v424 : Int32) => nm (x3 + 4) fun (v425 : Int32) => gi v425 L <| nm (xs v425.toNatClampNeg) fun (v426 : Int32) => nm (x3 + 5) fun (v427 : Int32) => gi v427 L <| nm (xs v427.toNatClampNeg) fun (v428 : Int32) => bd (f_X8_move_53 v420 v422 v424 v426 v428 μ418) fun v429 μ430 => nm (x3 + 6) fun (v431 : Int32) => bk v431 μ430
def fc_law_30 (bk : Int32 → Mem → Res) (L : Nat) (xs : Nat → Int32) (x3 : Int32) (σ : Mem) : Res := nm (x3 + 1) fun (v432 : Int32) => gi v432 L <| nm (xs v432.toNatClampNeg) fun (v433 : Int32) => bd (f_X7_weightsBy_0 v433 σ) fun v434 μ435 => nm (x3 + 1) fun (v436 : Int32) => gi v436 L <| nm (xs v436.toNatClampNeg) fun (v437 : Int32) => bd (f_X8_weightsBy_53 v437 μ435) fun v438 μ439 => nm (x3 + 6) fun (v440 : Int32) => bk v440 μ439
def fc_law_31 (bk : Int32 → Mem → Res) (L : Nat) (xs : Nat → Int32) (x3 : Int32) (σ : Mem) : Res := nm (x3 + 1) fun (v441 : Int32) => gi v441 L <| nm (xs v441.toNatClampNeg) fun (v442 : Int32) => bd (f_X7_judge_0 v442 σ) fun v443 μ444 => nm (x3 + 1) fun (v445 : Int32) => gi v445 L <| nm (xs v445.toNatClampNeg) fun (v446 : Int32) => bd (f_X8_judge_53 v446 μ444) fun v447 μ448 => nm (x3 + 6) fun (v449 : Int32) => bk v449 μ448
def fc_law_32 (bk : Int32 → Mem → Res) (L : Nat) (xs : Nat → Int32) (x3 : Int32) (σ : Mem) : Res := bd (f_X7_image_0 σ) fun v450 μ451 => bd (f_X8_image_53 μ451) fun v452 μ453 => nm (x3 + 6) fun (v454 : Int32) => bk v454 μ453
def fc_law_33 (bk : Int32 → Mem → Res) (L : Nat) (xs : Nat → Int32) (x3 : Int32) (σ : Mem) : Res := bd (f_X7_restore_0 σ) fun v455 μ456 => bd (f_X8_restore_53 μ456) fun v457 μ458 => nm (x3 + 6) fun (v459 : Int32) => bk v459 μ458
def fc_law_34 (bk : Int32 → Mem → Res) (L : Nat) (xs : Nat → Int32) (x3 : Int32) (σ : Mem) : Res := nm (x3 + 1) fun (v460 : Int32) => gi v460 L <| nm (xs v460.toNatClampNeg) fun (v461 : Int32) => bd (f_X7_tell_0 v461 σ) fun v462 μ463 => nm (x3 + 1) fun (v464 : Int32) => gi v464 L <| nm (xs v464.toNatClampNeg) fun (v465 : Int32) => bd (f_X8_tell_53 v465 μ463) fun v466 μ467 => nm (x3 + 6) fun (v468 : Int32) => bk v468 μ467
def fc_law_35 (bk : Int32 → Mem → Res) (L : Nat) (xs : Nat → Int32) (x3 : Int32) (σ : Mem) : Res := bd (f_X7_check_0 σ) fun v469 μ470 => bd (f_X8_check_53 μ470) fun v471 μ472 => nm (x3 + 6) fun (v473 : Int32) => bk v473 μ472
def fc_law_36 (bk : Int32 → Mem → Res) (L : Nat) (xs : Nat → Int32) (x3 : Int32) (σ : Mem) : Res := nm (x3 + 1) fun (v474 : Int32) => gi v474 L <| nm (xs v474.toNatClampNeg) fun (v475 : Int32) => bd (f_X7_count_0 v475 σ) fun v476 μ477 => nm (x3 + 1) fun (v478 : Int32) => gi v478 L <| nm (xs v478.toNatClampNeg) fun (v479 : Int32) => bd (f_X8_count_53 v479 μ477) fun v480 μ481 => nm (x3 + 6) fun (v482 : Int32) => bk v482 μ481
def fc_law_37 (bk : Int32 → Mem → Res) (L : Nat) (xs : Nat → Int32) (x3 : Int32) (σ : Mem) : Res := nm (x3 + 1) fun (v483 : Int32) => gi v483 L <| nm (xs v483.toNatClampNeg) fun (v484 : Int32) => bd (f_X7_told_0 v484 σ) fun v485 μ486 => nm (x3 + 1) fun (v487 : Int32) => gi v487 L <| nm (xs v487.toNatClampNeg) fun (v488 : Int32) => bd (f_X8_told_53 v488 μ486) fun v489 μ490 => if v485 = v489 then (nm (x3 + 6) fun (v491 : Int32) => bk v491 μ490) else (some (0, μ490))
def fb_law (bk : Int32 → Mem → Res) (L : Nat) (xs : Nat → Int32) (x3 : Int32) (σ : Mem) : Res := nm ((Int32.ofNat L) - 6) fun (v1 : Int32) => if v1 < x3 then (some (1, σ)) else (gi x3 L <| nm (xs x3.toNatClampNeg) fun (v2 : Int32) => nm (v2 &&& 63) fun (v3 : Int32) => if v3 = 0 then (fc_law_0 bk L xs x3 σ) else (if v3 = 1 then (fc_law_1 bk L xs x3 σ) else (if v3 = 2 then (fc_law_2 bk L xs x3 σ) else (if v3 = 3 then (fc_law_3 bk L xs x3 σ) else (if v3 = 4 then (fc_law_4 bk L xs x3 σ) else (if v3 = 5 then (fc_law_5 bk L xs x3 σ) else (if v3 = 6 then (fc_law_6 bk L xs x3 σ) else (if v3 = 7 then (fc_law_7 bk L xs x3 σ) else (if v3 = 8 then (fc_law_8 bk L xs x3 σ) else (if v3 = 9 then (fc_law_9 bk L xs x3 σ) else (if v3 = 10 then (fc_law_10 bk L xs x3 σ) else (if v3 = 11 then (fc_law_11 bk L xs x3 σ) else (if v3 = 12 then (fc_law_12 bk L xs x3 σ) else (if v3 = 13 then (fc_law_13 bk L xs x3 σ) else (if v3 = 14 then (fc_law_14 bk L xs x3 σ) else (if v3 = 15 then (fc_law_15 bk L xs x3 σ) else (if v3 = 16 then (fc_law_16 bk L xs x3 σ) else (if v3 = 17 then (fc_law_17 bk L xs x3 σ) else (if v3 = 18 then (fc_law_18 bk L xs x3 σ) else (if v3 = 19 then (fc_law_19 bk L xs x3 σ) else (if v3 = 20 then (fc_law_20 bk L xs x3 σ) else (if v3 = 21 then (fc_law_21 bk L xs x3 σ) else (if v3 = 22 then (fc_law_22 bk L xs x3 σ) else (if v3 = 23 then (fc_law_23 bk L xs x3 σ) else (if v3 = 24 then (fc_law_24 bk L xs x3 σ) else (if v3 = 25 then (fc_law_25 bk L xs x3 σ) else (if v3 = 26 then (fc_law_26 bk L xs x3 σ) else (if v3 = 27 then (fc_law_27 bk L xs x3 σ) else (if v3 = 28 then (fc_law_28 bk L xs x3 σ) else (if v3 = 29 then (fc_law_29 bk L xs x3 σ) else (if v3 = 30 then (fc_law_30 bk L xs x3 σ) else (if v3 = 31 then (fc_law_31 bk L xs x3 σ) else (if v3 = 32 then (fc_law_32 bk L xs x3 σ) else (if v3 = 33 then (fc_law_33 bk L xs x3 σ) else (if v3 = 34 then (fc_law_34 bk L xs x3 σ) else (if v3 = 35 then (fc_law_35 bk L xs x3 σ) else (if v3 = 36 then (fc_law_36 bk L xs x3 σ) else (if v3 = 37 then (fc_law_37 bk L xs x3 σ) else (nm (x3 + 6) fun (v492 : Int32) => bk v492 σ)))))))))))))))))))))))))))))))))))))))
def f_law (L : Nat) (xs : Nat → Int32) : Nat → Int32 → Mem → Res
  | 0, _, _ => none
  | n + 1, x3, σ => fb_law (f_law L xs n) L xs x3 σ
set_option maxHeartbeats 16000000 in
set_option maxRecDepth 100000 in
theorem law_loop {p : Program} {e : Env} {s : State} {m : MethodId} {below : List Frame} {meth : Method} {c : Code} (l : Launch) {b L : Nat} {xs : Nat → Int32} {D : va_G} {cI cB : ClassId} {ad st : Nat → Nat} (hr : meth.sig.returnType = ret) (hlocks : meth.locks = false) (E : En p room_1 s m #[Value.ref b] c cL_law 4 R_law D cI cB ad st (fun q : Nat => s.heap.size ≤ q) 600000 7302250) (hX : va_X b L xs s s.heap) (hbl : b < s.heap.size) (hLK : ∀ w ∈ LK, w.before #[Value.ref b] s = true) (hCL : (Cond.constantLong R_law 59 4294967295).before #[Value.ref b] s = true) {Z : Int32 × Mem} (hZ : Z.1 = 1) :
    ∀ (n : Nat) (x3 : Int32) (σ : Mem) (H : Heap) (locs : List Loc) (ls : Array Slot), f_law L xs n x3 σ = some Z → Wo D cI cB ad (fun q : Nat => s.heap.size ≤ q) σ s H locs → lv_has ls 4 [(0, .ref b), (1, .ref (ad 0)), (2, .ref (ad 53)), (3, .int x3)] → W p l e room_1 s m #[Value.ref b] below meth c H locs 600000 7302250 (lw_Z below #[Value.ref b] s) (F0 m 18 ls []) := by
  have hx := E.1.1
  have hb := E.1.2.1
  have hbA : ¬ (fun q : Nat => s.heap.size ≤ q) b := Nat.not_le.mpr hbl
  intro n
  induction n with
  | zero =>
    intro x3 σ H locs ls hf
    cases (show (none : Res) = some Z from hf)
  | succ n ih =>
    intro x3 σ H locs ls hf Y hl
    have hf : fb_law (f_law L xs n) L xs x3 σ = some Z := hf
    unfold fb_law at hf
    refine lv_iload_n (pc := 18) hx hb dL_law_18 rfl (lv_at hl 3 rfl) ?_
    refine lv_aload_n (pc := 19) hx hb dL_law_19 rfl (lv_at hl 0 rfl) ?_
    refine va_slen (pc := 20) hx hb hX hbl hbA Y.2 dL_law_20 ?_
    refine lv_bipush (pc := 21) (v := 6) hx hb dL_law_21 (by decide) ?_
    refine g_isub (pc := 23) E dL_law_23 hf (fun v1 hf => ?_)
    refine g_icmp_gt (pc := 24) (tgt := 1440) E dL_law_24 (by decide) hf (fun hf => ?_) (fun hf => ?_)
    · refine lv_iconst (pc := 1440) (v := 1) hx hb dL_law_1440 (by decide) ?_
      refine va_forget (fun q hq => Y.2.2.2 q hq) ?_
      exact lw_ret hx hb hr hlocks dL_law_1441
    · refine lv_aload_n (pc := 27) hx hb dL_law_27 rfl (lv_at hl 0 rfl) ?_
      refine lv_iload_n (pc := 28) hx hb dL_law_28 rfl (lv_at hl 3 rfl) ?_
      refine g_sld (pc := 29) E Y hX hbl hbA dL_law_29 hf (fun v2 hf => ?_)
      refine lv_bipush (pc := 30) (v := 63) hx hb dL_law_30 (by decide) ?_
      refine g_iand (pc := 32) E dL_law_32 hf (fun v3 hf => ?_)
      by_cases hc : v3 = 0
      · rw [if_pos hc] at hf
        unfold fc_law_0 at hf
        refine g_tabIn (pc := 33) (tgt := 200) E dL_law_33 hc (n := 0) (by decide) (by decide) (by decide) rfl (by decide) ?_
        refine lv_aload_n (pc := 200) hx hb dL_law_200 rfl (lv_at hl 1 rfl) ?_
        refine lv_aload_n (pc := 201) hx hb dL_law_201 rfl (lv_at hl 0 rfl) ?_
        refine lv_iload_n (pc := 202) hx hb dL_law_202 rfl (lv_at hl 3 rfl) ?_
        refine lv_iconst (pc := 203) (v := 1) hx hb dL_law_203 (by decide) ?_
        refine g_iadd (pc := 204) E dL_law_204 hf (fun v4 hf => ?_)
        refine g_sld (pc := 205) E Y hX hbl hbA dL_law_205 hf (fun v5 hf => ?_)
        refine lv_aload_n (pc := 206) hx hb dL_law_206 rfl (lv_at hl 0 rfl) ?_
        refine lv_iload_n (pc := 207) hx hb dL_law_207 rfl (lv_at hl 3 rfl) ?_
        refine lv_iconst (pc := 208) (v := 2) hx hb dL_law_208 (by decide) ?_
        refine g_iadd (pc := 209) E dL_law_209 hf (fun v6 hf => ?_)
        refine g_sld (pc := 210) E Y hX hbl hbA dL_law_210 hf (fun v7 hf => ?_)
        refine g_callL (pc := 211) E Y hLK LK_good 0 S_0 V_7 o_X7_pitch k_13 [.int v5, .int v7] rfl rfl ⟨Nat.le_of_ble_eq_true rfl, Nat.le_of_ble_eq_true rfl⟩ hl.1 (rest := []) rfl (Nat.le_of_ble_eq_true rfl) dL_law_211 (fun z hz => m_X7_pitch_0 hz) hf (fun v8 μ9 H locs hf Y => ?_)
        refine lv_pop (pc := 214) hx hb dL_law_214 rfl ?_
        refine lv_aload_n (pc := 215) hx hb dL_law_215 rfl (lv_at hl 2 rfl) ?_
        refine lv_aload_n (pc := 216) hx hb dL_law_216 rfl (lv_at hl 0 rfl) ?_
        refine lv_iload_n (pc := 217) hx hb dL_law_217 rfl (lv_at hl 3 rfl) ?_
        refine lv_iconst (pc := 218) (v := 1) hx hb dL_law_218 (by decide) ?_
        refine g_iadd (pc := 219) E dL_law_219 hf (fun v10 hf => ?_)
        refine g_sld (pc := 220) E Y hX hbl hbA dL_law_220 hf (fun v11 hf => ?_)
        refine lv_aload_n (pc := 221) hx hb dL_law_221 rfl (lv_at hl 0 rfl) ?_
        refine lv_iload_n (pc := 222) hx hb dL_law_222 rfl (lv_at hl 3 rfl) ?_
        refine lv_iconst (pc := 223) (v := 2) hx hb dL_law_223 (by decide) ?_
        refine g_iadd (pc := 224) E dL_law_224 hf (fun v12 hf => ?_)
        refine g_sld (pc := 225) E Y hX hbl hbA dL_law_225 hf (fun v13 hf => ?_)
        refine g_callL (pc := 226) E Y hLK LK_good 53 S_53 V_8 o_X8_pitch k_17 [.int v11, .int v13] rfl rfl ⟨Nat.le_of_ble_eq_true rfl, Nat.le_of_ble_eq_true rfl⟩ hl.1 (rest := []) rfl (Nat.le_of_ble_eq_true rfl) dL_law_226 (fun z hz => m_X8_pitch_53 hz) hf (fun v14 μ15 H locs hf Y => ?_)
        refine lv_pop (pc := 229) hx hb dL_law_229 rfl ?_
        refine lv_goto (pc := 230) (tgt := 1434) hx hb dL_law_230 (by decide) ?_
        refine g_iinc (pc := 1434) E (fun v16 => [(3, .int v16), (0, .ref b), (1, .ref (ad 0)), (2, .ref (ad 53))]) dL_law_1434 hl (k := 3) rfl (t := 6) (by decide) (by decide) (fun _ => rfl) hf (fun v16 hf ls hl => ?_)
        refine lv_goto (pc := 1437) (tgt := 18) hx hb dL_law_1437 (by decide) ?_
        exact ih _ _ _ _ _ hf Y (lv_sub hl [1, 2, 3, 0] rfl)
      · rw [if_neg hc] at hf
        have n_0 := ti_ne (n := 0) (by decide) hc
        clear hc
        by_cases hc : v3 = 1
        · rw [if_pos hc] at hf
          unfold fc_law_1 at hf
          refine g_tabIn (pc := 33) (tgt := 233) E dL_law_33 hc (n := 1) (by decide) (by decide) (by decide) rfl (by decide) ?_
          refine lv_aload_n (pc := 233) hx hb dL_law_233 rfl (lv_at hl 1 rfl) ?_
          refine lv_aload_n (pc := 234) hx hb dL_law_234 rfl (lv_at hl 0 rfl) ?_
          refine lv_iload_n (pc := 235) hx hb dL_law_235 rfl (lv_at hl 3 rfl) ?_
          refine lv_iconst (pc := 236) (v := 1) hx hb dL_law_236 (by decide) ?_
          refine g_iadd (pc := 237) E dL_law_237 hf (fun v17 hf => ?_)
          refine g_sld (pc := 238) E Y hX hbl hbA dL_law_238 hf (fun v18 hf => ?_)
          refine lv_aload_n (pc := 239) hx hb dL_law_239 rfl (lv_at hl 0 rfl) ?_
          refine lv_iload_n (pc := 240) hx hb dL_law_240 rfl (lv_at hl 3 rfl) ?_
          refine lv_iconst (pc := 241) (v := 2) hx hb dL_law_241 (by decide) ?_
          refine g_iadd (pc := 242) E dL_law_242 hf (fun v19 hf => ?_)
          refine g_sld (pc := 243) E Y hX hbl hbA dL_law_243 hf (fun v20 hf => ?_)
          refine g_callL (pc := 244) E Y hLK LK_good 0 S_0 V_7 o_X7_pitchIs k_18 [.int v18, .int v20] rfl rfl ⟨Nat.le_of_ble_eq_true rfl, Nat.le_of_ble_eq_true rfl⟩ hl.1 (rest := []) rfl (Nat.le_of_ble_eq_true rfl) dL_law_244 (fun z hz => m_X7_pitchIs_0 hz) hf (fun v21 μ22 H locs hf Y => ?_)
          refine lv_pop (pc := 247) hx hb dL_law_247 rfl ?_
          refine lv_aload_n (pc := 248) hx hb dL_law_248 rfl (lv_at hl 2 rfl) ?_
          refine lv_aload_n (pc := 249) hx hb dL_law_249 rfl (lv_at hl 0 rfl) ?_
          refine lv_iload_n (pc := 250) hx hb dL_law_250 rfl (lv_at hl 3 rfl) ?_
          refine lv_iconst (pc := 251) (v := 1) hx hb dL_law_251 (by decide) ?_
          refine g_iadd (pc := 252) E dL_law_252 hf (fun v23 hf => ?_)
          refine g_sld (pc := 253) E Y hX hbl hbA dL_law_253 hf (fun v24 hf => ?_)
          refine lv_aload_n (pc := 254) hx hb dL_law_254 rfl (lv_at hl 0 rfl) ?_
          refine lv_iload_n (pc := 255) hx hb dL_law_255 rfl (lv_at hl 3 rfl) ?_
          refine lv_iconst (pc := 256) (v := 2) hx hb dL_law_256 (by decide) ?_
          refine g_iadd (pc := 257) E dL_law_257 hf (fun v25 hf => ?_)
          refine g_sld (pc := 258) E Y hX hbl hbA dL_law_258 hf (fun v26 hf => ?_)
          refine g_callL (pc := 259) E Y hLK LK_good 53 S_53 V_8 o_X8_pitchIs k_21 [.int v24, .int v26] rfl rfl ⟨Nat.le_of_ble_eq_true rfl, Nat.le_of_ble_eq_true rfl⟩ hl.1 (rest := []) rfl (Nat.le_of_ble_eq_true rfl) dL_law_259 (fun z hz => m_X8_pitchIs_53 hz) hf (fun v27 μ28 H locs hf Y => ?_)
          refine lv_pop (pc := 262) hx hb dL_law_262 rfl ?_
          refine lv_goto (pc := 263) (tgt := 1434) hx hb dL_law_263 (by decide) ?_
          refine g_iinc (pc := 1434) E (fun v29 => [(3, .int v29), (0, .ref b), (1, .ref (ad 0)), (2, .ref (ad 53))]) dL_law_1434 hl (k := 3) rfl (t := 6) (by decide) (by decide) (fun _ => rfl) hf (fun v29 hf ls hl => ?_)
          refine lv_goto (pc := 1437) (tgt := 18) hx hb dL_law_1437 (by decide) ?_
          exact ih _ _ _ _ _ hf Y (lv_sub hl [1, 2, 3, 0] rfl)
        · rw [if_neg hc] at hf
          have n_1 := ti_ne (n := 1) (by decide) hc
          clear hc
          by_cases hc : v3 = 2
          · rw [if_pos hc] at hf
            unfold fc_law_2 at hf
            refine g_tabIn (pc := 33) (tgt := 266) E dL_law_33 hc (n := 2) (by decide) (by decide) (by decide) rfl (by decide) ?_
            refine lv_aload_n (pc := 266) hx hb dL_law_266 rfl (lv_at hl 1 rfl) ?_
            refine lv_aload_n (pc := 267) hx hb dL_law_267 rfl (lv_at hl 0 rfl) ?_
            refine lv_iload_n (pc := 268) hx hb dL_law_268 rfl (lv_at hl 3 rfl) ?_
            refine lv_iconst (pc := 269) (v := 1) hx hb dL_law_269 (by decide) ?_
            refine g_iadd (pc := 270) E dL_law_270 hf (fun v30 hf => ?_)
            refine g_sld (pc := 271) E Y hX hbl hbA dL_law_271 hf (fun v31 hf => ?_)
            refine lv_aload_n (pc := 272) hx hb dL_law_272 rfl (lv_at hl 0 rfl) ?_
            refine lv_iload_n (pc := 273) hx hb dL_law_273 rfl (lv_at hl 3 rfl) ?_
            refine lv_iconst (pc := 274) (v := 2) hx hb dL_law_274 (by decide) ?_
            refine g_iadd (pc := 275) E dL_law_275 hf (fun v32 hf => ?_)
            refine g_sld (pc := 276) E Y hX hbl hbA dL_law_276 hf (fun v33 hf => ?_)
            refine g_callL (pc := 277) E Y hLK LK_good 0 S_0 V_7 o_X7_become k_22 [.int v31, .int v33] rfl rfl ⟨Nat.le_of_ble_eq_true rfl, Nat.le_of_ble_eq_true rfl⟩ hl.1 (rest := []) rfl (Nat.le_of_ble_eq_true rfl) dL_law_277 (fun z hz => m_X7_become_0 hz) hf (fun v34 μ35 H locs hf Y => ?_)
            refine lv_pop (pc := 280) hx hb dL_law_280 rfl ?_
            refine lv_aload_n (pc := 281) hx hb dL_law_281 rfl (lv_at hl 2 rfl) ?_
            refine lv_aload_n (pc := 282) hx hb dL_law_282 rfl (lv_at hl 0 rfl) ?_
            refine lv_iload_n (pc := 283) hx hb dL_law_283 rfl (lv_at hl 3 rfl) ?_
            refine lv_iconst (pc := 284) (v := 1) hx hb dL_law_284 (by decide) ?_
            refine g_iadd (pc := 285) E dL_law_285 hf (fun v36 hf => ?_)
            refine g_sld (pc := 286) E Y hX hbl hbA dL_law_286 hf (fun v37 hf => ?_)
            refine lv_aload_n (pc := 287) hx hb dL_law_287 rfl (lv_at hl 0 rfl) ?_
            refine lv_iload_n (pc := 288) hx hb dL_law_288 rfl (lv_at hl 3 rfl) ?_
            refine lv_iconst (pc := 289) (v := 2) hx hb dL_law_289 (by decide) ?_
            refine g_iadd (pc := 290) E dL_law_290 hf (fun v38 hf => ?_)
            refine g_sld (pc := 291) E Y hX hbl hbA dL_law_291 hf (fun v39 hf => ?_)
            refine g_callL (pc := 292) E Y hLK LK_good 53 S_53 V_8 o_X8_become k_25 [.int v37, .int v39] rfl rfl ⟨Nat.le_of_ble_eq_true rfl, Nat.le_of_ble_eq_true rfl⟩ hl.1 (rest := []) rfl (Nat.le_of_ble_eq_true rfl) dL_law_292 (fun z hz => m_X8_become_53 hz) hf (fun v40 μ41 H locs hf Y => ?_)
            refine lv_pop (pc := 295) hx hb dL_law_295 rfl ?_
            refine lv_goto (pc := 296) (tgt := 1434) hx hb dL_law_296 (by decide) ?_
            refine g_iinc (pc := 1434) E (fun v42 => [(3, .int v42), (0, .ref b), (1, .ref (ad 0)), (2, .ref (ad 53))]) dL_law_1434 hl (k := 3) rfl (t := 6) (by decide) (by decide) (fun _ => rfl) hf (fun v42 hf ls hl => ?_)
            refine lv_goto (pc := 1437) (tgt := 18) hx hb dL_law_1437 (by decide) ?_
            exact ih _ _ _ _ _ hf Y (lv_sub hl [1, 2, 3, 0] rfl)
          · rw [if_neg hc] at hf
            have n_2 := ti_ne (n := 2) (by decide) hc
            clear hc
            by_cases hc : v3 = 3
            · rw [if_pos hc] at hf
              unfold fc_law_3 at hf
              refine g_tabIn (pc := 33) (tgt := 299) E dL_law_33 hc (n := 3) (by decide) (by decide) (by decide) rfl (by decide) ?_
              refine lv_aload_n (pc := 299) hx hb dL_law_299 rfl (lv_at hl 1 rfl) ?_
              refine lv_aload_n (pc := 300) hx hb dL_law_300 rfl (lv_at hl 0 rfl) ?_
              refine lv_iload_n (pc := 301) hx hb dL_law_301 rfl (lv_at hl 3 rfl) ?_
              refine lv_iconst (pc := 302) (v := 1) hx hb dL_law_302 (by decide) ?_
              refine g_iadd (pc := 303) E dL_law_303 hf (fun v43 hf => ?_)
              refine g_sld (pc := 304) E Y hX hbl hbA dL_law_304 hf (fun v44 hf => ?_)
              refine lv_aload_n (pc := 305) hx hb dL_law_305 rfl (lv_at hl 0 rfl) ?_
              refine lv_iload_n (pc := 306) hx hb dL_law_306 rfl (lv_at hl 3 rfl) ?_
              refine lv_iconst (pc := 307) (v := 2) hx hb dL_law_307 (by decide) ?_
              refine g_iadd (pc := 308) E dL_law_308 hf (fun v45 hf => ?_)
              refine g_sld (pc := 309) E Y hX hbl hbA dL_law_309 hf (fun v46 hf => ?_)
              refine g_callL (pc := 310) E Y hLK LK_good 0 S_0 V_7 o_X7_as k_26 [.int v44, .int v46] rfl rfl ⟨Nat.le_of_ble_eq_true rfl, Nat.le_of_ble_eq_true rfl⟩ hl.1 (rest := []) rfl (Nat.le_of_ble_eq_true rfl) dL_law_310 (fun z hz => m_X7_as_0 hz) hf (fun v47 μ48 H locs hf Y => ?_)
              refine lv_pop (pc := 313) hx hb dL_law_313 rfl ?_
              refine lv_aload_n (pc := 314) hx hb dL_law_314 rfl (lv_at hl 2 rfl) ?_
              refine lv_aload_n (pc := 315) hx hb dL_law_315 rfl (lv_at hl 0 rfl) ?_
              refine lv_iload_n (pc := 316) hx hb dL_law_316 rfl (lv_at hl 3 rfl) ?_
              refine lv_iconst (pc := 317) (v := 1) hx hb dL_law_317 (by decide) ?_
              refine g_iadd (pc := 318) E dL_law_318 hf (fun v49 hf => ?_)
              refine g_sld (pc := 319) E Y hX hbl hbA dL_law_319 hf (fun v50 hf => ?_)
              refine lv_aload_n (pc := 320) hx hb dL_law_320 rfl (lv_at hl 0 rfl) ?_
              refine lv_iload_n (pc := 321) hx hb dL_law_321 rfl (lv_at hl 3 rfl) ?_
              refine lv_iconst (pc := 322) (v := 2) hx hb dL_law_322 (by decide) ?_
              refine g_iadd (pc := 323) E dL_law_323 hf (fun v51 hf => ?_)
              refine g_sld (pc := 324) E Y hX hbl hbA dL_law_324 hf (fun v52 hf => ?_)
              refine g_callL (pc := 325) E Y hLK LK_good 53 S_53 V_8 o_X8_as k_29 [.int v50, .int v52] rfl rfl ⟨Nat.le_of_ble_eq_true rfl, Nat.le_of_ble_eq_true rfl⟩ hl.1 (rest := []) rfl (Nat.le_of_ble_eq_true rfl) dL_law_325 (fun z hz => m_X8_as_53 hz) hf (fun v53 μ54 H locs hf Y => ?_)
              refine lv_pop (pc := 328) hx hb dL_law_328 rfl ?_
              refine lv_goto (pc := 329) (tgt := 1434) hx hb dL_law_329 (by decide) ?_
              refine g_iinc (pc := 1434) E (fun v55 => [(3, .int v55), (0, .ref b), (1, .ref (ad 0)), (2, .ref (ad 53))]) dL_law_1434 hl (k := 3) rfl (t := 6) (by decide) (by decide) (fun _ => rfl) hf (fun v55 hf ls hl => ?_)
              refine lv_goto (pc := 1437) (tgt := 18) hx hb dL_law_1437 (by decide) ?_
              exact ih _ _ _ _ _ hf Y (lv_sub hl [1, 2, 3, 0] rfl)
            · rw [if_neg hc] at hf
              have n_3 := ti_ne (n := 3) (by decide) hc
              clear hc
              by_cases hc : v3 = 4
              · rw [if_pos hc] at hf
                unfold fc_law_4 at hf
                refine g_tabIn (pc := 33) (tgt := 332) E dL_law_33 hc (n := 4) (by decide) (by decide) (by decide) rfl (by decide) ?_
                refine lv_aload_n (pc := 332) hx hb dL_law_332 rfl (lv_at hl 1 rfl) ?_
                refine lv_aload_n (pc := 333) hx hb dL_law_333 rfl (lv_at hl 0 rfl) ?_
                refine lv_iload_n (pc := 334) hx hb dL_law_334 rfl (lv_at hl 3 rfl) ?_
                refine lv_iconst (pc := 335) (v := 1) hx hb dL_law_335 (by decide) ?_
                refine g_iadd (pc := 336) E dL_law_336 hf (fun v56 hf => ?_)
                refine g_sld (pc := 337) E Y hX hbl hbA dL_law_337 hf (fun v57 hf => ?_)
                refine lv_aload_n (pc := 338) hx hb dL_law_338 rfl (lv_at hl 0 rfl) ?_
                refine lv_iload_n (pc := 339) hx hb dL_law_339 rfl (lv_at hl 3 rfl) ?_
                refine lv_iconst (pc := 340) (v := 2) hx hb dL_law_340 (by decide) ?_
                refine g_iadd (pc := 341) E dL_law_341 hf (fun v58 hf => ?_)
                refine g_sld (pc := 342) E Y hX hbl hbA dL_law_342 hf (fun v59 hf => ?_)
                refine g_callL (pc := 343) E Y hLK LK_good 0 S_0 V_7 o_X7_weighs k_30 [.int v57, .int v59] rfl rfl ⟨Nat.le_of_ble_eq_true rfl, Nat.le_of_ble_eq_true rfl⟩ hl.1 (rest := []) rfl (Nat.le_of_ble_eq_true rfl) dL_law_343 (fun z hz => m_X7_weighs_0 hz) hf (fun v60 μ61 H locs hf Y => ?_)
                refine lv_pop (pc := 346) hx hb dL_law_346 rfl ?_
                refine lv_aload_n (pc := 347) hx hb dL_law_347 rfl (lv_at hl 2 rfl) ?_
                refine lv_aload_n (pc := 348) hx hb dL_law_348 rfl (lv_at hl 0 rfl) ?_
                refine lv_iload_n (pc := 349) hx hb dL_law_349 rfl (lv_at hl 3 rfl) ?_
                refine lv_iconst (pc := 350) (v := 1) hx hb dL_law_350 (by decide) ?_
                refine g_iadd (pc := 351) E dL_law_351 hf (fun v62 hf => ?_)
                refine g_sld (pc := 352) E Y hX hbl hbA dL_law_352 hf (fun v63 hf => ?_)
                refine lv_aload_n (pc := 353) hx hb dL_law_353 rfl (lv_at hl 0 rfl) ?_
                refine lv_iload_n (pc := 354) hx hb dL_law_354 rfl (lv_at hl 3 rfl) ?_
                refine lv_iconst (pc := 355) (v := 2) hx hb dL_law_355 (by decide) ?_
                refine g_iadd (pc := 356) E dL_law_356 hf (fun v64 hf => ?_)
                refine g_sld (pc := 357) E Y hX hbl hbA dL_law_357 hf (fun v65 hf => ?_)
                refine g_callL (pc := 358) E Y hLK LK_good 53 S_53 V_8 o_X8_weighs k_33 [.int v63, .int v65] rfl rfl ⟨Nat.le_of_ble_eq_true rfl, Nat.le_of_ble_eq_true rfl⟩ hl.1 (rest := []) rfl (Nat.le_of_ble_eq_true rfl) dL_law_358 (fun z hz => m_X8_weighs_53 hz) hf (fun v66 μ67 H locs hf Y => ?_)
                refine lv_pop (pc := 361) hx hb dL_law_361 rfl ?_
                refine lv_goto (pc := 362) (tgt := 1434) hx hb dL_law_362 (by decide) ?_
                refine g_iinc (pc := 1434) E (fun v68 => [(3, .int v68), (0, .ref b), (1, .ref (ad 0)), (2, .ref (ad 53))]) dL_law_1434 hl (k := 3) rfl (t := 6) (by decide) (by decide) (fun _ => rfl) hf (fun v68 hf ls hl => ?_)
                refine lv_goto (pc := 1437) (tgt := 18) hx hb dL_law_1437 (by decide) ?_
                exact ih _ _ _ _ _ hf Y (lv_sub hl [1, 2, 3, 0] rfl)
              · rw [if_neg hc] at hf
                have n_4 := ti_ne (n := 4) (by decide) hc
                clear hc
                by_cases hc : v3 = 5
                · rw [if_pos hc] at hf
                  unfold fc_law_5 at hf
                  refine g_tabIn (pc := 33) (tgt := 365) E dL_law_33 hc (n := 5) (by decide) (by decide) (by decide) rfl (by decide) ?_
                  refine lv_aload_n (pc := 365) hx hb dL_law_365 rfl (lv_at hl 1 rfl) ?_
                  refine lv_aload_n (pc := 366) hx hb dL_law_366 rfl (lv_at hl 0 rfl) ?_
                  refine lv_iload_n (pc := 367) hx hb dL_law_367 rfl (lv_at hl 3 rfl) ?_
                  refine lv_iconst (pc := 368) (v := 1) hx hb dL_law_368 (by decide) ?_
                  refine g_iadd (pc := 369) E dL_law_369 hf (fun v69 hf => ?_)
                  refine g_sld (pc := 370) E Y hX hbl hbA dL_law_370 hf (fun v70 hf => ?_)
                  refine lv_aload_n (pc := 371) hx hb dL_law_371 rfl (lv_at hl 0 rfl) ?_
                  refine lv_iload_n (pc := 372) hx hb dL_law_372 rfl (lv_at hl 3 rfl) ?_
                  refine lv_iconst (pc := 373) (v := 2) hx hb dL_law_373 (by decide) ?_
                  refine g_iadd (pc := 374) E dL_law_374 hf (fun v71 hf => ?_)
                  refine g_sld (pc := 375) E Y hX hbl hbA dL_law_375 hf (fun v72 hf => ?_)
                  refine g_callL (pc := 376) E Y hLK LK_good 0 S_0 V_7 o_X7_runner k_34 [.int v70, .int v72] rfl rfl ⟨Nat.le_of_ble_eq_true rfl, Nat.le_of_ble_eq_true rfl⟩ hl.1 (rest := []) rfl (Nat.le_of_ble_eq_true rfl) dL_law_376 (fun z hz => m_X7_runner_0 hz) hf (fun v73 μ74 H locs hf Y => ?_)
                  refine lv_pop (pc := 379) hx hb dL_law_379 rfl ?_
                  refine lv_aload_n (pc := 380) hx hb dL_law_380 rfl (lv_at hl 2 rfl) ?_
                  refine lv_aload_n (pc := 381) hx hb dL_law_381 rfl (lv_at hl 0 rfl) ?_
                  refine lv_iload_n (pc := 382) hx hb dL_law_382 rfl (lv_at hl 3 rfl) ?_
                  refine lv_iconst (pc := 383) (v := 1) hx hb dL_law_383 (by decide) ?_
                  refine g_iadd (pc := 384) E dL_law_384 hf (fun v75 hf => ?_)
                  refine g_sld (pc := 385) E Y hX hbl hbA dL_law_385 hf (fun v76 hf => ?_)
                  refine lv_aload_n (pc := 386) hx hb dL_law_386 rfl (lv_at hl 0 rfl) ?_
                  refine lv_iload_n (pc := 387) hx hb dL_law_387 rfl (lv_at hl 3 rfl) ?_
                  refine lv_iconst (pc := 388) (v := 2) hx hb dL_law_388 (by decide) ?_
                  refine g_iadd (pc := 389) E dL_law_389 hf (fun v77 hf => ?_)
                  refine g_sld (pc := 390) E Y hX hbl hbA dL_law_390 hf (fun v78 hf => ?_)
                  refine g_callL (pc := 391) E Y hLK LK_good 53 S_53 V_8 o_X8_runner k_37 [.int v76, .int v78] rfl rfl ⟨Nat.le_of_ble_eq_true rfl, Nat.le_of_ble_eq_true rfl⟩ hl.1 (rest := []) rfl (Nat.le_of_ble_eq_true rfl) dL_law_391 (fun z hz => m_X8_runner_53 hz) hf (fun v79 μ80 H locs hf Y => ?_)
                  refine lv_pop (pc := 394) hx hb dL_law_394 rfl ?_
                  refine lv_goto (pc := 395) (tgt := 1434) hx hb dL_law_395 (by decide) ?_
                  refine g_iinc (pc := 1434) E (fun v81 => [(3, .int v81), (0, .ref b), (1, .ref (ad 0)), (2, .ref (ad 53))]) dL_law_1434 hl (k := 3) rfl (t := 6) (by decide) (by decide) (fun _ => rfl) hf (fun v81 hf ls hl => ?_)
                  refine lv_goto (pc := 1437) (tgt := 18) hx hb dL_law_1437 (by decide) ?_
                  exact ih _ _ _ _ _ hf Y (lv_sub hl [1, 2, 3, 0] rfl)
                · rw [if_neg hc] at hf
                  have n_5 := ti_ne (n := 5) (by decide) hc
                  clear hc
                  by_cases hc : v3 = 6
                  · rw [if_pos hc] at hf
                    unfold fc_law_6 at hf
                    refine g_tabIn (pc := 33) (tgt := 398) E dL_law_33 hc (n := 6) (by decide) (by decide) (by decide) rfl (by decide) ?_
                    refine lv_aload_n (pc := 398) hx hb dL_law_398 rfl (lv_at hl 1 rfl) ?_
                    refine lv_aload_n (pc := 399) hx hb dL_law_399 rfl (lv_at hl 0 rfl) ?_
                    refine lv_iload_n (pc := 400) hx hb dL_law_400 rfl (lv_at hl 3 rfl) ?_
                    refine lv_iconst (pc := 401) (v := 1) hx hb dL_law_401 (by decide) ?_
                    refine g_iadd (pc := 402) E dL_law_402 hf (fun v82 hf => ?_)
                    refine g_sld (pc := 403) E Y hX hbl hbA dL_law_403 hf (fun v83 hf => ?_)
                    refine lv_aload_n (pc := 404) hx hb dL_law_404 rfl (lv_at hl 0 rfl) ?_
                    refine lv_iload_n (pc := 405) hx hb dL_law_405 rfl (lv_at hl 3 rfl) ?_
                    refine lv_iconst (pc := 406) (v := 2) hx hb dL_law_406 (by decide) ?_
                    refine g_iadd (pc := 407) E dL_law_407 hf (fun v84 hf => ?_)
                    refine g_sld (pc := 408) E Y hX hbl hbA dL_law_408 hf (fun v85 hf => ?_)
                    refine g_callL (pc := 409) E Y hLK LK_good 0 S_0 V_7 o_X7_runnerIs k_38 [.int v83, .int v85] rfl rfl ⟨Nat.le_of_ble_eq_true rfl, Nat.le_of_ble_eq_true rfl⟩ hl.1 (rest := []) rfl (Nat.le_of_ble_eq_true rfl) dL_law_409 (fun z hz => m_X7_runnerIs_0 hz) hf (fun v86 μ87 H locs hf Y => ?_)
                    refine lv_pop (pc := 412) hx hb dL_law_412 rfl ?_
                    refine lv_aload_n (pc := 413) hx hb dL_law_413 rfl (lv_at hl 2 rfl) ?_
                    refine lv_aload_n (pc := 414) hx hb dL_law_414 rfl (lv_at hl 0 rfl) ?_
                    refine lv_iload_n (pc := 415) hx hb dL_law_415 rfl (lv_at hl 3 rfl) ?_
                    refine lv_iconst (pc := 416) (v := 1) hx hb dL_law_416 (by decide) ?_
                    refine g_iadd (pc := 417) E dL_law_417 hf (fun v88 hf => ?_)
                    refine g_sld (pc := 418) E Y hX hbl hbA dL_law_418 hf (fun v89 hf => ?_)
                    refine lv_aload_n (pc := 419) hx hb dL_law_419 rfl (lv_at hl 0 rfl) ?_
                    refine lv_iload_n (pc := 420) hx hb dL_law_420 rfl (lv_at hl 3 rfl) ?_
                    refine lv_iconst (pc := 421) (v := 2) hx hb dL_law_421 (by decide) ?_
                    refine g_iadd (pc := 422) E dL_law_422 hf (fun v90 hf => ?_)
                    refine g_sld (pc := 423) E Y hX hbl hbA dL_law_423 hf (fun v91 hf => ?_)
                    refine g_callL (pc := 424) E Y hLK LK_good 53 S_53 V_8 o_X8_runnerIs k_41 [.int v89, .int v91] rfl rfl ⟨Nat.le_of_ble_eq_true rfl, Nat.le_of_ble_eq_true rfl⟩ hl.1 (rest := []) rfl (Nat.le_of_ble_eq_true rfl) dL_law_424 (fun z hz => m_X8_runnerIs_53 hz) hf (fun v92 μ93 H locs hf Y => ?_)
                    refine lv_pop (pc := 427) hx hb dL_law_427 rfl ?_
                    refine lv_goto (pc := 428) (tgt := 1434) hx hb dL_law_428 (by decide) ?_
                    refine g_iinc (pc := 1434) E (fun v94 => [(3, .int v94), (0, .ref b), (1, .ref (ad 0)), (2, .ref (ad 53))]) dL_law_1434 hl (k := 3) rfl (t := 6) (by decide) (by decide) (fun _ => rfl) hf (fun v94 hf ls hl => ?_)
                    refine lv_goto (pc := 1437) (tgt := 18) hx hb dL_law_1437 (by decide) ?_
                    exact ih _ _ _ _ _ hf Y (lv_sub hl [1, 2, 3, 0] rfl)
                  · rw [if_neg hc] at hf
                    have n_6 := ti_ne (n := 6) (by decide) hc
                    clear hc
                    by_cases hc : v3 = 7
                    · rw [if_pos hc] at hf
                      unfold fc_law_7 at hf
                      refine g_tabIn (pc := 33) (tgt := 431) E dL_law_33 hc (n := 7) (by decide) (by decide) (by decide) rfl (by decide) ?_
                      refine lv_aload_n (pc := 431) hx hb dL_law_431 rfl (lv_at hl 1 rfl) ?_
                      refine lv_aload_n (pc := 432) hx hb dL_law_432 rfl (lv_at hl 0 rfl) ?_
                      refine lv_iload_n (pc := 433) hx hb dL_law_433 rfl (lv_at hl 3 rfl) ?_
                      refine lv_iconst (pc := 434) (v := 1) hx hb dL_law_434 (by decide) ?_
                      refine g_iadd (pc := 435) E dL_law_435 hf (fun v95 hf => ?_)
                      refine g_sld (pc := 436) E Y hX hbl hbA dL_law_436 hf (fun v96 hf => ?_)
                      refine lv_aload_n (pc := 437) hx hb dL_law_437 rfl (lv_at hl 0 rfl) ?_
                      refine lv_iload_n (pc := 438) hx hb dL_law_438 rfl (lv_at hl 3 rfl) ?_
                      refine lv_iconst (pc := 439) (v := 2) hx hb dL_law_439 (by decide) ?_
                      refine g_iadd (pc := 440) E dL_law_440 hf (fun v97 hf => ?_)
                      refine g_sld (pc := 441) E Y hX hbl hbA dL_law_441 hf (fun v98 hf => ?_)
                      refine g_callL (pc := 442) E Y hLK LK_good 0 S_0 V_7 o_X7_leads k_42 [.int v96, .int v98] rfl rfl ⟨Nat.le_of_ble_eq_true rfl, Nat.le_of_ble_eq_true rfl⟩ hl.1 (rest := []) rfl (Nat.le_of_ble_eq_true rfl) dL_law_442 (fun z hz => m_X7_leads_0 hz) hf (fun v99 μ100 H locs hf Y => ?_)
                      refine lv_pop (pc := 445) hx hb dL_law_445 rfl ?_
                      refine lv_aload_n (pc := 446) hx hb dL_law_446 rfl (lv_at hl 2 rfl) ?_
                      refine lv_aload_n (pc := 447) hx hb dL_law_447 rfl (lv_at hl 0 rfl) ?_
                      refine lv_iload_n (pc := 448) hx hb dL_law_448 rfl (lv_at hl 3 rfl) ?_
                      refine lv_iconst (pc := 449) (v := 1) hx hb dL_law_449 (by decide) ?_
                      refine g_iadd (pc := 450) E dL_law_450 hf (fun v101 hf => ?_)
                      refine g_sld (pc := 451) E Y hX hbl hbA dL_law_451 hf (fun v102 hf => ?_)
                      refine lv_aload_n (pc := 452) hx hb dL_law_452 rfl (lv_at hl 0 rfl) ?_
                      refine lv_iload_n (pc := 453) hx hb dL_law_453 rfl (lv_at hl 3 rfl) ?_
                      refine lv_iconst (pc := 454) (v := 2) hx hb dL_law_454 (by decide) ?_
                      refine g_iadd (pc := 455) E dL_law_455 hf (fun v103 hf => ?_)
                      refine g_sld (pc := 456) E Y hX hbl hbA dL_law_456 hf (fun v104 hf => ?_)
                      refine g_callL (pc := 457) E Y hLK LK_good 53 S_53 V_8 o_X8_leads k_45 [.int v102, .int v104] rfl rfl ⟨Nat.le_of_ble_eq_true rfl, Nat.le_of_ble_eq_true rfl⟩ hl.1 (rest := []) rfl (Nat.le_of_ble_eq_true rfl) dL_law_457 (fun z hz => m_X8_leads_53 hz) hf (fun v105 μ106 H locs hf Y => ?_)
                      refine lv_pop (pc := 460) hx hb dL_law_460 rfl ?_
                      refine lv_goto (pc := 461) (tgt := 1434) hx hb dL_law_461 (by decide) ?_
                      refine g_iinc (pc := 1434) E (fun v107 => [(3, .int v107), (0, .ref b), (1, .ref (ad 0)), (2, .ref (ad 53))]) dL_law_1434 hl (k := 3) rfl (t := 6) (by decide) (by decide) (fun _ => rfl) hf (fun v107 hf ls hl => ?_)
                      refine lv_goto (pc := 1437) (tgt := 18) hx hb dL_law_1437 (by decide) ?_
                      exact ih _ _ _ _ _ hf Y (lv_sub hl [1, 2, 3, 0] rfl)
                    · rw [if_neg hc] at hf
                      have n_7 := ti_ne (n := 7) (by decide) hc
                      clear hc
                      by_cases hc : v3 = 8
                      · rw [if_pos hc] at hf
                        unfold fc_law_8 at hf
                        refine g_tabIn (pc := 33) (tgt := 464) E dL_law_33 hc (n := 8) (by decide) (by decide) (by decide) rfl (by decide) ?_
                        refine lv_aload_n (pc := 464) hx hb dL_law_464 rfl (lv_at hl 1 rfl) ?_
                        refine lv_aload_n (pc := 465) hx hb dL_law_465 rfl (lv_at hl 0 rfl) ?_
                        refine lv_iload_n (pc := 466) hx hb dL_law_466 rfl (lv_at hl 3 rfl) ?_
                        refine lv_iconst (pc := 467) (v := 1) hx hb dL_law_467 (by decide) ?_
                        refine g_iadd (pc := 468) E dL_law_468 hf (fun v108 hf => ?_)
                        refine g_sld (pc := 469) E Y hX hbl hbA dL_law_469 hf (fun v109 hf => ?_)
                        refine lv_aload_n (pc := 470) hx hb dL_law_470 rfl (lv_at hl 0 rfl) ?_
                        refine lv_iload_n (pc := 471) hx hb dL_law_471 rfl (lv_at hl 3 rfl) ?_
                        refine lv_iconst (pc := 472) (v := 2) hx hb dL_law_472 (by decide) ?_
                        refine g_iadd (pc := 473) E dL_law_473 hf (fun v110 hf => ?_)
                        refine g_sld (pc := 474) E Y hX hbl hbA dL_law_474 hf (fun v111 hf => ?_)
                        refine g_callL (pc := 475) E Y hLK LK_good 0 S_0 V_7 o_X7_set k_46 [.int v109, .int v111] rfl rfl ⟨Nat.le_of_ble_eq_true rfl, Nat.le_of_ble_eq_true rfl⟩ hl.1 (rest := []) rfl (Nat.le_of_ble_eq_true rfl) dL_law_475 (fun z hz => m_X7_set_0 hz) hf (fun v112 μ113 H locs hf Y => ?_)
                        refine lv_pop (pc := 478) hx hb dL_law_478 rfl ?_
                        refine lv_aload_n (pc := 479) hx hb dL_law_479 rfl (lv_at hl 2 rfl) ?_
                        refine lv_aload_n (pc := 480) hx hb dL_law_480 rfl (lv_at hl 0 rfl) ?_
                        refine lv_iload_n (pc := 481) hx hb dL_law_481 rfl (lv_at hl 3 rfl) ?_
                        refine lv_iconst (pc := 482) (v := 1) hx hb dL_law_482 (by decide) ?_
                        refine g_iadd (pc := 483) E dL_law_483 hf (fun v114 hf => ?_)
                        refine g_sld (pc := 484) E Y hX hbl hbA dL_law_484 hf (fun v115 hf => ?_)
                        refine lv_aload_n (pc := 485) hx hb dL_law_485 rfl (lv_at hl 0 rfl) ?_
                        refine lv_iload_n (pc := 486) hx hb dL_law_486 rfl (lv_at hl 3 rfl) ?_
                        refine lv_iconst (pc := 487) (v := 2) hx hb dL_law_487 (by decide) ?_
                        refine g_iadd (pc := 488) E dL_law_488 hf (fun v116 hf => ?_)
                        refine g_sld (pc := 489) E Y hX hbl hbA dL_law_489 hf (fun v117 hf => ?_)
                        refine g_callL (pc := 490) E Y hLK LK_good 53 S_53 V_8 o_X8_set k_49 [.int v115, .int v117] rfl rfl ⟨Nat.le_of_ble_eq_true rfl, Nat.le_of_ble_eq_true rfl⟩ hl.1 (rest := []) rfl (Nat.le_of_ble_eq_true rfl) dL_law_490 (fun z hz => m_X8_set_53 hz) hf (fun v118 μ119 H locs hf Y => ?_)
                        refine lv_pop (pc := 493) hx hb dL_law_493 rfl ?_
                        refine lv_goto (pc := 494) (tgt := 1434) hx hb dL_law_494 (by decide) ?_
                        refine g_iinc (pc := 1434) E (fun v120 => [(3, .int v120), (0, .ref b), (1, .ref (ad 0)), (2, .ref (ad 53))]) dL_law_1434 hl (k := 3) rfl (t := 6) (by decide) (by decide) (fun _ => rfl) hf (fun v120 hf ls hl => ?_)
                        refine lv_goto (pc := 1437) (tgt := 18) hx hb dL_law_1437 (by decide) ?_
                        exact ih _ _ _ _ _ hf Y (lv_sub hl [1, 2, 3, 0] rfl)
                      · rw [if_neg hc] at hf
                        have n_8 := ti_ne (n := 8) (by decide) hc
                        clear hc
                        by_cases hc : v3 = 9
                        · rw [if_pos hc] at hf
                          unfold fc_law_9 at hf
                          refine g_tabIn (pc := 33) (tgt := 497) E dL_law_33 hc (n := 9) (by decide) (by decide) (by decide) rfl (by decide) ?_
                          refine lv_aload_n (pc := 497) hx hb dL_law_497 rfl (lv_at hl 1 rfl) ?_
                          refine lv_aload_n (pc := 498) hx hb dL_law_498 rfl (lv_at hl 0 rfl) ?_
                          refine lv_iload_n (pc := 499) hx hb dL_law_499 rfl (lv_at hl 3 rfl) ?_
                          refine lv_iconst (pc := 500) (v := 1) hx hb dL_law_500 (by decide) ?_
                          refine g_iadd (pc := 501) E dL_law_501 hf (fun v121 hf => ?_)
                          refine g_sld (pc := 502) E Y hX hbl hbA dL_law_502 hf (fun v122 hf => ?_)
                          refine lv_aload_n (pc := 503) hx hb dL_law_503 rfl (lv_at hl 0 rfl) ?_
                          refine lv_iload_n (pc := 504) hx hb dL_law_504 rfl (lv_at hl 3 rfl) ?_
                          refine lv_iconst (pc := 505) (v := 2) hx hb dL_law_505 (by decide) ?_
                          refine g_iadd (pc := 506) E dL_law_506 hf (fun v123 hf => ?_)
                          refine g_sld (pc := 507) E Y hX hbl hbA dL_law_507 hf (fun v124 hf => ?_)
                          refine g_callL (pc := 508) E Y hLK LK_good 0 S_0 V_7 o_X7_steal k_50 [.int v122, .int v124] rfl rfl ⟨Nat.le_of_ble_eq_true rfl, Nat.le_of_ble_eq_true rfl⟩ hl.1 (rest := []) rfl (Nat.le_of_ble_eq_true rfl) dL_law_508 (fun z hz => m_X7_steal_0 hz) hf (fun v125 μ126 H locs hf Y => ?_)
                          refine lv_pop (pc := 511) hx hb dL_law_511 rfl ?_
                          refine lv_aload_n (pc := 512) hx hb dL_law_512 rfl (lv_at hl 2 rfl) ?_
                          refine lv_aload_n (pc := 513) hx hb dL_law_513 rfl (lv_at hl 0 rfl) ?_
                          refine lv_iload_n (pc := 514) hx hb dL_law_514 rfl (lv_at hl 3 rfl) ?_
                          refine lv_iconst (pc := 515) (v := 1) hx hb dL_law_515 (by decide) ?_
                          refine g_iadd (pc := 516) E dL_law_516 hf (fun v127 hf => ?_)
                          refine g_sld (pc := 517) E Y hX hbl hbA dL_law_517 hf (fun v128 hf => ?_)
                          refine lv_aload_n (pc := 518) hx hb dL_law_518 rfl (lv_at hl 0 rfl) ?_
                          refine lv_iload_n (pc := 519) hx hb dL_law_519 rfl (lv_at hl 3 rfl) ?_
                          refine lv_iconst (pc := 520) (v := 2) hx hb dL_law_520 (by decide) ?_
                          refine g_iadd (pc := 521) E dL_law_521 hf (fun v129 hf => ?_)
                          refine g_sld (pc := 522) E Y hX hbl hbA dL_law_522 hf (fun v130 hf => ?_)
                          refine g_callL (pc := 523) E Y hLK LK_good 53 S_53 V_8 o_X8_steal k_53 [.int v128, .int v130] rfl rfl ⟨Nat.le_of_ble_eq_true rfl, Nat.le_of_ble_eq_true rfl⟩ hl.1 (rest := []) rfl (Nat.le_of_ble_eq_true rfl) dL_law_523 (fun z hz => m_X8_steal_53 hz) hf (fun v131 μ132 H locs hf Y => ?_)
                          refine lv_pop (pc := 526) hx hb dL_law_526 rfl ?_
                          refine lv_goto (pc := 527) (tgt := 1434) hx hb dL_law_527 (by decide) ?_
                          refine g_iinc (pc := 1434) E (fun v133 => [(3, .int v133), (0, .ref b), (1, .ref (ad 0)), (2, .ref (ad 53))]) dL_law_1434 hl (k := 3) rfl (t := 6) (by decide) (by decide) (fun _ => rfl) hf (fun v133 hf ls hl => ?_)
                          refine lv_goto (pc := 1437) (tgt := 18) hx hb dL_law_1437 (by decide) ?_
                          exact ih _ _ _ _ _ hf Y (lv_sub hl [1, 2, 3, 0] rfl)
                        · rw [if_neg hc] at hf
                          have n_9 := ti_ne (n := 9) (by decide) hc
                          clear hc
                          by_cases hc : v3 = 10
                          · rw [if_pos hc] at hf
                            unfold fc_law_10 at hf
                            refine g_tabIn (pc := 33) (tgt := 530) E dL_law_33 hc (n := 10) (by decide) (by decide) (by decide) rfl (by decide) ?_
                            refine lv_aload_n (pc := 530) hx hb dL_law_530 rfl (lv_at hl 1 rfl) ?_
                            refine lv_aload_n (pc := 531) hx hb dL_law_531 rfl (lv_at hl 0 rfl) ?_
                            refine lv_iload_n (pc := 532) hx hb dL_law_532 rfl (lv_at hl 3 rfl) ?_
                            refine lv_iconst (pc := 533) (v := 1) hx hb dL_law_533 (by decide) ?_
                            refine g_iadd (pc := 534) E dL_law_534 hf (fun v134 hf => ?_)
                            refine g_sld (pc := 535) E Y hX hbl hbA dL_law_535 hf (fun v135 hf => ?_)
                            refine g_callL (pc := 536) E Y hLK LK_good 0 S_0 V_7 o_X7_over k_54 [.int v135] rfl rfl ⟨Nat.le_of_ble_eq_true rfl, Nat.le_of_ble_eq_true rfl⟩ hl.1 (rest := []) rfl (Nat.le_of_ble_eq_true rfl) dL_law_536 (fun z hz => m_X7_over_0 hz) hf (fun v136 μ137 H locs hf Y => ?_)
                            refine lv_pop (pc := 539) hx hb dL_law_539 rfl ?_
                            refine lv_aload_n (pc := 540) hx hb dL_law_540 rfl (lv_at hl 2 rfl) ?_
                            refine lv_aload_n (pc := 541) hx hb dL_law_541 rfl (lv_at hl 0 rfl) ?_
                            refine lv_iload_n (pc := 542) hx hb dL_law_542 rfl (lv_at hl 3 rfl) ?_
                            refine lv_iconst (pc := 543) (v := 1) hx hb dL_law_543 (by decide) ?_
                            refine g_iadd (pc := 544) E dL_law_544 hf (fun v138 hf => ?_)
                            refine g_sld (pc := 545) E Y hX hbl hbA dL_law_545 hf (fun v139 hf => ?_)
                            refine g_callL (pc := 546) E Y hLK LK_good 53 S_53 V_8 o_X8_over k_58 [.int v139] rfl rfl ⟨Nat.le_of_ble_eq_true rfl, Nat.le_of_ble_eq_true rfl⟩ hl.1 (rest := []) rfl (Nat.le_of_ble_eq_true rfl) dL_law_546 (fun z hz => m_X8_over_53 hz) hf (fun v140 μ141 H locs hf Y => ?_)
                            refine lv_pop (pc := 549) hx hb dL_law_549 rfl ?_
                            refine lv_goto (pc := 550) (tgt := 1434) hx hb dL_law_550 (by decide) ?_
                            refine g_iinc (pc := 1434) E (fun v142 => [(3, .int v142), (0, .ref b), (1, .ref (ad 0)), (2, .ref (ad 53))]) dL_law_1434 hl (k := 3) rfl (t := 6) (by decide) (by decide) (fun _ => rfl) hf (fun v142 hf ls hl => ?_)
                            refine lv_goto (pc := 1437) (tgt := 18) hx hb dL_law_1437 (by decide) ?_
                            exact ih _ _ _ _ _ hf Y (lv_sub hl [1, 2, 3, 0] rfl)
                          · rw [if_neg hc] at hf
                            have n_10 := ti_ne (n := 10) (by decide) hc
                            clear hc
                            by_cases hc : v3 = 11
                            · rw [if_pos hc] at hf
                              unfold fc_law_11 at hf
                              refine g_tabIn (pc := 33) (tgt := 553) E dL_law_33 hc (n := 11) (by decide) (by decide) (by decide) rfl (by decide) ?_
                              refine lv_aload_n (pc := 553) hx hb dL_law_553 rfl (lv_at hl 1 rfl) ?_
                              refine lv_aload_n (pc := 554) hx hb dL_law_554 rfl (lv_at hl 0 rfl) ?_
                              refine lv_iload_n (pc := 555) hx hb dL_law_555 rfl (lv_at hl 3 rfl) ?_
                              refine lv_iconst (pc := 556) (v := 1) hx hb dL_law_556 (by decide) ?_
                              refine g_iadd (pc := 557) E dL_law_557 hf (fun v143 hf => ?_)
                              refine g_sld (pc := 558) E Y hX hbl hbA dL_law_558 hf (fun v144 hf => ?_)
                              refine g_i2l (pc := 559) E dL_law_559 hf (fun v145 hf => ?_)
                              refine lv_bipush (pc := 560) (v := 32) hx hb dL_law_560 (by decide) ?_
                              refine g_lshl (pc := 562) E dL_law_562 hf (fun v146 hf => ?_)
                              refine lv_aload_n (pc := 563) hx hb dL_law_563 rfl (lv_at hl 0 rfl) ?_
                              refine lv_iload_n (pc := 564) hx hb dL_law_564 rfl (lv_at hl 3 rfl) ?_
                              refine lv_iconst (pc := 565) (v := 2) hx hb dL_law_565 (by decide) ?_
                              refine g_iadd (pc := 566) E dL_law_566 hf (fun v147 hf => ?_)
                              refine g_sld (pc := 567) E Y hX hbl hbA dL_law_567 hf (fun v148 hf => ?_)
                              refine g_i2l (pc := 568) E dL_law_568 hf (fun v149 hf => ?_)
                              refine lv_ldc2 (pc := 569) (v := 4294967295) hx hb E.1.2.2.2.1 hCL dL_law_569 ?_
                              refine g_land (pc := 572) E dL_law_572 hf (fun v150 hf => ?_)
                              refine g_lor (pc := 573) E dL_law_573 hf (fun v151 hf => ?_)
                              refine lv_aload_n (pc := 574) hx hb dL_law_574 rfl (lv_at hl 0 rfl) ?_
                              refine lv_iload_n (pc := 575) hx hb dL_law_575 rfl (lv_at hl 3 rfl) ?_
                              refine lv_iconst (pc := 576) (v := 3) hx hb dL_law_576 (by decide) ?_
                              refine g_iadd (pc := 577) E dL_law_577 hf (fun v152 hf => ?_)
                              refine g_sld (pc := 578) E Y hX hbl hbA dL_law_578 hf (fun v153 hf => ?_)
                              refine g_callL (pc := 579) E Y hLK LK_good 0 S_0 V_7 o_X7_feed k_61 [.long v151, .int v153] rfl rfl ⟨Nat.le_of_ble_eq_true rfl, Nat.le_of_ble_eq_true rfl⟩ hl.1 (rest := []) rfl (Nat.le_of_ble_eq_true rfl) dL_law_579 (fun z hz => m_X7_feed_0 hz) hf (fun v154 μ155 H locs hf Y => ?_)
                              refine lv_pop (pc := 582) hx hb dL_law_582 rfl ?_
                              refine lv_aload_n (pc := 583) hx hb dL_law_583 rfl (lv_at hl 2 rfl) ?_
                              refine lv_aload_n (pc := 584) hx hb dL_law_584 rfl (lv_at hl 0 rfl) ?_
                              refine lv_iload_n (pc := 585) hx hb dL_law_585 rfl (lv_at hl 3 rfl) ?_
                              refine lv_iconst (pc := 586) (v := 1) hx hb dL_law_586 (by decide) ?_
                              refine g_iadd (pc := 587) E dL_law_587 hf (fun v156 hf => ?_)
                              refine g_sld (pc := 588) E Y hX hbl hbA dL_law_588 hf (fun v157 hf => ?_)
                              refine g_i2l (pc := 589) E dL_law_589 hf (fun v158 hf => ?_)
                              refine lv_bipush (pc := 590) (v := 32) hx hb dL_law_590 (by decide) ?_
                              refine g_lshl (pc := 592) E dL_law_592 hf (fun v159 hf => ?_)
                              refine lv_aload_n (pc := 593) hx hb dL_law_593 rfl (lv_at hl 0 rfl) ?_
                              refine lv_iload_n (pc := 594) hx hb dL_law_594 rfl (lv_at hl 3 rfl) ?_
                              refine lv_iconst (pc := 595) (v := 2) hx hb dL_law_595 (by decide) ?_
                              refine g_iadd (pc := 596) E dL_law_596 hf (fun v160 hf => ?_)
                              refine g_sld (pc := 597) E Y hX hbl hbA dL_law_597 hf (fun v161 hf => ?_)
                              refine g_i2l (pc := 598) E dL_law_598 hf (fun v162 hf => ?_)
                              refine lv_ldc2 (pc := 599) (v := 4294967295) hx hb E.1.2.2.2.1 hCL dL_law_599 ?_
                              refine g_land (pc := 602) E dL_law_602 hf (fun v163 hf => ?_)
                              refine g_lor (pc := 603) E dL_law_603 hf (fun v164 hf => ?_)
                              refine lv_aload_n (pc := 604) hx hb dL_law_604 rfl (lv_at hl 0 rfl) ?_
                              refine lv_iload_n (pc := 605) hx hb dL_law_605 rfl (lv_at hl 3 rfl) ?_
                              refine lv_iconst (pc := 606) (v := 3) hx hb dL_law_606 (by decide) ?_
                              refine g_iadd (pc := 607) E dL_law_607 hf (fun v165 hf => ?_)
                              refine g_sld (pc := 608) E Y hX hbl hbA dL_law_608 hf (fun v166 hf => ?_)
                              refine g_callL (pc := 609) E Y hLK LK_good 53 S_53 V_8 o_X8_feed k_65 [.long v164, .int v166] rfl rfl ⟨Nat.le_of_ble_eq_true rfl, Nat.le_of_ble_eq_true rfl⟩ hl.1 (rest := []) rfl (Nat.le_of_ble_eq_true rfl) dL_law_609 (fun z hz => m_X8_feed_53 hz) hf (fun v167 μ168 H locs hf Y => ?_)
                              refine lv_pop (pc := 612) hx hb dL_law_612 rfl ?_
                              refine lv_goto (pc := 613) (tgt := 1434) hx hb dL_law_613 (by decide) ?_
                              refine g_iinc (pc := 1434) E (fun v169 => [(3, .int v169), (0, .ref b), (1, .ref (ad 0)), (2, .ref (ad 53))]) dL_law_1434 hl (k := 3) rfl (t := 6) (by decide) (by decide) (fun _ => rfl) hf (fun v169 hf ls hl => ?_)
                              refine lv_goto (pc := 1437) (tgt := 18) hx hb dL_law_1437 (by decide) ?_
                              exact ih _ _ _ _ _ hf Y (lv_sub hl [1, 2, 3, 0] rfl)
                            · rw [if_neg hc] at hf
                              have n_11 := ti_ne (n := 11) (by decide) hc
                              clear hc
                              by_cases hc : v3 = 12
                              · rw [if_pos hc] at hf
                                unfold fc_law_12 at hf
                                refine g_tabIn (pc := 33) (tgt := 616) E dL_law_33 hc (n := 12) (by decide) (by decide) (by decide) rfl (by decide) ?_
                                refine lv_aload_n (pc := 616) hx hb dL_law_616 rfl (lv_at hl 1 rfl) ?_
                                refine lv_aload_n (pc := 617) hx hb dL_law_617 rfl (lv_at hl 0 rfl) ?_
                                refine lv_iload_n (pc := 618) hx hb dL_law_618 rfl (lv_at hl 3 rfl) ?_
                                refine lv_iconst (pc := 619) (v := 1) hx hb dL_law_619 (by decide) ?_
                                refine g_iadd (pc := 620) E dL_law_620 hf (fun v170 hf => ?_)
                                refine g_sld (pc := 621) E Y hX hbl hbA dL_law_621 hf (fun v171 hf => ?_)
                                refine g_callL (pc := 622) E Y hLK LK_good 0 S_0 V_7 o_X7_text k_66 [.int v171] rfl rfl ⟨Nat.le_of_ble_eq_true rfl, Nat.le_of_ble_eq_true rfl⟩ hl.1 (rest := []) rfl (Nat.le_of_ble_eq_true rfl) dL_law_622 (fun z hz => m_X7_text_0 hz) hf (fun v172 μ173 H locs hf Y => ?_)
                                refine lv_pop (pc := 625) hx hb dL_law_625 rfl ?_
                                refine lv_aload_n (pc := 626) hx hb dL_law_626 rfl (lv_at hl 2 rfl) ?_
                                refine lv_aload_n (pc := 627) hx hb dL_law_627 rfl (lv_at hl 0 rfl) ?_
                                refine lv_iload_n (pc := 628) hx hb dL_law_628 rfl (lv_at hl 3 rfl) ?_
                                refine lv_iconst (pc := 629) (v := 1) hx hb dL_law_629 (by decide) ?_
                                refine g_iadd (pc := 630) E dL_law_630 hf (fun v174 hf => ?_)
                                refine g_sld (pc := 631) E Y hX hbl hbA dL_law_631 hf (fun v175 hf => ?_)
                                refine g_callL (pc := 632) E Y hLK LK_good 53 S_53 V_8 o_X8_text k_69 [.int v175] rfl rfl ⟨Nat.le_of_ble_eq_true rfl, Nat.le_of_ble_eq_true rfl⟩ hl.1 (rest := []) rfl (Nat.le_of_ble_eq_true rfl) dL_law_632 (fun z hz => m_X8_text_53 hz) hf (fun v176 μ177 H locs hf Y => ?_)
                                refine lv_pop (pc := 635) hx hb dL_law_635 rfl ?_
                                refine lv_goto (pc := 636) (tgt := 1434) hx hb dL_law_636 (by decide) ?_
                                refine g_iinc (pc := 1434) E (fun v178 => [(3, .int v178), (0, .ref b), (1, .ref (ad 0)), (2, .ref (ad 53))]) dL_law_1434 hl (k := 3) rfl (t := 6) (by decide) (by decide) (fun _ => rfl) hf (fun v178 hf ls hl => ?_)
                                refine lv_goto (pc := 1437) (tgt := 18) hx hb dL_law_1437 (by decide) ?_
                                exact ih _ _ _ _ _ hf Y (lv_sub hl [1, 2, 3, 0] rfl)
                              · rw [if_neg hc] at hf
                                have n_12 := ti_ne (n := 12) (by decide) hc
                                clear hc
                                by_cases hc : v3 = 13
                                · rw [if_pos hc] at hf
                                  unfold fc_law_13 at hf
                                  refine g_tabIn (pc := 33) (tgt := 639) E dL_law_33 hc (n := 13) (by decide) (by decide) (by decide) rfl (by decide) ?_
                                  refine lv_aload_n (pc := 639) hx hb dL_law_639 rfl (lv_at hl 1 rfl) ?_
                                  refine lv_aload_n (pc := 640) hx hb dL_law_640 rfl (lv_at hl 0 rfl) ?_
                                  refine lv_iload_n (pc := 641) hx hb dL_law_641 rfl (lv_at hl 3 rfl) ?_
                                  refine lv_iconst (pc := 642) (v := 1) hx hb dL_law_642 (by decide) ?_
                                  refine g_iadd (pc := 643) E dL_law_643 hf (fun v179 hf => ?_)
                                  refine g_sld (pc := 644) E Y hX hbl hbA dL_law_644 hf (fun v180 hf => ?_)
                                  refine g_callL (pc := 645) E Y hLK LK_good 0 S_0 V_7 o_X7_untell k_70 [.int v180] rfl rfl ⟨Nat.le_of_ble_eq_true rfl, Nat.le_of_ble_eq_true rfl⟩ hl.1 (rest := []) rfl (Nat.le_of_ble_eq_true rfl) dL_law_645 (fun z hz => m_X7_untell_0 hz) hf (fun v181 μ182 H locs hf Y => ?_)
                                  refine lv_pop (pc := 648) hx hb dL_law_648 rfl ?_
                                  refine lv_aload_n (pc := 649) hx hb dL_law_649 rfl (lv_at hl 2 rfl) ?_
                                  refine lv_aload_n (pc := 650) hx hb dL_law_650 rfl (lv_at hl 0 rfl) ?_
                                  refine lv_iload_n (pc := 651) hx hb dL_law_651 rfl (lv_at hl 3 rfl) ?_
                                  refine lv_iconst (pc := 652) (v := 1) hx hb dL_law_652 (by decide) ?_
                                  refine g_iadd (pc := 653) E dL_law_653 hf (fun v183 hf => ?_)
                                  refine g_sld (pc := 654) E Y hX hbl hbA dL_law_654 hf (fun v184 hf => ?_)
                                  refine g_callL (pc := 655) E Y hLK LK_good 53 S_53 V_8 o_X8_untell k_73 [.int v184] rfl rfl ⟨Nat.le_of_ble_eq_true rfl, Nat.le_of_ble_eq_true rfl⟩ hl.1 (rest := []) rfl (Nat.le_of_ble_eq_true rfl) dL_law_655 (fun z hz => m_X8_untell_53 hz) hf (fun v185 μ186 H locs hf Y => ?_)
                                  refine lv_pop (pc := 658) hx hb dL_law_658 rfl ?_
                                  refine lv_goto (pc := 659) (tgt := 1434) hx hb dL_law_659 (by decide) ?_
                                  refine g_iinc (pc := 1434) E (fun v187 => [(3, .int v187), (0, .ref b), (1, .ref (ad 0)), (2, .ref (ad 53))]) dL_law_1434 hl (k := 3) rfl (t := 6) (by decide) (by decide) (fun _ => rfl) hf (fun v187 hf ls hl => ?_)
                                  refine lv_goto (pc := 1437) (tgt := 18) hx hb dL_law_1437 (by decide) ?_
                                  exact ih _ _ _ _ _ hf Y (lv_sub hl [1, 2, 3, 0] rfl)
                                · rw [if_neg hc] at hf
                                  have n_13 := ti_ne (n := 13) (by decide) hc
                                  clear hc
                                  by_cases hc : v3 = 14
                                  · rw [if_pos hc] at hf
                                    unfold fc_law_14 at hf
                                    refine g_tabIn (pc := 33) (tgt := 662) E dL_law_33 hc (n := 14) (by decide) (by decide) (by decide) rfl (by decide) ?_
                                    refine lv_aload_n (pc := 662) hx hb dL_law_662 rfl (lv_at hl 1 rfl) ?_
                                    refine lv_aload_n (pc := 663) hx hb dL_law_663 rfl (lv_at hl 0 rfl) ?_
                                    refine lv_iload_n (pc := 664) hx hb dL_law_664 rfl (lv_at hl 3 rfl) ?_
                                    refine lv_iconst (pc := 665) (v := 1) hx hb dL_law_665 (by decide) ?_
                                    refine g_iadd (pc := 666) E dL_law_666 hf (fun v188 hf => ?_)
                                    refine g_sld (pc := 667) E Y hX hbl hbA dL_law_667 hf (fun v189 hf => ?_)
                                    refine lv_aload_n (pc := 668) hx hb dL_law_668 rfl (lv_at hl 0 rfl) ?_
                                    refine lv_iload_n (pc := 669) hx hb dL_law_669 rfl (lv_at hl 3 rfl) ?_
                                    refine lv_iconst (pc := 670) (v := 2) hx hb dL_law_670 (by decide) ?_
                                    refine g_iadd (pc := 671) E dL_law_671 hf (fun v190 hf => ?_)
                                    refine g_sld (pc := 672) E Y hX hbl hbA dL_law_672 hf (fun v191 hf => ?_)
                                    refine lv_aload_n (pc := 673) hx hb dL_law_673 rfl (lv_at hl 0 rfl) ?_
                                    refine lv_iload_n (pc := 674) hx hb dL_law_674 rfl (lv_at hl 3 rfl) ?_
                                    refine lv_iconst (pc := 675) (v := 3) hx hb dL_law_675 (by decide) ?_
                                    refine g_iadd (pc := 676) E dL_law_676 hf (fun v192 hf => ?_)
                                    refine g_sld (pc := 677) E Y hX hbl hbA dL_law_677 hf (fun v193 hf => ?_)
                                    refine lv_aload_n (pc := 678) hx hb dL_law_678 rfl (lv_at hl 0 rfl) ?_
                                    refine lv_iload_n (pc := 679) hx hb dL_law_679 rfl (lv_at hl 3 rfl) ?_
                                    refine lv_iconst (pc := 680) (v := 4) hx hb dL_law_680 (by decide) ?_
                                    refine g_iadd (pc := 681) E dL_law_681 hf (fun v194 hf => ?_)
                                    refine g_sld (pc := 682) E Y hX hbl hbA dL_law_682 hf (fun v195 hf => ?_)
                                    refine g_callL (pc := 683) E Y hLK LK_good 0 S_0 V_7 o_X7_law k_74 [.int v189, .int v191, .int v193, .int v195] rfl rfl ⟨Nat.le_of_ble_eq_true rfl, Nat.le_of_ble_eq_true rfl⟩ hl.1 (rest := []) rfl (Nat.le_of_ble_eq_true rfl) dL_law_683 (fun z hz => m_X7_law_0 hz) hf (fun v196 μ197 H locs hf Y => ?_)
                                    refine lv_pop (pc := 686) hx hb dL_law_686 rfl ?_
                                    refine lv_aload_n (pc := 687) hx hb dL_law_687 rfl (lv_at hl 2 rfl) ?_
                                    refine lv_aload_n (pc := 688) hx hb dL_law_688 rfl (lv_at hl 0 rfl) ?_
                                    refine lv_iload_n (pc := 689) hx hb dL_law_689 rfl (lv_at hl 3 rfl) ?_
                                    refine lv_iconst (pc := 690) (v := 1) hx hb dL_law_690 (by decide) ?_
                                    refine g_iadd (pc := 691) E dL_law_691 hf (fun v198 hf => ?_)
                                    refine g_sld (pc := 692) E Y hX hbl hbA dL_law_692 hf (fun v199 hf => ?_)
                                    refine lv_aload_n (pc := 693) hx hb dL_law_693 rfl (lv_at hl 0 rfl) ?_
                                    refine lv_iload_n (pc := 694) hx hb dL_law_694 rfl (lv_at hl 3 rfl) ?_
                                    refine lv_iconst (pc := 695) (v := 2) hx hb dL_law_695 (by decide) ?_
                                    refine g_iadd (pc := 696) E dL_law_696 hf (fun v200 hf => ?_)
                                    refine g_sld (pc := 697) E Y hX hbl hbA dL_law_697 hf (fun v201 hf => ?_)
                                    refine lv_aload_n (pc := 698) hx hb dL_law_698 rfl (lv_at hl 0 rfl) ?_
                                    refine lv_iload_n (pc := 699) hx hb dL_law_699 rfl (lv_at hl 3 rfl) ?_
                                    refine lv_iconst (pc := 700) (v := 3) hx hb dL_law_700 (by decide) ?_
                                    refine g_iadd (pc := 701) E dL_law_701 hf (fun v202 hf => ?_)
                                    refine g_sld (pc := 702) E Y hX hbl hbA dL_law_702 hf (fun v203 hf => ?_)
                                    refine lv_aload_n (pc := 703) hx hb dL_law_703 rfl (lv_at hl 0 rfl) ?_
                                    refine lv_iload_n (pc := 704) hx hb dL_law_704 rfl (lv_at hl 3 rfl) ?_
                                    refine lv_iconst (pc := 705) (v := 4) hx hb dL_law_705 (by decide) ?_
                                    refine g_iadd (pc := 706) E dL_law_706 hf (fun v204 hf => ?_)
                                    refine g_sld (pc := 707) E Y hX hbl hbA dL_law_707 hf (fun v205 hf => ?_)
                                    refine g_callL (pc := 708) E Y hLK LK_good 53 S_53 V_8 o_X8_law k_78 [.int v199, .int v201, .int v203, .int v205] rfl rfl ⟨Nat.le_of_ble_eq_true rfl, Nat.le_of_ble_eq_true rfl⟩ hl.1 (rest := []) rfl (Nat.le_of_ble_eq_true rfl) dL_law_708 (fun z hz => m_X8_law_53 hz) hf (fun v206 μ207 H locs hf Y => ?_)
                                    refine lv_pop (pc := 711) hx hb dL_law_711 rfl ?_
                                    refine lv_goto (pc := 712) (tgt := 1434) hx hb dL_law_712 (by decide) ?_
                                    refine g_iinc (pc := 1434) E (fun v208 => [(3, .int v208), (0, .ref b), (1, .ref (ad 0)), (2, .ref (ad 53))]) dL_law_1434 hl (k := 3) rfl (t := 6) (by decide) (by decide) (fun _ => rfl) hf (fun v208 hf ls hl => ?_)
                                    refine lv_goto (pc := 1437) (tgt := 18) hx hb dL_law_1437 (by decide) ?_
                                    exact ih _ _ _ _ _ hf Y (lv_sub hl [1, 2, 3, 0] rfl)
                                  · rw [if_neg hc] at hf
                                    have n_14 := ti_ne (n := 14) (by decide) hc
                                    clear hc
                                    by_cases hc : v3 = 15
                                    · rw [if_pos hc] at hf
                                      unfold fc_law_15 at hf
                                      refine g_tabIn (pc := 33) (tgt := 715) E dL_law_33 hc (n := 15) (by decide) (by decide) (by decide) rfl (by decide) ?_
                                      refine lv_aload_n (pc := 715) hx hb dL_law_715 rfl (lv_at hl 1 rfl) ?_
                                      refine lv_aload_n (pc := 716) hx hb dL_law_716 rfl (lv_at hl 0 rfl) ?_
                                      refine lv_iload_n (pc := 717) hx hb dL_law_717 rfl (lv_at hl 3 rfl) ?_
                                      refine lv_iconst (pc := 718) (v := 1) hx hb dL_law_718 (by decide) ?_
                                      refine g_iadd (pc := 719) E dL_law_719 hf (fun v209 hf => ?_)
                                      refine g_sld (pc := 720) E Y hX hbl hbA dL_law_720 hf (fun v210 hf => ?_)
                                      refine lv_aload_n (pc := 721) hx hb dL_law_721 rfl (lv_at hl 0 rfl) ?_
                                      refine lv_iload_n (pc := 722) hx hb dL_law_722 rfl (lv_at hl 3 rfl) ?_
                                      refine lv_iconst (pc := 723) (v := 2) hx hb dL_law_723 (by decide) ?_
                                      refine g_iadd (pc := 724) E dL_law_724 hf (fun v211 hf => ?_)
                                      refine g_sld (pc := 725) E Y hX hbl hbA dL_law_725 hf (fun v212 hf => ?_)
                                      refine lv_aload_n (pc := 726) hx hb dL_law_726 rfl (lv_at hl 0 rfl) ?_
                                      refine lv_iload_n (pc := 727) hx hb dL_law_727 rfl (lv_at hl 3 rfl) ?_
                                      refine lv_iconst (pc := 728) (v := 3) hx hb dL_law_728 (by decide) ?_
                                      refine g_iadd (pc := 729) E dL_law_729 hf (fun v213 hf => ?_)
                                      refine g_sld (pc := 730) E Y hX hbl hbA dL_law_730 hf (fun v214 hf => ?_)
                                      refine g_callL (pc := 731) E Y hLK LK_good 0 S_0 V_7 o_X7_margin k_79 [.int v210, .int v212, .int v214] rfl rfl ⟨Nat.le_of_ble_eq_true rfl, Nat.le_of_ble_eq_true rfl⟩ hl.1 (rest := []) rfl (Nat.le_of_ble_eq_true rfl) dL_law_731 (fun z hz => m_X7_margin_0 hz) hf (fun v215 μ216 H locs hf Y => ?_)
                                      refine lv_pop (pc := 734) hx hb dL_law_734 rfl ?_
                                      refine lv_aload_n (pc := 735) hx hb dL_law_735 rfl (lv_at hl 2 rfl) ?_
                                      refine lv_aload_n (pc := 736) hx hb dL_law_736 rfl (lv_at hl 0 rfl) ?_
                                      refine lv_iload_n (pc := 737) hx hb dL_law_737 rfl (lv_at hl 3 rfl) ?_
                                      refine lv_iconst (pc := 738) (v := 1) hx hb dL_law_738 (by decide) ?_
                                      refine g_iadd (pc := 739) E dL_law_739 hf (fun v217 hf => ?_)
                                      refine g_sld (pc := 740) E Y hX hbl hbA dL_law_740 hf (fun v218 hf => ?_)
                                      refine lv_aload_n (pc := 741) hx hb dL_law_741 rfl (lv_at hl 0 rfl) ?_
                                      refine lv_iload_n (pc := 742) hx hb dL_law_742 rfl (lv_at hl 3 rfl) ?_
                                      refine lv_iconst (pc := 743) (v := 2) hx hb dL_law_743 (by decide) ?_
                                      refine g_iadd (pc := 744) E dL_law_744 hf (fun v219 hf => ?_)
                                      refine g_sld (pc := 745) E Y hX hbl hbA dL_law_745 hf (fun v220 hf => ?_)
                                      refine lv_aload_n (pc := 746) hx hb dL_law_746 rfl (lv_at hl 0 rfl) ?_
                                      refine lv_iload_n (pc := 747) hx hb dL_law_747 rfl (lv_at hl 3 rfl) ?_
                                      refine lv_iconst (pc := 748) (v := 3) hx hb dL_law_748 (by decide) ?_
                                      refine g_iadd (pc := 749) E dL_law_749 hf (fun v221 hf => ?_)
                                      refine g_sld (pc := 750) E Y hX hbl hbA dL_law_750 hf (fun v222 hf => ?_)
                                      refine g_callL (pc := 751) E Y hLK LK_good 53 S_53 V_8 o_X8_margin k_83 [.int v218, .int v220, .int v222] rfl rfl ⟨Nat.le_of_ble_eq_true rfl, Nat.le_of_ble_eq_true rfl⟩ hl.1 (rest := []) rfl (Nat.le_of_ble_eq_true rfl) dL_law_751 (fun z hz => m_X8_margin_53 hz) hf (fun v223 μ224 H locs hf Y => ?_)
                                      refine lv_pop (pc := 754) hx hb dL_law_754 rfl ?_
                                      refine lv_goto (pc := 755) (tgt := 1434) hx hb dL_law_755 (by decide) ?_
                                      refine g_iinc (pc := 1434) E (fun v225 => [(3, .int v225), (0, .ref b), (1, .ref (ad 0)), (2, .ref (ad 53))]) dL_law_1434 hl (k := 3) rfl (t := 6) (by decide) (by decide) (fun _ => rfl) hf (fun v225 hf ls hl => ?_)
                                      refine lv_goto (pc := 1437) (tgt := 18) hx hb dL_law_1437 (by decide) ?_
                                      exact ih _ _ _ _ _ hf Y (lv_sub hl [1, 2, 3, 0] rfl)
                                    · rw [if_neg hc] at hf
                                      have n_15 := ti_ne (n := 15) (by decide) hc
                                      clear hc
                                      by_cases hc : v3 = 16
                                      · rw [if_pos hc] at hf
                                        unfold fc_law_16 at hf
                                        refine g_tabIn (pc := 33) (tgt := 758) E dL_law_33 hc (n := 16) (by decide) (by decide) (by decide) rfl (by decide) ?_
                                        refine lv_aload_n (pc := 758) hx hb dL_law_758 rfl (lv_at hl 1 rfl) ?_
                                        refine lv_aload_n (pc := 759) hx hb dL_law_759 rfl (lv_at hl 0 rfl) ?_
                                        refine lv_iload_n (pc := 760) hx hb dL_law_760 rfl (lv_at hl 3 rfl) ?_
                                        refine lv_iconst (pc := 761) (v := 1) hx hb dL_law_761 (by decide) ?_
                                        refine g_iadd (pc := 762) E dL_law_762 hf (fun v226 hf => ?_)
                                        refine g_sld (pc := 763) E Y hX hbl hbA dL_law_763 hf (fun v227 hf => ?_)
                                        refine lv_aload_n (pc := 764) hx hb dL_law_764 rfl (lv_at hl 0 rfl) ?_
                                        refine lv_iload_n (pc := 765) hx hb dL_law_765 rfl (lv_at hl 3 rfl) ?_
                                        refine lv_iconst (pc := 766) (v := 2) hx hb dL_law_766 (by decide) ?_
                                        refine g_iadd (pc := 767) E dL_law_767 hf (fun v228 hf => ?_)
                                        refine g_sld (pc := 768) E Y hX hbl hbA dL_law_768 hf (fun v229 hf => ?_)
                                        refine g_callL (pc := 769) E Y hLK LK_good 0 S_0 V_7 o_X7_leadFor k_84 [.int v227, .int v229] rfl rfl ⟨Nat.le_of_ble_eq_true rfl, Nat.le_of_ble_eq_true rfl⟩ hl.1 (rest := []) rfl (Nat.le_of_ble_eq_true rfl) dL_law_769 (fun z hz => m_X7_leadFor_0 hz) hf (fun v230 μ231 H locs hf Y => ?_)
                                        refine lv_pop (pc := 772) hx hb dL_law_772 rfl ?_
                                        refine lv_aload_n (pc := 773) hx hb dL_law_773 rfl (lv_at hl 2 rfl) ?_
                                        refine lv_aload_n (pc := 774) hx hb dL_law_774 rfl (lv_at hl 0 rfl) ?_
                                        refine lv_iload_n (pc := 775) hx hb dL_law_775 rfl (lv_at hl 3 rfl) ?_
                                        refine lv_iconst (pc := 776) (v := 1) hx hb dL_law_776 (by decide) ?_
                                        refine g_iadd (pc := 777) E dL_law_777 hf (fun v232 hf => ?_)
                                        refine g_sld (pc := 778) E Y hX hbl hbA dL_law_778 hf (fun v233 hf => ?_)
                                        refine lv_aload_n (pc := 779) hx hb dL_law_779 rfl (lv_at hl 0 rfl) ?_
                                        refine lv_iload_n (pc := 780) hx hb dL_law_780 rfl (lv_at hl 3 rfl) ?_
                                        refine lv_iconst (pc := 781) (v := 2) hx hb dL_law_781 (by decide) ?_
                                        refine g_iadd (pc := 782) E dL_law_782 hf (fun v234 hf => ?_)
                                        refine g_sld (pc := 783) E Y hX hbl hbA dL_law_783 hf (fun v235 hf => ?_)
                                        refine g_callL (pc := 784) E Y hLK LK_good 53 S_53 V_8 o_X8_leadFor k_87 [.int v233, .int v235] rfl rfl ⟨Nat.le_of_ble_eq_true rfl, Nat.le_of_ble_eq_true rfl⟩ hl.1 (rest := []) rfl (Nat.le_of_ble_eq_true rfl) dL_law_784 (fun z hz => m_X8_leadFor_53 hz) hf (fun v236 μ237 H locs hf Y => ?_)
                                        refine lv_pop (pc := 787) hx hb dL_law_787 rfl ?_
                                        refine lv_goto (pc := 788) (tgt := 1434) hx hb dL_law_788 (by decide) ?_
                                        refine g_iinc (pc := 1434) E (fun v238 => [(3, .int v238), (0, .ref b), (1, .ref (ad 0)), (2, .ref (ad 53))]) dL_law_1434 hl (k := 3) rfl (t := 6) (by decide) (by decide) (fun _ => rfl) hf (fun v238 hf ls hl => ?_)
                                        refine lv_goto (pc := 1437) (tgt := 18) hx hb dL_law_1437 (by decide) ?_
                                        exact ih _ _ _ _ _ hf Y (lv_sub hl [1, 2, 3, 0] rfl)
                                      · rw [if_neg hc] at hf
                                        have n_16 := ti_ne (n := 16) (by decide) hc
                                        clear hc
                                        by_cases hc : v3 = 17
                                        · rw [if_pos hc] at hf
                                          unfold fc_law_17 at hf
                                          refine g_tabIn (pc := 33) (tgt := 791) E dL_law_33 hc (n := 17) (by decide) (by decide) (by decide) rfl (by decide) ?_
                                          refine lv_aload_n (pc := 791) hx hb dL_law_791 rfl (lv_at hl 1 rfl) ?_
                                          refine lv_aload_n (pc := 792) hx hb dL_law_792 rfl (lv_at hl 0 rfl) ?_
                                          refine lv_iload_n (pc := 793) hx hb dL_law_793 rfl (lv_at hl 3 rfl) ?_
                                          refine lv_iconst (pc := 794) (v := 1) hx hb dL_law_794 (by decide) ?_
                                          refine g_iadd (pc := 795) E dL_law_795 hf (fun v239 hf => ?_)
                                          refine g_sld (pc := 796) E Y hX hbl hbA dL_law_796 hf (fun v240 hf => ?_)
                                          refine lv_aload_n (pc := 797) hx hb dL_law_797 rfl (lv_at hl 0 rfl) ?_
                                          refine lv_iload_n (pc := 798) hx hb dL_law_798 rfl (lv_at hl 3 rfl) ?_
                                          refine lv_iconst (pc := 799) (v := 2) hx hb dL_law_799 (by decide) ?_
                                          refine g_iadd (pc := 800) E dL_law_800 hf (fun v241 hf => ?_)
                                          refine g_sld (pc := 801) E Y hX hbl hbA dL_law_801 hf (fun v242 hf => ?_)
                                          refine g_callL (pc := 802) E Y hLK LK_good 0 S_0 V_7 o_X7_bestLead k_88 [.int v240, .int v242] rfl rfl ⟨Nat.le_of_ble_eq_true rfl, Nat.le_of_ble_eq_true rfl⟩ hl.1 (rest := []) rfl (Nat.le_of_ble_eq_true rfl) dL_law_802 (fun z hz => m_X7_bestLead_0 hz) hf (fun v243 μ244 H locs hf Y => ?_)
                                          refine lv_pop (pc := 805) hx hb dL_law_805 rfl ?_
                                          refine lv_aload_n (pc := 806) hx hb dL_law_806 rfl (lv_at hl 2 rfl) ?_
                                          refine lv_aload_n (pc := 807) hx hb dL_law_807 rfl (lv_at hl 0 rfl) ?_
                                          refine lv_iload_n (pc := 808) hx hb dL_law_808 rfl (lv_at hl 3 rfl) ?_
                                          refine lv_iconst (pc := 809) (v := 1) hx hb dL_law_809 (by decide) ?_
                                          refine g_iadd (pc := 810) E dL_law_810 hf (fun v245 hf => ?_)
                                          refine g_sld (pc := 811) E Y hX hbl hbA dL_law_811 hf (fun v246 hf => ?_)
                                          refine lv_aload_n (pc := 812) hx hb dL_law_812 rfl (lv_at hl 0 rfl) ?_
                                          refine lv_iload_n (pc := 813) hx hb dL_law_813 rfl (lv_at hl 3 rfl) ?_
                                          refine lv_iconst (pc := 814) (v := 2) hx hb dL_law_814 (by decide) ?_
                                          refine g_iadd (pc := 815) E dL_law_815 hf (fun v247 hf => ?_)
                                          refine g_sld (pc := 816) E Y hX hbl hbA dL_law_816 hf (fun v248 hf => ?_)
                                          refine g_callL (pc := 817) E Y hLK LK_good 53 S_53 V_8 o_X8_bestLead k_91 [.int v246, .int v248] rfl rfl ⟨Nat.le_of_ble_eq_true rfl, Nat.le_of_ble_eq_true rfl⟩ hl.1 (rest := []) rfl (Nat.le_of_ble_eq_true rfl) dL_law_817 (fun z hz => m_X8_bestLead_53 hz) hf (fun v249 μ250 H locs hf Y => ?_)
                                          refine lv_pop (pc := 820) hx hb dL_law_820 rfl ?_
                                          refine lv_goto (pc := 821) (tgt := 1434) hx hb dL_law_821 (by decide) ?_
                                          refine g_iinc (pc := 1434) E (fun v251 => [(3, .int v251), (0, .ref b), (1, .ref (ad 0)), (2, .ref (ad 53))]) dL_law_1434 hl (k := 3) rfl (t := 6) (by decide) (by decide) (fun _ => rfl) hf (fun v251 hf ls hl => ?_)
                                          refine lv_goto (pc := 1437) (tgt := 18) hx hb dL_law_1437 (by decide) ?_
                                          exact ih _ _ _ _ _ hf Y (lv_sub hl [1, 2, 3, 0] rfl)
                                        · rw [if_neg hc] at hf
                                          have n_17 := ti_ne (n := 17) (by decide) hc
                                          clear hc
                                          by_cases hc : v3 = 18
                                          · rw [if_pos hc] at hf
                                            unfold fc_law_18 at hf
                                            refine g_tabIn (pc := 33) (tgt := 824) E dL_law_33 hc (n := 18) (by decide) (by decide) (by decide) rfl (by decide) ?_
                                            refine lv_aload_n (pc := 824) hx hb dL_law_824 rfl (lv_at hl 1 rfl) ?_
                                            refine lv_aload_n (pc := 825) hx hb dL_law_825 rfl (lv_at hl 0 rfl) ?_
                                            refine lv_iload_n (pc := 826) hx hb dL_law_826 rfl (lv_at hl 3 rfl) ?_
                                            refine lv_iconst (pc := 827) (v := 1) hx hb dL_law_827 (by decide) ?_
                                            refine g_iadd (pc := 828) E dL_law_828 hf (fun v252 hf => ?_)
                                            refine g_sld (pc := 829) E Y hX hbl hbA dL_law_829 hf (fun v253 hf => ?_)
                                            refine lv_aload_n (pc := 830) hx hb dL_law_830 rfl (lv_at hl 0 rfl) ?_
                                            refine lv_iload_n (pc := 831) hx hb dL_law_831 rfl (lv_at hl 3 rfl) ?_
                                            refine lv_iconst (pc := 832) (v := 2) hx hb dL_law_832 (by decide) ?_
                                            refine g_iadd (pc := 833) E dL_law_833 hf (fun v254 hf => ?_)
                                            refine g_sld (pc := 834) E Y hX hbl hbA dL_law_834 hf (fun v255 hf => ?_)
                                            refine g_callL (pc := 835) E Y hLK LK_good 0 S_0 V_7 o_X7_odds k_92 [.int v253, .int v255] rfl rfl ⟨Nat.le_of_ble_eq_true rfl, Nat.le_of_ble_eq_true rfl⟩ hl.1 (rest := []) rfl (Nat.le_of_ble_eq_true rfl) dL_law_835 (fun z hz => m_X7_odds_0 hz) hf (fun v256 μ257 H locs hf Y => ?_)
                                            refine lv_pop (pc := 838) hx hb dL_law_838 rfl ?_
                                            refine lv_aload_n (pc := 839) hx hb dL_law_839 rfl (lv_at hl 2 rfl) ?_
                                            refine lv_aload_n (pc := 840) hx hb dL_law_840 rfl (lv_at hl 0 rfl) ?_
                                            refine lv_iload_n (pc := 841) hx hb dL_law_841 rfl (lv_at hl 3 rfl) ?_
                                            refine lv_iconst (pc := 842) (v := 1) hx hb dL_law_842 (by decide) ?_
                                            refine g_iadd (pc := 843) E dL_law_843 hf (fun v258 hf => ?_)
                                            refine g_sld (pc := 844) E Y hX hbl hbA dL_law_844 hf (fun v259 hf => ?_)
                                            refine lv_aload_n (pc := 845) hx hb dL_law_845 rfl (lv_at hl 0 rfl) ?_
                                            refine lv_iload_n (pc := 846) hx hb dL_law_846 rfl (lv_at hl 3 rfl) ?_
                                            refine lv_iconst (pc := 847) (v := 2) hx hb dL_law_847 (by decide) ?_
                                            refine g_iadd (pc := 848) E dL_law_848 hf (fun v260 hf => ?_)
                                            refine g_sld (pc := 849) E Y hX hbl hbA dL_law_849 hf (fun v261 hf => ?_)
                                            refine g_callL (pc := 850) E Y hLK LK_good 53 S_53 V_8 o_X8_odds k_95 [.int v259, .int v261] rfl rfl ⟨Nat.le_of_ble_eq_true rfl, Nat.le_of_ble_eq_true rfl⟩ hl.1 (rest := []) rfl (Nat.le_of_ble_eq_true rfl) dL_law_850 (fun z hz => m_X8_odds_53 hz) hf (fun v262 μ263 H locs hf Y => ?_)
                                            refine lv_pop (pc := 853) hx hb dL_law_853 rfl ?_
                                            refine lv_goto (pc := 854) (tgt := 1434) hx hb dL_law_854 (by decide) ?_
                                            refine g_iinc (pc := 1434) E (fun v264 => [(3, .int v264), (0, .ref b), (1, .ref (ad 0)), (2, .ref (ad 53))]) dL_law_1434 hl (k := 3) rfl (t := 6) (by decide) (by decide) (fun _ => rfl) hf (fun v264 hf ls hl => ?_)
                                            refine lv_goto (pc := 1437) (tgt := 18) hx hb dL_law_1437 (by decide) ?_
                                            exact ih _ _ _ _ _ hf Y (lv_sub hl [1, 2, 3, 0] rfl)
                                          · rw [if_neg hc] at hf
                                            have n_18 := ti_ne (n := 18) (by decide) hc
                                            clear hc
                                            by_cases hc : v3 = 19
                                            · rw [if_pos hc] at hf
                                              unfold fc_law_19 at hf
                                              refine g_tabIn (pc := 33) (tgt := 857) E dL_law_33 hc (n := 19) (by decide) (by decide) (by decide) rfl (by decide) ?_
                                              refine lv_aload_n (pc := 857) hx hb dL_law_857 rfl (lv_at hl 1 rfl) ?_
                                              refine lv_aload_n (pc := 858) hx hb dL_law_858 rfl (lv_at hl 0 rfl) ?_
                                              refine lv_iload_n (pc := 859) hx hb dL_law_859 rfl (lv_at hl 3 rfl) ?_
                                              refine lv_iconst (pc := 860) (v := 1) hx hb dL_law_860 (by decide) ?_
                                              refine g_iadd (pc := 861) E dL_law_861 hf (fun v265 hf => ?_)
                                              refine g_sld (pc := 862) E Y hX hbl hbA dL_law_862 hf (fun v266 hf => ?_)
                                              refine lv_aload_n (pc := 863) hx hb dL_law_863 rfl (lv_at hl 0 rfl) ?_
                                              refine lv_iload_n (pc := 864) hx hb dL_law_864 rfl (lv_at hl 3 rfl) ?_
                                              refine lv_iconst (pc := 865) (v := 2) hx hb dL_law_865 (by decide) ?_
                                              refine g_iadd (pc := 866) E dL_law_866 hf (fun v267 hf => ?_)
                                              refine g_sld (pc := 867) E Y hX hbl hbA dL_law_867 hf (fun v268 hf => ?_)
                                              refine g_callL (pc := 868) E Y hLK LK_good 0 S_0 V_7 o_X7_go k_96 [.int v266, .int v268] rfl rfl ⟨Nat.le_of_ble_eq_true rfl, Nat.le_of_ble_eq_true rfl⟩ hl.1 (rest := []) rfl (Nat.le_of_ble_eq_true rfl) dL_law_868 (fun z hz => m_X7_go_0 hz) hf (fun v269 μ270 H locs hf Y => ?_)
                                              refine lv_pop (pc := 871) hx hb dL_law_871 rfl ?_
                                              refine lv_aload_n (pc := 872) hx hb dL_law_872 rfl (lv_at hl 2 rfl) ?_
                                              refine lv_aload_n (pc := 873) hx hb dL_law_873 rfl (lv_at hl 0 rfl) ?_
                                              refine lv_iload_n (pc := 874) hx hb dL_law_874 rfl (lv_at hl 3 rfl) ?_
                                              refine lv_iconst (pc := 875) (v := 1) hx hb dL_law_875 (by decide) ?_
                                              refine g_iadd (pc := 876) E dL_law_876 hf (fun v271 hf => ?_)
                                              refine g_sld (pc := 877) E Y hX hbl hbA dL_law_877 hf (fun v272 hf => ?_)
                                              refine lv_aload_n (pc := 878) hx hb dL_law_878 rfl (lv_at hl 0 rfl) ?_
                                              refine lv_iload_n (pc := 879) hx hb dL_law_879 rfl (lv_at hl 3 rfl) ?_
                                              refine lv_iconst (pc := 880) (v := 2) hx hb dL_law_880 (by decide) ?_
                                              refine g_iadd (pc := 881) E dL_law_881 hf (fun v273 hf => ?_)
                                              refine g_sld (pc := 882) E Y hX hbl hbA dL_law_882 hf (fun v274 hf => ?_)
                                              refine g_callL (pc := 883) E Y hLK LK_good 53 S_53 V_8 o_X8_go k_99 [.int v272, .int v274] rfl rfl ⟨Nat.le_of_ble_eq_true rfl, Nat.le_of_ble_eq_true rfl⟩ hl.1 (rest := []) rfl (Nat.le_of_ble_eq_true rfl) dL_law_883 (fun z hz => m_X8_go_53 hz) hf (fun v275 μ276 H locs hf Y => ?_)
                                              refine lv_pop (pc := 886) hx hb dL_law_886 rfl ?_
                                              refine lv_goto (pc := 887) (tgt := 1434) hx hb dL_law_887 (by decide) ?_
                                              refine g_iinc (pc := 1434) E (fun v277 => [(3, .int v277), (0, .ref b), (1, .ref (ad 0)), (2, .ref (ad 53))]) dL_law_1434 hl (k := 3) rfl (t := 6) (by decide) (by decide) (fun _ => rfl) hf (fun v277 hf ls hl => ?_)
                                              refine lv_goto (pc := 1437) (tgt := 18) hx hb dL_law_1437 (by decide) ?_
                                              exact ih _ _ _ _ _ hf Y (lv_sub hl [1, 2, 3, 0] rfl)
                                            · rw [if_neg hc] at hf
                                              have n_19 := ti_ne (n := 19) (by decide) hc
                                              clear hc
                                              by_cases hc : v3 = 20
                                              · rw [if_pos hc] at hf
                                                unfold fc_law_20 at hf
                                                refine g_tabIn (pc := 33) (tgt := 890) E dL_law_33 hc (n := 20) (by decide) (by decide) (by decide) rfl (by decide) ?_
                                                refine lv_aload_n (pc := 890) hx hb dL_law_890 rfl (lv_at hl 1 rfl) ?_
                                                refine lv_aload_n (pc := 891) hx hb dL_law_891 rfl (lv_at hl 0 rfl) ?_
                                                refine lv_iload_n (pc := 892) hx hb dL_law_892 rfl (lv_at hl 3 rfl) ?_
                                                refine lv_iconst (pc := 893) (v := 1) hx hb dL_law_893 (by decide) ?_
                                                refine g_iadd (pc := 894) E dL_law_894 hf (fun v278 hf => ?_)
                                                refine g_sld (pc := 895) E Y hX hbl hbA dL_law_895 hf (fun v279 hf => ?_)
                                                refine lv_aload_n (pc := 896) hx hb dL_law_896 rfl (lv_at hl 0 rfl) ?_
                                                refine lv_iload_n (pc := 897) hx hb dL_law_897 rfl (lv_at hl 3 rfl) ?_
                                                refine lv_iconst (pc := 898) (v := 2) hx hb dL_law_898 (by decide) ?_
                                                refine g_iadd (pc := 899) E dL_law_899 hf (fun v280 hf => ?_)
                                                refine g_sld (pc := 900) E Y hX hbl hbA dL_law_900 hf (fun v281 hf => ?_)
                                                refine lv_aload_n (pc := 901) hx hb dL_law_901 rfl (lv_at hl 0 rfl) ?_
                                                refine lv_iload_n (pc := 902) hx hb dL_law_902 rfl (lv_at hl 3 rfl) ?_
                                                refine lv_iconst (pc := 903) (v := 3) hx hb dL_law_903 (by decide) ?_
                                                refine g_iadd (pc := 904) E dL_law_904 hf (fun v282 hf => ?_)
                                                refine g_sld (pc := 905) E Y hX hbl hbA dL_law_905 hf (fun v283 hf => ?_)
                                                refine lv_aload_n (pc := 906) hx hb dL_law_906 rfl (lv_at hl 0 rfl) ?_
                                                refine lv_iload_n (pc := 907) hx hb dL_law_907 rfl (lv_at hl 3 rfl) ?_
                                                refine lv_iconst (pc := 908) (v := 4) hx hb dL_law_908 (by decide) ?_
                                                refine g_iadd (pc := 909) E dL_law_909 hf (fun v284 hf => ?_)
                                                refine g_sld (pc := 910) E Y hX hbl hbA dL_law_910 hf (fun v285 hf => ?_)
                                                refine g_callL (pc := 911) E Y hLK LK_good 0 S_0 V_7 o_X7_duel k_100 [.int v279, .int v281, .int v283, .int v285] rfl rfl ⟨Nat.le_of_ble_eq_true rfl, Nat.le_of_ble_eq_true rfl⟩ hl.1 (rest := []) rfl (Nat.le_of_ble_eq_true rfl) dL_law_911 (fun z hz => m_X7_duel_0 hz) hf (fun v286 μ287 H locs hf Y => ?_)
                                                refine lv_pop (pc := 914) hx hb dL_law_914 rfl ?_
                                                refine lv_aload_n (pc := 915) hx hb dL_law_915 rfl (lv_at hl 2 rfl) ?_
                                                refine lv_aload_n (pc := 916) hx hb dL_law_916 rfl (lv_at hl 0 rfl) ?_
                                                refine lv_iload_n (pc := 917) hx hb dL_law_917 rfl (lv_at hl 3 rfl) ?_
                                                refine lv_iconst (pc := 918) (v := 1) hx hb dL_law_918 (by decide) ?_
                                                refine g_iadd (pc := 919) E dL_law_919 hf (fun v288 hf => ?_)
                                                refine g_sld (pc := 920) E Y hX hbl hbA dL_law_920 hf (fun v289 hf => ?_)
                                                refine lv_aload_n (pc := 921) hx hb dL_law_921 rfl (lv_at hl 0 rfl) ?_
                                                refine lv_iload_n (pc := 922) hx hb dL_law_922 rfl (lv_at hl 3 rfl) ?_
                                                refine lv_iconst (pc := 923) (v := 2) hx hb dL_law_923 (by decide) ?_
                                                refine g_iadd (pc := 924) E dL_law_924 hf (fun v290 hf => ?_)
                                                refine g_sld (pc := 925) E Y hX hbl hbA dL_law_925 hf (fun v291 hf => ?_)
                                                refine lv_aload_n (pc := 926) hx hb dL_law_926 rfl (lv_at hl 0 rfl) ?_
                                                refine lv_iload_n (pc := 927) hx hb dL_law_927 rfl (lv_at hl 3 rfl) ?_
                                                refine lv_iconst (pc := 928) (v := 3) hx hb dL_law_928 (by decide) ?_
                                                refine g_iadd (pc := 929) E dL_law_929 hf (fun v292 hf => ?_)
                                                refine g_sld (pc := 930) E Y hX hbl hbA dL_law_930 hf (fun v293 hf => ?_)
                                                refine lv_aload_n (pc := 931) hx hb dL_law_931 rfl (lv_at hl 0 rfl) ?_
                                                refine lv_iload_n (pc := 932) hx hb dL_law_932 rfl (lv_at hl 3 rfl) ?_
                                                refine lv_iconst (pc := 933) (v := 4) hx hb dL_law_933 (by decide) ?_
                                                refine g_iadd (pc := 934) E dL_law_934 hf (fun v294 hf => ?_)
                                                refine g_sld (pc := 935) E Y hX hbl hbA dL_law_935 hf (fun v295 hf => ?_)
                                                refine g_callL (pc := 936) E Y hLK LK_good 53 S_53 V_8 o_X8_duel k_103 [.int v289, .int v291, .int v293, .int v295] rfl rfl ⟨Nat.le_of_ble_eq_true rfl, Nat.le_of_ble_eq_true rfl⟩ hl.1 (rest := []) rfl (Nat.le_of_ble_eq_true rfl) dL_law_936 (fun z hz => m_X8_duel_53 hz) hf (fun v296 μ297 H locs hf Y => ?_)
                                                refine lv_pop (pc := 939) hx hb dL_law_939 rfl ?_
                                                refine lv_goto (pc := 940) (tgt := 1434) hx hb dL_law_940 (by decide) ?_
                                                refine g_iinc (pc := 1434) E (fun v298 => [(3, .int v298), (0, .ref b), (1, .ref (ad 0)), (2, .ref (ad 53))]) dL_law_1434 hl (k := 3) rfl (t := 6) (by decide) (by decide) (fun _ => rfl) hf (fun v298 hf ls hl => ?_)
                                                refine lv_goto (pc := 1437) (tgt := 18) hx hb dL_law_1437 (by decide) ?_
                                                exact ih _ _ _ _ _ hf Y (lv_sub hl [1, 2, 3, 0] rfl)
                                              · rw [if_neg hc] at hf
                                                have n_20 := ti_ne (n := 20) (by decide) hc
                                                clear hc
                                                by_cases hc : v3 = 21
                                                · rw [if_pos hc] at hf
                                                  unfold fc_law_21 at hf
                                                  refine g_tabIn (pc := 33) (tgt := 943) E dL_law_33 hc (n := 21) (by decide) (by decide) (by decide) rfl (by decide) ?_
                                                  refine lv_aload_n (pc := 943) hx hb dL_law_943 rfl (lv_at hl 1 rfl) ?_
                                                  refine lv_aload_n (pc := 944) hx hb dL_law_944 rfl (lv_at hl 0 rfl) ?_
                                                  refine lv_iload_n (pc := 945) hx hb dL_law_945 rfl (lv_at hl 3 rfl) ?_
                                                  refine lv_iconst (pc := 946) (v := 1) hx hb dL_law_946 (by decide) ?_
                                                  refine g_iadd (pc := 947) E dL_law_947 hf (fun v299 hf => ?_)
                                                  refine g_sld (pc := 948) E Y hX hbl hbA dL_law_948 hf (fun v300 hf => ?_)
                                                  refine lv_aload_n (pc := 949) hx hb dL_law_949 rfl (lv_at hl 0 rfl) ?_
                                                  refine lv_iload_n (pc := 950) hx hb dL_law_950 rfl (lv_at hl 3 rfl) ?_
                                                  refine lv_iconst (pc := 951) (v := 2) hx hb dL_law_951 (by decide) ?_
                                                  refine g_iadd (pc := 952) E dL_law_952 hf (fun v301 hf => ?_)
                                                  refine g_sld (pc := 953) E Y hX hbl hbA dL_law_953 hf (fun v302 hf => ?_)
                                                  refine g_callL (pc := 954) E Y hLK LK_good 0 S_0 V_7 o_X7_surely k_104 [.int v300, .int v302] rfl rfl ⟨Nat.le_of_ble_eq_true rfl, Nat.le_of_ble_eq_true rfl⟩ hl.1 (rest := []) rfl (Nat.le_of_ble_eq_true rfl) dL_law_954 (fun z hz => m_X7_surely_0 hz) hf (fun v303 μ304 H locs hf Y => ?_)
                                                  refine lv_pop (pc := 957) hx hb dL_law_957 rfl ?_
                                                  refine lv_aload_n (pc := 958) hx hb dL_law_958 rfl (lv_at hl 2 rfl) ?_
                                                  refine lv_aload_n (pc := 959) hx hb dL_law_959 rfl (lv_at hl 0 rfl) ?_
                                                  refine lv_iload_n (pc := 960) hx hb dL_law_960 rfl (lv_at hl 3 rfl) ?_
                                                  refine lv_iconst (pc := 961) (v := 1) hx hb dL_law_961 (by decide) ?_
                                                  refine g_iadd (pc := 962) E dL_law_962 hf (fun v305 hf => ?_)
                                                  refine g_sld (pc := 963) E Y hX hbl hbA dL_law_963 hf (fun v306 hf => ?_)
                                                  refine lv_aload_n (pc := 964) hx hb dL_law_964 rfl (lv_at hl 0 rfl) ?_
                                                  refine lv_iload_n (pc := 965) hx hb dL_law_965 rfl (lv_at hl 3 rfl) ?_
                                                  refine lv_iconst (pc := 966) (v := 2) hx hb dL_law_966 (by decide) ?_
                                                  refine g_iadd (pc := 967) E dL_law_967 hf (fun v307 hf => ?_)
                                                  refine g_sld (pc := 968) E Y hX hbl hbA dL_law_968 hf (fun v308 hf => ?_)
                                                  refine g_callL (pc := 969) E Y hLK LK_good 53 S_53 V_8 o_X8_surely k_107 [.int v306, .int v308] rfl rfl ⟨Nat.le_of_ble_eq_true rfl, Nat.le_of_ble_eq_true rfl⟩ hl.1 (rest := []) rfl (Nat.le_of_ble_eq_true rfl) dL_law_969 (fun z hz => m_X8_surely_53 hz) hf (fun v309 μ310 H locs hf Y => ?_)
                                                  refine lv_pop (pc := 972) hx hb dL_law_972 rfl ?_
                                                  refine lv_goto (pc := 973) (tgt := 1434) hx hb dL_law_973 (by decide) ?_
                                                  refine g_iinc (pc := 1434) E (fun v311 => [(3, .int v311), (0, .ref b), (1, .ref (ad 0)), (2, .ref (ad 53))]) dL_law_1434 hl (k := 3) rfl (t := 6) (by decide) (by decide) (fun _ => rfl) hf (fun v311 hf ls hl => ?_)
                                                  refine lv_goto (pc := 1437) (tgt := 18) hx hb dL_law_1437 (by decide) ?_
                                                  exact ih _ _ _ _ _ hf Y (lv_sub hl [1, 2, 3, 0] rfl)
                                                · rw [if_neg hc] at hf
                                                  have n_21 := ti_ne (n := 21) (by decide) hc
                                                  clear hc
                                                  by_cases hc : v3 = 22
                                                  · rw [if_pos hc] at hf
                                                    unfold fc_law_22 at hf
                                                    refine g_tabIn (pc := 33) (tgt := 976) E dL_law_33 hc (n := 22) (by decide) (by decide) (by decide) rfl (by decide) ?_
                                                    refine lv_aload_n (pc := 976) hx hb dL_law_976 rfl (lv_at hl 1 rfl) ?_
                                                    refine lv_aload_n (pc := 977) hx hb dL_law_977 rfl (lv_at hl 0 rfl) ?_
                                                    refine lv_iload_n (pc := 978) hx hb dL_law_978 rfl (lv_at hl 3 rfl) ?_
                                                    refine lv_iconst (pc := 979) (v := 1) hx hb dL_law_979 (by decide) ?_
                                                    refine g_iadd (pc := 980) E dL_law_980 hf (fun v312 hf => ?_)
                                                    refine g_sld (pc := 981) E Y hX hbl hbA dL_law_981 hf (fun v313 hf => ?_)
                                                    refine lv_aload_n (pc := 982) hx hb dL_law_982 rfl (lv_at hl 0 rfl) ?_
                                                    refine lv_iload_n (pc := 983) hx hb dL_law_983 rfl (lv_at hl 3 rfl) ?_
                                                    refine lv_iconst (pc := 984) (v := 2) hx hb dL_law_984 (by decide) ?_
                                                    refine g_iadd (pc := 985) E dL_law_985 hf (fun v314 hf => ?_)
                                                    refine g_sld (pc := 986) E Y hX hbl hbA dL_law_986 hf (fun v315 hf => ?_)
                                                    refine lv_aload_n (pc := 987) hx hb dL_law_987 rfl (lv_at hl 0 rfl) ?_
                                                    refine lv_iload_n (pc := 988) hx hb dL_law_988 rfl (lv_at hl 3 rfl) ?_
                                                    refine lv_iconst (pc := 989) (v := 3) hx hb dL_law_989 (by decide) ?_
                                                    refine g_iadd (pc := 990) E dL_law_990 hf (fun v316 hf => ?_)
                                                    refine g_sld (pc := 991) E Y hX hbl hbA dL_law_991 hf (fun v317 hf => ?_)
                                                    refine g_callL (pc := 992) E Y hLK LK_good 0 S_0 V_7 o_X7_fits k_108 [.int v313, .int v315, .int v317] rfl rfl ⟨Nat.le_of_ble_eq_true rfl, Nat.le_of_ble_eq_true rfl⟩ hl.1 (rest := []) rfl (Nat.le_of_ble_eq_true rfl) dL_law_992 (fun z hz => m_X7_fits_0 hz) hf (fun v318 μ319 H locs hf Y => ?_)
                                                    refine lv_pop (pc := 995) hx hb dL_law_995 rfl ?_
                                                    refine lv_aload_n (pc := 996) hx hb dL_law_996 rfl (lv_at hl 2 rfl) ?_
                                                    refine lv_aload_n (pc := 997) hx hb dL_law_997 rfl (lv_at hl 0 rfl) ?_
                                                    refine lv_iload_n (pc := 998) hx hb dL_law_998 rfl (lv_at hl 3 rfl) ?_
                                                    refine lv_iconst (pc := 999) (v := 1) hx hb dL_law_999 (by decide) ?_
                                                    refine g_iadd (pc := 1000) E dL_law_1000 hf (fun v320 hf => ?_)
                                                    refine g_sld (pc := 1001) E Y hX hbl hbA dL_law_1001 hf (fun v321 hf => ?_)
                                                    refine lv_aload_n (pc := 1002) hx hb dL_law_1002 rfl (lv_at hl 0 rfl) ?_
                                                    refine lv_iload_n (pc := 1003) hx hb dL_law_1003 rfl (lv_at hl 3 rfl) ?_
                                                    refine lv_iconst (pc := 1004) (v := 2) hx hb dL_law_1004 (by decide) ?_
                                                    refine g_iadd (pc := 1005) E dL_law_1005 hf (fun v322 hf => ?_)
                                                    refine g_sld (pc := 1006) E Y hX hbl hbA dL_law_1006 hf (fun v323 hf => ?_)
                                                    refine lv_aload_n (pc := 1007) hx hb dL_law_1007 rfl (lv_at hl 0 rfl) ?_
                                                    refine lv_iload_n (pc := 1008) hx hb dL_law_1008 rfl (lv_at hl 3 rfl) ?_
                                                    refine lv_iconst (pc := 1009) (v := 3) hx hb dL_law_1009 (by decide) ?_
                                                    refine g_iadd (pc := 1010) E dL_law_1010 hf (fun v324 hf => ?_)
                                                    refine g_sld (pc := 1011) E Y hX hbl hbA dL_law_1011 hf (fun v325 hf => ?_)
                                                    refine g_callL (pc := 1012) E Y hLK LK_good 53 S_53 V_8 o_X8_fits k_111 [.int v321, .int v323, .int v325] rfl rfl ⟨Nat.le_of_ble_eq_true rfl, Nat.le_of_ble_eq_true rfl⟩ hl.1 (rest := []) rfl (Nat.le_of_ble_eq_true rfl) dL_law_1012 (fun z hz => m_X8_fits_53 hz) hf (fun v326 μ327 H locs hf Y => ?_)
                                                    refine lv_pop (pc := 1015) hx hb dL_law_1015 rfl ?_
                                                    refine lv_goto (pc := 1016) (tgt := 1434) hx hb dL_law_1016 (by decide) ?_
                                                    refine g_iinc (pc := 1434) E (fun v328 => [(3, .int v328), (0, .ref b), (1, .ref (ad 0)), (2, .ref (ad 53))]) dL_law_1434 hl (k := 3) rfl (t := 6) (by decide) (by decide) (fun _ => rfl) hf (fun v328 hf ls hl => ?_)
                                                    refine lv_goto (pc := 1437) (tgt := 18) hx hb dL_law_1437 (by decide) ?_
                                                    exact ih _ _ _ _ _ hf Y (lv_sub hl [1, 2, 3, 0] rfl)
                                                  · rw [if_neg hc] at hf
                                                    have n_22 := ti_ne (n := 22) (by decide) hc
                                                    clear hc
                                                    by_cases hc : v3 = 23
                                                    · rw [if_pos hc] at hf
                                                      unfold fc_law_23 at hf
                                                      refine g_tabIn (pc := 33) (tgt := 1019) E dL_law_33 hc (n := 23) (by decide) (by decide) (by decide) rfl (by decide) ?_
                                                      refine lv_aload_n (pc := 1019) hx hb dL_law_1019 rfl (lv_at hl 1 rfl) ?_
                                                      refine lv_aload_n (pc := 1020) hx hb dL_law_1020 rfl (lv_at hl 0 rfl) ?_
                                                      refine lv_iload_n (pc := 1021) hx hb dL_law_1021 rfl (lv_at hl 3 rfl) ?_
                                                      refine lv_iconst (pc := 1022) (v := 1) hx hb dL_law_1022 (by decide) ?_
                                                      refine g_iadd (pc := 1023) E dL_law_1023 hf (fun v329 hf => ?_)
                                                      refine g_sld (pc := 1024) E Y hX hbl hbA dL_law_1024 hf (fun v330 hf => ?_)
                                                      refine g_callL (pc := 1025) E Y hLK LK_good 0 S_0 V_7 o_X7_loose k_112 [.int v330] rfl rfl ⟨Nat.le_of_ble_eq_true rfl, Nat.le_of_ble_eq_true rfl⟩ hl.1 (rest := []) rfl (Nat.le_of_ble_eq_true rfl) dL_law_1025 (fun z hz => m_X7_loose_0 hz) hf (fun v331 μ332 H locs hf Y => ?_)
                                                      refine lv_pop (pc := 1028) hx hb dL_law_1028 rfl ?_
                                                      refine lv_aload_n (pc := 1029) hx hb dL_law_1029 rfl (lv_at hl 2 rfl) ?_
                                                      refine lv_aload_n (pc := 1030) hx hb dL_law_1030 rfl (lv_at hl 0 rfl) ?_
                                                      refine lv_iload_n (pc := 1031) hx hb dL_law_1031 rfl (lv_at hl 3 rfl) ?_
                                                      refine lv_iconst (pc := 1032) (v := 1) hx hb dL_law_1032 (by decide) ?_
                                                      refine g_iadd (pc := 1033) E dL_law_1033 hf (fun v333 hf => ?_)
                                                      refine g_sld (pc := 1034) E Y hX hbl hbA dL_law_1034 hf (fun v334 hf => ?_)
                                                      refine g_callL (pc := 1035) E Y hLK LK_good 53 S_53 V_8 o_X8_loose k_115 [.int v334] rfl rfl ⟨Nat.le_of_ble_eq_true rfl, Nat.le_of_ble_eq_true rfl⟩ hl.1 (rest := []) rfl (Nat.le_of_ble_eq_true rfl) dL_law_1035 (fun z hz => m_X8_loose_53 hz) hf (fun v335 μ336 H locs hf Y => ?_)
                                                      refine lv_pop (pc := 1038) hx hb dL_law_1038 rfl ?_
                                                      refine lv_goto (pc := 1039) (tgt := 1434) hx hb dL_law_1039 (by decide) ?_
                                                      refine g_iinc (pc := 1434) E (fun v337 => [(3, .int v337), (0, .ref b), (1, .ref (ad 0)), (2, .ref (ad 53))]) dL_law_1434 hl (k := 3) rfl (t := 6) (by decide) (by decide) (fun _ => rfl) hf (fun v337 hf ls hl => ?_)
                                                      refine lv_goto (pc := 1437) (tgt := 18) hx hb dL_law_1437 (by decide) ?_
                                                      exact ih _ _ _ _ _ hf Y (lv_sub hl [1, 2, 3, 0] rfl)
                                                    · rw [if_neg hc] at hf
                                                      have n_23 := ti_ne (n := 23) (by decide) hc
                                                      clear hc
                                                      by_cases hc : v3 = 24
                                                      · rw [if_pos hc] at hf
                                                        unfold fc_law_24 at hf
                                                        refine g_tabIn (pc := 33) (tgt := 1042) E dL_law_33 hc (n := 24) (by decide) (by decide) (by decide) rfl (by decide) ?_
                                                        refine lv_aload_n (pc := 1042) hx hb dL_law_1042 rfl (lv_at hl 1 rfl) ?_
                                                        refine lv_aload_n (pc := 1043) hx hb dL_law_1043 rfl (lv_at hl 0 rfl) ?_
                                                        refine lv_iload_n (pc := 1044) hx hb dL_law_1044 rfl (lv_at hl 3 rfl) ?_
                                                        refine lv_iconst (pc := 1045) (v := 1) hx hb dL_law_1045 (by decide) ?_
                                                        refine g_iadd (pc := 1046) E dL_law_1046 hf (fun v338 hf => ?_)
                                                        refine g_sld (pc := 1047) E Y hX hbl hbA dL_law_1047 hf (fun v339 hf => ?_)
                                                        refine g_callL (pc := 1048) E Y hLK LK_good 0 S_0 V_7 o_X7_seed k_116 [.int v339] rfl rfl ⟨Nat.le_of_ble_eq_true rfl, Nat.le_of_ble_eq_true rfl⟩ hl.1 (rest := []) rfl (Nat.le_of_ble_eq_true rfl) dL_law_1048 (fun z hz => m_X7_seed_0 hz) hf (fun v340 μ341 H locs hf Y => ?_)
                                                        refine lv_pop (pc := 1051) hx hb dL_law_1051 rfl ?_
                                                        refine lv_aload_n (pc := 1052) hx hb dL_law_1052 rfl (lv_at hl 2 rfl) ?_
                                                        refine lv_aload_n (pc := 1053) hx hb dL_law_1053 rfl (lv_at hl 0 rfl) ?_
                                                        refine lv_iload_n (pc := 1054) hx hb dL_law_1054 rfl (lv_at hl 3 rfl) ?_
                                                        refine lv_iconst (pc := 1055) (v := 1) hx hb dL_law_1055 (by decide) ?_
                                                        refine g_iadd (pc := 1056) E dL_law_1056 hf (fun v342 hf => ?_)
                                                        refine g_sld (pc := 1057) E Y hX hbl hbA dL_law_1057 hf (fun v343 hf => ?_)
                                                        refine g_callL (pc := 1058) E Y hLK LK_good 53 S_53 V_8 o_X8_seed k_119 [.int v343] rfl rfl ⟨Nat.le_of_ble_eq_true rfl, Nat.le_of_ble_eq_true rfl⟩ hl.1 (rest := []) rfl (Nat.le_of_ble_eq_true rfl) dL_law_1058 (fun z hz => m_X8_seed_53 hz) hf (fun v344 μ345 H locs hf Y => ?_)
                                                        refine lv_pop (pc := 1061) hx hb dL_law_1061 rfl ?_
                                                        refine lv_goto (pc := 1062) (tgt := 1434) hx hb dL_law_1062 (by decide) ?_
                                                        refine g_iinc (pc := 1434) E (fun v346 => [(3, .int v346), (0, .ref b), (1, .ref (ad 0)), (2, .ref (ad 53))]) dL_law_1434 hl (k := 3) rfl (t := 6) (by decide) (by decide) (fun _ => rfl) hf (fun v346 hf ls hl => ?_)
                                                        refine lv_goto (pc := 1437) (tgt := 18) hx hb dL_law_1437 (by decide) ?_
                                                        exact ih _ _ _ _ _ hf Y (lv_sub hl [1, 2, 3, 0] rfl)
                                                      · rw [if_neg hc] at hf
                                                        have n_24 := ti_ne (n := 24) (by decide) hc
                                                        clear hc
                                                        by_cases hc : v3 = 25
                                                        · rw [if_pos hc] at hf
                                                          unfold fc_law_25 at hf
                                                          refine g_tabIn (pc := 33) (tgt := 1065) E dL_law_33 hc (n := 25) (by decide) (by decide) (by decide) rfl (by decide) ?_
                                                          refine lv_aload_n (pc := 1065) hx hb dL_law_1065 rfl (lv_at hl 1 rfl) ?_
                                                          refine lv_aload_n (pc := 1066) hx hb dL_law_1066 rfl (lv_at hl 0 rfl) ?_
                                                          refine lv_iload_n (pc := 1067) hx hb dL_law_1067 rfl (lv_at hl 3 rfl) ?_
                                                          refine lv_iconst (pc := 1068) (v := 1) hx hb dL_law_1068 (by decide) ?_
                                                          refine g_iadd (pc := 1069) E dL_law_1069 hf (fun v347 hf => ?_)
                                                          refine g_sld (pc := 1070) E Y hX hbl hbA dL_law_1070 hf (fun v348 hf => ?_)
                                                          refine lv_aload_n (pc := 1071) hx hb dL_law_1071 rfl (lv_at hl 0 rfl) ?_
                                                          refine lv_iload_n (pc := 1072) hx hb dL_law_1072 rfl (lv_at hl 3 rfl) ?_
                                                          refine lv_iconst (pc := 1073) (v := 2) hx hb dL_law_1073 (by decide) ?_
                                                          refine g_iadd (pc := 1074) E dL_law_1074 hf (fun v349 hf => ?_)
                                                          refine g_sld (pc := 1075) E Y hX hbl hbA dL_law_1075 hf (fun v350 hf => ?_)
                                                          refine lv_aload_n (pc := 1076) hx hb dL_law_1076 rfl (lv_at hl 0 rfl) ?_
                                                          refine lv_iload_n (pc := 1077) hx hb dL_law_1077 rfl (lv_at hl 3 rfl) ?_
                                                          refine lv_iconst (pc := 1078) (v := 3) hx hb dL_law_1078 (by decide) ?_
                                                          refine g_iadd (pc := 1079) E dL_law_1079 hf (fun v351 hf => ?_)
                                                          refine g_sld (pc := 1080) E Y hX hbl hbA dL_law_1080 hf (fun v352 hf => ?_)
                                                          refine g_callL (pc := 1081) E Y hLK LK_good 0 S_0 V_7 o_X7_voice k_120 [.int v348, .int v350, .int v352] rfl rfl ⟨Nat.le_of_ble_eq_true rfl, Nat.le_of_ble_eq_true rfl⟩ hl.1 (rest := []) rfl (Nat.le_of_ble_eq_true rfl) dL_law_1081 (fun z hz => m_X7_voice_0 hz) hf (fun v353 μ354 H locs hf Y => ?_)
                                                          refine lv_pop (pc := 1084) hx hb dL_law_1084 rfl ?_
                                                          refine lv_aload_n (pc := 1085) hx hb dL_law_1085 rfl (lv_at hl 2 rfl) ?_
                                                          refine lv_aload_n (pc := 1086) hx hb dL_law_1086 rfl (lv_at hl 0 rfl) ?_
                                                          refine lv_iload_n (pc := 1087) hx hb dL_law_1087 rfl (lv_at hl 3 rfl) ?_
                                                          refine lv_iconst (pc := 1088) (v := 1) hx hb dL_law_1088 (by decide) ?_
                                                          refine g_iadd (pc := 1089) E dL_law_1089 hf (fun v355 hf => ?_)
                                                          refine g_sld (pc := 1090) E Y hX hbl hbA dL_law_1090 hf (fun v356 hf => ?_)
                                                          refine lv_aload_n (pc := 1091) hx hb dL_law_1091 rfl (lv_at hl 0 rfl) ?_
                                                          refine lv_iload_n (pc := 1092) hx hb dL_law_1092 rfl (lv_at hl 3 rfl) ?_
                                                          refine lv_iconst (pc := 1093) (v := 2) hx hb dL_law_1093 (by decide) ?_
                                                          refine g_iadd (pc := 1094) E dL_law_1094 hf (fun v357 hf => ?_)
                                                          refine g_sld (pc := 1095) E Y hX hbl hbA dL_law_1095 hf (fun v358 hf => ?_)
                                                          refine lv_aload_n (pc := 1096) hx hb dL_law_1096 rfl (lv_at hl 0 rfl) ?_
                                                          refine lv_iload_n (pc := 1097) hx hb dL_law_1097 rfl (lv_at hl 3 rfl) ?_
                                                          refine lv_iconst (pc := 1098) (v := 3) hx hb dL_law_1098 (by decide) ?_
                                                          refine g_iadd (pc := 1099) E dL_law_1099 hf (fun v359 hf => ?_)
                                                          refine g_sld (pc := 1100) E Y hX hbl hbA dL_law_1100 hf (fun v360 hf => ?_)
                                                          refine g_callL (pc := 1101) E Y hLK LK_good 53 S_53 V_8 o_X8_voice k_123 [.int v356, .int v358, .int v360] rfl rfl ⟨Nat.le_of_ble_eq_true rfl, Nat.le_of_ble_eq_true rfl⟩ hl.1 (rest := []) rfl (Nat.le_of_ble_eq_true rfl) dL_law_1101 (fun z hz => m_X8_voice_53 hz) hf (fun v361 μ362 H locs hf Y => ?_)
                                                          refine lv_pop (pc := 1104) hx hb dL_law_1104 rfl ?_
                                                          refine lv_goto (pc := 1105) (tgt := 1434) hx hb dL_law_1105 (by decide) ?_
                                                          refine g_iinc (pc := 1434) E (fun v363 => [(3, .int v363), (0, .ref b), (1, .ref (ad 0)), (2, .ref (ad 53))]) dL_law_1434 hl (k := 3) rfl (t := 6) (by decide) (by decide) (fun _ => rfl) hf (fun v363 hf ls hl => ?_)
                                                          refine lv_goto (pc := 1437) (tgt := 18) hx hb dL_law_1437 (by decide) ?_
                                                          exact ih _ _ _ _ _ hf Y (lv_sub hl [1, 2, 3, 0] rfl)
                                                        · rw [if_neg hc] at hf
                                                          have n_25 := ti_ne (n := 25) (by decide) hc
                                                          clear hc
                                                          by_cases hc : v3 = 26
                                                          · rw [if_pos hc] at hf
                                                            unfold fc_law_26 at hf
                                                            refine g_tabIn (pc := 33) (tgt := 1108) E dL_law_33 hc (n := 26) (by decide) (by decide) (by decide) rfl (by decide) ?_
                                                            refine lv_aload_n (pc := 1108) hx hb dL_law_1108 rfl (lv_at hl 1 rfl) ?_
                                                            refine lv_aload_n (pc := 1109) hx hb dL_law_1109 rfl (lv_at hl 0 rfl) ?_
                                                            refine lv_iload_n (pc := 1110) hx hb dL_law_1110 rfl (lv_at hl 3 rfl) ?_
                                                            refine lv_iconst (pc := 1111) (v := 1) hx hb dL_law_1111 (by decide) ?_
                                                            refine g_iadd (pc := 1112) E dL_law_1112 hf (fun v364 hf => ?_)
                                                            refine g_sld (pc := 1113) E Y hX hbl hbA dL_law_1113 hf (fun v365 hf => ?_)
                                                            refine g_callL (pc := 1114) E Y hLK LK_good 0 S_0 V_7 o_X7_body k_124 [.int v365] rfl rfl ⟨Nat.le_of_ble_eq_true rfl, Nat.le_of_ble_eq_true rfl⟩ hl.1 (rest := []) rfl (Nat.le_of_ble_eq_true rfl) dL_law_1114 (fun z hz => m_X7_body_0 hz) hf (fun v366 μ367 H locs hf Y => ?_)
                                                            refine lv_pop (pc := 1117) hx hb dL_law_1117 rfl ?_
                                                            refine lv_aload_n (pc := 1118) hx hb dL_law_1118 rfl (lv_at hl 2 rfl) ?_
                                                            refine lv_aload_n (pc := 1119) hx hb dL_law_1119 rfl (lv_at hl 0 rfl) ?_
                                                            refine lv_iload_n (pc := 1120) hx hb dL_law_1120 rfl (lv_at hl 3 rfl) ?_
                                                            refine lv_iconst (pc := 1121) (v := 1) hx hb dL_law_1121 (by decide) ?_
                                                            refine g_iadd (pc := 1122) E dL_law_1122 hf (fun v368 hf => ?_)
                                                            refine g_sld (pc := 1123) E Y hX hbl hbA dL_law_1123 hf (fun v369 hf => ?_)
                                                            refine g_callL (pc := 1124) E Y hLK LK_good 53 S_53 V_8 o_X8_body k_127 [.int v369] rfl rfl ⟨Nat.le_of_ble_eq_true rfl, Nat.le_of_ble_eq_true rfl⟩ hl.1 (rest := []) rfl (Nat.le_of_ble_eq_true rfl) dL_law_1124 (fun z hz => m_X8_body_53 hz) hf (fun v370 μ371 H locs hf Y => ?_)
                                                            refine lv_pop (pc := 1127) hx hb dL_law_1127 rfl ?_
                                                            refine lv_goto (pc := 1128) (tgt := 1434) hx hb dL_law_1128 (by decide) ?_
                                                            refine g_iinc (pc := 1434) E (fun v372 => [(3, .int v372), (0, .ref b), (1, .ref (ad 0)), (2, .ref (ad 53))]) dL_law_1434 hl (k := 3) rfl (t := 6) (by decide) (by decide) (fun _ => rfl) hf (fun v372 hf ls hl => ?_)
                                                            refine lv_goto (pc := 1437) (tgt := 18) hx hb dL_law_1437 (by decide) ?_
                                                            exact ih _ _ _ _ _ hf Y (lv_sub hl [1, 2, 3, 0] rfl)
                                                          · rw [if_neg hc] at hf
                                                            have n_26 := ti_ne (n := 26) (by decide) hc
                                                            clear hc
                                                            by_cases hc : v3 = 27
                                                            · rw [if_pos hc] at hf
                                                              unfold fc_law_27 at hf
                                                              refine g_tabIn (pc := 33) (tgt := 1131) E dL_law_33 hc (n := 27) (by decide) (by decide) (by decide) rfl (by decide) ?_
                                                              refine lv_aload_n (pc := 1131) hx hb dL_law_1131 rfl (lv_at hl 1 rfl) ?_
                                                              refine lv_aload_n (pc := 1132) hx hb dL_law_1132 rfl (lv_at hl 0 rfl) ?_
                                                              refine lv_iload_n (pc := 1133) hx hb dL_law_1133 rfl (lv_at hl 3 rfl) ?_
                                                              refine lv_iconst (pc := 1134) (v := 1) hx hb dL_law_1134 (by decide) ?_
                                                              refine g_iadd (pc := 1135) E dL_law_1135 hf (fun v373 hf => ?_)
                                                              refine g_sld (pc := 1136) E Y hX hbl hbA dL_law_1136 hf (fun v374 hf => ?_)
                                                              refine lv_aload_n (pc := 1137) hx hb dL_law_1137 rfl (lv_at hl 0 rfl) ?_
                                                              refine lv_iload_n (pc := 1138) hx hb dL_law_1138 rfl (lv_at hl 3 rfl) ?_
                                                              refine lv_iconst (pc := 1139) (v := 2) hx hb dL_law_1139 (by decide) ?_
                                                              refine g_iadd (pc := 1140) E dL_law_1140 hf (fun v375 hf => ?_)
                                                              refine g_sld (pc := 1141) E Y hX hbl hbA dL_law_1141 hf (fun v376 hf => ?_)
                                                              refine lv_aload_n (pc := 1142) hx hb dL_law_1142 rfl (lv_at hl 0 rfl) ?_
                                                              refine lv_iload_n (pc := 1143) hx hb dL_law_1143 rfl (lv_at hl 3 rfl) ?_
                                                              refine lv_iconst (pc := 1144) (v := 3) hx hb dL_law_1144 (by decide) ?_
                                                              refine g_iadd (pc := 1145) E dL_law_1145 hf (fun v377 hf => ?_)
                                                              refine g_sld (pc := 1146) E Y hX hbl hbA dL_law_1146 hf (fun v378 hf => ?_)
                                                              refine g_callL (pc := 1147) E Y hLK LK_good 0 S_0 V_7 o_X7_sheet k_128 [.int v374, .int v376, .int v378] rfl rfl ⟨Nat.le_of_ble_eq_true rfl, Nat.le_of_ble_eq_true rfl⟩ hl.1 (rest := []) rfl (Nat.le_of_ble_eq_true rfl) dL_law_1147 (fun z hz => m_X7_sheet_0 hz) hf (fun v379 μ380 H locs hf Y => ?_)
                                                              refine lv_pop (pc := 1150) hx hb dL_law_1150 rfl ?_
                                                              refine lv_aload_n (pc := 1151) hx hb dL_law_1151 rfl (lv_at hl 2 rfl) ?_
                                                              refine lv_aload_n (pc := 1152) hx hb dL_law_1152 rfl (lv_at hl 0 rfl) ?_
                                                              refine lv_iload_n (pc := 1153) hx hb dL_law_1153 rfl (lv_at hl 3 rfl) ?_
                                                              refine lv_iconst (pc := 1154) (v := 1) hx hb dL_law_1154 (by decide) ?_
                                                              refine g_iadd (pc := 1155) E dL_law_1155 hf (fun v381 hf => ?_)
                                                              refine g_sld (pc := 1156) E Y hX hbl hbA dL_law_1156 hf (fun v382 hf => ?_)
                                                              refine lv_aload_n (pc := 1157) hx hb dL_law_1157 rfl (lv_at hl 0 rfl) ?_
                                                              refine lv_iload_n (pc := 1158) hx hb dL_law_1158 rfl (lv_at hl 3 rfl) ?_
                                                              refine lv_iconst (pc := 1159) (v := 2) hx hb dL_law_1159 (by decide) ?_
                                                              refine g_iadd (pc := 1160) E dL_law_1160 hf (fun v383 hf => ?_)
                                                              refine g_sld (pc := 1161) E Y hX hbl hbA dL_law_1161 hf (fun v384 hf => ?_)
                                                              refine lv_aload_n (pc := 1162) hx hb dL_law_1162 rfl (lv_at hl 0 rfl) ?_
                                                              refine lv_iload_n (pc := 1163) hx hb dL_law_1163 rfl (lv_at hl 3 rfl) ?_
                                                              refine lv_iconst (pc := 1164) (v := 3) hx hb dL_law_1164 (by decide) ?_
                                                              refine g_iadd (pc := 1165) E dL_law_1165 hf (fun v385 hf => ?_)
                                                              refine g_sld (pc := 1166) E Y hX hbl hbA dL_law_1166 hf (fun v386 hf => ?_)
                                                              refine g_callL (pc := 1167) E Y hLK LK_good 53 S_53 V_8 o_X8_sheet k_131 [.int v382, .int v384, .int v386] rfl rfl ⟨Nat.le_of_ble_eq_true rfl, Nat.le_of_ble_eq_true rfl⟩ hl.1 (rest := []) rfl (Nat.le_of_ble_eq_true rfl) dL_law_1167 (fun z hz => m_X8_sheet_53 hz) hf (fun v387 μ388 H locs hf Y => ?_)
                                                              refine lv_pop (pc := 1170) hx hb dL_law_1170 rfl ?_
                                                              refine lv_goto (pc := 1171) (tgt := 1434) hx hb dL_law_1171 (by decide) ?_
                                                              refine g_iinc (pc := 1434) E (fun v389 => [(3, .int v389), (0, .ref b), (1, .ref (ad 0)), (2, .ref (ad 53))]) dL_law_1434 hl (k := 3) rfl (t := 6) (by decide) (by decide) (fun _ => rfl) hf (fun v389 hf ls hl => ?_)
                                                              refine lv_goto (pc := 1437) (tgt := 18) hx hb dL_law_1437 (by decide) ?_
                                                              exact ih _ _ _ _ _ hf Y (lv_sub hl [1, 2, 3, 0] rfl)
                                                            · rw [if_neg hc] at hf
                                                              have n_27 := ti_ne (n := 27) (by decide) hc
                                                              clear hc
                                                              by_cases hc : v3 = 28
                                                              · rw [if_pos hc] at hf
                                                                unfold fc_law_28 at hf
                                                                refine g_tabIn (pc := 33) (tgt := 1174) E dL_law_33 hc (n := 28) (by decide) (by decide) (by decide) rfl (by decide) ?_
                                                                refine lv_aload_n (pc := 1174) hx hb dL_law_1174 rfl (lv_at hl 1 rfl) ?_
                                                                refine lv_aload_n (pc := 1175) hx hb dL_law_1175 rfl (lv_at hl 0 rfl) ?_
                                                                refine lv_iload_n (pc := 1176) hx hb dL_law_1176 rfl (lv_at hl 3 rfl) ?_
                                                                refine lv_iconst (pc := 1177) (v := 1) hx hb dL_law_1177 (by decide) ?_
                                                                refine g_iadd (pc := 1178) E dL_law_1178 hf (fun v390 hf => ?_)
                                                                refine g_sld (pc := 1179) E Y hX hbl hbA dL_law_1179 hf (fun v391 hf => ?_)
                                                                refine lv_aload_n (pc := 1180) hx hb dL_law_1180 rfl (lv_at hl 0 rfl) ?_
                                                                refine lv_iload_n (pc := 1181) hx hb dL_law_1181 rfl (lv_at hl 3 rfl) ?_
                                                                refine lv_iconst (pc := 1182) (v := 2) hx hb dL_law_1182 (by decide) ?_
                                                                refine g_iadd (pc := 1183) E dL_law_1183 hf (fun v392 hf => ?_)
                                                                refine g_sld (pc := 1184) E Y hX hbl hbA dL_law_1184 hf (fun v393 hf => ?_)
                                                                refine lv_aload_n (pc := 1185) hx hb dL_law_1185 rfl (lv_at hl 0 rfl) ?_
                                                                refine lv_iload_n (pc := 1186) hx hb dL_law_1186 rfl (lv_at hl 3 rfl) ?_
                                                                refine lv_iconst (pc := 1187) (v := 3) hx hb dL_law_1187 (by decide) ?_
                                                                refine g_iadd (pc := 1188) E dL_law_1188 hf (fun v394 hf => ?_)
                                                                refine g_sld (pc := 1189) E Y hX hbl hbA dL_law_1189 hf (fun v395 hf => ?_)
                                                                refine g_callL (pc := 1190) E Y hLK LK_good 0 S_0 V_7 o_X7_put k_132 [.int v391, .int v393, .int v395] rfl rfl ⟨Nat.le_of_ble_eq_true rfl, Nat.le_of_ble_eq_true rfl⟩ hl.1 (rest := []) rfl (Nat.le_of_ble_eq_true rfl) dL_law_1190 (fun z hz => m_X7_put_0 hz) hf (fun v396 μ397 H locs hf Y => ?_)
                                                                refine lv_pop (pc := 1193) hx hb dL_law_1193 rfl ?_
                                                                refine lv_aload_n (pc := 1194) hx hb dL_law_1194 rfl (lv_at hl 2 rfl) ?_
                                                                refine lv_aload_n (pc := 1195) hx hb dL_law_1195 rfl (lv_at hl 0 rfl) ?_
                                                                refine lv_iload_n (pc := 1196) hx hb dL_law_1196 rfl (lv_at hl 3 rfl) ?_
                                                                refine lv_iconst (pc := 1197) (v := 1) hx hb dL_law_1197 (by decide) ?_
                                                                refine g_iadd (pc := 1198) E dL_law_1198 hf (fun v398 hf => ?_)
                                                                refine g_sld (pc := 1199) E Y hX hbl hbA dL_law_1199 hf (fun v399 hf => ?_)
                                                                refine lv_aload_n (pc := 1200) hx hb dL_law_1200 rfl (lv_at hl 0 rfl) ?_
                                                                refine lv_iload_n (pc := 1201) hx hb dL_law_1201 rfl (lv_at hl 3 rfl) ?_
                                                                refine lv_iconst (pc := 1202) (v := 2) hx hb dL_law_1202 (by decide) ?_
                                                                refine g_iadd (pc := 1203) E dL_law_1203 hf (fun v400 hf => ?_)
                                                                refine g_sld (pc := 1204) E Y hX hbl hbA dL_law_1204 hf (fun v401 hf => ?_)
                                                                refine lv_aload_n (pc := 1205) hx hb dL_law_1205 rfl (lv_at hl 0 rfl) ?_
                                                                refine lv_iload_n (pc := 1206) hx hb dL_law_1206 rfl (lv_at hl 3 rfl) ?_
                                                                refine lv_iconst (pc := 1207) (v := 3) hx hb dL_law_1207 (by decide) ?_
                                                                refine g_iadd (pc := 1208) E dL_law_1208 hf (fun v402 hf => ?_)
                                                                refine g_sld (pc := 1209) E Y hX hbl hbA dL_law_1209 hf (fun v403 hf => ?_)
                                                                refine g_callL (pc := 1210) E Y hLK LK_good 53 S_53 V_8 o_X8_put k_135 [.int v399, .int v401, .int v403] rfl rfl ⟨Nat.le_of_ble_eq_true rfl, Nat.le_of_ble_eq_true rfl⟩ hl.1 (rest := []) rfl (Nat.le_of_ble_eq_true rfl) dL_law_1210 (fun z hz => m_X8_put_53 hz) hf (fun v404 μ405 H locs hf Y => ?_)
                                                                refine lv_pop (pc := 1213) hx hb dL_law_1213 rfl ?_
                                                                refine lv_goto (pc := 1214) (tgt := 1434) hx hb dL_law_1214 (by decide) ?_
                                                                refine g_iinc (pc := 1434) E (fun v406 => [(3, .int v406), (0, .ref b), (1, .ref (ad 0)), (2, .ref (ad 53))]) dL_law_1434 hl (k := 3) rfl (t := 6) (by decide) (by decide) (fun _ => rfl) hf (fun v406 hf ls hl => ?_)
                                                                refine lv_goto (pc := 1437) (tgt := 18) hx hb dL_law_1437 (by decide) ?_
                                                                exact ih _ _ _ _ _ hf Y (lv_sub hl [1, 2, 3, 0] rfl)
                                                              · rw [if_neg hc] at hf
                                                                have n_28 := ti_ne (n := 28) (by decide) hc
                                                                clear hc
                                                                by_cases hc : v3 = 29
                                                                · rw [if_pos hc] at hf
                                                                  unfold fc_law_29 at hf
                                                                  refine g_tabIn (pc := 33) (tgt := 1217) E dL_law_33 hc (n := 29) (by decide) (by decide) (by decide) rfl (by decide) ?_
                                                                  refine lv_aload_n (pc := 1217) hx hb dL_law_1217 rfl (lv_at hl 1 rfl) ?_
                                                                  refine lv_aload_n (pc := 1218) hx hb dL_law_1218 rfl (lv_at hl 0 rfl) ?_
                                                                  refine lv_iload_n (pc := 1219) hx hb dL_law_1219 rfl (lv_at hl 3 rfl) ?_
                                                                  refine lv_iconst (pc := 1220) (v := 1) hx hb dL_law_1220 (by decide) ?_
                                                                  refine g_iadd (pc := 1221) E dL_law_1221 hf (fun v407 hf => ?_)
                                                                  refine g_sld (pc := 1222) E Y hX hbl hbA dL_law_1222 hf (fun v408 hf => ?_)
                                                                  refine lv_aload_n (pc := 1223) hx hb dL_law_1223 rfl (lv_at hl 0 rfl) ?_
                                                                  refine lv_iload_n (pc := 1224) hx hb dL_law_1224 rfl (lv_at hl 3 rfl) ?_
                                                                  refine lv_iconst (pc := 1225) (v := 2) hx hb dL_law_1225 (by decide) ?_
                                                                  refine g_iadd (pc := 1226) E dL_law_1226 hf (fun v409 hf => ?_)
                                                                  refine g_sld (pc := 1227) E Y hX hbl hbA dL_law_1227 hf (fun v410 hf => ?_)
                                                                  refine lv_aload_n (pc := 1228) hx hb dL_law_1228 rfl (lv_at hl 0 rfl) ?_
                                                                  refine lv_iload_n (pc := 1229) hx hb dL_law_1229 rfl (lv_at hl 3 rfl) ?_
                                                                  refine lv_iconst (pc := 1230) (v := 3) hx hb dL_law_1230 (by decide) ?_
                                                                  refine g_iadd (pc := 1231) E dL_law_1231 hf (fun v411 hf => ?_)
                                                                  refine g_sld (pc := 1232) E Y hX hbl hbA dL_law_1232 hf (fun v412 hf => ?_)
                                                                  refine lv_aload_n (pc := 1233) hx hb dL_law_1233 rfl (lv_at hl 0 rfl) ?_
                                                                  refine lv_iload_n (pc := 1234) hx hb dL_law_1234 rfl (lv_at hl 3 rfl) ?_
                                                                  refine lv_iconst (pc := 1235) (v := 4) hx hb dL_law_1235 (by decide) ?_
                                                                  refine g_iadd (pc := 1236) E dL_law_1236 hf (fun v413 hf => ?_)
                                                                  refine g_sld (pc := 1237) E Y hX hbl hbA dL_law_1237 hf (fun v414 hf => ?_)
                                                                  refine lv_aload_n (pc := 1238) hx hb dL_law_1238 rfl (lv_at hl 0 rfl) ?_
                                                                  refine lv_iload_n (pc := 1239) hx hb dL_law_1239 rfl (lv_at hl 3 rfl) ?_
                                                                  refine lv_iconst (pc := 1240) (v := 5) hx hb dL_law_1240 (by decide) ?_
                                                                  refine g_iadd (pc := 1241) E dL_law_1241 hf (fun v415 hf => ?_)
                                                                  refine g_sld (pc := 1242) E Y hX hbl hbA dL_law_1242 hf (fun v416 hf => ?_)
                                                                  refine g_callL (pc := 1243) E Y hLK LK_good 0 S_0 V_7 o_X7_move k_136 [.int v408, .int v410, .int v412, .int v414, .int v416] rfl rfl ⟨Nat.le_of_ble_eq_true rfl, Nat.le_of_ble_eq_true rfl⟩ hl.1 (rest := []) rfl (Nat.le_of_ble_eq_true rfl) dL_law_1243 (fun z hz => m_X7_move_0 hz) hf (fun v417 μ418 H locs hf Y => ?_)
                                                                  refine lv_pop (pc := 1246) hx hb dL_law_1246 rfl ?_
                                                                  refine lv_aload_n (pc := 1247) hx hb dL_law_1247 rfl (lv_at hl 2 rfl) ?_
                                                                  refine lv_aload_n (pc := 1248) hx hb dL_law_1248 rfl (lv_at hl 0 rfl) ?_
                                                                  refine lv_iload_n (pc := 1249) hx hb dL_law_1249 rfl (lv_at hl 3 rfl) ?_
                                                                  refine lv_iconst (pc := 1250) (v := 1) hx hb dL_law_1250 (by decide) ?_
                                                                  refine g_iadd (pc := 1251) E dL_law_1251 hf (fun v419 hf => ?_)
                                                                  refine g_sld (pc := 1252) E Y hX hbl hbA dL_law_1252 hf (fun v420 hf => ?_)
                                                                  refine lv_aload_n (pc := 1253) hx hb dL_law_1253 rfl (lv_at hl 0 rfl) ?_
                                                                  refine lv_iload_n (pc := 1254) hx hb dL_law_1254 rfl (lv_at hl 3 rfl) ?_
                                                                  refine lv_iconst (pc := 1255) (v := 2) hx hb dL_law_1255 (by decide) ?_
                                                                  refine g_iadd (pc := 1256) E dL_law_1256 hf (fun v421 hf => ?_)
                                                                  refine g_sld (pc := 1257) E Y hX hbl hbA dL_law_1257 hf (fun v422 hf => ?_)
                                                                  refine lv_aload_n (pc := 1258) hx hb dL_law_1258 rfl (lv_at hl 0 rfl) ?_
                                                                  refine lv_iload_n (pc := 1259) hx hb dL_law_1259 rfl (lv_at hl 3 rfl) ?_
                                                                  refine lv_iconst (pc := 1260) (v := 3) hx hb dL_law_1260 (by decide) ?_
                                                                  refine g_iadd (pc := 1261) E dL_law_1261 hf (fun v423 hf => ?_)
                                                                  refine g_sld (pc := 1262) E Y hX hbl hbA dL_law_1262 hf (fun v424 hf => ?_)
                                                                  refine lv_aload_n (pc := 1263) hx hb dL_law_1263 rfl (lv_at hl 0 rfl) ?_
                                                                  refine lv_iload_n (pc := 1264) hx hb dL_law_1264 rfl (lv_at hl 3 rfl) ?_
                                                                  refine lv_iconst (pc := 1265) (v := 4) hx hb dL_law_1265 (by decide) ?_
                                                                  refine g_iadd (pc := 1266) E dL_law_1266 hf (fun v425 hf => ?_)
                                                                  refine g_sld (pc := 1267) E Y hX hbl hbA dL_law_1267 hf (fun v426 hf => ?_)
                                                                  refine lv_aload_n (pc := 1268) hx hb dL_law_1268 rfl (lv_at hl 0 rfl) ?_
                                                                  refine lv_iload_n (pc := 1269) hx hb dL_law_1269 rfl (lv_at hl 3 rfl) ?_
                                                                  refine lv_iconst (pc := 1270) (v := 5) hx hb dL_law_1270 (by decide) ?_
                                                                  refine g_iadd (pc := 1271) E dL_law_1271 hf (fun v427 hf => ?_)
                                                                  refine g_sld (pc := 1272) E Y hX hbl hbA dL_law_1272 hf (fun v428 hf => ?_)
                                                                  refine g_callL (pc := 1273) E Y hLK LK_good 53 S_53 V_8 o_X8_move k_140 [.int v420, .int v422, .int v424, .int v426, .int v428] rfl rfl ⟨Nat.le_of_ble_eq_true rfl, Nat.le_of_ble_eq_true rfl⟩ hl.1 (rest := []) rfl (Nat.le_of_ble_eq_true rfl) dL_law_1273 (fun z hz => m_X8_move_53 hz) hf (fun v429 μ430 H locs hf Y => ?_)
                                                                  refine lv_pop (pc := 1276) hx hb dL_law_1276 rfl ?_
                                                                  refine lv_goto (pc := 1277) (tgt := 1434) hx hb dL_law_1277 (by decide) ?_
                                                                  refine g_iinc (pc := 1434) E (fun v431 => [(3, .int v431), (0, .ref b), (1, .ref (ad 0)), (2, .ref (ad 53))]) dL_law_1434 hl (k := 3) rfl (t := 6) (by decide) (by decide) (fun _ => rfl) hf (fun v431 hf ls hl => ?_)
                                                                  refine lv_goto (pc := 1437) (tgt := 18) hx hb dL_law_1437 (by decide) ?_
                                                                  exact ih _ _ _ _ _ hf Y (lv_sub hl [1, 2, 3, 0] rfl)
                                                                · rw [if_neg hc] at hf
                                                                  have n_29 := ti_ne (n := 29) (by decide) hc
                                                                  clear hc
                                                                  by_cases hc : v3 = 30
                                                                  · rw [if_pos hc] at hf
                                                                    unfold fc_law_30 at hf
                                                                    refine g_tabIn (pc := 33) (tgt := 1280) E dL_law_33 hc (n := 30) (by decide) (by decide) (by decide) rfl (by decide) ?_
                                                                    refine lv_aload_n (pc := 1280) hx hb dL_law_1280 rfl (lv_at hl 1 rfl) ?_
                                                                    refine lv_aload_n (pc := 1281) hx hb dL_law_1281 rfl (lv_at hl 0 rfl) ?_
                                                                    refine lv_iload_n (pc := 1282) hx hb dL_law_1282 rfl (lv_at hl 3 rfl) ?_
                                                                    refine lv_iconst (pc := 1283) (v := 1) hx hb dL_law_1283 (by decide) ?_
                                                                    refine g_iadd (pc := 1284) E dL_law_1284 hf (fun v432 hf => ?_)
                                                                    refine g_sld (pc := 1285) E Y hX hbl hbA dL_law_1285 hf (fun v433 hf => ?_)
                                                                    refine g_callL (pc := 1286) E Y hLK LK_good 0 S_0 V_7 o_X7_weightsBy k_141 [.int v433] rfl rfl ⟨Nat.le_of_ble_eq_true rfl, Nat.le_of_ble_eq_true rfl⟩ hl.1 (rest := []) rfl (Nat.le_of_ble_eq_true rfl) dL_law_1286 (fun z hz => m_X7_weightsBy_0 hz) hf (fun v434 μ435 H locs hf Y => ?_)
                                                                    refine lv_pop (pc := 1289) hx hb dL_law_1289 rfl ?_
                                                                    refine lv_aload_n (pc := 1290) hx hb dL_law_1290 rfl (lv_at hl 2 rfl) ?_
                                                                    refine lv_aload_n (pc := 1291) hx hb dL_law_1291 rfl (lv_at hl 0 rfl) ?_
                                                                    refine lv_iload_n (pc := 1292) hx hb dL_law_1292 rfl (lv_at hl 3 rfl) ?_
                                                                    refine lv_iconst (pc := 1293) (v := 1) hx hb dL_law_1293 (by decide) ?_
                                                                    refine g_iadd (pc := 1294) E dL_law_1294 hf (fun v436 hf => ?_)
                                                                    refine g_sld (pc := 1295) E Y hX hbl hbA dL_law_1295 hf (fun v437 hf => ?_)
                                                                    refine g_callL (pc := 1296) E Y hLK LK_good 53 S_53 V_8 o_X8_weightsBy k_144 [.int v437] rfl rfl ⟨Nat.le_of_ble_eq_true rfl, Nat.le_of_ble_eq_true rfl⟩ hl.1 (rest := []) rfl (Nat.le_of_ble_eq_true rfl) dL_law_1296 (fun z hz => m_X8_weightsBy_53 hz) hf (fun v438 μ439 H locs hf Y => ?_)
                                                                    refine lv_pop (pc := 1299) hx hb dL_law_1299 rfl ?_
                                                                    refine lv_goto (pc := 1300) (tgt := 1434) hx hb dL_law_1300 (by decide) ?_
                                                                    refine g_iinc (pc := 1434) E (fun v440 => [(3, .int v440), (0, .ref b), (1, .ref (ad 0)), (2, .ref (ad 53))]) dL_law_1434 hl (k := 3) rfl (t := 6) (by decide) (by decide) (fun _ => rfl) hf (fun v440 hf ls hl => ?_)
                                                                    refine lv_goto (pc := 1437) (tgt := 18) hx hb dL_law_1437 (by decide) ?_
                                                                    exact ih _ _ _ _ _ hf Y (lv_sub hl [1, 2, 3, 0] rfl)
                                                                  · rw [if_neg hc] at hf
                                                                    have n_30 := ti_ne (n := 30) (by decide) hc
                                                                    clear hc
                                                                    by_cases hc : v3 = 31
                                                                    · rw [if_pos hc] at hf
                                                                      unfold fc_law_31 at hf
                                                                      refine g_tabIn (pc := 33) (tgt := 1303) E dL_law_33 hc (n := 31) (by decide) (by decide) (by decide) rfl (by decide) ?_
                                                                      refine lv_aload_n (pc := 1303) hx hb dL_law_1303 rfl (lv_at hl 1 rfl) ?_
                                                                      refine lv_aload_n (pc := 1304) hx hb dL_law_1304 rfl (lv_at hl 0 rfl) ?_
                                                                      refine lv_iload_n (pc := 1305) hx hb dL_law_1305 rfl (lv_at hl 3 rfl) ?_
                                                                      refine lv_iconst (pc := 1306) (v := 1) hx hb dL_law_1306 (by decide) ?_
                                                                      refine g_iadd (pc := 1307) E dL_law_1307 hf (fun v441 hf => ?_)
                                                                      refine g_sld (pc := 1308) E Y hX hbl hbA dL_law_1308 hf (fun v442 hf => ?_)
                                                                      refine g_callL (pc := 1309) E Y hLK LK_good 0 S_0 V_7 o_X7_judge k_145 [.int v442] rfl rfl ⟨Nat.le_of_ble_eq_true rfl, Nat.le_of_ble_eq_true rfl⟩ hl.1 (rest := []) rfl (Nat.le_of_ble_eq_true rfl) dL_law_1309 (fun z hz => m_X7_judge_0 hz) hf (fun v443 μ444 H locs hf Y => ?_)
                                                                      refine lv_pop (pc := 1312) hx hb dL_law_1312 rfl ?_
                                                                      refine lv_aload_n (pc := 1313) hx hb dL_law_1313 rfl (lv_at hl 2 rfl) ?_
                                                                      refine lv_aload_n (pc := 1314) hx hb dL_law_1314 rfl (lv_at hl 0 rfl) ?_
                                                                      refine lv_iload_n (pc := 1315) hx hb dL_law_1315 rfl (lv_at hl 3 rfl) ?_
                                                                      refine lv_iconst (pc := 1316) (v := 1) hx hb dL_law_1316 (by decide) ?_
                                                                      refine g_iadd (pc := 1317) E dL_law_1317 hf (fun v445 hf => ?_)
                                                                      refine g_sld (pc := 1318) E Y hX hbl hbA dL_law_1318 hf (fun v446 hf => ?_)
                                                                      refine g_callL (pc := 1319) E Y hLK LK_good 53 S_53 V_8 o_X8_judge k_148 [.int v446] rfl rfl ⟨Nat.le_of_ble_eq_true rfl, Nat.le_of_ble_eq_true rfl⟩ hl.1 (rest := []) rfl (Nat.le_of_ble_eq_true rfl) dL_law_1319 (fun z hz => m_X8_judge_53 hz) hf (fun v447 μ448 H locs hf Y => ?_)
                                                                      refine lv_pop (pc := 1322) hx hb dL_law_1322 rfl ?_
                                                                      refine lv_goto (pc := 1323) (tgt := 1434) hx hb dL_law_1323 (by decide) ?_
                                                                      refine g_iinc (pc := 1434) E (fun v449 => [(3, .int v449), (0, .ref b), (1, .ref (ad 0)), (2, .ref (ad 53))]) dL_law_1434 hl (k := 3) rfl (t := 6) (by decide) (by decide) (fun _ => rfl) hf (fun v449 hf ls hl => ?_)
                                                                      refine lv_goto (pc := 1437) (tgt := 18) hx hb dL_law_1437 (by decide) ?_
                                                                      exact ih _ _ _ _ _ hf Y (lv_sub hl [1, 2, 3, 0] rfl)
                                                                    · rw [if_neg hc] at hf
                                                                      have n_31 := ti_ne (n := 31) (by decide) hc
                                                                      clear hc
                                                                      by_cases hc : v3 = 32
                                                                      · rw [if_pos hc] at hf
                                                                        unfold fc_law_32 at hf
                                                                        refine g_tabIn (pc := 33) (tgt := 1326) E dL_law_33 hc (n := 32) (by decide) (by decide) (by decide) rfl (by decide) ?_
                                                                        refine lv_aload_n (pc := 1326) hx hb dL_law_1326 rfl (lv_at hl 1 rfl) ?_
                                                                        refine g_callL (pc := 1327) E Y hLK LK_good 0 S_0 V_7 o_X7_image k_149 [] rfl rfl ⟨Nat.le_of_ble_eq_true rfl, Nat.le_of_ble_eq_true rfl⟩ hl.1 (rest := []) rfl (Nat.le_of_ble_eq_true rfl) dL_law_1327 (fun z hz => m_X7_image_0 hz) hf (fun v450 μ451 H locs hf Y => ?_)
                                                                        refine lv_pop (pc := 1330) hx hb dL_law_1330 rfl ?_
                                                                        refine lv_aload_n (pc := 1331) hx hb dL_law_1331 rfl (lv_at hl 2 rfl) ?_
                                                                        refine g_callL (pc := 1332) E Y hLK LK_good 53 S_53 V_8 o_X8_image k_153 [] rfl rfl ⟨Nat.le_of_ble_eq_true rfl, Nat.le_of_ble_eq_true rfl⟩ hl.1 (rest := []) rfl (Nat.le_of_ble_eq_true rfl) dL_law_1332 (fun z hz => m_X8_image_53 hz) hf (fun v452 μ453 H locs hf Y => ?_)
                                                                        refine lv_pop (pc := 1335) hx hb dL_law_1335 rfl ?_
                                                                        refine lv_goto (pc := 1336) (tgt := 1434) hx hb dL_law_1336 (by decide) ?_
                                                                        refine g_iinc (pc := 1434) E (fun v454 => [(3, .int v454), (0, .ref b), (1, .ref (ad 0)), (2, .ref (ad 53))]) dL_law_1434 hl (k := 3) rfl (t := 6) (by decide) (by decide) (fun _ => rfl) hf (fun v454 hf ls hl => ?_)
                                                                        refine lv_goto (pc := 1437) (tgt := 18) hx hb dL_law_1437 (by decide) ?_
                                                                        exact ih _ _ _ _ _ hf Y (lv_sub hl [1, 2, 3, 0] rfl)
                                                                      · rw [if_neg hc] at hf
                                                                        have n_32 := ti_ne (n := 32) (by decide) hc
                                                                        clear hc
                                                                        by_cases hc : v3 = 33
                                                                        · rw [if_pos hc] at hf
                                                                          unfold fc_law_33 at hf
                                                                          refine g_tabIn (pc := 33) (tgt := 1339) E dL_law_33 hc (n := 33) (by decide) (by decide) (by decide) rfl (by decide) ?_
                                                                          refine lv_aload_n (pc := 1339) hx hb dL_law_1339 rfl (lv_at hl 1 rfl) ?_
                                                                          refine g_callL (pc := 1340) E Y hLK LK_good 0 S_0 V_7 o_X7_restore k_154 [] rfl rfl ⟨Nat.le_of_ble_eq_true rfl, Nat.le_of_ble_eq_true rfl⟩ hl.1 (rest := []) rfl (Nat.le_of_ble_eq_true rfl) dL_law_1340 (fun z hz => m_X7_restore_0 hz) hf (fun v455 μ456 H locs hf Y => ?_)
                                                                          refine lv_pop (pc := 1343) hx hb dL_law_1343 rfl ?_
                                                                          refine lv_aload_n (pc := 1344) hx hb dL_law_1344 rfl (lv_at hl 2 rfl) ?_
                                                                          refine g_callL (pc := 1345) E Y hLK LK_good 53 S_53 V_8 o_X8_restore k_157 [] rfl rfl ⟨Nat.le_of_ble_eq_true rfl, Nat.le_of_ble_eq_true rfl⟩ hl.1 (rest := []) rfl (Nat.le_of_ble_eq_true rfl) dL_law_1345 (fun z hz => m_X8_restore_53 hz) hf (fun v457 μ458 H locs hf Y => ?_)
                                                                          refine lv_pop (pc := 1348) hx hb dL_law_1348 rfl ?_
                                                                          refine lv_goto (pc := 1349) (tgt := 1434) hx hb dL_law_1349 (by decide) ?_
                                                                          refine g_iinc (pc := 1434) E (fun v459 => [(3, .int v459), (0, .ref b), (1, .ref (ad 0)), (2, .ref (ad 53))]) dL_law_1434 hl (k := 3) rfl (t := 6) (by decide) (by decide) (fun _ => rfl) hf (fun v459 hf ls hl => ?_)
                                                                          refine lv_goto (pc := 1437) (tgt := 18) hx hb dL_law_1437 (by decide) ?_
                                                                          exact ih _ _ _ _ _ hf Y (lv_sub hl [1, 2, 3, 0] rfl)
                                                                        · rw [if_neg hc] at hf
                                                                          have n_33 := ti_ne (n := 33) (by decide) hc
                                                                          clear hc
                                                                          by_cases hc : v3 = 34
                                                                          · rw [if_pos hc] at hf
                                                                            unfold fc_law_34 at hf
                                                                            refine g_tabIn (pc := 33) (tgt := 1352) E dL_law_33 hc (n := 34) (by decide) (by decide) (by decide) rfl (by decide) ?_
                                                                            refine lv_aload_n (pc := 1352) hx hb dL_law_1352 rfl (lv_at hl 1 rfl) ?_
                                                                            refine lv_aload_n (pc := 1353) hx hb dL_law_1353 rfl (lv_at hl 0 rfl) ?_
                                                                            refine lv_iload_n (pc := 1354) hx hb dL_law_1354 rfl (lv_at hl 3 rfl) ?_
                                                                            refine lv_iconst (pc := 1355) (v := 1) hx hb dL_law_1355 (by decide) ?_
                                                                            refine g_iadd (pc := 1356) E dL_law_1356 hf (fun v460 hf => ?_)
                                                                            refine g_sld (pc := 1357) E Y hX hbl hbA dL_law_1357 hf (fun v461 hf => ?_)
                                                                            refine g_callL (pc := 1358) E Y hLK LK_good 0 S_0 V_7 o_X7_tell k_158 [.int v461] rfl rfl ⟨Nat.le_of_ble_eq_true rfl, Nat.le_of_ble_eq_true rfl⟩ hl.1 (rest := []) rfl (Nat.le_of_ble_eq_true rfl) dL_law_1358 (fun z hz => m_X7_tell_0 hz) hf (fun v462 μ463 H locs hf Y => ?_)
                                                                            refine lv_pop (pc := 1361) hx hb dL_law_1361 rfl ?_
                                                                            refine lv_aload_n (pc := 1362) hx hb dL_law_1362 rfl (lv_at hl 2 rfl) ?_
                                                                            refine lv_aload_n (pc := 1363) hx hb dL_law_1363 rfl (lv_at hl 0 rfl) ?_
                                                                            refine lv_iload_n (pc := 1364) hx hb dL_law_1364 rfl (lv_at hl 3 rfl) ?_
                                                                            refine lv_iconst (pc := 1365) (v := 1) hx hb dL_law_1365 (by decide) ?_
                                                                            refine g_iadd (pc := 1366) E dL_law_1366 hf (fun v464 hf => ?_)
                                                                            refine g_sld (pc := 1367) E Y hX hbl hbA dL_law_1367 hf (fun v465 hf => ?_)
                                                                            refine g_callL (pc := 1368) E Y hLK LK_good 53 S_53 V_8 o_X8_tell k_161 [.int v465] rfl rfl ⟨Nat.le_of_ble_eq_true rfl, Nat.le_of_ble_eq_true rfl⟩ hl.1 (rest := []) rfl (Nat.le_of_ble_eq_true rfl) dL_law_1368 (fun z hz => m_X8_tell_53 hz) hf (fun v466 μ467 H locs hf Y => ?_)
                                                                            refine lv_pop (pc := 1371) hx hb dL_law_1371 rfl ?_
                                                                            refine lv_goto (pc := 1372) (tgt := 1434) hx hb dL_law_1372 (by decide) ?_
                                                                            refine g_iinc (pc := 1434) E (fun v468 => [(3, .int v468), (0, .ref b), (1, .ref (ad 0)), (2, .ref (ad 53))]) dL_law_1434 hl (k := 3) rfl (t := 6) (by decide) (by decide) (fun _ => rfl) hf (fun v468 hf ls hl => ?_)
                                                                            refine lv_goto (pc := 1437) (tgt := 18) hx hb dL_law_1437 (by decide) ?_
                                                                            exact ih _ _ _ _ _ hf Y (lv_sub hl [1, 2, 3, 0] rfl)
                                                                          · rw [if_neg hc] at hf
                                                                            have n_34 := ti_ne (n := 34) (by decide) hc
                                                                            clear hc
                                                                            by_cases hc : v3 = 35
                                                                            · rw [if_pos hc] at hf
                                                                              unfold fc_law_35 at hf
                                                                              refine g_tabIn (pc := 33) (tgt := 1375) E dL_law_33 hc (n := 35) (by decide) (by decide) (by decide) rfl (by decide) ?_
                                                                              refine lv_aload_n (pc := 1375) hx hb dL_law_1375 rfl (lv_at hl 1 rfl) ?_
                                                                              refine g_callL (pc := 1376) E Y hLK LK_good 0 S_0 V_7 o_X7_check k_162 [] rfl rfl ⟨Nat.le_of_ble_eq_true rfl, Nat.le_of_ble_eq_true rfl⟩ hl.1 (rest := []) rfl (Nat.le_of_ble_eq_true rfl) dL_law_1376 (fun z hz => m_X7_check_0 hz) hf (fun v469 μ470 H locs hf Y => ?_)
                                                                              refine lv_pop (pc := 1379) hx hb dL_law_1379 rfl ?_
                                                                              refine lv_aload_n (pc := 1380) hx hb dL_law_1380 rfl (lv_at hl 2 rfl) ?_
                                                                              refine g_callL (pc := 1381) E Y hLK LK_good 53 S_53 V_8 o_X8_check k_165 [] rfl rfl ⟨Nat.le_of_ble_eq_true rfl, Nat.le_of_ble_eq_true rfl⟩ hl.1 (rest := []) rfl (Nat.le_of_ble_eq_true rfl) dL_law_1381 (fun z hz => m_X8_check_53 hz) hf (fun v471 μ472 H locs hf Y => ?_)
                                                                              refine lv_pop (pc := 1384) hx hb dL_law_1384 rfl ?_
                                                                              refine lv_goto (pc := 1385) (tgt := 1434) hx hb dL_law_1385 (by decide) ?_
                                                                              refine g_iinc (pc := 1434) E (fun v473 => [(3, .int v473), (0, .ref b), (1, .ref (ad 0)), (2, .ref (ad 53))]) dL_law_1434 hl (k := 3) rfl (t := 6) (by decide) (by decide) (fun _ => rfl) hf (fun v473 hf ls hl => ?_)
                                                                              refine lv_goto (pc := 1437) (tgt := 18) hx hb dL_law_1437 (by decide) ?_
                                                                              exact ih _ _ _ _ _ hf Y (lv_sub hl [1, 2, 3, 0] rfl)
                                                                            · rw [if_neg hc] at hf
                                                                              have n_35 := ti_ne (n := 35) (by decide) hc
                                                                              clear hc
                                                                              by_cases hc : v3 = 36
                                                                              · rw [if_pos hc] at hf
                                                                                unfold fc_law_36 at hf
                                                                                refine g_tabIn (pc := 33) (tgt := 1388) E dL_law_33 hc (n := 36) (by decide) (by decide) (by decide) rfl (by decide) ?_
                                                                                refine lv_aload_n (pc := 1388) hx hb dL_law_1388 rfl (lv_at hl 1 rfl) ?_
                                                                                refine lv_aload_n (pc := 1389) hx hb dL_law_1389 rfl (lv_at hl 0 rfl) ?_
                                                                                refine lv_iload_n (pc := 1390) hx hb dL_law_1390 rfl (lv_at hl 3 rfl) ?_
                                                                                refine lv_iconst (pc := 1391) (v := 1) hx hb dL_law_1391 (by decide) ?_
                                                                                refine g_iadd (pc := 1392) E dL_law_1392 hf (fun v474 hf => ?_)
                                                                                refine g_sld (pc := 1393) E Y hX hbl hbA dL_law_1393 hf (fun v475 hf => ?_)
                                                                                refine g_callL (pc := 1394) E Y hLK LK_good 0 S_0 V_7 o_X7_count k_166 [.int v475] rfl rfl ⟨Nat.le_of_ble_eq_true rfl, Nat.le_of_ble_eq_true rfl⟩ hl.1 (rest := []) rfl (Nat.le_of_ble_eq_true rfl) dL_law_1394 (fun z hz => m_X7_count_0 hz) hf (fun v476 μ477 H locs hf Y => ?_)
                                                                                refine lv_pop (pc := 1397) hx hb dL_law_1397 rfl ?_
                                                                                refine lv_aload_n (pc := 1398) hx hb dL_law_1398 rfl (lv_at hl 2 rfl) ?_
                                                                                refine lv_aload_n (pc := 1399) hx hb dL_law_1399 rfl (lv_at hl 0 rfl) ?_
                                                                                refine lv_iload_n (pc := 1400) hx hb dL_law_1400 rfl (lv_at hl 3 rfl) ?_
                                                                                refine lv_iconst (pc := 1401) (v := 1) hx hb dL_law_1401 (by decide) ?_
                                                                                refine g_iadd (pc := 1402) E dL_law_1402 hf (fun v478 hf => ?_)
                                                                                refine g_sld (pc := 1403) E Y hX hbl hbA dL_law_1403 hf (fun v479 hf => ?_)
                                                                                refine g_callL (pc := 1404) E Y hLK LK_good 53 S_53 V_8 o_X8_count k_169 [.int v479] rfl rfl ⟨Nat.le_of_ble_eq_true rfl, Nat.le_of_ble_eq_true rfl⟩ hl.1 (rest := []) rfl (Nat.le_of_ble_eq_true rfl) dL_law_1404 (fun z hz => m_X8_count_53 hz) hf (fun v480 μ481 H locs hf Y => ?_)
                                                                                refine lv_pop (pc := 1407) hx hb dL_law_1407 rfl ?_
                                                                                refine lv_goto (pc := 1408) (tgt := 1434) hx hb dL_law_1408 (by decide) ?_
                                                                                refine g_iinc (pc := 1434) E (fun v482 => [(3, .int v482), (0, .ref b), (1, .ref (ad 0)), (2, .ref (ad 53))]) dL_law_1434 hl (k := 3) rfl (t := 6) (by decide) (by decide) (fun _ => rfl) hf (fun v482 hf ls hl => ?_)
                                                                                refine lv_goto (pc := 1437) (tgt := 18) hx hb dL_law_1437 (by decide) ?_
                                                                                exact ih _ _ _ _ _ hf Y (lv_sub hl [1, 2, 3, 0] rfl)
                                                                              · rw [if_neg hc] at hf
                                                                                have n_36 := ti_ne (n := 36) (by decide) hc
                                                                                clear hc
                                                                                by_cases hc : v3 = 37
                                                                                · rw [if_pos hc] at hf
                                                                                  unfold fc_law_37 at hf
                                                                                  refine g_tabIn (pc := 33) (tgt := 1411) E dL_law_33 hc (n := 37) (by decide) (by decide) (by decide) rfl (by decide) ?_
                                                                                  refine lv_aload_n (pc := 1411) hx hb dL_law_1411 rfl (lv_at hl 1 rfl) ?_
                                                                                  refine lv_aload_n (pc := 1412) hx hb dL_law_1412 rfl (lv_at hl 0 rfl) ?_
                                                                                  refine lv_iload_n (pc := 1413) hx hb dL_law_1413 rfl (lv_at hl 3 rfl) ?_
                                                                                  refine lv_iconst (pc := 1414) (v := 1) hx hb dL_law_1414 (by decide) ?_
                                                                                  refine g_iadd (pc := 1415) E dL_law_1415 hf (fun v483 hf => ?_)
                                                                                  refine g_sld (pc := 1416) E Y hX hbl hbA dL_law_1416 hf (fun v484 hf => ?_)
                                                                                  refine g_callL (pc := 1417) E Y hLK LK_good 0 S_0 V_7 o_X7_told k_170 [.int v484] rfl rfl ⟨Nat.le_of_ble_eq_true rfl, Nat.le_of_ble_eq_true rfl⟩ hl.1 (rest := []) rfl (Nat.le_of_ble_eq_true rfl) dL_law_1417 (fun z hz => m_X7_told_0 hz) hf (fun v485 μ486 H locs hf Y => ?_)
                                                                                  refine lv_aload_n (pc := 1420) hx hb dL_law_1420 rfl (lv_at hl 2 rfl) ?_
                                                                                  refine lv_aload_n (pc := 1421) hx hb dL_law_1421 rfl (lv_at hl 0 rfl) ?_
                                                                                  refine lv_iload_n (pc := 1422) hx hb dL_law_1422 rfl (lv_at hl 3 rfl) ?_
                                                                                  refine lv_iconst (pc := 1423) (v := 1) hx hb dL_law_1423 (by decide) ?_
                                                                                  refine g_iadd (pc := 1424) E dL_law_1424 hf (fun v487 hf => ?_)
                                                                                  refine g_sld (pc := 1425) E Y hX hbl hbA dL_law_1425 hf (fun v488 hf => ?_)
                                                                                  refine g_callL (pc := 1426) E Y hLK LK_good 53 S_53 V_8 o_X8_told k_173 [.int v488] rfl rfl ⟨Nat.le_of_ble_eq_true rfl, Nat.le_of_ble_eq_true rfl⟩ hl.1 (rest := [.int v485]) rfl (Nat.le_of_ble_eq_true rfl) dL_law_1426 (fun z hz => m_X8_told_53 hz) hf (fun v489 μ490 H locs hf Y => ?_)
                                                                                  refine g_icmp_eq (pc := 1429) (tgt := 1434) E dL_law_1429 (by decide) hf (fun hf => ?_) (fun hf => ?_)
                                                                                  · refine g_iinc (pc := 1434) E (fun v491 => [(3, .int v491), (0, .ref b), (1, .ref (ad 0)), (2, .ref (ad 53))]) dL_law_1434 hl (k := 3) rfl (t := 6) (by decide) (by decide) (fun _ => rfl) hf (fun v491 hf ls hl => ?_)
                                                                                    refine lv_goto (pc := 1437) (tgt := 18) hx hb dL_law_1437 (by decide) ?_
                                                                                    exact ih _ _ _ _ _ hf Y (lv_sub hl [1, 2, 3, 0] rfl)
                                                                                  · refine lv_iconst (pc := 1432) (v := 0) hx hb dL_law_1432 (by decide) ?_
                                                                                    cases hf
                                                                                    exact absurd (show (0 : Int32) = 1 from hZ) (by decide)
                                                                                · rw [if_neg hc] at hf
                                                                                  have n_37 := ti_ne (n := 37) (by decide) hc
                                                                                  clear hc
                                                                                  refine lv_tableOut (pc := 33) (tgt := 1434) hx hb dL_law_33 (by omega) (by decide) ?_
                                                                                  refine g_iinc (pc := 1434) E (fun v492 => [(3, .int v492), (0, .ref b), (1, .ref (ad 0)), (2, .ref (ad 53))]) dL_law_1434 hl (k := 3) rfl (t := 6) (by decide) (by decide) (fun _ => rfl) hf (fun v492 hf ls hl => ?_)
                                                                                  refine lv_goto (pc := 1437) (tgt := 18) hx hb dL_law_1437 (by decide) ?_
                                                                                  exact ih _ _ _ _ _ hf Y (lv_sub hl [1, 2, 3, 0] rfl)
