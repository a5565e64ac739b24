/-! voice: what the class says by tables, the reference by calls -/
def VF (σ σ1 : Mem) : Prop := (∀ k, ¬ k = 50 → ¬ k = 51 → σ1 k = σ k) ∧ ∀ j, ¬ j = 1 → σ1 50 j = σ 50 j
def VG (τ τ1 : Mem) : Prop := (∀ k, ¬ k = 53 → ¬ k = 64 → τ1 k = τ k) ∧ ∀ j, ¬ j = 17 → τ1 53 j = τ 53 j
def VT (σ τ : Mem) : Prop := ∃ n : Nat, n ≤ 30 ∧ σ 50 1 = nI n ∧ τ 53 17 = nI n ∧ ∀ i, i < 30 → σ 51 i = τ 64 i
def VC (S : Mem) (p : Nat) (σ τ : Mem) : Prop := σ 50 3 = nI p ∧ σ 50 4 = S 4 p ∧ σ 50 5 = S 3 p ∧ RM (τ 54) S
theorem VF.rf (a : Mem) : VF a a := ⟨fun _ _ _ => rfl, fun _ _ => rfl⟩
theorem VG.rf (a : Mem) : VG a a := ⟨fun _ _ _ => rfl, fun _ _ => rfl⟩
theorem VF.tr {a b c : Mem} (h : VF a b) (g : VF b c) : VF a c := ⟨fun k h1 h2 => (g.1 k h1 h2).trans (h.1 k h1 h2), fun j hj => (g.2 j hj).trans (h.2 j hj)⟩
theorem VG.tr {a b c : Mem} (h : VG a b) (g : VG b c) : VG a c := ⟨fun k h1 h2 => (g.1 k h1 h2).trans (h.1 k h1 h2), fun j hj => (g.2 j hj).trans (h.2 j hj)⟩
theorem VC.to {S : Mem} {p : Nat} {σ τ σ1 τ1 : Mem} (h : VC S p σ τ) (f : VF σ σ1) (g : VG τ τ1) : VC S p σ1 τ1 := by
  obtain ⟨a, b, d, e⟩ := h
  exact ⟨(f.2 3 (by decide)).trans a, (f.2 4 (by decide)).trans b, (f.2 5 (by decide)).trans d, by rw [g.1 54 (by decide) (by decide)]; exact e⟩
/-- both end alike, and the TRACES with them -/
def Vo (F G : Mem → Res) (σ τ : Mem) : Prop := ∃ v σ1 τ1, F σ = some (v, σ1) ∧ G τ = some (v, τ1) ∧ VF σ σ1 ∧ VG τ τ1 ∧ VT σ1 τ1
theorem Vo.then {F G : Mem → Res} {K J : Int32 → Mem → Res} {σ τ : Mem} (h : Vo F G σ τ) (k : ∀ v σ1 τ1, VF σ σ1 → VG τ τ1 → VT σ1 τ1 → Vo (K v) (J v) σ1 τ1) : Vo (fun σ => bd (F σ) K) (fun τ => bd (G τ) J) σ τ := by
  obtain ⟨v, σ1, τ1, a, b, f, g, t⟩ := h
  obtain ⟨v', σ2, τ2, a', b', f', g', t'⟩ := k v σ1 τ1 f g t
  exact ⟨v', σ2, τ2, by show bd (F σ) K = _; rw [a]; exact a', by show bd (G τ) J = _; rw [b]; exact b', f.tr f', g.tr g', t'⟩
theorem Vo.same {F F' G G' : Mem → Res} {σ τ : Mem} (h : Vo F' G' σ τ) (hF : F σ = F' σ) (hG : G τ = G' τ) : Vo F G σ τ := by
  obtain ⟨v, σ1, τ1, a, b, r⟩ := h
  exact ⟨v, σ1, τ1, hF.trans a, hG.trans b, r⟩
theorem Vo_ret {σ τ : Mem} (t : VT σ τ) (v : Int32) : Vo (fun σ => some (v, σ)) (fun τ => some (v, τ)) σ τ := ⟨v, σ, τ, rfl, rfl, VF.rf σ, VG.rf τ, t⟩
theorem vo_begin {σ τ : Mem} (t : VT σ τ) (b : Int32) : Vo (fun σ => f_X6_begin_50 b σ) (fun τ => f_X8_begins_53 b τ) σ τ := by
  obtain ⟨n, hn, e1, e2, e3⟩ := t
  by_cases h : n < 30
  · have q : ¬ 30 ≤ nI n := fun q => by
      have := (nI_leI (a := 30) (by omega) (by omega)).mp q
      omega
    refine ⟨0, mset (mset σ 51 n b) 50 1 (nI (n + 1)), mset (mset τ 64 n b) 53 17 (nI (n + 1)), ?_, ?_, ⟨fun k h1 h2 => by rw [mset_ne h1, mset_ne h2], fun j hj => by rw [mset_eq, upd_no hj, mset_ne (by decide)]⟩, ⟨fun k h1 h2 => by rw [mset_ne h1, mset_ne h2], fun j hj => by rw [mset_eq, upd_no hj, mset_ne (by decide)]⟩, n + 1, by omega, mset_at, mset_at, fun i hi => ?_⟩
    · show f_X6_begin_50 b σ = _
      rw [f_X6_begin_50, nm_mk, e1, if_neg q, nm_mk, gin (by omega), nm_mk, cln (by omega), nm_mk, mset_ne (k' := 50) (by decide), e1, nm_mk, nI_1, nm_mk]
    · show f_X8_begins_53 b τ = _
      rw [f_X8_begins_53, nm_mk, e2, if_neg q, nm_mk, gin (by omega), nm_mk, cln (by omega), nm_mk, mset_ne (k' := 53) (by decide), e2, nm_mk, nI_1, nm_mk]
    · rw [mset_ne (k' := 51) (by decide), mset_ne (k' := 64) (by decide), mset_eq, mset_eq]
      by_cases hi2 : i = n
      · subst hi2
        rw [upd_at, upd_at]
      · rw [upd_no hi2, upd_no hi2]
        exact e3 i hi
  · obtain rfl : n = 30 := by omega
    refine ⟨0, σ, τ, ?_, ?_, VF.rf σ, VG.rf τ, 30, by omega, e1, e2, e3⟩
    · show f_X6_begin_50 b σ = _
      rw [f_X6_begin_50, nm_mk, e1, if_pos (by decide)]
    · show f_X8_begins_53 b τ = _
      rw [f_X8_begins_53, nm_mk, e2, if_pos (by decide)]
/-- one BODY of the class -/
def bodyX (rc : Int32 → Int32 → Int32 → Int32 → Mem → Res) (b x d : Int32) (μ4 : Mem) : Res := if b = 10 then (nm (μ4 50 3) fun (v6 : Int32) => nm (x + v6) fun (v7 : Int32) => some (v7, μ4)) else (if b = 11 then (nm (μ4 50 5) fun (v8 : Int32) => bd (rc v8 0 x d μ4) fun v9 μ10 => nm (v9 * 2) fun (v11 : Int32) => some (v11, μ10)) else (if b = 12 then (nm (μ4 50 5) fun (v12 : Int32) => bd (rc v12 1 x d μ4) fun v13 μ14 => nm (μ14 50 4) fun (v15 : Int32) => nm (v13 - v15) fun (v16 : Int32) => some (v16, μ14)) else (if b = 13 then (bd (f_X6_parts_50 x μ4) fun v17 μ18 => some (v17, μ18)) else (if b = 20 then (bd (rc 0 0 x d μ4) fun v19 μ20 => nm (v19 - 4) fun (v21 : Int32) => some (v21, μ20)) else (if b = 21 then (bd (f_X6_partsOfCurve_50 rc x d μ4) fun v22 μ23 => some (v22, μ23)) else (if b = 30 then (bd (rc 0 1 x d μ4) fun v24 μ25 => nm (0 - v24) fun (v26 : Int32) => some (v26, μ25)) else (if b = 40 then (gz 2 <| nm (x / 2) fun (v27 : Int32) => bd (rc 0 2 v27 d μ4) fun v28 μ29 => some (v28, μ29)) else (if b = 50 then (bd (rc 1 0 x d μ4) fun v30 μ31 => nm (v30 * 3) fun (v32 : Int32) => some (v32, μ31)) else (if b = 51 then (bd (rc 1 2 x d μ4) fun v33 μ34 => nm (μ34 50 3) fun (v35 : Int32) => nm (v33 ^^^ v35) fun (v36 : Int32) => some (v36, μ34)) else (if b = 60 then (nm (x + 1) fun (v37 : Int32) => bd (rc 2 1 v37 d μ4) fun v38 μ39 => some (v38, μ39)) else (if b = 70 then (some (9, μ4)) else (if b = 71 then (bd (rc 0 1 x d μ4) fun v40 μ41 => nm (μ41 50 4) fun (v42 : Int32) => nm (v40 + v42) fun (v43 : Int32) => some (v43, μ41)) else (some (0, μ4))))))))))))))
theorem say_eq {K V B : Int32} (hb : ∀ σ, f_X6_bodyOf K V σ = some (B, σ)) {f d : Nat} (hd : d < 20) (x : Int32) (σ : Mem) : f_X6_say_50 (f + 1) K V x (nI d) σ = bd (f_X6_begin_50 B σ) fun _ μ => bodyX (f_X6_say_50 f) B x (nI (d + 1)) μ := by
  show fb_X6_say_50 (f_X6_say_50 f) K V x (nI d) σ = _
  rw [fb_X6_say_50, hb, bd_mk, if_pos (show nI d < 20 from (nI_ltI (b := 20) (by omega) (by omega)).mpr hd)]
  simp only [nm_mk, nI_1]
  rfl
/-- what a VOICE of the reference is held against -/
def Sy (S : Mem) (p : Nat) (f d : Nat) (K V x : Int32) (G : Mem → Res) : Prop := ∀ σ τ, VC S p σ τ → VT σ τ → Vo (fun σ => f_X6_say_50 f K V x (nI d) σ) G σ τ
theorem sy_of {S : Mem} {p f d : Nat} {K V x B : Int32} (hb : ∀ σ, f_X6_bodyOf K V σ = some (B, σ)) (hd : d < 20) {J : Mem → Res} (h : ∀ σ τ, VC S p σ τ → VT σ τ → Vo (fun σ => bodyX (f_X6_say_50 f) B x (nI (d + 1)) σ) J σ τ) : Sy S p (f + 1) d K V x (fun τ => bd (f_X8_begins_53 B τ) fun _ μ => J μ) := fun σ τ vc vt =>
  Vo.same (Vo.then (K := fun _ μ => bodyX (f_X6_say_50 f) B x (nI (d + 1)) μ) (J := fun _ μ => J μ) (vo_begin vt B) (fun v σ1 τ1 a b t => h σ1 τ1 (vc.to a b) t)) (say_eq hb hd x σ) rfl
theorem sy_plainHisses {S : Mem} {p f d : Nat} {K x : Int32} (hb : ∀ σ, f_X6_bodyOf K 0 σ = some (10, σ)) (hd : d < 20) : Sy S p (f + 1) d K 0 x (fun τ => f_X8_plainHisses_53 (nI p) x τ) :=
  sy_of hb hd (J := fun μ2 => nm (x + nI p) fun (v3 : Int32) => some (v3, μ2)) (fun σ τ vc vt => (Vo_ret vt (x + nI p)).same (by show bodyX _ _ _ _ _ = _; rw [bodyX, if_pos rfl, nm_mk, vc.1, nm_mk]) rfl)
theorem sy_curveHisses {S : Mem} {p f d : Nat} {K x : Int32} (hb : ∀ σ, f_X6_bodyOf K 0 σ = some (20, σ)) (hd : d + 1 < 20) : Sy S p (f + 2) d K 0 x (fun τ => f_X8_curveHisses_53 (nI p) x τ) :=
  sy_of hb (by omega) (J := fun μ2 => bd (f_X8_plainHisses_53 (nI p) x μ2) fun v3 μ4 => nm (v3 - 4) fun (v5 : Int32) => some (v5, μ4)) (fun σ τ vc vt =>
    Vo.same (Vo.then (K := fun v μ => some (v - 4, μ)) (J := fun v μ => some (v - 4, μ)) (sy_plainHisses (K := 0) (f := f) (fun _ => rfl) hd σ τ vc vt) (fun v σ1 τ1 _ _ t => Vo_ret t (v - 4))) rfl rfl)
/-- the KIND of the PITCH is one of seven -/
theorem sy_hisses {S : Mem} {p f d : Nat} {x : Int32} (hp : p < 6) {K : Nat} (hK : K ≤ 6) (eK : S 3 p = nI K) (hd : d + 2 < 20) : Sy S p (f + 3) d (nI K) 0 x (fun τ => f_X8_hisses_53 (nI p) x τ) := fun σ τ vc vt => by
  have hm : f_X8_hisses_53 (nI p) x τ = (fun τ => if nI K = 1 then (bd (f_X8_curveHisses_53 (nI p) x τ) fun v3 μ4 => some (v3, μ4)) else (if nI K = 4 then (bd (f_X8_begins_53 50 τ) fun v5 μ6 => bd (f_X8_curveHisses_53 (nI p) x μ6) fun v7 μ8 => nm (v7 * 3) fun (v9 : Int32) => some (v9, μ8)) else (if nI K = 6 then (bd (f_X8_begins_53 70 τ) fun v10 μ11 => some (9, μ11)) else (bd (f_X8_plainHisses_53 (nI p) x τ) fun v12 μ13 => some (v12, μ13))))) τ := by
    rw [f_X8_hisses_53, m_of0 vc.2.2.2 hp, bd_mk, eK]
  match K, hK with
  | 0, _ => exact (sy_plainHisses (K := 0) (f := f + 2) (fun _ => rfl) (by omega) σ τ vc vt).same rfl (hm.trans (bd_et _))
  | 1, _ => exact (sy_curveHisses (K := 1) (f := f + 1) (fun _ => rfl) (by omega) σ τ vc vt).same rfl (hm.trans (bd_et _))
  | 2, _ => exact (sy_plainHisses (K := 2) (f := f + 2) (fun _ => rfl) (by omega) σ τ vc vt).same rfl (hm.trans (bd_et _))
  | 3, _ => exact (sy_plainHisses (K := 3) (f := f + 2) (fun _ => rfl) (by omega) σ τ vc vt).same rfl (hm.trans (bd_et _))
  | 4, _ => exact (sy_of (K := 4) (V := 0) (B := 50) (f := f + 2) (fun _ => rfl) (by omega) (J := fun μ6 => bd (f_X8_curveHisses_53 (nI p) x μ6) fun v7 μ8 => nm (v7 * 3) fun (v9 : Int32) => some (v9, μ8)) (fun σ τ vc vt => Vo.same (Vo.then (K := fun v μ => some (v * 3, μ)) (J := fun v μ => some (v * 3, μ)) (sy_curveHisses (K := 1) (f := f) (d := d + 1) (fun _ => rfl) (by omega) σ τ vc vt) (fun v σ1 τ1 _ _ t => Vo_ret t (v * 3))) rfl rfl) σ τ vc vt).same rfl hm
  | 5, _ => exact (sy_plainHisses (K := 5) (f := f + 2) (fun _ => rfl) (by omega) σ τ vc vt).same rfl (hm.trans (bd_et _))
  | 6, _ => exact (sy_of (K := 6) (V := 0) (B := 70) (f := f + 2) (fun _ => rfl) (by omega) (J := fun μ => some (9, μ)) (fun σ τ vc vt => (Vo_ret vt 9).same rfl rfl) σ τ vc vt).same rfl hm
theorem sy_plainDrops {S : Mem} {p f d : Nat} {K x : Int32} (hp : p < 6) {k : Nat} (hk : k ≤ 6) (eK : S 3 p = nI k) (hb : ∀ σ, f_X6_bodyOf K 1 σ = some (11, σ)) (hd : d + 3 < 20) : Sy S p (f + 4) d K 1 x (fun τ => f_X8_plainDrops_53 (nI p) x τ) :=
  sy_of hb (by omega) (J := fun μ2 => bd (f_X8_hisses_53 (nI p) x μ2) fun v3 μ4 => nm (v3 * 2) fun (v5 : Int32) => some (v5, μ4)) (fun σ τ vc vt =>
    Vo.same (Vo.then (K := fun v μ => some (v * 2, μ)) (J := fun v μ => some (v * 2, μ)) (sy_hisses (f := f) (d := d + 1) hp hk eK (by omega) σ τ vc vt) (fun v σ1 τ1 _ _ t => Vo_ret t (v * 2))) (by show bodyX _ _ _ _ _ = _; rw [bodyX, if_neg (by decide), if_pos rfl, nm_mk, vc.2.2.1, eK]; rfl) rfl)
theorem sy_hardDrops {S : Mem} {p f d : Nat} {K x : Int32} (hp : p < 6) {k : Nat} (hk : k ≤ 6) (eK : S 3 p = nI k) (hb : ∀ σ, f_X6_bodyOf K 1 σ = some (30, σ)) (hd : d + 4 < 20) : Sy S p (f + 5) d K 1 x (fun τ => f_X8_hardDrops_53 (nI p) x τ) :=
  sy_of hb (by omega) (J := fun μ2 => bd (f_X8_plainDrops_53 (nI p) x μ2) fun v3 μ4 => nm (-v3) fun (v5 : Int32) => some (v5, μ4)) (fun σ τ vc vt =>
    Vo.same (Vo.then (K := fun v μ => some (0 - v, μ)) (J := fun v μ => some (-v, μ)) (sy_plainDrops (K := 0) (f := f) (d := d + 1) hp hk eK (fun _ => rfl) (by omega) σ τ vc vt) (fun v σ1 τ1 _ _ t => by rw [Int32.zero_sub]; exact Vo_ret t (-v))) rfl rfl)
theorem sy_drops {S : Mem} {p f d : Nat} {x : Int32} (hp : p < 6) {K : Nat} (hK : K ≤ 6) (eK : S 3 p = nI K) (hd : d + 5 < 20) : Sy S p (f + 6) d (nI K) 1 x (fun τ => f_X8_drops_53 (nI p) x τ) := fun σ τ vc vt => by
  have hm : f_X8_drops_53 (nI p) x τ = (fun τ => if nI K = 2 then (bd (f_X8_hardDrops_53 (nI p) x τ) fun v3 μ4 => some (v3, μ4)) else (if nI K = 5 then (bd (f_X8_begins_53 60 τ) fun v5 μ6 => nm (x + 1) fun (v7 : Int32) => bd (f_X8_hardDrops_53 (nI p) v7 μ6) fun v8 μ9 => some (v8, μ9)) else (if nI K = 6 then (bd (f_X8_begins_53 71 τ) fun v10 μ11 => bd (f_X8_plainDrops_53 (nI p) x μ11) fun v12 μ13 => bd (f_X8_of_53 (nI p) 1 μ13) fun v14 μ15 => nm (v12 + v14) fun (v16 : Int32) => some (v16, μ15)) else (bd (f_X8_plainDrops_53 (nI p) x τ) fun v17 μ18 => some (v17, μ18))))) τ := by
    rw [f_X8_drops_53, m_of0 vc.2.2.2 hp, bd_mk, eK]
  have hk := hK
  have ek := eK
  match K, hK with
  | 0, _ => exact (sy_plainDrops (K := 0) (f := f + 2) hp hk ek (fun _ => rfl) (by omega) σ τ vc vt).same rfl (hm.trans (bd_et _))
  | 1, _ => exact (sy_plainDrops (K := 1) (f := f + 2) hp hk ek (fun _ => rfl) (by omega) σ τ vc vt).same rfl (hm.trans (bd_et _))
  | 2, _ => exact (sy_hardDrops (K := 2) (f := f + 1) hp hk ek (fun _ => rfl) (by omega) σ τ vc vt).same rfl (hm.trans (bd_et _))
  | 3, _ => exact (sy_plainDrops (K := 3) (f := f + 2) hp hk ek (fun _ => rfl) (by omega) σ τ vc vt).same rfl (hm.trans (bd_et _))
  | 4, _ => exact (sy_plainDrops (K := 4) (f := f + 2) hp hk ek (fun _ => rfl) (by omega) σ τ vc vt).same rfl (hm.trans (bd_et _))
  | 5, _ => exact (sy_of (K := 5) (V := 1) (B := 60) (f := f + 5) (fun _ => rfl) (by omega) (J := fun μ6 => nm (x + 1) fun (v7 : Int32) => bd (f_X8_hardDrops_53 (nI p) v7 μ6) fun v8 μ9 => some (v8, μ9)) (fun σ τ vc vt => Vo.same (sy_hardDrops (K := 2) (x := x + 1) (f := f) (d := d + 1) hp hk ek (fun _ => rfl) (by omega) σ τ vc vt) (bd_et _) (bd_et _)) σ τ vc vt).same rfl hm
  | 6, _ => exact (sy_of (K := 6) (V := 1) (B := 71) (f := f + 5) (fun _ => rfl) (by omega) (J := fun μ11 => bd (f_X8_plainDrops_53 (nI p) x μ11) fun v12 μ13 => bd (f_X8_of_53 (nI p) 1 μ13) fun v14 μ15 => nm (v12 + v14) fun (v16 : Int32) => some (v16, μ15)) (fun σ τ vc vt => Vo.same (Vo.then (K := fun v μ => some (v + μ 50 4, μ)) (J := fun v12 μ13 => bd (f_X8_of_53 (nI p) 1 μ13) fun v14 μ15 => nm (v12 + v14) fun (v16 : Int32) => some (v16, μ15)) (sy_plainDrops (K := 0) (f := f + 1) (d := d + 1) hp hk ek (fun _ => rfl) (by omega) σ τ vc vt) (fun v σ1 τ1 a b t => (Vo_ret t (v + S 4 p)).same (by show some _ = _; rw [(vc.to a b).2.1]) (by show bd _ _ = _; rw [m_of1 (vc.to a b).2.2.2 hp, bd_mk, nm_mk]))) rfl rfl) σ τ vc vt).same rfl hm
theorem sy_plainThuds {S : Mem} {p f d : Nat} {K x : Int32} (hp : p < 6) {k : Nat} (hk : k ≤ 6) (eK : S 3 p = nI k) (hb : ∀ σ, f_X6_bodyOf K 2 σ = some (12, σ)) (hd : d + 6 < 20) : Sy S p (f + 7) d K 2 x (fun τ => f_X8_plainThuds_53 (nI p) x τ) :=
  sy_of hb (by omega) (J := fun μ2 => bd (f_X8_drops_53 (nI p) x μ2) fun v3 μ4 => bd (f_X8_of_53 (nI p) 1 μ4) fun v5 μ6 => nm (v3 - v5) fun (v7 : Int32) => some (v7, μ6)) (fun σ τ vc vt =>
    Vo.same (Vo.then (K := fun v μ => some (v - μ 50 4, μ)) (J := fun v3 μ4 => bd (f_X8_of_53 (nI p) 1 μ4) fun v5 μ6 => nm (v3 - v5) fun (v7 : Int32) => some (v7, μ6)) (sy_drops (f := f) (d := d + 1) hp hk eK (by omega) σ τ vc vt) (fun v σ1 τ1 a b t => (Vo_ret t (v - S 4 p)).same (by show some _ = _; rw [(vc.to a b).2.1]) (by show bd _ _ = _; rw [m_of1 (vc.to a b).2.2.2 hp, bd_mk, nm_mk]))) (by show bodyX _ _ _ _ _ = _; rw [bodyX, if_neg (by decide), if_neg (by decide), if_pos rfl, nm_mk, vc.2.2.1, eK]; rfl) rfl)
theorem sy_thuds {S : Mem} {p f d : Nat} {x : Int32} (hp : p < 6) {K : Nat} (hK : K ≤ 6) (eK : S 3 p = nI K) (hd : d + 7 < 20) : Sy S p (f + 8) d (nI K) 2 x (fun τ => f_X8_thuds_53 (nI p) x τ) := fun σ τ vc vt => by
  have hm : f_X8_thuds_53 (nI p) x τ = (fun τ => if nI K = 3 then (bd (f_X8_begins_53 40 τ) fun v3 μ4 => gz 2 <| nm (x / 2) fun (v5 : Int32) => bd (f_X8_plainThuds_53 (nI p) v5 μ4) fun v6 μ7 => some (v6, μ7)) else (if nI K = 4 then (bd (f_X8_begins_53 51 τ) fun v8 μ9 => bd (f_X8_plainThuds_53 (nI p) x μ9) fun v10 μ11 => nm (v10 ^^^ nI p) fun (v12 : Int32) => some (v12, μ11)) else (bd (f_X8_plainThuds_53 (nI p) x τ) fun v13 μ14 => some (v13, μ14)))) τ := by
    rw [f_X8_thuds_53, m_of0 vc.2.2.2 hp, bd_mk, eK]
  have hk := hK
  have ek := eK
  match K, hK with
  | 0, _ => exact (sy_plainThuds (K := 0) (f := f + 1) hp hk ek (fun _ => rfl) (by omega) σ τ vc vt).same rfl (hm.trans (bd_et _))
  | 1, _ => exact (sy_plainThuds (K := 1) (f := f + 1) hp hk ek (fun _ => rfl) (by omega) σ τ vc vt).same rfl (hm.trans (bd_et _))
  | 2, _ => exact (sy_plainThuds (K := 2) (f := f + 1) hp hk ek (fun _ => rfl) (by omega) σ τ vc vt).same rfl (hm.trans (bd_et _))
  | 3, _ => exact (sy_of (K := 3) (V := 2) (B := 40) (f := f + 7) (fun _ => rfl) (by omega) (J := fun μ4 => gz 2 <| nm (x / 2) fun (v5 : Int32) => bd (f_X8_plainThuds_53 (nI p) v5 μ4) fun v6 μ7 => some (v6, μ7)) (fun σ τ vc vt => Vo.same (sy_plainThuds (K := 0) (x := x / 2) (f := f) (d := d + 1) hp hk ek (fun _ => rfl) (by omega) σ τ vc vt) (bd_et _) (bd_et _)) σ τ vc vt).same rfl hm
  | 4, _ => exact (sy_of (K := 4) (V := 2) (B := 51) (f := f + 7) (fun _ => rfl) (by omega) (J := fun μ9 => bd (f_X8_plainThuds_53 (nI p) x μ9) fun v10 μ11 => nm (v10 ^^^ nI p) fun (v12 : Int32) => some (v12, μ11)) (fun σ τ vc vt => Vo.same (Vo.then (K := fun v μ => some (v ^^^ μ 50 3, μ)) (J := fun v10 μ11 => nm (v10 ^^^ nI p) fun (v12 : Int32) => some (v12, μ11)) (sy_plainThuds (K := 1) (f := f) (d := d + 1) hp hk ek (fun _ => rfl) (by omega) σ τ vc vt) (fun v σ1 τ1 a b t => (Vo_ret t (v ^^^ nI p)).same (by show some _ = _; rw [(vc.to a b).1]) rfl)) rfl rfl) σ τ vc vt).same rfl hm
  | 5, _ => exact (sy_plainThuds (K := 5) (f := f + 1) hp hk ek (fun _ => rfl) (by omega) σ τ vc vt).same rfl (hm.trans (bd_et _))
  | 6, _ => exact (sy_plainThuds (K := 6) (f := f + 1) hp hk ek (fun _ => rfl) (by omega) σ τ vc vt).same rfl (hm.trans (bd_et _))
