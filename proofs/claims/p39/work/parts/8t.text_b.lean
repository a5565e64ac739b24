/-! the class's reader, a byte at a time -/
def Xo (o : Option XS) (r : Res) (σ : Mem) : Prop := match o with
  | none => ∃ σ', r = some (0, σ') ∧ Fr σ σ'
  | some st => ∃ σ', r = some (1, σ') ∧ CS σ' st.1 st.2.1 st.2.2.1 st.2.2.2 ∧ Fr σ σ'
theorem Xo_gb {o : Option XS} {r : Res} {σ : Mem} (h : Xo o r σ) : Xo o (bd r fun v μ => gb v (some (v, μ))) σ := by
  cases o with
  | none =>
    obtain ⟨σ', e, f⟩ := h
    exact ⟨σ', by rw [e]; rfl, f⟩
  | some st =>
    obtain ⟨σ', e, f⟩ := h
    exact ⟨σ', by rw [e]; rfl, f⟩
theorem Xo_fr {o : Option XS} {r : Res} {σ σ0 : Mem} (g : Fr σ0 σ) (h : Xo o r σ) : Xo o r σ0 := by
  cases o with
  | none =>
    obtain ⟨σ', e, f⟩ := h
    exact ⟨σ', e, g.tr f⟩
  | some st =>
    obtain ⟨σ', e, c, f⟩ := h
    exact ⟨σ', e, c, g.tr f⟩
theorem x_num (u : Int32) (σ : Mem) : f_X1_isNumeral u σ = some (if 48 ≤ u ∧ u ≤ 57 then 1 else 0, σ) := by
  unfold f_X1_isNumeral
  by_cases h1 : u < 48
  · rw [if_pos h1, if_neg (fun h => absurd h.1 (Int32.not_le.mpr h1))]; rfl
  · rw [if_neg h1]
    by_cases h2 : 57 < u
    · rw [if_pos h2, if_neg (fun h => absurd h.2 (Int32.not_le.mpr h2))]; rfl
    · rw [if_neg h2, if_pos ⟨Int32.not_lt.mp h1, Int32.not_lt.mp h2⟩]; rfl
theorem x_L12 {σ : Mem} {H : LI} {d : Nat} {D : LI} {u : Int32} (h : CS σ H d true D) (hl : H.length < 60) (hu : u = 33 ∨ u = 40) : Xo (if opn H < 5 then some (u :: H, d, true, D) else none) (f_X1_begins_41_L12 u σ) σ := by
  have ho := opn_le H
  have hg := grp_le H
  have a := h.1
  have c := h.2.2.1
  have e := h.2.2.2.1
  have f := h.2.2.2.2.1
  have g := h.2.2.2.2.2.1
  by_cases q : opn H < 5
  · rw [if_pos q]
    have e4 : mset σ 41 3 (nI (opn H + 1)) 41 4 = nI (grp H) := by rw [mset_eq, upd_no (by decide)]; exact e
    have key : ∀ v, v = nI (grp (u :: H)) → ∃ σ', (bd (f_X1_park_41 u (mset (mset σ 41 3 (nI (opn H + 1))) 41 4 v)) fun _ μ => gb 1 (some (1, μ))) = some (1, σ') ∧ CS σ' (u :: H) d true D ∧ Fr σ σ' := by
      intro v hv
      have p2 : mset (mset σ 41 3 (nI (opn H + 1))) 41 4 v 41 2 = nI H.length := by
        rw [mset_eq, upd_no (by decide), mset_eq, upd_no (by decide)]; exact a
      refine ⟨_, by rw [x_park p2 hl, bd_mk, gb_1], ?_, ?_⟩
      · refine h.sg (by rw [mset_ne (by decide), mset_ne (by decide), mset_ne (by decide), mset_ne (by decide)]) (by rw [mset_ne (by decide), mset_ne (by decide), mset_ne (by decide), mset_ne (by decide)]) mset_at ?_ ?_ ?_ ?_ ?_
        · rw [mset_ne (by decide), mset_eq, mset_ne (by decide), mset_ne (by decide)]; exact h.2.1.add
        · rw [mset_eq, upd_no (by decide), mset_ne (by decide), mset_eq, upd_no (by decide), mset_at, opn, if_pos hu]
        · rw [mset_eq, upd_no (by decide), mset_ne (by decide), mset_at, hv]
        · rw [mset_eq, upd_no (by decide), mset_ne (by decide), mset_eq, upd_no (by decide), mset_eq, upd_no (by decide)]; exact f
        · rw [mset_eq, upd_no (by decide), mset_ne (by decide), mset_eq, upd_no (by decide), mset_eq, upd_no (by decide)]; exact g
      · exact ((((Fr.rf σ).set (by omega)).set (by omega)).set (by omega)).set (by omega)
    rw [f_X1_begins_41_L12, nm_mk, c, if_pos (show nI (opn H) < 5 from nI_lt (b := 5) q (by omega)), nm_mk, nI_1, nm_mk, nm_mk, nm_mk, e4]
    by_cases h40 : u = 40
    · rw [if_pos h40, nm_mk, nI_1, nm_mk]
      exact key _ (by rw [grp, if_pos h40])
    · rw [if_neg h40, nm_mk, i_a0, nm_mk]
      exact key _ (by rw [grp, if_neg h40])
  · rw [if_neg q, f_X1_begins_41_L12, nm_mk, c, if_neg (show ¬ nI (opn H) < 5 from nI_nlt (b := 5) (by omega) (by omega))]
    exact ⟨σ, gb_0 _, Fr.rf σ⟩
theorem x_hit {σ : Mem} {H : LI} {d : Nat} {D : LI} (h : CS σ H d true D) (hD : D.length < 60) (v w : Int32) (d' : Nat) (hw : w = nI d') : ∃ σ', (bd (f_X5_add_42 v σ) fun _ μ => nm (mset μ 41 5 w) fun μ' => gb 0 <| nm (mset μ' 41 6 0) fun μ'' => gb 1 (some (1, μ''))) = some (1, σ') ∧ CS σ' H d' false (v :: D) ∧ Fr σ σ' := by
  have hc := h.add v
  refine ⟨_, by rw [x_add h.2.2.2.2.2.2.1 hD, bd_mk, nm_mk, gb_0, nm_mk, gb_1], ?_, ?_⟩
  · refine hc.sg (by rw [mset_ne (by decide), mset_ne (by decide)]) (by rw [mset_ne (by decide), mset_ne (by decide)]) ?_ ?_ ?_ ?_ ?_ ?_
    · rw [mset_eq, upd_no (by decide), mset_eq, upd_no (by decide)]; exact hc.1
    · rw [mset_ne (by decide), mset_ne (by decide)]; exact hc.2.1
    · rw [mset_eq, upd_no (by decide), mset_eq, upd_no (by decide)]; exact hc.2.2.1
    · rw [mset_eq, upd_no (by decide), mset_eq, upd_no (by decide)]; exact hc.2.2.2.1
    · rw [mset_eq, upd_no (by decide), mset_at]; exact hw
    · rw [mset_at]; rfl
  · exact ((((Fr.rf σ).set (by omega)).set (by omega)).set (by omega)).set (by omega)
theorem x_nstep {fu : Nat} {u use k k' : Int32} {j : Nat} {a : Int32} {σ : Mem} (hk : ¬ 3 ≤ k) (hj : use * 3 + k = nI j) (hj6 : j < 6) (ha : tN j = a) (hk' : k + 1 = k') : f_X1_begins_41_L91 (fu + 1) u use k σ = if u = a then (bd (f_X5_add_42 (-1 - k) σ) fun _ μ => nm (mset μ 41 5 0) fun μ' => gb 0 <| nm (mset μ' 41 6 0) fun μ'' => gb 1 (some (1, μ''))) else f_X1_begins_41_L91 fu u use k' σ := by
  show fb_X1_begins_41_L91 (f_X1_begins_41_L91 fu) u use k σ = _
  rw [fb_X1_begins_41_L91, if_neg hk, nm_mk, nm_mk, hj, gin ⟨hj6, by omega⟩, nm_mk, cln (by omega), ha, nm_mk, nm_mk, hk']
theorem x_nend {fu : Nat} {u use : Int32} {σ : Mem} : f_X1_begins_41_L91 (fu + 1) u use 3 σ = some (0, σ) := by
  show fb_X1_begins_41_L91 (f_X1_begins_41_L91 fu) u use 3 σ = _
  rw [fb_X1_begins_41_L91, if_pos (by decide)]; rfl
theorem nam0 {u : Int32} (a : ¬ u = 97) (b : ¬ u = 119) (c : ¬ u = 111) : nameI 0 u < 0 := by
  unfold nameI
  rw [if_neg a]
  by_cases h : u = 109
  · rw [if_pos h]; decide
  rw [if_neg h, if_neg c]
  by_cases h : u = 115
  · rw [if_pos h]; decide
  rw [if_neg h, if_neg b]; decide
theorem nam1 {u : Int32} (a : ¬ u = 115) (b : ¬ u = 109) (c : ¬ u = 111) : nameI 1 u < 0 := by
  unfold nameI
  by_cases h : u = 97
  · rw [if_pos h]; decide
  rw [if_neg h, if_neg b, if_neg c, if_neg a]
  by_cases h : u = 119
  · rw [if_pos h]; decide
  rw [if_neg h]; decide
theorem x_begins {use u : Int32} (hu : use = 0 ∨ use = 1) {σ : Mem} {H : LI} {d : Nat} {D : LI} (h : CS σ H d true D) (hl : H.length < 60) (hD : D.length < 60) : Xo (xbeg use u H d D) (f_X1_begins_41 u use σ) σ := by
  unfold f_X1_begins_41 xbeg
  by_cases h33 : u = 33
  · rw [if_pos h33, if_pos (Or.inl h33)]; exact x_L12 h hl (Or.inl h33)
  rw [if_neg h33]
  by_cases h40 : u = 40
  · rw [if_pos h40, if_pos (Or.inr h40)]; exact x_L12 h hl (Or.inr h40)
  rw [if_neg h40, if_neg (fun q => q.elim h33 h40), x_num, bd_mk, ifz]
  by_cases hn : 48 ≤ u ∧ u ≤ 57
  · rw [if_pos hn, if_pos hn, nm_mk]
    exact x_hit h hD (u - 48) 1 1 rfl
  rw [if_neg hn, if_neg hn]
  rcases hu with e | e
  · subst e
    rw [x_nstep (fu := 999) (k := 0) (k' := 1) (j := 0) (a := 97) (by decide) rfl (by omega) rfl rfl, x_nstep (fu := 998) (k := 1) (k' := 2) (j := 1) (a := 119) (by decide) rfl (by omega) rfl rfl, x_nstep (fu := 997) (k := 2) (k' := 3) (j := 2) (a := 111) (by decide) rfl (by omega) rfl rfl, x_nend (fu := 996)]
    by_cases h1 : u = 97
    · rw [if_pos h1, show nameI 0 u = 0 by rw [h1]; rfl, if_neg (by decide)]
      exact x_hit h hD (-1 - 0) 0 0 rfl
    by_cases h2 : u = 119
    · rw [if_neg h1, if_pos h2, show nameI 0 u = 1 by rw [h2]; rfl, if_neg (by decide)]
      exact x_hit h hD (-1 - 1) 0 0 rfl
    by_cases h3 : u = 111
    · rw [if_neg h1, if_neg h2, if_pos h3, show nameI 0 u = 2 by rw [h3]; rfl, if_neg (by decide)]
      exact x_hit h hD (-1 - 2) 0 0 rfl
    · rw [if_neg h1, if_neg h2, if_neg h3, if_pos (nam0 h1 h2 h3)]
      exact ⟨σ, rfl, Fr.rf σ⟩
  · subst e
    rw [x_nstep (fu := 999) (k := 0) (k' := 1) (j := 3) (a := 115) (by decide) rfl (by omega) rfl rfl, x_nstep (fu := 998) (k := 1) (k' := 2) (j := 4) (a := 109) (by decide) rfl (by omega) rfl rfl, x_nstep (fu := 997) (k := 2) (k' := 3) (j := 5) (a := 111) (by decide) rfl (by omega) rfl rfl, x_nend (fu := 996)]
    by_cases h1 : u = 115
    · rw [if_pos h1, show nameI 1 u = 0 by rw [h1]; rfl, if_neg (by decide)]
      exact x_hit h hD (-1 - 0) 0 0 rfl
    by_cases h2 : u = 109
    · rw [if_neg h1, if_pos h2, show nameI 1 u = 1 by rw [h2]; rfl, if_neg (by decide)]
      exact x_hit h hD (-1 - 1) 0 0 rfl
    by_cases h3 : u = 111
    · rw [if_neg h1, if_neg h2, if_pos h3, show nameI 1 u = 2 by rw [h3]; rfl, if_neg (by decide)]
      exact x_hit h hD (-1 - 2) 0 0 rfl
    · rw [if_neg h1, if_neg h2, if_neg h3, if_pos (nam1 h1 h2 h3)]
      exact ⟨σ, rfl, Fr.rf σ⟩
theorem x_len {σ : Mem} {H : LI} {d : Nat} {D : LI} (h : CS σ H d false D) (hd : d ≤ 4) (hD : D.length ≤ 60) (u : Int32) : Xo (if d < 1 ∨ 4 ≤ d then none else xlen u H d D) (f_X1_lengthens_41 (u - 48) σ) σ := by
  have f := h.2.2.2.2.1
  have i := h.2.2.2.2.2.2.1
  rw [f_X1_lengthens_41, nm_mk, i, nm_mk, nm_mk, f]
  by_cases q1 : d < 1
  · rw [if_pos (Or.inl q1), if_pos (show nI d < 1 from nI_lt (b := 1) q1 (by omega))]
    exact ⟨σ, gb_0 _, Fr.rf σ⟩
  rw [if_neg (show ¬ nI d < 1 from nI_nlt (b := 1) (by omega) (by omega)), nm_mk]
  by_cases q2 : 4 ≤ d
  · rw [if_pos (Or.inr q2), if_pos (show 4 ≤ nI d from nI_le (a := 4) q2 (by omega))]
    exact ⟨σ, gb_0 _, Fr.rf σ⟩
  rw [if_neg (show ¬ 4 ≤ nI d from nI_ge (b := 4) (by omega) (by omega)), if_neg (fun q => q.elim q1 q2)]
  match D, h, hD, i with
  | [], h, _, i =>
    rw [if_neg (show ¬ (0 : Int32) ≤ nI ([] : LI).length - 1 by decide)]
    exact ⟨σ, gb_0 _, Fr.rf σ⟩
  | x :: D, h, hD, i =>
    have hl : D.length + 1 ≤ 60 := hD
    obtain ⟨a, b, c, e, _, g, _, j1, j2⟩ := h
    have e5 : mset σ 43 D.length (x * 10 + (u - 48)) 41 5 = nI d := by rw [mset_ne (by decide)]; exact f
    rw [show nI (x :: D).length - 1 = nI D.length from nI_pred _, if_pos (nI_pos' (by omega)), gin (by omega), nm_mk, cln (by omega), j1, nm_mk, nm_mk, gin (by omega), nm_mk, nm_mk, e5, nm_mk, nI_1, nm_mk]
    refine ⟨_, gb_1 _, ?_, ((Fr.rf σ).set (by omega)).set (by omega)⟩
    refine ⟨?_, ?_, ?_, ?_, mset_at, ?_, ?_, ?_⟩
    · rw [mset_eq, upd_no (by decide), mset_ne (by decide)]; exact a
    · rw [mset_ne (by decide), mset_ne (by decide)]; exact b
    · rw [mset_eq, upd_no (by decide), mset_ne (by decide)]; exact c
    · rw [mset_eq, upd_no (by decide), mset_ne (by decide)]; exact e
    · rw [mset_eq, upd_no (by decide), mset_ne (by decide)]; exact g
    · rw [mset_ne (by decide), mset_ne (by decide)]; exact i
    · rw [mset_ne (by decide), mset_eq]; exact j2.add
/-- the signs that wait are ( or signs of a rank -/
def HI : LI → Prop
  | [] => True
  | s :: H => (s = 40 ∨ 1 ≤ rk s) ∧ HI H
theorem settle_HI {r : Nat} : ∀ {H D : LI}, HI H → HI (settle r H D).1
  | [], D, _ => trivial
  | s :: H, D, h => by
    rw [settle]
    by_cases q : rk s < r
    · rw [if_pos q]; exact h
    · rw [if_neg q]; exact settle_HI h.2
theorem settle_len {r : Nat} : ∀ {H D : LI}, (settle r H D).1.length + (settle r H D).2.length = H.length + D.length
  | [], D => rfl
  | s :: H, D => by
    rw [settle]
    by_cases q : rk s < r
    · rw [if_pos q]
    · rw [if_neg q, settle_len (H := H) (D := -s :: D)]
      show H.length + (D.length + 1) = H.length + 1 + D.length
      omega
theorem settle_grp {r : Nat} (hr : 1 ≤ r) : ∀ {H D : LI}, grp (settle r H D).1 = grp H
  | [], D => rfl
  | s :: H, D => by
    rw [settle]
    by_cases q : rk s < r
    · rw [if_pos q]
    · rw [if_neg q, settle_grp hr, grp, if_neg (fun e => q (by rw [e]; exact hr))]
theorem settle_1 : ∀ {H D : LI}, HI H → (settle 1 H D).1 = [] ∨ ∃ H', (settle 1 H D).1 = 40 :: H'
  | [], D, _ => Or.inl rfl
  | s :: H, D, h => by
    rw [settle]
    by_cases q : rk s < 1
    · rw [if_pos q]
      rcases h.1 with e | e
      · exact Or.inr ⟨H, by rw [e]⟩
      · omega
    · rw [if_neg q]; exact settle_1 h.2
theorem x_clo {σ : Mem} {H D : LI} (h : CS σ H 0 false D) (hi : HI H) (hl : H.length + D.length < 60) : Xo (xclo (settle 1 H D).2 (settle 1 H D).1) (f_X1_closes_41 σ) σ := by
  have hg := grp_le H
  have ho := opn_le H
  have gl := settle_grp (r := 1) (by omega) (H := H) (D := D)
  have sl := settle_len (r := 1) (H := H) (D := D)
  have s1 := settle_1 (D := D) hi
  rw [f_X1_closes_41, nm_mk, h.2.2.2.1]
  by_cases g0 : grp H = 0
  · rcases s1 with e | ⟨H', e⟩
    · rw [e, g0, if_pos (show nI 0 = 0 from rfl)]
      exact ⟨σ, gb_0 _, Fr.rf σ⟩
    · rw [e, grp, if_pos rfl] at gl
      omega
  · obtain ⟨σ1, e1, c1, fr1⟩ := x_settle (r := 1) (by omega) (by omega) 1000 H D 0 false σ h (by omega) (by omega)
    rcases s1 with e | ⟨H', e⟩
    · rw [e, grp] at gl
      omega
    · rw [e] at c1 sl ⊢
      have hl2 : H'.length + 1 + (settle 1 H D).2.length = H.length + D.length := sl
      obtain ⟨a, b, c, ee, f, g, i, j⟩ := c1
      have c : σ1 41 3 = nI (opn H' + 1) := c
      have ee : σ1 41 4 = nI (grp H' + 1) := ee
      have a : σ1 41 2 = nI (H'.length + 1) := a
      have k3 : mset σ1 41 2 (nI H'.length) 41 3 = nI (opn H' + 1) := by rw [mset_eq, upd_no (by decide)]; exact c
      have k4 : mset (mset σ1 41 2 (nI H'.length)) 41 3 (nI (opn H')) 41 4 = nI (grp H' + 1) := by rw [mset_eq, upd_no (by decide), mset_eq, upd_no (by decide)]; exact ee
      rw [if_neg (nI_ne0 (by omega) (by omega)), show f_X1_settle_41 1 σ = some (0, σ1) from e1, bd_mk, nm_mk, a, if_neg (nI_nle (by omega) (by omega)), nm_mk, nm_mk, nI_pred, nm_mk, f_X1_closes_41_L31, nm_mk, k3, nI_pred, nm_mk, nm_mk, nm_mk, k4, nm_mk, nI_pred, nm_mk]
      refine ⟨_, gb_1 _, ?_, ((fr1.set (by omega)).set (by omega)).set (by omega)⟩
      refine ⟨?_, ?_, ?_, ?_, ?_, ?_, ?_, ?_⟩
      · rw [mset_eq, upd_no (by decide), mset_eq, upd_no (by decide), mset_at]
      · rw [mset_ne (by decide), mset_ne (by decide), mset_ne (by decide)]; exact b.2
      · rw [mset_eq, upd_no (by decide), mset_at]
      · rw [mset_at]
      · rw [mset_eq, upd_no (by decide), mset_eq, upd_no (by decide), mset_eq, upd_no (by decide)]; exact f
      · rw [mset_eq, upd_no (by decide), mset_eq, upd_no (by decide), mset_eq, upd_no (by decide)]; exact g
      · rw [mset_ne (by decide), mset_ne (by decide), mset_ne (by decide)]; exact i
      · rw [mset_ne (by decide), mset_ne (by decide), mset_ne (by decide)]; exact j
theorem x_pk {σ : Mem} {H D : LI} {u : Int32} (h : CS σ H 0 false D) (hl : H.length < 60) (h33 : ¬ u = 33) (h40 : ¬ u = 40) : ∃ σ', (bd (f_X1_park_41 u σ) fun _ μ => gb 1 <| nm (mset μ 41 6 1) fun μ' => gb 1 (some (1, μ'))) = some (1, σ') ∧ CS σ' (u :: H) 0 true D ∧ Fr σ σ' := by
  refine ⟨_, by rw [x_park h.1 hl, bd_mk, gb_1, nm_mk, gb_1], ?_, (((Fr.rf σ).set (by omega)).set (by omega)).set (by omega)⟩
  refine h.sg (by rw [mset_ne (by decide), mset_ne (by decide), mset_ne (by decide)]) (by rw [mset_ne (by decide), mset_ne (by decide), mset_ne (by decide)]) ?_ ?_ ?_ ?_ ?_ ?_
  · rw [mset_eq, upd_no (by decide), mset_at]; rfl
  · rw [mset_ne (by decide), mset_ne (by decide), mset_eq]; exact h.2.1.add
  · rw [mset_eq, upd_no (by decide), mset_eq, upd_no (by decide), mset_ne (by decide), opn, if_neg (fun q => q.elim h33 h40)]; exact h.2.2.1
  · rw [mset_eq, upd_no (by decide), mset_eq, upd_no (by decide), mset_ne (by decide), grp, if_neg h40]; exact h.2.2.2.1
  · rw [mset_eq, upd_no (by decide), mset_eq, upd_no (by decide), mset_ne (by decide)]; exact h.2.2.2.2.1
  · rw [mset_at]; rfl
theorem x_continues {u : Int32} {σ : Mem} {H : LI} {d : Nat} {D : LI} (h : CS σ H d false D) (hi : HI H) (hd : d ≤ 4) (hl : H.length + D.length < 60) : Xo (xcon u H d D) (f_X1_continues_41 u σ) σ := by
  unfold f_X1_continues_41 xcon
  rw [x_num, bd_mk, ifz]
  by_cases hn : 48 ≤ u ∧ u ≤ 57
  · rw [if_pos hn, if_pos hn, nm_mk]
    exact Xo_gb (x_len h hd (by omega) u)
  rw [if_neg hn, if_neg hn, nm_mk]
  have h0 : CS (mset σ 41 5 0) H 0 false D := by
    refine h.sg (mset_ne (by decide)) (mset_ne (by decide)) ?_ ?_ ?_ ?_ mset_at ?_
    · rw [mset_eq, upd_no (by decide)]; exact h.1
    · rw [mset_ne (by decide)]; exact h.2.1
    · rw [mset_eq, upd_no (by decide)]; exact h.2.2.1
    · rw [mset_eq, upd_no (by decide)]; exact h.2.2.2.1
    · rw [mset_eq, upd_no (by decide)]; exact h.2.2.2.2.2.1
  have fr0 : Fr σ (mset σ 41 5 0) := (Fr.rf σ).set (by omega)
  by_cases h41 : u = 41
  · rw [if_pos h41, if_pos h41]
    exact Xo_fr fr0 (Xo_gb (x_clo h0 hi hl))
  rw [if_neg h41, if_neg h41, x_rank, bd_mk]
  by_cases r0 : rk u = 0
  · rw [if_pos (Or.inl r0), r0, if_pos (show nI 0 = 0 from rfl)]
    exact ⟨_, gb_0 _, fr0⟩
  have hr := rk_le u
  rw [if_neg (show ¬ nI (rk u) = 0 from nI_ne0 (by omega) (by omega))]
  by_cases r6 : rk u = 6
  · rw [if_pos (Or.inr r6), r6, if_pos (show nI 6 = 6 from rfl)]
    exact ⟨_, gb_0 _, fr0⟩
  rw [if_neg (fun q => q.elim r0 r6), if_neg (show ¬ nI (rk u) = 6 from fun q => r6 ((nI_eq (b := 6) (by omega) (by omega)).mp q))]
  obtain ⟨_, h33, h40, _⟩ := rk_sg (by omega) r6
  by_cases r3 : rk u = 3
  · obtain ⟨σ1, e1, c1, fr1⟩ := x_settle (r := 4) (by omega) (by omega) 1000 H D 0 false _ h0 (by omega) (by omega)
    have sl := settle_len (r := 4) (H := H) (D := D)
    rw [r3, if_pos (show nI 3 = 3 from rfl), nm_mk, show f_X1_settle_41 (nI 3 + 1) (mset σ 41 5 0) = some (0, σ1) from e1, bd_mk, if_pos (show nI 3 = 3 from rfl), nm_mk, if_pos (show 3 = 3 from rfl)]
    generalize (settle 4 H D).1 = H1 at c1 sl ⊢
    generalize (settle 4 H D).2 = D1 at c1 sl ⊢
    match H1, c1, sl with
    | [], c1, sl =>
      rw [show σ1 41 2 = 0 from c1.1, if_pos (Int32.le_refl _), if_neg (fun q => absurd q.2 (by decide))]
      exact Xo_fr (fr0.tr fr1) (x_pk c1 (by show 0 < 60; omega) h33 h40)
    | s :: H1, c1, sl =>
      have sl : H1.length + 1 + D1.length = H.length + D.length := sl
      rw [show σ1 41 2 = nI (H1.length + 1) from c1.1, if_neg (nI_nle (by omega) (by omega)), nm_mk, nm_mk, nI_pred, gin (by omega), nm_mk, cln (by omega), show σ1 45 H1.length = s from c1.2.1.1, x_rank, bd_mk]
      by_cases t3 : rk s = 3
      · rw [t3, if_pos (show nI 3 = 3 from rfl), if_pos ⟨rfl, t3⟩]
        exact ⟨_, gb_0 _, fr0.tr fr1⟩
      · have hs := rk_le s
        rw [if_neg (show ¬ nI (rk s) = 3 from fun q => t3 ((nI_eq (b := 3) (by omega) (by omega)).mp q)), if_neg (fun q => t3 q.2)]
        exact Xo_fr (fr0.tr fr1) (x_pk c1 (by show H1.length + 1 < 60; omega) h33 h40)
  · obtain ⟨σ1, e1, c1, fr1⟩ := x_settle (r := rk u) (by omega) (by omega) 1000 H D 0 false _ h0 (by omega) (by omega)
    have sl := settle_len (r := rk u) (H := H) (D := D)
    have n3 : ¬ nI (rk u) = 3 := fun q => r3 ((nI_eq (b := 3) (by omega) (by omega)).mp q)
    rw [if_neg n3, show f_X1_settle_41 (nI (rk u)) (mset σ 41 5 0) = some (0, σ1) from e1, bd_mk, if_neg n3, if_neg (fun q => r3 q.1), if_neg r3]
    exact Xo_fr (fr0.tr fr1) (x_pk c1 (by omega) h33 h40)
