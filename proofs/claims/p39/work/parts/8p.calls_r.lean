/-! judge -/
/-- both end, and stand side by side again; they may answer otherwise -/
def CallV (c : Nat) (F G : Mem → Res) (σ : Mem) : Prop := ∃ r σ1, F σ = some (r, σ1) ∧ Mo σ σ1 ∧ ∃ q σ2, G σ1 = some (q, σ2) ∧ Rel (c + 1) σ2
theorem Call.weak {c : Nat} {F G : Mem → Res} {σ : Mem} (h : Call c F G σ) : CallV c F G σ := by
  obtain ⟨r, σ1, a, b, σ2, d, e⟩ := h
  exact ⟨r, σ1, a, b, r, σ2, d, e⟩
theorem CallV_of {c : Nat} {F F' G G' : Mem → Res} {σ : Mem} (h : CallV c F' G' σ) (hF : F σ = F' σ) (hG : ∀ τ, Mo σ τ → G τ = G' τ) : CallV c F G σ := by
  obtain ⟨r, σ1, a, b, q, σ2, d, e⟩ := h
  exact ⟨r, σ1, hF.trans a, b, q, σ2, (hG _ b).trans d, e⟩
theorem x_judge_l {S : Mem} (wf : WF S) {s n : Nat} (hs : s < 4) (hn : n ≤ 6) (fu : Nat) : ∀ (i : Nat) (σ : Mem), i ≤ n → n - i < fu → Same S σ → ∃ v, RO (fun σ => f_X7_judge_0_L55 fu (nI s) (nI n) (nI i) σ) σ v := by
  induction fu with
  | zero => intro i σ h1 h2; omega
  | succ fu ih =>
    intro i σ h1 h2 h
    show ∃ v, RO (fun σ => fb_X7_judge_0_L55 (f_X7_judge_0_L55 fu) (nI s) (nI n) (nI i) σ) σ v
    by_cases hi : i = n
    · subst hi
      exact ⟨nI i, RO.mk (by rw [fb_X7_judge_0_L55, if_pos (Int32.le_refl _)])⟩
    · have qn : ¬ nI n ≤ nI i := fun q => absurd ((nI_leI (by omega) (by omega)).mp q) (by omega)
      obtain ⟨σ1, a, b⟩ := x_air h.sc wf (show i < 6 by omega)
      have e : fb_X7_judge_0_L55 (f_X7_judge_0_L55 fu) (nI s) (nI n) (nI i) σ = if σ 49 (s * 24 + i) = air S i then f_X7_judge_0_L55 fu (nI s) (nI n) (nI (i + 1)) σ1 else some (nI i, σ1) := by
        rw [fb_X7_judge_0_L55, if_neg qn, f_X4_read_46, nm_mk, nm_mk, i_s24, gin (by omega), nm_mk, cln (by omega), bd_mk, a, bd_mk, nm_mk, nI_1]
      by_cases q : σ 49 (s * 24 + i) = air S i
      · obtain ⟨v, σ2, d, f⟩ := ih (i + 1) σ1 (by omega) (by omega) (h.tr b)
        exact ⟨v, σ2, by show fb_X7_judge_0_L55 _ _ _ _ _ = _; rw [e, if_pos q]; exact d, b.tr f⟩
      · exact ⟨nI i, σ1, by show fb_X7_judge_0_L55 _ _ _ _ _ = _; rw [e, if_neg q], b⟩
theorem m_judge_l {S : Mem} {s np L : Nat} (hs : s < 4) (hn : np ≤ 6) (hL : L ≤ 24) (h24 : S 2 4 = nI np) (fu : Nat) : ∀ (i : Nat) (τ : Mem), i ≤ np → np - i < fu → RM (τ 54) S → τ 58 s = nI L → ∃ v, RO (fun σ => f_X8_judge_53_L18 fu (nI s) (nI i) σ) τ v := by
  induction fu with
  | zero => intro i σ h1 h2; omega
  | succ fu ih =>
    intro i τ h1 h2 h h58
    show ∃ v, RO (fun σ => fb_X8_judge_53_L18 (f_X8_judge_53_L18 fu) (nI s) (nI i) σ) τ v
    have r7 : τ 54 7 = nI np := h.r7.trans h24
    by_cases hi : nI L ≤ nI i
    · exact ⟨nI i, RO.mk (by rw [fb_X8_judge_53_L18, gin (by omega), nm_mk, cln (by omega), h58, if_pos hi])⟩
    · by_cases hp : i = np
      · subst hp
        exact ⟨nI i, RO.mk (by rw [fb_X8_judge_53_L18, gin (by omega), nm_mk, cln (by omega), h58, if_neg hi, g7_386, nm_mk, c_7, r7, if_pos (Int32.le_refl _)])⟩
      · have qn : ¬ nI np ≤ nI i := fun q => absurd ((nI_leI (by omega) (by omega)).mp q) (by omega)
        obtain ⟨σ1, a, b⟩ := m_air h (show i < 6 by omega)
        have e : fb_X8_judge_53_L18 (f_X8_judge_53_L18 fu) (nI s) (nI i) τ = if τ 59 (s * 24 + i) = air S i then f_X8_judge_53_L18 fu (nI s) (nI (i + 1)) σ1 else some (nI i, σ1) := by
          rw [fb_X8_judge_53_L18, gin (by omega), nm_mk, cln (by omega), h58, if_neg hi, g7_386, nm_mk, c_7, r7, if_neg qn, nm_mk, nm_mk, i_24s, gin (by omega), nm_mk, cln (by omega), a, bd_mk, nm_mk, nI_1]
        by_cases q : τ 59 (s * 24 + i) = air S i
        · obtain ⟨v, σ2, d, f⟩ := ih (i + 1) σ1 (by omega) (by omega) (by rw [b.r54]; exact h) (by rw [b.c 58 rfl]; exact h58)
          exact ⟨v, σ2, by show fb_X8_judge_53_L18 _ _ _ _ = _; rw [e, if_pos q]; exact d, b.tr f⟩
        · exact ⟨nI i, σ1, by show fb_X8_judge_53_L18 _ _ _ _ = _; rw [e, if_neg q], b⟩
theorem callv_judge {c : Nat} {σ : Mem} (w : Rel c σ) (a0 : Int32) : CallV c (fun σ => f_X7_judge_0 a0 σ) (fun σ => f_X8_judge_53 a0 σ) σ := by
  by_cases hp : 0 ≤ a0 ∧ a0 ≤ 3
  · obtain ⟨s, hs, rfl⟩ := nI_of2 (M := 3) (n := 3) (by decide) (Int32.not_lt.mpr hp.1) hp.2
    have hs : s < 4 := by omega
    obtain ⟨p1, p2, ⟨L, hL, p3⟩, p4, p5⟩ := w.sr s hs
    obtain ⟨np, hnp, h24⟩ := w.1.1.1
    by_cases h0 : σ 47 s = 0
    · refine CallV_of (Call_e2 w).weak ?_ (fun τ ht => ?_)
      · show f_X7_judge_0 _ _ = _
        rw [f_X7_judge_0, x_isSheet, bd_mk, ifz, if_pos hp, x_miss hs, bd_mk, if_pos h0, if_neg n01, bd_et]
      · show f_X8_judge_53 _ _ = _
        rw [f_X8_judge_53, m_there hs, bd_mk, ht 57 (by decide) (by decide) (by decide), ← p1, if_pos h0, if_neg (by decide), bd_et]
    · obtain ⟨v, σ1, a, b⟩ := x_judge_l w.1 (n := min np L) hs (by omega) 1000 0 σ (by omega) (by omega) (Same.rf σ)
      have rm := w.rm (Mo.of b)
      obtain ⟨v2, σ2, d, e⟩ := m_judge_l (L := L) hs hnp hL h24 1000 0 σ1 (by omega) (by omega) rm (by rw [b.c 58 rfl, ← p2, p3])
      refine ⟨v, σ1, ?_, Mo.of b, v2, σ2, ?_, (w.same (b.tr e)).up⟩
      · show f_X7_judge_0 _ _ = _
        rw [f_X7_judge_0, x_isSheet, bd_mk, ifz, if_pos hp, x_miss hs, bd_mk, if_neg h0, if_pos rfl, gin (by omega), nm_mk, cln (by omega), p3, nm_mk, h24, nm_mk, min_I (by omega) (by omega)]
        exact a
      · show f_X8_judge_53 _ _ = _
        rw [f_X8_judge_53, m_there hs, bd_mk, b.c 57 rfl, ← p1, if_neg h0, if_pos rfl]
        exact d
  · refine CallV_of (Call_e1 w).weak ?_ (fun τ ht => ?_)
    · show f_X7_judge_0 _ _ = _
      rw [f_X7_judge_0, x_isSheet, bd_mk, ifz, if_neg hp, bd_et]
    · show f_X8_judge_53 _ _ = _
      rw [f_X8_judge_53, m_notThere hp, bd_mk, if_neg (by decide), bd_et]
