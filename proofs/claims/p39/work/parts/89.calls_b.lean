/-! a call on both sides step by step; the loops that only read -/
def Pr (c : Nat) (F G : Mem → Res) (σ : Mem) : Prop := ∃ r σ1, F σ = some (r, σ1) ∧ Mo σ σ1 ∧ ∀ τ, Same σ1 τ → ∃ σ2, G τ = some (r, σ2) ∧ Rel (c + 1) σ2
theorem Pr.call {c : Nat} {F G : Mem → Res} {σ : Mem} (h : Pr c F G σ) : Call c F G σ := by
  obtain ⟨r, σ1, a, b, d⟩ := h
  exact ⟨r, σ1, a, b, d σ1 (Same.rf σ1)⟩
theorem Mo.after {σ σ1 τ : Mem} (h : Same σ σ1) (h2 : Mo σ1 τ) : Mo σ τ := fun k h1 h3 h4 => by rw [h2 k h1 h3 h4]; exact h k (by omega) (by omega) h3 h4
theorem Mo.then {σ σ1 τ : Mem} (h : Mo σ σ1) (h2 : Same σ1 τ) : Mo σ τ := fun k h1 h3 h4 => by rw [h2 k (by omega) (by omega) h3 h4]; exact h k h1 h3 h4
theorem Pr.step {c : Nat} {F F' G G' : Mem → Res} {σ σa : Mem} (h : Pr c F' G' σa) (s : Same σ σa) (hF : F σ = F' σa) (hG : ∀ τ, Mo σ τ → ∃ τ', G τ = G' τ' ∧ Same τ τ') : Pr c F G σ := by
  obtain ⟨r, σ1, a, b, d⟩ := h
  refine ⟨r, σ1, hF.trans a, b.after s, fun τ ht => ?_⟩
  obtain ⟨τ', e, f⟩ := hG τ ((b.after s).then ht)
  obtain ⟨σ2, g, w⟩ := d τ' (ht.tr f)
  exact ⟨σ2, e.trans g, w⟩
theorem Pr_ro {c : Nat} {F G : Mem → Res} {σ : Mem} {v : Int32} (w : Rel c σ) (hF : RO F σ v) (hG : ∀ τ, Same σ τ → RO G τ v) : Pr c F G σ := by
  obtain ⟨σ1, a, b⟩ := hF
  refine ⟨v, σ1, a, Mo.of b, fun τ ht => ?_⟩
  obtain ⟨σ2, d, e⟩ := hG τ (b.tr ht)
  exact ⟨σ2, d, (w.same ((b.tr ht).tr e)).up⟩
theorem Rel.err {c : Nat} {σ τ : Mem} (w : Rel c σ) (k : Nat) (h : Same (mset σ 52 k (σ 52 k + 1)) τ) : Rel (c + 1) (mset τ 56 k (τ 56 k + 1)) := by
  have e52 : τ 52 = mset σ 52 k (σ 52 k + 1) 52 := h 52 (by decide) (by decide) (by decide) (by decide)
  have e56 : τ 56 = σ 56 := by
    rw [h 56 (by decide) (by decide) (by decide) (by decide), mset_ne (by decide)]
  refine (w.sm (fun q h1 h2 h3 h4 h5 h6 => ?_) ?_).up
  · rw [mset_ne h6, h q h1 h2 h3 h4, mset_ne h5]
  · rw [mset_ne (by decide), mset_eq, e52, mset_eq, e56, w.2.2.2.1]
theorem Pr_e2 {c : Nat} {σ : Mem} (w : Rel c σ) : Pr c (fun σ => f_X7_error_0 2 σ) (fun σ => f_X8_error_53 (-1000000002) σ) σ := ⟨_, _, x_err2 _, mo_err _ _, fun τ h => ⟨_, m_err2 τ, w.err 2 h⟩⟩
theorem Pr_same {c : Nat} {F F' G G' : Mem → Res} {σ : Mem} (h : Pr c F' G' σ) (hF : F σ = F' σ) (hG : ∀ τ, Mo σ τ → G τ = G' τ) : Pr c F G σ :=
  h.step (Same.rf σ) hF (fun τ ht => ⟨τ, hG τ ht, Same.rf τ⟩)
theorem nI20 : (20 : Int32) = nI 20 := rfl
theorem leadFor_l {r i : Nat} (hr : r < 5) (hi : i < 6) {c : Nat} (fu : Nat) : ∀ (j : Nat) (σ : Mem), j ≤ 21 → 21 - j < fu → Rel c σ → Pr c (fun σ => f_X7_leadFor_0_L24 fu (nI r) (nI i) (nI j) σ) (fun σ => f_X8_leadFor_53_L25 fu (nI r) (nI i) (nI j) σ) σ := by
  induction fu with
  | zero => intro j σ h1 h2; omega
  | succ fu ih =>
    intro j σ h1 h2 w
    show Pr c (fun σ => fb_X7_leadFor_0_L24 (f_X7_leadFor_0_L24 fu) (nI r) (nI i) (nI j) σ) (fun σ => fb_X8_leadFor_53_L25 (f_X8_leadFor_53_L25 fu) (nI r) (nI i) (nI j) σ) σ
    unfold fb_X7_leadFor_0_L24 fb_X8_leadFor_53_L25
    by_cases h : 20 < j
    · have q : (20 : Int32) < nI j := (nI_ltI (a := 20) (by omega) (by omega)).mpr h
      exact Pr_same (Pr_e2 w) (by show ite _ _ _ = _; rw [if_pos q, bd_et]) (fun τ _ => by show ite _ _ _ = _; rw [if_pos q, bd_et])
    · have q : ¬ (20 : Int32) < nI j := fun q => h ((nI_ltI (a := 20) (by omega) (by omega)).mp q)
      obtain ⟨σ1, a, b⟩ := x_marg (Sc.rf σ) w.1 hr hi (nI j)
      have hm := fun τ (ht : Mo σ τ) => m_safe (w.rm ht) hr hi (nI j)
      by_cases hg : marg σ r i (nI j) < 0
      · refine (ih (j + 1) σ1 (by omega) (by omega) (w.same b)).step b ?_ (fun τ ht => ?_)
        · show ite _ _ _ = _
          rw [if_neg q, a, bd_mk, if_pos hg, nm_mk, nI_1]
        · obtain ⟨τ', d, e⟩ := hm τ ht
          refine ⟨τ', ?_, e⟩
          show ite _ _ _ = _
          rw [if_neg q, d, bd_mk, if_pos hg, if_pos rfl, nm_mk, nI_1]
      · refine Pr_ro w (v := nI j) ⟨σ1, ?_, b⟩ (fun τ ht => ?_)
        · show ite _ _ _ = _
          rw [if_neg q, a, bd_mk, if_neg hg]
        · obtain ⟨τ', d, e⟩ := hm τ (Mo.of ht)
          refine ⟨τ', ?_, e⟩
          show ite _ _ _ = _
          rw [if_neg q, d, bd_mk, if_neg hg, if_neg (by decide)]
theorem call_leadFor {c : Nat} {σ : Mem} (w : Rel c σ) (a0 a1 : Int32) : Call c (fun σ => f_X7_leadFor_0 a0 a1 σ) (fun σ => f_X8_leadFor_53 a0 a1 σ) σ := by
  unfold f_X7_leadFor_0 f_X8_leadFor_53
  refine guardR w a0 (fun r hr e => guardP w a1 (fun i hi e2 => ?_))
  subst e e2
  exact (leadFor_l hr hi 1000 0 σ (by omega) (by omega) w).call
theorem bestLead_l {r : Nat} (hr : r < 5) (x2 : Int32) {c : Nat} (fu : Nat) : ∀ (j : Nat) (x3 x4 : Int32) (σ : Mem), j ≤ 21 → 21 - j < fu → Rel c σ → Pr c (fun σ => f_X7_bestLead_0_L31 fu (nI r) x2 x3 x4 (nI j) σ) (fun σ => f_X8_bestLead_53_L32 fu (nI r) x2 x3 x4 (nI j) σ) σ := by
  induction fu with
  | zero => intro j x3 x4 σ h1 h2; omega
  | succ fu ih =>
    intro j x3 x4 σ h1 h2 w
    show Pr c (fun σ => fb_X7_bestLead_0_L31 (f_X7_bestLead_0_L31 fu) (nI r) x2 x3 x4 (nI j) σ) (fun σ => fb_X8_bestLead_53_L32 (f_X8_bestLead_53_L32 fu) (nI r) x2 x3 x4 (nI j) σ) σ
    unfold fb_X7_bestLead_0_L31 fb_X8_bestLead_53_L32
    by_cases h : 20 < j
    · have q : (20 : Int32) < nI j := (nI_ltI (a := 20) (by omega) (by omega)).mpr h
      by_cases h3 : 0 ≤ x3
      · refine Pr_ro w (v := if x2 = 0 then x3 else x4) (RO.mk ?_) (fun τ ht => RO.mk ?_)
        · show ite _ _ _ = _
          rw [if_pos q, if_pos h3, ite_some]
        · show ite _ _ _ = _
          rw [if_pos q, if_pos h3, ite_some]
      · exact Pr_same (Pr_e2 w) (by show ite _ _ _ = _; rw [if_pos q, if_neg h3, bd_et]) (fun τ _ => by show ite _ _ _ = _; rw [if_pos q, if_neg h3, bd_et])
    · have q : ¬ (20 : Int32) < nI j := fun q => h ((nI_ltI (a := 20) (by omega) (by omega)).mp q)
      obtain ⟨np, hn, h24⟩ := w.1.1.1
      by_cases hp : pk σ r (nI j) = 0
      · obtain ⟨σ1, a, b⟩ := x_wgains (Sc.rf σ) w.1 hn h24 hr (nI j)
        have hm := fun τ (ht : Mo σ τ) => m_wgains (w.rm ht) hn h24 hr (nI j)
        by_cases hx : x3 < 0 ∨ ¬ sumN (wg σ r (nI j)) np ≤ x4
        · refine (ih (j + 1) (nI j) (sumN (wg σ r (nI j)) np) σ1 (by omega) (by omega) (w.same b)).step b ?_ (fun τ ht => ?_)
          · show ite _ _ _ = _
            rw [if_neg q, x_pick (Sc.rf σ) hr, bd_mk, if_pos hp, a, bd_mk]
            simp only [nm_mk, nI_1]
            rcases hx with hx | hx
            · rw [if_pos hx]
            · rw [if_neg hx, ite_self]
          · obtain ⟨τ', d, e⟩ := hm τ ht
            refine ⟨τ', ?_, e⟩
            show ite _ _ _ = _
            rw [if_neg q, m_pick (w.rm ht) hr, bd_mk, if_pos hp, d, bd_mk, if_neg (show ¬ (1 : Int32) = 0 by decide), if_neg (show ¬ (1 : Int32) = 0 by decide), nI_1]
            rcases hx with hx | hx
            · rw [if_pos hx]
              rfl
            · rw [if_neg hx, ite_self]
              rfl
        · have hx1 : ¬ x3 < 0 := fun h => hx (Or.inl h)
          have hx2 : sumN (wg σ r (nI j)) np ≤ x4 := Decidable.byContradiction (fun h => hx (Or.inr h))
          refine (ih (j + 1) x3 x4 σ1 (by omega) (by omega) (w.same b)).step b ?_ (fun τ ht => ?_)
          · show ite _ _ _ = _
            rw [if_neg q, x_pick (Sc.rf σ) hr, bd_mk, if_pos hp, a, bd_mk, if_neg hx1, if_pos hx2, nm_mk, nI_1]
          · obtain ⟨τ', d, e⟩ := hm τ ht
            refine ⟨τ', ?_, e⟩
            show ite _ _ _ = _
            rw [if_neg q, m_pick (w.rm ht) hr, bd_mk, if_pos hp, d, bd_mk, if_neg hx1, if_pos hx2, if_pos rfl, if_pos rfl, nm_mk, nI_1]
      · refine (ih (j + 1) x3 x4 σ (by omega) (by omega) w).step (Same.rf σ) ?_ (fun τ ht => ⟨τ, ?_, Same.rf τ⟩)
        · show ite _ _ _ = _
          rw [if_neg q, x_pick (Sc.rf σ) hr, bd_mk, if_neg hp, nm_mk, nI_1]
        · show ite _ _ _ = _
          rw [if_neg q, m_pick (w.rm ht) hr, bd_mk, if_neg hp, nm_mk, nI_1]
theorem call_bestLead {c : Nat} {σ : Mem} (w : Rel c σ) (a0 a1 : Int32) : Call c (fun σ => f_X7_bestLead_0 a0 a1 σ) (fun σ => f_X8_bestLead_53 a0 a1 σ) σ := by
  unfold f_X7_bestLead_0 f_X8_bestLead_53
  refine guardR w a0 (fun r hr e => guard w (within_eq a1 0 1 σ) (fun σ1 _ => in_eq a1 0 1 σ1) (fun hp => ?_))
  subst e
  exact (bestLead_l hr a1 1000 0 (-1) 0 σ (by omega) (by omega) w).call
