/-! weightsBy -/
theorem ad5 {i : Nat} (h : i < 6) : AD 5 i (11 + 4 * i + 2) := by unfold AD; omega
theorem wby_l {c : Nat} {S : Mem} (w : Rel c S) {s L np : Nat} (hs : s < 4) (hL : L ≤ 24) (hnp : np ≤ 6) (h48 : S 48 s = nI L) (h24 : S 2 4 = nI np) {n : Nat} (hn : n = min np L) (fu : Nat) : ∀ (i : Nat) (σ : Mem) (ρ : Nat → Int32), i ≤ n → n - i < fu → WF σ → RM ρ σ → σ 49 = S 49 → σ 2 4 = nI np → ∃ v σ1 ρ1, f_X7_weightsBy_0_L55 fu (nI s) (nI n) (nI i) σ = some (v, σ1) ∧ WF σ1 ∧ RM ρ1 σ1 ∧ (∀ k, ¬ k = 5 → σ1 k = σ k) ∧ ∀ τ, τ 54 = ρ → τ 58 = S 58 → τ 59 = S 59 → f_X8_weightsBy_53_L18 fu (nI s) (nI i) τ = some (v, mrow τ 54 ρ1) := by
  obtain ⟨p1, p2, p3, p4, p5⟩ := w.sr s hs
  induction fu with
  | zero => intro i σ ρ h1 h2; omega
  | succ fu ih =>
    intro i σ ρ h1 h2 wf rm e49 e24
    show ∃ v σ1 ρ1, fb_X7_weightsBy_0_L55 (f_X7_weightsBy_0_L55 fu) (nI s) (nI n) (nI i) σ = some (v, σ1) ∧ WF σ1 ∧ RM ρ1 σ1 ∧ (∀ k, ¬ k = 5 → σ1 k = σ k) ∧ ∀ τ, τ 54 = ρ → τ 58 = S 58 → τ 59 = S 59 → fb_X8_weightsBy_53_L18 (f_X8_weightsBy_53_L18 fu) (nI s) (nI i) τ = some (v, mrow τ 54 ρ1)
    have r7 : ρ 7 = nI np := rm.r7.trans e24
    by_cases hi : i = n
    · subst hi
      refine ⟨nI i, σ, ρ, by rw [fb_X7_weightsBy_0_L55, if_pos (Int32.le_refl _)], wf, rm, fun _ _ => rfl, fun τ h54 h58 h59 => ?_⟩
      rw [mrow_self h54, fb_X8_weightsBy_53_L18, gin (by omega), nm_mk, cln (by omega), h58, ← p2, h48]
      by_cases q : L ≤ i
      · rw [if_pos ((nI_leI (by omega) (by omega)).mpr q)]
      · rw [if_neg (fun h => q ((nI_leI (by omega) (by omega)).mp h)), g7_386, nm_mk, c_7, h54, r7, if_pos ((nI_leI (by omega) (by omega)).mpr (by omega))]
    · have qn : ¬ nI n ≤ nI i := fun q => absurd ((nI_leI (by omega) (by omega)).mp q) (by omega)
      have qL : ¬ nI L ≤ nI i := fun q => absurd ((nI_leI (by omega) (by omega)).mp q) (by omega)
      have qp : ¬ nI np ≤ nI i := fun q => absurd ((nI_leI (by omega) (by omega)).mp q) (by omega)
      obtain ⟨k1, k2⟩ := cr_d (p5 i (by omega))
      have hmm : ∀ τ, τ 54 = ρ → τ 58 = S 58 → τ 59 = S 59 → fb_X8_weightsBy_53_L18 (f_X8_weightsBy_53_L18 fu) (nI s) (nI i) τ = if 0 ≤ S 59 (s * 24 + i) ∧ S 59 (s * 24 + i) ≤ 9 then f_X8_weightsBy_53_L18 fu (nI s) (nI (i + 1)) (mset τ 54 (11 + 4 * i + 2) (S 59 (s * 24 + i))) else some (nI i, τ) := fun τ h54 h58 h59 => by
        rw [fb_X8_weightsBy_53_L18, gin (by omega), nm_mk, cln (by omega), h58, ← p2, h48, if_neg qL, g7_386, nm_mk, c_7, h54, r7, if_neg qp, nm_mk, nm_mk, i_24s, gin (by omega), nm_mk, cln (by omega), h59, in_eq, bd_mk, ifz]
        simp only [nm_mk, i_4, i_11, i_a2, i_24s, nI_1]
        simp (disch := omega) only [gin, cln, h59]
      have hxx : fb_X7_weightsBy_0_L55 (f_X7_weightsBy_0_L55 fu) (nI s) (nI n) (nI i) σ = if 0 ≤ S 59 (s * 24 + i) ∧ S 59 (s * 24 + i) ≤ 9 then f_X7_weightsBy_0_L55 fu (nI s) (nI n) (nI (i + 1)) (mset σ 5 i (S 49 (s * 24 + i))) else some (nI i, σ) := by
        rw [fb_X7_weightsBy_0_L55, if_neg qn, f_X4_read_46, nm_mk, nm_mk, i_s24, gin (by omega), nm_mk, cln (by omega), e49, bd_mk, x_isDigit, bd_mk, ifz, gin (by omega), nm_mk, cln (by omega), nm_mk, nI_1]
        simp only [k1]
      by_cases hd : 0 ≤ S 59 (s * 24 + i) ∧ S 59 (s * 24 + i) ≤ 9
      · have ev : S 49 (s * 24 + i) = S 59 (s * 24 + i) := k2 hd
        have A : AD 5 i (11 + 4 * i + 2) := ad5 (by omega)
        obtain ⟨v, σ1, ρ1, f1, f2, f3, f4, f5⟩ := ih (i + 1) (mset σ 5 i (S 59 (s * 24 + i))) (upd ρ (11 + 4 * i + 2) (S 59 (s * 24 + i))) (by omega) (by omega) (WF.set wf (by omega) (fun _ => by show bn _ 9; exact bn_of (by decide) rfl hd)) (rm.set A _) (by rw [mset_ne (by decide), e49]) (by rw [mset_ne (by decide), e24])
        refine ⟨v, σ1, ρ1, by rw [hxx, if_pos hd, ev]; exact f1, f2, f3, fun k hk => by rw [f4 k hk, mset_ne hk], fun τ h54 h58 h59 => ?_⟩
        rw [hmm τ h54 h58 h59, if_pos hd, f5 (mset τ 54 (11 + 4 * i + 2) (S 59 (s * 24 + i))) (by rw [mset_eq, h54]) (by rw [mset_ne (by decide), h58]) (by rw [mset_ne (by decide), h59]), mset_row]
        have e : mrow (mrow τ 54 (upd (τ 54) (11 + 4 * i + 2) (S 59 (s * 24 + i)))) 54 ρ1 = mrow τ 54 ρ1 := by
          funext q
          by_cases h : q = 54
          · subst h; rw [mrow_eq, mrow_eq]
          · rw [mrow_ne h, mrow_ne h, mrow_ne h]
        rw [e]
      · exact ⟨nI i, σ, ρ, by rw [hxx, if_neg hd], wf, rm, fun _ _ => rfl, fun τ h54 h58 h59 => by rw [hmm τ h54 h58 h59, if_neg hd, mrow_self h54]⟩
theorem min_I {a b : Nat} (ha : a < 100) (hb : b < 100) : (if nI a < nI b then nI a else nI b) = nI (min a b) := by
  by_cases h : a < b
  · rw [if_pos (nI_lt h (by omega)), Nat.min_eq_left (by omega)]
  · rw [if_neg (nI_nlt (by omega) (by omega)), Nat.min_eq_right (by omega)]
theorem call_weightsBy {c : Nat} {σ : Mem} (w : Rel c σ) (a0 : Int32) : Call c (fun σ => f_X7_weightsBy_0 a0 σ) (fun σ => f_X8_weightsBy_53 a0 σ) σ := by
  unfold f_X7_weightsBy_0 f_X8_weightsBy_53
  refine sheet_guard w a0 (fun s hs e hm => ?_)
  subst e
  obtain ⟨np, hnp, h24⟩ := w.1.1.1
  obtain ⟨p1, p2, ⟨L, hL, p3⟩, p4, p5⟩ := w.sr s hs
  obtain ⟨v, σ1, ρ1, f1, f2, f3, f4, f5⟩ := wby_l w hs hL hnp p3 h24 rfl 1000 0 σ (σ 54) (by omega) (by omega) w.1 w.2.1 rfl h24
  refine Call_chg w (r := v) (σ1 := σ1) (ρ := ρ1) ?_ (fun k hk => f4 k (by omega)) f2 f3 ?_
  · show gi _ _ _ = _
    rw [gin (by omega), nm_mk, cln (by omega), p3, nm_mk, h24, nm_mk, min_I (by omega) (by omega)]
    exact f1
  · exact f5 σ1 (f4 54 (by decide)) (f4 58 (by decide)) (f4 59 (by decide))
