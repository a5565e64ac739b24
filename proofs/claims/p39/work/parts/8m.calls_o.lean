/-! move -/
theorem call_move {c : Nat} {σ : Mem} (w : Rel c σ) (a0 a1 a2 a3 a4 : Int32) : Call c (fun σ => f_X7_move_0 a0 a1 a2 a3 a4 σ) (fun σ => f_X8_move_53 a0 a1 a2 a3 a4 σ) σ := by
  have hmv : ∀ (τ : Mem) (v : Int32), f_X8_notMoved_53 a0 a1 a2 a3 a4 τ = some (v, τ) → f_X8_move_53 a0 a1 a2 a3 a4 τ = if v = 0 then f_X8_move_53_L28 1000 a0 a1 a2 a3 a4 0 τ else bd (f_X8_error_53 v τ) fun v23 μ24 => some (v23, μ24) := fun τ v h => by
    rw [f_X8_move_53, h, bd_mk]
  by_cases hp : 0 ≤ a0 ∧ a0 ≤ 3
  rotate_left
  · exact Call_of (Call_e1 w) (by show f_X7_move_0 _ _ _ _ _ _ = _; rw [f_X7_move_0, x_isSheet, bd_mk, ifz, if_neg hp, bd_et]) (fun τ _ => by show f_X8_move_53 _ _ _ _ _ _ = _; rw [hmv τ (-1000000001) (by rw [f_X8_notMoved_53, m_isSheet, bd_mk, ifz, if_neg hp]), if_neg (by decide), bd_et])
  by_cases hp2 : 0 ≤ a2 ∧ a2 ≤ 3
  rotate_left
  · exact Call_of (Call_e1 w) (by show f_X7_move_0 _ _ _ _ _ _ = _; rw [f_X7_move_0, x_isSheet, bd_mk, ifz, if_pos hp, x_isSheet, bd_mk, ifz, if_neg hp2, bd_et]) (fun τ _ => by show f_X8_move_53 _ _ _ _ _ _ = _; rw [hmv τ (-1000000001) (by rw [f_X8_notMoved_53, m_isSheet, bd_mk, ifz, if_pos hp, m_isSheet, bd_mk, ifz, if_neg hp2]), if_neg (by decide), bd_et])
  obtain ⟨s, hs, rfl⟩ := nI_of2 (M := 3) (n := 3) (by decide) (Int32.not_lt.mpr hp.1) hp.2
  obtain ⟨t, ht, rfl⟩ := nI_of2 (M := 3) (n := 3) (by decide) (Int32.not_lt.mpr hp2.1) hp2.2
  have hs : s < 4 := by omega
  have ht : t < 4 := by omega
  obtain ⟨p1, p2, ⟨L, hL, p3⟩, p4, p5⟩ := w.sr s hs
  obtain ⟨q1, q2, ⟨M, hM, q3⟩, q4, q5⟩ := w.sr t ht
  have hx : f_X7_move_0 (nI s) a1 (nI t) a3 a4 σ = if σ 47 s = 0 then f_X7_error_0 2 σ else if σ 47 t = 0 then f_X7_error_0 2 σ else if σ 47 s = σ 47 t then (if ¬ a4 < 0 ∧ ¬ a1 < 0 ∧ ¬ nI L < a1 ∧ ¬ nI L - a1 < a4 then (if ¬ a4 < 0 ∧ ¬ a3 < 0 ∧ ¬ nI M < a3 ∧ ¬ nI M - a3 < a4 then (bd (f_X4_copy_46 (nI s) a1 (nI t) a3 a4 σ) fun v21 μ22 => some (a4, μ22)) else f_X7_error_0 1 σ) else f_X7_error_0 1 σ) else f_X7_error_0 5 σ := by
    rw [f_X7_move_0, x_isSheet, bd_mk, ifz, if_pos hp, x_isSheet, bd_mk, ifz, if_pos hp2, x_miss hs, bd_mk]
    by_cases h1 : σ 47 s = 0
    · rw [if_pos h1, if_pos h1, if_neg n01, bd_et]
    · rw [if_neg h1, if_neg h1, if_pos rfl, x_miss ht, bd_mk]
      by_cases h2 : σ 47 t = 0
      · rw [if_pos h2, if_pos h2, if_neg n01, bd_et]
      · rw [if_neg h2, if_neg h2, if_pos rfl, gin (by omega), nm_mk, gin (by omega), nm_mk, cln (by omega), cln (by omega)]
        by_cases h3 : σ 47 s = σ 47 t
        · rw [if_pos h3, if_pos h3, x_stands hs p3, bd_mk, ifz, x_stands ht q3, bd_mk, ifz, bd_et]
        · rw [if_neg h3, if_neg h3, bd_et]
  have hm : ∀ τ, Mo σ τ → f_X8_notMoved_53 (nI s) a1 (nI t) a3 a4 τ = some (if σ 47 s = 0 then -1000000002 else if σ 47 t = 0 then -1000000002 else if σ 47 s = σ 47 t then (if ¬ a4 < 0 ∧ ¬ a1 < 0 ∧ ¬ a3 < 0 ∧ ¬ nI L - a1 < a4 ∧ ¬ nI M - a3 < a4 then 0 else -1000000001) else -1000000005, τ) := fun τ h => by
    have e57 : τ 57 = σ 57 := h 57 (by decide) (by decide) (by decide)
    have e58 : τ 58 = σ 58 := h 58 (by decide) (by decide) (by decide)
    rw [f_X8_notMoved_53, m_isSheet, bd_mk, ifz, if_pos hp, m_isSheet, bd_mk, ifz, if_pos hp2, gin (by omega), nm_mk, cln (by omega), e57, ← p1]
    by_cases h1 : σ 47 s = 0
    · rw [if_pos h1, if_pos h1]
    · rw [if_neg h1, if_neg h1, gin (by omega), nm_mk, cln (by omega), ← q1]
      by_cases h2 : σ 47 t = 0
      · rw [if_pos h2, if_pos h2]
      · rw [if_neg h2, if_neg h2, gin (by omega), nm_mk, gin (by omega), nm_mk]
        by_cases h3 : σ 47 s = σ 47 t
        · rw [if_pos h3, if_pos h3, gin (by omega), nm_mk, e58, ← p2, p3, nm_mk, gin (by omega), nm_mk, ← q2, q3, nm_mk]
          simp only [if_neg n01, ite_true]
          by_cases c1 : a4 < 0
          · rw [if_pos c1, if_neg (fun q => q.1 c1)]
          · rw [if_neg c1]
            by_cases c2 : a1 < 0
            · rw [if_pos c2, if_neg (fun q => q.2.1 c2)]
            · rw [if_neg c2]
              by_cases c3 : a3 < 0
              · rw [if_pos c3, if_neg (fun q => q.2.2.1 c3)]
              · rw [if_neg c3]
                by_cases c4 : nI L - a1 < a4
                · rw [if_pos c4, if_neg (fun q => q.2.2.2.1 c4)]
                · rw [if_neg c4]
                  by_cases c5 : nI M - a3 < a4
                  · rw [if_pos c5, if_neg (fun q => q.2.2.2.2 c5)]
                  · rw [if_neg c5, if_pos ⟨c1, c2, c3, c4, c5⟩]
        · rw [if_neg h3, if_neg h3]
  by_cases h1 : σ 47 s = 0
  · exact Call_of (Call_e2 w) (by show f_X7_move_0 _ _ _ _ _ _ = _; rw [hx, if_pos h1]) (fun τ h => by show f_X8_move_53 _ _ _ _ _ _ = _; rw [hmv τ _ (hm τ h), if_pos h1, if_neg (by decide), bd_et])
  by_cases h2 : σ 47 t = 0
  · exact Call_of (Call_e2 w) (by show f_X7_move_0 _ _ _ _ _ _ = _; rw [hx, if_neg h1, if_pos h2]) (fun τ h => by show f_X8_move_53 _ _ _ _ _ _ = _; rw [hmv τ _ (hm τ h), if_neg h1, if_pos h2, if_neg (by decide), bd_et])
  by_cases h3 : σ 47 s = σ 47 t
  rotate_left
  · exact Call_of (Call_e5 w) (by show f_X7_move_0 _ _ _ _ _ _ = _; rw [hx, if_neg h1, if_neg h2, if_neg h3]) (fun τ h => by show f_X8_move_53 _ _ _ _ _ _ = _; rw [hmv τ _ (hm τ h), if_neg h1, if_neg h2, if_neg h3, if_neg (by decide), bd_et])
  by_cases hc : ¬ a4 < 0 ∧ ¬ a1 < 0 ∧ ¬ a3 < 0 ∧ ¬ nI L - a1 < a4 ∧ ¬ nI M - a3 < a4
  · obtain ⟨c1, c2, c3, c4, c5⟩ := hc
    obtain ⟨i, n, rfl, rfl, hi⟩ := mv_le hL c1 c2 c4
    obtain ⟨j, n', rfl, e, hj⟩ := mv_le hM c1 c3 c5
    have b : ∀ a : Nat, ¬ nI a < 0 → nI a = nI a := fun _ _ => rfl
    have hn : n ≤ 24 ∨ 24 < n := by omega
    have hnn : n' = n := by
      have := mv_le hL c1 c2 c4
      exact ((nI_eq (by omega) (by omega)).mp e).symm
    subst hnn
    have g1 : ¬ nI n' < 0 ∧ ¬ nI i < 0 ∧ ¬ nI L < nI i ∧ ¬ nI L - nI i < nI n' := ⟨c1, c2, fun q => by have := (nI_ltI (by omega) (by omega)).mp q; omega, c4⟩
    have g2 : ¬ nI n' < 0 ∧ ¬ nI j < 0 ∧ ¬ nI M < nI j ∧ ¬ nI M - nI j < nI n' := ⟨c1, c3, fun q => by have := (nI_ltI (by omega) (by omega)).mp q; omega, c5⟩
    have Mo1 : Mo σ (mrow σ 49 (mvU (σ 49) (s * 24 + i) (t * 24 + j) n')) := fun q h1 _ _ => mrow_ne (by omega)
    refine ⟨nI n', mrow σ 49 (mvU (σ 49) (s * 24 + i) (t * 24 + j) n'), ?_, Mo1, mrow (mrow σ 49 (mvU (σ 49) (s * 24 + i) (t * 24 + j) n')) 59 (mvU (σ 59) (s * 24 + i) (t * 24 + j) n'), ?_, w.shs (fun q h1 h2 => by rw [mrow_ne (by omega), mrow_ne (by omega)]) (w.sr.move hs ht (show i + n' ≤ 24 by omega) (show j + n' ≤ 24 by omega) h3 ?_ ?_ ?_ ?_ ?_ ?_)⟩
    · show f_X7_move_0 _ _ _ _ _ _ = _
      rw [hx, if_neg h1, if_neg h2, if_pos h3, if_pos g1, if_pos g2, x_copy hs ht (by omega) (by omega), bd_mk]
    · show f_X8_move_53 _ _ _ _ _ _ = _
      rw [hmv _ _ (hm _ Mo1), if_neg h1, if_neg h2, if_pos h3, if_pos (And.intro c1 (And.intro c2 (And.intro c3 (And.intro c4 c5)))), if_pos rfl, show (0 : Int32) = nI 0 from rfl, m_move hs ht (by omega) (by omega), mrow_ne (k' := 59) (by decide)]
    · rw [mrow_ne (by decide), mrow_ne (by decide)]
    · rw [mrow_ne (by decide), mrow_ne (by decide)]
    · rw [mrow_ne (by decide), mrow_eq]
    · rw [mrow_ne (by decide), mrow_ne (by decide)]
    · rw [mrow_ne (by decide), mrow_ne (by decide)]
    · rw [mrow_eq]
  · refine Call_of (Call_e1 w) ?_ (fun τ h => ?_)
    · show f_X7_move_0 _ _ _ _ _ _ = _
      rw [hx, if_neg h1, if_neg h2, if_pos h3]
      by_cases g1 : ¬ a4 < 0 ∧ ¬ a1 < 0 ∧ ¬ nI L < a1 ∧ ¬ nI L - a1 < a4
      · rw [if_pos g1, if_neg (fun g2 => hc ⟨g1.1, g1.2.1, g2.2.1, g1.2.2.2, g2.2.2.2⟩)]
      · rw [if_neg g1]
    · show f_X8_move_53 _ _ _ _ _ _ = _
      rw [hmv _ _ (hm _ h), if_neg h1, if_neg h2, if_pos h3, if_neg hc, if_neg (by decide), bd_et]
