/-! the first call on the first world: what the class answers, what the reference answers -/
def Fm (σ : Mem) : Prop := σ 54 = s0_row ∧ σ 53 = (fun _ => 0) ∧ σ 56 = (fun _ => 0) ∧ σ 57 = (fun _ => 0)
def mkm (ρ : Mem) : Mem := fun k => if k = 54 then s0_row else if k = 53 then (fun _ => 0) else if k = 56 then (fun _ => 0) else if k = 57 then (fun _ => 0) else ρ k
theorem Fm_mk {σ : Mem} (h : Fm σ) : σ = mkm σ := by
  obtain ⟨a, b, c, d⟩ := h
  funext k
  unfold mkm
  by_cases h1 : k = 54
  · rw [if_pos h1, h1, a]
  · rw [if_neg h1]
    by_cases h2 : k = 53
    · rw [if_pos h2, h2, b]
    · rw [if_neg h2]
      by_cases h3 : k = 56
      · rw [if_pos h3, h3, c]
      · rw [if_neg h3]
        by_cases h4 : k = 57
        · rw [if_pos h4, h4, d]
        · rw [if_neg h4]
theorem Fm_0 : Fm σ0 := ⟨rfl, rfl, rfl, rfl⟩
theorem Fm_set {σ : Mem} {k j : Nat} {v : Int32} (hk : k < 53) (h : Fm σ) : Fm (mset σ k j v) := by
  obtain ⟨a, b, c, d⟩ := h
  exact ⟨by rw [mset_ne (by omega)]; exact a, by rw [mset_ne (by omega)]; exact b, by rw [mset_ne (by omega)]; exact c, by rw [mset_ne (by omega)]; exact d⟩
theorem no_lt0 (a : Int32) : ¬ (0 ≤ a ∧ a < 0) := fun h => absurd h.1 (Int32.not_le.mpr h.2)
theorem no_le0 (a : Int32) : ¬ (0 ≤ a ∧ a ≤ -1) := fun h => absurd (Int32.le_trans h.1 h.2) (by decide)
theorem xP0 (a : Int32) : f_X7_isPitch_0 a σ0 = some (0, σ0) := by
  rw [x_isPitch]
  exact congrArg (fun z => some (z, σ0)) (if_neg (no_lt0 a))
theorem xR0 (a : Int32) : f_X7_isRunner_0 a σ0 = some (0, σ0) := by
  rw [x_isRunner]
  exact congrArg (fun z => some (z, σ0)) (if_neg (no_lt0 a))
theorem mP0 (a : Int32) (ρ : Mem) : f_X8_isPitch_53 a (mkm ρ) = some (0, mkm ρ) := by
  rw [m_isPitch]
  exact congrArg (fun z => some (z, mkm ρ)) (if_neg (no_le0 a))
theorem mR0 (a : Int32) (ρ : Mem) : f_X8_isRunner_53 a (mkm ρ) = some (0, mkm ρ) := by
  rw [m_isRunner]
  exact congrArg (fun z => some (z, mkm ρ)) (if_neg (no_le0 a))
def p1 (F G : Mem → Res) : Prop := ∃ r, (∃ σ1, F σ0 = some (r, σ1) ∧ Fm σ1) ∧ ∀ ρ, ∃ σ1, G (mkm ρ) = some (r, σ1)
theorem p1_err1 : p1 (fun σ => f_X7_error_0 1 σ) (fun σ => f_X8_error_53 (-1000000001) σ) := ⟨_, ⟨_, x_err1 _, Fm_set (by omega) Fm_0⟩, fun ρ => ⟨_, m_err1 _⟩⟩
theorem p1_err2 : p1 (fun σ => f_X7_error_0 2 σ) (fun σ => f_X8_error_53 (-1000000002) σ) := ⟨_, ⟨_, x_err2 _, Fm_set (by omega) Fm_0⟩, fun ρ => ⟨_, m_err2 _⟩⟩
theorem p1_err3 : p1 (fun σ => f_X7_error_0 3 σ) (fun σ => f_X8_error_53 (-1000000003) σ) := ⟨_, ⟨_, x_err3 _, Fm_set (by omega) Fm_0⟩, fun ρ => ⟨_, m_err3 _⟩⟩
theorem bd_eta (o : Res) : bd o (fun r s => some (r, s)) = o := by
  cases o <;> rfl
theorem p1_of {F F' G G' : Mem → Res} (h : p1 F' G') (hF : F σ0 = F' σ0) (hG : ∀ ρ, G (mkm ρ) = G' (mkm ρ)) : p1 F G := by
  obtain ⟨r, ⟨σ1, a, b⟩, c⟩ := h
  exact ⟨r, ⟨σ1, hF.trans a, b⟩, fun ρ => by rw [hG ρ]; exact c ρ⟩
theorem one_ne : ¬ (1 : Int32) = 0 := by decide
theorem cut_of {a M : Int32} {n : Nat} (hM : M.toInt = n) (h : 0 ≤ a ∧ a ≤ M) : ∃ j : Nat, j ≤ n ∧ a = nI j := nI_of2 hM (Int32.not_lt.mpr h.1) h.2
theorem x_held (a lo hi : Int32) (h : lo ≤ hi) (σ : Mem) : f_X3_held a lo hi σ = some (if lo ≤ a then (if a ≤ hi then a else hi) else lo, σ) := by
  rw [f_X3_held, nm_mk, nm_mk]
  congr 2
  by_cases h1 : lo ≤ a
  · rw [if_pos h1]
    by_cases h2 : a ≤ hi
    · rw [if_pos h2]
      by_cases h3 : a < hi
      · rw [if_pos h3]
        by_cases h4 : lo < a
        · rw [if_pos h4]
        · rw [if_neg h4]; exact Int32.le_antisymm h1 (Int32.not_lt.mp h4)
      · rw [if_neg h3]
        have e : hi = a := Int32.le_antisymm (Int32.not_lt.mp h3) h2
        subst e
        by_cases h4 : lo < hi
        · rw [if_pos h4]
        · rw [if_neg h4]; exact Int32.le_antisymm h1 (Int32.not_lt.mp h4)
    · rw [if_neg h2, if_neg (fun q => h2 (Int32.le_of_lt q))]
      by_cases h4 : lo < hi
      · rw [if_pos h4]
      · rw [if_neg h4]; exact Int32.le_antisymm h (Int32.not_lt.mp h4)
  · rw [if_neg h1]
    have h5 : a < lo := Int32.not_le.mp h1
    rw [if_pos (Int32.lt_of_lt_of_le h5 h), if_neg (fun q => h1 (Int32.le_of_lt q))]
theorem m_held (a lo hi : Int32) (σ : Mem) : f_X8_held a lo hi σ = some (if lo ≤ a then (if a ≤ hi then a else hi) else lo, σ) := by
  rw [f_X8_held]
  by_cases h1 : lo ≤ a
  · rw [if_pos h1, if_pos h1]
    by_cases h2 : a ≤ hi
    · rw [if_pos h2, if_pos h2]
    · rw [if_neg h2, if_neg h2]
  · rw [if_neg h1, if_neg h1]
theorem copy_loop (n : Nat) : ∀ (i : Nat) (σ : Mem), i ≤ 386 → 386 - i < n → ∃ σ1, f_X8_copyAll_54_55_L2 n (nI i) σ = some (0, σ1) ∧ ∀ k, ¬ k = 55 → σ1 k = σ k := by
  induction n with
  | zero => intro i σ h1 h2; omega
  | succ n ih =>
    intro i σ h1 h2
    show ∃ σ1, fb_X8_copyAll_54_55_L2 (f_X8_copyAll_54_55_L2 n) (nI i) σ = some (0, σ1) ∧ _
    rw [fb_X8_copyAll_54_55_L2]
    by_cases h : i = 386
    · subst h
      exact ⟨σ, rfl, fun _ _ => rfl⟩
    · rw [if_neg (show ¬ (386 : Int32) ≤ nI i from fun q => absurd ((nI_leI (a := 386) (b := i) (by omega) (by omega)).mp q) (by omega)), gi_of (vp_in_nI (by omega) (by omega)), nm_mk, gi_of (vp_in_nI (by omega) (by omega)), nm_mk, nm_mk, nI_1]
      obtain ⟨σ1, a, b⟩ := ih (i + 1) (mset σ 55 (nI i).toNatClampNeg (σ 54 (nI i).toNatClampNeg)) (by omega) (by omega)
      exact ⟨σ1, a, fun k hk => by rw [b k hk, mset_ne hk]⟩
theorem p1_pitchIs (a0 a1 : Int32) : p1 (f_X7_pitchIs_0 a0 a1) (f_X8_pitchIs_53 a0 a1) := p1_of p1_err1 (by rw [f_X7_pitchIs_0, xP0, bd_mk, if_pos rfl, bd_eta]) (fun ρ => by rw [f_X8_pitchIs_53, mP0, bd_mk, if_pos rfl, bd_eta])
theorem p1_become (a0 a1 : Int32) : p1 (f_X7_become_0 a0 a1) (f_X8_become_53 a0 a1) := p1_of p1_err1 (by rw [f_X7_become_0, xP0, bd_mk, if_pos rfl, bd_eta]) (fun ρ => by rw [f_X8_become_53, mP0, bd_mk, if_pos rfl, bd_eta])
theorem p1_as (a0 a1 : Int32) : p1 (f_X7_as_0 a0 a1) (f_X8_as_53 a0 a1) := p1_of p1_err1 (by rw [f_X7_as_0, xP0, bd_mk, if_pos rfl, bd_eta]) (fun ρ => by rw [f_X8_as_53, mP0, bd_mk, if_pos rfl, bd_eta])
theorem p1_weighs (a0 a1 : Int32) : p1 (f_X7_weighs_0 a0 a1) (f_X8_weighs_53 a0 a1) := p1_of p1_err1 (by rw [f_X7_weighs_0, xP0, bd_mk, if_pos rfl, bd_eta]) (fun ρ => by rw [f_X8_weighs_53, mP0, bd_mk, if_pos rfl, bd_eta])
theorem p1_voice (a0 a1 a2 : Int32) : p1 (f_X7_voice_0 a0 a1 a2) (f_X8_voice_53 a0 a1 a2) := p1_of p1_err1 (by rw [f_X7_voice_0, xP0, bd_mk, if_pos rfl, bd_eta]) (fun ρ => by rw [f_X8_voice_53, mP0, bd_mk, if_pos rfl, bd_eta])
theorem p1_runnerIs (a0 a1 : Int32) : p1 (f_X7_runnerIs_0 a0 a1) (f_X8_runnerIs_53 a0 a1) := p1_of p1_err1 (by rw [f_X7_runnerIs_0, xR0, bd_mk, if_pos rfl, bd_eta]) (fun ρ => by rw [f_X8_runnerIs_53, mR0, bd_mk, if_pos rfl, bd_eta])
theorem p1_leads (a0 a1 : Int32) : p1 (f_X7_leads_0 a0 a1) (f_X8_leads_53 a0 a1) := p1_of p1_err1 (by rw [f_X7_leads_0, xR0, bd_mk, if_pos rfl, bd_eta]) (fun ρ => by rw [f_X8_leads_53, mR0, bd_mk, if_pos rfl, bd_eta])
theorem p1_steal (a0 a1 : Int32) : p1 (f_X7_steal_0 a0 a1) (f_X8_steal_53 a0 a1) := p1_of p1_err1 (by rw [f_X7_steal_0, xR0, bd_mk, if_pos rfl, bd_eta]) (fun ρ => by rw [f_X8_steal_53, mR0, bd_mk, if_pos rfl, bd_eta])
theorem p1_over (a0 : Int32) : p1 (f_X7_over_0 a0) (f_X8_over_53 a0) := p1_of p1_err1 (by rw [f_X7_over_0, xR0, bd_mk, if_pos rfl, bd_eta]) (fun ρ => by rw [f_X8_over_53, mR0, bd_mk, if_pos rfl, bd_eta])
theorem p1_margin (a0 a1 a2 : Int32) : p1 (f_X7_margin_0 a0 a1 a2) (f_X8_margin_53 a0 a1 a2) := p1_of p1_err1 (by rw [f_X7_margin_0, xR0, bd_mk, if_pos rfl, bd_eta]) (fun ρ => by rw [f_X8_margin_53, mR0, bd_mk, if_pos rfl, bd_eta])
theorem p1_leadFor (a0 a1 : Int32) : p1 (f_X7_leadFor_0 a0 a1) (f_X8_leadFor_53 a0 a1) := p1_of p1_err1 (by rw [f_X7_leadFor_0, xR0, bd_mk, if_pos rfl, bd_eta]) (fun ρ => by rw [f_X8_leadFor_53, mR0, bd_mk, if_pos rfl, bd_eta])
theorem p1_bestLead (a0 a1 : Int32) : p1 (f_X7_bestLead_0 a0 a1) (f_X8_bestLead_53 a0 a1) := p1_of p1_err1 (by rw [f_X7_bestLead_0, xR0, bd_mk, if_pos rfl, bd_eta]) (fun ρ => by rw [f_X8_bestLead_53, mR0, bd_mk, if_pos rfl, bd_eta])
theorem p1_odds (a0 a1 : Int32) : p1 (f_X7_odds_0 a0 a1) (f_X8_odds_53 a0 a1) := p1_of p1_err1 (by rw [f_X7_odds_0, xR0, bd_mk, if_pos rfl, bd_eta]) (fun ρ => by rw [f_X8_odds_53, mR0, bd_mk, if_pos rfl, bd_eta])
theorem p1_go (a0 a1 : Int32) : p1 (f_X7_go_0 a0 a1) (f_X8_go_53 a0 a1) := p1_of p1_err1 (by rw [f_X7_go_0, xR0, bd_mk, if_pos rfl, bd_eta]) (fun ρ => by rw [f_X8_go_53, mR0, bd_mk, if_pos rfl, bd_eta])
theorem p1_duel (a0 a1 a2 a3 : Int32) : p1 (f_X7_duel_0 a0 a1 a2 a3) (f_X8_duel_53 a0 a1 a2 a3) := p1_of p1_err1 (by rw [f_X7_duel_0, xR0, bd_mk, if_pos rfl, bd_eta]) (fun ρ => by rw [f_X8_duel_53, mR0, bd_mk, if_pos rfl, bd_eta])
theorem p1_surely (a0 a1 : Int32) : p1 (f_X7_surely_0 a0 a1) (f_X8_surely_53 a0 a1) := p1_of p1_err1 (by rw [f_X7_surely_0, xR0, bd_mk, if_pos rfl, bd_eta]) (fun ρ => by rw [f_X8_surely_53, mR0, bd_mk, if_pos rfl, bd_eta])
set_option maxHeartbeats 300000 in
set_option maxRecDepth 100000 in
theorem p1_fits (a0 a1 a2 : Int32) : p1 (f_X7_fits_0 a0 a1 a2) (f_X8_fits_53 a0 a1 a2) := by
  by_cases h : 0 ≤ a0 ∧ a0 ≤ 3
  · exact p1_of p1_err1 (by rw [f_X7_fits_0, x_isSheet, bd_mk, ifz, if_pos h, xR0, bd_mk, if_pos rfl, bd_eta]) (fun ρ => by rw [f_X8_fits_53, m_isSheet, bd_mk, ifz, if_pos h, mR0, bd_mk, if_pos rfl, bd_eta])
  · exact p1_of p1_err1 (by rw [f_X7_fits_0, x_isSheet, bd_mk, ifz, if_neg h, bd_eta]) (fun ρ => by rw [f_X8_fits_53, m_isSheet, bd_mk, ifz, if_neg h, bd_eta])
set_option maxHeartbeats 300000 in
set_option maxRecDepth 100000 in
theorem p1_pitch (a0 a1 : Int32) : p1 (f_X7_pitch_0 a0 a1) (f_X8_pitch_53 a0 a1) := by
  by_cases h : 0 ≤ a0 ∧ a0 ≤ 69
  · by_cases h2 : 0 ≤ a1 ∧ a1 ≤ 9
    · refine ⟨0, ?_, fun ρ => ?_⟩
      · rw [f_X7_pitch_0, x_isKindAndM, bd_mk, ifz, if_pos h, x_isDigit, bd_mk, ifz, if_pos h2]
        exact ⟨_, rfl, ⟨rfl, rfl, rfl, rfl⟩⟩
      · rw [f_X8_pitch_53, m_isKm, bd_mk, ifz, if_pos h, in_eq, bd_mk, ifz, if_pos h2]
        exact ⟨_, rfl⟩
    · exact p1_of p1_err1 (by rw [f_X7_pitch_0, x_isKindAndM, bd_mk, ifz, if_pos h, x_isDigit, bd_mk, ifz, if_neg h2, bd_eta]) (fun ρ => by rw [f_X8_pitch_53, m_isKm, bd_mk, ifz, if_pos h, in_eq, bd_mk, ifz, if_neg h2, bd_eta])
  · exact p1_of p1_err1 (by rw [f_X7_pitch_0, x_isKindAndM, bd_mk, ifz, if_neg h, bd_eta]) (fun ρ => by rw [f_X8_pitch_53, m_isKm, bd_mk, ifz, if_neg h, bd_eta])
set_option maxHeartbeats 300000 in
set_option maxRecDepth 100000 in
theorem p1_runner (a0 a1 : Int32) : p1 (f_X7_runner_0 a0 a1) (f_X8_runner_53 a0 a1) := by
  by_cases h : 0 ≤ a0 ∧ a0 ≤ 99
  · by_cases h2 : 1 ≤ a1 ∧ a1 ≤ 60
    · refine ⟨0, ?_, fun ρ => ?_⟩
      · rw [f_X7_runner_0, within_eq, bd_mk, ifz, if_pos h, within_eq, bd_mk, ifz, if_pos h2]
        exact ⟨_, rfl, ⟨rfl, rfl, rfl, rfl⟩⟩
      · rw [f_X8_runner_53, in_eq, bd_mk, ifz, if_pos h, in_eq, bd_mk, ifz, if_pos h2]
        exact ⟨_, rfl⟩
    · exact p1_of p1_err1 (by rw [f_X7_runner_0, within_eq, bd_mk, ifz, if_pos h, within_eq, bd_mk, ifz, if_neg h2, bd_eta]) (fun ρ => by rw [f_X8_runner_53, in_eq, bd_mk, ifz, if_pos h, in_eq, bd_mk, ifz, if_neg h2, bd_eta])
  · exact p1_of p1_err1 (by rw [f_X7_runner_0, within_eq, bd_mk, ifz, if_neg h, bd_eta]) (fun ρ => by rw [f_X8_runner_53, in_eq, bd_mk, ifz, if_neg h, bd_eta])
set_option maxHeartbeats 300000 in
set_option maxRecDepth 100000 in
theorem p1_set (a0 a1 : Int32) : p1 (f_X7_set_0 a0 a1) (f_X8_set_53 a0 a1) := by
  by_cases h : 0 ≤ a0 ∧ a0 ≤ 3
  · obtain ⟨j, hj, rfl⟩ := cut_of (n := 3) (by decide) h
    match j, hj with
    | 0, _ =>
      by_cases h2 : 0 ≤ a1 ∧ a1 ≤ 200
      · refine ⟨100, ?_, fun ρ => ?_⟩
        · rw [f_X7_set_0, within_eq, bd_mk, ifz, if_pos (by decide), show f_X7_mostOfSetting (nI 0) σ0 = some (200, σ0) from rfl, bd_mk, within_eq, bd_mk, ifz, if_pos h2]
          exact ⟨_, rfl, ⟨rfl, rfl, rfl, rfl⟩⟩
        · rw [f_X8_set_53, in_eq, bd_mk, ifz, if_pos (by decide), if_neg (by decide), in_eq, bd_mk, ifz, if_pos h2]
          exact ⟨_, rfl⟩
      · exact p1_of p1_err1 (by rw [f_X7_set_0, within_eq, bd_mk, ifz, if_pos (by decide), show f_X7_mostOfSetting (nI 0) σ0 = some (200, σ0) from rfl, bd_mk, within_eq, bd_mk, ifz, if_neg h2, bd_eta]) (fun ρ => by rw [f_X8_set_53, in_eq, bd_mk, ifz, if_pos (by decide), if_neg (by decide), in_eq, bd_mk, ifz, if_neg h2, f_X8_set_53_L43, if_pos rfl, bd_eta])
    | 1, _ =>
      by_cases h2 : 0 ≤ a1 ∧ a1 ≤ 200
      · refine ⟨130, ?_, fun ρ => ?_⟩
        · rw [f_X7_set_0, within_eq, bd_mk, ifz, if_pos (by decide), show f_X7_mostOfSetting (nI 1) σ0 = some (200, σ0) from rfl, bd_mk, within_eq, bd_mk, ifz, if_pos h2]
          exact ⟨_, rfl, ⟨rfl, rfl, rfl, rfl⟩⟩
        · rw [f_X8_set_53, in_eq, bd_mk, ifz, if_pos (by decide), if_neg (by decide), in_eq, bd_mk, ifz, if_pos h2]
          exact ⟨_, rfl⟩
      · exact p1_of p1_err1 (by rw [f_X7_set_0, within_eq, bd_mk, ifz, if_pos (by decide), show f_X7_mostOfSetting (nI 1) σ0 = some (200, σ0) from rfl, bd_mk, within_eq, bd_mk, ifz, if_neg h2, bd_eta]) (fun ρ => by rw [f_X8_set_53, in_eq, bd_mk, ifz, if_pos (by decide), if_neg (by decide), in_eq, bd_mk, ifz, if_neg h2, f_X8_set_53_L43, if_pos rfl, bd_eta])
    | 2, _ =>
      by_cases h2 : 0 ≤ a1 ∧ a1 ≤ 9
      · refine ⟨0, ?_, fun ρ => ?_⟩
        · rw [f_X7_set_0, within_eq, bd_mk, ifz, if_pos (by decide), show f_X7_mostOfSetting (nI 2) σ0 = some (9, σ0) from rfl, bd_mk, within_eq, bd_mk, ifz, if_pos h2]
          exact ⟨_, rfl, ⟨rfl, rfl, rfl, rfl⟩⟩
        · rw [f_X8_set_53, in_eq, bd_mk, ifz, if_pos (by decide), if_pos (by decide), if_pos (by decide), in_eq, bd_mk, ifz, if_pos h2]
          exact ⟨_, rfl⟩
      · exact p1_of p1_err1 (by rw [f_X7_set_0, within_eq, bd_mk, ifz, if_pos (by decide), show f_X7_mostOfSetting (nI 2) σ0 = some (9, σ0) from rfl, bd_mk, within_eq, bd_mk, ifz, if_neg h2, bd_eta]) (fun ρ => by rw [f_X8_set_53, in_eq, bd_mk, ifz, if_pos (by decide), if_pos (by decide), if_pos (by decide), in_eq, bd_mk, ifz, if_neg h2, f_X8_set_53_L43, if_pos rfl, bd_eta])
    | 3, _ =>
      by_cases h2 : 0 ≤ a1 ∧ a1 ≤ 2
      · refine ⟨0, ?_, fun ρ => ?_⟩
        · rw [f_X7_set_0, within_eq, bd_mk, ifz, if_pos (by decide), show f_X7_mostOfSetting (nI 3) σ0 = some (2, σ0) from rfl, bd_mk, within_eq, bd_mk, ifz, if_pos h2]
          exact ⟨_, rfl, ⟨rfl, rfl, rfl, rfl⟩⟩
        · rw [f_X8_set_53, in_eq, bd_mk, ifz, if_pos (by decide), if_pos (by decide), if_neg (by decide), in_eq, bd_mk, ifz, if_pos h2]
          exact ⟨_, rfl⟩
      · exact p1_of p1_err1 (by rw [f_X7_set_0, within_eq, bd_mk, ifz, if_pos (by decide), show f_X7_mostOfSetting (nI 3) σ0 = some (2, σ0) from rfl, bd_mk, within_eq, bd_mk, ifz, if_neg h2, bd_eta]) (fun ρ => by rw [f_X8_set_53, in_eq, bd_mk, ifz, if_pos (by decide), if_pos (by decide), if_neg (by decide), in_eq, bd_mk, ifz, if_neg h2, f_X8_set_53_L43, if_pos rfl, bd_eta])
  · exact p1_of p1_err1 (by rw [f_X7_set_0, within_eq, bd_mk, ifz, if_neg h, bd_eta]) (fun ρ => by rw [f_X8_set_53, in_eq, bd_mk, ifz, if_neg h, f_X8_set_53_L43, if_pos rfl, bd_eta])
theorem i60 (i : Nat) : (60 : Int32) + nI i = nI (60 + i) := nI_add 60 i
theorem xfeed (w : Int64) (n : Nat) (hn : n ≤ 8) (f : Nat) : ∀ (i : Nat) (σ : Mem), i ≤ n → n - i < f → σ 1 5 = 0 → Fm σ → ∃ σ1, f_X7_feed_0_L39 f w (nI n) (nI i) σ = some (nI n, σ1) ∧ Fm σ1 := by
  induction f with
  | zero => intro i σ h1 h2; omega
  | succ f ih =>
    intro i σ h1 h2 h3 h4
    show ∃ σ1, fb_X7_feed_0_L39 (f_X7_feed_0_L39 f) w (nI n) (nI i) σ = some (nI n, σ1) ∧ _
    rw [fb_X7_feed_0_L39]
    by_cases h : i = n
    · subst h
      rw [if_pos (Int32.le_refl _), nm_mk, nm_mk, nm_mk, nm_mk, h3, Int32.zero_add]
      exact ⟨mset σ 1 5 (nI i), rfl, Fm_set (by omega) h4⟩
    · rw [if_neg (fun q => absurd ((nI_leI (by omega) (by omega)).mp q) (by omega)), nm_mk, nm_mk, nm_mk, nm_mk, nm_mk, nm_mk, h3, Int32.zero_add, gi_of (vp_in_nI (by omega) (by omega)), nm_mk, nm_mk, nI_1]
      exact ih (i + 1) _ (by omega) (by omega) (by rw [mset_ne (by decide)]; exact h3) (Fm_set (by omega) h4)
theorem mfeed (w : Int64) (n : Nat) (hn : n ≤ 8) (f : Nat) : ∀ (i : Nat) (σ : Mem), i ≤ n → n - i < f → σ 54 9 = nI i → ∃ σ1, f_X8_feed_53_L41 f w (nI n) (nI i) σ = some (nI n, σ1) := by
  induction f with
  | zero => intro i σ h1 h2; omega
  | succ f ih =>
    intro i σ h1 h2 h3
    show ∃ σ1, fb_X8_feed_53_L41 (f_X8_feed_53_L41 f) w (nI n) (nI i) σ = some (nI n, σ1)
    have e9 : (9 : Int32).toNatClampNeg = 9 := rfl
    rw [fb_X8_feed_53_L41]
    by_cases h : i = n
    · subst h
      rw [if_pos (Int32.le_refl _), gi_of (vp_in_iff.mpr ⟨by decide, by decide⟩), nm_mk, e9, h3]
      exact ⟨_, rfl⟩
    · rw [if_neg (fun q => absurd ((nI_leI (by omega) (by omega)).mp q) (by omega)), gi_of (vp_in_iff.mpr ⟨by decide, by decide⟩), nm_mk, nm_mk, nm_mk, nm_mk, nm_mk, nm_mk, e9, h3, i60, gi_of (vp_in_nI (by omega) (by omega)), nm_mk, gi_of (vp_in_iff.mpr ⟨by decide, by decide⟩), nm_mk, nm_mk, gi_of (vp_in_iff.mpr ⟨by decide, by decide⟩), nm_mk, nm_mk, nI_1]
      refine ih (i + 1) _ (by omega) (by omega) ?_
      rw [mset_eq]
      show (upd _ 9 _) 9 = _
      rw [pk_us, mset_eq, nI_clamp (by omega), pk_un (by omega), h3, nI_1]
set_option maxHeartbeats 300000 in
set_option maxRecDepth 100000 in
theorem p1_feed (a0 : Int64) (a1 : Int32) : p1 (f_X7_feed_0 a0 a1) (f_X8_feed_53 a0 a1) := by
  by_cases h : 1 ≤ a1 ∧ a1 ≤ 8
  · obtain ⟨n, hn, rfl⟩ := cut_of (n := 8) (by decide) ⟨Int32.le_trans (by decide) h.1, h.2⟩
    refine ⟨nI n, ?_, fun ρ => ?_⟩
    · rw [f_X7_feed_0, within_eq, bd_mk, ifz, if_pos h, nm_mk, nm_mk, show σ0 1 5 + nI n = nI n from Int32.zero_add _, if_pos (show nI n ≤ 60 from nI_le (a := n) (b := 60) (by omega) (by omega))]
      exact xfeed a0 n hn 1000 0 σ0 (by omega) (by omega) rfl Fm_0
    · rw [f_X8_feed_53, in_eq, bd_mk, ifz, if_pos h, gi_of (vp_in_iff.mpr ⟨by decide, by decide⟩), nm_mk, nm_mk, show mkm ρ 54 (Int32.toNatClampNeg 9) + nI n = nI n from Int32.zero_add _, if_pos (show nI n ≤ 60 from nI_le (a := n) (b := 60) (by omega) (by omega))]
      exact mfeed a0 n hn 1000 0 (mkm ρ) (by omega) (by omega) rfl
  · exact p1_of p1_err1 (by rw [f_X7_feed_0, within_eq, bd_mk, ifz, if_neg h, bd_eta]) (fun ρ => by rw [f_X8_feed_53, in_eq, bd_mk, ifz, if_neg h, bd_eta])
set_option maxHeartbeats 300000 in
set_option maxRecDepth 100000 in
theorem p1_text (a0 : Int32) : p1 (f_X7_text_0 a0) (f_X8_text_53 a0) := by
  by_cases h : 0 ≤ a0 ∧ a0 ≤ 1
  · obtain ⟨j, hj, rfl⟩ := cut_of (n := 1) (by decide) ⟨Int32.le_trans (by decide) h.1, h.2⟩
    match j, hj with
    | 0, _ => exact ⟨_, ⟨_, rfl, ⟨rfl, rfl, rfl, rfl⟩⟩, fun ρ => ⟨_, rfl⟩⟩
    | 1, _ => exact ⟨_, ⟨_, rfl, ⟨rfl, rfl, rfl, rfl⟩⟩, fun ρ => ⟨_, rfl⟩⟩
  · exact p1_of p1_err1 (by rw [f_X7_text_0, x_isUse, bd_mk, ifz, if_neg h, bd_eta]) (fun ρ => by rw [f_X8_text_53, in_eq, bd_mk, ifz, if_neg h, bd_eta])
set_option maxHeartbeats 300000 in
set_option maxRecDepth 100000 in
theorem p1_untell (a0 : Int32) : p1 (f_X7_untell_0 a0) (f_X8_untell_53 a0) := by
  by_cases h : 0 ≤ a0 ∧ a0 ≤ 1
  · obtain ⟨j, hj, rfl⟩ := cut_of (n := 1) (by decide) ⟨Int32.le_trans (by decide) h.1, h.2⟩
    match j, hj with
    | 0, _ => exact ⟨_, ⟨_, rfl, ⟨rfl, rfl, rfl, rfl⟩⟩, fun ρ => ⟨_, rfl⟩⟩
    | 1, _ => exact ⟨_, ⟨_, rfl, ⟨rfl, rfl, rfl, rfl⟩⟩, fun ρ => ⟨_, rfl⟩⟩
  · exact p1_of p1_err1 (by rw [f_X7_untell_0, x_isUse, bd_mk, ifz, if_neg h, bd_eta]) (fun ρ => by rw [f_X8_untell_53, in_eq, bd_mk, ifz, if_neg h, bd_eta])
theorem xdraw0 : f_X3_isSafeByDraws_1 σ0 = some (0, σ0) := rfl
theorem mdraw0 (ρ : Mem) : f_X8_drawn_53 (mkm ρ) = some (0, mkm ρ) := rfl
theorem xloose (n : Nat) (hn : n ≤ 30) (f : Nat) : ∀ i : Nat, i ≤ n → n - i < f → f_X7_loose_0_L20 f (nI n) 0 (nI i) σ0 = some (0, σ0) := by
  induction f with
  | zero => intro i h1 h2; omega
  | succ f ih =>
    intro i h1 h2
    show fb_X7_loose_0_L20 (f_X7_loose_0_L20 f) (nI n) 0 (nI i) σ0 = some (0, σ0)
    rw [fb_X7_loose_0_L20]
    by_cases h : i = n
    · subst h
      rw [if_pos (Int32.le_refl _)]
    · rw [if_neg (fun q => absurd ((nI_leI (by omega) (by omega)).mp q) (by omega)), xdraw0, bd_mk, if_pos rfl, nm_mk, nI_1]
      exact ih (i + 1) (by omega) (by omega)
theorem mloose (ρ : Mem) (n : Nat) (hn : n ≤ 30) (f : Nat) : ∀ i : Nat, i ≤ n → n - i < f → f_X8_loose_53_L21 f (nI n) 0 (nI i) (mkm ρ) = some (0, mkm ρ) := by
  induction f with
  | zero => intro i h1 h2; omega
  | succ f ih =>
    intro i h1 h2
    show fb_X8_loose_53_L21 (f_X8_loose_53_L21 f) (nI n) 0 (nI i) (mkm ρ) = some (0, mkm ρ)
    rw [fb_X8_loose_53_L21]
    by_cases h : i = n
    · subst h
      rw [if_pos (Int32.le_refl _)]
    · rw [if_neg (fun q => absurd ((nI_leI (by omega) (by omega)).mp q) (by omega)), mdraw0, bd_mk, if_pos rfl, nm_mk, nm_mk, nI_1, Int32.zero_add]
      exact ih (i + 1) (by omega) (by omega)
set_option maxHeartbeats 300000 in
set_option maxRecDepth 100000 in
theorem p1_loose (a0 : Int32) : p1 (f_X7_loose_0 a0) (f_X8_loose_53 a0) := by
  by_cases h : 1 ≤ a0 ∧ a0 ≤ 30
  · obtain ⟨n, hn, rfl⟩ := cut_of (n := 30) (by decide) ⟨Int32.le_trans (by decide) h.1, h.2⟩
    refine ⟨0, ⟨σ0, ?_, Fm_0⟩, fun ρ => ⟨mkm ρ, ?_⟩⟩
    · rw [f_X7_loose_0, within_eq, bd_mk, ifz, if_pos h]
      exact xloose n hn 1000 0 (by omega) (by omega)
    · rw [f_X8_loose_53, in_eq, bd_mk, ifz, if_pos h]
      exact mloose ρ n hn 1000 0 (by omega) (by omega)
  · exact p1_of p1_err1 (by rw [f_X7_loose_0, within_eq, bd_mk, ifz, if_neg h, bd_eta]) (fun ρ => by rw [f_X8_loose_53, in_eq, bd_mk, ifz, if_neg h, bd_eta])
set_option maxHeartbeats 300000 in
set_option maxRecDepth 100000 in
theorem p1_told (a0 : Int32) : p1 (f_X7_told_0 a0) (f_X8_told_53 a0) := by
  by_cases h : 1 ≤ a0 ∧ a0 ≤ 6
  · obtain ⟨j, hj, rfl⟩ := cut_of (n := 6) (by decide) ⟨Int32.le_trans (by decide) h.1, h.2⟩
    match j, hj with
    | 0, _ => exact absurd h.1 (by decide)
    | 1, _ => exact ⟨_, ⟨_, rfl, ⟨rfl, rfl, rfl, rfl⟩⟩, fun ρ => ⟨_, rfl⟩⟩
    | 2, _ => exact ⟨_, ⟨_, rfl, ⟨rfl, rfl, rfl, rfl⟩⟩, fun ρ => ⟨_, rfl⟩⟩
    | 3, _ => exact ⟨_, ⟨_, rfl, ⟨rfl, rfl, rfl, rfl⟩⟩, fun ρ => ⟨_, rfl⟩⟩
    | 4, _ => exact ⟨_, ⟨_, rfl, ⟨rfl, rfl, rfl, rfl⟩⟩, fun ρ => ⟨_, rfl⟩⟩
    | 5, _ => exact ⟨_, ⟨_, rfl, ⟨rfl, rfl, rfl, rfl⟩⟩, fun ρ => ⟨_, rfl⟩⟩
    | 6, _ => exact ⟨_, ⟨_, rfl, ⟨rfl, rfl, rfl, rfl⟩⟩, fun ρ => ⟨_, rfl⟩⟩
  · exact p1_of p1_err1 (by rw [f_X7_told_0, within_eq, bd_mk, ifz, if_neg h, bd_eta]) (fun ρ => by rw [f_X8_told_53, in_eq, bd_mk, ifz, if_neg h, bd_eta])
set_option maxHeartbeats 300000 in
set_option maxRecDepth 100000 in
theorem p1_law (a0 a1 a2 a3 : Int32) : p1 (f_X7_law_0 a0 a1 a2 a3) (f_X8_law_53 a0 a1 a2 a3) := by
  by_cases h : 0 ≤ a0 ∧ a0 ≤ 1
  · obtain ⟨j, hj, rfl⟩ := cut_of (n := 1) (by decide) h
    match j, hj with
    | 0, _ =>
      refine ⟨if 0 ≤ a1 then (if a1 ≤ 199 then a1 else 199) else 0, ?_, fun ρ => ?_⟩
      · refine ⟨σ0, ?_, Fm_0⟩
        rw [f_X7_law_0, x_isUse, bd_mk, ifz, if_pos (by decide), bd_eta]
        show bd (f_X3_held a1 0 199 σ0) (fun r s => some (r, s)) = _
        rw [bd_eta, x_held _ _ _ (by decide)]
      · rw [f_X8_law_53, in_eq, bd_mk, ifz, if_pos (by decide), bd_eta]
        show ∃ σ1, bd (f_X8_held a1 0 199 (mset (mset (mset (mkm ρ) 62 0 a1) 62 1 a2) 62 2 a3)) (fun r s => some (r, s)) = _
        rw [bd_eta, m_held]
        exact ⟨_, rfl⟩
    | 1, _ =>
      by_cases h2 : a1 = 1
      · subst h2
        exact ⟨_, ⟨_, rfl, ⟨rfl, rfl, rfl, rfl⟩⟩, fun ρ => ⟨_, rfl⟩⟩
      · refine ⟨-50, ?_, fun ρ => ?_⟩
        · rw [f_X7_law_0, x_isUse, bd_mk, ifz, if_pos (by decide), bd_eta, f_X3_gives_1, if_neg (by decide), if_neg h2]
          exact ⟨_, rfl, ⟨rfl, rfl, rfl, rfl⟩⟩
        · rw [f_X8_law_53, in_eq, bd_mk, ifz, if_pos (by decide), bd_eta, f_X8_gives_53, nm_mk, nm_mk, gi_of (by exact (show vp_in 0 3 from vp_in_iff.mpr ⟨by decide, by decide⟩)), nm_mk, gi_of (by exact (show vp_in 1 3 from vp_in_iff.mpr ⟨by decide, by decide⟩)), nm_mk, gi_of (by exact (show vp_in 2 3 from vp_in_iff.mpr ⟨by decide, by decide⟩)), nm_mk, gi_of (by exact vp_in_iff.mpr ⟨by decide, by decide⟩), nm_mk, if_pos (by exact (show (0 : Int32) ≤ 0 by decide)), if_neg (by decide), if_neg h2]
          exact ⟨_, rfl⟩
  · exact p1_of p1_err1 (by rw [f_X7_law_0, x_isUse, bd_mk, ifz, if_neg h, bd_eta]) (fun ρ => by rw [f_X8_law_53, in_eq, bd_mk, ifz, if_neg h, bd_eta])
set_option maxHeartbeats 300000 in
set_option maxRecDepth 100000 in
theorem p1_seed (a0 : Int32) : p1 (f_X7_seed_0 a0) (f_X8_seed_53 a0) := ⟨_, ⟨_, rfl, ⟨rfl, rfl, rfl, rfl⟩⟩, fun ρ => ⟨_, rfl⟩⟩
set_option maxHeartbeats 300000 in
set_option maxRecDepth 100000 in
theorem p1_restore : p1 f_X7_restore_0 f_X8_restore_53 := ⟨_, ⟨_, rfl, ⟨rfl, rfl, rfl, rfl⟩⟩, fun ρ => ⟨_, rfl⟩⟩
set_option maxHeartbeats 300000 in
set_option maxRecDepth 100000 in
theorem p1_tell (a0 : Int32) : p1 (f_X7_tell_0 a0) (f_X8_tell_53 a0) := ⟨_, ⟨_, rfl, ⟨rfl, rfl, rfl, rfl⟩⟩, fun ρ => ⟨_, rfl⟩⟩
set_option maxHeartbeats 300000 in
set_option maxRecDepth 100000 in
theorem p1_check : p1 f_X7_check_0 f_X8_check_53 := ⟨_, ⟨_, rfl, ⟨rfl, rfl, rfl, rfl⟩⟩, fun ρ => ⟨_, rfl⟩⟩
set_option maxHeartbeats 300000 in
set_option maxRecDepth 100000 in
theorem p1_image : p1 f_X7_image_0 f_X8_image_53 := by
  refine ⟨1, ⟨_, rfl, ⟨rfl, rfl, rfl, rfl⟩⟩, fun ρ => ?_⟩
  obtain ⟨σ1, h1, h2⟩ := copy_loop 1000 0 (mkm ρ) (by omega) (by omega)
  rw [f_X8_image_53, show f_X8_copyAll_54_55 (mkm ρ) = some (0, σ1) from h1, bd_mk, nm_mk, h2 53 (by decide)]
  exact ⟨_, rfl⟩
set_option maxHeartbeats 300000 in
set_option maxRecDepth 100000 in
theorem p1_body (a0 : Int32) : p1 (f_X7_body_0 a0) (f_X8_body_53 a0) := by
  by_cases h : a0 < 0
  · exact p1_of p1_err2 (by rw [f_X7_body_0, if_pos h, bd_eta]) (fun ρ => by rw [f_X8_body_53, nm_mk, nm_mk, in_eq, bd_mk, ifz, if_neg (fun q => absurd q.1 (Int32.not_le.mpr h)), bd_eta])
  · exact p1_of p1_err2 (by rw [f_X7_body_0, if_neg h, nm_mk, if_neg (by exact h), bd_eta]) (fun ρ => by rw [f_X8_body_53, nm_mk, nm_mk, in_eq, bd_mk, ifz, if_neg (by exact no_le0 a0), bd_eta])
theorem v4 {a : Int32} (h : 0 ≤ a ∧ a ≤ 3) : vp_in a 4 := by
  obtain ⟨j, hj, rfl⟩ := cut_of (n := 3) (by decide) h
  exact vp_in_nI (by omega) (by omega)
theorem xmiss {a : Int32} (h : 0 ≤ a ∧ a ≤ 3) : f_X4_isMissing_46 a σ0 = some (1, σ0) := by
  rw [f_X4_isMissing_46, gi_of (v4 h), nm_mk]
  exact (if_pos rfl).trans (gb_1 _)
theorem mthere {a : Int32} (ρ : Mem) (h : 0 ≤ a ∧ a ≤ 3) : f_X8_notThere_53 a (mkm ρ) = some (-1000000002, mkm ρ) := by
  rw [f_X8_notThere_53, m_isSheet, bd_mk, ifz, if_pos h, gi_of (v4 h), nm_mk]
  exact if_pos rfl
theorem mthere0 {a : Int32} (ρ : Mem) (h : ¬ (0 ≤ a ∧ a ≤ 3)) : f_X8_notThere_53 a (mkm ρ) = some (-1000000001, mkm ρ) := by
  rw [f_X8_notThere_53, m_isSheet, bd_mk, ifz, if_neg h]
theorem e1_ne : ¬ (-1000000001 : Int32) = 0 := by decide
theorem e2_ne : ¬ (-1000000002 : Int32) = 0 := by decide
set_option maxHeartbeats 300000 in
set_option maxRecDepth 100000 in
theorem p1_put (a0 a1 a2 : Int32) : p1 (f_X7_put_0 a0 a1 a2) (f_X8_put_53 a0 a1 a2) := by
  by_cases h : 0 ≤ a0 ∧ a0 ≤ 3
  · exact p1_of p1_err2 (by rw [f_X7_put_0, x_isSheet, bd_mk, ifz, if_pos h, xmiss h, bd_mk, if_neg one_ne, bd_eta]) (fun ρ => by rw [f_X8_put_53, mthere ρ h, bd_mk, if_neg e2_ne, f_X8_put_53_L33, if_neg e2_ne, bd_eta])
  · exact p1_of p1_err1 (by rw [f_X7_put_0, x_isSheet, bd_mk, ifz, if_neg h, bd_eta]) (fun ρ => by rw [f_X8_put_53, mthere0 ρ h, bd_mk, if_neg e1_ne, f_X8_put_53_L33, if_neg e1_ne, bd_eta])
set_option maxHeartbeats 300000 in
set_option maxRecDepth 100000 in
theorem p1_weightsBy (a0 : Int32) : p1 (f_X7_weightsBy_0 a0) (f_X8_weightsBy_53 a0) := by
  by_cases h : 0 ≤ a0 ∧ a0 ≤ 3
  · exact p1_of p1_err2 (by rw [f_X7_weightsBy_0, x_isSheet, bd_mk, ifz, if_pos h, xmiss h, bd_mk, if_neg one_ne, bd_eta]) (fun ρ => by rw [f_X8_weightsBy_53, mthere ρ h, bd_mk, if_neg e2_ne, bd_eta])
  · exact p1_of p1_err1 (by rw [f_X7_weightsBy_0, x_isSheet, bd_mk, ifz, if_neg h, bd_eta]) (fun ρ => by rw [f_X8_weightsBy_53, mthere0 ρ h, bd_mk, if_neg e1_ne, bd_eta])
set_option maxHeartbeats 300000 in
set_option maxRecDepth 100000 in
theorem p1_judge (a0 : Int32) : p1 (f_X7_judge_0 a0) (f_X8_judge_53 a0) := by
  by_cases h : 0 ≤ a0 ∧ a0 ≤ 3
  · exact p1_of p1_err2 (by rw [f_X7_judge_0, x_isSheet, bd_mk, ifz, if_pos h, xmiss h, bd_mk, if_neg one_ne, bd_eta]) (fun ρ => by rw [f_X8_judge_53, mthere ρ h, bd_mk, if_neg e2_ne, bd_eta])
  · exact p1_of p1_err1 (by rw [f_X7_judge_0, x_isSheet, bd_mk, ifz, if_neg h, bd_eta]) (fun ρ => by rw [f_X8_judge_53, mthere0 ρ h, bd_mk, if_neg e1_ne, bd_eta])
set_option maxHeartbeats 300000 in
set_option maxRecDepth 100000 in
theorem p1_move (a0 a1 a2 a3 a4 : Int32) : p1 (f_X7_move_0 a0 a1 a2 a3 a4) (f_X8_move_53 a0 a1 a2 a3 a4) := by
  by_cases h : 0 ≤ a0 ∧ a0 ≤ 3
  · by_cases h2 : 0 ≤ a2 ∧ a2 ≤ 3
    · exact p1_of p1_err2 (by rw [f_X7_move_0, x_isSheet, bd_mk, ifz, if_pos h, x_isSheet, bd_mk, ifz, if_pos h2, xmiss h, bd_mk, if_neg one_ne, bd_eta]) (fun ρ => by
        have e : f_X8_notMoved_53 a0 a1 a2 a3 a4 (mkm ρ) = some (-1000000002, mkm ρ) := by
          rw [f_X8_notMoved_53, m_isSheet, bd_mk, ifz, if_pos h, m_isSheet, bd_mk, ifz, if_pos h2, gi_of (v4 h), nm_mk]
          exact if_pos rfl
        rw [f_X8_move_53, e, bd_mk, if_neg e2_ne, bd_eta])
    · exact p1_of p1_err1 (by rw [f_X7_move_0, x_isSheet, bd_mk, ifz, if_pos h, x_isSheet, bd_mk, ifz, if_neg h2, bd_eta]) (fun ρ => by rw [f_X8_move_53, f_X8_notMoved_53, m_isSheet, bd_mk, ifz, if_pos h, m_isSheet, bd_mk, ifz, if_neg h2, bd_mk, if_neg e1_ne, bd_eta])
  · exact p1_of p1_err1 (by rw [f_X7_move_0, x_isSheet, bd_mk, ifz, if_neg h, bd_eta]) (fun ρ => by rw [f_X8_move_53, f_X8_notMoved_53, m_isSheet, bd_mk, ifz, if_neg h, bd_mk, if_neg e1_ne, bd_eta])
set_option maxHeartbeats 300000 in
set_option maxRecDepth 100000 in
theorem p1_count (a0 : Int32) : p1 (f_X7_count_0 a0) (f_X8_count_53 a0) := by
  by_cases h0 : a0 = 0
  · subst h0
    exact ⟨_, ⟨_, rfl, ⟨rfl, rfl, rfl, rfl⟩⟩, fun ρ => ⟨_, rfl⟩⟩
  by_cases h1 : a0 = 1
  · subst h1
    exact ⟨_, ⟨_, rfl, ⟨rfl, rfl, rfl, rfl⟩⟩, fun ρ => ⟨_, rfl⟩⟩
  by_cases h2 : a0 = 2
  · subst h2
    exact ⟨_, ⟨_, rfl, ⟨rfl, rfl, rfl, rfl⟩⟩, fun ρ => ⟨_, rfl⟩⟩
  by_cases h3 : a0 = 3
  · subst h3
    exact ⟨_, ⟨_, rfl, ⟨rfl, rfl, rfl, rfl⟩⟩, fun ρ => ⟨_, rfl⟩⟩
  by_cases h4 : a0 = 4
  · subst h4
    exact ⟨_, ⟨_, rfl, ⟨rfl, rfl, rfl, rfl⟩⟩, fun ρ => ⟨_, rfl⟩⟩
  by_cases h5 : a0 = 5
  · subst h5
    exact ⟨_, ⟨_, rfl, ⟨rfl, rfl, rfl, rfl⟩⟩, fun ρ => ⟨_, rfl⟩⟩
  by_cases h6 : a0 = 6
  · subst h6
    exact ⟨_, ⟨_, rfl, ⟨rfl, rfl, rfl, rfl⟩⟩, fun ρ => ⟨_, rfl⟩⟩
  by_cases h7 : a0 = 7
  · subst h7
    exact ⟨_, ⟨_, rfl, ⟨rfl, rfl, rfl, rfl⟩⟩, fun ρ => ⟨_, rfl⟩⟩
  by_cases h8 : a0 = 8
  · subst h8
    exact ⟨_, ⟨_, rfl, ⟨rfl, rfl, rfl, rfl⟩⟩, fun ρ => ⟨_, rfl⟩⟩
  by_cases h9 : a0 = 9
  · subst h9
    exact ⟨_, ⟨_, rfl, ⟨rfl, rfl, rfl, rfl⟩⟩, fun ρ => ⟨_, rfl⟩⟩
  by_cases h10 : a0 = 10
  · subst h10
    exact ⟨_, ⟨_, rfl, ⟨rfl, rfl, rfl, rfl⟩⟩, fun ρ => ⟨_, rfl⟩⟩
  by_cases h11 : a0 = 11
  · subst h11
    exact ⟨_, ⟨_, rfl, ⟨rfl, rfl, rfl, rfl⟩⟩, fun ρ => ⟨_, rfl⟩⟩
  exact p1_of p1_err1 (by rw [f_X7_count_0, if_neg h0, if_neg h1, if_neg h2, if_neg h3, if_neg h4, if_neg h5, if_neg h6, if_neg h7, if_neg h8, if_neg h9, if_neg h10, if_neg h11, bd_eta]) (fun ρ => by rw [f_X8_count_53, if_neg h0, if_neg h1, if_neg h2, if_neg h3, if_neg h4, if_neg h5, if_neg h6, if_neg h7, if_neg h8, if_neg h9, if_neg h10, if_neg h11, bd_eta])
theorem i24x (j i : Nat) : nI j * 24 + nI i = nI (j * 24 + i) := by
  rw [show (24 : Int32) = nI 24 from rfl, show nI j * nI 24 = nI (j * 24) from (Int32.ofNat_mul j 24).symm, nI_add]
theorem i24m (j i : Nat) : 24 * nI j + nI i = nI (24 * j + i) := by
  rw [show (24 : Int32) = nI 24 from rfl, show nI 24 * nI j = nI (24 * j) from (Int32.ofNat_mul 24 j).symm, nI_add]
theorem xlay (j : Nat) (hj : j ≤ 3) (f : Nat) : ∀ (i : Nat) (σ : Mem), i ≤ 24 → 24 - i < f → Fm σ → ∃ σ1, f_X4_lay_46_L17 f (nI j) (nI i) σ = some (0, σ1) ∧ Fm σ1 := by
  induction f with
  | zero => intro i σ h1 h2; omega
  | succ f ih =>
    intro i σ h1 h2 h4
    show ∃ σ1, fb_X4_lay_46_L17 (f_X4_lay_46_L17 f) (nI j) (nI i) σ = some (0, σ1) ∧ _
    rw [fb_X4_lay_46_L17]
    by_cases h : i = 24
    · subst h
      exact ⟨σ, rfl, h4⟩
    · rw [if_neg (show ¬ (24 : Int32) ≤ nI i from fun q => absurd ((nI_leI (a := 24) (b := i) (by omega) (by omega)).mp q) (by omega)), nm_mk, nm_mk, i24x, gi_of (vp_in_nI (by omega) (by omega)), nm_mk, nm_mk, nI_1]
      exact ih (i + 1) _ (by omega) (by omega) (Fm_set (by omega) h4)
theorem mlay (j : Nat) (hj : j ≤ 3) (f : Nat) : ∀ (i : Nat) (σ : Mem), i ≤ 24 → 24 - i < f → ∃ σ1, f_X8_sheet_53_L93 f (nI j) (nI i) σ = some (1, σ1) := by
  induction f with
  | zero => intro i σ h1 h2; omega
  | succ f ih =>
    intro i σ h1 h2
    show ∃ σ1, fb_X8_sheet_53_L93 (f_X8_sheet_53_L93 f) (nI j) (nI i) σ = some (1, σ1)
    rw [fb_X8_sheet_53_L93]
    by_cases h : i = 24
    · subst h
      exact ⟨σ, rfl⟩
    · rw [if_neg (show ¬ (24 : Int32) ≤ nI i from fun q => absurd ((nI_leI (a := 24) (b := i) (by omega) (by omega)).mp q) (by omega)), nm_mk, nm_mk, i24m, gi_of (vp_in_nI (by omega) (by omega)), nm_mk, nm_mk, nI_1]
      exact ih (i + 1) _ (by omega) (by omega)
set_option maxHeartbeats 300000 in
set_option maxRecDepth 100000 in
theorem p1_sheet (a0 a1 a2 : Int32) : p1 (f_X7_sheet_0 a0 a1 a2) (f_X8_sheet_53 a0 a1 a2) := by
  by_cases h : 0 ≤ a0 ∧ a0 ≤ 3
  · obtain ⟨j, hj, rfl⟩ := cut_of (n := 3) (by decide) h
    have lay0 : ∀ j : Nat, j ≤ 3 → ∀ b n : Int32, ∃ σ1, f_X4_lay_46 (nI j) b n σ0 = some (0, σ1) ∧ Fm σ1 := by
      intro j hj b n
      rw [f_X4_lay_46, gi_of (vp_in_nI (by omega) (by omega)), nm_mk, gi_of (vp_in_nI (by omega) (by omega)), nm_mk]
      exact xlay j hj 1000 0 _ (by omega) (by omega) (Fm_set (by omega) (Fm_set (by omega) Fm_0))
    have laym : ∀ j : Nat, j ≤ 3 → ∀ b n : Int32, ∀ ρ, ∃ σ1, f_X8_sheet_53_L68 (nI j) b n (mkm ρ) = some (1, σ1) := by
      intro j hj b n ρ
      have lm : ∀ σ : Mem, ∃ σ1, f_X8_sheet_53_L93 1000 (nI j) 0 σ = some (1, σ1) := fun σ => mlay j hj 1000 0 σ (by omega) (by omega)
      rw [f_X8_sheet_53_L68, gi_of (vp_in_nI (by omega) (by omega)), nm_mk]
      by_cases hb : b = 0
      · rw [if_pos hb, gi_of (vp_in_nI (by omega) (by omega)), nm_mk]
        exact lm _
      · rw [if_neg hb, gi_of (vp_in_nI (by omega) (by omega)), nm_mk]
        exact lm _
    have key : ∀ b : Int32, (b = 0 ∨ 0 < b) → p1 (f_X7_sheet_0_L35 (nI j) b a2) (f_X8_sheet_53_L36 (nI j) b a2) := by
      intro b hb
      rcases hb with hb | hb
      · obtain ⟨σ1, q1, q2⟩ := lay0 j hj 0 0
        subst hb
        refine ⟨1, ⟨σ1, ?_, q2⟩, fun ρ => ?_⟩
        · rw [f_X7_sheet_0_L35, if_pos rfl, q1, bd_mk]
        · rw [f_X8_sheet_53_L36, if_pos (by decide), f_X8_sheet_53_L51, if_pos (by decide)]
          exact laym j hj 0 a2 ρ
      · have hb0 : ¬ b = 0 := fun q => absurd hb (by rw [q]; decide)
        have hb1 : ¬ b ≤ 0 := Int32.not_le.mpr hb
        by_cases h2 : 0 ≤ a2
        · by_cases h3 : a2 ≤ 24
          · obtain ⟨σ1, q1, q2⟩ := lay0 j hj b a2
            refine ⟨1, ⟨σ1, ?_, q2⟩, fun ρ => ?_⟩
            · rw [f_X7_sheet_0_L35, if_neg hb0, if_pos h2, if_pos h3, q1, bd_mk]
            · rw [f_X8_sheet_53_L36, if_neg hb1, if_pos h2, f_X8_sheet_53_L51, if_neg hb1, if_pos h3]
              exact laym j hj b a2 ρ
          · exact p1_of p1_err1 (by rw [f_X7_sheet_0_L35, if_neg hb0, if_pos h2, if_neg h3, bd_eta]) (fun ρ => by rw [f_X8_sheet_53_L36, if_neg hb1, if_pos h2, f_X8_sheet_53_L51, if_neg hb1, if_neg h3, bd_eta])
        · exact p1_of p1_err3 (by rw [f_X7_sheet_0_L35, if_neg hb0, if_neg h2, bd_eta]) (fun ρ => by rw [f_X8_sheet_53_L36, if_neg hb1, if_neg h2, bd_eta])
    by_cases c0 : a1 = 0
    · exact p1_of (key a1 (by rw [c0]; decide)) (by rw [f_X7_sheet_0, x_isSheet, bd_mk, ifz, if_pos h, if_pos c0]) (fun ρ => by rw [f_X8_sheet_53, m_isSheet, bd_mk, ifz, if_pos h, if_pos c0])
    by_cases c1 : a1 = 8
    · exact p1_of (key a1 (by rw [c1]; decide)) (by rw [f_X7_sheet_0, x_isSheet, bd_mk, ifz, if_pos h, if_neg c0, if_pos c1]) (fun ρ => by rw [f_X8_sheet_53, m_isSheet, bd_mk, ifz, if_pos h, if_neg c0, if_pos c1])
    by_cases c2 : a1 = 16
    · exact p1_of (key a1 (by rw [c2]; decide)) (by rw [f_X7_sheet_0, x_isSheet, bd_mk, ifz, if_pos h, if_neg c0, if_neg c1, if_pos c2]) (fun ρ => by rw [f_X8_sheet_53, m_isSheet, bd_mk, ifz, if_pos h, if_neg c0, if_neg c1, if_pos c2])
    by_cases c3 : a1 = 32
    · exact p1_of (key a1 (by rw [c3]; decide)) (by rw [f_X7_sheet_0, x_isSheet, bd_mk, ifz, if_pos h, if_neg c0, if_neg c1, if_neg c2, if_pos c3]) (fun ρ => by rw [f_X8_sheet_53, m_isSheet, bd_mk, ifz, if_pos h, if_neg c0, if_neg c1, if_neg c2, if_pos c3])
    exact p1_of p1_err1 (by rw [f_X7_sheet_0, x_isSheet, bd_mk, ifz, if_pos h, if_neg c0, if_neg c1, if_neg c2, if_neg c3, bd_eta]) (fun ρ => by rw [f_X8_sheet_53, m_isSheet, bd_mk, ifz, if_pos h, if_neg c0, if_neg c1, if_neg c2, if_neg c3, bd_eta])
  · exact p1_of p1_err1 (by rw [f_X7_sheet_0, x_isSheet, bd_mk, ifz, if_neg h, bd_eta]) (fun ρ => by rw [f_X8_sheet_53, m_isSheet, bd_mk, ifz, if_neg h, bd_eta])
theorem p1_fin {F G : Mem → Res} (h : p1 F G) {bk : Int32 → Mem → Res} (hbk : ∀ σ, bk (0 + 6) σ = some (1, σ)) : ∃ Z : Int32 × Mem, bd (F σ0) (fun r μ => bd (G μ) (fun r2 μ2 => if r = r2 then (nm (0 + 6) fun (z : Int32) => bk z μ2) else some (0, μ2))) = some Z ∧ Z.1 = 1 := by
  obtain ⟨r, ⟨σ1, a, b⟩, c⟩ := h
  rw [Fm_mk b] at a
  obtain ⟨σ2, d⟩ := c σ1
  refine ⟨(1, σ2), ?_, rfl⟩
  rw [a, bd_mk, d, bd_mk, if_pos rfl, nm_mk, hbk]
set_option maxHeartbeats 300000 in
set_option maxRecDepth 100000 in
theorem p1_case_0 (xs : Nat → Int32) (bk : Int32 → Mem → Res) (hbk : ∀ σ, bk (0 + 6) σ = some (1, σ)) : ∃ Z : Int32 × Mem, fc_law_0 bk 6 xs 0 σ0 = some Z ∧ Z.1 = 1 :=
  p1_fin (p1_pitch _ _) hbk
set_option maxHeartbeats 300000 in
set_option maxRecDepth 100000 in
theorem p1_case_1 (xs : Nat → Int32) (bk : Int32 → Mem → Res) (hbk : ∀ σ, bk (0 + 6) σ = some (1, σ)) : ∃ Z : Int32 × Mem, fc_law_1 bk 6 xs 0 σ0 = some Z ∧ Z.1 = 1 :=
  p1_fin (p1_pitchIs _ _) hbk
set_option maxHeartbeats 300000 in
set_option maxRecDepth 100000 in
theorem p1_case_2 (xs : Nat → Int32) (bk : Int32 → Mem → Res) (hbk : ∀ σ, bk (0 + 6) σ = some (1, σ)) : ∃ Z : Int32 × Mem, fc_law_2 bk 6 xs 0 σ0 = some Z ∧ Z.1 = 1 :=
  p1_fin (p1_become _ _) hbk
set_option maxHeartbeats 300000 in
set_option maxRecDepth 100000 in
theorem p1_case_3 (xs : Nat → Int32) (bk : Int32 → Mem → Res) (hbk : ∀ σ, bk (0 + 6) σ = some (1, σ)) : ∃ Z : Int32 × Mem, fc_law_3 bk 6 xs 0 σ0 = some Z ∧ Z.1 = 1 :=
  p1_fin (p1_as _ _) hbk
set_option maxHeartbeats 300000 in
set_option maxRecDepth 100000 in
theorem p1_case_4 (xs : Nat → Int32) (bk : Int32 → Mem → Res) (hbk : ∀ σ, bk (0 + 6) σ = some (1, σ)) : ∃ Z : Int32 × Mem, fc_law_4 bk 6 xs 0 σ0 = some Z ∧ Z.1 = 1 :=
  p1_fin (p1_weighs _ _) hbk
set_option maxHeartbeats 300000 in
set_option maxRecDepth 100000 in
theorem p1_case_5 (xs : Nat → Int32) (bk : Int32 → Mem → Res) (hbk : ∀ σ, bk (0 + 6) σ = some (1, σ)) : ∃ Z : Int32 × Mem, fc_law_5 bk 6 xs 0 σ0 = some Z ∧ Z.1 = 1 :=
  p1_fin (p1_runner _ _) hbk
set_option maxHeartbeats 300000 in
set_option maxRecDepth 100000 in
theorem p1_case_6 (xs : Nat → Int32) (bk : Int32 → Mem → Res) (hbk : ∀ σ, bk (0 + 6) σ = some (1, σ)) : ∃ Z : Int32 × Mem, fc_law_6 bk 6 xs 0 σ0 = some Z ∧ Z.1 = 1 :=
  p1_fin (p1_runnerIs _ _) hbk
set_option maxHeartbeats 300000 in
set_option maxRecDepth 100000 in
theorem p1_case_7 (xs : Nat → Int32) (bk : Int32 → Mem → Res) (hbk : ∀ σ, bk (0 + 6) σ = some (1, σ)) : ∃ Z : Int32 × Mem, fc_law_7 bk 6 xs 0 σ0 = some Z ∧ Z.1 = 1 :=
  p1_fin (p1_leads _ _) hbk
set_option maxHeartbeats 300000 in
set_option maxRecDepth 100000 in
theorem p1_case_8 (xs : Nat → Int32) (bk : Int32 → Mem → Res) (hbk : ∀ σ, bk (0 + 6) σ = some (1, σ)) : ∃ Z : Int32 × Mem, fc_law_8 bk 6 xs 0 σ0 = some Z ∧ Z.1 = 1 :=
  p1_fin (p1_set _ _) hbk
set_option maxHeartbeats 300000 in
set_option maxRecDepth 100000 in
theorem p1_case_9 (xs : Nat → Int32) (bk : Int32 → Mem → Res) (hbk : ∀ σ, bk (0 + 6) σ = some (1, σ)) : ∃ Z : Int32 × Mem, fc_law_9 bk 6 xs 0 σ0 = some Z ∧ Z.1 = 1 :=
  p1_fin (p1_steal _ _) hbk
set_option maxHeartbeats 300000 in
set_option maxRecDepth 100000 in
theorem p1_case_10 (xs : Nat → Int32) (bk : Int32 → Mem → Res) (hbk : ∀ σ, bk (0 + 6) σ = some (1, σ)) : ∃ Z : Int32 × Mem, fc_law_10 bk 6 xs 0 σ0 = some Z ∧ Z.1 = 1 :=
  p1_fin (p1_over _) hbk
set_option maxHeartbeats 300000 in
set_option maxRecDepth 100000 in
theorem p1_case_11 (xs : Nat → Int32) (bk : Int32 → Mem → Res) (hbk : ∀ σ, bk (0 + 6) σ = some (1, σ)) : ∃ Z : Int32 × Mem, fc_law_11 bk 6 xs 0 σ0 = some Z ∧ Z.1 = 1 :=
  p1_fin (p1_feed _ _) hbk
set_option maxHeartbeats 300000 in
set_option maxRecDepth 100000 in
theorem p1_case_12 (xs : Nat → Int32) (bk : Int32 → Mem → Res) (hbk : ∀ σ, bk (0 + 6) σ = some (1, σ)) : ∃ Z : Int32 × Mem, fc_law_12 bk 6 xs 0 σ0 = some Z ∧ Z.1 = 1 :=
  p1_fin (p1_text _) hbk
set_option maxHeartbeats 300000 in
set_option maxRecDepth 100000 in
theorem p1_case_13 (xs : Nat → Int32) (bk : Int32 → Mem → Res) (hbk : ∀ σ, bk (0 + 6) σ = some (1, σ)) : ∃ Z : Int32 × Mem, fc_law_13 bk 6 xs 0 σ0 = some Z ∧ Z.1 = 1 :=
  p1_fin (p1_untell _) hbk
set_option maxHeartbeats 300000 in
set_option maxRecDepth 100000 in
theorem p1_case_14 (xs : Nat → Int32) (bk : Int32 → Mem → Res) (hbk : ∀ σ, bk (0 + 6) σ = some (1, σ)) : ∃ Z : Int32 × Mem, fc_law_14 bk 6 xs 0 σ0 = some Z ∧ Z.1 = 1 :=
  p1_fin (p1_law _ _ _ _) hbk
set_option maxHeartbeats 300000 in
set_option maxRecDepth 100000 in
theorem p1_case_15 (xs : Nat → Int32) (bk : Int32 → Mem → Res) (hbk : ∀ σ, bk (0 + 6) σ = some (1, σ)) : ∃ Z : Int32 × Mem, fc_law_15 bk 6 xs 0 σ0 = some Z ∧ Z.1 = 1 :=
  p1_fin (p1_margin _ _ _) hbk
set_option maxHeartbeats 300000 in
set_option maxRecDepth 100000 in
theorem p1_case_16 (xs : Nat → Int32) (bk : Int32 → Mem → Res) (hbk : ∀ σ, bk (0 + 6) σ = some (1, σ)) : ∃ Z : Int32 × Mem, fc_law_16 bk 6 xs 0 σ0 = some Z ∧ Z.1 = 1 :=
  p1_fin (p1_leadFor _ _) hbk
set_option maxHeartbeats 300000 in
set_option maxRecDepth 100000 in
theorem p1_case_17 (xs : Nat → Int32) (bk : Int32 → Mem → Res) (hbk : ∀ σ, bk (0 + 6) σ = some (1, σ)) : ∃ Z : Int32 × Mem, fc_law_17 bk 6 xs 0 σ0 = some Z ∧ Z.1 = 1 :=
  p1_fin (p1_bestLead _ _) hbk
set_option maxHeartbeats 300000 in
set_option maxRecDepth 100000 in
theorem p1_case_18 (xs : Nat → Int32) (bk : Int32 → Mem → Res) (hbk : ∀ σ, bk (0 + 6) σ = some (1, σ)) : ∃ Z : Int32 × Mem, fc_law_18 bk 6 xs 0 σ0 = some Z ∧ Z.1 = 1 :=
  p1_fin (p1_odds _ _) hbk
set_option maxHeartbeats 300000 in
set_option maxRecDepth 100000 in
theorem p1_case_19 (xs : Nat → Int32) (bk : Int32 → Mem → Res) (hbk : ∀ σ, bk (0 + 6) σ = some (1, σ)) : ∃ Z : Int32 × Mem, fc_law_19 bk 6 xs 0 σ0 = some Z ∧ Z.1 = 1 :=
  p1_fin (p1_go _ _) hbk
set_option maxHeartbeats 300000 in
set_option maxRecDepth 100000 in
theorem p1_case_20 (xs : Nat → Int32) (bk : Int32 → Mem → Res) (hbk : ∀ σ, bk (0 + 6) σ = some (1, σ)) : ∃ Z : Int32 × Mem, fc_law_20 bk 6 xs 0 σ0 = some Z ∧ Z.1 = 1 :=
  p1_fin (p1_duel _ _ _ _) hbk
set_option maxHeartbeats 300000 in
set_option maxRecDepth 100000 in
theorem p1_case_21 (xs : Nat → Int32) (bk : Int32 → Mem → Res) (hbk : ∀ σ, bk (0 + 6) σ = some (1, σ)) : ∃ Z : Int32 × Mem, fc_law_21 bk 6 xs 0 σ0 = some Z ∧ Z.1 = 1 :=
  p1_fin (p1_surely _ _) hbk
set_option maxHeartbeats 300000 in
set_option maxRecDepth 100000 in
theorem p1_case_22 (xs : Nat → Int32) (bk : Int32 → Mem → Res) (hbk : ∀ σ, bk (0 + 6) σ = some (1, σ)) : ∃ Z : Int32 × Mem, fc_law_22 bk 6 xs 0 σ0 = some Z ∧ Z.1 = 1 :=
  p1_fin (p1_fits _ _ _) hbk
set_option maxHeartbeats 300000 in
set_option maxRecDepth 100000 in
theorem p1_case_23 (xs : Nat → Int32) (bk : Int32 → Mem → Res) (hbk : ∀ σ, bk (0 + 6) σ = some (1, σ)) : ∃ Z : Int32 × Mem, fc_law_23 bk 6 xs 0 σ0 = some Z ∧ Z.1 = 1 :=
  p1_fin (p1_loose _) hbk
set_option maxHeartbeats 300000 in
set_option maxRecDepth 100000 in
theorem p1_case_24 (xs : Nat → Int32) (bk : Int32 → Mem → Res) (hbk : ∀ σ, bk (0 + 6) σ = some (1, σ)) : ∃ Z : Int32 × Mem, fc_law_24 bk 6 xs 0 σ0 = some Z ∧ Z.1 = 1 :=
  p1_fin (p1_seed _) hbk
set_option maxHeartbeats 300000 in
set_option maxRecDepth 100000 in
theorem p1_case_25 (xs : Nat → Int32) (bk : Int32 → Mem → Res) (hbk : ∀ σ, bk (0 + 6) σ = some (1, σ)) : ∃ Z : Int32 × Mem, fc_law_25 bk 6 xs 0 σ0 = some Z ∧ Z.1 = 1 :=
  p1_fin (p1_voice _ _ _) hbk
set_option maxHeartbeats 300000 in
set_option maxRecDepth 100000 in
theorem p1_case_26 (xs : Nat → Int32) (bk : Int32 → Mem → Res) (hbk : ∀ σ, bk (0 + 6) σ = some (1, σ)) : ∃ Z : Int32 × Mem, fc_law_26 bk 6 xs 0 σ0 = some Z ∧ Z.1 = 1 :=
  p1_fin (p1_body _) hbk
set_option maxHeartbeats 300000 in
set_option maxRecDepth 100000 in
theorem p1_case_27 (xs : Nat → Int32) (bk : Int32 → Mem → Res) (hbk : ∀ σ, bk (0 + 6) σ = some (1, σ)) : ∃ Z : Int32 × Mem, fc_law_27 bk 6 xs 0 σ0 = some Z ∧ Z.1 = 1 :=
  p1_fin (p1_sheet _ _ _) hbk
set_option maxHeartbeats 300000 in
set_option maxRecDepth 100000 in
theorem p1_case_28 (xs : Nat → Int32) (bk : Int32 → Mem → Res) (hbk : ∀ σ, bk (0 + 6) σ = some (1, σ)) : ∃ Z : Int32 × Mem, fc_law_28 bk 6 xs 0 σ0 = some Z ∧ Z.1 = 1 :=
  p1_fin (p1_put _ _ _) hbk
set_option maxHeartbeats 300000 in
set_option maxRecDepth 100000 in
theorem p1_case_29 (xs : Nat → Int32) (bk : Int32 → Mem → Res) (hbk : ∀ σ, bk (0 + 6) σ = some (1, σ)) : ∃ Z : Int32 × Mem, fc_law_29 bk 6 xs 0 σ0 = some Z ∧ Z.1 = 1 :=
  p1_fin (p1_move _ _ _ _ _) hbk
set_option maxHeartbeats 300000 in
set_option maxRecDepth 100000 in
theorem p1_case_30 (xs : Nat → Int32) (bk : Int32 → Mem → Res) (hbk : ∀ σ, bk (0 + 6) σ = some (1, σ)) : ∃ Z : Int32 × Mem, fc_law_30 bk 6 xs 0 σ0 = some Z ∧ Z.1 = 1 :=
  p1_fin (p1_weightsBy _) hbk
set_option maxHeartbeats 300000 in
set_option maxRecDepth 100000 in
theorem p1_case_31 (xs : Nat → Int32) (bk : Int32 → Mem → Res) (hbk : ∀ σ, bk (0 + 6) σ = some (1, σ)) : ∃ Z : Int32 × Mem, fc_law_31 bk 6 xs 0 σ0 = some Z ∧ Z.1 = 1 :=
  p1_fin (p1_judge _) hbk
set_option maxHeartbeats 300000 in
set_option maxRecDepth 100000 in
theorem p1_case_32 (xs : Nat → Int32) (bk : Int32 → Mem → Res) (hbk : ∀ σ, bk (0 + 6) σ = some (1, σ)) : ∃ Z : Int32 × Mem, fc_law_32 bk 6 xs 0 σ0 = some Z ∧ Z.1 = 1 :=
  p1_fin (p1_image) hbk
set_option maxHeartbeats 300000 in
set_option maxRecDepth 100000 in
theorem p1_case_33 (xs : Nat → Int32) (bk : Int32 → Mem → Res) (hbk : ∀ σ, bk (0 + 6) σ = some (1, σ)) : ∃ Z : Int32 × Mem, fc_law_33 bk 6 xs 0 σ0 = some Z ∧ Z.1 = 1 :=
  p1_fin (p1_restore) hbk
set_option maxHeartbeats 300000 in
set_option maxRecDepth 100000 in
theorem p1_case_34 (xs : Nat → Int32) (bk : Int32 → Mem → Res) (hbk : ∀ σ, bk (0 + 6) σ = some (1, σ)) : ∃ Z : Int32 × Mem, fc_law_34 bk 6 xs 0 σ0 = some Z ∧ Z.1 = 1 :=
  p1_fin (p1_tell _) hbk
set_option maxHeartbeats 300000 in
set_option maxRecDepth 100000 in
theorem p1_case_35 (xs : Nat → Int32) (bk : Int32 → Mem → Res) (hbk : ∀ σ, bk (0 + 6) σ = some (1, σ)) : ∃ Z : Int32 × Mem, fc_law_35 bk 6 xs 0 σ0 = some Z ∧ Z.1 = 1 :=
  p1_fin (p1_check) hbk
set_option maxHeartbeats 300000 in
set_option maxRecDepth 100000 in
theorem p1_case_36 (xs : Nat → Int32) (bk : Int32 → Mem → Res) (hbk : ∀ σ, bk (0 + 6) σ = some (1, σ)) : ∃ Z : Int32 × Mem, fc_law_36 bk 6 xs 0 σ0 = some Z ∧ Z.1 = 1 :=
  p1_fin (p1_count _) hbk
set_option maxHeartbeats 300000 in
set_option maxRecDepth 100000 in
theorem p1_case_37 (xs : Nat → Int32) (bk : Int32 → Mem → Res) (hbk : ∀ σ, bk (0 + 6) σ = some (1, σ)) : ∃ Z : Int32 × Mem, fc_law_37 bk 6 xs 0 σ0 = some Z ∧ Z.1 = 1 :=
  p1_fin (p1_told _) hbk
set_option maxHeartbeats 300000 in
set_option maxRecDepth 100000 in
theorem pure_law (L : Nat) (xs : Nat → Int32) (hL : L ≤ 6) : ∃ Z : Int32 × Mem, f_law L xs 3 0 σ0 = some Z ∧ Z.1 = 1 := by
  match L, hL with
  | 0, _ => exact ⟨(1, σ0), rfl, rfl⟩
  | 1, _ => exact ⟨(1, σ0), rfl, rfl⟩
  | 2, _ => exact ⟨(1, σ0), rfl, rfl⟩
  | 3, _ => exact ⟨(1, σ0), rfl, rfl⟩
  | 4, _ => exact ⟨(1, σ0), rfl, rfl⟩
  | 5, _ => exact ⟨(1, σ0), rfl, rfl⟩
  | 6, _ =>
    have hbk : ∀ σ, f_law 6 xs 2 (0 + 6) σ = some (1, σ) := fun σ => rfl
    show ∃ Z : Int32 × Mem, fb_law (f_law 6 xs 2) 6 xs 0 σ0 = some Z ∧ Z.1 = 1
    rw [fb_law, nm_mk, if_neg (by decide), gi_of (vp_in_iff.mpr ⟨by decide, by decide⟩), nm_mk, nm_mk]
    generalize xs (Int32.toNatClampNeg 0) &&& 63 = v
    by_cases h0 : v = 0
    · rw [if_pos h0]
      exact p1_case_0 xs _ hbk
    by_cases h1 : v = 1
    · rw [if_neg h0, if_pos h1]
      exact p1_case_1 xs _ hbk
    by_cases h2 : v = 2
    · rw [if_neg h0, if_neg h1, if_pos h2]
      exact p1_case_2 xs _ hbk
    by_cases h3 : v = 3
    · rw [if_neg h0, if_neg h1, if_neg h2, if_pos h3]
      exact p1_case_3 xs _ hbk
    by_cases h4 : v = 4
    · rw [if_neg h0, if_neg h1, if_neg h2, if_neg h3, if_pos h4]
      exact p1_case_4 xs _ hbk
    by_cases h5 : v = 5
    · rw [if_neg h0, if_neg h1, if_neg h2, if_neg h3, if_neg h4, if_pos h5]
      exact p1_case_5 xs _ hbk
    by_cases h6 : v = 6
    · rw [if_neg h0, if_neg h1, if_neg h2, if_neg h3, if_neg h4, if_neg h5, if_pos h6]
      exact p1_case_6 xs _ hbk
    by_cases h7 : v = 7
    · rw [if_neg h0, if_neg h1, if_neg h2, if_neg h3, if_neg h4, if_neg h5, if_neg h6, if_pos h7]
      exact p1_case_7 xs _ hbk
    by_cases h8 : v = 8
    · rw [if_neg h0, if_neg h1, if_neg h2, if_neg h3, if_neg h4, if_neg h5, if_neg h6, if_neg h7, if_pos h8]
      exact p1_case_8 xs _ hbk
    by_cases h9 : v = 9
    · rw [if_neg h0, if_neg h1, if_neg h2, if_neg h3, if_neg h4, if_neg h5, if_neg h6, if_neg h7, if_neg h8, if_pos h9]
      exact p1_case_9 xs _ hbk
    by_cases h10 : v = 10
    · rw [if_neg h0, if_neg h1, if_neg h2, if_neg h3, if_neg h4, if_neg h5, if_neg h6, if_neg h7, if_neg h8, if_neg h9, if_pos h10]
      exact p1_case_10 xs _ hbk
    by_cases h11 : v = 11
    · rw [if_neg h0, if_neg h1, if_neg h2, if_neg h3, if_neg h4, if_neg h5, if_neg h6, if_neg h7, if_neg h8, if_neg h9, if_neg h10, if_pos h11]
      exact p1_case_11 xs _ hbk
    by_cases h12 : v = 12
    · rw [if_neg h0, if_neg h1, if_neg h2, if_neg h3, if_neg h4, if_neg h5, if_neg h6, if_neg h7, if_neg h8, if_neg h9, if_neg h10, if_neg h11, if_pos h12]
      exact p1_case_12 xs _ hbk
    by_cases h13 : v = 13
    · rw [if_neg h0, if_neg h1, if_neg h2, if_neg h3, if_neg h4, if_neg h5, if_neg h6, if_neg h7, if_neg h8, if_neg h9, if_neg h10, if_neg h11, if_neg h12, if_pos h13]
      exact p1_case_13 xs _ hbk
    by_cases h14 : v = 14
    · rw [if_neg h0, if_neg h1, if_neg h2, if_neg h3, if_neg h4, if_neg h5, if_neg h6, if_neg h7, if_neg h8, if_neg h9, if_neg h10, if_neg h11, if_neg h12, if_neg h13, if_pos h14]
      exact p1_case_14 xs _ hbk
    by_cases h15 : v = 15
    · rw [if_neg h0, if_neg h1, if_neg h2, if_neg h3, if_neg h4, if_neg h5, if_neg h6, if_neg h7, if_neg h8, if_neg h9, if_neg h10, if_neg h11, if_neg h12, if_neg h13, if_neg h14, if_pos h15]
      exact p1_case_15 xs _ hbk
    by_cases h16 : v = 16
    · rw [if_neg h0, if_neg h1, if_neg h2, if_neg h3, if_neg h4, if_neg h5, if_neg h6, if_neg h7, if_neg h8, if_neg h9, if_neg h10, if_neg h11, if_neg h12, if_neg h13, if_neg h14, if_neg h15, if_pos h16]
      exact p1_case_16 xs _ hbk
    by_cases h17 : v = 17
    · rw [if_neg h0, if_neg h1, if_neg h2, if_neg h3, if_neg h4, if_neg h5, if_neg h6, if_neg h7, if_neg h8, if_neg h9, if_neg h10, if_neg h11, if_neg h12, if_neg h13, if_neg h14, if_neg h15, if_neg h16, if_pos h17]
      exact p1_case_17 xs _ hbk
    by_cases h18 : v = 18
    · rw [if_neg h0, if_neg h1, if_neg h2, if_neg h3, if_neg h4, if_neg h5, if_neg h6, if_neg h7, if_neg h8, if_neg h9, if_neg h10, if_neg h11, if_neg h12, if_neg h13, if_neg h14, if_neg h15, if_neg h16, if_neg h17, if_pos h18]
      exact p1_case_18 xs _ hbk
    by_cases h19 : v = 19
    · rw [if_neg h0, if_neg h1, if_neg h2, if_neg h3, if_neg h4, if_neg h5, if_neg h6, if_neg h7, if_neg h8, if_neg h9, if_neg h10, if_neg h11, if_neg h12, if_neg h13, if_neg h14, if_neg h15, if_neg h16, if_neg h17, if_neg h18, if_pos h19]
      exact p1_case_19 xs _ hbk
    by_cases h20 : v = 20
    · rw [if_neg h0, if_neg h1, if_neg h2, if_neg h3, if_neg h4, if_neg h5, if_neg h6, if_neg h7, if_neg h8, if_neg h9, if_neg h10, if_neg h11, if_neg h12, if_neg h13, if_neg h14, if_neg h15, if_neg h16, if_neg h17, if_neg h18, if_neg h19, if_pos h20]
      exact p1_case_20 xs _ hbk
    by_cases h21 : v = 21
    · rw [if_neg h0, if_neg h1, if_neg h2, if_neg h3, if_neg h4, if_neg h5, if_neg h6, if_neg h7, if_neg h8, if_neg h9, if_neg h10, if_neg h11, if_neg h12, if_neg h13, if_neg h14, if_neg h15, if_neg h16, if_neg h17, if_neg h18, if_neg h19, if_neg h20, if_pos h21]
      exact p1_case_21 xs _ hbk
    by_cases h22 : v = 22
    · rw [if_neg h0, if_neg h1, if_neg h2, if_neg h3, if_neg h4, if_neg h5, if_neg h6, if_neg h7, if_neg h8, if_neg h9, if_neg h10, if_neg h11, if_neg h12, if_neg h13, if_neg h14, if_neg h15, if_neg h16, if_neg h17, if_neg h18, if_neg h19, if_neg h20, if_neg h21, if_pos h22]
      exact p1_case_22 xs _ hbk
    by_cases h23 : v = 23
    · rw [if_neg h0, if_neg h1, if_neg h2, if_neg h3, if_neg h4, if_neg h5, if_neg h6, if_neg h7, if_neg h8, if_neg h9, if_neg h10, if_neg h11, if_neg h12, if_neg h13, if_neg h14, if_neg h15, if_neg h16, if_neg h17, if_neg h18, if_neg h19, if_neg h20, if_neg h21, if_neg h22, if_pos h23]
      exact p1_case_23 xs _ hbk
    by_cases h24 : v = 24
    · rw [if_neg h0, if_neg h1, if_neg h2, if_neg h3, if_neg h4, if_neg h5, if_neg h6, if_neg h7, if_neg h8, if_neg h9, if_neg h10, if_neg h11, if_neg h12, if_neg h13, if_neg h14, if_neg h15, if_neg h16, if_neg h17, if_neg h18, if_neg h19, if_neg h20, if_neg h21, if_neg h22, if_neg h23, if_pos h24]
      exact p1_case_24 xs _ hbk
    by_cases h25 : v = 25
    · rw [if_neg h0, if_neg h1, if_neg h2, if_neg h3, if_neg h4, if_neg h5, if_neg h6, if_neg h7, if_neg h8, if_neg h9, if_neg h10, if_neg h11, if_neg h12, if_neg h13, if_neg h14, if_neg h15, if_neg h16, if_neg h17, if_neg h18, if_neg h19, if_neg h20, if_neg h21, if_neg h22, if_neg h23, if_neg h24, if_pos h25]
      exact p1_case_25 xs _ hbk
    by_cases h26 : v = 26
    · rw [if_neg h0, if_neg h1, if_neg h2, if_neg h3, if_neg h4, if_neg h5, if_neg h6, if_neg h7, if_neg h8, if_neg h9, if_neg h10, if_neg h11, if_neg h12, if_neg h13, if_neg h14, if_neg h15, if_neg h16, if_neg h17, if_neg h18, if_neg h19, if_neg h20, if_neg h21, if_neg h22, if_neg h23, if_neg h24, if_neg h25, if_pos h26]
      exact p1_case_26 xs _ hbk
    by_cases h27 : v = 27
    · rw [if_neg h0, if_neg h1, if_neg h2, if_neg h3, if_neg h4, if_neg h5, if_neg h6, if_neg h7, if_neg h8, if_neg h9, if_neg h10, if_neg h11, if_neg h12, if_neg h13, if_neg h14, if_neg h15, if_neg h16, if_neg h17, if_neg h18, if_neg h19, if_neg h20, if_neg h21, if_neg h22, if_neg h23, if_neg h24, if_neg h25, if_neg h26, if_pos h27]
      exact p1_case_27 xs _ hbk
    by_cases h28 : v = 28
    · rw [if_neg h0, if_neg h1, if_neg h2, if_neg h3, if_neg h4, if_neg h5, if_neg h6, if_neg h7, if_neg h8, if_neg h9, if_neg h10, if_neg h11, if_neg h12, if_neg h13, if_neg h14, if_neg h15, if_neg h16, if_neg h17, if_neg h18, if_neg h19, if_neg h20, if_neg h21, if_neg h22, if_neg h23, if_neg h24, if_neg h25, if_neg h26, if_neg h27, if_pos h28]
      exact p1_case_28 xs _ hbk
    by_cases h29 : v = 29
    · rw [if_neg h0, if_neg h1, if_neg h2, if_neg h3, if_neg h4, if_neg h5, if_neg h6, if_neg h7, if_neg h8, if_neg h9, if_neg h10, if_neg h11, if_neg h12, if_neg h13, if_neg h14, if_neg h15, if_neg h16, if_neg h17, if_neg h18, if_neg h19, if_neg h20, if_neg h21, if_neg h22, if_neg h23, if_neg h24, if_neg h25, if_neg h26, if_neg h27, if_neg h28, if_pos h29]
      exact p1_case_29 xs _ hbk
    by_cases h30 : v = 30
    · rw [if_neg h0, if_neg h1, if_neg h2, if_neg h3, if_neg h4, if_neg h5, if_neg h6, if_neg h7, if_neg h8, if_neg h9, if_neg h10, if_neg h11, if_neg h12, if_neg h13, if_neg h14, if_neg h15, if_neg h16, if_neg h17, if_neg h18, if_neg h19, if_neg h20, if_neg h21, if_neg h22, if_neg h23, if_neg h24, if_neg h25, if_neg h26, if_neg h27, if_neg h28, if_neg h29, if_pos h30]
      exact p1_case_30 xs _ hbk
    by_cases h31 : v = 31
    · rw [if_neg h0, if_neg h1, if_neg h2, if_neg h3, if_neg h4, if_neg h5, if_neg h6, if_neg h7, if_neg h8, if_neg h9, if_neg h10, if_neg h11, if_neg h12, if_neg h13, if_neg h14, if_neg h15, if_neg h16, if_neg h17, if_neg h18, if_neg h19, if_neg h20, if_neg h21, if_neg h22, if_neg h23, if_neg h24, if_neg h25, if_neg h26, if_neg h27, if_neg h28, if_neg h29, if_neg h30, if_pos h31]
      exact p1_case_31 xs _ hbk
    by_cases h32 : v = 32
    · rw [if_neg h0, if_neg h1, if_neg h2, if_neg h3, if_neg h4, if_neg h5, if_neg h6, if_neg h7, if_neg h8, if_neg h9, if_neg h10, if_neg h11, if_neg h12, if_neg h13, if_neg h14, if_neg h15, if_neg h16, if_neg h17, if_neg h18, if_neg h19, if_neg h20, if_neg h21, if_neg h22, if_neg h23, if_neg h24, if_neg h25, if_neg h26, if_neg h27, if_neg h28, if_neg h29, if_neg h30, if_neg h31, if_pos h32]
      exact p1_case_32 xs _ hbk
    by_cases h33 : v = 33
    · rw [if_neg h0, if_neg h1, if_neg h2, if_neg h3, if_neg h4, if_neg h5, if_neg h6, if_neg h7, if_neg h8, if_neg h9, if_neg h10, if_neg h11, if_neg h12, if_neg h13, if_neg h14, if_neg h15, if_neg h16, if_neg h17, if_neg h18, if_neg h19, if_neg h20, if_neg h21, if_neg h22, if_neg h23, if_neg h24, if_neg h25, if_neg h26, if_neg h27, if_neg h28, if_neg h29, if_neg h30, if_neg h31, if_neg h32, if_pos h33]
      exact p1_case_33 xs _ hbk
    by_cases h34 : v = 34
    · rw [if_neg h0, if_neg h1, if_neg h2, if_neg h3, if_neg h4, if_neg h5, if_neg h6, if_neg h7, if_neg h8, if_neg h9, if_neg h10, if_neg h11, if_neg h12, if_neg h13, if_neg h14, if_neg h15, if_neg h16, if_neg h17, if_neg h18, if_neg h19, if_neg h20, if_neg h21, if_neg h22, if_neg h23, if_neg h24, if_neg h25, if_neg h26, if_neg h27, if_neg h28, if_neg h29, if_neg h30, if_neg h31, if_neg h32, if_neg h33, if_pos h34]
      exact p1_case_34 xs _ hbk
    by_cases h35 : v = 35
    · rw [if_neg h0, if_neg h1, if_neg h2, if_neg h3, if_neg h4, if_neg h5, if_neg h6, if_neg h7, if_neg h8, if_neg h9, if_neg h10, if_neg h11, if_neg h12, if_neg h13, if_neg h14, if_neg h15, if_neg h16, if_neg h17, if_neg h18, if_neg h19, if_neg h20, if_neg h21, if_neg h22, if_neg h23, if_neg h24, if_neg h25, if_neg h26, if_neg h27, if_neg h28, if_neg h29, if_neg h30, if_neg h31, if_neg h32, if_neg h33, if_neg h34, if_pos h35]
      exact p1_case_35 xs _ hbk
    by_cases h36 : v = 36
    · rw [if_neg h0, if_neg h1, if_neg h2, if_neg h3, if_neg h4, if_neg h5, if_neg h6, if_neg h7, if_neg h8, if_neg h9, if_neg h10, if_neg h11, if_neg h12, if_neg h13, if_neg h14, if_neg h15, if_neg h16, if_neg h17, if_neg h18, if_neg h19, if_neg h20, if_neg h21, if_neg h22, if_neg h23, if_neg h24, if_neg h25, if_neg h26, if_neg h27, if_neg h28, if_neg h29, if_neg h30, if_neg h31, if_neg h32, if_neg h33, if_neg h34, if_neg h35, if_pos h36]
      exact p1_case_36 xs _ hbk
    by_cases h37 : v = 37
    · rw [if_neg h0, if_neg h1, if_neg h2, if_neg h3, if_neg h4, if_neg h5, if_neg h6, if_neg h7, if_neg h8, if_neg h9, if_neg h10, if_neg h11, if_neg h12, if_neg h13, if_neg h14, if_neg h15, if_neg h16, if_neg h17, if_neg h18, if_neg h19, if_neg h20, if_neg h21, if_neg h22, if_neg h23, if_neg h24, if_neg h25, if_neg h26, if_neg h27, if_neg h28, if_neg h29, if_neg h30, if_neg h31, if_neg h32, if_neg h33, if_neg h34, if_neg h35, if_neg h36, if_pos h37]
      exact p1_case_37 xs _ hbk
    rw [if_neg h0, if_neg h1, if_neg h2, if_neg h3, if_neg h4, if_neg h5, if_neg h6, if_neg h7, if_neg h8, if_neg h9, if_neg h10, if_neg h11, if_neg h12, if_neg h13, if_neg h14, if_neg h15, if_neg h16, if_neg h17, if_neg h18, if_neg h19, if_neg h20, if_neg h21, if_neg h22, if_neg h23, if_neg h24, if_neg h25, if_neg h26, if_neg h27, if_neg h28, if_neg h29, if_neg h30, if_neg h31, if_neg h32, if_neg h33, if_neg h34, if_neg h35, if_neg h36, if_neg h37]
    exact ⟨(1, σ0), by rw [nm_mk, hbk], rfl⟩
